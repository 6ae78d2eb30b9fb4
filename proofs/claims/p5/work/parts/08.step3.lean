/-! THE CHECKER, 7: fields and arrays. -/
def ck_idx (q : Nat × Nat) : List (Nat × Nat) → Nat → Option Nat
  | [], _ => none
  | r :: t, n => if r = q then some n else ck_idx q t (n + 1)
theorem ck_idx_some {q : Nat × Nat} : ∀ {L : List (Nat × Nat)} {n j : Nat}, ck_idx q L n = some j → ∃ i, j = n + i ∧ L[i]? = some q
  | [], _, _, h => by cases h
  | r :: t, n, j, h => by
    unfold ck_idx at h
    split at h
    · next e => cases h; exact ⟨0, rfl, by rw [e]; rfl⟩
    · obtain ⟨i, h1, h2⟩ := ck_idx_some h
      exact ⟨i + 1, by omega, h2⟩
theorem ck_idx_none {q : Nat × Nat} : ∀ {L : List (Nat × Nat)} {n : Nat}, ck_idx q L n = none → ∀ i : Nat, L[i]? ≠ some q
  | [], _, _, i => by simp
  | r :: t, n, h, i => by
    unfold ck_idx at h
    split at h
    · cases h
    · next e =>
      match i with
      | 0 => intro z; exact e (Option.some.inj z)
      | i + 1 => exact ck_idx_none h i
def ck_nod (av : ck_AV) : ck_AV := match av with
  | .inl r => .inl (r.1, r.2.1, [])
  | x => x
theorem ck_nod_ok {ty : Nat → Option Nat} {X Y : Nat → Int} {av : ck_AV} {v : Value} (h : ck_v ty X av v) : ck_v ty Y (ck_nod av) v := by
  match av, h with
  | .inl r, h =>
    obtain ⟨x, e, a1, a2, -⟩ := h
    exact ⟨x, e, a1, a2, fun d h => nomatch h⟩
  | .inr (.inl t), h => exact h
  | .inr (.inr u), h => exact h
def ck_fre (pr : List (Nat × Nat)) (a b : Nat) : Bool := pr.all (fun q => decide (b < q.1) || decide (q.2 < a))
theorem ck_fre_ok {pr : List (Nat × Nat)} {a b j : Nat} (h : ck_fre pr a b = true) (h1 : a ≤ j) (h2 : j ≤ b) : ¬ ck_pr pr j := by
  rintro ⟨q, hq, g1, g2⟩
  have := List.all_eq_true.mp h q hq
  simp only [Bool.or_eq_true, decide_eq_true_eq] at this
  omega
def ck_LKf (LK : Nat → Nat → Option ck_En) : Prop := ∀ (o ix ci k cd : Nat), LK o ix = some (.inl (ci, k, cd)) → ∃ r : vw_C, ck_cl[ci]? = some r ∧ k < r.2.2 ∧ Jvm.Cond.fieldLink (ck_R o) ix (r.2.1 k).1 (r.2.1 k).2.1 (r.2.1 k).2.2.1 ∈ wsL_law0 ∧ (cd = 0 → (r.2.1 k).2.2.2 = false ∧ parseFieldDescriptor (r.2.1 k).2.2.1 = some .int) ∧ (cd = 1 → (r.2.1 k).2.2.2 = false ∧ parseFieldDescriptor (r.2.1 k).2.2.1 = some .boolean) ∧ (cd = 2 → (r.2.1 k).2.2.2 = false ∧ parseFieldDescriptor (r.2.1 k).2.2.1 = some .long)
theorem ck_nbool {x : Int32} (h : 0 ≤ x.toInt ∧ x.toInt ≤ 1) : narrow .boolean (.int x) = .int x ∧ fits .boolean (.int x) = true := by
  have : x = 0 ∨ x = 1 := by
    rcases (show x.toInt = 0 ∨ x.toInt = 1 by omega) with h | h
    · exact Or.inl (Int32.toInt_inj.mp h)
    · exact Or.inr (Int32.toInt_inj.mp h)
  rcases this with rfl | rfl <;> decide
/-- no followed place of this sort; none in a range -/
def ck_nfa (pvT : List (Nat × Nat)) (t : Nat) : Bool := pvT.all (fun q => decide (q.1 ≠ t))
theorem ck_nfa_ok {pvT : List (Nat × Nat)} {t : Nat} (h : ck_nfa pvT t = true) : ck_nf pvT t := by
  intro j k hj
  have := List.all_eq_true.mp h _ (List.mem_of_getElem? hj)
  simp at this
def ck_nfr (pvT : List (Nat × Nat)) (t a b : Nat) : Bool := pvT.all (fun q => decide (q.1 ≠ t) || decide (q.2 < a) || decide (b < q.2))
theorem ck_nfr_ok {pvT : List (Nat × Nat)} {t a b k : Nat} (h : ck_nfr pvT t a b = true) (h1 : a ≤ k) (h2 : k ≤ b) (j : Nat) : pvT[j]? ≠ some (t, k) := by
  intro hj
  have := List.all_eq_true.mp h _ (List.mem_of_getElem? hj)
  simp only [Bool.or_eq_true, decide_eq_true_eq] at this
  omega
section CK8
variable {p : Program} {l : Launch} {e : Env} {R : Room} {s : State} {m : MethodId} {args : Array Value} {below : List Frame} {meth : Method} {c : Code} {H H0 : Heap} {locs : List Loc} {Q : State → Prop} {cc : ByteArray} {pc len : Nat} {ls : Array Slot} {st : List Value}
variable {D : va_G} {cys : Nat → ClassId} {ty : Nat → Option Nat} {tg : List ck_TD} {pvT : List (Nat × Nat)} {prot : Nat → List (Nat × Nat)} {Ex : va_W → Prop} {pvv : Nat → Int32} {Ts : List Jvm.Cond} {LK : Nat → Nat → Option ck_En} {o nL : Nat} {X : Nat → Int} {A : ck_AS} {out : List (Nat × ck_AS)} {i : Instr}
/-- may this be written into such a field -/
def ck_wr (cd : Nat) (av ft : ck_AV) : Bool := ck_le (ck_nod av) ft && (match cd, ft with
  | 0, .inl _ => true
  | 1, .inl r => decide (0 ≤ r.1) && decide (r.2.1 ≤ 1)
  | 2, .inr (.inr _) => true
  | _, _ => false)
def ck_g6 (tg : List ck_TD) (pvT : List (Nat × Nat)) (prot : Nat → List (Nat × Nat)) (LK : Nat → Nat → Option ck_En) (o pc : Nat) (i : Instr) (len : Nat) (A : ck_AS) : Option (List (Nat × ck_AS)) := match i, len with
  | .getfield ix, 3 => match A.2.1 with
    | (.inr (.inl t), _) :: S => match LK o ix, tg[t]? with
      | some (.inl (ci, k, _)), some (.inl (ci', fts)) => if ci = ci' then (match fts[k]?, ck_idx (t, k) pvT 0 with
          | some ft, none => some [(pc + 3, (A.1, (ck_nod ft, 0) :: S, A.2.2))]
          | some _, some j => (match A.2.2[j]? with
              | some av => some [(pc + 3, (A.1, (av, 1000 + j) :: S, A.2.2))]
              | none => none)
          | _, _ => none) else none
      | _, _ => none
    | _ => none
  | .putfield ix, 3 => match A.2.1 with
    | (av, _) :: (.inr (.inl t), _) :: S => match LK o ix, tg[t]? with
      | some (.inl (ci, k, cd)), some (.inl (ci', fts)) => if ci = ci' ∧ ck_fre (prot t) k k = true then (match fts[k]? with
          | some ft => if ck_wr cd av ft then (match ck_idx (t, k) pvT 0 with
              | none => some [(pc + 3, (A.1, S, A.2.2))]
              | some j => if decide (cd < 2) && decide (j < A.2.2.length) then some [(pc + 3, (A.1, ck_clr (fun z => z == 1000 + j) S, A.2.2.set j av))] else none) else none
          | none => none) else none
      | _, _ => none
    | _ => none
  | .arraylength, 1 => match A.2.1 with
    | (.inr (.inl t), _) :: S => match tg[t]? with
      | some (.inr (_, n, _, _)) => if n < 2 ^ 31 then some [(pc + 1, (A.1, (.inl ((n : Int), (n : Int), []), 0) :: S, A.2.2))] else none
      | _ => none
    | _ => none
  | .iaload, 1 => match A.2.1 with
    | (.inl x, _) :: (.inr (.inl t), _) :: S => match tg[t]? with
      | some (.inr (0, n, sg, _)) => if decide (0 ≤ x.1) && decide (x.2.1 < n) then (match (if x.1 = x.2.1 then ck_idx (t, x.1.toNat) pvT 0 else none) with
          | some j => (match A.2.2[j]? with
              | some av => some [(pc + 1, (A.1, (av, 1000 + j) :: S, A.2.2))]
              | none => none)
          | none => some [(pc + 1, (A.1, (.inl ((ck_sj sg x.1.toNat x.2.1.toNat).1, (ck_sj sg x.1.toNat x.2.1.toNat).2, []), 0) :: S, A.2.2))]) else none
      | _ => none
    | _ => none
  | .baload, 1 => match A.2.1 with
    | (.inl x, _) :: (.inr (.inl t), _) :: S => match tg[t]? with
      | some (.inr (kd, n, sg, _)) => if decide (kd = 1 ∨ kd = 2) && decide (0 ≤ x.1) && decide (x.2.1 < n) then some [(pc + 1, (A.1, (.inl ((ck_sj sg x.1.toNat x.2.1.toNat).1, (ck_sj sg x.1.toNat x.2.1.toNat).2, []), 0) :: S, A.2.2))] else none
      | _ => none
    | _ => none
  | .laload, 1 => match A.2.1 with
    | (.inl x, _) :: (.inr (.inl t), _) :: S => match tg[t]? with
      | some (.inr (3, n, _, _)) => if decide (0 ≤ x.1) && decide (x.2.1 < n) then some [(pc + 1, (A.1, (.inr (.inr ()), 0) :: S, A.2.2))] else none
      | _ => none
    | _ => none
  | .aaload, 1 => match A.2.1 with
    | (.inl x, _) :: (.inr (.inl t), _) :: S => match tg[t]? with
      | some (.inr (kd, n, _, et)) => if decide (kd = 4 ∨ kd = 5) && decide (0 ≤ x.1) && decide (x.2.1 < n) && decide (kd = 4 ∨ x.1 = x.2.1) then some [(pc + 1, (A.1, (.inr (.inl (ck_et kd et x.1.toNat)), 0) :: S, A.2.2))] else none
      | _ => none
    | _ => none
  | .iastore, 1 => match A.2.1 with
    | (.inl v, _) :: (.inl x, _) :: (.inr (.inl t), _) :: S => match tg[t]? with
      | some (.inr (0, n, sg, _)) => if decide (0 ≤ x.1) && decide (x.2.1 < n) && decide ((ck_sm sg x.1.toNat x.2.1.toNat).1 ≤ v.1) && decide (v.2.1 ≤ (ck_sm sg x.1.toNat x.2.1.toNat).2) && ck_fre (prot t) x.1.toNat x.2.1.toNat then (if ck_nfr pvT t x.1.toNat x.2.1.toNat then some [(pc + 1, (A.1, S, A.2.2))] else (match (if x.1 = x.2.1 then ck_idx (t, x.1.toNat) pvT 0 else none) with
          | some j => if j < A.2.2.length then some [(pc + 1, (A.1, ck_clr (fun z => z == 1000 + j) S, A.2.2.set j (.inl v)))] else none
          | none => none)) else none
      | _ => none
    | _ => none
  | .bastore, 1 => match A.2.1 with
    | (.inl v, _) :: (.inl x, _) :: (.inr (.inl t), _) :: S => match tg[t]? with
      | some (.inr (1, n, [], _)) => if decide (0 ≤ x.1) && decide (x.2.1 < n) && ck_fre (prot t) x.1.toNat x.2.1.toNat && ck_nfa pvT t then some [(pc + 1, (A.1, S, A.2.2))] else none
      | some (.inr (2, n, sg, _)) => if decide (0 ≤ x.1) && decide (x.2.1 < n) && decide (0 ≤ v.1) && decide (v.2.1 ≤ 1) && decide ((ck_sm sg x.1.toNat x.2.1.toNat).1 ≤ v.1) && decide (v.2.1 ≤ (ck_sm sg x.1.toNat x.2.1.toNat).2) && ck_fre (prot t) x.1.toNat x.2.1.toNat && ck_nfa pvT t then some [(pc + 1, (A.1, S, A.2.2))] else none
      | _ => none
    | _ => none
  | .lastore, 1 => match A.2.1 with
    | (.inr (.inr _), _) :: (.inl x, _) :: (.inr (.inl t), _) :: S => match tg[t]? with
      | some (.inr (3, n, _, _)) => if decide (0 ≤ x.1) && decide (x.2.1 < n) && ck_fre (prot t) (2 * x.1.toNat) (2 * x.2.1.toNat + 1) && ck_nfa pvT t then some [(pc + 1, (A.1, S, A.2.2))] else none
      | _ => none
    | _ => none
  | _, _ => none
theorem ck_in_sj {sg : List (Nat × Int × Int)} {x : ck_I} {i y : Int32} (hi : ck_i X x i.toInt) (h0 : 0 ≤ x.1) (h : ck_in sg i.toInt.toNat y) : ck_i X ((ck_sj sg x.1.toNat x.2.1.toNat).1, (ck_sj sg x.1.toNat x.2.1.toNat).2, []) y.toInt := by
  have h1 := hi.1
  have h2 := hi.2.1
  have h3 := ck_sj_ok (a := x.1.toNat) (b := x.2.1.toNat) (j := i.toInt.toNat) (by omega) (by omega) sg
  obtain ⟨g1, g2⟩ := h
  exact ⟨by dsimp only; omega, by dsimp only; omega, fun d h => nomatch h⟩
theorem ck_in_sm {sg : List (Nat × Int × Int)} {x v : ck_I} {i y : Int32} (hi : ck_i X x i.toInt) (hv : ck_i X v y.toInt) (h0 : 0 ≤ x.1) (h1 : (ck_sm sg x.1.toNat x.2.1.toNat).1 ≤ v.1) (h2 : v.2.1 ≤ (ck_sm sg x.1.toNat x.2.1.toNat).2) : ck_in sg i.toInt.toNat y := by
  have g1 := hi.1
  have g2 := hi.2.1
  have g3 := ck_sm_ok (a := x.1.toNat) (b := x.2.1.toNat) (j := i.toInt.toNat) (by omega) (by omega) sg
  have g4 := hv.1
  have g5 := hv.2.1
  exact ⟨by omega, by omega⟩
theorem ck_g6_ok (hLK : ck_LKf LK) (hexec : p.tables.exec = Jvm.exec) (hb : c.code = cc) (hts : ∀ w ∈ Ts, w.before args s = true) (hin : ∀ w ∈ wsL_law0, w ∈ Ts) (hown : s.vm.findClass (ck_R o) = some m.cls) (hK : va_K D ck_cl (ck_tys cys) s) (hX : ck_ExP ty prot Ex) (hU : ck_uq ty pvT) (hN : ∀ (i j : Nat) (q : Nat × Nat), pvT[i]? = some q → pvT[j]? = some q → i = j) (h : ck_g6 tg pvT prot LK o pc i len A = some out) (hdg : decode cc pc = .ok (i, len)) (hsat : ck_sat D cys ty tg pvT Ex nL H0 X A ls st pvv H locs) (hn : ∀ q ∈ out, ∀ (ls' : Array Slot) (st' : List Value) (pvv' : Nat → Int32) (H' : Heap) (locs' : List Loc), ck_sat D cys ty tg pvT Ex nL H0 X q.2 ls' st' pvv' H' locs' → W p l e R s m args below meth c H' locs' 0 0 Q (F0 m q.1 ls' st')) : W p l e R s m args below meth c H locs 0 0 Q (F0 m pc ls st) := by
  obtain ⟨L, S, P⟩ := A
  obtain ⟨lv, h1, h2, h3, h4, h5, h6⟩ := hsat
  unfold ck_g6 at h
  split at h
  · -- getfield
    split at h
    · next t _ S' hS =>
      split at h
      · next ci k cd ci' fts hl ht =>
        split at h
        · next hci =>
          subst hci
          dsimp only at hS
          subst hS
          obtain ⟨r, q1, q2, q3, -⟩ := hLK _ _ _ _ _ hl
          match st, h3 with
          | v :: rest, h3 =>
            obtain ⟨⟨⟨a, rfl, ha⟩, -⟩, g5⟩ := h3
            split at h
            · next ft hft hno =>
              cases h
              refine ck_get hexec hb hts hin hown hK h5 ha ht q1 q2 q3 hft hdg (fun v hv _ => ?_)
              exact hn _ List.mem_cons_self _ _ _ _ _ ⟨lv, h1, h2, ⟨⟨ck_nod_ok hv, ck_src0⟩, g5⟩, h4, h5, h6⟩
            · next ft j hft hj =>
              split at h
              · next av hav =>
                cases h
                obtain ⟨i0, e0, hj⟩ := ck_idx_some hj
                have e0 : j = i0 := by omega
                subst e0
                refine ck_get hexec hb hts hin hown hK h5 ha ht q1 q2 q3 hft hdg (fun v hv hp => ?_)
                rw [hp j hj]
                exact hn _ List.mem_cons_self _ _ _ _ _ ⟨lv, h1, h2, ⟨⟨h4 j av hav, ⟨fun h9 => by omega, fun _ => by rw [Nat.add_sub_cancel_left]⟩⟩, g5⟩, h4, h5, h6⟩
              · cases h
            · cases h
        · cases h
      · cases h
    · cases h
  · -- putfield
    split at h
    · next av _ t _ S' hS =>
      split at h
      · next ci k cd ci' fts hl ht =>
        split at h
        · next hci =>
          obtain ⟨hci, hfr⟩ := hci
          subst hci
          dsimp only at hS
          subst hS
          obtain ⟨r, q1, q2, q3, q4, q5, q6⟩ := hLK _ _ _ _ _ hl
          match st, h3 with
          | v :: w :: rest, h3 =>
            obtain ⟨⟨hv, -⟩, ⟨⟨a, rfl, ha⟩, -⟩, g5⟩ := h3
            split at h
            · next ft hft =>
              split at h
              · next hwr =>
                simp only [ck_wr, Bool.and_eq_true] at hwr
                obtain ⟨w1, w2⟩ := hwr
                have hv0 : ck_v ty (fun _ => 0) ft v := ck_le_ok w1 (ck_nod_ok hv)
                have key : ck_v ty (fun _ => 0) ft v → ∃ fty : FieldType, (r.2.1 k).2.2.2 = false ∧ parseFieldDescriptor (r.2.1 k).2.2.1 = some fty ∧ narrow fty v = v ∧ fits fty v = true := by
                  intro hv1
                  split at w2
                  · obtain ⟨x, rfl, -⟩ := hv1
                    exact ⟨.int, (q4 rfl).1, (q4 rfl).2, rfl, rfl⟩
                  · obtain ⟨x, rfl, b1, b2, -⟩ := hv1
                    simp only [Bool.and_eq_true, decide_eq_true_eq] at w2
                    have := ck_nbool (x := x) ⟨by omega, by omega⟩
                    exact ⟨.boolean, (q5 rfl).1, (q5 rfl).2, this.1, this.2⟩
                  · obtain ⟨x, rfl⟩ := hv1
                    exact ⟨.long, (q6 rfl).1, (q6 rfl).2, rfl, rfl⟩
                  · cases w2
                obtain ⟨fty, f1, f2, f3, f4⟩ := key hv0
                have hnp : ¬ ck_pr (prot t) k := ck_fre_ok hfr (Nat.le_refl _) (Nat.le_refl _)
                split at h
                · next hno =>
                  cases h
                  have hno := ck_idx_none hno
                  refine ck_put hexec hb hts hin hown hK hX hU h5 h6 ha ht q1 q2 q3 f1 hft hv0 hnp f2 f3 f4 (fun ⟨j, hj⟩ => absurd hj (hno j)) hdg (fun H1 locs1 pvv' e1 e2 e3 e4 => ?_)
                  have e5 : pvv' = pvv := funext (fun j => e4 j (hno j))
                  subst e5
                  exact hn _ List.mem_cons_self _ _ _ _ _ ⟨lv, h1, h2, g5, h4, e1, e2⟩
                · next j hj =>
                  split at h
                  · next hcd =>
                    cases h
                    simp only [Bool.and_eq_true, decide_eq_true_eq] at hcd
                    obtain ⟨i0, e0, hj⟩ := ck_idx_some hj
                    have e0 : j = i0 := by omega
                    subst e0
                    have hint : ∃ x, v = .int x := by
                      split at w2
                      · obtain ⟨x, rfl, -⟩ := hv0; exact ⟨x, rfl⟩
                      · obtain ⟨x, rfl, -⟩ := hv0; exact ⟨x, rfl⟩
                      · omega
                      · cases w2
                    refine ck_put hexec hb hts hin hown hK hX hU h5 h6 ha ht q1 q2 q3 f1 hft hv0 hnp f2 f3 f4 (fun _ => hint) hdg (fun H1 locs1 pvv' e1 e2 e3 e4 => ?_)
                    have e5 : ∀ j' : Nat, j' ≠ j → pvv' j' = pvv j' := fun j' hne => e4 j' (fun z => hne (hN j' j _ z hj))
                    have e6 := e3 j hj
                    subst e6
                    refine hn _ List.mem_cons_self _ _ _ _ _ ⟨lv, h1, h2, ck_clr_ok (f := fun z => z == 1000 + j) (lv := lv) (pvv := pvv) (fun src w hf hs => ⟨hs.1, fun h9 => ?_⟩) g5, fun j' av' hj' => ?_, e1, e2⟩
                    · simp only [beq_eq_false_iff_ne] at hf
                      rw [hs.2 h9, e5 (src - 1000) (by omega)]
                    · by_cases ej : j = j'
                      · subst ej
                        dsimp only at hj'
                        rw [List.getElem?_set_self hcd.2] at hj'
                        cases hj'
                        exact hv
                      · dsimp only at hj'
                        rw [List.getElem?_set_ne ej] at hj'
                        rw [e5 j' (fun z => ej z.symm)]
                        exact h4 j' av' hj'
                  · cases h
              · cases h
            · cases h
        · cases h
      · cases h
    · cases h
  · -- arraylength
    split at h
    · next t _ S' hS =>
      split at h
      · next kd n sg et ht =>
        split at h
        · next hlt =>
          cases h
          dsimp only at hS
          subst hS
          match st, h3 with
          | v :: rest, h3 =>
            obtain ⟨⟨⟨a, rfl, ha⟩, -⟩, g5⟩ := h3
            refine ck_alen hexec hb hK h5 ha ht hlt hdg (fun x hx => ?_)
            exact hn _ List.mem_cons_self _ _ _ _ _ ⟨lv, h1, h2, ⟨⟨⟨x, rfl, ck_ci hx⟩, ck_src0⟩, g5⟩, h4, h5, h6⟩
        · cases h
      · cases h
    · cases h
  · -- iaload
    split at h
    · next x _ t _ S' hS =>
      split at h
      · next n sg et ht =>
        split at h
        · next hc =>
          simp only [Bool.and_eq_true, decide_eq_true_eq] at hc
          dsimp only at hS
          subst hS
          match st, h3 with
          | v :: w :: rest, h3 =>
            obtain ⟨⟨⟨i, rfl, gi⟩, -⟩, ⟨⟨a, rfl, ha⟩, -⟩, g5⟩ := h3
            have b1 := gi.1
            have b2 := gi.2.1
            split at h
            · next j hj =>
              split at h
              · next av hav =>
                cases h
                split at hj
                · next e0 =>
                  obtain ⟨i0, e1, hj⟩ := ck_idx_some hj
                  have e1 : j = i0 := by omega
                  subst e1
                  have e2 : i.toInt.toNat = x.1.toNat := by omega
                  refine ck_iald hexec hb hK h5 ha ht (by omega) (by omega) hdg (fun y hy hp => ?_)
                  rw [hp j (by rw [e2]; exact hj)]
                  exact hn _ List.mem_cons_self _ _ _ _ _ ⟨lv, h1, h2, ⟨⟨h4 j av hav, ⟨fun h9 => by omega, fun _ => by rw [Nat.add_sub_cancel_left]⟩⟩, g5⟩, h4, h5, h6⟩
                · cases hj
              · cases h
            · cases h
              refine ck_iald hexec hb hK h5 ha ht (by omega) (by omega) hdg (fun y hy _ => ?_)
              exact hn _ List.mem_cons_self _ _ _ _ _ ⟨lv, h1, h2, ⟨⟨⟨y, rfl, ck_in_sj gi hc.1 hy⟩, ck_src0⟩, g5⟩, h4, h5, h6⟩
        · cases h
      · cases h
    · cases h
  · -- baload
    split at h
    · next x _ t _ S' hS =>
      split at h
      · next kd n sg et ht =>
        split at h
        · next hc =>
          cases h
          simp only [Bool.and_eq_true, decide_eq_true_eq] at hc
          dsimp only at hS
          subst hS
          match st, h3 with
          | v :: w :: rest, h3 =>
            obtain ⟨⟨⟨i, rfl, gi⟩, -⟩, ⟨⟨a, rfl, ha⟩, -⟩, g5⟩ := h3
            have b1 := gi.1
            have b2 := gi.2.1
            refine ck_bald hexec hb hK h5 ha ht hc.1.1 (by omega) (by omega) hdg (fun y hy => ?_)
            exact hn _ List.mem_cons_self _ _ _ _ _ ⟨lv, h1, h2, ⟨⟨⟨y, rfl, ck_in_sj gi hc.1.2 hy⟩, ck_src0⟩, g5⟩, h4, h5, h6⟩
        · cases h
      · cases h
    · cases h
  · -- laload
    split at h
    · next x _ t _ S' hS =>
      split at h
      · next n sg et ht =>
        split at h
        · next hc =>
          cases h
          simp only [Bool.and_eq_true, decide_eq_true_eq] at hc
          dsimp only at hS
          subst hS
          match st, h3 with
          | v :: w :: rest, h3 =>
            obtain ⟨⟨⟨i, rfl, gi⟩, -⟩, ⟨⟨a, rfl, ha⟩, -⟩, g5⟩ := h3
            have b1 := gi.1
            have b2 := gi.2.1
            refine ck_lald hexec hb hK h5 ha ht (by omega) (by omega) hdg (fun y => ?_)
            exact hn _ List.mem_cons_self _ _ _ _ _ ⟨lv, h1, h2, ⟨⟨⟨y, rfl⟩, ck_src0⟩, g5⟩, h4, h5, h6⟩
        · cases h
      · cases h
    · cases h
  · -- aaload
    split at h
    · next x _ t _ S' hS =>
      split at h
      · next kd n sg et ht =>
        split at h
        · next hc =>
          cases h
          simp only [Bool.and_eq_true, decide_eq_true_eq] at hc
          dsimp only at hS
          subst hS
          match st, h3 with
          | v :: w :: rest, h3 =>
            obtain ⟨⟨⟨i, rfl, gi⟩, -⟩, ⟨⟨a, rfl, ha⟩, -⟩, g5⟩ := h3
            have b1 := gi.1
            have b2 := gi.2.1
            refine ck_aald hexec hb hK h5 ha ht hc.1.1.1 (by omega) (by omega) hdg (fun y hy => ?_)
            have e9 : ck_et kd et i.toInt.toNat = ck_et kd et x.1.toNat := by
              rcases hc.2 with h | h
              · unfold ck_et
                rw [if_neg (by omega), if_neg (by omega)]
              · rw [show i.toInt = x.1 by omega]
            rw [e9] at hy
            exact hn _ List.mem_cons_self _ _ _ _ _ ⟨lv, h1, h2, ⟨⟨⟨y, rfl, hy⟩, ck_src0⟩, g5⟩, h4, h5, h6⟩
        · cases h
      · cases h
    · cases h
  · -- iastore
    split at h
    · next v0 _ x _ t _ S' hS =>
      split at h
      · next n sg et ht =>
        split at h
        · next hc =>
          simp only [Bool.and_eq_true, decide_eq_true_eq] at hc
          dsimp only at hS
          subst hS
          match st, h3 with
          | v :: w :: z :: rest, h3 =>
            obtain ⟨⟨⟨y, rfl, gy⟩, -⟩, ⟨⟨i, rfl, gi⟩, -⟩, ⟨⟨a, rfl, ha⟩, -⟩, g5⟩ := h3
            have b1 := gi.1
            have b2 := gi.2.1
            refine ck_iast hexec hb hK hX hU h5 h6 ha ht (by omega) (by omega) (ck_in_sm gi gy hc.1.1.1.1 hc.1.1.2 hc.1.2) (ck_fre_ok hc.2 (by omega) (by omega)) hdg (fun H1 locs1 pvv' e1 e2 e3 e4 => ?_)
            split at h
            · next hfr =>
              cases h
              have e5 : pvv' = pvv := funext (fun j => e4 j (ck_nfr_ok hfr (by omega) (by omega) j))
              subst e5
              exact hn _ List.mem_cons_self _ _ _ _ _ ⟨lv, h1, h2, g5, h4, e1, e2⟩
            · split at h
              · next j hj =>
                split at h
                · next hlt =>
                  cases h
                  split at hj
                  · next e0 =>
                    obtain ⟨i0, f1, hj⟩ := ck_idx_some hj
                    have f1 : j = i0 := by omega
                    subst f1
                    have f2 : i.toInt.toNat = x.1.toNat := by omega
                    rw [f2] at e3 e4
                    have e5 : ∀ j' : Nat, j' ≠ j → pvv' j' = pvv j' := fun j' hne => e4 j' (fun z => hne (hN j' j _ z hj))
                    have e6 := e3 j hj
                    refine hn _ List.mem_cons_self _ _ _ _ _ ⟨lv, h1, h2, ck_clr_ok (f := fun z => z == 1000 + j) (lv := lv) (pvv := pvv) (fun src w hf hs => ⟨hs.1, fun h9 => ?_⟩) g5, fun j' av' hj' => ?_, e1, e2⟩
                    · simp only [beq_eq_false_iff_ne] at hf
                      rw [hs.2 h9, e5 (src - 1000) (by omega)]
                    · by_cases ej : j = j'
                      · subst ej
                        dsimp only at hj'
                        rw [List.getElem?_set_self hlt] at hj'
                        cases hj'
                        rw [e6]
                        exact ⟨y, rfl, gy⟩
                      · dsimp only at hj'
                        rw [List.getElem?_set_ne ej] at hj'
                        rw [e5 j' (fun z => ej z.symm)]
                        exact h4 j' av' hj'
                  · cases hj
                · cases h
              · cases h
        · cases h
      · cases h
    · cases h
  · -- bastore
    split at h
    · next v0 _ x _ t _ S' hS =>
      split at h
      · next n et ht =>
        split at h
        · next hc =>
          cases h
          simp only [Bool.and_eq_true, decide_eq_true_eq] at hc
          dsimp only at hS
          subst hS
          match st, h3 with
          | v :: w :: z :: rest, h3 =>
            obtain ⟨⟨⟨y, rfl, gy⟩, -⟩, ⟨⟨i, rfl, gi⟩, -⟩, ⟨⟨a, rfl, ha⟩, -⟩, g5⟩ := h3
            have b1 := gi.1
            have b2 := gi.2.1
            refine ck_bast hexec hb hK hX hU h5 h6 (ck_nfa_ok hc.2) ha ht (by omega) (by omega) (ck_fre_ok hc.1.2 (by omega) (by omega)) hdg (fun H1 locs1 e1 e2 => ?_)
            exact hn _ List.mem_cons_self _ _ _ _ _ ⟨lv, h1, h2, g5, h4, e1, e2⟩
        · cases h
      · next n sg et ht =>
        split at h
        · next hc =>
          cases h
          simp only [Bool.and_eq_true, decide_eq_true_eq] at hc
          dsimp only at hS
          subst hS
          match st, h3 with
          | v :: w :: z :: rest, h3 =>
            obtain ⟨⟨⟨y, rfl, gy⟩, -⟩, ⟨⟨i, rfl, gi⟩, -⟩, ⟨⟨a, rfl, ha⟩, -⟩, g5⟩ := h3
            have b1 := gi.1
            have b2 := gi.2.1
            have b3 := gy.1
            have b4 := gy.2.1
            refine ck_zast hexec hb hK hX hU h5 h6 (ck_nfa_ok hc.2) ha ht (by omega) (by omega) (ck_in_sm gi gy hc.1.1.1.1.1.1.1 hc.1.1.1.2 hc.1.1.2) ⟨by omega, by omega⟩ (ck_fre_ok hc.1.2 (by omega) (by omega)) hdg (fun H1 locs1 e1 e2 => ?_)
            exact hn _ List.mem_cons_self _ _ _ _ _ ⟨lv, h1, h2, g5, h4, e1, e2⟩
        · cases h
      · cases h
    · cases h
  · -- lastore
    split at h
    · next _ _ x _ t _ S' hS =>
      split at h
      · next n sg et ht =>
        split at h
        · next hc =>
          cases h
          simp only [Bool.and_eq_true, decide_eq_true_eq] at hc
          dsimp only at hS
          subst hS
          match st, h3 with
          | v :: w :: z :: rest, h3 =>
            obtain ⟨⟨⟨y, rfl⟩, -⟩, ⟨⟨i, rfl, gi⟩, -⟩, ⟨⟨a, rfl, ha⟩, -⟩, g5⟩ := h3
            have b1 := gi.1
            have b2 := gi.2.1
            refine ck_last hexec hb hK hX h5 h6 (ck_nfa_ok hc.2) ha ht (by omega) (by omega) (fun j hj hne => ck_fre_ok hc.1.2 (by omega) (by omega) hj) hdg (fun H1 locs1 e1 e2 => ?_)
            exact hn _ List.mem_cons_self _ _ _ _ _ ⟨lv, h1, h2, g5, h4, e1, e2⟩
        · cases h
      · cases h
    · cases h
  · cases h
end CK8
