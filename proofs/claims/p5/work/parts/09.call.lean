/-! THE CHECKER, 8: calls. -/
theorem ck_good : ∀ w ∈ wsL_law0, (w.onTables && w.keeps) = true ∨ ∃ ty, w = .arrayClass ty := by
  have h : wsL_law0.all goodWord = true := by decide +kernel
  exact fun w hw => good_of_word (List.all_eq_true.mp h w hw)
theorem ck_nest_warm {s U : State} (hW : s.WarmedH U.vm) (h : ∀ w ∈ ck_nest, va_Nw w s) : ∀ w ∈ ck_nest, va_Nw w U := by
  intro w hw
  have h1 := h w hw
  simp only [ck_nest, List.mem_cons, List.not_mem_nil, or_false] at hw
  rcases hw with rfl | rfl | rfl | rfl | rfl | rfl <;> exact va_Nw.warmM hW h1
theorem ck_nest_tab : ∀ w ∈ ck_nest, w.onTables = true := by
  intro w hw
  simp only [ck_nest, List.mem_cons, List.not_mem_nil, or_false] at hw
  rcases hw with rfl | rfl | rfl | rfl | rfl | rfl <;> rfl
def ck_mOK (tg : List ck_TD) (o ix kd : Nat) (k : ck_K) : Prop := Jvm.Cond.code (k_y k) (k_cc k) (k_ml k) (k_rt k) ∈ wsL_law0 ∧ Jvm.Cond.initialized (k_y k).cls ∈ wsL_law0 ∧ ((k_y k).cls ≠ "java/lang/invoke/MethodHandle" ∧ (k_y k).cls ≠ "java/lang/invoke/VarHandle") ∧
  (kd = 0 → Jvm.Cond.methodLink (ck_R o) ix (k_y k) ∈ wsL_law0 ∧ Jvm.Cond.instanceMethod (k_y k) ∈ wsL_law0 ∧ Jvm.Cond.selects (k_y k).cls (k_y k) (k_y k) ∈ wsL_law0 ∧ ∃ (t ci : Nat) (fts : List ck_AV) (r : vw_C) (pa : List ck_AV), k_pa k = .inr (.inl t) :: pa ∧ tg[t]? = some (.inl (ci, fts)) ∧ ck_cl[ci]? = some r ∧ r.1 = (k_y k).cls ∧ (parseMethodDescriptor (k_y k).desc).map (fun d => d.parameters.length) = some pa.length) ∧
  (kd = 1 → Jvm.Cond.methodLink (ck_R o) ix (k_y k) ∈ wsL_law0 ∧ Jvm.Cond.static (k_y k) ∈ wsL_law0 ∧ (parseMethodDescriptor (k_y k).desc).map (fun d => d.parameters.length) = some (k_pa k).length) ∧
  (kd = 2 → Jvm.Cond.methodLinkNest (ck_R o) ix (k_y k) RX11 ∈ ck_nest ∧ Jvm.Cond.static (k_y k) ∈ wsL_law0 ∧ (parseMethodDescriptor (k_y k).desc).map (fun d => d.parameters.length) = some (k_pa k).length)
def ck_LKm (tg : List ck_TD) (LK : Nat → Nat → Option ck_En) (tab : Nat → ck_K) : Prop := (∀ (o ix kd : Nat) (js : List Nat), LK o ix = some (.inr (.inr (.inr (.inl (kd, js))))) → ∀ j ∈ js, ck_mOK tg o ix kd (tab j)) ∧ (∀ (o ix : Nat) (u : Unit), LK o ix = some (.inr (.inr (.inr (.inr u)))) → Jvm.Cond.methodLink (ck_R o) ix arraycopyName ∈ wsL_law0)
def ck_popA : List (ck_AV × Nat) → List ck_AV → Option (List (ck_AV × Nat))
  | S, [] => some S
  | q :: S, av :: ps => if ck_le (ck_nod q.1) av then ck_popA S ps else none
  | [], _ :: _ => none
theorem ck_args_app {ty : Nat → Option Nat} {c : List ck_AV} {d : List Value} (h2 : ck_args ty c d) : ∀ {a : List ck_AV} {b : List Value}, ck_args ty a b → ck_args ty (a ++ c) (b ++ d)
  | [], [], _ => h2
  | _ :: _, _ :: _, h => ⟨h.1, ck_args_app h2 h.2⟩
theorem ck_args_len {ty : Nat → Option Nat} : ∀ {a : List ck_AV} {b : List Value}, ck_args ty a b → b.length = a.length
  | [], [], _ => rfl
  | _ :: _, _ :: _, h => by rw [List.length_cons, List.length_cons, ck_args_len h.2]
theorem ck_popA_ok {ty : Nat → Option Nat} {X : Nat → Int} {lv : List (Nat × Value)} {pvv : Nat → Int32} : ∀ {ps : List ck_AV} {S S' : List (ck_AV × Nat)} {st : List Value}, ck_popA S ps = some S' → ck_st ty X lv pvv S st → ∃ vs rest, st = vs ++ rest ∧ ck_args ty ps.reverse vs.reverse ∧ ck_st ty X lv pvv S' rest
  | [], S, S', st, h, hs => by
    have e : S = S' := by cases S <;> exact Option.some.inj h
    subst e
    exact ⟨[], st, rfl, True.intro, hs⟩
  | av :: ps, [], S', st, h, hs => by cases h
  | av :: ps, q :: S, S', [], h, hs => hs.elim
  | av :: ps, q :: S, S', v :: st, h, hs => by
    unfold ck_popA at h
    split at h
    · next hc =>
      obtain ⟨vs, rest, e1, e2, e3⟩ := ck_popA_ok h hs.2
      refine ⟨v :: vs, rest, by rw [e1]; rfl, ?_, e3⟩
      rw [List.reverse_cons, List.reverse_cons]
      have e4 : ck_args ty [av] [v] := ⟨ck_le_ok hc (ck_nod_ok hs.1.1), True.intro⟩
      exact ck_args_app e4 e2
    · cases h
theorem ck_st_at {ty : Nat → Option Nat} {X : Nat → Int} {lv : List (Nat × Value)} {pvv : Nat → Int32} : ∀ {S : List (ck_AV × Nat)} {st : List Value} {k : Nat} {q : ck_AV × Nat}, ck_st ty X lv pvv S st → S[k]? = some q → ∃ v, st[k]? = some v ∧ ck_v ty X q.1 v ∧ ck_src lv pvv q.2 v
  | [], _, k, q, _, h => by simp at h
  | a :: S, [], k, q, hs, _ => hs.elim
  | a :: S, v :: st, 0, q, hs, h => by cases h; exact ⟨v, rfl, hs.1.1, hs.1.2⟩
  | a :: S, v :: st, k + 1, q, hs, h => ck_st_at (k := k) hs.2 h
theorem ck_st_sum {ty : Nat → Option Nat} {X : Nat → Int} {lv : List (Nat × Value)} {pvv : Nat → Int32} : ∀ {S : List (ck_AV × Nat)} {st : List Value}, ck_st ty X lv pvv S st → (st.map fun v => v.category).sum = (S.map fun q => ck_cat q.1).sum
  | [], [], _ => rfl
  | q :: S, v :: st, h => by rw [List.map_cons, List.map_cons, List.sum_cons, List.sum_cons, ck_v_cat h.1.1, ck_st_sum h.2]
/-- a bound on a followed field ahead of a call: against what another holds there now -/
def ck_dlP (P : List ck_AV) (r : ck_I) (d : Nat × Int × Int) : Bool := decide (d.1 % 2 = 0) && decide (2000 ≤ d.1) && (match P[d.1 / 2 - 1000]? with
  | some (.inl z) => (decide (d.2.1 ≤ r.1 - z.2.1) || r.2.2.any (fun q => z.2.2.any (fun g => q.1 == g.1 && decide (d.2.1 ≤ q.2.1 - g.2.2)))) && (decide (r.2.1 - z.1 ≤ d.2.2) || r.2.2.any (fun q => z.2.2.any (fun g => q.1 == g.1 && decide (q.2.2 - g.2.1 ≤ d.2.2))))
  | _ => false)
def ck_lePr (P : List ck_AV) (a b : ck_AV) : Bool := match a, b with
  | .inl r, .inl q => decide (q.1 ≤ r.1) && decide (r.2.1 ≤ q.2.1) && q.2.2.all (ck_dlP P r)
  | _, _ => false
theorem ck_lePr_ok {ty : Nat → Option Nat} {X : Nat → Int} {P : List ck_AV} {pvv : Nat → Int32} (hP : ck_pvo ty X P pvv) {a b : ck_AV} {v : Value} (h : ck_lePr P a b = true) (hv : ck_v ty X a v) : ck_v ty (ck_XE pvv) b v := by
  match a, b, h, hv with
  | .inl r, .inl q, h, hv =>
    obtain ⟨x, rfl, h1, h2, h3⟩ := hv
    simp only [ck_lePr, Bool.and_eq_true, decide_eq_true_eq, List.all_eq_true] at h
    refine ⟨x, rfl, by omega, by omega, fun d hd => ?_⟩
    have h4 := h.2 d hd
    unfold ck_dlP at h4
    simp only [Bool.and_eq_true, decide_eq_true_eq] at h4
    obtain ⟨⟨e1, e2⟩, h4⟩ := h4
    split at h4
    · next z hz =>
      obtain ⟨y, ey, z1, z2, z3⟩ := hP _ _ hz
      cases ey
      simp only [Bool.and_eq_true, Bool.or_eq_true, decide_eq_true_eq, List.any_eq_true, beq_iff_eq] at h4
      obtain ⟨c1, c2⟩ := h4
      unfold ck_XE
      refine ⟨?_, ?_⟩
      · rcases c1 with c1 | ⟨q1, m1, g1, m2, e1, c1⟩
        · omega
        · have k1 := h3 q1 m1
          have k2 := z3 g1 m2
          rw [e1] at k1
          omega
      · rcases c2 with c2 | ⟨q1, m1, g1, m2, e1, c2⟩
        · omega
        · have k1 := h3 q1 m1
          have k2 := z3 g1 m2
          rw [e1] at k1
          omega
    · cases h4
def ck_pre2 (Q : List ck_AV) : List ck_AV → List ck_AV → Bool
  | _, [] => true
  | a :: P, b :: pr => ck_lePr Q a b && ck_pre2 Q P pr
  | [], _ :: _ => false
theorem ck_pre2_ok {ty : Nat → Option Nat} {X : Nat → Int} {Q : List ck_AV} {pvv : Nat → Int32} (hQ : ck_pvo ty X Q pvv) : ∀ {P pr : List ck_AV} {f : Nat → Int32}, ck_pre2 Q P pr = true → ck_pvo ty X P f → ck_pvo ty (ck_XE pvv) pr f
  | _, [], f, _, _ => fun j av h => by simp at h
  | a :: P, b :: pr, f, h, hp => by
    simp only [ck_pre2, Bool.and_eq_true] at h
    intro j av hj
    match j, hj with
    | 0, hj => cases hj; exact ck_lePr_ok hQ h.1 (hp 0 a rfl)
    | j + 1, hj => exact ck_pre2_ok hQ (f := fun j => f (j + 1)) h.2 (fun i bv hi => hp (i + 1) bv hi) j av hj
  | [], _ :: _, f, h, _ => by cases h
def ck_rfs (S : List (ck_AV × Nat)) (n : Nat) : List (Nat × Int × Int) → List (Nat × ck_AV) × List ck_AV → Option (List (Nat × ck_AV) × List ck_AV)
  | [], L => some L
  | q :: qs, L => match S[n - 1 - q.1]? with
    | some (.inl r, src) => if decide (max r.1 q.2.1 ≤ min r.2.1 q.2.2) then ck_rfs S n qs (ck_redLP (max r.1 q.2.1) (min r.2.1 q.2.2) r.2.2 (if src < 1000 then ck_refL L.1 src q.2.1 q.2.2 [] else L.1, L.2)) else none
    | _ => ck_rfs S n qs L
theorem ck_rfs_ok {ty : Nat → Option Nat} {X : Nat → Int} {lv : List (Nat × Value)} {pvv pvv' : Nat → Int32} {S : List (ck_AV × Nat)} {st vs rest : List Value} (hs : ck_st ty X lv pvv S st) (e : st = vs ++ rest) : ∀ {qs : List (Nat × Int × Int)} {L : List (Nat × ck_AV) × List ck_AV}, ck_L ty X L.1 lv → ck_pvo ty X L.2 pvv' → (∀ q ∈ qs, ∃ x : Int32, vs.reverse[q.1]? = some (.int x) ∧ q.2.1 ≤ x.toInt ∧ x.toInt ≤ q.2.2) → ∃ L', ck_rfs S vs.length qs L = some L' ∧ ck_L ty X L'.1 lv ∧ ck_pvo ty X L'.2 pvv'
  | [], L, hL, hP, _ => ⟨L, rfl, hL, hP⟩
  | q :: qs, L, hL, hP, h => by
    have hr : ∀ z ∈ qs, ∃ x : Int32, vs.reverse[z.1]? = some (.int x) ∧ z.2.1 ≤ x.toInt ∧ x.toInt ≤ z.2.2 := fun z hz => h z (List.mem_cons_of_mem _ hz)
    obtain ⟨x, h1, h2, h3⟩ := h q List.mem_cons_self
    unfold ck_rfs
    split
    · next r src hS =>
      obtain ⟨v, g1, ⟨y, rfl, gy⟩, g3⟩ := ck_st_at hs hS
      have hlt : q.1 < vs.reverse.length := (List.getElem?_eq_some_iff.mp h1).1
      rw [List.length_reverse] at hlt
      rw [List.getElem?_reverse hlt] at h1
      rw [e, List.getElem?_append_left (by omega), h1] at g1
      cases g1
      have b1 := gy.1
      have b2 := gy.2.1
      rw [if_pos (by simp only [decide_eq_true_eq]; omega)]
      have hL' : ck_L ty X (if src < 1000 then ck_refL L.1 src q.2.1 q.2.2 [] else L.1) lv := by
        split
        · next h9 => exact ck_refL_ok (ds := []) h2 h3 (fun d h => nomatch h) hL (g3.1 h9)
        · exact hL
      obtain ⟨k1, k2⟩ := ck_redLP_ok (lv := lv) (pvv := pvv') (lo := max r.1 q.2.1) (hi := min r.2.1 q.2.2) (n := x.toInt) (by omega) (by omega) (q := (if src < 1000 then ck_refL L.1 src q.2.1 q.2.2 [] else L.1, L.2)) gy.2.2 hL' hP
      exact ck_rfs_ok hs e k1 k2 hr
    · exact ck_rfs_ok hs e hL hP hr
def ck_pvp1 (P : List ck_AV) : List (Nat × Int × Int) → ck_I → ck_I
  | [], r => r
  | d :: ds, r => match P[d.1 / 2 - 1000]? with
    | some (.inl q) => ck_pvp1 P ds (max r.1 (q.1 + d.2.1), min r.2.1 (q.2.1 + d.2.2), r.2.2 ++ ck_sh d.2.1 d.2.2 q.2.2)
    | _ => ck_pvp1 P ds r
def ck_pvp (P : List ck_AV) (av : ck_AV) : ck_AV := match av with
  | .inl r => .inl (ck_pvp1 P r.2.2 (r.1, r.2.1, []))
  | x => x
theorem ck_pvp1_ok {ty : Nat → Option Nat} {X : Nat → Int} {P : List ck_AV} {pvv : Nat → Int32} (hP : ck_pvo ty X P pvv) {n : Int} : ∀ {ds : List (Nat × Int × Int)} {r : ck_I}, ck_i X r n → ck_d (ck_XE pvv) n ds → ck_i X (ck_pvp1 P ds r) n
  | [], r, hr, _ => hr
  | d :: ds, r, hr, hd => by
    have hd' : ck_d (ck_XE pvv) n ds := fun z hz => hd z (List.mem_cons_of_mem _ hz)
    unfold ck_pvp1
    split
    · next q hq =>
      obtain ⟨x, e, g1, g2, g3⟩ := hP _ _ hq
      cases e
      have h0 := hd d List.mem_cons_self
      simp only [ck_XE] at h0
      obtain ⟨r1, r2, r3⟩ := hr
      refine ck_pvp1_ok hP ⟨by dsimp only; omega, by dsimp only; omega, ck_d_app r3 ?_⟩ hd'
      have h1 := ck_sh_ok (k := n - (pvv (d.1 / 2 - 1000)).toInt) g3 h0.1 h0.2
      have e1 : (pvv (d.1 / 2 - 1000)).toInt + (n - (pvv (d.1 / 2 - 1000)).toInt) = n := by omega
      rw [e1] at h1
      exact h1
    · exact ck_pvp1_ok hP hr hd'
theorem ck_pvp_ok {ty : Nat → Option Nat} {X : Nat → Int} {P : List ck_AV} {pvv : Nat → Int32} (hP : ck_pvo ty X P pvv) {av : ck_AV} {v : Value} (h : ck_v ty (ck_XE pvv) av v) : ck_v ty X (ck_pvp P av) v := by
  match av, h with
  | .inl r, h =>
    obtain ⟨x, e, a1, a2, a3⟩ := h
    exact ⟨x, e, ck_pvp1_ok hP ⟨a1, a2, fun d h => nomatch h⟩ a3⟩
  | .inr (.inl t), h => exact h
  | .inr (.inr u), h => exact h
/-- behind a call: one state for each way to end -/
def ck_emp (av : ck_AV) : Bool := match av with
  | .inl r => decide (r.2.1 < r.1)
  | _ => false
theorem ck_emp_ok {ty : Nat → Option Nat} {X : Nat → Int} {P : List ck_AV} {pvv : Nat → Int32} (h : ck_pvo ty X P pvv) : P.any ck_emp = false := by
  rw [List.any_eq_false]
  intro av hav he
  obtain ⟨j, hj⟩ := List.getElem?_of_mem hav
  have h1 := h j av hj
  match av, h1, he with
  | .inl r, h1, he =>
    obtain ⟨x, -, a1, a2, -⟩ := h1
    have := of_decide_eq_true he
    omega
def ck_cal (S S' : List (ck_AV × Nat)) (L : List (Nat × ck_AV)) (P : List ck_AV) (n pc : Nat) : List ck_Case → List (Nat × ck_AS)
  | [] => []
  | cs :: r => match ck_rfs S n cs.2.1 (L, cs.2.2.map (ck_pvp P)) with
    | none => ck_cal S S' L P n pc r
    | some L' => if L'.2.any ck_emp then ck_cal S S' L P n pc r else (pc + 3, (L'.1, (match cs.1 with
        | none => ck_clr (fun z => decide (1000 ≤ z)) S'
        | some av => (ck_nod av, 0) :: ck_clr (fun z => decide (1000 ≤ z)) S'), L'.2)) :: ck_cal S S' L P n pc r
theorem ck_cal_in {S S' : List (ck_AV × Nat)} {L : List (Nat × ck_AV)} {L' : List (Nat × ck_AV) × List ck_AV} {P : List ck_AV} {n pc : Nat} {cs : ck_Case} (hr : ck_rfs S n cs.2.1 (L, cs.2.2.map (ck_pvp P)) = some L') (he : L'.2.any ck_emp = false) : ∀ {css : List ck_Case}, cs ∈ css → (pc + 3, (L'.1, (match cs.1 with
        | none => ck_clr (fun z => decide (1000 ≤ z)) S'
        | some av => (ck_nod av, 0) :: ck_clr (fun z => decide (1000 ≤ z)) S'), L'.2)) ∈ ck_cal S S' L P n pc css
  | [], h => by cases h
  | c0 :: r, h => by
    unfold ck_cal
    rcases List.mem_cons.mp h with h | h
    · subst h
      rw [hr]
      simp only [he, Bool.false_eq_true, if_false]
      exact List.mem_cons_self
    · split
      · exact ck_cal_in hr he h
      · split
        · exact ck_cal_in hr he h
        · exact List.mem_cons_of_mem _ (ck_cal_in hr he h)
def ck_try (tab : Nat → ck_K) (bd : Nat) (k : ck_K) (pc : Nat) (A : ck_AS) : List Nat → Option (List (Nat × ck_AS))
  | [] => none
  | j :: js => match (if decide (j < bd) && decide (k_fr (tab j) + 1 ≤ k_fr k) && decide (8 + (k_ml (tab j) + 11) + k_lo (tab j) ≤ k_lo k) && ck_pre2 A.2.2 A.2.2 (k_pr (tab j)) then ck_popA A.2.1 (k_pa (tab j)).reverse else none) with
    | some S' => if decide ((S'.map fun q => ck_cat q.1).sum ≤ 8) then some (ck_cal A.2.1 S' A.1 A.2.2 (k_pa (tab j)).length pc (k_cs (tab j))) else none
    | none => ck_try tab bd k pc A js
theorem ck_try_ok {tab : Nat → ck_K} {bd : Nat} {k : ck_K} {pc : Nat} {A : ck_AS} {out : List (Nat × ck_AS)} : ∀ {js : List Nat}, ck_try tab bd k pc A js = some out → ∃ j ∈ js, ∃ S', j < bd ∧ k_fr (tab j) + 1 ≤ k_fr k ∧ 8 + (k_ml (tab j) + 11) + k_lo (tab j) ≤ k_lo k ∧ ck_pre2 A.2.2 A.2.2 (k_pr (tab j)) = true ∧ ck_popA A.2.1 (k_pa (tab j)).reverse = some S' ∧ (S'.map fun q => ck_cat q.1).sum ≤ 8 ∧ out = ck_cal A.2.1 S' A.1 A.2.2 (k_pa (tab j)).length pc (k_cs (tab j))
  | [], h => by cases h
  | j :: js, h => by
    unfold ck_try at h
    split at h
    · next S' hS =>
      split at hS
      · next hc =>
        split at h
        · next hsum =>
          cases h
          simp only [Bool.and_eq_true, decide_eq_true_eq] at hc
          exact ⟨j, List.mem_cons_self, S', hc.1.1.1, hc.1.1.2, hc.1.2, hc.2, hS, of_decide_eq_true hsum, rfl⟩
        · cases h
      · cases hS
    · obtain ⟨j', h1, h2⟩ := ck_try_ok h
      exact ⟨j', List.mem_cons_of_mem _ h1, h2⟩
section CK9
variable {p : Program} {l : Launch} {e : Env} {R : Room} {s : State} {m : MethodId} {args : Array Value} {below : List Frame} {meth : Method} {c : Code} {H H0 : Heap} {locs : List Loc} {Q : State → Prop} {cc : ByteArray} {pc len : Nat} {ls : Array Slot} {st : List Value}
variable {D : va_G} {cys : Nat → ClassId} {ty : Nat → Option Nat} {tg : List ck_TD} {pvT : List (Nat × Nat)} {prot : Nat → List (Nat × Nat)} {Ex : va_W → Prop} {pvv : Nat → Int32} {Ts : List Jvm.Cond} {LK : Nat → Nat → Option ck_En} {o nL : Nat} {X : Nat → Int} {A : ck_AS} {out : List (Nat × ck_AS)} {i : Instr}
variable {tab : Nat → ck_K} {bd : Nat} {k : ck_K}
theorem ck_blind (vs : List Value) : FrameBlind (va_Pc vs (ck_B D cys ty tg pvT Ex pvv)) := by
  intro a U g mk q
  obtain ⟨q0, q1, q2, q3⟩ := q
  exact ⟨q0, q1, va_K.moved (u := U) (U := U.calling g mk a) (Vm.Alike.refl U.vm) q2, fun w hw => va_Nw.same (ck_nest_tab w hw) (u := U) rfl (q3 w hw)⟩
theorem ck_after {kc : ck_K} {vs : List Value} {a : Array Value} {rest st0 : List Value} (hr : va_Run p l e R s m args below meth c H locs 0 0 0 0 (F0 m pc ls st0) rest (ck_Qc D cys ty tg pvT Ex kc vs pvv a) (ck_own ty)) (hS : va_S (ck_own ty) H0 H locs)
    (kk : ∀ cs ∈ k_cs kc, ∀ (r : Option Value) (pvv' : Nat → Int32) (H1 : Heap) (locs1 : List Loc), ck_caseOK ty cs vs pvv pvv' r → ck_Wo D cys ty tg pvT Ex pvv' H1 → va_S (ck_own ty) H0 H1 locs1 → W p l e R s m args below meth c H1 locs1 0 0 Q (F0 m (pc + 3) ls (r.toList ++ rest))) : W p l e R s m args below meth c H locs 0 0 Q (F0 m pc ls st0) := by
  intro T hT X
  obtain ⟨v, st₀, t, T', L, h0, X', hL, e1, e2, ⟨⟨cs, hcs, r, pvv', hv, hp, hb⟩, hz, hk⟩, st⟩ := hr T hT X
  cases hv
  rw [h0] at hz hk
  obtain ⟨t2, a1, b1⟩ := kk cs hcs v pvv' T'.heap (locs ++ L) hp (by rw [e1]; exact hb)
    ⟨Nat.le_trans hS.1 (by rw [e1]; exact hz), fun q h1 h2 => by rw [e1, hk q (Nat.lt_of_lt_of_le h1 hS.1) h2]; exact hS.2.1 q h1 h2, fun q hq => by
      rcases List.mem_append.mp hq with h | h
      · exact hS.2.2 q h
      · exact hL q h⟩ T' rfl X'
  exact ⟨t2, st t2 a1, b1⟩
/-- a call whose words stand: what each way to end gives -/
theorem ck_call1 {kc : ck_K} {L : List (Nat × ck_AV)} {S S' : List (ck_AV × Nat)} {P : List ck_AV} {lv : List (Nat × Value)} {vs rest : List Value} {a : Array Value} (h1 : lv_has ls nL lv) (h2 : ck_L ty X L lv) (h3 : ck_st ty X lv pvv S (vs ++ rest)) (h4 : ck_pvo ty X P pvv) (h6 : va_S (ck_own ty) H0 H locs) (h7 : ck_st ty X lv pvv S' rest) (hlen : vs.length = (k_pa kc).length)
    (hr : va_Run p l e R s m args below meth c H locs 0 0 0 0 (F0 m pc ls (vs ++ rest)) rest (ck_Qc D cys ty tg pvT Ex kc vs.reverse pvv a) (ck_own ty)) (ho : out = ck_cal S S' L P (k_pa kc).length pc (k_cs kc)) (hn : ∀ q ∈ out, ∀ (ls' : Array Slot) (st' : List Value) (pvv' : Nat → Int32) (H' : Heap) (locs' : List Loc), ck_sat D cys ty tg pvT Ex nL H0 X q.2 ls' st' pvv' H' locs' → W p l e R s m args below meth c H' locs' 0 0 Q (F0 m q.1 ls' st')) : W p l e R s m args below meth c H locs 0 0 Q (F0 m pc ls (vs ++ rest)) := by
  refine ck_after hr h6 (fun cs hcs r pvv' H1 locs1 hca hW1 hS1 => ?_)
  obtain ⟨c1, c2, c3⟩ := hca
  subst ho
  have hclr : ck_st ty X lv pvv' (ck_clr (fun z => decide (1000 ≤ z)) S') rest := ck_clr_ok (f := fun z => decide (1000 ≤ z)) (lv := lv) (pvv := pvv) (fun src w hf hs => ⟨hs.1, fun h9 => by simp at hf; omega⟩) h7
  have hpv : ck_pvo ty X (cs.2.2.map (ck_pvp P)) pvv' := by
    intro j av hj
    rw [List.getElem?_map] at hj
    cases hq : cs.2.2[j]? with
    | none => rw [hq] at hj; cases hj
    | some bv =>
      rw [hq] at hj
      cases hj
      exact ck_pvp_ok h4 (c3 j bv hq)
  obtain ⟨L', q1, q2, q3⟩ := ck_rfs_ok (L := (L, cs.2.2.map (ck_pvp P))) h3 rfl h2 hpv c2
  rw [hlen] at q1
  refine hn _ (ck_cal_in q1 (ck_emp_ok q3) hcs) _ _ _ _ _ ⟨lv, h1, q2, ?_, q3, hW1, hS1⟩
  match hcr : cs.1, r, c1 with
  | none, none, _ => exact hclr
  | some av, some v, c1 =>
    exact ⟨⟨ck_nod_ok c1, ck_src0⟩, hclr⟩
def ck_g7 (tg : List ck_TD) (pvT : List (Nat × Nat)) (prot : Nat → List (Nat × Nat)) (LK : Nat → Nat → Option ck_En) (tab : Nat → ck_K) (bd : Nat) (k : ck_K) (pc : Nat) (i : Instr) (len : Nat) (A : ck_AS) : Option (List (Nat × ck_AS)) := match i, len with
  | .invokevirtual ix, 3 => match LK (k_ow k) ix with
    | some (.inr (.inr (.inr (.inl (0, js))))) => ck_try tab bd k pc A js
    | _ => none
  | .invokestatic ix, 3 => match LK (k_ow k) ix with
    | some (.inr (.inr (.inr (.inl (1, js))))) => ck_try tab bd k pc A js
    | some (.inr (.inr (.inr (.inl (2, js))))) => ck_try tab bd k pc A js
    | some (.inr (.inr (.inr (.inr _)))) => match A.2.1 with
      | (.inl n, _) :: (.inl d, _) :: (.inr (.inl t), _) :: (.inl z, _) :: (.inr (.inl t'), _) :: S => match tg[t]?, tg[t']? with
        | some (.inr (kd, N, sg, _)), some (.inr (kd', N', sg', _)) => if decide (kd' = kd ∧ N' = N ∧ sg' = sg) && decide (kd = 0 ∨ kd = 3) && (prot t).isEmpty && ck_nfa pvT t && decide (d.1 = 0) && decide (d.2.1 = 0) && decide (z.1 = 0) && decide (z.2.1 = 0) && decide (0 ≤ n.1) && decide (n.2.1 ≤ N) && decide (1 ≤ k_fr k) && decide ((S.map fun q => ck_cat q.1).sum + 18 ≤ k_lo k) then some [(pc + 3, (A.1, S, A.2.2))] else none
        | _, _ => none
      | _ => none
    | _ => none
  | _, _ => none
theorem ck_nat3 : Jvm.Cond.native arraycopyName ∈ wsL_law0 ∧ Jvm.Cond.static arraycopyName ∈ wsL_law0 ∧ Jvm.Cond.initialized "java/lang/System" ∈ wsL_law0 := by
  have e : wsL_law0_r23 = wsL_law0_r23 := rfl
  refine ⟨?_, ?_, ?_⟩ <;> decide +kernel
theorem ck_g7_ok (hLK : ck_LKm tg LK tab) (hHo : ∀ j, j < bd → ck_Holds l D cys ty tg pvT Ex (tab j)) (hexec : p.tables.exec = Jvm.exec) (hb : c.code = cc) (hml : c.maxLocals = nL) (hts : ∀ w ∈ Ts, w.before args s = true) (hin : ∀ w ∈ wsL_law0, w ∈ Ts) (hown : s.vm.findClass (ck_R (k_ow k)) = some m.cls) (hK : va_K D ck_cl (ck_tys cys) s) (hNw : ∀ w ∈ ck_nest, va_Nw w s) (hX : ck_ExP ty prot Ex) (hRf : R.frames = k_fr k) (hRl : R.locals = k_lo k) (h : ck_g7 tg pvT prot LK tab bd k pc i len A = some out) (hdg : decode cc pc = .ok (i, len)) (hsat : ck_sat D cys ty tg pvT Ex nL H0 X A ls st pvv H locs) (hn : ∀ q ∈ out, ∀ (ls' : Array Slot) (st' : List Value) (pvv' : Nat → Int32) (H' : Heap) (locs' : List Loc), ck_sat D cys ty tg pvT Ex nL H0 X q.2 ls' st' pvv' H' locs' → W p l e R s m args below meth c H' locs' 0 0 Q (F0 m q.1 ls' st')) : W p l e R s m args below meth c H locs 0 0 Q (F0 m pc ls st) := by
  obtain ⟨L, S, P⟩ := A
  obtain ⟨lv, h1, h2, h3, h4, h5, h6⟩ := hsat
  have hPc : ∀ (vs : List Value) (U : State), U.heap = H → s.WarmedH U.vm → va_Pc vs (ck_B D cys ty tg pvT Ex pvv) vs.toArray U := fun vs U hU hW => ⟨rfl, by rw [hU]; exact h5, va_K.moved hW.alike hK, ck_nest_warm hW hNw⟩
  have hG : ∀ kc : ck_K, Jvm.Cond.code (k_y kc) (k_cc kc) (k_ml kc) (k_rt kc) ∈ wsL_law0 → GoodIn Ts (ck_ws kc) := fun kc hc w hw => by
    rcases List.mem_cons.mp hw with hw | hw
    · subst hw; exact ⟨hin _ hc, ck_good _ hc⟩
    · exact ⟨hin _ hw, ck_good _ hw⟩
  unfold ck_g7 at h
  split at h
  · next ix =>
    split at h
    · next js hl =>
      obtain ⟨j, hj, S', hbd, hfr, hlo, hpre, hpop, hsum, ho⟩ := ck_try_ok h
      obtain ⟨m1, m2, m3, m4, -⟩ := hLK.1 _ _ _ _ hl j hj
      obtain ⟨w1, w2, w3, t, ci, fts, r, pa, p1, p2, p3, p4, p5⟩ := m4 rfl
      obtain ⟨vs, rest, e1, e2, e3⟩ := ck_popA_ok hpop h3
      subst e1
      rw [List.reverse_reverse, p1] at e2
      have hvl := ck_args_len e2
      have hM := hHo j hbd vs.reverse pvv (by rw [p1]; exact e2) (ck_pre2_ok h4 hpre h4)
      match hvr : vs.reverse, e2 with
      | v0 :: As, e2 =>
        obtain ⟨⟨b, rfl, hb0⟩, e4⟩ := e2
        have hvs : vs = As.reverse ++ [.ref b] := by rw [← List.reverse_reverse vs, hvr, List.reverse_cons]
        have hAs : As.length = pa.length := by
          rw [hvr] at hvl
          simp only [List.length_cons] at hvl
          omega
        rw [hvr] at hM
        obtain ⟨ws, hP, hD, hT, hV, hE⟩ := id h5
        obtain ⟨q, en, td, g1, g2, g3⟩ := hT b t hb0
        rw [p2] at g2
        cases g2
        obtain ⟨fs, rfl, -, -⟩ := g3
        have hrun := va_runV (p := p) (l := l) (e := e) (R := R) (s := s) (m := m) (args := args) (below := below) (meth := meth) (c := c) (H := H) (locs := locs) (cells := 0) (slots := 0) (g := F0 m pc ls (vs ++ rest)) (As := As) (rest := rest) (b := b) (nL := nL) (own := ck_R (k_ow k)) (index := ix) (bytes := k_cc (tab j)) (maxL := k_ml (tab j)) (ret := k_rt (tab j)) (n := pa.length) ⟨hexec, hb, hml, hown, hts⟩ hM ⟨callB_of pa.length hts (hG _ m1) rfl rfl rfl (hts _ (hin _ m2)) (hts _ (hin _ w1)) ⟨m3.1, m3.2, p5⟩ ⟨by rw [hRf]; exact hfr, by rw [hRl]; exact hlo⟩, hts _ (hin _ w2), hts _ (hin _ w3)⟩
          ⟨ck_blind _, by have := va_recv hK hP p3 g1; rw [p4] at this; exact this, hPc _⟩ rfl hAs h1.1 (by show vs ++ rest = _; rw [hvs, List.append_assoc]; rfl) (lv_room (by rw [ck_st_sum e3]; exact hsum)) hdg ⟨Nat.zero_le _, Nat.zero_le _⟩
        rw [← hvr] at hrun
        exact ck_call1 (kc := tab j) h1 h2 h3 h4 h6 e3 (by rw [p1, ← List.length_reverse, hvl]) hrun ho hn
    · cases h
  · next ix =>
    split at h
    · next js hl =>
      obtain ⟨j, hj, S', hbd, hfr, hlo, hpre, hpop, hsum, ho⟩ := ck_try_ok h
      obtain ⟨m1, m2, m3, -, m4, -⟩ := hLK.1 _ _ _ _ hl j hj
      obtain ⟨w1, w2, p5⟩ := m4 rfl
      obtain ⟨vs, rest, e1, e2, e3⟩ := ck_popA_ok hpop h3
      subst e1
      rw [List.reverse_reverse] at e2
      have hvl := ck_args_len e2
      have hM := hHo j hbd vs.reverse pvv e2 (ck_pre2_ok h4 hpre h4)
      have hrun := va_runS (p := p) (l := l) (e := e) (R := R) (s := s) (m := m) (args := args) (below := below) (meth := meth) (c := c) (H := H) (locs := locs) (cells := 0) (slots := 0) (g := F0 m pc ls (vs ++ rest)) (As := vs.reverse) (rest := rest) (nL := nL) (own := ck_R (k_ow k)) (index := ix) (bytes := k_cc (tab j)) (maxL := k_ml (tab j)) (ret := k_rt (tab j)) (n := (k_pa (tab j)).length) ⟨hexec, hb, hml, hown, hts⟩ hM ⟨callB_of _ hts (hG _ m1) rfl rfl rfl (hts _ (hin _ m2)) (hts _ (hin _ w1)) ⟨m3.1, m3.2, p5⟩ ⟨by rw [hRf]; exact hfr, by rw [hRl]; exact hlo⟩, hts _ (hin _ w2)⟩
          ⟨ck_blind _, hPc _⟩ rfl hvl h1.1 (by show vs ++ rest = _; rw [List.reverse_reverse]) (lv_room (by rw [ck_st_sum e3]; exact hsum)) hdg ⟨Nat.zero_le _, Nat.zero_le _⟩
      exact ck_call1 (kc := tab j) h1 h2 h3 h4 h6 e3 (by rw [← List.length_reverse, hvl]) hrun ho hn
    · next js hl =>
      obtain ⟨j, hj, S', hbd, hfr, hlo, hpre, hpop, hsum, ho⟩ := ck_try_ok h
      obtain ⟨m1, m2, m3, -, -, m4⟩ := hLK.1 _ _ _ _ hl j hj
      obtain ⟨w1, w2, p5⟩ := m4 rfl
      obtain ⟨vs, rest, e1, e2, e3⟩ := ck_popA_ok hpop h3
      subst e1
      rw [List.reverse_reverse] at e2
      have hvl := ck_args_len e2
      have hM := hHo j hbd vs.reverse pvv e2 (ck_pre2_ok h4 hpre h4)
      have hrun := va_runSN (p := p) (l := l) (e := e) (R := R) (s := s) (m := m) (args := args) (below := below) (meth := meth) (c := c) (H := H) (locs := locs) (cells := 0) (slots := 0) (g := F0 m pc ls (vs ++ rest)) (As := vs.reverse) (rest := rest) (nL := nL) (own := ck_R (k_ow k)) (host := RX11) (index := ix) (bytes := k_cc (tab j)) (maxL := k_ml (tab j)) (ret := k_rt (tab j)) (n := (k_pa (tab j)).length) ⟨hexec, hb, hml, hown, hts⟩ hM ⟨va_cnB _ hts (hG _ m1) rfl rfl rfl (hNw _ w1) (hts _ (hin _ m2)) ⟨m3.1, m3.2, p5⟩ ⟨by rw [hRf]; exact hfr, by rw [hRl]; exact hlo⟩, hts _ (hin _ w2), True.intro⟩
          ⟨ck_blind _, hPc _⟩ rfl hvl h1.1 (by show vs ++ rest = _; rw [List.reverse_reverse]) (lv_room (by rw [ck_st_sum e3]; exact hsum)) hdg ⟨Nat.zero_le _, Nat.zero_le _⟩
      exact ck_call1 (kc := tab j) h1 h2 h3 h4 h6 e3 (by rw [← List.length_reverse, hvl]) hrun ho hn
    · next u hl =>
      split at h
      · next n _ d _ t _ z _ t' _ S' hS =>
        split at h
        · next kd N sg et kd' N' sg' et' ht ht' =>
          split at h
          · next hc =>
            cases h
            simp only [Bool.and_eq_true, decide_eq_true_eq, List.isEmpty_iff] at hc
            obtain ⟨⟨⟨⟨⟨⟨⟨⟨⟨⟨⟨c1, c2⟩, c3⟩, c3b⟩, c4⟩, c5⟩, c6⟩, c7⟩, c8⟩, c9⟩, c10⟩, c11⟩ := hc
            obtain ⟨rfl, rfl, rfl⟩ := c1
            dsimp only at hS
            subst hS
            match st, h3 with
            | v1 :: v2 :: v3 :: v4 :: v5 :: rest, h3 =>
              obtain ⟨⟨⟨x1, rfl, g1⟩, -⟩, ⟨⟨x2, rfl, g2⟩, -⟩, ⟨⟨a3, rfl, g3⟩, -⟩, ⟨⟨x4, rfl, g4⟩, -⟩, ⟨⟨a5, rfl, g5⟩, -⟩, g6⟩ := h3
              obtain ⟨b1, b2, -⟩ := g1
              obtain ⟨b3, b4, -⟩ := g2
              obtain ⟨b5, b6, -⟩ := g4
              have hlo : (rest.map fun v => v.category).sum + 18 ≤ R.locals := by rw [ck_st_sum g6, hRl]; exact c11
              rcases c2 with rfl | rfl
              · refine ck_copyi hexec hb (hml.trans h1.1.symm) hts hin hown (hLK.2 _ _ _ hl) ck_nat3.1 ck_nat3.2.1 ck_nat3.2.2 hK hX h5 h6 (ck_nfa_ok c3b) g3 g5 ht ht' c3 (by omega) (by omega) (by omega) (by omega) (by rw [hRf]; exact c10) hlo hdg (fun H1 locs1 e1 e2 => ?_)
                exact hn _ List.mem_cons_self _ _ _ _ _ ⟨lv, h1, h2, g6, h4, e1, e2⟩
              · refine ck_copyl hexec hb (hml.trans h1.1.symm) hts hin hown (hLK.2 _ _ _ hl) ck_nat3.1 ck_nat3.2.1 ck_nat3.2.2 hK hX h5 h6 (ck_nfa_ok c3b) g3 g5 ht ht' c3 (by omega) (by omega) (by omega) (by omega) (by rw [hRf]; exact c10) hlo hdg (fun H1 locs1 e1 e2 => ?_)
                exact hn _ List.mem_cons_self _ _ _ _ _ ⟨lv, h1, h2, g6, h4, e1, e2⟩
          · cases h
        · cases h
      · cases h
    · cases h
  · cases h
end CK9
