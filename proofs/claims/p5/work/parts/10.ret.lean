/-! THE CHECKER, 9: returns; the whole of a method. -/
def ck_li (pa : List ck_AV) (n : Nat) : Nat := ((pa.take n).map ck_cat).sum
def ck_ent (L : List (Nat × ck_AV)) (li : Nat) (lo hi : Int) : Bool := L.any (fun q => match q.2 with
  | .inl r => r.2.2.any (fun d => d.1 == 2 * li && decide (lo ≤ r.1 - d.2.2) && decide (r.2.1 - d.2.1 ≤ hi))
  | _ => false)
theorem ck_L_at {ty : Nat → Option Nat} {X : Nat → Int} : ∀ {L : List (Nat × ck_AV)} {lv : List (Nat × Value)} {q : Nat × ck_AV}, ck_L ty X L lv → q ∈ L → ∃ v, ck_v ty X q.2 v
  | [], _, _, _, h => by cases h
  | a :: L, [], _, hL, _ => hL.elim
  | a :: L, b :: lv, q, hL, h => by
    rcases List.mem_cons.mp h with h | h
    · subst h; exact ⟨b.2, hL.1.2⟩
    · exact ck_L_at hL.2 h
theorem ck_ent_ok {ty : Nat → Option Nat} {X : Nat → Int} {L : List (Nat × ck_AV)} {lv : List (Nat × Value)} {li : Nat} {lo hi : Int} (hL : ck_L ty X L lv) (h : ck_ent L li lo hi = true) : lo ≤ X (2 * li) ∧ X (2 * li) ≤ hi := by
  obtain ⟨q, hq, h1⟩ := List.any_eq_true.mp h
  obtain ⟨v, hv⟩ := ck_L_at hL hq
  split at h1
  · next r hr =>
    rw [hr] at hv
    obtain ⟨x, -, a1, a2, a3⟩ := hv
    obtain ⟨d, hd, h2⟩ := List.any_eq_true.mp h1
    simp only [Bool.and_eq_true, decide_eq_true_eq, beq_iff_eq] at h2
    have := a3 d hd
    rw [h2.1.1] at this
    omega
  · cases h1
def ck_ev (av : ck_AV) : Bool := match av with
  | .inl r => r.2.2.all (fun d => decide (d.1 % 2 = 0) && decide (2000 ≤ d.1))
  | _ => true
/-- a bound against a starting value of a followed field: each side by what is noted, or by the ranges -/
def ck_dlE (E : List ck_AV) (r : ck_I) (d : Nat × Int × Int) : Bool := (r.2.2.any (fun q => q.1 == d.1 && decide (d.2.1 ≤ q.2.1)) || (match E[d.1 / 2 - 1000]? with
  | some (.inl z) => decide (d.1 % 2 = 0) && decide (2000 ≤ d.1) && decide (d.2.1 ≤ r.1 - z.2.1)
  | _ => false)) && (r.2.2.any (fun q => q.1 == d.1 && decide (q.2.2 ≤ d.2.2)) || (match E[d.1 / 2 - 1000]? with
  | some (.inl z) => decide (d.1 % 2 = 0) && decide (2000 ≤ d.1) && decide (r.2.1 - z.1 ≤ d.2.2)
  | _ => false))
def ck_Er (E : List ck_AV) (X : Nat → Int) : Prop := ∀ (j : Nat) (z : ck_I), E[j]? = some (.inl z) → z.1 ≤ X (2 * (1000 + j)) ∧ X (2 * (1000 + j)) ≤ z.2.1
theorem ck_dlE_ok {X : Nat → Int} {E : List ck_AV} {r : ck_I} {d : Nat × Int × Int} {n : Int} (hE : ck_Er E X) (h : ck_dlE E r d = true) (hr : ck_i X r n) : d.2.1 ≤ n - X d.1 ∧ n - X d.1 ≤ d.2.2 := by
  obtain ⟨h1, h2, h3⟩ := hr
  simp only [ck_dlE, Bool.and_eq_true, Bool.or_eq_true, List.any_eq_true, beq_iff_eq, decide_eq_true_eq] at h
  obtain ⟨c1, c2⟩ := h
  refine ⟨?_, ?_⟩
  · rcases c1 with ⟨q, hq, e, c1⟩ | c1
    · have := h3 q hq
      rw [e] at this
      omega
    · split at c1
      · next z hz =>
        simp only [Bool.and_eq_true, decide_eq_true_eq] at c1
        have h4 := hE _ _ hz
        rw [show 2 * (1000 + (d.1 / 2 - 1000)) = d.1 by omega] at h4
        omega
      · cases c1
  · rcases c2 with ⟨q, hq, e, c2⟩ | c2
    · have := h3 q hq
      rw [e] at this
      omega
    · split at c2
      · next z hz =>
        simp only [Bool.and_eq_true, decide_eq_true_eq] at c2
        have h4 := hE _ _ hz
        rw [show 2 * (1000 + (d.1 / 2 - 1000)) = d.1 by omega] at h4
        omega
      · cases c2
def ck_leE (E : List ck_AV) (a b : ck_AV) : Bool := match a, b with
  | .inl r, .inl q => decide (q.1 ≤ r.1) && decide (r.2.1 ≤ q.2.1) && q.2.2.all (ck_dlE E r)
  | .inr (.inl t), .inr (.inl u) => t == u
  | .inr (.inr _), .inr (.inr _) => true
  | _, _ => false
theorem ck_leE_ok {ty : Nat → Option Nat} {X : Nat → Int} {E : List ck_AV} (hE : ck_Er E X) {a b : ck_AV} {v : Value} (h : ck_leE E a b = true) (hv : ck_v ty X a v) : ck_v ty X b v := by
  match a, b, h, hv with
  | .inl r, .inl q, h, hv =>
    obtain ⟨x, rfl, h1, h2, h3⟩ := hv
    simp only [ck_leE, Bool.and_eq_true, decide_eq_true_eq, List.all_eq_true] at h
    exact ⟨x, rfl, by omega, by omega, fun d hd => ck_dlE_ok hE (h.2 d hd) ⟨h1, h2, h3⟩⟩
  | .inr (.inl t), .inr (.inl u), h, hv =>
    obtain ⟨y, rfl, h1⟩ := hv
    simp only [ck_leE, beq_iff_eq] at h
    exact ⟨y, rfl, by rw [← h]; exact h1⟩
  | .inr (.inr _), .inr (.inr _), _, hv => exact hv
def ck_le2 (E : List ck_AV) : List ck_AV → List ck_AV → Bool
  | _, [] => true
  | a :: P, b :: pr => ck_leE E a b && ck_le2 E P pr
  | [], _ :: _ => false
theorem ck_le2_ok {ty : Nat → Option Nat} {X : Nat → Int} {E : List ck_AV} (hE : ck_Er E X) : ∀ {P pr : List ck_AV} {f : Nat → Int32}, ck_le2 E P pr = true → ck_pvo ty X P f → ck_pvo ty X pr f
  | _, [], f, _, _ => fun j av h => by simp at h
  | a :: P, b :: pr, f, h, hp => by
    simp only [ck_le2, Bool.and_eq_true] at h
    intro j av hj
    match j, hj with
    | 0, hj => cases hj; exact ck_leE_ok hE h.1 (hp 0 a rfl)
    | j + 1, hj => exact ck_le2_ok hE (f := fun j => f (j + 1)) h.2 (fun i bv hi => hp (i + 1) bv hi) j av hj
  | [], _ :: _, f, h, _ => by cases h
theorem ck_Er_of {ty : Nat → Option Nat} {pa : List ck_AV} {vs : List Value} {pvv : Nat → Int32} {X Y : Nat → Int} {E : List ck_AV} (h0 : ∀ j : Nat, X (2 * (1000 + j)) = (pvv j).toInt) (h : ck_pvo ty Y E pvv) : ck_Er E X := by
  intro j z hz
  obtain ⟨x, e, a1, a2, -⟩ := h j _ hz
  cases e
  rw [h0 j]
  exact ⟨a1, a2⟩
def ck_isI (av : Option ck_AV) : Bool := match av with
  | some (.inl _) => true
  | _ => false
def ck_rvc (a b : Option ck_AV) : Bool := match a, b with
  | none, none => true
  | some a, some b => ck_le (ck_nod a) b
  | _, _ => false
def ck_rc (E pa : List ck_AV) (A : ck_AS) (rv : Option ck_AV) (cs : ck_Case) : Bool := ck_rvc rv cs.1 && cs.2.1.all (fun q => ck_isI pa[q.1]? && ck_ent A.1 (ck_li pa q.1) q.2.1 q.2.2) && ck_le2 E A.2.2 cs.2.2 && cs.2.2.all ck_ev
def ck_ret (k : ck_K) (A : ck_AS) (rv : Option ck_AV) : Bool := (k_cs k).any (ck_rc (k_pr k) (k_pa k) A rv)
/-- the starting values: of an int argument at its local's number, of the followed fields behind 1000 -/
def ck_X0 (pa : List ck_AV) (vs : List Value) (pvv : Nat → Int32) (X : Nat → Int) : Prop := (∀ (n : Nat) (x : Int32), vs[n]? = some (.int x) → X (2 * ck_li pa n) = x.toInt) ∧ ∀ j : Nat, X (2 * (1000 + j)) = (pvv j).toInt
theorem ck_evX {ty : Nat → Option Nat} {pa : List ck_AV} {vs : List Value} {pvv : Nat → Int32} {X : Nat → Int} {av : ck_AV} {v : Value} (h0 : ck_X0 pa vs pvv X) (he : ck_ev av = true) (h : ck_v ty X av v) : ck_v ty (ck_XE pvv) av v := by
  match av, he, h with
  | .inl r, he, h =>
    obtain ⟨x, e, a1, a2, a3⟩ := h
    refine ⟨x, e, a1, a2, fun d hd => ?_⟩
    have h1 := List.all_eq_true.mp he d hd
    simp only [Bool.and_eq_true, decide_eq_true_eq] at h1
    have h2 := h0.2 (d.1 / 2 - 1000)
    have e1 : 2 * (1000 + (d.1 / 2 - 1000)) = d.1 := by omega
    rw [e1] at h2
    have h3 := a3 d hd
    rw [h2] at h3
    exact h3
  | .inr (.inl t), _, h => exact h
  | .inr (.inr u), _, h => exact h
theorem ck_args_at {ty : Nat → Option Nat} : ∀ {pa : List ck_AV} {vs : List Value} {n : Nat} {av : ck_AV}, ck_args ty pa vs → pa[n]? = some av → ∃ v, vs[n]? = some v ∧ ck_v ty (fun _ => 0) av v
  | [], _, n, av, _, h => by simp at h
  | a :: pa, [], n, av, hs, _ => hs.elim
  | a :: pa, v :: vs, 0, av, hs, h => by cases h; exact ⟨v, rfl, hs.1⟩
  | a :: pa, v :: vs, n + 1, av, hs, h => ck_args_at (n := n) hs.2 h
theorem ck_rc_ok {ty : Nat → Option Nat} {X : Nat → Int} {A : ck_AS} {lv : List (Nat × Value)} {pvv pvv' : Nat → Int32} {k : ck_K} {vs : List Value} {rv : Option ck_AV} {r : Option Value} (h0 : ck_X0 (k_pa k) vs pvv X) (hpr : ck_pvo ty (ck_XE pvv) (k_pr k) pvv) (ha : ck_args ty (k_pa k) vs) (hL : ck_L ty X A.1 lv) (hp : ck_pvo ty X A.2.2 pvv') (h : ck_ret k A rv = true) (hr : ∀ b, ck_rvc rv b = true → ck_rv ty b r) : ∃ cs ∈ k_cs k, ck_caseOK ty cs vs pvv pvv' r := by
  obtain ⟨cs, hcs, h1⟩ := List.any_eq_true.mp h
  simp only [ck_rc, Bool.and_eq_true] at h1
  obtain ⟨⟨⟨h1, h2⟩, h3⟩, h4⟩ := h1
  refine ⟨cs, hcs, hr _ h1, fun q hq => ?_, fun j av hj => ?_⟩
  · have h5 := List.all_eq_true.mp h2 q hq
    simp only [Bool.and_eq_true] at h5
    have h6 := h5.1
    unfold ck_isI at h6
    split at h6
    · next r0 hr0 =>
      obtain ⟨v, g1, x, rfl, -⟩ := ck_args_at ha hr0
      have h7 := ck_ent_ok hL h5.2
      rw [h0.1 q.1 x g1] at h7
      exact ⟨x, g1, h7.1, h7.2⟩
    · cases h6
  · exact ck_evX h0 (List.all_eq_true.mp h4 av (List.mem_of_getElem? hj)) (ck_le2_ok (ck_Er_of (pa := k_pa k) (vs := vs) h0.2 hpr) h3 hp j av hj)
def ck_g8 (k : ck_K) (i : Instr) (len : Nat) (A : ck_AS) : Bool := match i, len with
  | .ireturn, 1 => match A.2.1, k_rt k with
    | [(.inl r, _)], some .int => ck_ret k A (some (.inl r))
    | [(.inl r, _)], some .boolean => decide (0 ≤ r.1) && decide (r.2.1 ≤ 1) && ck_ret k A (some (.inl r))
    | _, _ => false
  | .lreturn, 1 => match A.2.1, k_rt k with
    | [(.inr (.inr u), _)], some .long => ck_ret k A (some (.inr (.inr u)))
    | _, _ => false
  | .return_, 1 => match A.2.1, k_rt k with
    | [], none => ck_ret k A none
    | _, _ => false
  | _, _ => false
section CK10
variable {p : Program} {l : Launch} {e : Env} {R : Room} {s : State} {m : MethodId} {args : Array Value} {below : List Frame} {meth : Method} {c : Code} {H H0 : Heap} {locs : List Loc} {Q : State → Prop} {cc : ByteArray} {pc len : Nat} {ls : Array Slot} {st : List Value}
variable {D : va_G} {cys : Nat → ClassId} {ty : Nat → Option Nat} {tg : List ck_TD} {pvT : List (Nat × Nat)} {prot : Nat → List (Nat × Nat)} {Ex : va_W → Prop} {pvv : Nat → Int32} {Ts : List Jvm.Cond} {LK : Nat → Nat → Option ck_En} {o nL : Nat} {X : Nat → Int} {A : ck_AS} {out : List (Nat × ck_AS)} {i : Instr}
variable {tab : Nat → ck_K} {bd : Nat} {k : ck_K} {vs : List Value} {pvv0 : Nat → Int32}
theorem ck_g8_ok (hexec : p.tables.exec = Jvm.exec) (hb : c.code = cc) (hr : meth.sig.returnType = k_rt k) (hlocks : meth.locks = false) (h0 : ck_X0 (k_pa k) vs pvv0 X) (hpr : ck_pvo ty (ck_XE pvv0) (k_pr k) pvv0) (ha : ck_args ty (k_pa k) vs) (h : ck_g8 k i len A = true) (hdg : decode cc pc = .ok (i, len)) (hsat : ck_sat D cys ty tg pvT Ex nL s.heap X A ls st pvv H locs) : W p l e R s m args below meth c H locs 0 0 (MQ below (ck_Qc D cys ty tg pvT Ex k vs pvv0) args s 0 0 (ck_own ty)) (F0 m pc ls st) := by
  obtain ⟨L, S, P⟩ := A
  obtain ⟨lv, h1, h2, h3, h4, h5, h6⟩ := hsat
  have hq : ∀ (rv : Option ck_AV) (r : Option Value), ck_ret k (L, S, P) rv = true → (∀ b, ck_rvc rv b = true → ck_rv ty b r) → ∀ t : State, t.heap = H → s.WarmedH t.vm → ck_Qc D cys ty tg pvT Ex k vs pvv0 args s (.returned r) t := by
    intro rv r hret hrv t ht _
    obtain ⟨cs, g1, g2⟩ := ck_rc_ok (k := k) (A := (L, S, P)) h0 hpr ha h2 h4 hret hrv
    exact ⟨⟨cs, g1, r, pvv, rfl, g2, by rw [ht]; exact h5⟩, h6.F ht⟩
  unfold ck_g8 at h
  split at h
  · split at h
    · next r _ hS hrt =>
      dsimp only at hS
      subst hS
      match st, h3 with
      | [v], h3 =>
        obtain ⟨⟨⟨x, rfl, g2⟩, -⟩, -⟩ := h3
        refine W.zret hexec hb (hr.trans hrt) rfl (hq _ _ h (fun b hb' => ?_)) h6.2.2 hdg hlocks
        match b, hb' with
        | some b, hb' => exact ck_le_ok hb' (ck_nod_ok (av := .inl r) ⟨x, rfl, g2⟩)
      | v :: w :: _, h3 => exact h3.2.elim
    · next r _ hS hrt =>
      dsimp only at hS
      subst hS
      simp only [Bool.and_eq_true, decide_eq_true_eq] at h
      match st, h3 with
      | [v], h3 =>
        obtain ⟨⟨⟨x, rfl, g2⟩, -⟩, -⟩ := h3
        have b1 := g2.1
        have b2 := g2.2.1
        refine W.zret hexec hb (hr.trans hrt) (ck_nbool ⟨by omega, by omega⟩).1 (hq _ _ h.2 (fun b hb' => ?_)) h6.2.2 hdg hlocks
        match b, hb' with
        | some b, hb' => exact ck_le_ok hb' (ck_nod_ok (av := .inl r) ⟨x, rfl, g2⟩)
      | v :: w :: _, h3 => exact h3.2.elim
    · cases h
  · split at h
    · next u _ hS hrt =>
      dsimp only at hS
      subst hS
      match st, h3 with
      | [v], h3 =>
        obtain ⟨⟨⟨x, rfl⟩, -⟩, -⟩ := h3
        refine W.lret hexec hb (hr.trans hrt) (hq _ _ h (fun b hb' => ?_)) h6.2.2 hdg hlocks
        match b, hb' with
        | some b, hb' => exact ck_le_ok hb' (ck_nod_ok (X := X) (av := .inr (.inr u)) ⟨x, rfl⟩)
      | v :: w :: _, h3 => exact h3.2.elim
    · cases h
  · split at h
    · next hS hrt =>
      dsimp only at hS
      subst hS
      match st, h3 with
      | [], h3 =>
        refine W.vret hexec hb (hr.trans hrt) (hq _ _ h (fun b hb' => ?_)) h6.2.2 hdg hlocks
        match b, hb' with
        | none, _ => exact True.intro
      | v :: _, h3 => exact h3.elim
    · cases h
  · cases h
/-- one step -/
def ck_step (tg : List ck_TD) (pvT : List (Nat × Nat)) (prot : Nat → List (Nat × Nat)) (LK : Nat → Nat → Option ck_En) (tab : Nat → ck_K) (bd : Nat) (k : ck_K) (pc : Nat) (i : Instr) (len : Nat) (A : ck_AS) : Option (List (Nat × ck_AS)) :=
  match ck_g2 (k_ml k) pc i len A with
  | some o => some o
  | none => match ck_g6 tg pvT prot LK (k_ow k) pc i len A with
  | some o => some o
  | none => match ck_g1 LK (k_ow k) pc i len A with
  | some o => some o
  | none => match ck_g3 pc i len A with
  | some o => some o
  | none => match ck_g5 pc i len A with
  | some o => some o
  | none => match ck_g7 tg pvT prot LK tab bd k pc i len A with
  | some o => some o
  | none => if ck_g8 k i len A then some [] else none
/-- all that a method's walk takes as given -/
def ck_Ctx (l : Launch) (D : va_G) (cys : Nat → ClassId) (ty : Nat → Option Nat) (tg : List ck_TD) (pvT : List (Nat × Nat)) (prot : Nat → List (Nat × Nat)) (Ex : va_W → Prop) (LK : Nat → Nat → Option ck_En) (tab : Nat → ck_K) (bd : Nat) : Prop :=
  ck_LKc LK ∧ ck_LKf LK ∧ ck_LKm tg LK tab ∧ ck_ExP ty prot Ex ∧ ck_uq ty pvT ∧ (∀ (i j : Nat) (q : Nat × Nat), pvT[i]? = some q → pvT[j]? = some q → i = j) ∧ ∀ j, j < bd → ck_Holds l D cys ty tg pvT Ex (tab j)
def ck_At (p : Program) (s : State) (m : MethodId) (args : Array Value) (meth : Method) (c : Code) (D : va_G) (cys : Nat → ClassId) (k : ck_K) : Prop :=
  p.tables.exec = Jvm.exec ∧ c.code = k_cc k ∧ c.maxLocals = k_ml k ∧ meth.sig.returnType = k_rt k ∧ meth.locks = false ∧ (∀ w ∈ ck_ws k, w.before args s = true) ∧ s.vm.findClass (ck_R (k_ow k)) = some m.cls ∧ va_K D ck_cl (ck_tys cys) s ∧ (∀ w ∈ ck_nest, va_Nw w s)
theorem ck_step_ok (C : ck_Ctx l D cys ty tg pvT prot Ex LK tab bd) (B : ck_At p s m args meth c D cys k) (hR : R = ck_rm k) (h0 : ck_X0 (k_pa k) vs pvv0 X) (hpr : ck_pvo ty (ck_XE pvv0) (k_pr k) pvv0) (ha : ck_args ty (k_pa k) vs) (h : ck_step tg pvT prot LK tab bd k pc i len A = some out) (hdg : decode (k_cc k) pc = .ok (i, len)) (hsat : ck_sat D cys ty tg pvT Ex (k_ml k) s.heap X A ls st pvv H locs)
    (hn : ∀ q ∈ out, ∀ (ls' : Array Slot) (st' : List Value) (pvv' : Nat → Int32) (H' : Heap) (locs' : List Loc), ck_sat D cys ty tg pvT Ex (k_ml k) s.heap X q.2 ls' st' pvv' H' locs' → W p l e R s m args below meth c H' locs' 0 0 (MQ below (ck_Qc D cys ty tg pvT Ex k vs pvv0) args s 0 0 (ck_own ty)) (F0 m q.1 ls' st')) : W p l e R s m args below meth c H locs 0 0 (MQ below (ck_Qc D cys ty tg pvT Ex k vs pvv0) args s 0 0 (ck_own ty)) (F0 m pc ls st) := by
  obtain ⟨C1, C2, C3, C4, C5, C6, C7⟩ := C
  obtain ⟨B1, B2, B3, B4, B5, B6, B7, B8, B9⟩ := B
  have hin : ∀ w ∈ wsL_law0, w ∈ ck_ws k := fun w hw => List.mem_cons_of_mem _ hw
  unfold ck_step at h
  split at h
  · next o1 hg => cases h; exact ck_g2_ok B1 B2 hg hdg hsat hn
  · split at h
    · next o1 hg => cases h; exact ck_g6_ok C2 B1 B2 B6 hin B7 B8 C4 C5 C6 hg hdg hsat hn
    · split at h
      · next o1 hg => cases h; exact ck_g1_ok C1 B1 B2 B6 hin B7 hg hdg hsat hn
      · split at h
        · next o1 hg => cases h; exact ck_g3_ok B1 B2 hg hdg hsat hn
        · split at h
          · next o1 hg => cases h; exact ck_g5_ok B1 B2 hg hdg hsat hn
          · split at h
            · next o1 hg => cases h; exact ck_g7_ok C3 C7 B1 B2 B3 B6 hin B7 B8 B9 C4 (by rw [hR]; rfl) (by rw [hR]; rfl) hg hdg hsat hn
            · split at h
              · next hg => cases h; exact ck_g8_ok B1 B2 B4 B5 h0 hpr ha hg hdg hsat
              · cases h
end CK10
