/-! THE CHECKER, 4: contracts as data, one step, its meaning. -/
/-- one way to end: what is answered; which argument (by place) is in which range then; the followed fields -/
abbrev ck_Case : Type := Option ck_AV × List (Nat × Int × Int) × List ck_AV
abbrev ck_Rk : Type := Int × List (Nat × Int)
abbrev ck_An : Type := Nat × ck_AS × ck_Rk
/-- a method's contract: name, bytes, locals, type, own place; arguments, fields ahead, ends, frames, words; what holds at places -/
abbrev ck_K : Type := MethodName × ByteArray × Nat × Option FieldType × Nat × List ck_AV × List ck_AV × List ck_Case × Nat × Nat × List ck_An
def k_y (k : ck_K) : MethodName := k.1
def k_cc (k : ck_K) : ByteArray := k.2.1
def k_ml (k : ck_K) : Nat := k.2.2.1
def k_rt (k : ck_K) : Option FieldType := k.2.2.2.1
def k_ow (k : ck_K) : Nat := k.2.2.2.2.1
def k_pa (k : ck_K) : List ck_AV := k.2.2.2.2.2.1
def k_pr (k : ck_K) : List ck_AV := k.2.2.2.2.2.2.1
def k_cs (k : ck_K) : List ck_Case := k.2.2.2.2.2.2.2.1
def k_fr (k : ck_K) : Nat := k.2.2.2.2.2.2.2.2.1
def k_lo (k : ck_K) : Nat := k.2.2.2.2.2.2.2.2.2.1
def k_an (k : ck_K) : List ck_An := k.2.2.2.2.2.2.2.2.2.2
/-- what an entry of a class's pool is: a field (place in ck_cl, slot; 0 an int, 1 a boolean, 2 a long that may be written, 3 read only), an int, a long, a method (0 virtual, 1 static, 2 static of a nest mate; the contracts that may serve), arraycopy -/
abbrev ck_En : Type := (Nat × Nat × Nat) ⊕ (Int ⊕ (Unit ⊕ ((Nat × List Nat) ⊕ Unit)))
def ck_R (o : Nat) : String := match o with
  | 0 => RX0 | 1 => RX1 | 2 => RX2 | 3 => RX3 | 4 => RX4 | 5 => RX5 | 6 => RX6 | 7 => RX7 | 8 => RX8 | 9 => RX9 | 10 => RX10 | 11 => RX11 | 12 => RX12
  | 13 => RJ6 | 14 => RJ9 | 15 => RJ7 | _ => ""
def ck_ws (k : ck_K) : List Jvm.Cond := Jvm.Cond.code (k_y k) (k_cc k) (k_ml k) (k_rt k) :: wsL_law0
def ck_rm (k : ck_K) : Room := { frames := k_fr k, cells := 0, slots := 0, locals := k_lo k }
def ck_nest : List Jvm.Cond := [.methodLinkNest RX1 81 yX11_has RX11, .methodLinkNest RX2 81 yX11_has RX11, .methodLinkNest RX5 61 yX11_has RX11, .methodLinkNest RX6 93 yX11_has RX11, .methodLinkNest RX7 96 yX11_has RX11, .methodLinkNest RX9 136 yX11_has RX11]
def ck_XE (pvv : Nat → Int32) : Nat → Int := fun n => (pvv (n / 2 - 1000)).toInt
def ck_args (ty : Nat → Option Nat) : List ck_AV → List Value → Prop
  | [], [] => True
  | av :: pa, v :: vs => ck_v ty (fun _ => 0) av v ∧ ck_args ty pa vs
  | _, _ => False
def ck_pvo (ty : Nat → Option Nat) (X : Nat → Int) (pv : List ck_AV) (pvv : Nat → Int32) : Prop := ∀ (j : Nat) (av : ck_AV), pv[j]? = some av → ck_v ty X av (.int (pvv j))
def ck_rv (ty : Nat → Option Nat) (av : Option ck_AV) (r : Option Value) : Prop := match av, r with
  | none, none => True
  | some av, some v => ck_v ty (fun _ => 0) av v
  | _, _ => False
def ck_caseOK (ty : Nat → Option Nat) (cs : ck_Case) (vs : List Value) (pvv pvv' : Nat → Int32) (r : Option Value) : Prop :=
  ck_rv ty cs.1 r ∧ (∀ q ∈ cs.2.1, ∃ x : Int32, vs[q.1]? = some (.int x) ∧ q.2.1 ≤ x.toInt ∧ x.toInt ≤ q.2.2) ∧ ck_pvo ty (ck_XE pvv) cs.2.2 pvv'
def ck_Qc (D : va_G) (cys : Nat → ClassId) (ty : Nat → Option Nat) (tg : List ck_TD) (pvT : List (Nat × Nat)) (Ex : va_W → Prop) (k : ck_K) (vs : List Value) (pvv : Nat → Int32) : Array Value → State → Outcome → State → Prop := fun _ st oc t =>
  (∃ cs ∈ k_cs k, ∃ (r : Option Value) (pvv' : Nat → Int32), oc = .returned r ∧ ck_caseOK ty cs vs pvv pvv' r ∧ ck_Wo D cys ty tg pvT Ex pvv' t.heap) ∧ va_F (ck_own ty) st t
def ck_B (D : va_G) (cys : Nat → ClassId) (ty : Nat → Option Nat) (tg : List ck_TD) (pvT : List (Nat × Nat)) (Ex : va_W → Prop) (pvv : Nat → Int32) (U : State) : Prop := ck_Wo D cys ty tg pvT Ex pvv U.heap ∧ va_K D ck_cl (ck_tys cys) U ∧ ∀ w ∈ ck_nest, va_Nw w U
def ck_Holds (l : Launch) (D : va_G) (cys : Nat → ClassId) (ty : Nat → Option Nat) (tg : List ck_TD) (pvT : List (Nat × Nat)) (Ex : va_W → Prop) (k : ck_K) : Prop := ∀ (vs : List Value) (pvv : Nat → Int32), ck_args ty (k_pa k) vs → ck_pvo ty (ck_XE pvv) (k_pr k) pvv → Met l (k_y k) (ck_ws k) (ck_rm k) (va_Pc vs (ck_B D cys ty tg pvT Ex pvv)) (ck_Qc D cys ty tg pvT Ex k vs pvv) 0 0 (ck_own ty)
/-! locals and stack -/
def ck_L (ty : Nat → Option Nat) (X : Nat → Int) : List (Nat × ck_AV) → List (Nat × Value) → Prop
  | [], [] => True
  | q :: L, r :: lv => (q.1 = r.1 ∧ ck_v ty X q.2 r.2) ∧ ck_L ty X L lv
  | _, _ => False
def ck_src (lv : List (Nat × Value)) (pvv : Nat → Int32) (src : Nat) (v : Value) : Prop := (src < 1000 → ∀ r ∈ lv, r.1 + 1 = src → r.2 = v) ∧ (1000 ≤ src → v = .int (pvv (src - 1000)))
def ck_st (ty : Nat → Option Nat) (X : Nat → Int) (lv : List (Nat × Value)) (pvv : Nat → Int32) : List (ck_AV × Nat) → List Value → Prop
  | [], [] => True
  | q :: st, v :: vs => (ck_v ty X q.1 v ∧ ck_src lv pvv q.2 v) ∧ ck_st ty X lv pvv st vs
  | _, _ => False
def ck_load : List (Nat × ck_AV) → Nat → Option ck_AV
  | [], _ => none
  | q :: r, i => if q.1 = i then some q.2 else ck_load r i
theorem ck_load_ok {ty : Nat → Option Nat} {X : Nat → Int} {i : Nat} {av : ck_AV} : ∀ {L : List (Nat × ck_AV)} {lv : List (Nat × Value)}, ck_L ty X L lv → ck_load L i = some av → ∃ v, (i, v) ∈ lv ∧ ck_v ty X av v
  | [], [], _, h => by cases h
  | q :: L, r :: lv, hL, h => by
    unfold ck_load at h
    split at h
    · next e =>
      cases h
      refine ⟨r.2, ?_, hL.1.2⟩
      rw [← e, hL.1.1]
      exact List.mem_cons_self
    · obtain ⟨v, h1, h2⟩ := ck_load_ok hL.2 h
      exact ⟨v, List.mem_cons_of_mem _ h1, h2⟩
def ck_put1 (L : List (Nat × ck_AV)) (i : Nat) (av : ck_AV) : List (Nat × ck_AV) := (i, av) :: L.filter (fun q => !(q.1 == i) && !(q.1 + 1 == i && ck_cat q.2 == 2))
theorem ck_filter_ok {ty : Nat → Option Nat} {X : Nat → Int} {i : Nat} : ∀ {L : List (Nat × ck_AV)} {lv : List (Nat × Value)}, ck_L ty X L lv → ck_L ty X (L.filter (fun q => !(q.1 == i) && !(q.1 + 1 == i && ck_cat q.2 == 2))) (lv.filter (fun q => !(q.1 == i) && !(q.1 + 1 == i && q.2.category == 2)))
  | [], [], _ => True.intro
  | q :: L, r :: lv, hL => by
    have ih := ck_filter_ok (i := i) hL.2
    have e1 := hL.1.1
    have e2 := ck_v_cat hL.1.2
    rw [List.filter_cons, List.filter_cons, e2, ← e1]
    split
    · exact ⟨hL.1, ih⟩
    · exact ih
def ck_clr (f : Nat → Bool) (st : List (ck_AV × Nat)) : List (ck_AV × Nat) := st.map (fun q => if f q.2 then (q.1, 0) else q)
theorem ck_clr_ok {ty : Nat → Option Nat} {X : Nat → Int} {lv lv' : List (Nat × Value)} {pvv pvv' : Nat → Int32} {f : Nat → Bool} (h : ∀ src v, f src = false → ck_src lv pvv src v → ck_src lv' pvv' src v) : ∀ {st : List (ck_AV × Nat)} {vs : List Value}, ck_st ty X lv pvv st vs → ck_st ty X lv' pvv' (ck_clr f st) vs
  | [], [], _ => True.intro
  | q :: st, v :: vs, hs => by
    have ih := ck_clr_ok h hs.2
    refine ⟨?_, ih⟩
    dsimp only
    by_cases e : f q.2 = true
    · rw [if_pos e]
      exact ⟨hs.1.1, fun _ r _ hr => by omega, fun hr => by omega⟩
    · rw [if_neg e]
      exact ⟨hs.1.1, h _ _ (by simpa using e) hs.1.2⟩
abbrev ck_Ds : Type := List (Nat × Int × Int)
def ck_meetI (r : ck_I) (lo hi : Int) (ds : ck_Ds) : ck_I := (max r.1 lo, min r.2.1 hi, ds ++ r.2.2)
def ck_meet (av : ck_AV) (lo hi : Int) (ds : ck_Ds) : ck_AV := match av with
  | .inl r => .inl (ck_meetI r lo hi ds)
  | x => x
theorem ck_meet_ok {ty : Nat → Option Nat} {X : Nat → Int} {av : ck_AV} {x : Int32} {lo hi : Int} {ds : ck_Ds} (h : ck_v ty X av (.int x)) (h1 : lo ≤ x.toInt) (h2 : x.toInt ≤ hi) (hd : ck_d X x.toInt ds) : ck_v ty X (ck_meet av lo hi ds) (.int x) := by
  match av, h with
  | .inl r, h =>
    obtain ⟨y, e, a1, a2, a3⟩ := h
    cases e
    exact ⟨x, rfl, by simp only [ck_meetI]; omega, by simp only [ck_meetI]; omega, ck_d_app hd a3⟩
  | .inr (.inl t), h => obtain ⟨a, e, -⟩ := h; cases e
  | .inr (.inr u), h => obtain ⟨a, e⟩ := h; cases e
def ck_refL (L : List (Nat × ck_AV)) (src : Nat) (lo hi : Int) (ds : ck_Ds) : List (Nat × ck_AV) := L.map (fun q => if q.1 + 1 = src then (q.1, ck_meet q.2 lo hi ds) else q)
theorem ck_refL_ok {ty : Nat → Option Nat} {X : Nat → Int} {src : Nat} {x : Int32} {lo hi : Int} {ds : ck_Ds} (h1 : lo ≤ x.toInt) (h2 : x.toInt ≤ hi) (hd : ck_d X x.toInt ds) : ∀ {L : List (Nat × ck_AV)} {lv : List (Nat × Value)}, ck_L ty X L lv → (∀ r ∈ lv, r.1 + 1 = src → r.2 = .int x) → ck_L ty X (ck_refL L src lo hi ds) lv
  | [], [], _, _ => True.intro
  | q :: L, r :: lv, hL, hs => by
    have ih := ck_refL_ok h1 h2 hd hL.2 (fun r hr => hs r (List.mem_cons_of_mem _ hr))
    refine ⟨?_, ih⟩
    dsimp only
    by_cases e : q.1 + 1 = src
    · rw [if_pos e]
      have e2 := hs r List.mem_cons_self (by rw [← hL.1.1]; exact e)
      have e3 := hL.1.2
      rw [e2] at e3
      refine ⟨hL.1.1, ?_⟩
      rw [e2]
      exact ck_meet_ok e3 h1 h2 hd
    · rw [if_neg e]
      exact hL.1
def ck_refP (pv : List ck_AV) (j : Nat) (lo hi : Int) (ds : ck_Ds) : List ck_AV := match pv[j]? with
  | some av => pv.set j (ck_meet av lo hi ds)
  | none => pv
theorem ck_refP_ok {ty : Nat → Option Nat} {X : Nat → Int} {pv : List ck_AV} {pvv : Nat → Int32} {j : Nat} {lo hi : Int} {ds : ck_Ds} (h : ck_pvo ty X pv pvv) (h1 : lo ≤ (pvv j).toInt) (h2 : (pvv j).toInt ≤ hi) (hd : ck_d X (pvv j).toInt ds) : ck_pvo ty X (ck_refP pv j lo hi ds) pvv := by
  unfold ck_refP
  split
  · next av e =>
    intro i bv hi'
    by_cases hij : j = i
    · subst hij
      rw [List.getElem?_set_self (List.getElem?_eq_some_iff.mp e).1] at hi'
      cases hi'
      exact ck_meet_ok (h j av e) h1 h2 hd
    · rw [List.getElem?_set_ne hij] at hi'
      exact h i bv hi'
  · exact h
def ck_ref (A : ck_AS) (src : Nat) (lo hi : Int) (ds : ck_Ds) : ck_AS := (if src < 1000 then ck_refL A.1 src lo hi ds else A.1, A.2.1, if 1000 ≤ src then ck_refP A.2.2 (src - 1000) lo hi ds else A.2.2)
/-- what a state of the machine is to a state of the checker -/
def ck_sat (D : va_G) (cys : Nat → ClassId) (ty : Nat → Option Nat) (tg : List ck_TD) (pvT : List (Nat × Nat)) (Ex : va_W → Prop) (nL : Nat) (H0 : Heap) (X : Nat → Int) (A : ck_AS) (ls : Array Slot) (st : List Value) (pvv : Nat → Int32) (H : Heap) (locs : List Loc) : Prop :=
  ∃ lv : List (Nat × Value), lv_has ls nL lv ∧ ck_L ty X A.1 lv ∧ ck_st ty X lv pvv A.2.1 st ∧ ck_pvo ty X A.2.2 pvv ∧ ck_Wo D cys ty tg pvT Ex pvv H ∧ va_S (ck_own ty) H0 H locs
theorem ck_ref_ok {ty : Nat → Option Nat} {X : Nat → Int} {lv : List (Nat × Value)} {pvv : Nat → Int32} {L : List (Nat × ck_AV)} {pv : List ck_AV} {src : Nat} {x : Int32} {lo hi : Int} {ds : ck_Ds} (hs : ck_src lv pvv src (.int x)) (h1 : lo ≤ x.toInt) (h2 : x.toInt ≤ hi) (hd : ck_d X x.toInt ds) (hL : ck_L ty X L lv) (hp : ck_pvo ty X pv pvv) :
    ck_L ty X (if src < 1000 then ck_refL L src lo hi ds else L) lv ∧ ck_pvo ty X (if 1000 ≤ src then ck_refP pv (src - 1000) lo hi ds else pv) pvv := by
  by_cases e : src < 1000
  · rw [if_pos e, if_neg (by omega)]
    exact ⟨ck_refL_ok h1 h2 hd hL (hs.1 e), hp⟩
  · rw [if_neg e, if_pos (by omega)]
    have e2 := hs.2 (by omega)
    cases e2
    exact ⟨hL, ck_refP_ok hp h1 h2 hd⟩
/-! a range of a value is a range of its starting value, and so of all that is tied to it -/
def ck_redG (x : Nat) (a b : Int) : ck_Ds → ck_I → ck_I
  | [], r => r
  | d :: ds, r => ck_redG x a b ds (if d.1 = x then (max r.1 (a + d.2.1), min r.2.1 (b + d.2.2), r.2.2) else r)
theorem ck_redG_ok {X : Nat → Int} {x : Nat} {a b n : Int} (h1 : a ≤ X x) (h2 : X x ≤ b) : ∀ {ds : ck_Ds} {r : ck_I}, ck_d X n ds → ck_i X r n → ck_i X (ck_redG x a b ds r) n
  | [], r, _, hr => hr
  | d :: ds, r, hd, hr => by
    unfold ck_redG
    refine ck_redG_ok h1 h2 (fun z hz => hd z (List.mem_cons_of_mem _ hz)) ?_
    split
    · next e =>
      have h3 := hd d List.mem_cons_self
      rw [e] at h3
      obtain ⟨r1, r2, r3⟩ := hr
      exact ⟨by dsimp only; omega, by dsimp only; omega, r3⟩
    · exact hr
def ck_redV (x : Nat) (a b : Int) (av : ck_AV) : ck_AV := match av with
  | .inl r => .inl (ck_redG x a b r.2.2 r)
  | y => y
theorem ck_redV_ok {ty : Nat → Option Nat} {X : Nat → Int} {x : Nat} {a b : Int} (h1 : a ≤ X x) (h2 : X x ≤ b) {av : ck_AV} {v : Value} (h : ck_v ty X av v) : ck_v ty X (ck_redV x a b av) v := by
  match av, h with
  | .inl r, h =>
    obtain ⟨y, e, g⟩ := h
    exact ⟨y, e, ck_redG_ok h1 h2 g.2.2 g⟩
  | .inr (.inl t), h => exact h
  | .inr (.inr u), h => exact h
def ck_redL (x : Nat) (a b : Int) (L : List (Nat × ck_AV)) : List (Nat × ck_AV) := L.map (fun q => (q.1, ck_redV x a b q.2))
theorem ck_redL_ok {ty : Nat → Option Nat} {X : Nat → Int} {x : Nat} {a b : Int} (h1 : a ≤ X x) (h2 : X x ≤ b) : ∀ {L : List (Nat × ck_AV)} {lv : List (Nat × Value)}, ck_L ty X L lv → ck_L ty X (ck_redL x a b L) lv
  | [], [], _ => True.intro
  | q :: L, r :: lv, h => ⟨⟨h.1.1, ck_redV_ok h1 h2 h.1.2⟩, ck_redL_ok h1 h2 h.2⟩
theorem ck_redP_ok {ty : Nat → Option Nat} {X : Nat → Int} {x : Nat} {a b : Int} (h1 : a ≤ X x) (h2 : X x ≤ b) {P : List ck_AV} {pvv : Nat → Int32} (h : ck_pvo ty X P pvv) : ck_pvo ty X (P.map (ck_redV x a b)) pvv := by
  intro j av hj
  rw [List.getElem?_map] at hj
  cases hq : P[j]? with
  | none => rw [hq] at hj; cases hj
  | some bv =>
    rw [hq] at hj
    cases hj
    exact ck_redV_ok h1 h2 (h j bv hq)
def ck_redLP (lo hi : Int) : ck_Ds → List (Nat × ck_AV) × List ck_AV → List (Nat × ck_AV) × List ck_AV
  | [], q => q
  | d :: ds, q => ck_redLP lo hi ds (ck_redL d.1 (lo - d.2.2) (hi - d.2.1) q.1, q.2.map (ck_redV d.1 (lo - d.2.2) (hi - d.2.1)))
theorem ck_redLP_ok {ty : Nat → Option Nat} {X : Nat → Int} {lv : List (Nat × Value)} {pvv : Nat → Int32} {lo hi n : Int} (h1 : lo ≤ n) (h2 : n ≤ hi) : ∀ {ds : ck_Ds} {q : List (Nat × ck_AV) × List ck_AV}, ck_d X n ds → ck_L ty X q.1 lv → ck_pvo ty X q.2 pvv → ck_L ty X (ck_redLP lo hi ds q).1 lv ∧ ck_pvo ty X (ck_redLP lo hi ds q).2 pvv
  | [], q, _, hL, hP => ⟨hL, hP⟩
  | d :: ds, q, hd, hL, hP => by
    have h3 := hd d List.mem_cons_self
    unfold ck_redLP
    exact ck_redLP_ok h1 h2 (fun z hz => hd z (List.mem_cons_of_mem _ hz)) (ck_redL_ok (by omega) (by omega) hL) (ck_redP_ok (by omega) (by omega) hP)
def ck_redA (A : ck_AS) (lo hi : Int) (ds : ck_Ds) : ck_AS := ((ck_redLP lo hi ds (A.1, A.2.2)).1, A.2.1, (ck_redLP lo hi ds (A.1, A.2.2)).2)
