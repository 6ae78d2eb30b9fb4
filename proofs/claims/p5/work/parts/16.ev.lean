/-! THE EXACT LOGIC, 1: numbers, memory by sort and place, worlds. -/
abbrev ev_V : Type := Int ⊕ (Nat ⊕ Int)
abbrev ev_C : Type := Nat → Nat → Int
def ev_u (C : ev_C) (t j : Nat) (n : Int) : ev_C := fun t' j' => if t' = t ∧ j' = j then n else C t' j'
theorem ev_us {C : ev_C} {t j : Nat} {n : Int} : ev_u C t j n t j = n := if_pos ⟨rfl, rfl⟩
theorem ev_un {C : ev_C} {t j t' j' : Nat} {n : Int} (h : ¬ (t' = t ∧ j' = j)) : ev_u C t j n t' j' = C t' j' := if_neg h
theorem ev_ut {C : ev_C} {t j t' : Nat} {n : Int} (h : t' ≠ t) : ev_u C t j n t' = C t' := funext (fun _ => if_neg (fun q => h q.1))
def ev_v (ty : Nat → Option Nat) (v : ev_V) (w : Value) : Prop := match v with
  | .inl n => ∃ x : Int32, w = .int x ∧ x.toInt = n
  | .inr (.inl t) => ∃ a : Nat, w = .ref a ∧ ty a = some t
  | .inr (.inr n) => ∃ x : Int64, w = .long x ∧ x.toInt = n
def ev_cat (v : ev_V) : Nat := match v with
  | .inr (.inr _) => 2
  | _ => 1
theorem ev_v_cat {ty : Nat → Option Nat} {v : ev_V} {w : Value} (h : ev_v ty v w) : w.category = ev_cat v := by
  match v, h with
  | .inl r, h => obtain ⟨x, rfl, -⟩ := h; rfl
  | .inr (.inl t), h => obtain ⟨a, rfl, -⟩ := h; rfl
  | .inr (.inr u), h => obtain ⟨x, rfl, -⟩ := h; rfl
def ev_vs (ty : Nat → Option Nat) : List ev_V → List Value → Prop
  | [], [] => True
  | v :: S, w :: st => ev_v ty v w ∧ ev_vs ty S st
  | _, _ => False
def ev_L (ty : Nat → Option Nat) : List (Nat × ev_V) → List (Nat × Value) → Prop
  | [], [] => True
  | q :: L, r :: lv => (q.1 = r.1 ∧ ev_v ty q.2 r.2) ∧ ev_L ty L lv
  | _, _ => False
def ev_rv (ty : Nat → Option Nat) (r : Option ev_V) (v : Option Value) : Prop := match r, v with
  | none, none => True
  | some r, some v => ev_v ty r v
  | _, _ => False
def ev_get : List (Nat × ev_V) → Nat → Option ev_V
  | [], _ => none
  | q :: r, i => if q.1 = i then some q.2 else ev_get r i
theorem ev_get_ok {ty : Nat → Option Nat} {i : Nat} {v : ev_V} : ∀ {L : List (Nat × ev_V)} {lv : List (Nat × Value)}, ev_L ty L lv → ev_get L i = some v → ∃ w, (i, w) ∈ lv ∧ ev_v ty v w
  | [], [], _, h => by cases h
  | q :: L, r :: lv, hL, h => by
    unfold ev_get at h
    split at h
    · next e =>
      cases h
      refine ⟨r.2, ?_, hL.1.2⟩
      rw [← e, hL.1.1]
      exact List.mem_cons_self
    · obtain ⟨w, h1, h2⟩ := ev_get_ok hL.2 h
      exact ⟨w, List.mem_cons_of_mem _ h1, h2⟩
def ev_put1 (L : List (Nat × ev_V)) (i : Nat) (v : ev_V) : List (Nat × ev_V) := (i, v) :: L.filter (fun q => !(q.1 == i) && !(q.1 + 1 == i && ev_cat q.2 == 2))
theorem ev_filter_ok {ty : Nat → Option Nat} {i : Nat} : ∀ {L : List (Nat × ev_V)} {lv : List (Nat × Value)}, ev_L ty L lv → ev_L ty (L.filter (fun q => !(q.1 == i) && !(q.1 + 1 == i && ev_cat q.2 == 2))) (lv.filter (fun q => !(q.1 == i) && !(q.1 + 1 == i && q.2.category == 2)))
  | [], [], _ => True.intro
  | q :: L, r :: lv, hL => by
    have ih := ev_filter_ok (i := i) hL.2
    have e1 := hL.1.1
    have e2 := ev_v_cat hL.1.2
    rw [List.filter_cons, List.filter_cons, e2, ← e1]
    split
    · exact ⟨hL.1, ih⟩
    · exact ih
def ev_ar : Nat → List ev_V → List (Nat × ev_V)
  | _, [] => []
  | i, v :: vs => (i, v) :: ev_ar (if ev_cat v = 2 then i + 2 else i + 1) vs
theorem ev_ar_ok {ty : Nat → Option Nat} : ∀ {A : List ev_V} {vs : List Value} {i : Nat}, ev_vs ty A vs → ev_L ty (ev_ar i A) (lv_args i vs)
  | [], [], _, _ => True.intro
  | v :: A, w :: vs, i, h => by
    unfold ev_ar lv_args
    rw [ev_v_cat h.1]
    exact ⟨⟨rfl, h.1⟩, ev_ar_ok h.2⟩
theorem ev_vs_len {ty : Nat → Option Nat} : ∀ {A : List ev_V} {vs : List Value}, ev_vs ty A vs → vs.length = A.length
  | [], [], _ => rfl
  | _ :: _, _ :: _, h => by rw [List.length_cons, List.length_cons, ev_vs_len h.2]
theorem ev_vs_sum {ty : Nat → Option Nat} : ∀ {A : List ev_V} {vs : List Value}, ev_vs ty A vs → (vs.map fun v => v.category).sum = (A.map ev_cat).sum
  | [], [], _ => rfl
  | _ :: _, _ :: _, h => by rw [List.map_cons, List.map_cons, List.sum_cons, List.sum_cons, ev_v_cat h.1, ev_vs_sum h.2]
theorem ev_sl_len {ty : Nat → Option Nat} : ∀ {A : List ev_V} {vs : List Value}, ev_vs ty A vs → (lg_sl vs).length = (A.map ev_cat).sum
  | [], [], _ => rfl
  | a :: A, v :: vs, h => by
    have ih := ev_sl_len h.2
    have h1 := ev_v_cat h.1
    simp only [lg_sl, List.flatMap_cons, List.length_append, List.map_cons, List.sum_cons] at ih ⊢
    rw [ih, h1]
    have h2 : ev_cat a = 1 ∨ ev_cat a = 2 := by
      match a with
      | .inl _ => exact Or.inl rfl
      | .inr (.inl _) => exact Or.inl rfl
      | .inr (.inr _) => exact Or.inr rfl
    rcases h2 with h2 | h2 <;> rw [h2] <;> simp
theorem ev_vs_app {ty : Nat → Option Nat} {c : List ev_V} {d : List Value} (h2 : ev_vs ty c d) : ∀ {a : List ev_V} {b : List Value}, ev_vs ty a b → ev_vs ty (a ++ c) (b ++ d)
  | [], [], _ => h2
  | _ :: _, _ :: _, h => ⟨h.1, ev_vs_app h2 h.2⟩
theorem ev_vs_rev {ty : Nat → Option Nat} : ∀ {a : List ev_V} {b : List Value}, ev_vs ty a b → ev_vs ty a.reverse b.reverse
  | [], [], _ => True.intro
  | a :: _, b :: _, h => by
    rw [List.reverse_cons, List.reverse_cons]
    have e4 : ev_vs ty [a] [b] := ⟨h.1, True.intro⟩
    exact ev_vs_app e4 (ev_vs_rev h.2)
theorem ev_vs_split {ty : Nat → Option Nat} {T : List ev_V} : ∀ {A : List ev_V} {st : List Value}, ev_vs ty (A ++ T) st → ∃ vs rest, st = vs ++ rest ∧ ev_vs ty A vs ∧ ev_vs ty T rest
  | [], st, h => ⟨[], st, rfl, True.intro, h⟩
  | a :: A, [], h => h.elim
  | a :: A, v :: st, h => by
    obtain ⟨vs, rest, e, h1, h2⟩ := ev_vs_split (A := A) h.2
    exact ⟨v :: vs, rest, by rw [e]; rfl, ⟨h.1, h1⟩, h2⟩
def ev_f (ty : Nat → Option Nat) (ft : ck_AV) (b : Bool) (n : Int) (w : Value) : Prop := match ft with
  | .inl _ => ∃ x : Int32, w = .int x ∧ (b = true → x.toInt = n)
  | .inr (.inl t) => ∃ a : Nat, w = .ref a ∧ ty a = some t
  | .inr (.inr _) => ∃ x : Int64, w = .long x ∧ (b = true → x.toInt = n)
def ev_e (ty : Nat → Option Nat) (cys : Nat → ClassId) (td : ck_TD) (b : Bool) (c : Nat → Int) (en : va_E) : Prop := match td with
  | .inl o => ∃ fs : List Value, en = .inr (o.1, fs) ∧ fs.length = o.2.length ∧ ∀ (k : Nat) (ft : ck_AV), o.2[k]? = some ft → ∃ v, fs[k]? = some v ∧ ev_f ty ft b (c k) v
  | .inr r => (r.1 < 3 ∧ ∃ f : Nat → Int32, en = .inl (cys r.1, r.2.1, .inl f) ∧ (b = true → ∀ j, j < r.2.1 → (f j).toInt = c j))
      ∨ (r.1 = 3 ∧ ∃ f : Nat → Int64, en = .inl (cys 3, r.2.1, .inr (.inl f)) ∧ (b = true → ∀ j, j < r.2.1 → (f j).toInt = c j))
      ∨ ((r.1 = 4 ∨ r.1 = 5) ∧ ∃ f : Nat → Option Nat, en = .inl (cys r.1, r.2.1, .inr (.inr (.inr (.inr f)))) ∧ ∀ j, j < r.2.1 → ∃ a : Nat, f j = some a ∧ ty a = some (ck_et r.1 r.2.2.2 j))
def ev_T (ty : Nat → Option Nat) (cys : Nat → ClassId) (tg : List ck_TD) (TR : Nat → Bool) (C : ev_C) (ws : va_W) : Prop := ∀ a t : Nat, ty a = some t → ∃ (q : Nat) (en : va_E) (td : ck_TD), ws[q]? = some (a, en) ∧ tg[t]? = some td ∧ ev_e ty cys td (TR t) (C t) en
def ev_Wo (D : va_G) (cys : Nat → ClassId) (ty : Nat → Option Nat) (tg : List ck_TD) (TR : Nat → Bool) (C : ev_C) (H : Heap) : Prop := ∃ ws : va_W, va_P D ck_cl ws H ∧ va_D (ck_own ty) ws ∧ ev_T ty cys tg TR C ws
def ev_uq (ty : Nat → Option Nat) (TR : Nat → Bool) : Prop := ∀ t : Nat, TR t = true → ∀ a a' : Nat, ty a = some t → ty a' = some t → a' = a
theorem ev_set {ty : Nat → Option Nat} {cys : Nat → ClassId} {tg : List ck_TD} {TR : Nat → Bool} {C C' : ev_C} {ws : va_W} {q a t : Nat} {en en' : va_E} {td : ck_TD} (hU : ev_uq ty TR) (hD : va_D (ck_own ty) ws) (hT : ev_T ty cys tg TR C ws) (hq : ws[q]? = some (a, en)) (hta : ty a = some t) (htd : tg[t]? = some td) (he : ev_e ty cys td (TR t) (C' t) en') (hC : ∀ t', t' ≠ t → C' t' = C t') (hC2 : TR t = false → C' t = C t) : ev_T ty cys tg TR C' (ws.set q (a, en')) := by
  have hlt : q < ws.length := (List.getElem?_eq_some_iff.mp hq).1
  intro a' t' h'
  obtain ⟨q', en2, td2, g1, g2, g3⟩ := hT a' t' h'
  by_cases hqq : q = q'
  · subst hqq
    rw [hq] at g1
    cases g1
    rw [hta] at h'
    cases h'
    exact ⟨q, en', td, by rw [List.getElem?_set_self hlt], htd, he⟩
  · refine ⟨q', en2, td2, by rw [List.getElem?_set_ne hqq]; exact g1, g2, ?_⟩
    by_cases e : t' = t
    · subst e
      cases hb : TR t' with
      | true =>
        have := hU t' hb a a' hta h'
        subst this
        exact absurd ((ck_D1 hD hq g1).1).symm hqq
      | false =>
        rw [hC2 hb]
        rw [hb] at g3
        exact g3
    · rw [hC t' e]
      exact g3
/-! arithmetic -/
def ev_w (n : Int) : Int := n.bmod (2 ^ 32)
def ev_w64 (n : Int) : Int := n.bmod (2 ^ 64)
def ev_b8 (n : Int) : Int := n.bmod (2 ^ 8)
def ev_and (a b : Int) : Int := (Int32.ofInt a &&& Int32.ofInt b).toInt
def ev_or (a b : Int) : Int := (Int32.ofInt a ||| Int32.ofInt b).toInt
def ev_shl (a b : Int) : Int := (Int32.ofInt a <<< (Int32.ofInt b &&& 31)).toInt
def ev_shr (a b : Int) : Int := (Int32.ofInt a >>> (Int32.ofInt b &&& 31)).toInt
def ev_lor (a b : Int) : Int := (Int64.ofInt a ||| Int64.ofInt b).toInt
def ev_lshl (a b : Int) : Int := (Int64.ofInt a <<< ((Int32.ofInt b).toInt64 &&& 63)).toInt
def ev_cmp (a b : Int) : Int := if b < a then 1 else if a = b then 0 else -1
theorem ev_w_id {n : Int} (h1 : -2147483648 ≤ n) (h2 : n ≤ 2147483647) : ev_w n = n := ck_bm h1 h2
theorem ev_cmp_ok (x y : Int64) : (lg_cmp x y).toInt = ev_cmp x.toInt y.toInt := by
  unfold lg_cmp ev_cmp
  simp only [gt_iff_lt, Int64.lt_iff_toInt_lt, ← Int64.toInt_inj]
  split
  · rfl
  · split
    · rfl
    · rfl
theorem ev_nar (x : Int32) : (vp_nar .byte x).toInt = ev_b8 x.toInt := by
  show (x.toInt8.toInt32).toInt = _
  rw [Int8.toInt_toInt32, Int32.toInt_toInt8]
  rfl
