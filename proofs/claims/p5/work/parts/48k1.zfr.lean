/-! THE TWO READERS ALIKE, 16: what the readers leave alone. -/
def fr (s : Nat → Bool) (C C' : ev_C) : Prop := ∀ t : Nat, s t = true → C' t = C t
theorem fr_rf {s : Nat → Bool} {C : ev_C} : fr s C C := fun _ _ => rfl
theorem fr.tr {s : Nat → Bool} {C C' C'' : ev_C} (h : fr s C C') (h' : fr s C' C'') : fr s C C'' := fun t ht => (h' t ht).trans (h t ht)
theorem fr_u {s : Nat → Bool} {C C' : ev_C} {t j : Nat} {v : Int} (ht : s t = false) (h : fr s C C') : fr s C (ev_u C' t j v) := fun t' h' => (ev_ut (fun e => by rw [e, ht] at h'; cases h')).trans (h t' h')
theorem fr_cp {s : Nat → Bool} {C C' : ev_C} {t t0 n : Nat} (ht : s t = false) (h : fr s C C') : fr s C (ev_cp C' t0 t n) := fun t' h' => (ev_cpt (fun e => by rw [e, ht] at h'; cases h')).trans (h t' h')
def FRi (s : Nat → Bool) (C : ev_C) (o : Option (Int × ev_C)) : Prop := ∀ r C', o = some (r, C') → fr s C C'
def FRv (s : Nat → Bool) (C : ev_C) (o : Option ev_C) : Prop := ∀ C', o = some C' → fr s C C'
theorem FRi_n {s : Nat → Bool} {C : ev_C} : FRi s C none := fun _ _ h => by cases h
theorem FRv_n {s : Nat → Bool} {C : ev_C} : FRv s C none := fun _ h => by cases h
theorem FRi_s {s : Nat → Bool} {C C' : ev_C} {r : Int} (h : fr s C C') : FRi s C (some (r, C')) := fun _ _ e => by cases e; exact h
theorem FRv_s {s : Nat → Bool} {C C' : ev_C} (h : fr s C C') : FRv s C (some C') := fun _ e => by cases e; exact h
theorem FRi_if {s : Nat → Bool} {C : ev_C} {c : Prop} {d : Decidable c} {a b : Option (Int × ev_C)} (ha : FRi s C a) (hb : FRi s C b) : FRi s C (if c then a else b) := by
  split
  · exact ha
  · exact hb
theorem FRv_if {s : Nat → Bool} {C : ev_C} {c : Prop} {d : Decidable c} {a b : Option ev_C} (ha : FRv s C a) (hb : FRv s C b) : FRv s C (if c then a else b) := by
  split
  · exact ha
  · exact hb
theorem FRi_t {s : Nat → Bool} {C C1 : ev_C} {o : Option (Int × ev_C)} (h : fr s C C1) (ho : FRi s C1 o) : FRi s C o := fun r C' e => h.tr (ho r C' e)
theorem FRv_t {s : Nat → Bool} {C C1 : ev_C} {o : Option ev_C} (h : fr s C C1) (ho : FRv s C1 o) : FRv s C o := fun C' e => h.tr (ho C' e)
theorem FRi_bd {s : Nat → Bool} {C C1 : ev_C} {o : Option (Int × ev_C)} {g : Int → ev_C → Option (Int × ev_C)} (h : fr s C C1) (ho : FRi s C1 o) (hg : ∀ r C2, fr s C C2 → FRi s C (g r C2)) : FRi s C (ev_bd o g) := fun r C' e => by
  obtain ⟨r1, C2, e1, e2⟩ := ev_bd_some e
  exact hg r1 C2 (h.tr (ho r1 C2 e1)) r C' e2
theorem FRi_bv {s : Nat → Bool} {C C1 : ev_C} {o : Option ev_C} {g : ev_C → Option (Int × ev_C)} (h : fr s C C1) (ho : FRv s C1 o) (hg : ∀ C2, fr s C C2 → FRi s C (g C2)) : FRi s C (ev_bv o g) := fun r C' e => by
  obtain ⟨C2, e1, e2⟩ := ev_bv_some e
  exact hg C2 (h.tr (ho C2 e1)) r C' e2
theorem FRv_bd {s : Nat → Bool} {C C1 : ev_C} {o : Option (Int × ev_C)} {g : Int → ev_C → Option ev_C} (h : fr s C C1) (ho : FRi s C1 o) (hg : ∀ r C2, fr s C C2 → FRv s C (g r C2)) : FRv s C (ev_bd o g) := fun C' e => by
  obtain ⟨r1, C2, e1, e2⟩ := ev_bd_some e
  exact hg r1 C2 (h.tr (ho r1 C2 e1)) C' e2
theorem FRv_bv {s : Nat → Bool} {C C1 : ev_C} {o : Option ev_C} {g : ev_C → Option ev_C} (h : fr s C C1) (ho : FRv s C1 o) (hg : ∀ C2, fr s C C2 → FRv s C (g C2)) : FRv s C (ev_bv o g) := fun C' e => by
  obtain ⟨C2, e1, e2⟩ := ev_bv_some e
  exact hg C2 (h.tr (ho C2 e1)) C' e2
theorem FRi_mono {s s' : Nat → Bool} {C : ev_C} {o : Option (Int × ev_C)} (hs : ∀ t, s' t = true → s t = true) (h : FRi s C o) : FRi s' C o := fun r C' e t ht => h r C' e t (hs t ht)
theorem FRv_mono {s s' : Nat → Bool} {C : ev_C} {o : Option ev_C} (hs : ∀ t, s' t = true → s t = true) (h : FRv s C o) : FRv s' C o := fun C' e t ht => h C' e t (hs t ht)
/-- what the class's reader, the reference's (but for what is told), the reference's lines leave alone -/
def sC (t : Nat) : Bool := t == 6 || t == 67 || t == 68 || t == 69 || t == 78 || t == 79 || t == 80
def sA (t : Nat) : Bool := !(t == 12)
def sB (t : Nat) : Bool := !(t == 12) && !(t == 35)
theorem A_B : ∀ t, sB t = true → sA t = true := fun t h => by
  simp only [sA, sB, Bool.and_eq_true] at h ⊢
  exact h.1
theorem fr_10_byteAt (C : ev_C) (y0 : Int) : FRi sC C (f_10_byteAt C y0) := by
  unfold f_10_byteAt
  repeat' (first | with_reducible exact FRi_n | with_reducible refine FRi_if ?_ ?_ | with_reducible refine FRi_s ?_ | exact fr_rf | assumption | refine fr_u (by decide) ?_ | refine fr_cp (by decide) ?_)
theorem fr_8_isLetter (C : ev_C) (y0 : Int) : FRi sC C (f_8_isLetter C y0) := by
  unfold f_8_isLetter
  repeat' (first | with_reducible exact FRi_n | with_reducible refine FRi_if ?_ ?_ | with_reducible refine FRi_s ?_ | exact fr_rf | assumption | refine fr_u (by decide) ?_ | refine fr_cp (by decide) ?_)
theorem fr_8_indexOf_16_L3 : ∀ (n : Nat) (C : ev_C) (y0 y1 y2 : Int), FRi sC C (f_8_indexOf_16_L3 n C y0 y1 y2)
  | 0, C, _, _, _ => FRi_n
  | n + 1, C, y0, y1, y2 => by
    unfold f_8_indexOf_16_L3
    repeat' (first | with_reducible exact FRi_n | with_reducible refine FRi_if ?_ ?_ | with_reducible refine FRi_s ?_ | with_reducible refine FRi_bd ?_ (fr_8_indexOf_16_L3 n _ _ _ _) (fun _ _ _ => ?_) | with_reducible refine FRi_t ?_ (fr_8_indexOf_16_L3 n _ _ _ _) | exact fr_rf | assumption | refine fr_u (by decide) ?_ | refine fr_cp (by decide) ?_)
theorem fr_8_indexOf_16 (C : ev_C) (y0 y1 : Int) : FRi sC C (f_8_indexOf_16 C y0 y1) := by
  unfold f_8_indexOf_16
  repeat' (first | with_reducible exact FRi_n | with_reducible refine FRi_if ?_ ?_ | with_reducible refine FRi_s ?_ | with_reducible refine FRi_bd ?_ (fr_8_indexOf_16_L3 _ _ _ _ _) (fun _ _ _ => ?_) | with_reducible refine FRi_t ?_ (fr_8_indexOf_16_L3 _ _ _ _ _) | exact fr_rf | assumption | refine fr_u (by decide) ?_ | refine fr_cp (by decide) ?_)
theorem fr_8_isDigit (C : ev_C) (y0 : Int) : FRi sC C (f_8_isDigit C y0) := by
  unfold f_8_isDigit
  repeat' (first | with_reducible exact FRi_n | with_reducible refine FRi_if ?_ ?_ | with_reducible refine FRi_s ?_ | exact fr_rf | assumption | refine fr_u (by decide) ?_ | refine fr_cp (by decide) ?_)
theorem fr_8_withLetter (C : ev_C) (y0 y1 : Int) : FRi sC C (f_8_withLetter C y0 y1) := by
  unfold f_8_withLetter
  repeat' (first | with_reducible exact FRi_n | with_reducible refine FRi_if ?_ ?_ | with_reducible refine FRi_s ?_ | exact fr_rf | assumption | refine fr_u (by decide) ?_ | refine fr_cp (by decide) ?_)
theorem fr_8_readRun_J142 (C : ev_C) (y0 y1 : Int) : FRv sC C (f_8_readRun_J142 C y0 y1) := by
  unfold f_8_readRun_J142
  repeat' (first | with_reducible exact FRv_n | with_reducible refine FRv_if ?_ ?_ | with_reducible refine FRv_s ?_ | exact fr_rf | assumption | refine fr_u (by decide) ?_ | refine fr_cp (by decide) ?_)
theorem fr_8_readRun_J104 (C : ev_C) (y0 y1 : Int) : FRv sC C (f_8_readRun_J104 C y0 y1) := by
  unfold f_8_readRun_J104
  repeat' (first | with_reducible exact FRv_n | with_reducible refine FRv_if ?_ ?_ | with_reducible refine FRv_s ?_ | with_reducible refine FRv_bv ?_ (fr_8_readRun_J142 _ _ _) (fun _ _ => ?_) | with_reducible refine FRv_t ?_ (fr_8_readRun_J142 _ _ _) | with_reducible refine FRv_bd ?_ (fr_8_indexOf_16 _ _ _) (fun _ _ _ => ?_) | exact fr_rf | assumption | refine fr_u (by decide) ?_ | refine fr_cp (by decide) ?_)
theorem fr_8_readRun_J91 {K14 : ev_C → Int → Int → Option ev_C} (hK14 : ∀ (C : ev_C) (z0 : Int) (z1 : Int), FRv sC C (K14 C z0 z1)) (C : ev_C) (y0 y1 y2 : Int) : FRv sC C (f_8_readRun_J91 K14 C y0 y1 y2) := by
  unfold f_8_readRun_J91
  repeat' (first | with_reducible exact FRv_n | with_reducible refine FRv_if ?_ ?_ | with_reducible refine FRv_s ?_ | with_reducible refine FRv_t ?_ (hK14 _ _ _) | exact fr_rf | assumption | refine fr_u (by decide) ?_ | refine fr_cp (by decide) ?_)
theorem fr_8_readRun_L14 : ∀ (n : Nat) (C : ev_C) (y0 y1 : Int), FRv sC C (f_8_readRun_L14 n C y0 y1)
  | 0, C, _, _ => FRv_n
  | n + 1, C, y0, y1 => by
    unfold f_8_readRun_L14
    repeat' (first | with_reducible exact FRv_n | with_reducible refine FRv_if ?_ ?_ | with_reducible refine FRv_s ?_ | with_reducible refine FRv_bv ?_ (fr_8_readRun_J104 _ _ _) (fun _ _ => ?_) | with_reducible refine FRv_t ?_ (fr_8_readRun_J104 _ _ _) | with_reducible refine FRv_bd ?_ (fr_10_byteAt _ _) (fun _ _ _ => ?_) | with_reducible refine FRv_bd ?_ (fr_8_isLetter _ _) (fun _ _ _ => ?_) | with_reducible refine FRv_bd ?_ (fr_8_isDigit _ _) (fun _ _ _ => ?_) | with_reducible refine FRv_bv ?_ (fr_8_readRun_J91 (fr_8_readRun_L14 n) _ _ _ _) (fun _ _ => ?_) | with_reducible refine FRv_t ?_ (fr_8_readRun_J91 (fr_8_readRun_L14 n) _ _ _ _) | with_reducible refine FRv_bd ?_ (fr_8_withLetter _ _ _) (fun _ _ _ => ?_) | exact fr_rf | assumption | refine fr_u (by decide) ?_ | refine fr_cp (by decide) ?_)
theorem fr_8_readRun (C : ev_C) : FRv sC C (f_8_readRun C) := by
  unfold f_8_readRun
  repeat' (first | with_reducible exact FRv_n | with_reducible refine FRv_if ?_ ?_ | with_reducible refine FRv_s ?_ | with_reducible refine FRv_bv ?_ (fr_8_readRun_L14 _ _ _ _) (fun _ _ => ?_) | with_reducible refine FRv_t ?_ (fr_8_readRun_L14 _ _ _ _) | exact fr_rf | assumption | refine fr_u (by decide) ?_ | refine fr_cp (by decide) ?_)
theorem fr_8_isSign (C : ev_C) (y0 : Int) : FRi sC C (f_8_isSign C y0) := by
  unfold f_8_isSign
  repeat' (first | with_reducible exact FRi_n | with_reducible refine FRi_if ?_ ?_ | with_reducible refine FRi_s ?_ | exact fr_rf | assumption | refine fr_u (by decide) ?_ | refine fr_cp (by decide) ?_)
theorem fr_8_isBlank (C : ev_C) (y0 : Int) : FRi sC C (f_8_isBlank C y0) := by
  unfold f_8_isBlank
  repeat' (first | with_reducible exact FRi_n | with_reducible refine FRi_if ?_ ?_ | with_reducible refine FRi_s ?_ | exact fr_rf | assumption | refine fr_u (by decide) ?_ | refine fr_cp (by decide) ?_)
theorem fr_8_step_J157 (C : ev_C) (y0 y1 : Int) : FRv sC C (f_8_step_J157 C y0 y1) := by
  unfold f_8_step_J157
  repeat' (first | with_reducible exact FRv_n | with_reducible refine FRv_if ?_ ?_ | with_reducible refine FRv_s ?_ | exact fr_rf | assumption | refine fr_u (by decide) ?_ | refine fr_cp (by decide) ?_)
theorem fr_8_step_J83 (C : ev_C) : FRv sC C (f_8_step_J83 C) := by
  unfold f_8_step_J83
  repeat' (first | with_reducible exact FRv_n | with_reducible refine FRv_if ?_ ?_ | with_reducible refine FRv_s ?_ | with_reducible refine FRv_bd ?_ (fr_10_byteAt _ _) (fun _ _ _ => ?_) | with_reducible refine FRv_bd ?_ (fr_8_isLetter _ _) (fun _ _ _ => ?_) | with_reducible refine FRv_bv ?_ (fr_8_readRun _) (fun _ _ => ?_) | with_reducible refine FRv_t ?_ (fr_8_readRun _) | with_reducible refine FRv_bd ?_ (fr_8_isDigit _ _) (fun _ _ _ => ?_) | with_reducible refine FRv_bd ?_ (fr_8_isSign _ _) (fun _ _ _ => ?_) | with_reducible refine FRv_bv ?_ (fr_8_step_J157 _ _ _) (fun _ _ => ?_) | with_reducible refine FRv_t ?_ (fr_8_step_J157 _ _ _) | exact fr_rf | assumption | refine fr_u (by decide) ?_ | refine fr_cp (by decide) ?_)
theorem fr_8_step_J44 (C : ev_C) : FRv sC C (f_8_step_J44 C) := by
  unfold f_8_step_J44
  repeat' (first | with_reducible exact FRv_n | with_reducible refine FRv_if ?_ ?_ | with_reducible refine FRv_s ?_ | with_reducible refine FRv_bv ?_ (fr_8_step_J83 _) (fun _ _ => ?_) | with_reducible refine FRv_t ?_ (fr_8_step_J83 _) | exact fr_rf | assumption | refine fr_u (by decide) ?_ | refine fr_cp (by decide) ?_)
theorem fr_8_step_L0 : ∀ (n : Nat) (C : ev_C), FRv sC C (f_8_step_L0 n C)
  | 0, C => FRv_n
  | n + 1, C => by
    unfold f_8_step_L0
    repeat' (first | with_reducible exact FRv_n | with_reducible refine FRv_if ?_ ?_ | with_reducible refine FRv_s ?_ | with_reducible refine FRv_bv ?_ (fr_8_step_J44 _) (fun _ _ => ?_) | with_reducible refine FRv_t ?_ (fr_8_step_J44 _) | with_reducible refine FRv_bd ?_ (fr_10_byteAt _ _) (fun _ _ _ => ?_) | with_reducible refine FRv_bd ?_ (fr_8_isBlank _ _) (fun _ _ _ => ?_) | with_reducible refine FRv_bv ?_ (fr_8_step_L0 n _) (fun _ _ => ?_) | with_reducible refine FRv_t ?_ (fr_8_step_L0 n _) | exact fr_rf | assumption | refine fr_u (by decide) ?_ | refine fr_cp (by decide) ?_)
theorem fr_8_step (C : ev_C) : FRv sC C (f_8_step C) := by
  unfold f_8_step
  repeat' (first | with_reducible exact FRv_n | with_reducible refine FRv_if ?_ ?_ | with_reducible refine FRv_s ?_ | with_reducible refine FRv_bv ?_ (fr_8_step_L0 _ _) (fun _ _ => ?_) | with_reducible refine FRv_t ?_ (fr_8_step_L0 _ _) | exact fr_rf | assumption | refine fr_u (by decide) ?_ | refine fr_cp (by decide) ?_)
theorem fr_8_open (C : ev_C) (y0 : Int) : FRv sC C (f_8_open C y0) := by
  unfold f_8_open
  repeat' (first | with_reducible exact FRv_n | with_reducible refine FRv_if ?_ ?_ | with_reducible refine FRv_s ?_ | with_reducible refine FRv_bv ?_ (fr_8_step _) (fun _ _ => ?_) | with_reducible refine FRv_t ?_ (fr_8_step _) | exact fr_rf | assumption | refine fr_u (by decide) ?_ | refine fr_cp (by decide) ?_)
theorem fr_15_fill_57_L5 : ∀ (n : Nat) (C : ev_C) (y0 y1 y2 : Int), FRv sC C (f_15_fill_57_L5 n C y0 y1 y2)
  | 0, C, _, _, _ => FRv_n
  | n + 1, C, y0, y1, y2 => by
    unfold f_15_fill_57_L5
    repeat' (first | with_reducible exact FRv_n | with_reducible refine FRv_if ?_ ?_ | with_reducible refine FRv_s ?_ | with_reducible refine FRv_bv ?_ (fr_15_fill_57_L5 n _ _ _ _) (fun _ _ => ?_) | with_reducible refine FRv_t ?_ (fr_15_fill_57_L5 n _ _ _ _) | exact fr_rf | assumption | refine fr_u (by decide) ?_ | refine fr_cp (by decide) ?_)
theorem fr_15_fill_57 (C : ev_C) (y0 : Int) : FRv sC C (f_15_fill_57 C y0) := by
  unfold f_15_fill_57
  repeat' (first | with_reducible exact FRv_n | with_reducible refine FRv_if ?_ ?_ | with_reducible refine FRv_s ?_ | with_reducible refine FRv_bv ?_ (fr_15_fill_57_L5 _ _ _ _ _) (fun _ _ => ?_) | with_reducible refine FRv_t ?_ (fr_15_fill_57_L5 _ _ _ _ _) | exact fr_rf | assumption | refine fr_u (by decide) ?_ | refine fr_cp (by decide) ?_)
theorem fr_15_fill_58_L5 : ∀ (n : Nat) (C : ev_C) (y0 y1 y2 : Int), FRv sC C (f_15_fill_58_L5 n C y0 y1 y2)
  | 0, C, _, _, _ => FRv_n
  | n + 1, C, y0, y1, y2 => by
    unfold f_15_fill_58_L5
    repeat' (first | with_reducible exact FRv_n | with_reducible refine FRv_if ?_ ?_ | with_reducible refine FRv_s ?_ | with_reducible refine FRv_bv ?_ (fr_15_fill_58_L5 n _ _ _ _) (fun _ _ => ?_) | with_reducible refine FRv_t ?_ (fr_15_fill_58_L5 n _ _ _ _) | exact fr_rf | assumption | refine fr_u (by decide) ?_ | refine fr_cp (by decide) ?_)
theorem fr_15_fill_58 (C : ev_C) (y0 : Int) : FRv sC C (f_15_fill_58 C y0) := by
  unfold f_15_fill_58
  repeat' (first | with_reducible exact FRv_n | with_reducible refine FRv_if ?_ ?_ | with_reducible refine FRv_s ?_ | with_reducible refine FRv_bv ?_ (fr_15_fill_58_L5 _ _ _ _ _) (fun _ _ => ?_) | with_reducible refine FRv_t ?_ (fr_15_fill_58_L5 _ _ _ _ _) | exact fr_rf | assumption | refine fr_u (by decide) ?_ | refine fr_cp (by decide) ?_)
theorem fr_15_fill_61_L5 : ∀ (n : Nat) (C : ev_C) (y0 y1 y2 : Int), FRv sC C (f_15_fill_61_L5 n C y0 y1 y2)
  | 0, C, _, _, _ => FRv_n
  | n + 1, C, y0, y1, y2 => by
    unfold f_15_fill_61_L5
    repeat' (first | with_reducible exact FRv_n | with_reducible refine FRv_if ?_ ?_ | with_reducible refine FRv_s ?_ | with_reducible refine FRv_bv ?_ (fr_15_fill_61_L5 n _ _ _ _) (fun _ _ => ?_) | with_reducible refine FRv_t ?_ (fr_15_fill_61_L5 n _ _ _ _) | exact fr_rf | assumption | refine fr_u (by decide) ?_ | refine fr_cp (by decide) ?_)
theorem fr_15_fill_61 (C : ev_C) (y0 : Int) : FRv sC C (f_15_fill_61 C y0) := by
  unfold f_15_fill_61
  repeat' (first | with_reducible exact FRv_n | with_reducible refine FRv_if ?_ ?_ | with_reducible refine FRv_s ?_ | with_reducible refine FRv_bv ?_ (fr_15_fill_61_L5 _ _ _ _ _) (fun _ _ => ?_) | with_reducible refine FRv_t ?_ (fr_15_fill_61_L5 _ _ _ _ _) | exact fr_rf | assumption | refine fr_u (by decide) ?_ | refine fr_cp (by decide) ?_)
theorem fr_15_fill_62_L5 : ∀ (n : Nat) (C : ev_C) (y0 y1 y2 : Int), FRv sC C (f_15_fill_62_L5 n C y0 y1 y2)
  | 0, C, _, _, _ => FRv_n
  | n + 1, C, y0, y1, y2 => by
    unfold f_15_fill_62_L5
    repeat' (first | with_reducible exact FRv_n | with_reducible refine FRv_if ?_ ?_ | with_reducible refine FRv_s ?_ | with_reducible refine FRv_bv ?_ (fr_15_fill_62_L5 n _ _ _ _) (fun _ _ => ?_) | with_reducible refine FRv_t ?_ (fr_15_fill_62_L5 n _ _ _ _) | exact fr_rf | assumption | refine fr_u (by decide) ?_ | refine fr_cp (by decide) ?_)
theorem fr_15_fill_62 (C : ev_C) (y0 : Int) : FRv sC C (f_15_fill_62 C y0) := by
  unfold f_15_fill_62
  repeat' (first | with_reducible exact FRv_n | with_reducible refine FRv_if ?_ ?_ | with_reducible refine FRv_s ?_ | with_reducible refine FRv_bv ?_ (fr_15_fill_62_L5 _ _ _ _ _) (fun _ _ => ?_) | with_reducible refine FRv_t ?_ (fr_15_fill_62_L5 _ _ _ _ _) | exact fr_rf | assumption | refine fr_u (by decide) ?_ | refine fr_cp (by decide) ?_)
theorem fr_15_fill_63_L5 : ∀ (n : Nat) (C : ev_C) (y0 y1 y2 : Int), FRv sC C (f_15_fill_63_L5 n C y0 y1 y2)
  | 0, C, _, _, _ => FRv_n
  | n + 1, C, y0, y1, y2 => by
    unfold f_15_fill_63_L5
    repeat' (first | with_reducible exact FRv_n | with_reducible refine FRv_if ?_ ?_ | with_reducible refine FRv_s ?_ | with_reducible refine FRv_bv ?_ (fr_15_fill_63_L5 n _ _ _ _) (fun _ _ => ?_) | with_reducible refine FRv_t ?_ (fr_15_fill_63_L5 n _ _ _ _) | exact fr_rf | assumption | refine fr_u (by decide) ?_ | refine fr_cp (by decide) ?_)
theorem fr_15_fill_63 (C : ev_C) (y0 : Int) : FRv sC C (f_15_fill_63 C y0) := by
  unfold f_15_fill_63
  repeat' (first | with_reducible exact FRv_n | with_reducible refine FRv_if ?_ ?_ | with_reducible refine FRv_s ?_ | with_reducible refine FRv_bv ?_ (fr_15_fill_63_L5 _ _ _ _ _) (fun _ _ => ?_) | with_reducible refine FRv_t ?_ (fr_15_fill_63_L5 _ _ _ _ _) | exact fr_rf | assumption | refine fr_u (by decide) ?_ | refine fr_cp (by decide) ?_)
theorem fr_15_fill_65_L5 : ∀ (n : Nat) (C : ev_C) (y0 y1 y2 : Int), FRv sC C (f_15_fill_65_L5 n C y0 y1 y2)
  | 0, C, _, _, _ => FRv_n
  | n + 1, C, y0, y1, y2 => by
    unfold f_15_fill_65_L5
    repeat' (first | with_reducible exact FRv_n | with_reducible refine FRv_if ?_ ?_ | with_reducible refine FRv_s ?_ | with_reducible refine FRv_bv ?_ (fr_15_fill_65_L5 n _ _ _ _) (fun _ _ => ?_) | with_reducible refine FRv_t ?_ (fr_15_fill_65_L5 n _ _ _ _) | exact fr_rf | assumption | refine fr_u (by decide) ?_ | refine fr_cp (by decide) ?_)
theorem fr_15_fill_65 (C : ev_C) (y0 : Int) : FRv sC C (f_15_fill_65 C y0) := by
  unfold f_15_fill_65
  repeat' (first | with_reducible exact FRv_n | with_reducible refine FRv_if ?_ ?_ | with_reducible refine FRv_s ?_ | with_reducible refine FRv_bv ?_ (fr_15_fill_65_L5 _ _ _ _ _) (fun _ _ => ?_) | with_reducible refine FRv_t ?_ (fr_15_fill_65_L5 _ _ _ _ _) | exact fr_rf | assumption | refine fr_u (by decide) ?_ | refine fr_cp (by decide) ?_)
theorem fr_15_fill_66_L5 : ∀ (n : Nat) (C : ev_C) (y0 y1 y2 : Int), FRv sC C (f_15_fill_66_L5 n C y0 y1 y2)
  | 0, C, _, _, _ => FRv_n
  | n + 1, C, y0, y1, y2 => by
    unfold f_15_fill_66_L5
    repeat' (first | with_reducible exact FRv_n | with_reducible refine FRv_if ?_ ?_ | with_reducible refine FRv_s ?_ | with_reducible refine FRv_bv ?_ (fr_15_fill_66_L5 n _ _ _ _) (fun _ _ => ?_) | with_reducible refine FRv_t ?_ (fr_15_fill_66_L5 n _ _ _ _) | exact fr_rf | assumption | refine fr_u (by decide) ?_ | refine fr_cp (by decide) ?_)
theorem fr_15_fill_66 (C : ev_C) (y0 : Int) : FRv sC C (f_15_fill_66 C y0) := by
  unfold f_15_fill_66
  repeat' (first | with_reducible exact FRv_n | with_reducible refine FRv_if ?_ ?_ | with_reducible refine FRv_s ?_ | with_reducible refine FRv_bv ?_ (fr_15_fill_66_L5 _ _ _ _ _) (fun _ _ => ?_) | with_reducible refine FRv_t ?_ (fr_15_fill_66_L5 _ _ _ _ _) | exact fr_rf | assumption | refine fr_u (by decide) ?_ | refine fr_cp (by decide) ?_)
theorem fr_6_clear_13 (C : ev_C) : FRv sC C (f_6_clear_13 C) := by
  unfold f_6_clear_13
  repeat' (first | with_reducible exact FRv_n | with_reducible refine FRv_if ?_ ?_ | with_reducible refine FRv_s ?_ | with_reducible refine FRv_bv ?_ (fr_15_fill_57 _ _) (fun _ _ => ?_) | with_reducible refine FRv_t ?_ (fr_15_fill_57 _ _) | with_reducible refine FRv_bv ?_ (fr_15_fill_58 _ _) (fun _ _ => ?_) | with_reducible refine FRv_t ?_ (fr_15_fill_58 _ _) | with_reducible refine FRv_bv ?_ (fr_15_fill_61 _ _) (fun _ _ => ?_) | with_reducible refine FRv_t ?_ (fr_15_fill_61 _ _) | with_reducible refine FRv_bv ?_ (fr_15_fill_62 _ _) (fun _ _ => ?_) | with_reducible refine FRv_t ?_ (fr_15_fill_62 _ _) | with_reducible refine FRv_bv ?_ (fr_15_fill_63 _ _) (fun _ _ => ?_) | with_reducible refine FRv_t ?_ (fr_15_fill_63 _ _) | with_reducible refine FRv_bv ?_ (fr_15_fill_65 _ _) (fun _ _ => ?_) | with_reducible refine FRv_t ?_ (fr_15_fill_65 _ _) | with_reducible refine FRv_bv ?_ (fr_15_fill_66 _ _) (fun _ _ => ?_) | with_reducible refine FRv_t ?_ (fr_15_fill_66 _ _) | exact fr_rf | assumption | refine fr_u (by decide) ?_ | refine fr_cp (by decide) ?_)
theorem fr_8_wordHere (C : ev_C) : FRi sC C (f_8_wordHere C) := by
  unfold f_8_wordHere
  repeat' (first | with_reducible exact FRi_n | with_reducible refine FRi_if ?_ ?_ | with_reducible refine FRi_s ?_ | exact fr_rf | assumption | refine fr_u (by decide) ?_ | refine fr_cp (by decide) ?_)
theorem fr_8_fail (C : ev_C) (y0 : Int) : FRv sC C (f_8_fail C y0) := by
  unfold f_8_fail
  repeat' (first | with_reducible exact FRv_n | with_reducible refine FRv_if ?_ ?_ | with_reducible refine FRv_s ?_ | exact fr_rf | assumption | refine fr_u (by decide) ?_ | refine fr_cp (by decide) ?_)
theorem fr_7_takeOneOf_8 (C : ev_C) (y0 y1 : Int) : FRi sC C (f_7_takeOneOf_8 C y0 y1) := by
  unfold f_7_takeOneOf_8
  repeat' (first | with_reducible exact FRi_n | with_reducible refine FRi_if ?_ ?_ | with_reducible refine FRi_s ?_ | with_reducible refine FRi_bv ?_ (fr_8_step _) (fun _ _ => ?_) | with_reducible refine FRi_bv ?_ (fr_8_fail _ _) (fun _ _ => ?_) | exact fr_rf | assumption | refine fr_u (by decide) ?_ | refine fr_cp (by decide) ?_)
theorem fr_8_isAtName (C : ev_C) : FRi sC C (f_8_isAtName C) := by
  unfold f_8_isAtName
  repeat' (first | with_reducible exact FRi_n | with_reducible refine FRi_if ?_ ?_ | with_reducible refine FRi_s ?_ | exact fr_rf | assumption | refine fr_u (by decide) ?_ | refine fr_cp (by decide) ?_)
theorem fr_8_indexOf_53_L3 : ∀ (n : Nat) (C : ev_C) (y0 y1 y2 : Int), FRi sC C (f_8_indexOf_53_L3 n C y0 y1 y2)
  | 0, C, _, _, _ => FRi_n
  | n + 1, C, y0, y1, y2 => by
    unfold f_8_indexOf_53_L3
    repeat' (first | with_reducible exact FRi_n | with_reducible refine FRi_if ?_ ?_ | with_reducible refine FRi_s ?_ | with_reducible refine FRi_bd ?_ (fr_8_indexOf_53_L3 n _ _ _ _) (fun _ _ _ => ?_) | with_reducible refine FRi_t ?_ (fr_8_indexOf_53_L3 n _ _ _ _) | exact fr_rf | assumption | refine fr_u (by decide) ?_ | refine fr_cp (by decide) ?_)
theorem fr_8_indexOf_53 (C : ev_C) (y0 y1 : Int) : FRi sC C (f_8_indexOf_53 C y0 y1) := by
  unfold f_8_indexOf_53
  repeat' (first | with_reducible exact FRi_n | with_reducible refine FRi_if ?_ ?_ | with_reducible refine FRi_s ?_ | with_reducible refine FRi_bd ?_ (fr_8_indexOf_53_L3 _ _ _ _ _) (fun _ _ _ => ?_) | with_reducible refine FRi_t ?_ (fr_8_indexOf_53_L3 _ _ _ _ _) | exact fr_rf | assumption | refine fr_u (by decide) ?_ | refine fr_cp (by decide) ?_)
theorem fr_8_indexOf_54_L3 : ∀ (n : Nat) (C : ev_C) (y0 y1 y2 : Int), FRi sC C (f_8_indexOf_54_L3 n C y0 y1 y2)
  | 0, C, _, _, _ => FRi_n
  | n + 1, C, y0, y1, y2 => by
    unfold f_8_indexOf_54_L3
    repeat' (first | with_reducible exact FRi_n | with_reducible refine FRi_if ?_ ?_ | with_reducible refine FRi_s ?_ | with_reducible refine FRi_bd ?_ (fr_8_indexOf_54_L3 n _ _ _ _) (fun _ _ _ => ?_) | with_reducible refine FRi_t ?_ (fr_8_indexOf_54_L3 n _ _ _ _) | exact fr_rf | assumption | refine fr_u (by decide) ?_ | refine fr_cp (by decide) ?_)
theorem fr_8_indexOf_54 (C : ev_C) (y0 y1 : Int) : FRi sC C (f_8_indexOf_54 C y0 y1) := by
  unfold f_8_indexOf_54
  repeat' (first | with_reducible exact FRi_n | with_reducible refine FRi_if ?_ ?_ | with_reducible refine FRi_s ?_ | with_reducible refine FRi_bd ?_ (fr_8_indexOf_54_L3 _ _ _ _ _) (fun _ _ _ => ?_) | with_reducible refine FRi_t ?_ (fr_8_indexOf_54_L3 _ _ _ _ _) | exact fr_rf | assumption | refine fr_u (by decide) ?_ | refine fr_cp (by decide) ?_)
theorem fr_8_indexOf_55_L3 : ∀ (n : Nat) (C : ev_C) (y0 y1 y2 : Int), FRi sC C (f_8_indexOf_55_L3 n C y0 y1 y2)
  | 0, C, _, _, _ => FRi_n
  | n + 1, C, y0, y1, y2 => by
    unfold f_8_indexOf_55_L3
    repeat' (first | with_reducible exact FRi_n | with_reducible refine FRi_if ?_ ?_ | with_reducible refine FRi_s ?_ | with_reducible refine FRi_bd ?_ (fr_8_indexOf_55_L3 n _ _ _ _) (fun _ _ _ => ?_) | with_reducible refine FRi_t ?_ (fr_8_indexOf_55_L3 n _ _ _ _) | exact fr_rf | assumption | refine fr_u (by decide) ?_ | refine fr_cp (by decide) ?_)
theorem fr_8_indexOf_55 (C : ev_C) (y0 y1 : Int) : FRi sC C (f_8_indexOf_55 C y0 y1) := by
  unfold f_8_indexOf_55
  repeat' (first | with_reducible exact FRi_n | with_reducible refine FRi_if ?_ ?_ | with_reducible refine FRi_s ?_ | with_reducible refine FRi_bd ?_ (fr_8_indexOf_55_L3 _ _ _ _ _) (fun _ _ _ => ?_) | with_reducible refine FRi_t ?_ (fr_8_indexOf_55_L3 _ _ _ _ _) | exact fr_rf | assumption | refine fr_u (by decide) ?_ | refine fr_cp (by decide) ?_)
theorem fr_6_hasName_13 (C : ev_C) (y0 : Int) : FRi sC C (f_6_hasName_13 C y0) := by
  unfold f_6_hasName_13
  repeat' (first | with_reducible exact FRi_n | with_reducible refine FRi_if ?_ ?_ | with_reducible refine FRi_s ?_ | with_reducible refine FRi_bd ?_ (fr_8_indexOf_53 _ _ _) (fun _ _ _ => ?_) | with_reducible refine FRi_t ?_ (fr_8_indexOf_53 _ _ _) | with_reducible refine FRi_bd ?_ (fr_8_indexOf_54 _ _ _) (fun _ _ _ => ?_) | with_reducible refine FRi_t ?_ (fr_8_indexOf_54 _ _ _) | with_reducible refine FRi_bd ?_ (fr_8_indexOf_55 _ _ _) (fun _ _ _ => ?_) | with_reducible refine FRi_t ?_ (fr_8_indexOf_55 _ _ _) | exact fr_rf | assumption | refine fr_u (by decide) ?_ | refine fr_cp (by decide) ?_)
theorem fr_7_takeNewName_8_53 (C : ev_C) (y0 : Int) : FRi sC C (f_7_takeNewName_8_53 C y0) := by
  unfold f_7_takeNewName_8_53
  repeat' (first | with_reducible exact FRi_n | with_reducible refine FRi_if ?_ ?_ | with_reducible refine FRi_s ?_ | with_reducible refine FRi_bd ?_ (fr_8_isAtName _) (fun _ _ _ => ?_) | with_reducible refine FRi_t ?_ (fr_8_isAtName _) | with_reducible refine FRi_bd ?_ (fr_6_hasName_13 _ _) (fun _ _ _ => ?_) | with_reducible refine FRi_t ?_ (fr_6_hasName_13 _ _) | with_reducible refine FRi_bv ?_ (fr_8_step _) (fun _ _ => ?_) | with_reducible refine FRi_bv ?_ (fr_8_fail _ _) (fun _ _ => ?_) | exact fr_rf | assumption | refine fr_u (by decide) ?_ | refine fr_cp (by decide) ?_)
theorem fr_8_takeNumber (C : ev_C) (y0 y1 : Int) : FRi sC C (f_8_takeNumber C y0 y1) := by
  unfold f_8_takeNumber
  repeat' (first | with_reducible exact FRi_n | with_reducible refine FRi_if ?_ ?_ | with_reducible refine FRi_s ?_ | with_reducible refine FRi_bv ?_ (fr_8_fail _ _) (fun _ _ => ?_) | with_reducible refine FRi_bv ?_ (fr_8_step _) (fun _ _ => ?_) | exact fr_rf | assumption | refine fr_u (by decide) ?_ | refine fr_cp (by decide) ?_)
theorem fr_7_readPart_8 (C : ev_C) : FRv sC C (f_7_readPart_8 C) := by
  unfold f_7_readPart_8
  repeat' (first | with_reducible exact FRv_n | with_reducible refine FRv_if ?_ ?_ | with_reducible refine FRv_s ?_ | with_reducible refine FRv_bd ?_ (fr_7_takeOneOf_8 _ _ _) (fun _ _ _ => ?_) | with_reducible refine FRv_bd ?_ (fr_7_takeNewName_8_53 _ _) (fun _ _ _ => ?_) | with_reducible refine FRv_bd ?_ (fr_8_takeNumber _ _ _) (fun _ _ _ => ?_) | exact fr_rf | assumption | refine fr_u (by decide) ?_ | refine fr_cp (by decide) ?_)
theorem fr_7_takeNewName_8_54 (C : ev_C) (y0 : Int) : FRi sC C (f_7_takeNewName_8_54 C y0) := by
  unfold f_7_takeNewName_8_54
  repeat' (first | with_reducible exact FRi_n | with_reducible refine FRi_if ?_ ?_ | with_reducible refine FRi_s ?_ | with_reducible refine FRi_bd ?_ (fr_8_isAtName _) (fun _ _ _ => ?_) | with_reducible refine FRi_t ?_ (fr_8_isAtName _) | with_reducible refine FRi_bd ?_ (fr_6_hasName_13 _ _) (fun _ _ _ => ?_) | with_reducible refine FRi_t ?_ (fr_6_hasName_13 _ _) | with_reducible refine FRi_bv ?_ (fr_8_step _) (fun _ _ => ?_) | with_reducible refine FRi_bv ?_ (fr_8_fail _ _) (fun _ _ => ?_) | exact fr_rf | assumption | refine fr_u (by decide) ?_ | refine fr_cp (by decide) ?_)
theorem fr_7_readFact_8 (C : ev_C) : FRv sC C (f_7_readFact_8 C) := by
  unfold f_7_readFact_8
  repeat' (first | with_reducible exact FRv_n | with_reducible refine FRv_if ?_ ?_ | with_reducible refine FRv_s ?_ | with_reducible refine FRv_bd ?_ (fr_7_takeOneOf_8 _ _ _) (fun _ _ _ => ?_) | with_reducible refine FRv_bd ?_ (fr_7_takeNewName_8_54 _ _) (fun _ _ _ => ?_) | exact fr_rf | assumption | refine fr_u (by decide) ?_ | refine fr_cp (by decide) ?_)
theorem fr_8_nameHere_54 (C : ev_C) (y0 : Int) : FRi sC C (f_8_nameHere_54 C y0) := by
  unfold f_8_nameHere_54
  repeat' (first | with_reducible exact FRi_n | with_reducible refine FRi_if ?_ ?_ | with_reducible refine FRi_s ?_ | with_reducible refine FRi_bd ?_ (fr_8_isAtName _) (fun _ _ _ => ?_) | with_reducible refine FRi_t ?_ (fr_8_isAtName _) | with_reducible refine FRi_bd ?_ (fr_8_indexOf_54 _ _ _) (fun _ _ _ => ?_) | with_reducible refine FRi_t ?_ (fr_8_indexOf_54 _ _ _) | with_reducible refine FRi_bv ?_ (fr_8_fail _ _) (fun _ _ => ?_) | exact fr_rf | assumption | refine fr_u (by decide) ?_ | refine fr_cp (by decide) ?_)
theorem fr_8_takeName_54 (C : ev_C) (y0 : Int) : FRi sC C (f_8_takeName_54 C y0) := by
  unfold f_8_takeName_54
  repeat' (first | with_reducible exact FRi_n | with_reducible refine FRi_if ?_ ?_ | with_reducible refine FRi_s ?_ | with_reducible refine FRi_bd ?_ (fr_8_nameHere_54 _ _) (fun _ _ _ => ?_) | with_reducible refine FRi_t ?_ (fr_8_nameHere_54 _ _) | with_reducible refine FRi_bv ?_ (fr_8_step _) (fun _ _ => ?_) | exact fr_rf | assumption | refine fr_u (by decide) ?_ | refine fr_cp (by decide) ?_)
theorem fr_8_nameHere_53 (C : ev_C) (y0 : Int) : FRi sC C (f_8_nameHere_53 C y0) := by
  unfold f_8_nameHere_53
  repeat' (first | with_reducible exact FRi_n | with_reducible refine FRi_if ?_ ?_ | with_reducible refine FRi_s ?_ | with_reducible refine FRi_bd ?_ (fr_8_isAtName _) (fun _ _ _ => ?_) | with_reducible refine FRi_t ?_ (fr_8_isAtName _) | with_reducible refine FRi_bd ?_ (fr_8_indexOf_53 _ _ _) (fun _ _ _ => ?_) | with_reducible refine FRi_t ?_ (fr_8_indexOf_53 _ _ _) | with_reducible refine FRi_bv ?_ (fr_8_fail _ _) (fun _ _ => ?_) | exact fr_rf | assumption | refine fr_u (by decide) ?_ | refine fr_cp (by decide) ?_)
theorem fr_11_has (C : ev_C) (y0 y1 : Int) : FRi sC C (f_11_has C y0 y1) := by
  unfold f_11_has
  repeat' (first | with_reducible exact FRi_n | with_reducible refine FRi_if ?_ ?_ | with_reducible refine FRi_s ?_ | exact fr_rf | assumption | refine fr_u (by decide) ?_ | refine fr_cp (by decide) ?_)
theorem fr_7_takeOnce_8 (C : ev_C) (y0 y1 : Int) : FRi sC C (f_7_takeOnce_8 C y0 y1) := by
  unfold f_7_takeOnce_8
  repeat' (first | with_reducible exact FRi_n | with_reducible refine FRi_if ?_ ?_ | with_reducible refine FRi_s ?_ | with_reducible refine FRi_bd ?_ (fr_11_has _ _ _) (fun _ _ _ => ?_) | with_reducible refine FRi_t ?_ (fr_11_has _ _ _) | with_reducible refine FRi_bv ?_ (fr_8_step _) (fun _ _ => ?_) | with_reducible refine FRi_bv ?_ (fr_8_fail _ _) (fun _ _ => ?_) | exact fr_rf | assumption | refine fr_u (by decide) ?_ | refine fr_cp (by decide) ?_)
theorem fr_7_readClears_8 (C : ev_C) : FRv sC C (f_7_readClears_8 C) := by
  unfold f_7_readClears_8
  repeat' (first | with_reducible exact FRv_n | with_reducible refine FRv_if ?_ ?_ | with_reducible refine FRv_s ?_ | with_reducible refine FRv_bv ?_ (fr_8_step _) (fun _ _ => ?_) | with_reducible refine FRv_t ?_ (fr_8_step _) | with_reducible refine FRv_bd ?_ (fr_8_takeName_54 _ _) (fun _ _ _ => ?_) | with_reducible refine FRv_bd ?_ (fr_8_nameHere_53 _ _) (fun _ _ _ => ?_) | with_reducible refine FRv_bd ?_ (fr_7_takeOnce_8 _ _ _) (fun _ _ _ => ?_) | exact fr_rf | assumption | refine fr_u (by decide) ?_ | refine fr_cp (by decide) ?_)
theorem fr_7_takeNewName_8_55 (C : ev_C) (y0 : Int) : FRi sC C (f_7_takeNewName_8_55 C y0) := by
  unfold f_7_takeNewName_8_55
  repeat' (first | with_reducible exact FRi_n | with_reducible refine FRi_if ?_ ?_ | with_reducible refine FRi_s ?_ | with_reducible refine FRi_bd ?_ (fr_8_isAtName _) (fun _ _ _ => ?_) | with_reducible refine FRi_t ?_ (fr_8_isAtName _) | with_reducible refine FRi_bd ?_ (fr_6_hasName_13 _ _) (fun _ _ _ => ?_) | with_reducible refine FRi_t ?_ (fr_6_hasName_13 _ _) | with_reducible refine FRi_bv ?_ (fr_8_step _) (fun _ _ => ?_) | with_reducible refine FRi_bv ?_ (fr_8_fail _ _) (fun _ _ => ?_) | exact fr_rf | assumption | refine fr_u (by decide) ?_ | refine fr_cp (by decide) ?_)
theorem fr_8_isFine (C : ev_C) : FRi sC C (f_8_isFine C) := by
  unfold f_8_isFine
  repeat' (first | with_reducible exact FRi_n | with_reducible refine FRi_if ?_ ?_ | with_reducible refine FRi_s ?_ | exact fr_rf | assumption | refine fr_u (by decide) ?_ | refine fr_cp (by decide) ?_)
theorem fr_7_readMan_8 (C : ev_C) : FRv sC C (f_7_readMan_8 C) := by
  unfold f_7_readMan_8
  repeat' (first | with_reducible exact FRv_n | with_reducible refine FRv_if ?_ ?_ | with_reducible refine FRv_s ?_ | with_reducible refine FRv_bd ?_ (fr_7_takeOneOf_8 _ _ _) (fun _ _ _ => ?_) | with_reducible refine FRv_bd ?_ (fr_7_takeNewName_8_55 _ _) (fun _ _ _ => ?_) | with_reducible refine FRv_bd ?_ (fr_8_takeNumber _ _ _) (fun _ _ _ => ?_) | with_reducible refine FRv_bd ?_ (fr_8_isFine _) (fun _ _ _ => ?_) | exact fr_rf | assumption | refine fr_u (by decide) ?_ | refine fr_cp (by decide) ?_)
theorem fr_7_readAct_8 (C : ev_C) : FRv sC C (f_7_readAct_8 C) := by
  unfold f_7_readAct_8
  repeat' (first | with_reducible exact FRv_n | with_reducible refine FRv_if ?_ ?_ | with_reducible refine FRv_s ?_ | with_reducible refine FRv_bd ?_ (fr_7_takeOneOf_8 _ _ _) (fun _ _ _ => ?_) | exact fr_rf | assumption | refine fr_u (by decide) ?_ | refine fr_cp (by decide) ?_)
theorem fr_8_isAtSign (C : ev_C) (y0 : Int) : FRi sC C (f_8_isAtSign C y0) := by
  unfold f_8_isAtSign
  repeat' (first | with_reducible exact FRi_n | with_reducible refine FRi_if ?_ ?_ | with_reducible refine FRi_s ?_ | exact fr_rf | assumption | refine fr_u (by decide) ?_ | refine fr_cp (by decide) ?_)
theorem fr_7_readScene_8_J151 {K74 : ev_C → Int → Int → Option ev_C} (hK74 : ∀ (C : ev_C) (z0 : Int) (z1 : Int), FRv sC C (K74 C z0 z1)) (C : ev_C) (y0 y1 y2 : Int) : FRv sC C (f_7_readScene_8_J151 K74 C y0 y1 y2) := by
  unfold f_7_readScene_8_J151
  repeat' (first | with_reducible exact FRv_n | with_reducible refine FRv_if ?_ ?_ | with_reducible refine FRv_s ?_ | with_reducible refine FRv_t ?_ (hK74 _ _ _) | exact fr_rf | assumption | refine fr_u (by decide) ?_ | refine fr_cp (by decide) ?_)
theorem fr_7_readScene_8_J101 {K74 : ev_C → Int → Int → Option ev_C} (hK74 : ∀ (C : ev_C) (z0 : Int) (z1 : Int), FRv sC C (K74 C z0 z1)) (C : ev_C) (y0 y1 : Int) : FRv sC C (f_7_readScene_8_J101 K74 C y0 y1) := by
  unfold f_7_readScene_8_J101
  repeat' (first | with_reducible exact FRv_n | with_reducible refine FRv_if ?_ ?_ | with_reducible refine FRv_s ?_ | with_reducible refine FRv_bd ?_ (fr_8_nameHere_53 _ _) (fun _ _ _ => ?_) | with_reducible refine FRv_bv ?_ (fr_7_readScene_8_J151 hK74 _ _ _ _) (fun _ _ => ?_) | with_reducible refine FRv_t ?_ (fr_7_readScene_8_J151 hK74 _ _ _ _) | with_reducible refine FRv_bd ?_ (fr_7_takeOnce_8 _ _ _) (fun _ _ _ => ?_) | with_reducible refine FRv_t ?_ (hK74 _ _ _) | exact fr_rf | assumption | refine fr_u (by decide) ?_ | refine fr_cp (by decide) ?_)
theorem fr_7_readScene_8_L74 : ∀ (n : Nat) (C : ev_C) (y0 y1 : Int), FRv sC C (f_7_readScene_8_L74 n C y0 y1)
  | 0, C, _, _ => FRv_n
  | n + 1, C, y0, y1 => by
    unfold f_7_readScene_8_L74
    repeat' (first | with_reducible exact FRv_n | with_reducible refine FRv_if ?_ ?_ | with_reducible refine FRv_s ?_ | with_reducible refine FRv_bd ?_ (fr_8_isFine _) (fun _ _ _ => ?_) | with_reducible refine FRv_bv ?_ (fr_7_readScene_8_J101 (fr_7_readScene_8_L74 n) _ _ _) (fun _ _ => ?_) | with_reducible refine FRv_t ?_ (fr_7_readScene_8_J101 (fr_7_readScene_8_L74 n) _ _ _) | with_reducible refine FRv_bd ?_ (fr_8_isAtSign _ _) (fun _ _ _ => ?_) | exact fr_rf | assumption | refine fr_u (by decide) ?_ | refine fr_cp (by decide) ?_)
theorem fr_7_readScene_8 (C : ev_C) : FRv sC C (f_7_readScene_8 C) := by
  unfold f_7_readScene_8
  repeat' (first | with_reducible exact FRv_n | with_reducible refine FRv_if ?_ ?_ | with_reducible refine FRv_s ?_ | with_reducible refine FRv_bd ?_ (fr_7_takeOneOf_8 _ _ _) (fun _ _ _ => ?_) | with_reducible refine FRv_bv ?_ (fr_7_readScene_8_L74 _ _ _ _) (fun _ _ => ?_) | with_reducible refine FRv_t ?_ (fr_7_readScene_8_L74 _ _ _ _) | with_reducible refine FRv_bv ?_ (fr_8_fail _ _) (fun _ _ => ?_) | with_reducible refine FRv_t ?_ (fr_8_fail _ _) | exact fr_rf | assumption | refine fr_u (by decide) ?_ | refine fr_cp (by decide) ?_)
theorem fr_7_readShows_8 (C : ev_C) : FRv sC C (f_7_readShows_8 C) := by
  unfold f_7_readShows_8
  repeat' (first | with_reducible exact FRv_n | with_reducible refine FRv_if ?_ ?_ | with_reducible refine FRv_s ?_ | with_reducible refine FRv_bv ?_ (fr_8_fail _ _) (fun _ _ => ?_) | with_reducible refine FRv_t ?_ (fr_8_fail _ _) | with_reducible refine FRv_bv ?_ (fr_8_step _) (fun _ _ => ?_) | with_reducible refine FRv_t ?_ (fr_8_step _) | with_reducible refine FRv_bd ?_ (fr_8_nameHere_54 _ _) (fun _ _ _ => ?_) | with_reducible refine FRv_bd ?_ (fr_7_takeOnce_8 _ _ _) (fun _ _ _ => ?_) | exact fr_rf | assumption | refine fr_u (by decide) ?_ | refine fr_cp (by decide) ?_)
theorem fr_8_takeName_53 (C : ev_C) (y0 : Int) : FRi sC C (f_8_takeName_53 C y0) := by
  unfold f_8_takeName_53
  repeat' (first | with_reducible exact FRi_n | with_reducible refine FRi_if ?_ ?_ | with_reducible refine FRi_s ?_ | with_reducible refine FRi_bd ?_ (fr_8_nameHere_53 _ _) (fun _ _ _ => ?_) | with_reducible refine FRi_t ?_ (fr_8_nameHere_53 _ _) | with_reducible refine FRi_bv ?_ (fr_8_step _) (fun _ _ => ?_) | exact fr_rf | assumption | refine fr_u (by decide) ?_ | refine fr_cp (by decide) ?_)
theorem fr_7_readNeeds_8 (C : ev_C) : FRv sC C (f_7_readNeeds_8 C) := by
  unfold f_7_readNeeds_8
  repeat' (first | with_reducible exact FRv_n | with_reducible refine FRv_if ?_ ?_ | with_reducible refine FRv_s ?_ | with_reducible refine FRv_bv ?_ (fr_8_step _) (fun _ _ => ?_) | with_reducible refine FRv_t ?_ (fr_8_step _) | with_reducible refine FRv_bd ?_ (fr_8_takeName_53 _ _) (fun _ _ _ => ?_) | with_reducible refine FRv_bd ?_ (fr_8_nameHere_54 _ _) (fun _ _ _ => ?_) | with_reducible refine FRv_bd ?_ (fr_7_takeOnce_8 _ _ _) (fun _ _ _ => ?_) | exact fr_rf | assumption | refine fr_u (by decide) ?_ | refine fr_cp (by decide) ?_)
theorem fr_8_nameHere_55 (C : ev_C) (y0 : Int) : FRi sC C (f_8_nameHere_55 C y0) := by
  unfold f_8_nameHere_55
  repeat' (first | with_reducible exact FRi_n | with_reducible refine FRi_if ?_ ?_ | with_reducible refine FRi_s ?_ | with_reducible refine FRi_bd ?_ (fr_8_isAtName _) (fun _ _ _ => ?_) | with_reducible refine FRi_t ?_ (fr_8_isAtName _) | with_reducible refine FRi_bd ?_ (fr_8_indexOf_55 _ _ _) (fun _ _ _ => ?_) | with_reducible refine FRi_t ?_ (fr_8_indexOf_55 _ _ _) | with_reducible refine FRi_bv ?_ (fr_8_fail _ _) (fun _ _ => ?_) | exact fr_rf | assumption | refine fr_u (by decide) ?_ | refine fr_cp (by decide) ?_)
theorem fr_8_takeName_55 (C : ev_C) (y0 : Int) : FRi sC C (f_8_takeName_55 C y0) := by
  unfold f_8_takeName_55
  repeat' (first | with_reducible exact FRi_n | with_reducible refine FRi_if ?_ ?_ | with_reducible refine FRi_s ?_ | with_reducible refine FRi_bd ?_ (fr_8_nameHere_55 _ _) (fun _ _ _ => ?_) | with_reducible refine FRi_t ?_ (fr_8_nameHere_55 _ _) | with_reducible refine FRi_bv ?_ (fr_8_step _) (fun _ _ => ?_) | exact fr_rf | assumption | refine fr_u (by decide) ?_ | refine fr_cp (by decide) ?_)
theorem fr_6_liking_13 (C : ev_C) (y0 y1 : Int) : FRi sC C (f_6_liking_13 C y0 y1) := by
  unfold f_6_liking_13
  repeat' (first | with_reducible exact FRi_n | with_reducible refine FRi_if ?_ ?_ | with_reducible refine FRi_s ?_ | exact fr_rf | assumption | refine fr_u (by decide) ?_ | refine fr_cp (by decide) ?_)
theorem fr_7_readLikes_8 (C : ev_C) : FRv sC C (f_7_readLikes_8 C) := by
  unfold f_7_readLikes_8
  repeat' (first | with_reducible exact FRv_n | with_reducible refine FRv_if ?_ ?_ | with_reducible refine FRv_s ?_ | with_reducible refine FRv_bv ?_ (fr_8_step _) (fun _ _ => ?_) | with_reducible refine FRv_t ?_ (fr_8_step _) | with_reducible refine FRv_bd ?_ (fr_8_takeName_55 _ _) (fun _ _ _ => ?_) | with_reducible refine FRv_bd ?_ (fr_8_nameHere_53 _ _) (fun _ _ _ => ?_) | with_reducible refine FRv_bd ?_ (fr_6_liking_13 _ _ _) (fun _ _ _ => ?_) | with_reducible refine FRv_bd ?_ (fr_8_takeNumber _ _ _) (fun _ _ _ => ?_) | with_reducible refine FRv_bv ?_ (fr_8_fail _ _) (fun _ _ => ?_) | with_reducible refine FRv_t ?_ (fr_8_fail _ _) | exact fr_rf | assumption | refine fr_u (by decide) ?_ | refine fr_cp (by decide) ?_)
theorem fr_7_readNever_8 (C : ev_C) : FRv sC C (f_7_readNever_8 C) := by
  unfold f_7_readNever_8
  repeat' (first | with_reducible exact FRv_n | with_reducible refine FRv_if ?_ ?_ | with_reducible refine FRv_s ?_ | with_reducible refine FRv_bv ?_ (fr_8_step _) (fun _ _ => ?_) | with_reducible refine FRv_t ?_ (fr_8_step _) | with_reducible refine FRv_bd ?_ (fr_8_takeName_55 _ _) (fun _ _ _ => ?_) | with_reducible refine FRv_bd ?_ (fr_8_nameHere_53 _ _) (fun _ _ _ => ?_) | with_reducible refine FRv_bd ?_ (fr_7_takeOnce_8 _ _ _) (fun _ _ _ => ?_) | exact fr_rf | assumption | refine fr_u (by decide) ?_ | refine fr_cp (by decide) ?_)
theorem fr_7_readFoes_8 (C : ev_C) : FRv sC C (f_7_readFoes_8 C) := by
  unfold f_7_readFoes_8
  repeat' (first | with_reducible exact FRv_n | with_reducible refine FRv_if ?_ ?_ | with_reducible refine FRv_s ?_ | with_reducible refine FRv_bv ?_ (fr_8_step _) (fun _ _ => ?_) | with_reducible refine FRv_t ?_ (fr_8_step _) | with_reducible refine FRv_bd ?_ (fr_8_takeName_55 _ _) (fun _ _ _ => ?_) | with_reducible refine FRv_bd ?_ (fr_8_nameHere_55 _ _) (fun _ _ _ => ?_) | with_reducible refine FRv_bd ?_ (fr_7_takeOnce_8 _ _ _) (fun _ _ _ => ?_) | with_reducible refine FRv_bv ?_ (fr_8_fail _ _) (fun _ _ => ?_) | with_reducible refine FRv_t ?_ (fr_8_fail _ _) | exact fr_rf | assumption | refine fr_u (by decide) ?_ | refine fr_cp (by decide) ?_)
theorem fr_7_readRest_8 (C : ev_C) : FRv sC C (f_7_readRest_8 C) := by
  unfold f_7_readRest_8
  repeat' (first | with_reducible exact FRv_n | with_reducible refine FRv_if ?_ ?_ | with_reducible refine FRv_s ?_ | with_reducible refine FRv_bv ?_ (fr_8_step _) (fun _ _ => ?_) | with_reducible refine FRv_t ?_ (fr_8_step _) | with_reducible refine FRv_bv ?_ (fr_8_fail _ _) (fun _ _ => ?_) | with_reducible refine FRv_t ?_ (fr_8_fail _ _) | exact fr_rf | assumption | refine fr_u (by decide) ?_ | refine fr_cp (by decide) ?_)
theorem fr_7_readLine_8 (C : ev_C) : FRv sC C (f_7_readLine_8 C) := by
  unfold f_7_readLine_8
  repeat' (first | with_reducible exact FRv_n | with_reducible refine FRv_if ?_ ?_ | with_reducible refine FRv_s ?_ | with_reducible refine FRv_bd ?_ (fr_8_wordHere _) (fun _ _ _ => ?_) | with_reducible refine FRv_bv ?_ (fr_7_readPart_8 _) (fun _ _ => ?_) | with_reducible refine FRv_t ?_ (fr_7_readPart_8 _) | with_reducible refine FRv_bv ?_ (fr_7_readFact_8 _) (fun _ _ => ?_) | with_reducible refine FRv_t ?_ (fr_7_readFact_8 _) | with_reducible refine FRv_bv ?_ (fr_7_readClears_8 _) (fun _ _ => ?_) | with_reducible refine FRv_t ?_ (fr_7_readClears_8 _) | with_reducible refine FRv_bv ?_ (fr_7_readMan_8 _) (fun _ _ => ?_) | with_reducible refine FRv_t ?_ (fr_7_readMan_8 _) | with_reducible refine FRv_bv ?_ (fr_7_readAct_8 _) (fun _ _ => ?_) | with_reducible refine FRv_t ?_ (fr_7_readAct_8 _) | with_reducible refine FRv_bv ?_ (fr_7_readScene_8 _) (fun _ _ => ?_) | with_reducible refine FRv_t ?_ (fr_7_readScene_8 _) | with_reducible refine FRv_bv ?_ (fr_7_readShows_8 _) (fun _ _ => ?_) | with_reducible refine FRv_t ?_ (fr_7_readShows_8 _) | with_reducible refine FRv_bv ?_ (fr_7_readNeeds_8 _) (fun _ _ => ?_) | with_reducible refine FRv_t ?_ (fr_7_readNeeds_8 _) | with_reducible refine FRv_bv ?_ (fr_7_readLikes_8 _) (fun _ _ => ?_) | with_reducible refine FRv_t ?_ (fr_7_readLikes_8 _) | with_reducible refine FRv_bv ?_ (fr_7_readNever_8 _) (fun _ _ => ?_) | with_reducible refine FRv_t ?_ (fr_7_readNever_8 _) | with_reducible refine FRv_bv ?_ (fr_7_readFoes_8 _) (fun _ _ => ?_) | with_reducible refine FRv_t ?_ (fr_7_readFoes_8 _) | with_reducible refine FRv_bv ?_ (fr_7_readRest_8 _) (fun _ _ => ?_) | with_reducible refine FRv_t ?_ (fr_7_readRest_8 _) | with_reducible refine FRv_bv ?_ (fr_8_fail _ _) (fun _ _ => ?_) | with_reducible refine FRv_t ?_ (fr_8_fail _ _) | exact fr_rf | assumption | refine fr_u (by decide) ?_ | refine fr_cp (by decide) ?_)
theorem fr_8_takeSign (C : ev_C) (y0 : Int) : FRv sC C (f_8_takeSign C y0) := by
  unfold f_8_takeSign
  repeat' (first | with_reducible exact FRv_n | with_reducible refine FRv_if ?_ ?_ | with_reducible refine FRv_s ?_ | with_reducible refine FRv_bd ?_ (fr_8_isAtSign _ _) (fun _ _ _ => ?_) | with_reducible refine FRv_bv ?_ (fr_8_fail _ _) (fun _ _ => ?_) | with_reducible refine FRv_t ?_ (fr_8_fail _ _) | with_reducible refine FRv_bv ?_ (fr_8_step _) (fun _ _ => ?_) | with_reducible refine FRv_t ?_ (fr_8_step _) | exact fr_rf | assumption | refine fr_u (by decide) ?_ | refine fr_cp (by decide) ?_)
theorem fr_7_read_8_J43 {K11 : ev_C → Int → Int → Option (Int × ev_C)} (hK11 : ∀ (C : ev_C) (z0 : Int) (z1 : Int), FRi sC C (K11 C z0 z1)) (C : ev_C) (y0 y1 : Int) : FRi sC C (f_7_read_8_J43 K11 C y0 y1) := by
  unfold f_7_read_8_J43
  repeat' (first | with_reducible exact FRi_n | with_reducible refine FRi_if ?_ ?_ | with_reducible refine FRi_s ?_ | with_reducible refine FRi_bd ?_ (fr_8_isFine _) (fun _ _ _ => ?_) | with_reducible refine FRi_t ?_ (fr_8_isFine _) | with_reducible refine FRi_t ?_ (hK11 _ _ _) | exact fr_rf | assumption | refine fr_u (by decide) ?_ | refine fr_cp (by decide) ?_)
theorem fr_7_read_8_L11 : ∀ (n : Nat) (C : ev_C) (y0 y1 : Int), FRi sC C (f_7_read_8_L11 n C y0 y1)
  | 0, C, _, _ => FRi_n
  | n + 1, C, y0, y1 => by
    unfold f_7_read_8_L11
    repeat' (first | with_reducible exact FRi_n | with_reducible refine FRi_if ?_ ?_ | with_reducible refine FRi_s ?_ | with_reducible refine FRi_bv ?_ (fr_7_readLine_8 _) (fun _ _ => ?_) | with_reducible refine FRi_bd ?_ (fr_8_isFine _) (fun _ _ _ => ?_) | with_reducible refine FRi_t ?_ (fr_8_isFine _) | with_reducible refine FRi_bd ?_ (fr_7_read_8_J43 (fr_7_read_8_L11 n) _ _ _) (fun _ _ _ => ?_) | with_reducible refine FRi_t ?_ (fr_7_read_8_J43 (fr_7_read_8_L11 n) _ _ _) | with_reducible refine FRi_bv ?_ (fr_8_takeSign _ _) (fun _ _ => ?_) | exact fr_rf | assumption | refine fr_u (by decide) ?_ | refine fr_cp (by decide) ?_)
theorem fr_7_read_8 (C : ev_C) : FRi sC C (f_7_read_8 C) := by
  unfold f_7_read_8
  repeat' (first | with_reducible exact FRi_n | with_reducible refine FRi_if ?_ ?_ | with_reducible refine FRi_s ?_ | with_reducible refine FRi_bv ?_ (fr_6_clear_13 _) (fun _ _ => ?_) | with_reducible refine FRi_bd ?_ (fr_7_read_8_L11 _ _ _ _) (fun _ _ _ => ?_) | with_reducible refine FRi_t ?_ (fr_7_read_8_L11 _ _ _ _) | exact fr_rf | assumption | refine fr_u (by decide) ?_ | refine fr_cp (by decide) ?_)
theorem fr_12_peek (C : ev_C) : FRi sA C (f_12_peek C) := by
  unfold f_12_peek
  repeat' (first | with_reducible exact FRi_n | with_reducible refine FRi_if ?_ ?_ | with_reducible refine FRi_s ?_ | exact fr_rf | assumption | refine fr_u (by decide) ?_ | refine fr_cp (by decide) ?_)
theorem fr_12_isSmall (C : ev_C) (y0 : Int) : FRi sA C (f_12_isSmall C y0) := by
  unfold f_12_isSmall
  repeat' (first | with_reducible exact FRi_n | with_reducible refine FRi_if ?_ ?_ | with_reducible refine FRi_s ?_ | exact fr_rf | assumption | refine fr_u (by decide) ?_ | refine fr_cp (by decide) ?_)
theorem fr_12_isDigit (C : ev_C) (y0 : Int) : FRi sA C (f_12_isDigit C y0) := by
  unfold f_12_isDigit
  repeat' (first | with_reducible exact FRi_n | with_reducible refine FRi_if ?_ ?_ | with_reducible refine FRi_s ?_ | exact fr_rf | assumption | refine fr_u (by decide) ?_ | refine fr_cp (by decide) ?_)
theorem fr_12_go_J18 {K0 : ev_C → Option ev_C} (hK0 : ∀ (C : ev_C), FRv sA C (K0 C)) (C : ev_C) : FRv sA C (f_12_go_J18 K0 C) := by
  unfold f_12_go_J18
  repeat' (first | with_reducible exact FRv_n | with_reducible refine FRv_if ?_ ?_ | with_reducible refine FRv_s ?_ | with_reducible refine FRv_t ?_ (hK0 _) | exact fr_rf | assumption | refine fr_u (by decide) ?_ | refine fr_cp (by decide) ?_)
theorem fr_12_go_J275 {K181 : ev_C → Int → Int → Int → Option ev_C} (hK181 : ∀ (C : ev_C) (z0 : Int) (z1 : Int) (z2 : Int), FRv sA C (K181 C z0 z1 z2)) (C : ev_C) (y0 y1 y2 : Int) : FRv sA C (f_12_go_J275 K181 C y0 y1 y2) := by
  unfold f_12_go_J275
  repeat' (first | with_reducible exact FRv_n | with_reducible refine FRv_if ?_ ?_ | with_reducible refine FRv_s ?_ | with_reducible refine FRv_t ?_ (hK181 _ _ _ _) | exact fr_rf | assumption | refine fr_u (by decide) ?_ | refine fr_cp (by decide) ?_)
theorem fr_12_go_J248 {K181 : ev_C → Int → Int → Int → Option ev_C} (hK181 : ∀ (C : ev_C) (z0 : Int) (z1 : Int) (z2 : Int), FRv sA C (K181 C z0 z1 z2)) (C : ev_C) (y0 y1 y2 : Int) : FRv sA C (f_12_go_J248 K181 C y0 y1 y2) := by
  unfold f_12_go_J248
  repeat' (first | with_reducible exact FRv_n | with_reducible refine FRv_if ?_ ?_ | with_reducible refine FRv_s ?_ | with_reducible refine FRv_bv ?_ (fr_12_go_J275 hK181 _ _ _ _) (fun _ _ => ?_) | with_reducible refine FRv_t ?_ (fr_12_go_J275 hK181 _ _ _ _) | with_reducible refine FRv_bd ?_ (fr_12_peek _) (fun _ _ _ => ?_) | with_reducible refine FRv_t ?_ (hK181 _ _ _ _) | exact fr_rf | assumption | refine fr_u (by decide) ?_ | refine fr_cp (by decide) ?_)
theorem fr_12_go_J221 {K181 : ev_C → Int → Int → Int → Option ev_C} (hK181 : ∀ (C : ev_C) (z0 : Int) (z1 : Int) (z2 : Int), FRv sA C (K181 C z0 z1 z2)) (C : ev_C) (y0 y1 y2 y3 : Int) : FRv sA C (f_12_go_J221 K181 C y0 y1 y2 y3) := by
  unfold f_12_go_J221
  repeat' (first | with_reducible exact FRv_n | with_reducible refine FRv_if ?_ ?_ | with_reducible refine FRv_s ?_ | with_reducible refine FRv_bv ?_ (fr_12_go_J248 hK181 _ _ _ _) (fun _ _ => ?_) | with_reducible refine FRv_t ?_ (fr_12_go_J248 hK181 _ _ _ _) | with_reducible refine FRv_bd ?_ (fr_12_peek _) (fun _ _ _ => ?_) | with_reducible refine FRv_t ?_ (hK181 _ _ _ _) | exact fr_rf | assumption | refine fr_u (by decide) ?_ | refine fr_cp (by decide) ?_)
theorem fr_12_go_J220 {K181 : ev_C → Int → Int → Int → Option ev_C} (hK181 : ∀ (C : ev_C) (z0 : Int) (z1 : Int) (z2 : Int), FRv sA C (K181 C z0 z1 z2)) (C : ev_C) (y0 y1 y2 : Int) : FRv sA C (f_12_go_J220 K181 C y0 y1 y2) := by
  unfold f_12_go_J220
  repeat' (first | with_reducible exact FRv_n | with_reducible refine FRv_if ?_ ?_ | with_reducible refine FRv_s ?_ | with_reducible refine FRv_bv ?_ (fr_12_go_J221 hK181 _ _ _ _ _) (fun _ _ => ?_) | with_reducible refine FRv_t ?_ (fr_12_go_J221 hK181 _ _ _ _ _) | with_reducible refine FRv_t ?_ (hK181 _ _ _ _) | exact fr_rf | assumption | refine fr_u (by decide) ?_ | refine fr_cp (by decide) ?_)
theorem fr_12_go_J201 {K181 : ev_C → Int → Int → Int → Option ev_C} (hK181 : ∀ (C : ev_C) (z0 : Int) (z1 : Int) (z2 : Int), FRv sA C (K181 C z0 z1 z2)) (C : ev_C) (y0 y1 y2 : Int) : FRv sA C (f_12_go_J201 K181 C y0 y1 y2) := by
  unfold f_12_go_J201
  repeat' (first | with_reducible exact FRv_n | with_reducible refine FRv_if ?_ ?_ | with_reducible refine FRv_s ?_ | with_reducible refine FRv_bv ?_ (fr_12_go_J220 hK181 _ _ _ _) (fun _ _ => ?_) | with_reducible refine FRv_t ?_ (fr_12_go_J220 hK181 _ _ _ _) | with_reducible refine FRv_bd ?_ (fr_12_peek _) (fun _ _ _ => ?_) | with_reducible refine FRv_bd ?_ (fr_12_isSmall _ _) (fun _ _ _ => ?_) | with_reducible refine FRv_bv ?_ (fr_12_go_J221 hK181 _ _ _ _ _) (fun _ _ => ?_) | with_reducible refine FRv_t ?_ (fr_12_go_J221 hK181 _ _ _ _ _) | with_reducible refine FRv_t ?_ (hK181 _ _ _ _) | exact fr_rf | assumption | refine fr_u (by decide) ?_ | refine fr_cp (by decide) ?_)
theorem fr_12_go_J317 (C : ev_C) (y0 y1 y2 y3 y4 : Int) : FRv sA C (f_12_go_J317 C y0 y1 y2 y3 y4) := by
  unfold f_12_go_J317
  repeat' (first | with_reducible exact FRv_n | with_reducible refine FRv_if ?_ ?_ | with_reducible refine FRv_s ?_ | exact fr_rf | assumption | refine fr_u (by decide) ?_ | refine fr_cp (by decide) ?_)
theorem fr_12_go_L181 : ∀ (n : Nat) (C : ev_C) (y0 y1 y2 : Int), FRv sA C (f_12_go_L181 n C y0 y1 y2)
  | 0, C, _, _, _ => FRv_n
  | n + 1, C, y0, y1, y2 => by
    unfold f_12_go_L181
    repeat' (first | with_reducible exact FRv_n | with_reducible refine FRv_if ?_ ?_ | with_reducible refine FRv_s ?_ | with_reducible refine FRv_bd ?_ (fr_12_peek _) (fun _ _ _ => ?_) | with_reducible refine FRv_bd ?_ (fr_12_isSmall _ _) (fun _ _ _ => ?_) | with_reducible refine FRv_bv ?_ (fr_12_go_J201 (fr_12_go_L181 n) _ _ _ _) (fun _ _ => ?_) | with_reducible refine FRv_t ?_ (fr_12_go_J201 (fr_12_go_L181 n) _ _ _ _) | with_reducible refine FRv_bd ?_ (fr_12_isDigit _ _) (fun _ _ _ => ?_) | with_reducible refine FRv_bv ?_ (fr_12_go_J317 _ _ _ _ _ _) (fun _ _ => ?_) | with_reducible refine FRv_t ?_ (fr_12_go_J317 _ _ _ _ _ _) | exact fr_rf | assumption | refine fr_u (by decide) ?_ | refine fr_cp (by decide) ?_)
theorem fr_12_go_J164 (C : ev_C) (y0 : Int) : FRv sA C (f_12_go_J164 C y0) := by
  unfold f_12_go_J164
  repeat' (first | with_reducible exact FRv_n | with_reducible refine FRv_if ?_ ?_ | with_reducible refine FRv_s ?_ | with_reducible refine FRv_bd ?_ (fr_12_isSmall _ _) (fun _ _ _ => ?_) | with_reducible refine FRv_bv ?_ (fr_12_go_L181 _ _ _ _ _) (fun _ _ => ?_) | with_reducible refine FRv_t ?_ (fr_12_go_L181 _ _ _ _ _) | exact fr_rf | assumption | refine fr_u (by decide) ?_ | refine fr_cp (by decide) ?_)
theorem fr_12_go_J145 (C : ev_C) (y0 y1 : Int) : FRv sA C (f_12_go_J145 C y0 y1) := by
  unfold f_12_go_J145
  repeat' (first | with_reducible exact FRv_n | with_reducible refine FRv_if ?_ ?_ | with_reducible refine FRv_s ?_ | exact fr_rf | assumption | refine fr_u (by decide) ?_ | refine fr_cp (by decide) ?_)
theorem fr_12_go_J140 (C : ev_C) (y0 : Int) : FRv sA C (f_12_go_J140 C y0) := by
  unfold f_12_go_J140
  repeat' (first | with_reducible exact FRv_n | with_reducible refine FRv_if ?_ ?_ | with_reducible refine FRv_s ?_ | with_reducible refine FRv_bv ?_ (fr_12_go_J145 _ _ _) (fun _ _ => ?_) | with_reducible refine FRv_t ?_ (fr_12_go_J145 _ _ _) | exact fr_rf | assumption | refine fr_u (by decide) ?_ | refine fr_cp (by decide) ?_)
theorem fr_12_go_J144 (C : ev_C) (y0 : Int) : FRv sA C (f_12_go_J144 C y0) := by
  unfold f_12_go_J144
  repeat' (first | with_reducible exact FRv_n | with_reducible refine FRv_if ?_ ?_ | with_reducible refine FRv_s ?_ | with_reducible refine FRv_bv ?_ (fr_12_go_J145 _ _ _) (fun _ _ => ?_) | with_reducible refine FRv_t ?_ (fr_12_go_J145 _ _ _) | exact fr_rf | assumption | refine fr_u (by decide) ?_ | refine fr_cp (by decide) ?_)
theorem fr_12_go_J80 (C : ev_C) : FRv sA C (f_12_go_J80 C) := by
  unfold f_12_go_J80
  repeat' (first | with_reducible exact FRv_n | with_reducible refine FRv_if ?_ ?_ | with_reducible refine FRv_s ?_ | with_reducible refine FRv_bd ?_ (fr_12_peek _) (fun _ _ _ => ?_) | with_reducible refine FRv_bd ?_ (fr_12_isSmall _ _) (fun _ _ _ => ?_) | with_reducible refine FRv_bv ?_ (fr_12_go_J164 _ _) (fun _ _ => ?_) | with_reducible refine FRv_t ?_ (fr_12_go_J164 _ _) | with_reducible refine FRv_bd ?_ (fr_12_isDigit _ _) (fun _ _ _ => ?_) | with_reducible refine FRv_bv ?_ (fr_12_go_J140 _ _) (fun _ _ => ?_) | with_reducible refine FRv_t ?_ (fr_12_go_J140 _ _) | with_reducible refine FRv_bv ?_ (fr_12_go_J144 _ _) (fun _ _ => ?_) | with_reducible refine FRv_t ?_ (fr_12_go_J144 _ _) | exact fr_rf | assumption | refine fr_u (by decide) ?_ | refine fr_cp (by decide) ?_)
theorem fr_12_go_L0 : ∀ (n : Nat) (C : ev_C), FRv sA C (f_12_go_L0 n C)
  | 0, C => FRv_n
  | n + 1, C => by
    unfold f_12_go_L0
    repeat' (first | with_reducible exact FRv_n | with_reducible refine FRv_if ?_ ?_ | with_reducible refine FRv_s ?_ | with_reducible refine FRv_bd ?_ (fr_12_peek _) (fun _ _ _ => ?_) | with_reducible refine FRv_bv ?_ (fr_12_go_J18 (fr_12_go_L0 n) _) (fun _ _ => ?_) | with_reducible refine FRv_t ?_ (fr_12_go_J18 (fr_12_go_L0 n) _) | with_reducible refine FRv_bv ?_ (fr_12_go_J80 _) (fun _ _ => ?_) | with_reducible refine FRv_t ?_ (fr_12_go_J80 _) | exact fr_rf | assumption | refine fr_u (by decide) ?_ | refine fr_cp (by decide) ?_)
theorem fr_12_go (C : ev_C) : FRv sA C (f_12_go C) := by
  unfold f_12_go
  repeat' (first | with_reducible exact FRv_n | with_reducible refine FRv_if ?_ ?_ | with_reducible refine FRv_s ?_ | with_reducible refine FRv_bv ?_ (fr_12_go_L0 _ _) (fun _ _ => ?_) | with_reducible refine FRv_t ?_ (fr_12_go_L0 _ _) | exact fr_rf | assumption | refine fr_u (by decide) ?_ | refine fr_cp (by decide) ?_)
theorem fr_12_taken (C : ev_C) (y0 : Int) : FRv sA C (f_12_taken C y0) := by
  unfold f_12_taken
  repeat' (first | with_reducible exact FRv_n | with_reducible refine FRv_if ?_ ?_ | with_reducible refine FRv_s ?_ | exact fr_rf | assumption | refine fr_u (by decide) ?_ | refine fr_cp (by decide) ?_)
theorem fr_12_isWord (C : ev_C) (y0 : Int) : FRi sA C (f_12_isWord C y0) := by
  unfold f_12_isWord
  repeat' (first | with_reducible exact FRi_n | with_reducible refine FRi_if ?_ ?_ | with_reducible refine FRi_s ?_ | exact fr_rf | assumption | refine fr_u (by decide) ?_ | refine fr_cp (by decide) ?_)
theorem fr_12_bad (C : ev_C) (y0 : Int) : FRi sA C (f_12_bad C y0) := by
  unfold f_12_bad
  repeat' (first | with_reducible exact FRi_n | with_reducible refine FRi_if ?_ ?_ | with_reducible refine FRi_s ?_ | exact fr_rf | assumption | refine fr_u (by decide) ?_ | refine fr_cp (by decide) ?_)
theorem fr_12_isName_J45 {K16 : ev_C → Int → Int → Option (Int × ev_C)} (hK16 : ∀ (C : ev_C) (z0 : Int) (z1 : Int), FRi sA C (K16 C z0 z1)) (C : ev_C) (y0 y1 y2 : Int) : FRi sA C (f_12_isName_J45 K16 C y0 y1 y2) := by
  unfold f_12_isName_J45
  repeat' (first | with_reducible exact FRi_n | with_reducible refine FRi_if ?_ ?_ | with_reducible refine FRi_s ?_ | with_reducible refine FRi_t ?_ (hK16 _ _ _) | exact fr_rf | assumption | refine fr_u (by decide) ?_ | refine fr_cp (by decide) ?_)
theorem fr_12_isName_J44 {K16 : ev_C → Int → Int → Option (Int × ev_C)} (hK16 : ∀ (C : ev_C) (z0 : Int) (z1 : Int), FRi sA C (K16 C z0 z1)) (C : ev_C) (y0 y1 : Int) : FRi sA C (f_12_isName_J44 K16 C y0 y1) := by
  unfold f_12_isName_J44
  repeat' (first | with_reducible exact FRi_n | with_reducible refine FRi_if ?_ ?_ | with_reducible refine FRi_s ?_ | with_reducible refine FRi_bd ?_ (fr_12_isName_J45 hK16 _ _ _ _) (fun _ _ _ => ?_) | with_reducible refine FRi_t ?_ (fr_12_isName_J45 hK16 _ _ _ _) | with_reducible refine FRi_t ?_ (hK16 _ _ _) | exact fr_rf | assumption | refine fr_u (by decide) ?_ | refine fr_cp (by decide) ?_)
theorem fr_12_isName_L16 : ∀ (n : Nat) (C : ev_C) (y0 y1 : Int), FRi sA C (f_12_isName_L16 n C y0 y1)
  | 0, C, _, _ => FRi_n
  | n + 1, C, y0, y1 => by
    unfold f_12_isName_L16
    repeat' (first | with_reducible exact FRi_n | with_reducible refine FRi_if ?_ ?_ | with_reducible refine FRi_s ?_ | with_reducible refine FRi_bd ?_ (fr_12_isName_J44 (fr_12_isName_L16 n) _ _ _) (fun _ _ _ => ?_) | with_reducible refine FRi_t ?_ (fr_12_isName_J44 (fr_12_isName_L16 n) _ _ _) | with_reducible refine FRi_bd ?_ (fr_12_isName_J45 (fr_12_isName_L16 n) _ _ _ _) (fun _ _ _ => ?_) | with_reducible refine FRi_t ?_ (fr_12_isName_J45 (fr_12_isName_L16 n) _ _ _ _) | exact fr_rf | assumption | refine fr_u (by decide) ?_ | refine fr_cp (by decide) ?_)
theorem fr_12_isName_J13 (C : ev_C) (y0 : Int) : FRi sA C (f_12_isName_J13 C y0) := by
  unfold f_12_isName_J13
  repeat' (first | with_reducible exact FRi_n | with_reducible refine FRi_if ?_ ?_ | with_reducible refine FRi_s ?_ | with_reducible refine FRi_bd ?_ (fr_12_isName_L16 _ _ _ _) (fun _ _ _ => ?_) | with_reducible refine FRi_t ?_ (fr_12_isName_L16 _ _ _ _) | exact fr_rf | assumption | refine fr_u (by decide) ?_ | refine fr_cp (by decide) ?_)
theorem fr_12_isName (C : ev_C) : FRi sA C (f_12_isName C) := by
  unfold f_12_isName
  repeat' (first | with_reducible exact FRi_n | with_reducible refine FRi_if ?_ ?_ | with_reducible refine FRi_s ?_ | with_reducible refine FRi_bd ?_ (fr_12_isName_J13 _ _) (fun _ _ _ => ?_) | with_reducible refine FRi_t ?_ (fr_12_isName_J13 _ _) | exact fr_rf | assumption | refine fr_u (by decide) ?_ | refine fr_cp (by decide) ?_)
theorem fr_12_find_L2 : ∀ (n : Nat) (C : ev_C) (y0 y1 y2 : Int), FRi sA C (f_12_find_L2 n C y0 y1 y2)
  | 0, C, _, _, _ => FRi_n
  | n + 1, C, y0, y1, y2 => by
    unfold f_12_find_L2
    repeat' (first | with_reducible exact FRi_n | with_reducible refine FRi_if ?_ ?_ | with_reducible refine FRi_s ?_ | with_reducible refine FRi_bd ?_ (fr_12_find_L2 n _ _ _ _) (fun _ _ _ => ?_) | with_reducible refine FRi_t ?_ (fr_12_find_L2 n _ _ _ _) | exact fr_rf | assumption | refine fr_u (by decide) ?_ | refine fr_cp (by decide) ?_)
theorem fr_12_find (C : ev_C) (y0 y1 : Int) : FRi sA C (f_12_find C y0 y1) := by
  unfold f_12_find
  repeat' (first | with_reducible exact FRi_n | with_reducible refine FRi_if ?_ ?_ | with_reducible refine FRi_s ?_ | with_reducible refine FRi_bd ?_ (fr_12_find_L2 _ _ _ _ _) (fun _ _ _ => ?_) | with_reducible refine FRi_t ?_ (fr_12_find_L2 _ _ _ _ _) | exact fr_rf | assumption | refine fr_u (by decide) ?_ | refine fr_cp (by decide) ?_)
theorem fr_12_looksAt (C : ev_C) (y0 y1 : Int) : FRi sA C (f_12_looksAt C y0 y1) := by
  unfold f_12_looksAt
  repeat' (first | with_reducible exact FRi_n | with_reducible refine FRi_if ?_ ?_ | with_reducible refine FRi_s ?_ | with_reducible refine FRi_bd ?_ (fr_12_isName _) (fun _ _ _ => ?_) | with_reducible refine FRi_t ?_ (fr_12_isName _) | with_reducible refine FRi_bd ?_ (fr_12_find _ _ _) (fun _ _ _ => ?_) | with_reducible refine FRi_t ?_ (fr_12_find _ _ _) | with_reducible refine FRi_bd ?_ (fr_12_bad _ _) (fun _ _ _ => ?_) | with_reducible refine FRi_t ?_ (fr_12_bad _ _) | exact fr_rf | assumption | refine fr_u (by decide) ?_ | refine fr_cp (by decide) ?_)
theorem fr_12_takesName (C : ev_C) (y0 y1 : Int) : FRi sA C (f_12_takesName C y0 y1) := by
  unfold f_12_takesName
  repeat' (first | with_reducible exact FRi_n | with_reducible refine FRi_if ?_ ?_ | with_reducible refine FRi_s ?_ | with_reducible refine FRi_bd ?_ (fr_12_looksAt _ _ _) (fun _ _ _ => ?_) | with_reducible refine FRi_t ?_ (fr_12_looksAt _ _ _) | with_reducible refine FRi_bv ?_ (fr_12_go _) (fun _ _ => ?_) | exact fr_rf | assumption | refine fr_u (by decide) ?_ | refine fr_cp (by decide) ?_)
theorem fr_12_bitOf (C : ev_C) (y0 y1 : Int) : FRi sA C (f_12_bitOf C y0 y1) := by
  unfold f_12_bitOf
  repeat' (first | with_reducible exact FRi_n | with_reducible refine FRi_if ?_ ?_ | with_reducible refine FRi_s ?_ | exact fr_rf | assumption | refine fr_u (by decide) ?_ | refine fr_cp (by decide) ?_)
theorem fr_12_isIn (C : ev_C) (y0 y1 y2 : Int) : FRi sA C (f_12_isIn C y0 y1 y2) := by
  unfold f_12_isIn
  repeat' (first | with_reducible exact FRi_n | with_reducible refine FRi_if ?_ ?_ | with_reducible refine FRi_s ?_ | exact fr_rf | assumption | refine fr_u (by decide) ?_ | refine fr_cp (by decide) ?_)
theorem fr_12_takes (C : ev_C) (y0 y1 : Int) : FRi sA C (f_12_takes C y0 y1) := by
  unfold f_12_takes
  repeat' (first | with_reducible exact FRi_n | with_reducible refine FRi_if ?_ ?_ | with_reducible refine FRi_s ?_ | with_reducible refine FRi_bd ?_ (fr_12_isIn _ _ _ _) (fun _ _ _ => ?_) | with_reducible refine FRi_t ?_ (fr_12_isIn _ _ _ _) | with_reducible refine FRi_bv ?_ (fr_12_go _) (fun _ _ => ?_) | with_reducible refine FRi_bd ?_ (fr_12_bad _ _) (fun _ _ _ => ?_) | with_reducible refine FRi_t ?_ (fr_12_bad _ _) | exact fr_rf | assumption | refine fr_u (by decide) ?_ | refine fr_cp (by decide) ?_)
theorem fr_12_isSign (C : ev_C) (y0 : Int) : FRi sA C (f_12_isSign C y0) := by
  unfold f_12_isSign
  repeat' (first | with_reducible exact FRi_n | with_reducible refine FRi_if ?_ ?_ | with_reducible refine FRi_s ?_ | exact fr_rf | assumption | refine fr_u (by decide) ?_ | refine fr_cp (by decide) ?_)
theorem fr_12_sign (C : ev_C) (y0 : Int) : FRi sA C (f_12_sign C y0) := by
  unfold f_12_sign
  repeat' (first | with_reducible exact FRi_n | with_reducible refine FRi_if ?_ ?_ | with_reducible refine FRi_s ?_ | with_reducible refine FRi_bd ?_ (fr_12_isSign _ _) (fun _ _ _ => ?_) | with_reducible refine FRi_t ?_ (fr_12_isSign _ _) | with_reducible refine FRi_bv ?_ (fr_12_go _) (fun _ _ => ?_) | with_reducible refine FRi_bd ?_ (fr_12_bad _ _) (fun _ _ _ => ?_) | with_reducible refine FRi_t ?_ (fr_12_bad _ _) | exact fr_rf | assumption | refine fr_u (by decide) ?_ | refine fr_cp (by decide) ?_)
theorem fr_12_sets (C : ev_C) (y0 : Int) : FRi sB C (f_12_sets C y0) := by
  unfold f_12_sets
  repeat' (first | with_reducible exact FRi_n | with_reducible refine FRi_if ?_ ?_ | with_reducible refine FRi_s ?_ | with_reducible refine FRi_bd ?_ (FRi_mono A_B (fr_12_bitOf _ _ _)) (fun _ _ _ => ?_) | with_reducible refine FRi_t ?_ (FRi_mono A_B (fr_12_bitOf _ _ _)) | with_reducible refine FRi_bv ?_ (FRv_mono A_B (fr_12_go _)) (fun _ _ => ?_) | with_reducible refine FRi_bd ?_ (FRi_mono A_B (fr_12_bad _ _)) (fun _ _ _ => ?_) | with_reducible refine FRi_t ?_ (FRi_mono A_B (fr_12_bad _ _)) | exact fr_rf | assumption | refine fr_u (by decide) ?_ | refine fr_cp (by decide) ?_)
theorem fr_12_pairs (C : ev_C) : FRi sB C (f_12_pairs C) := by
  unfold f_12_pairs
  repeat' (first | with_reducible exact FRi_n | with_reducible refine FRi_if ?_ ?_ | with_reducible refine FRi_s ?_ | with_reducible refine FRi_bd ?_ (FRi_mono A_B (fr_12_isWord _ _)) (fun _ _ _ => ?_) | with_reducible refine FRi_t ?_ (FRi_mono A_B (fr_12_isWord _ _)) | with_reducible refine FRi_bd ?_ (FRi_mono A_B (fr_12_bad _ _)) (fun _ _ _ => ?_) | with_reducible refine FRi_t ?_ (FRi_mono A_B (fr_12_bad _ _)) | with_reducible refine FRi_bv ?_ (FRv_mono A_B (fr_12_go _)) (fun _ _ => ?_) | with_reducible refine FRi_bd ?_ (FRi_mono A_B (fr_12_takesName _ _ _)) (fun _ _ _ => ?_) | with_reducible refine FRi_t ?_ (FRi_mono A_B (fr_12_takesName _ _ _)) | with_reducible refine FRi_bd ?_ (FRi_mono A_B (fr_12_looksAt _ _ _)) (fun _ _ _ => ?_) | with_reducible refine FRi_t ?_ (FRi_mono A_B (fr_12_looksAt _ _ _)) | with_reducible refine FRi_bd ?_ (fr_12_sets _ _) (fun _ _ _ => ?_) | with_reducible refine FRi_t ?_ (fr_12_sets _ _) | with_reducible refine FRi_bd ?_ (FRi_mono A_B (fr_12_takes _ _ _)) (fun _ _ _ => ?_) | with_reducible refine FRi_t ?_ (FRi_mono A_B (fr_12_takes _ _ _)) | exact fr_rf | assumption | refine fr_u (by decide) ?_ | refine fr_cp (by decide) ?_)
theorem fr_12_readScene_J86 {K65 : ev_C → Int → Option (Int × ev_C)} (hK65 : ∀ (C : ev_C) (z0 : Int), FRi sB C (K65 C z0)) (C : ev_C) (y0 : Int) : FRi sB C (f_12_readScene_J86 K65 C y0) := by
  unfold f_12_readScene_J86
  repeat' (first | with_reducible exact FRi_n | with_reducible refine FRi_if ?_ ?_ | with_reducible refine FRi_s ?_ | with_reducible refine FRi_bd ?_ (FRi_mono A_B (fr_12_looksAt _ _ _)) (fun _ _ _ => ?_) | with_reducible refine FRi_t ?_ (FRi_mono A_B (fr_12_looksAt _ _ _)) | with_reducible refine FRi_bd ?_ (fr_12_sets _ _) (fun _ _ _ => ?_) | with_reducible refine FRi_t ?_ (fr_12_sets _ _) | with_reducible refine FRi_t ?_ (hK65 _ _) | exact fr_rf | assumption | refine fr_u (by decide) ?_ | refine fr_cp (by decide) ?_)
theorem fr_12_readScene_L65 : ∀ (n : Nat) (C : ev_C) (y0 : Int), FRi sB C (f_12_readScene_L65 n C y0)
  | 0, C, _ => FRi_n
  | n + 1, C, y0 => by
    unfold f_12_readScene_L65
    repeat' (first | with_reducible exact FRi_n | with_reducible refine FRi_if ?_ ?_ | with_reducible refine FRi_s ?_ | with_reducible refine FRi_bd ?_ (fr_12_readScene_J86 (fr_12_readScene_L65 n) _ _) (fun _ _ _ => ?_) | with_reducible refine FRi_t ?_ (fr_12_readScene_J86 (fr_12_readScene_L65 n) _ _) | with_reducible refine FRi_bd ?_ (FRi_mono A_B (fr_12_isSign _ _)) (fun _ _ _ => ?_) | with_reducible refine FRi_t ?_ (FRi_mono A_B (fr_12_isSign _ _)) | exact fr_rf | assumption | refine fr_u (by decide) ?_ | refine fr_cp (by decide) ?_)
theorem fr_12_readScene (C : ev_C) : FRi sB C (f_12_readScene C) := by
  unfold f_12_readScene
  repeat' (first | with_reducible exact FRi_n | with_reducible refine FRi_if ?_ ?_ | with_reducible refine FRi_s ?_ | with_reducible refine FRi_bv ?_ (FRv_mono A_B (fr_12_go _)) (fun _ _ => ?_) | with_reducible refine FRi_bd ?_ (fr_12_readScene_L65 _ _ _) (fun _ _ _ => ?_) | with_reducible refine FRi_t ?_ (fr_12_readScene_L65 _ _ _) | with_reducible refine FRi_bd ?_ (FRi_mono A_B (fr_12_bad _ _)) (fun _ _ _ => ?_) | with_reducible refine FRi_t ?_ (FRi_mono A_B (fr_12_bad _ _)) | exact fr_rf | assumption | refine fr_u (by decide) ?_ | refine fr_cp (by decide) ?_)
/-- the same, and the names of the PLAY -/
def frn (C C' : ev_C) : Prop := (∀ t : Nat, t ≠ 12 → t ≠ 35 → t ≠ 19 → C' t = C t) ∧ ∀ k : Nat, k < 20 → C' 19 k = C 19 k
theorem frn_rf {C : ev_C} : frn C C := ⟨fun _ _ _ _ => rfl, fun _ _ => rfl⟩
theorem frn.tr {C C' C'' : ev_C} (h : frn C C') (h' : frn C' C'') : frn C C'' := ⟨fun t a b c => (h'.1 t a b c).trans (h.1 t a b c), fun k hk => (h'.2 k hk).trans (h.2 k hk)⟩
theorem frn_B {C C' : ev_C} (h : fr sB C C') : frn C C' := ⟨fun t a b _ => h t (by simp [sB, a, b]), fun k _ => congrFun (h 19 (by decide)) k⟩
theorem frn_A {C C' : ev_C} (h : fr sA C C') : frn C C' := ⟨fun t a _ _ => h t (by simp [sA, a]), fun k _ => congrFun (h 19 (by decide)) k⟩
theorem frn_12 {C C' : ev_C} {j : Nat} {v : Int} (h : frn C C') : frn C (ev_u C' 12 j v) := h.tr (frn_B (fr_u (by decide) fr_rf))
theorem frn_35 {C C' : ev_C} {j : Nat} {v : Int} (h : frn C C') : frn C (ev_u C' 35 j v) := h.tr (frn_B (fr_u (by decide) fr_rf))
theorem frn_19 {C C' : ev_C} {j : Nat} {v : Int} (hj : 20 ≤ j) (h : frn C C') : frn C (ev_u C' 19 j v) := h.tr ⟨fun t _ _ c => ev_ut c, fun k hk => ev_un (fun q => by have := q.2; omega)⟩
def FRN (C : ev_C) (o : Option (Int × ev_C)) : Prop := ∀ r C', o = some (r, C') → frn C C'
theorem FRN_n {C : ev_C} : FRN C none := fun _ _ h => by cases h
theorem FRN_s {C C' : ev_C} {r : Int} (h : frn C C') : FRN C (some (r, C')) := fun _ _ e => by cases e; exact h
theorem FRN_if {C : ev_C} {c : Prop} {d : Decidable c} {a b : Option (Int × ev_C)} (ha : c → FRN C a) (hb : ¬ c → FRN C b) : FRN C (if c then a else b) := by
  split
  · next h => exact ha h
  · next h => exact hb h
theorem FRN_A {C C1 : ev_C} {o : Option (Int × ev_C)} {g : Int → ev_C → Option (Int × ev_C)} (h : frn C C1) (ho : FRi sA C1 o) (hg : ∀ r C2, frn C C2 → FRN C (g r C2)) : FRN C (ev_bd o g) := fun r C' e => by
  obtain ⟨r1, C2, e1, e2⟩ := ev_bd_some e
  exact hg r1 C2 (h.tr (frn_A (ho r1 C2 e1))) r C' e2
theorem FRN_B {C C1 : ev_C} {o : Option (Int × ev_C)} {g : Int → ev_C → Option (Int × ev_C)} (h : frn C C1) (ho : FRi sB C1 o) (hg : ∀ r C2, frn C C2 → FRN C (g r C2)) : FRN C (ev_bd o g) := fun r C' e => by
  obtain ⟨r1, C2, e1, e2⟩ := ev_bd_some e
  exact hg r1 C2 (h.tr (frn_B (ho r1 C2 e1))) r C' e2
theorem FRN_N {C C1 : ev_C} {o : Option (Int × ev_C)} {g : Int → ev_C → Option (Int × ev_C)} (h : frn C C1) (ho : FRN C1 o) (hg : ∀ r C2, frn C C2 → FRN C (g r C2)) : FRN C (ev_bd o g) := fun r C' e => by
  obtain ⟨r1, C2, e1, e2⟩ := ev_bd_some e
  exact hg r1 C2 (h.tr (ho r1 C2 e1)) r C' e2
theorem FRN_V {C C1 : ev_C} {o : Option ev_C} {g : ev_C → Option (Int × ev_C)} (h : frn C C1) (ho : FRv sA C1 o) (hg : ∀ C2, frn C C2 → FRN C (g C2)) : FRN C (ev_bv o g) := fun r C' e => by
  obtain ⟨C2, e1, e2⟩ := ev_bv_some e
  exact hg C2 (h.tr (frn_A (ho C2 e1))) r C' e2
/-- the same, the memory behind being known -/
theorem FRN_V' {C : ev_C} {o : Option ev_C} {g : ev_C → Option (Int × ev_C)} (ho : FRv sA C o) (hg : ∀ C2, fr sA C C2 → FRN C (g C2)) : FRN C (ev_bv o g) := fun r C' e => by
  obtain ⟨C2, e1, e2⟩ := ev_bv_some e
  exact hg C2 (ho C2 e1) r C' e2
theorem f_isWord_same {C : ev_C} {w : Int} {r : Int} {C' : ev_C} (h : f_12_isWord C w = some (r, C')) : C' = C := by
  unfold f_12_isWord at h
  split at h
  · cases h; rfl
  · split at h
    · cases h; rfl
    · cases h; rfl
theorem FRN_w {C : ev_C} {w : Int} {g : Int → ev_C → Option (Int × ev_C)} (hg : ∀ r, FRN C (g r C)) : FRN C (ev_bd (f_12_isWord C w) g) := fun r C' e => by
  obtain ⟨r1, C2, e1, e2⟩ := ev_bd_some e
  have := f_isWord_same e1
  subst this
  exact hg r1 r C' e2
theorem fr_12_fresh {x1 : Int} (hx : 20 ≤ x1) (C : ev_C) : FRN C (f_12_fresh C x1) := by
  unfold f_12_fresh
  repeat' (first | with_reducible exact FRN_n | exact frn_rf | assumption | with_reducible refine FRN_if (fun _ => ?_) (fun _ => ?_) | with_reducible refine FRN_s ?_ | refine frn_12 ?_ | refine frn_35 ?_ | with_reducible refine FRN_A ?_ (fr_12_isName _) (fun _ _ _ => ?_) | with_reducible refine FRN_A ?_ (fr_12_find _ _ _) (fun _ _ _ => ?_) | with_reducible refine FRN_A ?_ (fr_12_bad _ _) (fun _ _ _ => ?_) | with_reducible refine FRN_A ?_ (fr_12_takes _ _ _) (fun _ _ _ => ?_) | with_reducible refine FRN_A ?_ (fr_12_looksAt _ _ _) (fun _ _ _ => ?_) | with_reducible refine FRN_B ?_ (fr_12_sets _ _) (fun _ _ _ => ?_) | with_reducible refine FRN_B ?_ (fr_12_pairs _) (fun _ _ _ => ?_) | with_reducible refine FRN_B ?_ (fr_12_readScene _) (fun _ _ _ => ?_) | with_reducible refine FRN_V ?_ (fr_12_go _) (fun _ _ => ?_) | refine frn_19 (by omega) ?_)
theorem fr_12_line {C : ev_C} (h0 : 0 ≤ C 35 0 ∧ C 35 0 ≤ 8) (h1 : 0 ≤ C 35 1 ∧ C 35 1 ≤ 8) (h2 : 0 ≤ C 35 2 ∧ C 35 2 ≤ 8) : FRN C (f_12_line C) := by
  unfold f_12_line
  refine FRN_w (fun _ => ?_)
  with_reducible refine FRN_if (fun _ => ?_) (fun _ => ?_)
  · refine FRN_w (fun _ => ?_)
    with_reducible refine FRN_if (fun _ => ?_) (fun _ => ?_)
    · refine FRN_w (fun _ => ?_)
      with_reducible refine FRN_if (fun _ => ?_) (fun _ => ?_)
      · refine FRN_w (fun _ => ?_)
        with_reducible refine FRN_if (fun _ => ?_) (fun _ => ?_)
        · refine FRN_w (fun _ => ?_)
          with_reducible refine FRN_if (fun _ => ?_) (fun _ => ?_)
          · refine FRN_w (fun _ => ?_)
            with_reducible refine FRN_if (fun _ => ?_) (fun _ => ?_)
            · refine FRN_w (fun _ => ?_)
              with_reducible refine FRN_if (fun _ => ?_) (fun _ => ?_)
              · repeat' (first | with_reducible exact FRN_n | exact frn_rf | assumption | with_reducible refine FRN_if (fun _ => ?_) (fun _ => ?_) | with_reducible refine FRN_s ?_ | refine frn_12 ?_ | refine frn_35 ?_ | with_reducible refine FRN_A ?_ (fr_12_isName _) (fun _ _ _ => ?_) | with_reducible refine FRN_A ?_ (fr_12_find _ _ _) (fun _ _ _ => ?_) | with_reducible refine FRN_A ?_ (fr_12_bad _ _) (fun _ _ _ => ?_) | with_reducible refine FRN_A ?_ (fr_12_takes _ _ _) (fun _ _ _ => ?_) | with_reducible refine FRN_A ?_ (fr_12_looksAt _ _ _) (fun _ _ _ => ?_) | with_reducible refine FRN_B ?_ (fr_12_sets _ _) (fun _ _ _ => ?_) | with_reducible refine FRN_B ?_ (fr_12_pairs _) (fun _ _ _ => ?_) | with_reducible refine FRN_B ?_ (fr_12_readScene _) (fun _ _ _ => ?_) | with_reducible refine FRN_V ?_ (fr_12_go _) (fun _ _ => ?_))
              · repeat' (first | with_reducible exact FRN_n | exact frn_rf | assumption | with_reducible refine FRN_if (fun _ => ?_) (fun _ => ?_) | with_reducible refine FRN_s ?_ | refine frn_12 ?_ | refine frn_35 ?_ | with_reducible refine FRN_A ?_ (fr_12_isName _) (fun _ _ _ => ?_) | with_reducible refine FRN_A ?_ (fr_12_find _ _ _) (fun _ _ _ => ?_) | with_reducible refine FRN_A ?_ (fr_12_bad _ _) (fun _ _ _ => ?_) | with_reducible refine FRN_A ?_ (fr_12_takes _ _ _) (fun _ _ _ => ?_) | with_reducible refine FRN_A ?_ (fr_12_looksAt _ _ _) (fun _ _ _ => ?_) | with_reducible refine FRN_B ?_ (fr_12_sets _ _) (fun _ _ _ => ?_) | with_reducible refine FRN_B ?_ (fr_12_pairs _) (fun _ _ _ => ?_) | with_reducible refine FRN_B ?_ (fr_12_readScene _) (fun _ _ _ => ?_) | with_reducible refine FRN_V ?_ (fr_12_go _) (fun _ _ => ?_))
            · repeat' (first | with_reducible exact FRN_n | exact frn_rf | assumption | with_reducible refine FRN_if (fun _ => ?_) (fun _ => ?_) | with_reducible refine FRN_s ?_ | refine frn_12 ?_ | refine frn_35 ?_ | with_reducible refine FRN_A ?_ (fr_12_isName _) (fun _ _ _ => ?_) | with_reducible refine FRN_A ?_ (fr_12_find _ _ _) (fun _ _ _ => ?_) | with_reducible refine FRN_A ?_ (fr_12_bad _ _) (fun _ _ _ => ?_) | with_reducible refine FRN_A ?_ (fr_12_takes _ _ _) (fun _ _ _ => ?_) | with_reducible refine FRN_A ?_ (fr_12_looksAt _ _ _) (fun _ _ _ => ?_) | with_reducible refine FRN_B ?_ (fr_12_sets _ _) (fun _ _ _ => ?_) | with_reducible refine FRN_B ?_ (fr_12_pairs _) (fun _ _ _ => ?_) | with_reducible refine FRN_B ?_ (fr_12_readScene _) (fun _ _ _ => ?_) | with_reducible refine FRN_V ?_ (fr_12_go _) (fun _ _ => ?_))
          · repeat' (first | with_reducible exact FRN_n | exact frn_rf | assumption | with_reducible refine FRN_if (fun _ => ?_) (fun _ => ?_) | with_reducible refine FRN_s ?_ | refine frn_12 ?_ | refine frn_35 ?_ | with_reducible refine FRN_A ?_ (fr_12_isName _) (fun _ _ _ => ?_) | with_reducible refine FRN_A ?_ (fr_12_find _ _ _) (fun _ _ _ => ?_) | with_reducible refine FRN_A ?_ (fr_12_bad _ _) (fun _ _ _ => ?_) | with_reducible refine FRN_A ?_ (fr_12_takes _ _ _) (fun _ _ _ => ?_) | with_reducible refine FRN_A ?_ (fr_12_looksAt _ _ _) (fun _ _ _ => ?_) | with_reducible refine FRN_B ?_ (fr_12_sets _ _) (fun _ _ _ => ?_) | with_reducible refine FRN_B ?_ (fr_12_pairs _) (fun _ _ _ => ?_) | with_reducible refine FRN_B ?_ (fr_12_readScene _) (fun _ _ _ => ?_) | with_reducible refine FRN_V ?_ (fr_12_go _) (fun _ _ => ?_))
        · repeat' (first | with_reducible exact FRN_n | exact frn_rf | assumption | with_reducible refine FRN_if (fun _ => ?_) (fun _ => ?_) | with_reducible refine FRN_s ?_ | refine frn_12 ?_ | refine frn_35 ?_ | with_reducible refine FRN_A ?_ (fr_12_isName _) (fun _ _ _ => ?_) | with_reducible refine FRN_A ?_ (fr_12_find _ _ _) (fun _ _ _ => ?_) | with_reducible refine FRN_A ?_ (fr_12_bad _ _) (fun _ _ _ => ?_) | with_reducible refine FRN_A ?_ (fr_12_takes _ _ _) (fun _ _ _ => ?_) | with_reducible refine FRN_A ?_ (fr_12_looksAt _ _ _) (fun _ _ _ => ?_) | with_reducible refine FRN_B ?_ (fr_12_sets _ _) (fun _ _ _ => ?_) | with_reducible refine FRN_B ?_ (fr_12_pairs _) (fun _ _ _ => ?_) | with_reducible refine FRN_B ?_ (fr_12_readScene _) (fun _ _ _ => ?_) | with_reducible refine FRN_V ?_ (fr_12_go _) (fun _ _ => ?_))
      · with_reducible refine FRN_if (fun _ => ?_) (fun _ => ?_)
        · refine FRN_V' (fr_12_go _) (fun C2 hg => ?_)
          refine FRN_N (frn_A hg) (fr_12_fresh (by rw [ev_w_id (by omega) (by omega)]; omega) _) (fun _ _ _ => ?_)
          repeat' (first | with_reducible exact FRN_n | exact frn_rf | assumption | with_reducible refine FRN_if (fun _ => ?_) (fun _ => ?_) | with_reducible refine FRN_s ?_ | refine frn_12 ?_ | refine frn_35 ?_ | with_reducible refine FRN_A ?_ (fr_12_isName _) (fun _ _ _ => ?_) | with_reducible refine FRN_A ?_ (fr_12_find _ _ _) (fun _ _ _ => ?_) | with_reducible refine FRN_A ?_ (fr_12_bad _ _) (fun _ _ _ => ?_) | with_reducible refine FRN_A ?_ (fr_12_takes _ _ _) (fun _ _ _ => ?_) | with_reducible refine FRN_A ?_ (fr_12_looksAt _ _ _) (fun _ _ _ => ?_) | with_reducible refine FRN_B ?_ (fr_12_sets _ _) (fun _ _ _ => ?_) | with_reducible refine FRN_B ?_ (fr_12_pairs _) (fun _ _ _ => ?_) | with_reducible refine FRN_B ?_ (fr_12_readScene _) (fun _ _ _ => ?_) | with_reducible refine FRN_V ?_ (fr_12_go _) (fun _ _ => ?_))
        · repeat' (first | with_reducible exact FRN_n | exact frn_rf | assumption | with_reducible refine FRN_if (fun _ => ?_) (fun _ => ?_) | with_reducible refine FRN_s ?_ | refine frn_12 ?_ | refine frn_35 ?_ | with_reducible refine FRN_A ?_ (fr_12_isName _) (fun _ _ _ => ?_) | with_reducible refine FRN_A ?_ (fr_12_find _ _ _) (fun _ _ _ => ?_) | with_reducible refine FRN_A ?_ (fr_12_bad _ _) (fun _ _ _ => ?_) | with_reducible refine FRN_A ?_ (fr_12_takes _ _ _) (fun _ _ _ => ?_) | with_reducible refine FRN_A ?_ (fr_12_looksAt _ _ _) (fun _ _ _ => ?_) | with_reducible refine FRN_B ?_ (fr_12_sets _ _) (fun _ _ _ => ?_) | with_reducible refine FRN_B ?_ (fr_12_pairs _) (fun _ _ _ => ?_) | with_reducible refine FRN_B ?_ (fr_12_readScene _) (fun _ _ _ => ?_) | with_reducible refine FRN_V ?_ (fr_12_go _) (fun _ _ => ?_))
    · with_reducible refine FRN_if (fun _ => ?_) (fun _ => ?_)
      · refine FRN_V' (fr_12_go _) (fun C2 hg => ?_)
        have e := congrFun (hg 35 (by decide)) 1
        refine FRN_N (frn_A hg) (fr_12_fresh (by rw [e, ev_w_id (by omega) (by omega)]; omega) _) (fun _ _ _ => ?_)
        repeat' (first | with_reducible exact FRN_n | exact frn_rf | assumption | with_reducible refine FRN_if (fun _ => ?_) (fun _ => ?_) | with_reducible refine FRN_s ?_ | refine frn_12 ?_ | refine frn_35 ?_ | with_reducible refine FRN_A ?_ (fr_12_isName _) (fun _ _ _ => ?_) | with_reducible refine FRN_A ?_ (fr_12_find _ _ _) (fun _ _ _ => ?_) | with_reducible refine FRN_A ?_ (fr_12_bad _ _) (fun _ _ _ => ?_) | with_reducible refine FRN_A ?_ (fr_12_takes _ _ _) (fun _ _ _ => ?_) | with_reducible refine FRN_A ?_ (fr_12_looksAt _ _ _) (fun _ _ _ => ?_) | with_reducible refine FRN_B ?_ (fr_12_sets _ _) (fun _ _ _ => ?_) | with_reducible refine FRN_B ?_ (fr_12_pairs _) (fun _ _ _ => ?_) | with_reducible refine FRN_B ?_ (fr_12_readScene _) (fun _ _ _ => ?_) | with_reducible refine FRN_V ?_ (fr_12_go _) (fun _ _ => ?_))
      · repeat' (first | with_reducible exact FRN_n | exact frn_rf | assumption | with_reducible refine FRN_if (fun _ => ?_) (fun _ => ?_) | with_reducible refine FRN_s ?_ | refine frn_12 ?_ | refine frn_35 ?_ | with_reducible refine FRN_A ?_ (fr_12_isName _) (fun _ _ _ => ?_) | with_reducible refine FRN_A ?_ (fr_12_find _ _ _) (fun _ _ _ => ?_) | with_reducible refine FRN_A ?_ (fr_12_bad _ _) (fun _ _ _ => ?_) | with_reducible refine FRN_A ?_ (fr_12_takes _ _ _) (fun _ _ _ => ?_) | with_reducible refine FRN_A ?_ (fr_12_looksAt _ _ _) (fun _ _ _ => ?_) | with_reducible refine FRN_B ?_ (fr_12_sets _ _) (fun _ _ _ => ?_) | with_reducible refine FRN_B ?_ (fr_12_pairs _) (fun _ _ _ => ?_) | with_reducible refine FRN_B ?_ (fr_12_readScene _) (fun _ _ _ => ?_) | with_reducible refine FRN_V ?_ (fr_12_go _) (fun _ _ => ?_))
  · with_reducible refine FRN_if (fun _ => ?_) (fun _ => ?_)
    · refine FRN_V' (fr_12_go _) (fun C2 hg => ?_)
      refine FRN_N (frn_A hg) (fr_12_fresh (by rw [ev_w_id (by omega) (by omega)]; omega) _) (fun _ _ _ => ?_)
      repeat' (first | with_reducible exact FRN_n | exact frn_rf | assumption | with_reducible refine FRN_if (fun _ => ?_) (fun _ => ?_) | with_reducible refine FRN_s ?_ | refine frn_12 ?_ | refine frn_35 ?_ | with_reducible refine FRN_A ?_ (fr_12_isName _) (fun _ _ _ => ?_) | with_reducible refine FRN_A ?_ (fr_12_find _ _ _) (fun _ _ _ => ?_) | with_reducible refine FRN_A ?_ (fr_12_bad _ _) (fun _ _ _ => ?_) | with_reducible refine FRN_A ?_ (fr_12_takes _ _ _) (fun _ _ _ => ?_) | with_reducible refine FRN_A ?_ (fr_12_looksAt _ _ _) (fun _ _ _ => ?_) | with_reducible refine FRN_B ?_ (fr_12_sets _ _) (fun _ _ _ => ?_) | with_reducible refine FRN_B ?_ (fr_12_pairs _) (fun _ _ _ => ?_) | with_reducible refine FRN_B ?_ (fr_12_readScene _) (fun _ _ _ => ?_) | with_reducible refine FRN_V ?_ (fr_12_go _) (fun _ _ => ?_))
    · repeat' (first | with_reducible exact FRN_n | exact frn_rf | assumption | with_reducible refine FRN_if (fun _ => ?_) (fun _ => ?_) | with_reducible refine FRN_s ?_ | refine frn_12 ?_ | refine frn_35 ?_ | with_reducible refine FRN_A ?_ (fr_12_isName _) (fun _ _ _ => ?_) | with_reducible refine FRN_A ?_ (fr_12_find _ _ _) (fun _ _ _ => ?_) | with_reducible refine FRN_A ?_ (fr_12_bad _ _) (fun _ _ _ => ?_) | with_reducible refine FRN_A ?_ (fr_12_takes _ _ _) (fun _ _ _ => ?_) | with_reducible refine FRN_A ?_ (fr_12_looksAt _ _ _) (fun _ _ _ => ?_) | with_reducible refine FRN_B ?_ (fr_12_sets _ _) (fun _ _ _ => ?_) | with_reducible refine FRN_B ?_ (fr_12_pairs _) (fun _ _ _ => ?_) | with_reducible refine FRN_B ?_ (fr_12_readScene _) (fun _ _ _ => ?_) | with_reducible refine FRN_V ?_ (fr_12_go _) (fun _ _ => ?_))
