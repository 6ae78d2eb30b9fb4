/-! THE TWO READERS ALIKE, 2: letters, digits, bytes, rows of names. -/
def z_E (C1 C2 : ev_C) : Prop := (∀ k : Nat, k < 940 → C1 15 k = C2 49 k ∧ -2147483648 ≤ C1 15 k ∧ C1 15 k ≤ 2147483647) ∧ C1 10 1 = C2 12 3 ∧ (0 ≤ C1 10 1 ∧ C1 10 1 ≤ 940) ∧ C1 8 2 = C2 12 5 ∧ (0 ≤ C1 8 2 ∧ C1 8 2 ≤ 940) ∧ ∀ j : Nat, j < 27 → C1 16 j = z_V.getD j 0 ∧ C2 50 j = z_W.getD j 0
def z_I (a i : Int) : Prop := (∃ j : Nat, j < 27 ∧ i = j ∧ a = z_V.getD j 0) ∨ (i = -1 ∧ ∀ j : Nat, j < 27 → a ≠ z_V.getD j 0)
theorem z_isLetter (C : ev_C) (x : Int) : f_8_isLetter C x = some (if 97 ≤ x ∧ x ≤ 122 then 1 else 0, C) := by
  unfold f_8_isLetter
  by_cases h1 : x < 97
  · rw [if_pos h1, if_neg (by omega)]
  · rw [if_neg h1]
    by_cases h2 : 122 < x
    · rw [if_pos h2, if_neg (by omega)]
    · rw [if_neg h2, if_pos (by omega)]
theorem z_isDigit (C : ev_C) (x : Int) : f_8_isDigit C x = some (if 48 ≤ x ∧ x ≤ 57 then 1 else 0, C) := by
  unfold f_8_isDigit
  by_cases h1 : x < 48
  · rw [if_pos h1, if_neg (by omega)]
  · rw [if_neg h1]
    by_cases h2 : 57 < x
    · rw [if_pos h2, if_neg (by omega)]
    · rw [if_neg h2, if_pos (by omega)]
theorem z_isSmall (C : ev_C) (x : Int) : f_12_isSmall C x = some (if 97 ≤ x ∧ x ≤ 122 then 1 else 0, C) := by
  unfold f_12_isSmall
  by_cases h1 : x < 97
  · rw [if_pos h1, if_neg (by omega)]
  · rw [if_neg h1]
    by_cases h2 : 122 < x
    · rw [if_pos h2, if_neg (by omega)]
    · rw [if_neg h2, if_pos (by omega)]
theorem z_isDigit2 (C : ev_C) (x : Int) : f_12_isDigit C x = some (if 48 ≤ x ∧ x ≤ 57 then 1 else 0, C) := by
  unfold f_12_isDigit
  by_cases h1 : x < 48
  · rw [if_pos h1, if_neg (by omega)]
  · rw [if_neg h1]
    by_cases h2 : 57 < x
    · rw [if_pos h2, if_neg (by omega)]
    · rw [if_neg h2, if_pos (by omega)]
theorem z_isBlank (C : ev_C) (x : Int) : f_8_isBlank C x = some (if x = 32 ∨ x = 10 then 1 else 0, C) := by
  unfold f_8_isBlank
  by_cases h1 : x = 32
  · rw [if_pos h1, if_pos (by omega)]
  · rw [if_neg h1]
    by_cases h2 : x ≠ 10
    · rw [if_pos h2, if_neg (by omega)]
    · rw [if_neg h2, if_pos (by omega)]
theorem z_isSign (C : ev_C) (x : Int) : f_8_isSign C x = some (if x = 59 ∨ x = 60 ∨ x = 61 ∨ x = 62 ∨ x = 40 ∨ x = 41 ∨ x = 46 then 1 else 0, C) := by
  unfold f_8_isSign
  by_cases h1 : x = 59
  · rw [if_pos h1, if_pos (by omega)]
  · rw [if_neg h1]
    by_cases h2 : x = 60
    · rw [if_pos h2, if_pos (by omega)]
    · rw [if_neg h2]
      by_cases h3 : x = 61
      · rw [if_pos h3, if_pos (by omega)]
      · rw [if_neg h3]
        by_cases h4 : x = 62
        · rw [if_pos h4, if_pos (by omega)]
        · rw [if_neg h4]
          by_cases h5 : x = 40
          · rw [if_pos h5, if_pos (by omega)]
          · rw [if_neg h5]
            by_cases h6 : x = 41
            · rw [if_pos h6, if_pos (by omega)]
            · rw [if_neg h6]
              by_cases h7 : x ≠ 46
              · rw [if_pos h7, if_neg (by omega)]
              · rw [if_neg h7, if_pos (by omega)]
theorem z_byte {C : ev_C} {x : Int} (hb : ∀ k : Nat, k < 940 → -2147483648 ≤ C 15 k ∧ C 15 k ≤ 2147483647) (h0 : 0 ≤ x) (h1 : x < 940) : f_10_byteAt C x = some (C 15 x.toNat % 256, C) := by
  unfold f_10_byteAt
  have h := hb x.toNat (by omega)
  rw [if_neg (by omega), if_neg (by omega), if_pos ⟨h0, h1⟩, z_255 h.1 h.2]
theorem z_peek {C : ev_C} (hb : ∀ k : Nat, k < 940 → -2147483648 ≤ C 49 k ∧ C 49 k ≤ 2147483647) (h0 : 0 ≤ C 12 4) (h1 : C 12 3 ≤ 940) : f_12_peek C = some (if C 12 3 ≤ C 12 4 then -1 else C 49 (C 12 4).toNat % 256, C) := by
  unfold f_12_peek
  by_cases h : C 12 3 ≤ C 12 4
  · rw [if_pos h, if_pos h]
  · have h2 := hb (C 12 4).toNat (by omega)
    rw [if_neg h, if_neg h, if_pos ⟨h0, by omega⟩, z_255 h2.1 h2.2]
/-! the first of a row -/
def z_fst (P : Nat → Prop) (n i : Int) : Prop := (∃ k : Nat, i = k ∧ (k : Int) < n ∧ P k ∧ ∀ j : Nat, j < k → ¬ P j) ∨ (i = -1 ∧ ∀ k : Nat, (k : Int) < n → ¬ P k)
theorem z_fst_eq {P P' : Nat → Prop} {n i i' : Int} (h : z_fst P n i) (h' : z_fst P' n i') (hp : ∀ k : Nat, (k : Int) < n → (P k ↔ P' k)) : i = i' := by
  rcases h with ⟨k, rfl, a1, a2, a3⟩ | ⟨rfl, a⟩
  · rcases h' with ⟨k', rfl, b1, b2, b3⟩ | ⟨rfl, b⟩
    · rcases Nat.lt_trichotomy k k' with h | h | h
      · exact absurd ((hp k a1).mp a2) (b3 k h)
      · rw [h]
      · exact absurd ((hp k' b1).mpr b2) (a3 k' h)
    · exact absurd ((hp k a1).mp a2) (b k a1)
  · rcases h' with ⟨k', rfl, b1, b2, b3⟩ | ⟨rfl, b⟩
    · exact absurd ((hp k' b1).mpr b2) (a k' b1)
    · rfl
theorem z_ix16 {C : ev_C} {c a : Int} (hc : c ≤ 27) : ∀ (N k : Nat), 27 - k < N → (k : Int) ≤ 27 → (∀ j : Nat, j < k → ¬ C 16 j = a) → ∃ i, f_8_indexOf_16_L3 N C c a k = some (i, C) ∧ z_fst (fun k => C 16 k = a) c i
  | 0, k, h, _, _ => by omega
  | N + 1, k, h, hk, hj => by
    unfold f_8_indexOf_16_L3
    by_cases h1 : c ≤ k
    · rw [if_pos h1]
      exact ⟨-1, rfl, Or.inr ⟨rfl, fun j hjc => hj j (by omega)⟩⟩
    · rw [if_neg h1, if_neg (by omega), if_pos (by omega)]
      by_cases h2 : C 16 (Int.toNat (k : Int)) = a
      · rw [if_neg (fun q => q (z_cmp.mpr h2))]
        exact ⟨k, rfl, Or.inl ⟨k, rfl, by omega, h2, hj⟩⟩
      · rw [if_pos (fun q => h2 (z_cmp.mp q)), ev_w_id (by omega) (by omega), show (k : Int) + 1 = ((k + 1 : Nat) : Int) by omega]
        refine z_ix16 hc N (k + 1) (by omega) (by omega) (fun j hj' => ?_)
        by_cases e : j = k
        · subst e; exact h2
        · exact hj j (by omega)
theorem z_idx16 (C : ev_C) {c a : Int} (hc : c ≤ 27) : ∃ i, f_8_indexOf_16 C c a = some (i, C) ∧ z_fst (fun k => C 16 k = a) c i := z_ix16 hc 1000 0 (by omega) (by omega) (fun j h => by omega)
theorem z_ix53 {C : ev_C} {c a : Int} (hc : c ≤ 6) : ∀ (N k : Nat), 6 - k < N → (k : Int) ≤ 6 → (∀ j : Nat, j < k → ¬ C 53 j = a) → ∃ i, f_8_indexOf_53_L3 N C c a k = some (i, C) ∧ z_fst (fun k => C 53 k = a) c i
  | 0, k, h, _, _ => by omega
  | N + 1, k, h, hk, hj => by
    unfold f_8_indexOf_53_L3
    by_cases h1 : c ≤ k
    · rw [if_pos h1]
      exact ⟨-1, rfl, Or.inr ⟨rfl, fun j hjc => hj j (by omega)⟩⟩
    · rw [if_neg h1, if_neg (by omega), if_pos (by omega)]
      by_cases h2 : C 53 (Int.toNat (k : Int)) = a
      · rw [if_neg (fun q => q (z_cmp.mpr h2))]
        exact ⟨k, rfl, Or.inl ⟨k, rfl, by omega, h2, hj⟩⟩
      · rw [if_pos (fun q => h2 (z_cmp.mp q)), ev_w_id (by omega) (by omega), show (k : Int) + 1 = ((k + 1 : Nat) : Int) by omega]
        refine z_ix53 hc N (k + 1) (by omega) (by omega) (fun j hj' => ?_)
        by_cases e : j = k
        · subst e; exact h2
        · exact hj j (by omega)
theorem z_idx53 (C : ev_C) {c a : Int} (hc : c ≤ 6) : ∃ i, f_8_indexOf_53 C c a = some (i, C) ∧ z_fst (fun k => C 53 k = a) c i := z_ix53 hc 1000 0 (by omega) (by omega) (fun j h => by omega)
theorem z_ix54 {C : ev_C} {c a : Int} (hc : c ≤ 6) : ∀ (N k : Nat), 6 - k < N → (k : Int) ≤ 6 → (∀ j : Nat, j < k → ¬ C 54 j = a) → ∃ i, f_8_indexOf_54_L3 N C c a k = some (i, C) ∧ z_fst (fun k => C 54 k = a) c i
  | 0, k, h, _, _ => by omega
  | N + 1, k, h, hk, hj => by
    unfold f_8_indexOf_54_L3
    by_cases h1 : c ≤ k
    · rw [if_pos h1]
      exact ⟨-1, rfl, Or.inr ⟨rfl, fun j hjc => hj j (by omega)⟩⟩
    · rw [if_neg h1, if_neg (by omega), if_pos (by omega)]
      by_cases h2 : C 54 (Int.toNat (k : Int)) = a
      · rw [if_neg (fun q => q (z_cmp.mpr h2))]
        exact ⟨k, rfl, Or.inl ⟨k, rfl, by omega, h2, hj⟩⟩
      · rw [if_pos (fun q => h2 (z_cmp.mp q)), ev_w_id (by omega) (by omega), show (k : Int) + 1 = ((k + 1 : Nat) : Int) by omega]
        refine z_ix54 hc N (k + 1) (by omega) (by omega) (fun j hj' => ?_)
        by_cases e : j = k
        · subst e; exact h2
        · exact hj j (by omega)
theorem z_idx54 (C : ev_C) {c a : Int} (hc : c ≤ 6) : ∃ i, f_8_indexOf_54 C c a = some (i, C) ∧ z_fst (fun k => C 54 k = a) c i := z_ix54 hc 1000 0 (by omega) (by omega) (fun j h => by omega)
theorem z_ix55 {C : ev_C} {c a : Int} (hc : c ≤ 8) : ∀ (N k : Nat), 8 - k < N → (k : Int) ≤ 8 → (∀ j : Nat, j < k → ¬ C 55 j = a) → ∃ i, f_8_indexOf_55_L3 N C c a k = some (i, C) ∧ z_fst (fun k => C 55 k = a) c i
  | 0, k, h, _, _ => by omega
  | N + 1, k, h, hk, hj => by
    unfold f_8_indexOf_55_L3
    by_cases h1 : c ≤ k
    · rw [if_pos h1]
      exact ⟨-1, rfl, Or.inr ⟨rfl, fun j hjc => hj j (by omega)⟩⟩
    · rw [if_neg h1, if_neg (by omega), if_pos (by omega)]
      by_cases h2 : C 55 (Int.toNat (k : Int)) = a
      · rw [if_neg (fun q => q (z_cmp.mpr h2))]
        exact ⟨k, rfl, Or.inl ⟨k, rfl, by omega, h2, hj⟩⟩
      · rw [if_pos (fun q => h2 (z_cmp.mp q)), ev_w_id (by omega) (by omega), show (k : Int) + 1 = ((k + 1 : Nat) : Int) by omega]
        refine z_ix55 hc N (k + 1) (by omega) (by omega) (fun j hj' => ?_)
        by_cases e : j = k
        · subst e; exact h2
        · exact hj j (by omega)
theorem z_idx55 (C : ev_C) {c a : Int} (hc : c ≤ 8) : ∃ i, f_8_indexOf_55 C c a = some (i, C) ∧ z_fst (fun k => C 55 k = a) c i := z_ix55 hc 1000 0 (by omega) (by omega) (fun j h => by omega)
theorem z_fi {C : ev_C} {f c : Int} (hf : 0 ≤ f) (hc : c ≤ 8) (hfc : f + c ≤ 40) : ∀ (N k : Nat), 8 - k < N → (k : Int) ≤ 8 → (∀ j : Nat, j < k → ¬ C 19 (f + j).toNat = C 12 17) → ∃ i, f_12_find_L2 N C f c k = some (i, C) ∧ z_fst (fun k => C 19 (f + k).toNat = C 12 17) c i
  | 0, k, h, _, _ => by omega
  | N + 1, k, h, hk, hj => by
    unfold f_12_find_L2
    by_cases h1 : c ≤ k
    · rw [if_pos h1]
      exact ⟨-1, rfl, Or.inr ⟨rfl, fun j hjc => hj j (by omega)⟩⟩
    · rw [if_neg h1, ev_w_id (n := f + k) (by omega) (by omega), if_pos (by omega)]
      by_cases h2 : C 19 (f + k).toNat = C 12 17
      · rw [if_neg (fun q => q (z_cmp.mpr h2))]
        exact ⟨k, rfl, Or.inl ⟨k, rfl, by omega, h2, hj⟩⟩
      · rw [if_pos (fun q => h2 (z_cmp.mp q)), ev_w_id (by omega) (by omega), show (k : Int) + 1 = ((k + 1 : Nat) : Int) by omega]
        refine z_fi hf hc hfc N (k + 1) (by omega) (by omega) (fun j hj' => ?_)
        by_cases e : j = k
        · subst e; exact h2
        · exact hj j (by omega)
theorem z_find (C : ev_C) {f c : Int} (hf : 0 ≤ f) (hc : c ≤ 8) (hfc : f + c ≤ 40) : ∃ i, f_12_find C f c = some (i, C) ∧ z_fst (fun k => C 19 (f + k).toNat = C 12 17) c i := z_fi hf hc hfc 1000 0 (by omega) (by omega) (fun j h => by omega)
