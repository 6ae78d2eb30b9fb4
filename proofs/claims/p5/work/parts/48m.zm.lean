/-! THE TWO READERS ALIKE, 13: a text told whole. -/
theorem z_fl57 {v : Int} : ∀ (N k : Nat) (C : ev_C), 6 - k < N → k ≤ 6 → ∃ C', f_15_fill_57_L5 N C v k 6 = some C' ∧ (∀ t, t ≠ 57 → C' t = C t) ∧ (∀ j : Nat, k ≤ j → j < 6 → C' 57 j = v) ∧ ∀ j : Nat, j < k → C' 57 j = C 57 j
  | 0, k, C, h, _ => by omega
  | N + 1, k, C, h, hk => by
    rw [f_15_fill_57_L5]
    by_cases h1 : (6 : Int) ≤ k
    · rw [if_pos h1]
      exact ⟨C, rfl, fun _ _ => rfl, fun j a b => by omega, fun _ _ => rfl⟩
    · rw [if_neg h1, if_pos (by omega), Int.toNat_natCast, show ev_w ((k : Int) + 1) = ((k + 1 : Nat) : Int) by rw [ev_w_id (by omega) (by omega)]; omega]
      obtain ⟨C', g1, g2, g3, g4⟩ := z_fl57 (v := v) N (k + 1) (ev_u C 57 k v) (by omega) (by omega)
      refine ⟨C', g1, fun t ht => (g2 t ht).trans (ev_ut ht), fun j a b => ?_, fun j a => (g4 j (by omega)).trans (ev_un (fun q => by have := q.2; omega))⟩
      by_cases e : j = k
      · subst e; exact (g4 j (by omega)).trans ev_us
      · exact g3 j (by omega) b
theorem z_fill57 (C : ev_C) (v : Int) : ∃ C', f_15_fill_57 C v = some C' ∧ (∀ t, t ≠ 57 → C' t = C t) ∧ ∀ j : Nat, j < 6 → C' 57 j = v := by
  obtain ⟨C', g1, g2, g3, -⟩ := z_fl57 (v := v) 1000 0 C (by omega) (by omega)
  exact ⟨C', g1, g2, fun j hj => g3 j (by omega) hj⟩
theorem z_fl58 {v : Int} : ∀ (N k : Nat) (C : ev_C), 6 - k < N → k ≤ 6 → ∃ C', f_15_fill_58_L5 N C v k 6 = some C' ∧ (∀ t, t ≠ 58 → C' t = C t) ∧ (∀ j : Nat, k ≤ j → j < 6 → C' 58 j = v) ∧ ∀ j : Nat, j < k → C' 58 j = C 58 j
  | 0, k, C, h, _ => by omega
  | N + 1, k, C, h, hk => by
    rw [f_15_fill_58_L5]
    by_cases h1 : (6 : Int) ≤ k
    · rw [if_pos h1]
      exact ⟨C, rfl, fun _ _ => rfl, fun j a b => by omega, fun _ _ => rfl⟩
    · rw [if_neg h1, if_pos (by omega), Int.toNat_natCast, show ev_w ((k : Int) + 1) = ((k + 1 : Nat) : Int) by rw [ev_w_id (by omega) (by omega)]; omega]
      obtain ⟨C', g1, g2, g3, g4⟩ := z_fl58 (v := v) N (k + 1) (ev_u C 58 k v) (by omega) (by omega)
      refine ⟨C', g1, fun t ht => (g2 t ht).trans (ev_ut ht), fun j a b => ?_, fun j a => (g4 j (by omega)).trans (ev_un (fun q => by have := q.2; omega))⟩
      by_cases e : j = k
      · subst e; exact (g4 j (by omega)).trans ev_us
      · exact g3 j (by omega) b
theorem z_fill58 (C : ev_C) (v : Int) : ∃ C', f_15_fill_58 C v = some C' ∧ (∀ t, t ≠ 58 → C' t = C t) ∧ ∀ j : Nat, j < 6 → C' 58 j = v := by
  obtain ⟨C', g1, g2, g3, -⟩ := z_fl58 (v := v) 1000 0 C (by omega) (by omega)
  exact ⟨C', g1, g2, fun j hj => g3 j (by omega) hj⟩
theorem z_fl61 {v : Int} : ∀ (N k : Nat) (C : ev_C), 8 - k < N → k ≤ 8 → ∃ C', f_15_fill_61_L5 N C v k 8 = some C' ∧ (∀ t, t ≠ 61 → C' t = C t) ∧ (∀ j : Nat, k ≤ j → j < 8 → C' 61 j = v) ∧ ∀ j : Nat, j < k → C' 61 j = C 61 j
  | 0, k, C, h, _ => by omega
  | N + 1, k, C, h, hk => by
    rw [f_15_fill_61_L5]
    by_cases h1 : (8 : Int) ≤ k
    · rw [if_pos h1]
      exact ⟨C, rfl, fun _ _ => rfl, fun j a b => by omega, fun _ _ => rfl⟩
    · rw [if_neg h1, if_pos (by omega), Int.toNat_natCast, show ev_w ((k : Int) + 1) = ((k + 1 : Nat) : Int) by rw [ev_w_id (by omega) (by omega)]; omega]
      obtain ⟨C', g1, g2, g3, g4⟩ := z_fl61 (v := v) N (k + 1) (ev_u C 61 k v) (by omega) (by omega)
      refine ⟨C', g1, fun t ht => (g2 t ht).trans (ev_ut ht), fun j a b => ?_, fun j a => (g4 j (by omega)).trans (ev_un (fun q => by have := q.2; omega))⟩
      by_cases e : j = k
      · subst e; exact (g4 j (by omega)).trans ev_us
      · exact g3 j (by omega) b
theorem z_fill61 (C : ev_C) (v : Int) : ∃ C', f_15_fill_61 C v = some C' ∧ (∀ t, t ≠ 61 → C' t = C t) ∧ ∀ j : Nat, j < 8 → C' 61 j = v := by
  obtain ⟨C', g1, g2, g3, -⟩ := z_fl61 (v := v) 1000 0 C (by omega) (by omega)
  exact ⟨C', g1, g2, fun j hj => g3 j (by omega) hj⟩
theorem z_fl62 {v : Int} : ∀ (N k : Nat) (C : ev_C), 8 - k < N → k ≤ 8 → ∃ C', f_15_fill_62_L5 N C v k 8 = some C' ∧ (∀ t, t ≠ 62 → C' t = C t) ∧ (∀ j : Nat, k ≤ j → j < 8 → C' 62 j = v) ∧ ∀ j : Nat, j < k → C' 62 j = C 62 j
  | 0, k, C, h, _ => by omega
  | N + 1, k, C, h, hk => by
    rw [f_15_fill_62_L5]
    by_cases h1 : (8 : Int) ≤ k
    · rw [if_pos h1]
      exact ⟨C, rfl, fun _ _ => rfl, fun j a b => by omega, fun _ _ => rfl⟩
    · rw [if_neg h1, if_pos (by omega), Int.toNat_natCast, show ev_w ((k : Int) + 1) = ((k + 1 : Nat) : Int) by rw [ev_w_id (by omega) (by omega)]; omega]
      obtain ⟨C', g1, g2, g3, g4⟩ := z_fl62 (v := v) N (k + 1) (ev_u C 62 k v) (by omega) (by omega)
      refine ⟨C', g1, fun t ht => (g2 t ht).trans (ev_ut ht), fun j a b => ?_, fun j a => (g4 j (by omega)).trans (ev_un (fun q => by have := q.2; omega))⟩
      by_cases e : j = k
      · subst e; exact (g4 j (by omega)).trans ev_us
      · exact g3 j (by omega) b
theorem z_fill62 (C : ev_C) (v : Int) : ∃ C', f_15_fill_62 C v = some C' ∧ (∀ t, t ≠ 62 → C' t = C t) ∧ ∀ j : Nat, j < 8 → C' 62 j = v := by
  obtain ⟨C', g1, g2, g3, -⟩ := z_fl62 (v := v) 1000 0 C (by omega) (by omega)
  exact ⟨C', g1, g2, fun j hj => g3 j (by omega) hj⟩
theorem z_fl63 {v : Int} : ∀ (N k : Nat) (C : ev_C), 48 - k < N → k ≤ 48 → ∃ C', f_15_fill_63_L5 N C v k 48 = some C' ∧ (∀ t, t ≠ 63 → C' t = C t) ∧ (∀ j : Nat, k ≤ j → j < 48 → C' 63 j = v) ∧ ∀ j : Nat, j < k → C' 63 j = C 63 j
  | 0, k, C, h, _ => by omega
  | N + 1, k, C, h, hk => by
    rw [f_15_fill_63_L5]
    by_cases h1 : (48 : Int) ≤ k
    · rw [if_pos h1]
      exact ⟨C, rfl, fun _ _ => rfl, fun j a b => by omega, fun _ _ => rfl⟩
    · rw [if_neg h1, if_pos (by omega), Int.toNat_natCast, show ev_w ((k : Int) + 1) = ((k + 1 : Nat) : Int) by rw [ev_w_id (by omega) (by omega)]; omega]
      obtain ⟨C', g1, g2, g3, g4⟩ := z_fl63 (v := v) N (k + 1) (ev_u C 63 k v) (by omega) (by omega)
      refine ⟨C', g1, fun t ht => (g2 t ht).trans (ev_ut ht), fun j a b => ?_, fun j a => (g4 j (by omega)).trans (ev_un (fun q => by have := q.2; omega))⟩
      by_cases e : j = k
      · subst e; exact (g4 j (by omega)).trans ev_us
      · exact g3 j (by omega) b
theorem z_fill63 (C : ev_C) (v : Int) : ∃ C', f_15_fill_63 C v = some C' ∧ (∀ t, t ≠ 63 → C' t = C t) ∧ ∀ j : Nat, j < 48 → C' 63 j = v := by
  obtain ⟨C', g1, g2, g3, -⟩ := z_fl63 (v := v) 1000 0 C (by omega) (by omega)
  exact ⟨C', g1, g2, fun j hj => g3 j (by omega) hj⟩
theorem z_fl65 {v : Int} : ∀ (N k : Nat) (C : ev_C), 12 - k < N → k ≤ 12 → ∃ C', f_15_fill_65_L5 N C v k 12 = some C' ∧ (∀ t, t ≠ 65 → C' t = C t) ∧ (∀ j : Nat, k ≤ j → j < 12 → C' 65 j = v) ∧ ∀ j : Nat, j < k → C' 65 j = C 65 j
  | 0, k, C, h, _ => by omega
  | N + 1, k, C, h, hk => by
    rw [f_15_fill_65_L5]
    by_cases h1 : (12 : Int) ≤ k
    · rw [if_pos h1]
      exact ⟨C, rfl, fun _ _ => rfl, fun j a b => by omega, fun _ _ => rfl⟩
    · rw [if_neg h1, if_pos (by omega), Int.toNat_natCast, show ev_w ((k : Int) + 1) = ((k + 1 : Nat) : Int) by rw [ev_w_id (by omega) (by omega)]; omega]
      obtain ⟨C', g1, g2, g3, g4⟩ := z_fl65 (v := v) N (k + 1) (ev_u C 65 k v) (by omega) (by omega)
      refine ⟨C', g1, fun t ht => (g2 t ht).trans (ev_ut ht), fun j a b => ?_, fun j a => (g4 j (by omega)).trans (ev_un (fun q => by have := q.2; omega))⟩
      by_cases e : j = k
      · subst e; exact (g4 j (by omega)).trans ev_us
      · exact g3 j (by omega) b
theorem z_fill65 (C : ev_C) (v : Int) : ∃ C', f_15_fill_65 C v = some C' ∧ (∀ t, t ≠ 65 → C' t = C t) ∧ ∀ j : Nat, j < 12 → C' 65 j = v := by
  obtain ⟨C', g1, g2, g3, -⟩ := z_fl65 (v := v) 1000 0 C (by omega) (by omega)
  exact ⟨C', g1, g2, fun j hj => g3 j (by omega) hj⟩
theorem z_fl66 {v : Int} : ∀ (N k : Nat) (C : ev_C), 12 - k < N → k ≤ 12 → ∃ C', f_15_fill_66_L5 N C v k 12 = some C' ∧ (∀ t, t ≠ 66 → C' t = C t) ∧ (∀ j : Nat, k ≤ j → j < 12 → C' 66 j = v) ∧ ∀ j : Nat, j < k → C' 66 j = C 66 j
  | 0, k, C, h, _ => by omega
  | N + 1, k, C, h, hk => by
    rw [f_15_fill_66_L5]
    by_cases h1 : (12 : Int) ≤ k
    · rw [if_pos h1]
      exact ⟨C, rfl, fun _ _ => rfl, fun j a b => by omega, fun _ _ => rfl⟩
    · rw [if_neg h1, if_pos (by omega), Int.toNat_natCast, show ev_w ((k : Int) + 1) = ((k + 1 : Nat) : Int) by rw [ev_w_id (by omega) (by omega)]; omega]
      obtain ⟨C', g1, g2, g3, g4⟩ := z_fl66 (v := v) N (k + 1) (ev_u C 66 k v) (by omega) (by omega)
      refine ⟨C', g1, fun t ht => (g2 t ht).trans (ev_ut ht), fun j a b => ?_, fun j a => (g4 j (by omega)).trans (ev_un (fun q => by have := q.2; omega))⟩
      by_cases e : j = k
      · subst e; exact (g4 j (by omega)).trans ev_us
      · exact g3 j (by omega) b
theorem z_fill66 (C : ev_C) (v : Int) : ∃ C', f_15_fill_66 C v = some C' ∧ (∀ t, t ≠ 66 → C' t = C t) ∧ ∀ j : Nat, j < 12 → C' 66 j = v := by
  obtain ⟨C', g1, g2, g3, -⟩ := z_fl66 (v := v) 1000 0 C (by omega) (by omega)
  exact ⟨C', g1, g2, fun j hj => g3 j (by omega) hj⟩
theorem z_fl26 {C : ev_C} {v : Int} : ∀ (N k : Nat), 6 - k < N → k ≤ 6 → f_15_fill_26_L5 N C v k 6 = some C
  | 0, k, h, _ => by omega
  | N + 1, k, h, hk => by
    rw [f_15_fill_26_L5]
    by_cases h1 : (6 : Int) ≤ k
    · rw [if_pos h1]
    · rw [if_neg h1, if_pos (by omega), show ev_w ((k : Int) + 1) = ((k + 1 : Nat) : Int) by rw [ev_w_id (by omega) (by omega)]; omega]
      exact z_fl26 N (k + 1) (by omega) (by omega)
theorem z_fill26 (C : ev_C) (v : Int) : f_15_fill_26 C v = some C := z_fl26 1000 0 (by omega) (by omega)
theorem z_fl21 {C : ev_C} {v : Int} : ∀ (N k : Nat), 8 - k < N → k ≤ 8 → f_15_fill_21_L5 N C v k 8 = some C
  | 0, k, h, _ => by omega
  | N + 1, k, h, hk => by
    rw [f_15_fill_21_L5]
    by_cases h1 : (8 : Int) ≤ k
    · rw [if_pos h1]
    · rw [if_neg h1, if_pos (by omega), show ev_w ((k : Int) + 1) = ((k + 1 : Nat) : Int) by rw [ev_w_id (by omega) (by omega)]; omega]
      exact z_fl21 N (k + 1) (by omega) (by omega)
theorem z_fill21 (C : ev_C) (v : Int) : f_15_fill_21 C v = some C := z_fl21 1000 0 (by omega) (by omega)
theorem z_begin (C : ev_C) : f_2_begin C = some C := by
  unfold f_2_begin
  rw [z_fill26, ev_bvS, z_fill26, ev_bvS, z_fill21, ev_bvS, z_fill21, ev_bvS, z_fill21, ev_bvS]
theorem z_clear (C : ev_C) : ∃ C', f_6_clear_13 C = some C' ∧ (C' 8 = C 8 ∧ C' 10 = C 10 ∧ C' 15 = C 15 ∧ C' 16 = C 16 ∧ C' 11 = C 11) ∧ (∀ j : Nat, j < 6 → C' 13 j = 0) ∧ (∀ j : Nat, j < 6 → C' 57 j = 0) ∧ (∀ j : Nat, j < 6 → C' 58 j = 0) ∧ (∀ j : Nat, j < 8 → C' 61 j = 0) ∧ (∀ j : Nat, j < 8 → C' 62 j = 0) ∧ (∀ j : Nat, j < 48 → C' 63 j = 0) ∧ (∀ j : Nat, j < 12 → C' 65 j = 0) ∧ (∀ j : Nat, j < 12 → C' 66 j = 0) := by
  obtain ⟨X, hX⟩ : ∃ X, X = ev_u (ev_u (ev_u (ev_u (ev_u (ev_u C 13 0 0) 13 1 0) 13 2 0) 13 3 0) 13 4 0) 13 5 0 := ⟨_, rfl⟩
  obtain ⟨C1, a1, a2, a3⟩ := z_fill57 X 0
  obtain ⟨C2, b1, b2, b3⟩ := z_fill58 C1 0
  obtain ⟨C3, c1, c2, c3⟩ := z_fill61 C2 0
  obtain ⟨C4, d1, d2, d3⟩ := z_fill62 C3 0
  obtain ⟨C5, e1, e2, e3⟩ := z_fill63 C4 0
  obtain ⟨C6, f1, f2, f3⟩ := z_fill65 C5 0
  obtain ⟨C7, g1, g2, g3⟩ := z_fill66 C6 0
  have hx : ∀ t, t ≠ 13 → X t = C t := by
    intro t ht
    rw [hX, ev_ut ht, ev_ut ht, ev_ut ht, ev_ut ht, ev_ut ht, ev_ut ht]
  have all : ∀ t, t ≠ 57 → t ≠ 58 → t ≠ 61 → t ≠ 62 → t ≠ 63 → t ≠ 65 → t ≠ 66 → C7 t = X t := fun t h1 h2 h3 h4 h5 h6 h7 => by
    rw [g2 t h7, f2 t h6, e2 t h5, d2 t h4, c2 t h3, b2 t h2, a2 t h1]
  refine ⟨C7, ?_, ⟨?_, ?_, ?_, ?_, ?_⟩, ?_, ?_, ?_, ?_, ?_, ?_, ?_, ?_⟩
  · unfold f_6_clear_13
    rw [← hX, a1, ev_bvS, b1, ev_bvS, c1, ev_bvS, d1, ev_bvS, e1, ev_bvS, f1, ev_bvS, g1, ev_bvS]
  · rw [all 8 (by decide) (by decide) (by decide) (by decide) (by decide) (by decide) (by decide), hx 8 (by decide)]
  · rw [all 10 (by decide) (by decide) (by decide) (by decide) (by decide) (by decide) (by decide), hx 10 (by decide)]
  · rw [all 15 (by decide) (by decide) (by decide) (by decide) (by decide) (by decide) (by decide), hx 15 (by decide)]
  · rw [all 16 (by decide) (by decide) (by decide) (by decide) (by decide) (by decide) (by decide), hx 16 (by decide)]
  · rw [all 11 (by decide) (by decide) (by decide) (by decide) (by decide) (by decide) (by decide), hx 11 (by decide)]
  · intro j hj
    rw [all 13 (by decide) (by decide) (by decide) (by decide) (by decide) (by decide) (by decide), hX]
    rcases (show j = 0 ∨ j = 1 ∨ j = 2 ∨ j = 3 ∨ j = 4 ∨ j = 5 by omega) with rfl | rfl | rfl | rfl | rfl | rfl <;> rfl
  · intro j hj
    rw [g2 57 (by decide), f2 57 (by decide), e2 57 (by decide), d2 57 (by decide), c2 57 (by decide), b2 57 (by decide)]
    exact a3 j hj
  · intro j hj
    rw [g2 58 (by decide), f2 58 (by decide), e2 58 (by decide), d2 58 (by decide), c2 58 (by decide)]
    exact b3 j hj
  · intro j hj
    rw [g2 61 (by decide), f2 61 (by decide), e2 61 (by decide), d2 61 (by decide)]
    exact c3 j hj
  · intro j hj
    rw [g2 62 (by decide), f2 62 (by decide), e2 62 (by decide)]
    exact d3 j hj
  · intro j hj
    rw [g2 63 (by decide), f2 63 (by decide)]
    exact e3 j hj
  · intro j hj
    rw [g2 65 (by decide)]
    exact f3 j hj
  · exact g3
/-! the reference's rows -/
theorem z_L24 : ∀ (N k : Nat) (C : ev_C), 140 - k < N → k ≤ 140 → ∃ C', f_12_play_L24 N C k = (ev_bv (f_12_go C') fun C3 => f_12_play_L48 1000 C3 140) ∧ (∀ t, t ≠ 35 → C' t = C t) ∧ (∀ j : Nat, k ≤ j → j < 140 → C' 35 j = 0) ∧ ∀ j : Nat, j < k → C' 35 j = C 35 j
  | 0, k, C, h, _ => by omega
  | N + 1, k, C, h, hk => by
    rw [f_12_play_L24]
    by_cases h1 : (140 : Int) ≤ k
    · have e : k = 140 := by omega
      subst e
      rw [if_pos h1]
      exact ⟨C, rfl, fun _ _ => rfl, fun j a b => by omega, fun _ _ => rfl⟩
    · rw [if_neg h1, if_pos (by omega), Int.toNat_natCast, show ev_w ((k : Int) + 1) = ((k + 1 : Nat) : Int) by rw [ev_w_id (by omega) (by omega)]; omega]
      obtain ⟨C', g1, g2, g3, g4⟩ := z_L24 N (k + 1) (ev_u C 35 k 0) (by omega) (by omega)
      refine ⟨C', g1, fun t ht => (g2 t ht).trans (ev_ut ht), fun j a b => ?_, fun j a => (g4 j (by omega)).trans (ev_un (fun q => by have := q.2; omega))⟩
      by_cases e : j = k
      · subst e; exact (g4 j (by omega)).trans ev_us
      · exact g3 j (by omega) b
theorem z_L131 : ∀ (N k : Nat) (C : ev_C), 20 - k < N → k ≤ 20 → ∃ C', f_12_play_L131 N C k = some (C 12 19, ev_u C' 12 22 0) ∧ (∀ t, t ≠ 19 → C' t = C t) ∧ (∀ j : Nat, k ≤ j → j < 20 → C' 19 j = C 19 (20 + j)) ∧ ∀ j : Nat, j < k → C' 19 j = C 19 j
  | 0, k, C, h, _ => by omega
  | N + 1, k, C, h, hk => by
    rw [f_12_play_L131]
    by_cases h1 : (20 : Int) ≤ k
    · rw [if_pos h1]
      exact ⟨C, rfl, fun _ _ => rfl, fun j a b => by omega, fun _ _ => rfl⟩
    · have e0 : ev_w ((20 : Int) + k) = ((20 + k : Nat) : Int) := by rw [ev_w_id (by omega) (by omega)]; omega
      rw [if_neg h1, e0, if_pos (by omega), if_pos (by omega), Int.toNat_natCast, Int.toNat_natCast, show ev_w ((k : Int) + 1) = ((k + 1 : Nat) : Int) by rw [ev_w_id (by omega) (by omega)]; omega]
      obtain ⟨C', g1, g2, g3, g4⟩ := z_L131 N (k + 1) (ev_u C 19 k (C 19 (20 + k))) (by omega) (by omega)
      refine ⟨C', g1, fun t ht => (g2 t ht).trans (ev_ut ht), fun j a b => ?_, fun j a => (g4 j (by omega)).trans (ev_un (fun q => by have := q.2; omega))⟩
      by_cases e : j = k
      · subst e; exact (g4 j (by omega)).trans ev_us
      · exact (g3 j (by omega) b).trans (ev_un (fun q => by have := q.2; omega))
theorem z_L93 : ∀ (N k : Nat) (C : ev_C), 367 - k < N → k ≤ 367 → ∃ C', f_12_play_L93 N C k = f_12_play_L131 1000 C' 0 ∧ (∀ t, t ≠ 34 → C' t = C t) ∧ (∀ j : Nat, k ≤ j → j < 367 → C' 34 j = (if j < 140 then C 35 j else 0)) ∧ ∀ j : Nat, j < k → C' 34 j = C 34 j
  | 0, k, C, h, _ => by omega
  | N + 1, k, C, h, hk => by
    rw [f_12_play_L93]
    by_cases h1 : (367 : Int) ≤ k
    · rw [if_pos h1]
      exact ⟨C, rfl, fun _ _ => rfl, fun j a b => by omega, fun _ _ => rfl⟩
    · rw [if_neg h1]
      have e1 : ev_w ((k : Int) + 1) = ((k + 1 : Nat) : Int) := by rw [ev_w_id (by omega) (by omega)]; omega
      have key : ∀ v : Int, v = (if k < 140 then C 35 k else 0) → f_12_play_J122 (f_12_play_L93 N) C k v k = f_12_play_L93 N (ev_u C 34 k v) ((k + 1 : Nat) : Int) → ∃ C', f_12_play_J122 (f_12_play_L93 N) C k v k = f_12_play_L131 1000 C' 0 ∧ (∀ t, t ≠ 34 → C' t = C t) ∧ (∀ j : Nat, k ≤ j → j < 367 → C' 34 j = (if j < 140 then C 35 j else 0)) ∧ ∀ j : Nat, j < k → C' 34 j = C 34 j := by
        intro v hv he
        obtain ⟨C', g1, g2, g3, g4⟩ := z_L93 N (k + 1) (ev_u C 34 k v) (by omega) (by omega)
        refine ⟨C', he.trans g1, fun t ht => (g2 t ht).trans (ev_ut ht), fun j a b => ?_, fun j a => (g4 j (by omega)).trans (ev_un (fun q => by have := q.2; omega))⟩
        by_cases e : j = k
        · subst e; exact ((g4 j (by omega)).trans ev_us).trans hv
        · exact g3 j (by omega) b
      by_cases h2 : (140 : Int) ≤ k
      · rw [if_pos h2]
        refine key 0 (by rw [if_neg (by omega)]) ?_
        unfold f_12_play_J122
        rw [if_pos (by omega), Int.toNat_natCast, e1]
      · rw [if_neg h2, if_pos (by omega), Int.toNat_natCast]
        refine key _ (by rw [if_pos (by omega)]) ?_
        unfold f_12_play_J122
        rw [if_pos (by omega), Int.toNat_natCast, e1]
