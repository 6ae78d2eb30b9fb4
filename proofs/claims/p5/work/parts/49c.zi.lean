/-! THE PLAYS KEPT, 1: image(), restore(), count(), act(), scene() of both. -/
theorem z_cp_i {C : ev_C} (h : 0 ≤ C 6 5 ∧ C 6 5 ≤ 1) : ∃ C', f_6_copyFrom_51_6 C = some C' ∧ (∀ t : Nat, t ≠ 51 → (t < 81 ∨ 94 < t) → C' t = C t) ∧ (∀ k : Nat, k < 6 → C' 51 k = C 6 k) ∧ (∀ k : Nat, k < 6 → C' 81 k = C 67 k) ∧ (∀ k : Nat, k < 6 → C' (81 + 1) k = C (67 + 1) k) ∧ (∀ k : Nat, k < 8 → C' (81 + 2) k = C (67 + 2) k) ∧ (∀ k : Nat, k < 12 → C' (81 + 11) k = C (67 + 11) k) ∧ (∀ k : Nat, k < 12 → C' (81 + 12) k = C (67 + 12) k) ∧ (∀ k : Nat, k < 12 → C' (81 + 13) k = C (67 + 13) k) := by
  unfold f_6_copyFrom_51_6
  rw [if_pos h]
  refine ⟨_, rfl, fun t h1 h2 => ?_, fun k hk => ?_, fun k hk => ?_, fun k hk => ?_, fun k hk => ?_, fun k hk => ?_, fun k hk => ?_, fun k hk => ?_⟩
  · rw [ev_cpt (by omega), ev_cpt (by omega), ev_cpt (by omega), ev_cpt (by omega), ev_cpt (by omega), ev_cpt (by omega), ev_cpt (by omega), ev_cpt (by omega), ev_cpt (by omega), ev_cpt (by omega), ev_cpt (by omega), ev_cpt (by omega), ev_cpt (by omega), ev_cpt (by omega), ev_ut h1, ev_ut h1, ev_ut h1, ev_ut h1, ev_ut h1, ev_ut h1]
  · rcases (show k = 0 ∨ k = 1 ∨ k = 2 ∨ k = 3 ∨ k = 4 ∨ k = 5 by omega) with rfl | rfl | rfl | rfl | rfl | rfl <;> rfl
  · rw [ev_cpt (by decide), ev_cpt (by decide), ev_cpt (by decide), ev_cpt (by decide), ev_cpt (by decide), ev_cpt (by decide), ev_cpt (by decide), ev_cpt (by decide), ev_cpt (by decide), ev_cpt (by decide), ev_cpt (by decide), ev_cpt (by decide), ev_cpt (by decide)]; exact if_pos ⟨rfl, hk⟩
  · rw [ev_cpt (by decide), ev_cpt (by decide), ev_cpt (by decide), ev_cpt (by decide), ev_cpt (by decide), ev_cpt (by decide), ev_cpt (by decide), ev_cpt (by decide), ev_cpt (by decide), ev_cpt (by decide), ev_cpt (by decide), ev_cpt (by decide)]; exact if_pos ⟨rfl, hk⟩
  · rw [ev_cpt (by decide), ev_cpt (by decide), ev_cpt (by decide), ev_cpt (by decide), ev_cpt (by decide), ev_cpt (by decide), ev_cpt (by decide), ev_cpt (by decide), ev_cpt (by decide), ev_cpt (by decide), ev_cpt (by decide)]; exact if_pos ⟨rfl, hk⟩
  · rw [ev_cpt (by decide), ev_cpt (by decide)]; exact if_pos ⟨rfl, hk⟩
  · rw [ev_cpt (by decide)]; exact if_pos ⟨rfl, hk⟩
  · exact if_pos ⟨rfl, hk⟩
theorem z_cp_j {C : ev_C} (h : 0 ≤ C 6 5 ∧ C 6 5 ≤ 1) : ∃ C', f_6_copyFrom_52_6 C = some C' ∧ (∀ t : Nat, t ≠ 52 → (t < 95 ∨ 108 < t) → C' t = C t) ∧ (∀ k : Nat, k < 6 → C' 52 k = C 6 k) ∧ (∀ k : Nat, k < 6 → C' 95 k = C 67 k) ∧ (∀ k : Nat, k < 6 → C' (95 + 1) k = C (67 + 1) k) ∧ (∀ k : Nat, k < 8 → C' (95 + 2) k = C (67 + 2) k) ∧ (∀ k : Nat, k < 12 → C' (95 + 11) k = C (67 + 11) k) ∧ (∀ k : Nat, k < 12 → C' (95 + 12) k = C (67 + 12) k) ∧ (∀ k : Nat, k < 12 → C' (95 + 13) k = C (67 + 13) k) := by
  unfold f_6_copyFrom_52_6
  rw [if_pos h]
  refine ⟨_, rfl, fun t h1 h2 => ?_, fun k hk => ?_, fun k hk => ?_, fun k hk => ?_, fun k hk => ?_, fun k hk => ?_, fun k hk => ?_, fun k hk => ?_⟩
  · rw [ev_cpt (by omega), ev_cpt (by omega), ev_cpt (by omega), ev_cpt (by omega), ev_cpt (by omega), ev_cpt (by omega), ev_cpt (by omega), ev_cpt (by omega), ev_cpt (by omega), ev_cpt (by omega), ev_cpt (by omega), ev_cpt (by omega), ev_cpt (by omega), ev_cpt (by omega), ev_ut h1, ev_ut h1, ev_ut h1, ev_ut h1, ev_ut h1, ev_ut h1]
  · rcases (show k = 0 ∨ k = 1 ∨ k = 2 ∨ k = 3 ∨ k = 4 ∨ k = 5 by omega) with rfl | rfl | rfl | rfl | rfl | rfl <;> rfl
  · rw [ev_cpt (by decide), ev_cpt (by decide), ev_cpt (by decide), ev_cpt (by decide), ev_cpt (by decide), ev_cpt (by decide), ev_cpt (by decide), ev_cpt (by decide), ev_cpt (by decide), ev_cpt (by decide), ev_cpt (by decide), ev_cpt (by decide), ev_cpt (by decide)]; exact if_pos ⟨rfl, hk⟩
  · rw [ev_cpt (by decide), ev_cpt (by decide), ev_cpt (by decide), ev_cpt (by decide), ev_cpt (by decide), ev_cpt (by decide), ev_cpt (by decide), ev_cpt (by decide), ev_cpt (by decide), ev_cpt (by decide), ev_cpt (by decide), ev_cpt (by decide)]; exact if_pos ⟨rfl, hk⟩
  · rw [ev_cpt (by decide), ev_cpt (by decide), ev_cpt (by decide), ev_cpt (by decide), ev_cpt (by decide), ev_cpt (by decide), ev_cpt (by decide), ev_cpt (by decide), ev_cpt (by decide), ev_cpt (by decide), ev_cpt (by decide)]; exact if_pos ⟨rfl, hk⟩
  · rw [ev_cpt (by decide), ev_cpt (by decide)]; exact if_pos ⟨rfl, hk⟩
  · rw [ev_cpt (by decide)]; exact if_pos ⟨rfl, hk⟩
  · exact if_pos ⟨rfl, hk⟩
theorem z_pc_i {C : ev_C} (h : 0 ≤ C 51 5 ∧ C 51 5 ≤ 1) : ∃ C', f_6_copyFrom_51 C = some C' ∧ (∀ t : Nat, t ≠ 6 → (t < 67 ∨ 80 < t) → C' t = C t) ∧ (∀ k : Nat, k < 6 → C' 6 k = C 51 k) ∧ (∀ k : Nat, k < 6 → C' 67 k = C 81 k) ∧ (∀ k : Nat, k < 6 → C' (67 + 1) k = C (81 + 1) k) ∧ (∀ k : Nat, k < 8 → C' (67 + 2) k = C (81 + 2) k) ∧ (∀ k : Nat, k < 12 → C' (67 + 11) k = C (81 + 11) k) ∧ (∀ k : Nat, k < 12 → C' (67 + 12) k = C (81 + 12) k) ∧ (∀ k : Nat, k < 12 → C' (67 + 13) k = C (81 + 13) k) := by
  unfold f_6_copyFrom_51
  rw [if_pos h]
  refine ⟨_, rfl, fun t h1 h2 => ?_, fun k hk => ?_, fun k hk => ?_, fun k hk => ?_, fun k hk => ?_, fun k hk => ?_, fun k hk => ?_, fun k hk => ?_⟩
  · rw [ev_cpt (by omega), ev_cpt (by omega), ev_cpt (by omega), ev_cpt (by omega), ev_cpt (by omega), ev_cpt (by omega), ev_cpt (by omega), ev_cpt (by omega), ev_cpt (by omega), ev_cpt (by omega), ev_cpt (by omega), ev_cpt (by omega), ev_cpt (by omega), ev_cpt (by omega), ev_ut h1, ev_ut h1, ev_ut h1, ev_ut h1, ev_ut h1, ev_ut h1]
  · rcases (show k = 0 ∨ k = 1 ∨ k = 2 ∨ k = 3 ∨ k = 4 ∨ k = 5 by omega) with rfl | rfl | rfl | rfl | rfl | rfl <;> rfl
  · rw [ev_cpt (by decide), ev_cpt (by decide), ev_cpt (by decide), ev_cpt (by decide), ev_cpt (by decide), ev_cpt (by decide), ev_cpt (by decide), ev_cpt (by decide), ev_cpt (by decide), ev_cpt (by decide), ev_cpt (by decide), ev_cpt (by decide), ev_cpt (by decide)]; exact if_pos ⟨rfl, hk⟩
  · rw [ev_cpt (by decide), ev_cpt (by decide), ev_cpt (by decide), ev_cpt (by decide), ev_cpt (by decide), ev_cpt (by decide), ev_cpt (by decide), ev_cpt (by decide), ev_cpt (by decide), ev_cpt (by decide), ev_cpt (by decide), ev_cpt (by decide)]; exact if_pos ⟨rfl, hk⟩
  · rw [ev_cpt (by decide), ev_cpt (by decide), ev_cpt (by decide), ev_cpt (by decide), ev_cpt (by decide), ev_cpt (by decide), ev_cpt (by decide), ev_cpt (by decide), ev_cpt (by decide), ev_cpt (by decide), ev_cpt (by decide)]; exact if_pos ⟨rfl, hk⟩
  · rw [ev_cpt (by decide), ev_cpt (by decide)]; exact if_pos ⟨rfl, hk⟩
  · rw [ev_cpt (by decide)]; exact if_pos ⟨rfl, hk⟩
  · exact if_pos ⟨rfl, hk⟩
theorem z_pc_j {C : ev_C} (h : 0 ≤ C 52 5 ∧ C 52 5 ≤ 1) : ∃ C', f_6_copyFrom_52 C = some C' ∧ (∀ t : Nat, t ≠ 6 → (t < 67 ∨ 80 < t) → C' t = C t) ∧ (∀ k : Nat, k < 6 → C' 6 k = C 52 k) ∧ (∀ k : Nat, k < 6 → C' 67 k = C 95 k) ∧ (∀ k : Nat, k < 6 → C' (67 + 1) k = C (95 + 1) k) ∧ (∀ k : Nat, k < 8 → C' (67 + 2) k = C (95 + 2) k) ∧ (∀ k : Nat, k < 12 → C' (67 + 11) k = C (95 + 11) k) ∧ (∀ k : Nat, k < 12 → C' (67 + 12) k = C (95 + 12) k) ∧ (∀ k : Nat, k < 12 → C' (67 + 13) k = C (95 + 13) k) := by
  unfold f_6_copyFrom_52
  rw [if_pos h]
  refine ⟨_, rfl, fun t h1 h2 => ?_, fun k hk => ?_, fun k hk => ?_, fun k hk => ?_, fun k hk => ?_, fun k hk => ?_, fun k hk => ?_, fun k hk => ?_⟩
  · rw [ev_cpt (by omega), ev_cpt (by omega), ev_cpt (by omega), ev_cpt (by omega), ev_cpt (by omega), ev_cpt (by omega), ev_cpt (by omega), ev_cpt (by omega), ev_cpt (by omega), ev_cpt (by omega), ev_cpt (by omega), ev_cpt (by omega), ev_cpt (by omega), ev_cpt (by omega), ev_ut h1, ev_ut h1, ev_ut h1, ev_ut h1, ev_ut h1, ev_ut h1]
  · rcases (show k = 0 ∨ k = 1 ∨ k = 2 ∨ k = 3 ∨ k = 4 ∨ k = 5 by omega) with rfl | rfl | rfl | rfl | rfl | rfl <;> rfl
  · rw [ev_cpt (by decide), ev_cpt (by decide), ev_cpt (by decide), ev_cpt (by decide), ev_cpt (by decide), ev_cpt (by decide), ev_cpt (by decide), ev_cpt (by decide), ev_cpt (by decide), ev_cpt (by decide), ev_cpt (by decide), ev_cpt (by decide), ev_cpt (by decide)]; exact if_pos ⟨rfl, hk⟩
  · rw [ev_cpt (by decide), ev_cpt (by decide), ev_cpt (by decide), ev_cpt (by decide), ev_cpt (by decide), ev_cpt (by decide), ev_cpt (by decide), ev_cpt (by decide), ev_cpt (by decide), ev_cpt (by decide), ev_cpt (by decide), ev_cpt (by decide)]; exact if_pos ⟨rfl, hk⟩
  · rw [ev_cpt (by decide), ev_cpt (by decide), ev_cpt (by decide), ev_cpt (by decide), ev_cpt (by decide), ev_cpt (by decide), ev_cpt (by decide), ev_cpt (by decide), ev_cpt (by decide), ev_cpt (by decide), ev_cpt (by decide)]; exact if_pos ⟨rfl, hk⟩
  · rw [ev_cpt (by decide), ev_cpt (by decide)]; exact if_pos ⟨rfl, hk⟩
  · rw [ev_cpt (by decide)]; exact if_pos ⟨rfl, hk⟩
  · exact if_pos ⟨rfl, hk⟩
theorem z_image_k0_L51 : ∀ (N k : Nat) (C : ev_C), 20 - k < N → k ≤ 20 → ∃ C', f_12_image_k0_L51 N C 0 k = some (1, ev_u C' 46 0 1) ∧ (∀ t, t ≠ 109 → C' t = C t) ∧ (∀ j : Nat, k ≤ j → j < 20 → C' 109 (0 + j) = C 19 j) ∧ ∀ j : Nat, (j < 0 + k ∨ 0 + 20 ≤ j) → C' 109 j = C 109 j
  | 0, k, C, h, _ => by omega
  | N + 1, k, C, h, hk => by
    rw [f_12_image_k0_L51]
    by_cases h1 : (20 : Int) ≤ k
    · have e : k = 20 := by omega
      subst e
      rw [if_pos h1, if_pos (by decide)]
      exact ⟨C, rfl, fun _ _ => rfl, fun j a b => by omega, fun _ _ => rfl⟩
    · have e0 : ev_w ((ev_w ((20 : Int) * 0)) + (k : Int)) = ((0 + k : Nat) : Int) := by rw [show ev_w ((20 : Int) * 0) = 0 by decide, ev_w_id (by omega) (by omega)]; omega
      rw [if_neg h1, if_pos (by omega), e0, if_pos (by omega), Int.toNat_natCast, Int.toNat_natCast, show ev_w ((k : Int) + 1) = ((k + 1 : Nat) : Int) by rw [ev_w_id (by omega) (by omega)]; omega]
      obtain ⟨C', g1, g2, g3, g4⟩ := z_image_k0_L51 N (k + 1) (ev_u C 109 (0 + k) (C 19 k)) (by omega) (by omega)
      refine ⟨C', g1, fun t ht => (g2 t ht).trans (ev_ut ht), fun j a b => ?_, fun j a => (g4 j (by omega)).trans (ev_un (fun q => by have := q.2; omega))⟩
      by_cases e : j = k
      · subst e; exact (g4 _ (by omega)).trans ev_us
      · exact (g3 j (by omega) b).trans (congrFun (ev_ut (by decide)) j)
theorem z_image_k0_L18 : ∀ (N k : Nat) (C : ev_C), 367 - k < N → k ≤ 367 → ∃ C', f_12_image_k0_L18 N C 0 k = f_12_image_k0_L51 1000 C' 0 0 ∧ (∀ t, t ≠ 45 → C' t = C t) ∧ (∀ j : Nat, k ≤ j → j < 367 → C' 45 (0 + j) = C 34 j) ∧ ∀ j : Nat, (j < 0 + k ∨ 0 + 367 ≤ j) → C' 45 j = C 45 j
  | 0, k, C, h, _ => by omega
  | N + 1, k, C, h, hk => by
    rw [f_12_image_k0_L18]
    by_cases h1 : (367 : Int) ≤ k
    · have e : k = 367 := by omega
      subst e
      rw [if_pos h1]
      exact ⟨C, rfl, fun _ _ => rfl, fun j a b => by omega, fun _ _ => rfl⟩
    · have e0 : ev_w ((ev_w ((367 : Int) * 0)) + (k : Int)) = ((0 + k : Nat) : Int) := by rw [show ev_w ((367 : Int) * 0) = 0 by decide, ev_w_id (by omega) (by omega)]; omega
      rw [if_neg h1, if_pos (by omega), e0, if_pos (by omega), Int.toNat_natCast, Int.toNat_natCast, show ev_w ((k : Int) + 1) = ((k + 1 : Nat) : Int) by rw [ev_w_id (by omega) (by omega)]; omega]
      obtain ⟨C', g1, g2, g3, g4⟩ := z_image_k0_L18 N (k + 1) (ev_u C 45 (0 + k) (C 34 k)) (by omega) (by omega)
      refine ⟨C', g1, fun t ht => (g2 t ht).trans (ev_ut ht), fun j a b => ?_, fun j a => (g4 j (by omega)).trans (ev_un (fun q => by have := q.2; omega))⟩
      by_cases e : j = k
      · subst e; exact (g4 _ (by omega)).trans ev_us
      · exact (g3 j (by omega) b).trans (congrFun (ev_ut (by decide)) j)
theorem z_restore_k0_L60 : ∀ (N k : Nat) (C : ev_C), 20 - k < N → k ≤ 20 → ∃ C', f_12_restore_k0_L60 N C 0 k = some (1, ev_u C' 12 22 0) ∧ (∀ t, t ≠ 19 → C' t = C t) ∧ (∀ j : Nat, k ≤ j → j < 20 → C' 19 j = C 109 (0 + j)) ∧ ∀ j : Nat, (j < k ∨ 20 ≤ j) → C' 19 j = C 19 j
  | 0, k, C, h, _ => by omega
  | N + 1, k, C, h, hk => by
    rw [f_12_restore_k0_L60]
    by_cases h1 : (20 : Int) ≤ k
    · have e : k = 20 := by omega
      subst e
      rw [if_pos h1]
      exact ⟨C, rfl, fun _ _ => rfl, fun j a b => by omega, fun _ _ => rfl⟩
    · have e0 : ev_w ((ev_w ((20 : Int) * 0)) + (k : Int)) = ((0 + k : Nat) : Int) := by rw [show ev_w ((20 : Int) * 0) = 0 by decide, ev_w_id (by omega) (by omega)]; omega
      rw [if_neg h1, e0, if_pos (by omega), if_pos (by omega), Int.toNat_natCast, Int.toNat_natCast, show ev_w ((k : Int) + 1) = ((k + 1 : Nat) : Int) by rw [ev_w_id (by omega) (by omega)]; omega]
      obtain ⟨C', g1, g2, g3, g4⟩ := z_restore_k0_L60 N (k + 1) (ev_u C 19 k (C 109 (0 + k))) (by omega) (by omega)
      refine ⟨C', g1, fun t ht => (g2 t ht).trans (ev_ut ht), fun j a b => ?_, fun j a => (g4 j (by omega)).trans (ev_un (fun q => by have := q.2; omega))⟩
      by_cases e : j = k
      · subst e; exact (g4 j (by omega)).trans ev_us
      · exact (g3 j (by omega) b).trans (congrFun (ev_ut (by decide)) _)
theorem z_restore_k0_L27 : ∀ (N k : Nat) (C : ev_C), 367 - k < N → k ≤ 367 → ∃ C', f_12_restore_k0_L27 N C 0 k = f_12_restore_k0_L60 1000 C' 0 0 ∧ (∀ t, t ≠ 34 → C' t = C t) ∧ (∀ j : Nat, k ≤ j → j < 367 → C' 34 j = C 45 (0 + j)) ∧ ∀ j : Nat, (j < k ∨ 367 ≤ j) → C' 34 j = C 34 j
  | 0, k, C, h, _ => by omega
  | N + 1, k, C, h, hk => by
    rw [f_12_restore_k0_L27]
    by_cases h1 : (367 : Int) ≤ k
    · have e : k = 367 := by omega
      subst e
      rw [if_pos h1]
      exact ⟨C, rfl, fun _ _ => rfl, fun j a b => by omega, fun _ _ => rfl⟩
    · have e0 : ev_w ((ev_w ((367 : Int) * 0)) + (k : Int)) = ((0 + k : Nat) : Int) := by rw [show ev_w ((367 : Int) * 0) = 0 by decide, ev_w_id (by omega) (by omega)]; omega
      rw [if_neg h1, e0, if_pos (by omega), if_pos (by omega), Int.toNat_natCast, Int.toNat_natCast, show ev_w ((k : Int) + 1) = ((k + 1 : Nat) : Int) by rw [ev_w_id (by omega) (by omega)]; omega]
      obtain ⟨C', g1, g2, g3, g4⟩ := z_restore_k0_L27 N (k + 1) (ev_u C 34 k (C 45 (0 + k))) (by omega) (by omega)
      refine ⟨C', g1, fun t ht => (g2 t ht).trans (ev_ut ht), fun j a b => ?_, fun j a => (g4 j (by omega)).trans (ev_un (fun q => by have := q.2; omega))⟩
      by_cases e : j = k
      · subst e; exact (g4 j (by omega)).trans ev_us
      · exact (g3 j (by omega) b).trans (congrFun (ev_ut (by decide)) _)
theorem z_image_k1_L51 : ∀ (N k : Nat) (C : ev_C), 20 - k < N → k ≤ 20 → ∃ C', f_12_image_k1_L51 N C 1 k = some (1, ev_u C' 46 1 1) ∧ (∀ t, t ≠ 109 → C' t = C t) ∧ (∀ j : Nat, k ≤ j → j < 20 → C' 109 (20 + j) = C 19 j) ∧ ∀ j : Nat, (j < 20 + k ∨ 20 + 20 ≤ j) → C' 109 j = C 109 j
  | 0, k, C, h, _ => by omega
  | N + 1, k, C, h, hk => by
    rw [f_12_image_k1_L51]
    by_cases h1 : (20 : Int) ≤ k
    · have e : k = 20 := by omega
      subst e
      rw [if_pos h1, if_pos (by decide)]
      exact ⟨C, rfl, fun _ _ => rfl, fun j a b => by omega, fun _ _ => rfl⟩
    · have e0 : ev_w ((ev_w ((20 : Int) * 1)) + (k : Int)) = ((20 + k : Nat) : Int) := by rw [show ev_w ((20 : Int) * 1) = 20 by decide, ev_w_id (by omega) (by omega)]; omega
      rw [if_neg h1, if_pos (by omega), e0, if_pos (by omega), Int.toNat_natCast, Int.toNat_natCast, show ev_w ((k : Int) + 1) = ((k + 1 : Nat) : Int) by rw [ev_w_id (by omega) (by omega)]; omega]
      obtain ⟨C', g1, g2, g3, g4⟩ := z_image_k1_L51 N (k + 1) (ev_u C 109 (20 + k) (C 19 k)) (by omega) (by omega)
      refine ⟨C', g1, fun t ht => (g2 t ht).trans (ev_ut ht), fun j a b => ?_, fun j a => (g4 j (by omega)).trans (ev_un (fun q => by have := q.2; omega))⟩
      by_cases e : j = k
      · subst e; exact (g4 _ (by omega)).trans ev_us
      · exact (g3 j (by omega) b).trans (congrFun (ev_ut (by decide)) j)
theorem z_image_k1_L18 : ∀ (N k : Nat) (C : ev_C), 367 - k < N → k ≤ 367 → ∃ C', f_12_image_k1_L18 N C 1 k = f_12_image_k1_L51 1000 C' 1 0 ∧ (∀ t, t ≠ 45 → C' t = C t) ∧ (∀ j : Nat, k ≤ j → j < 367 → C' 45 (367 + j) = C 34 j) ∧ ∀ j : Nat, (j < 367 + k ∨ 367 + 367 ≤ j) → C' 45 j = C 45 j
  | 0, k, C, h, _ => by omega
  | N + 1, k, C, h, hk => by
    rw [f_12_image_k1_L18]
    by_cases h1 : (367 : Int) ≤ k
    · have e : k = 367 := by omega
      subst e
      rw [if_pos h1]
      exact ⟨C, rfl, fun _ _ => rfl, fun j a b => by omega, fun _ _ => rfl⟩
    · have e0 : ev_w ((ev_w ((367 : Int) * 1)) + (k : Int)) = ((367 + k : Nat) : Int) := by rw [show ev_w ((367 : Int) * 1) = 367 by decide, ev_w_id (by omega) (by omega)]; omega
      rw [if_neg h1, if_pos (by omega), e0, if_pos (by omega), Int.toNat_natCast, Int.toNat_natCast, show ev_w ((k : Int) + 1) = ((k + 1 : Nat) : Int) by rw [ev_w_id (by omega) (by omega)]; omega]
      obtain ⟨C', g1, g2, g3, g4⟩ := z_image_k1_L18 N (k + 1) (ev_u C 45 (367 + k) (C 34 k)) (by omega) (by omega)
      refine ⟨C', g1, fun t ht => (g2 t ht).trans (ev_ut ht), fun j a b => ?_, fun j a => (g4 j (by omega)).trans (ev_un (fun q => by have := q.2; omega))⟩
      by_cases e : j = k
      · subst e; exact (g4 _ (by omega)).trans ev_us
      · exact (g3 j (by omega) b).trans (congrFun (ev_ut (by decide)) j)
theorem z_restore_k1_L60 : ∀ (N k : Nat) (C : ev_C), 20 - k < N → k ≤ 20 → ∃ C', f_12_restore_k1_L60 N C 1 k = some (1, ev_u C' 12 22 0) ∧ (∀ t, t ≠ 19 → C' t = C t) ∧ (∀ j : Nat, k ≤ j → j < 20 → C' 19 j = C 109 (20 + j)) ∧ ∀ j : Nat, (j < k ∨ 20 ≤ j) → C' 19 j = C 19 j
  | 0, k, C, h, _ => by omega
  | N + 1, k, C, h, hk => by
    rw [f_12_restore_k1_L60]
    by_cases h1 : (20 : Int) ≤ k
    · have e : k = 20 := by omega
      subst e
      rw [if_pos h1]
      exact ⟨C, rfl, fun _ _ => rfl, fun j a b => by omega, fun _ _ => rfl⟩
    · have e0 : ev_w ((ev_w ((20 : Int) * 1)) + (k : Int)) = ((20 + k : Nat) : Int) := by rw [show ev_w ((20 : Int) * 1) = 20 by decide, ev_w_id (by omega) (by omega)]; omega
      rw [if_neg h1, e0, if_pos (by omega), if_pos (by omega), Int.toNat_natCast, Int.toNat_natCast, show ev_w ((k : Int) + 1) = ((k + 1 : Nat) : Int) by rw [ev_w_id (by omega) (by omega)]; omega]
      obtain ⟨C', g1, g2, g3, g4⟩ := z_restore_k1_L60 N (k + 1) (ev_u C 19 k (C 109 (20 + k))) (by omega) (by omega)
      refine ⟨C', g1, fun t ht => (g2 t ht).trans (ev_ut ht), fun j a b => ?_, fun j a => (g4 j (by omega)).trans (ev_un (fun q => by have := q.2; omega))⟩
      by_cases e : j = k
      · subst e; exact (g4 j (by omega)).trans ev_us
      · exact (g3 j (by omega) b).trans (congrFun (ev_ut (by decide)) _)
theorem z_restore_k1_L27 : ∀ (N k : Nat) (C : ev_C), 367 - k < N → k ≤ 367 → ∃ C', f_12_restore_k1_L27 N C 1 k = f_12_restore_k1_L60 1000 C' 1 0 ∧ (∀ t, t ≠ 34 → C' t = C t) ∧ (∀ j : Nat, k ≤ j → j < 367 → C' 34 j = C 45 (367 + j)) ∧ ∀ j : Nat, (j < k ∨ 367 ≤ j) → C' 34 j = C 34 j
  | 0, k, C, h, _ => by omega
  | N + 1, k, C, h, hk => by
    rw [f_12_restore_k1_L27]
    by_cases h1 : (367 : Int) ≤ k
    · have e : k = 367 := by omega
      subst e
      rw [if_pos h1]
      exact ⟨C, rfl, fun _ _ => rfl, fun j a b => by omega, fun _ _ => rfl⟩
    · have e0 : ev_w ((ev_w ((367 : Int) * 1)) + (k : Int)) = ((367 + k : Nat) : Int) := by rw [show ev_w ((367 : Int) * 1) = 367 by decide, ev_w_id (by omega) (by omega)]; omega
      rw [if_neg h1, e0, if_pos (by omega), if_pos (by omega), Int.toNat_natCast, Int.toNat_natCast, show ev_w ((k : Int) + 1) = ((k + 1 : Nat) : Int) by rw [ev_w_id (by omega) (by omega)]; omega]
      obtain ⟨C', g1, g2, g3, g4⟩ := z_restore_k1_L27 N (k + 1) (ev_u C 34 k (C 45 (367 + k))) (by omega) (by omega)
      refine ⟨C', g1, fun t ht => (g2 t ht).trans (ev_ut ht), fun j a b => ?_, fun j a => (g4 j (by omega)).trans (ev_un (fun q => by have := q.2; omega))⟩
      by_cases e : j = k
      · subst e; exact (g4 j (by omega)).trans ev_us
      · exact (g3 j (by omega) b).trans (congrFun (ev_ut (by decide)) _)
theorem z_isIn {C : ev_C} {x a b : Int} : f_12_isIn C x a b = some (if a ≤ x ∧ x ≤ b then 1 else 0, C) := by
  unfold f_12_isIn
  by_cases h1 : x < a
  · rw [if_pos h1, if_neg (by omega)]
  · rw [if_neg h1]
    by_cases h2 : x ≤ b
    · first
        | rw [if_pos h2, if_pos ⟨by omega, h2⟩]
        | rw [if_neg (by omega), if_pos ⟨by omega, h2⟩]
    · first
        | rw [if_neg h2, if_neg (by omega)]
        | rw [if_pos (by omega), if_neg (by omega)]
theorem z_image0 {M : ev_C} (hG : z_G M M) : ∃ M1 M2, f_11_image_k0 M = some (1, M1) ∧ f_12_image_k0 M1 = some (1, M2) ∧ z_G M2 M2 := by
  obtain ⟨A, a1, a2, ao, n0, n1, n2, q0, q1, q2⟩ := z_cp_i (C := M) hG.1.1.2.2.2.2.2.2
  obtain ⟨M1, hM1⟩ : ∃ M1, M1 = ev_u (ev_u (ev_u A 110 0 (A 9 0)) 110 1 (A 9 1)) 4 0 1 := ⟨_, rfl⟩
  have f1 : f_11_image_k0 M = some (1, M1) := by
    unfold f_11_image_k0 f_2_copyFrom_2 f_9_copyFrom_110_9
    rw [a1, ev_bvS, ev_bvS, ev_bvS, hM1]
  have hA : ∀ t : Nat, t ≠ 51 → (t < 81 ∨ 94 < t) → t ≠ 4 → t ≠ 110 → M1 t = M t := fun t h1 h2 h3 h4 => by rw [hM1, ev_ut h3, ev_ut h4, ev_ut h4]; exact a2 t h1 h2
  have hA2 : ∀ t : Nat, t ≠ 4 → t ≠ 110 → M1 t = A t := fun t h h4 => by rw [hM1, ev_ut h, ev_ut h4, ev_ut h4]
  obtain ⟨B, b1, b2, b3, b4⟩ := z_image_k0_L18 1000 0 (ev_u M1 12 0 0) (by decide) (by decide)
  obtain ⟨E, e1, e2, e3, e4⟩ := z_image_k0_L51 1000 0 B (by decide) (by decide)
  have b1 : f_12_image_k0_L18 1000 (ev_u M1 12 0 0) 0 0 = f_12_image_k0_L51 1000 B 0 0 := b1
  have e1 : f_12_image_k0_L51 1000 B 0 0 = some (1, ev_u E 46 0 1) := e1
  have f2 : f_12_image_k0 M1 = some (1, ev_u E 46 0 1) := by
    unfold f_12_image_k0
    rw [z_isIn, if_pos (by decide), ev_bdS, if_pos (by decide), b1, e1]
  refine ⟨M1, _, f1, f2, ?_⟩
  have hE : ∀ t : Nat, t ≠ 12 → t ≠ 45 → t ≠ 46 → t ≠ 109 → ev_u E 46 0 1 t = M1 t := fun t h12 h45 h46 h109 => by
    rw [ev_ut h46, e2 t h109, b2 t h45, ev_ut h12]
  have h45 : ∀ j : Nat, j < 367 → ev_u E 46 0 1 45 (0 + j) = M 34 j := fun j hj => by
    rw [ev_ut (by decide), e2 45 (by decide), b3 j (Nat.zero_le _) hj, ev_ut (by decide), hA 34 (by decide) (by decide) (by decide) (by decide)]
  have k45 : ∀ j : Nat, j < 367 → ev_u E 46 0 1 45 (367 + j) = M 45 (367 + j) := fun j hj => by
    rw [ev_ut (by decide), e2 45 (by decide), b4 (367 + j) (by omega), ev_ut (by decide), hA 45 (by decide) (by decide) (by decide) (by decide)]
  have h109 : ∀ j : Nat, j < 20 → ev_u E 46 0 1 109 (0 + j) = M 19 j := fun j hj => by
    rw [ev_ut (by decide), e3 j (Nat.zero_le _) hj, b2 19 (by decide), ev_ut (by decide), hA 19 (by decide) (by decide) (by decide) (by decide)]
  have k109 : ∀ j : Nat, j < 20 → ev_u E 46 0 1 109 (20 + j) = M 109 (20 + j) := fun j hj => by
    rw [ev_ut (by decide), e4 (20 + j) (by omega), b2 109 (by decide), ev_ut (by decide), hA 109 (by decide) (by decide) (by decide) (by decide)]
  have hs : ∀ t : Nat, t ≠ 12 → t ≠ 45 → t ≠ 46 → t ≠ 109 → t ≠ 51 → (t < 81 ∨ 94 < t) → t ≠ 4 → t ≠ 110 → ∀ k : Nat, ev_u E 46 0 1 t k = M t k := fun t a b c d x y z z4 k => by rw [hE t a b c d, hA t x y z z4]
  have hm : ∀ t : Nat, t ≠ 12 → t ≠ 45 → t ≠ 46 → t ≠ 109 → t ≠ 4 → t ≠ 110 → ∀ k : Nat, ev_u E 46 0 1 t k = A t k := fun t a b c d e e4 k => by rw [hE t a b c d, hA2 t e e4]
  have now : z_PL 6 67 34 0 19 0 (ev_u E 46 0 1) (ev_u E 46 0 1) := hG.1.al (fun k _ => hs _ (by decide) (by decide) (by decide) (by decide) (by decide) (by decide) (by decide) (by decide) k) (fun k _ => hs _ (by decide) (by decide) (by decide) (by decide) (by decide) (by decide) (by decide) (by decide) k) (fun k _ => hs _ (by decide) (by decide) (by decide) (by decide) (by decide) (by decide) (by decide) (by decide) k) (fun k _ => hs _ (by decide) (by decide) (by decide) (by decide) (by decide) (by decide) (by decide) (by decide) k) (fun k _ => hs _ (by decide) (by decide) (by decide) (by decide) (by decide) (by decide) (by decide) (by decide) k) (fun k _ => hs _ (by decide) (by decide) (by decide) (by decide) (by decide) (by decide) (by decide) (by decide) k) (fun k _ => hs _ (by decide) (by decide) (by decide) (by decide) (by decide) (by decide) (by decide) (by decide) k) (fun k _ => hs _ (by decide) (by decide) (by decide) (by decide) (by decide) (by decide) (by decide) (by decide) _) (fun k _ => hs _ (by decide) (by decide) (by decide) (by decide) (by decide) (by decide) (by decide) (by decide) _)
  have oth : z_PL 52 95 45 367 109 20 (ev_u E 46 0 1) (ev_u E 46 0 1) := hG.2.2.al (fun k _ => hs _ (by decide) (by decide) (by decide) (by decide) (by decide) (by decide) (by decide) (by decide) k) (fun k _ => hs _ (by decide) (by decide) (by decide) (by decide) (by decide) (by decide) (by decide) (by decide) k) (fun k _ => hs _ (by decide) (by decide) (by decide) (by decide) (by decide) (by decide) (by decide) (by decide) k) (fun k _ => hs _ (by decide) (by decide) (by decide) (by decide) (by decide) (by decide) (by decide) (by decide) k) (fun k _ => hs _ (by decide) (by decide) (by decide) (by decide) (by decide) (by decide) (by decide) (by decide) k) (fun k _ => hs _ (by decide) (by decide) (by decide) (by decide) (by decide) (by decide) (by decide) (by decide) k) (fun k _ => hs _ (by decide) (by decide) (by decide) (by decide) (by decide) (by decide) (by decide) (by decide) k) (fun k hk => k45 k (by omega)) k109
  have own : z_PL 51 81 45 0 109 0 (ev_u E 46 0 1) (ev_u E 46 0 1) := hG.1.al (fun k hk => (hm _ (by decide) (by decide) (by decide) (by decide) (by decide) (by decide) k).trans (ao k hk)) (fun k hk => (hm _ (by decide) (by decide) (by decide) (by decide) (by decide) (by decide) k).trans (n0 k hk)) (fun k hk => (hm _ (by decide) (by decide) (by decide) (by decide) (by decide) (by decide) k).trans (n1 k hk)) (fun k hk => (hm _ (by decide) (by decide) (by decide) (by decide) (by decide) (by decide) k).trans (n2 k hk)) (fun k hk => (hm _ (by decide) (by decide) (by decide) (by decide) (by decide) (by decide) k).trans (q0 k hk)) (fun k hk => (hm _ (by decide) (by decide) (by decide) (by decide) (by decide) (by decide) k).trans (q1 k hk)) (fun k hk => (hm _ (by decide) (by decide) (by decide) (by decide) (by decide) (by decide) k).trans (q2 k hk)) (fun k hk => by rw [h45 k (by omega), Nat.zero_add]) (fun k hk => by rw [h109 k hk, Nat.zero_add])
  exact ⟨now, own, oth⟩
theorem z_restore0 {M : ev_C} (hG : z_G M M) (hf : M 4 0 ≠ 0 ↔ M 46 0 ≠ 0) : ∃ r1 M1 r2 M2, f_11_restore_k0 M = some (r1, M1) ∧ f_12_restore_k0 M1 = some (r2, M2) ∧ z_G M2 M2 := by
  by_cases h0 : M 4 0 ≠ 0
  · obtain ⟨A, a1, a2, ao, n0, n1, n2, q0, q1, q2⟩ := z_pc_i (C := M) hG.2.1.1.2.2.2.2.2.2
    obtain ⟨A9, hA9⟩ : ∃ A9, A9 = ev_u (ev_u A 9 0 (A 110 0)) 9 1 (A 110 1) := ⟨_, rfl⟩
    have w9 : ∀ t : Nat, t ≠ 9 → A9 t = A t := fun t h => by rw [hA9, ev_ut h, ev_ut h]
    have f1 : f_11_restore_k0 M = some (1, A9) := by
      unfold f_11_restore_k0 f_2_copyFrom_2 f_9_copyFrom_110 f_3_forget
      rw [if_pos h0, a1, ev_bvS, ev_bvS, ev_bvS, ev_bvS, hA9]
    obtain ⟨B, b1, b2, b3, b4⟩ := z_restore_k0_L27 1000 0 (ev_u A9 12 0 0) (by decide) (by decide)
    obtain ⟨E, e1, e2, e3, e4⟩ := z_restore_k0_L60 1000 0 B (by decide) (by decide)
    have b1 : f_12_restore_k0_L27 1000 (ev_u A9 12 0 0) 0 0 = f_12_restore_k0_L60 1000 B 0 0 := b1
    have e1 : f_12_restore_k0_L60 1000 B 0 0 = some (1, ev_u E 12 22 0) := e1
    have f2 : f_12_restore_k0 A9 = some (1, ev_u E 12 22 0) := by
      unfold f_12_restore_k0
      rw [z_isIn, if_pos (by decide), ev_bdS, if_neg (by decide), if_pos (show ev_u A9 12 0 0 46 0 ≠ 0 by rw [ev_ut (by decide), w9 46 (by decide), a2 46 (by decide) (by decide)]; exact hf.mp h0), b1, e1]
    refine ⟨1, A9, 1, _, f1, f2, ?_⟩
    have hE : ∀ t : Nat, t ≠ 12 → t ≠ 34 → t ≠ 19 → ev_u E 12 22 0 t = A9 t := fun t h12 h34 h19 => by
      rw [ev_ut h12, e2 t h19, b2 t h34, ev_ut h12]
    have h34 : ∀ j : Nat, j < 367 → ev_u E 12 22 0 34 j = M 45 (0 + j) := fun j hj => by
      rw [ev_ut (by decide), e2 34 (by decide), b3 j (Nat.zero_le _) hj, ev_ut (by decide), w9 45 (by decide), a2 45 (by decide) (by decide)]
    have h19 : ∀ j : Nat, j < 20 → ev_u E 12 22 0 19 j = M 109 (0 + j) := fun j hj => by
      rw [ev_ut (by decide), e3 j (Nat.zero_le _) hj, b2 109 (by decide), ev_ut (by decide), w9 109 (by decide), a2 109 (by decide) (by decide)]
    have hs : ∀ t : Nat, t ≠ 12 → t ≠ 34 → t ≠ 19 → t ≠ 6 → (t < 67 ∨ 80 < t) → t ≠ 9 → ∀ k : Nat, ev_u E 12 22 0 t k = M t k := fun t a b c x y z k => by rw [hE t a b c, w9 t z, a2 t x y]
    have hm : ∀ t : Nat, t ≠ 12 → t ≠ 34 → t ≠ 19 → t ≠ 9 → ∀ k : Nat, ev_u E 12 22 0 t k = A t k := fun t a b c z k => by rw [hE t a b c, w9 t z]
    have i0 : z_PL 51 81 45 0 109 0 (ev_u E 12 22 0) (ev_u E 12 22 0) := hG.2.1.al (fun k _ => hs _ (by decide) (by decide) (by decide) (by decide) (by decide) (by decide) _) (fun k _ => hs _ (by decide) (by decide) (by decide) (by decide) (by decide) (by decide) _) (fun k _ => hs _ (by decide) (by decide) (by decide) (by decide) (by decide) (by decide) _) (fun k _ => hs _ (by decide) (by decide) (by decide) (by decide) (by decide) (by decide) _) (fun k _ => hs _ (by decide) (by decide) (by decide) (by decide) (by decide) (by decide) _) (fun k _ => hs _ (by decide) (by decide) (by decide) (by decide) (by decide) (by decide) _) (fun k _ => hs _ (by decide) (by decide) (by decide) (by decide) (by decide) (by decide) _) (fun k _ => hs _ (by decide) (by decide) (by decide) (by decide) (by decide) (by decide) _) (fun k _ => hs _ (by decide) (by decide) (by decide) (by decide) (by decide) (by decide) _)
    have i1 : z_PL 52 95 45 367 109 20 (ev_u E 12 22 0) (ev_u E 12 22 0) := hG.2.2.al (fun k _ => hs _ (by decide) (by decide) (by decide) (by decide) (by decide) (by decide) _) (fun k _ => hs _ (by decide) (by decide) (by decide) (by decide) (by decide) (by decide) _) (fun k _ => hs _ (by decide) (by decide) (by decide) (by decide) (by decide) (by decide) _) (fun k _ => hs _ (by decide) (by decide) (by decide) (by decide) (by decide) (by decide) _) (fun k _ => hs _ (by decide) (by decide) (by decide) (by decide) (by decide) (by decide) _) (fun k _ => hs _ (by decide) (by decide) (by decide) (by decide) (by decide) (by decide) _) (fun k _ => hs _ (by decide) (by decide) (by decide) (by decide) (by decide) (by decide) _) (fun k _ => hs _ (by decide) (by decide) (by decide) (by decide) (by decide) (by decide) _) (fun k _ => hs _ (by decide) (by decide) (by decide) (by decide) (by decide) (by decide) _)
    exact ⟨hG.2.1.al (fun k hk => (hm _ (by decide) (by decide) (by decide) (by decide) k).trans (ao k hk)) (fun k hk => (hm _ (by decide) (by decide) (by decide) (by decide) k).trans (n0 k hk)) (fun k hk => (hm _ (by decide) (by decide) (by decide) (by decide) k).trans (n1 k hk)) (fun k hk => (hm _ (by decide) (by decide) (by decide) (by decide) k).trans (n2 k hk)) (fun k hk => (hm _ (by decide) (by decide) (by decide) (by decide) k).trans (q0 k hk)) (fun k hk => (hm _ (by decide) (by decide) (by decide) (by decide) k).trans (q1 k hk)) (fun k hk => (hm _ (by decide) (by decide) (by decide) (by decide) k).trans (q2 k hk)) (fun k hk => (congrArg (ev_u E 12 22 0 34) (Nat.zero_add k)).trans (h34 k (by omega))) (fun k hk => (congrArg (ev_u E 12 22 0 19) (Nat.zero_add k)).trans (h19 k hk)), i0, i1⟩
  · have f1 : f_11_restore_k0 M = some (0, M) := by
      unfold f_11_restore_k0
      rw [if_neg h0]
    have f2 : f_12_restore_k0 M = some (0, ev_u M 12 0 0) := by
      unfold f_12_restore_k0
      rw [z_isIn, if_pos (by decide), ev_bdS, if_neg (by decide), if_neg (show ¬ (ev_u M 12 0 0 46 0 ≠ 0) by rw [ev_ut (by decide)]; exact fun h => h0 (hf.mpr h))]
    refine ⟨0, M, 0, _, f1, f2, ?_⟩
    have hs : ∀ t : Nat, t ≠ 12 → ∀ k : Nat, ev_u M 12 0 0 t k = M t k := fun t h k => by rw [ev_ut h]
    exact ⟨hG.1.al (fun k _ => hs _ (by decide) _) (fun k _ => hs _ (by decide) _) (fun k _ => hs _ (by decide) _) (fun k _ => hs _ (by decide) _) (fun k _ => hs _ (by decide) _) (fun k _ => hs _ (by decide) _) (fun k _ => hs _ (by decide) _) (fun k _ => hs _ (by decide) _) (fun k _ => hs _ (by decide) _), hG.2.1.al (fun k _ => hs _ (by decide) _) (fun k _ => hs _ (by decide) _) (fun k _ => hs _ (by decide) _) (fun k _ => hs _ (by decide) _) (fun k _ => hs _ (by decide) _) (fun k _ => hs _ (by decide) _) (fun k _ => hs _ (by decide) _) (fun k _ => hs _ (by decide) _) (fun k _ => hs _ (by decide) _), hG.2.2.al (fun k _ => hs _ (by decide) _) (fun k _ => hs _ (by decide) _) (fun k _ => hs _ (by decide) _) (fun k _ => hs _ (by decide) _) (fun k _ => hs _ (by decide) _) (fun k _ => hs _ (by decide) _) (fun k _ => hs _ (by decide) _) (fun k _ => hs _ (by decide) _) (fun k _ => hs _ (by decide) _)⟩
theorem z_image1 {M : ev_C} (hG : z_G M M) : ∃ M1 M2, f_11_image_k1 M = some (1, M1) ∧ f_12_image_k1 M1 = some (1, M2) ∧ z_G M2 M2 := by
  obtain ⟨A, a1, a2, ao, n0, n1, n2, q0, q1, q2⟩ := z_cp_j (C := M) hG.1.1.2.2.2.2.2.2
  obtain ⟨M1, hM1⟩ : ∃ M1, M1 = ev_u (ev_u (ev_u A 111 0 (A 9 0)) 111 1 (A 9 1)) 48 0 1 := ⟨_, rfl⟩
  have f1 : f_11_image_k1 M = some (1, M1) := by
    unfold f_11_image_k1 f_2_copyFrom_2 f_9_copyFrom_111_9
    rw [a1, ev_bvS, ev_bvS, ev_bvS, hM1]
  have hA : ∀ t : Nat, t ≠ 52 → (t < 95 ∨ 108 < t) → t ≠ 48 → t ≠ 111 → M1 t = M t := fun t h1 h2 h3 h4 => by rw [hM1, ev_ut h3, ev_ut h4, ev_ut h4]; exact a2 t h1 h2
  have hA2 : ∀ t : Nat, t ≠ 48 → t ≠ 111 → M1 t = A t := fun t h h4 => by rw [hM1, ev_ut h, ev_ut h4, ev_ut h4]
  obtain ⟨B, b1, b2, b3, b4⟩ := z_image_k1_L18 1000 0 (ev_u M1 12 0 0) (by decide) (by decide)
  obtain ⟨E, e1, e2, e3, e4⟩ := z_image_k1_L51 1000 0 B (by decide) (by decide)
  have b1 : f_12_image_k1_L18 1000 (ev_u M1 12 0 0) 1 0 = f_12_image_k1_L51 1000 B 1 0 := b1
  have e1 : f_12_image_k1_L51 1000 B 1 0 = some (1, ev_u E 46 1 1) := e1
  have f2 : f_12_image_k1 M1 = some (1, ev_u E 46 1 1) := by
    unfold f_12_image_k1
    rw [z_isIn, if_pos (by decide), ev_bdS, if_pos (by decide), b1, e1]
  refine ⟨M1, _, f1, f2, ?_⟩
  have hE : ∀ t : Nat, t ≠ 12 → t ≠ 45 → t ≠ 46 → t ≠ 109 → ev_u E 46 1 1 t = M1 t := fun t h12 h45 h46 h109 => by
    rw [ev_ut h46, e2 t h109, b2 t h45, ev_ut h12]
  have h45 : ∀ j : Nat, j < 367 → ev_u E 46 1 1 45 (367 + j) = M 34 j := fun j hj => by
    rw [ev_ut (by decide), e2 45 (by decide), b3 j (Nat.zero_le _) hj, ev_ut (by decide), hA 34 (by decide) (by decide) (by decide) (by decide)]
  have k45 : ∀ j : Nat, j < 367 → ev_u E 46 1 1 45 (0 + j) = M 45 (0 + j) := fun j hj => by
    rw [ev_ut (by decide), e2 45 (by decide), b4 (0 + j) (by omega), ev_ut (by decide), hA 45 (by decide) (by decide) (by decide) (by decide)]
  have h109 : ∀ j : Nat, j < 20 → ev_u E 46 1 1 109 (20 + j) = M 19 j := fun j hj => by
    rw [ev_ut (by decide), e3 j (Nat.zero_le _) hj, b2 19 (by decide), ev_ut (by decide), hA 19 (by decide) (by decide) (by decide) (by decide)]
  have k109 : ∀ j : Nat, j < 20 → ev_u E 46 1 1 109 (0 + j) = M 109 (0 + j) := fun j hj => by
    rw [ev_ut (by decide), e4 (0 + j) (by omega), b2 109 (by decide), ev_ut (by decide), hA 109 (by decide) (by decide) (by decide) (by decide)]
  have hs : ∀ t : Nat, t ≠ 12 → t ≠ 45 → t ≠ 46 → t ≠ 109 → t ≠ 52 → (t < 95 ∨ 108 < t) → t ≠ 48 → t ≠ 111 → ∀ k : Nat, ev_u E 46 1 1 t k = M t k := fun t a b c d x y z z4 k => by rw [hE t a b c d, hA t x y z z4]
  have hm : ∀ t : Nat, t ≠ 12 → t ≠ 45 → t ≠ 46 → t ≠ 109 → t ≠ 48 → t ≠ 111 → ∀ k : Nat, ev_u E 46 1 1 t k = A t k := fun t a b c d e e4 k => by rw [hE t a b c d, hA2 t e e4]
  have now : z_PL 6 67 34 0 19 0 (ev_u E 46 1 1) (ev_u E 46 1 1) := hG.1.al (fun k _ => hs _ (by decide) (by decide) (by decide) (by decide) (by decide) (by decide) (by decide) (by decide) k) (fun k _ => hs _ (by decide) (by decide) (by decide) (by decide) (by decide) (by decide) (by decide) (by decide) k) (fun k _ => hs _ (by decide) (by decide) (by decide) (by decide) (by decide) (by decide) (by decide) (by decide) k) (fun k _ => hs _ (by decide) (by decide) (by decide) (by decide) (by decide) (by decide) (by decide) (by decide) k) (fun k _ => hs _ (by decide) (by decide) (by decide) (by decide) (by decide) (by decide) (by decide) (by decide) k) (fun k _ => hs _ (by decide) (by decide) (by decide) (by decide) (by decide) (by decide) (by decide) (by decide) k) (fun k _ => hs _ (by decide) (by decide) (by decide) (by decide) (by decide) (by decide) (by decide) (by decide) k) (fun k _ => hs _ (by decide) (by decide) (by decide) (by decide) (by decide) (by decide) (by decide) (by decide) _) (fun k _ => hs _ (by decide) (by decide) (by decide) (by decide) (by decide) (by decide) (by decide) (by decide) _)
  have oth : z_PL 51 81 45 0 109 0 (ev_u E 46 1 1) (ev_u E 46 1 1) := hG.2.1.al (fun k _ => hs _ (by decide) (by decide) (by decide) (by decide) (by decide) (by decide) (by decide) (by decide) k) (fun k _ => hs _ (by decide) (by decide) (by decide) (by decide) (by decide) (by decide) (by decide) (by decide) k) (fun k _ => hs _ (by decide) (by decide) (by decide) (by decide) (by decide) (by decide) (by decide) (by decide) k) (fun k _ => hs _ (by decide) (by decide) (by decide) (by decide) (by decide) (by decide) (by decide) (by decide) k) (fun k _ => hs _ (by decide) (by decide) (by decide) (by decide) (by decide) (by decide) (by decide) (by decide) k) (fun k _ => hs _ (by decide) (by decide) (by decide) (by decide) (by decide) (by decide) (by decide) (by decide) k) (fun k _ => hs _ (by decide) (by decide) (by decide) (by decide) (by decide) (by decide) (by decide) (by decide) k) (fun k hk => k45 k (by omega)) k109
  have own : z_PL 52 95 45 367 109 20 (ev_u E 46 1 1) (ev_u E 46 1 1) := hG.1.al (fun k hk => (hm _ (by decide) (by decide) (by decide) (by decide) (by decide) (by decide) k).trans (ao k hk)) (fun k hk => (hm _ (by decide) (by decide) (by decide) (by decide) (by decide) (by decide) k).trans (n0 k hk)) (fun k hk => (hm _ (by decide) (by decide) (by decide) (by decide) (by decide) (by decide) k).trans (n1 k hk)) (fun k hk => (hm _ (by decide) (by decide) (by decide) (by decide) (by decide) (by decide) k).trans (n2 k hk)) (fun k hk => (hm _ (by decide) (by decide) (by decide) (by decide) (by decide) (by decide) k).trans (q0 k hk)) (fun k hk => (hm _ (by decide) (by decide) (by decide) (by decide) (by decide) (by decide) k).trans (q1 k hk)) (fun k hk => (hm _ (by decide) (by decide) (by decide) (by decide) (by decide) (by decide) k).trans (q2 k hk)) (fun k hk => by rw [h45 k (by omega), Nat.zero_add]) (fun k hk => by rw [h109 k hk, Nat.zero_add])
  exact ⟨now, oth, own⟩
theorem z_restore1 {M : ev_C} (hG : z_G M M) (hf : M 48 0 ≠ 0 ↔ M 46 1 ≠ 0) : ∃ r1 M1 r2 M2, f_11_restore_k1 M = some (r1, M1) ∧ f_12_restore_k1 M1 = some (r2, M2) ∧ z_G M2 M2 := by
  by_cases h0 : M 48 0 ≠ 0
  · obtain ⟨A, a1, a2, ao, n0, n1, n2, q0, q1, q2⟩ := z_pc_j (C := M) hG.2.2.1.2.2.2.2.2.2
    obtain ⟨A9, hA9⟩ : ∃ A9, A9 = ev_u (ev_u A 9 0 (A 111 0)) 9 1 (A 111 1) := ⟨_, rfl⟩
    have w9 : ∀ t : Nat, t ≠ 9 → A9 t = A t := fun t h => by rw [hA9, ev_ut h, ev_ut h]
    have f1 : f_11_restore_k1 M = some (1, A9) := by
      unfold f_11_restore_k1 f_2_copyFrom_2 f_9_copyFrom_111 f_3_forget
      rw [if_pos h0, a1, ev_bvS, ev_bvS, ev_bvS, ev_bvS, hA9]
    obtain ⟨B, b1, b2, b3, b4⟩ := z_restore_k1_L27 1000 0 (ev_u A9 12 0 0) (by decide) (by decide)
    obtain ⟨E, e1, e2, e3, e4⟩ := z_restore_k1_L60 1000 0 B (by decide) (by decide)
    have b1 : f_12_restore_k1_L27 1000 (ev_u A9 12 0 0) 1 0 = f_12_restore_k1_L60 1000 B 1 0 := b1
    have e1 : f_12_restore_k1_L60 1000 B 1 0 = some (1, ev_u E 12 22 0) := e1
    have f2 : f_12_restore_k1 A9 = some (1, ev_u E 12 22 0) := by
      unfold f_12_restore_k1
      rw [z_isIn, if_pos (by decide), ev_bdS, if_neg (by decide), if_pos (show ev_u A9 12 0 0 46 1 ≠ 0 by rw [ev_ut (by decide), w9 46 (by decide), a2 46 (by decide) (by decide)]; exact hf.mp h0), b1, e1]
    refine ⟨1, A9, 1, _, f1, f2, ?_⟩
    have hE : ∀ t : Nat, t ≠ 12 → t ≠ 34 → t ≠ 19 → ev_u E 12 22 0 t = A9 t := fun t h12 h34 h19 => by
      rw [ev_ut h12, e2 t h19, b2 t h34, ev_ut h12]
    have h34 : ∀ j : Nat, j < 367 → ev_u E 12 22 0 34 j = M 45 (367 + j) := fun j hj => by
      rw [ev_ut (by decide), e2 34 (by decide), b3 j (Nat.zero_le _) hj, ev_ut (by decide), w9 45 (by decide), a2 45 (by decide) (by decide)]
    have h19 : ∀ j : Nat, j < 20 → ev_u E 12 22 0 19 j = M 109 (20 + j) := fun j hj => by
      rw [ev_ut (by decide), e3 j (Nat.zero_le _) hj, b2 109 (by decide), ev_ut (by decide), w9 109 (by decide), a2 109 (by decide) (by decide)]
    have hs : ∀ t : Nat, t ≠ 12 → t ≠ 34 → t ≠ 19 → t ≠ 6 → (t < 67 ∨ 80 < t) → t ≠ 9 → ∀ k : Nat, ev_u E 12 22 0 t k = M t k := fun t a b c x y z k => by rw [hE t a b c, w9 t z, a2 t x y]
    have hm : ∀ t : Nat, t ≠ 12 → t ≠ 34 → t ≠ 19 → t ≠ 9 → ∀ k : Nat, ev_u E 12 22 0 t k = A t k := fun t a b c z k => by rw [hE t a b c, w9 t z]
    have i0 : z_PL 51 81 45 0 109 0 (ev_u E 12 22 0) (ev_u E 12 22 0) := hG.2.1.al (fun k _ => hs _ (by decide) (by decide) (by decide) (by decide) (by decide) (by decide) _) (fun k _ => hs _ (by decide) (by decide) (by decide) (by decide) (by decide) (by decide) _) (fun k _ => hs _ (by decide) (by decide) (by decide) (by decide) (by decide) (by decide) _) (fun k _ => hs _ (by decide) (by decide) (by decide) (by decide) (by decide) (by decide) _) (fun k _ => hs _ (by decide) (by decide) (by decide) (by decide) (by decide) (by decide) _) (fun k _ => hs _ (by decide) (by decide) (by decide) (by decide) (by decide) (by decide) _) (fun k _ => hs _ (by decide) (by decide) (by decide) (by decide) (by decide) (by decide) _) (fun k _ => hs _ (by decide) (by decide) (by decide) (by decide) (by decide) (by decide) _) (fun k _ => hs _ (by decide) (by decide) (by decide) (by decide) (by decide) (by decide) _)
    have i1 : z_PL 52 95 45 367 109 20 (ev_u E 12 22 0) (ev_u E 12 22 0) := hG.2.2.al (fun k _ => hs _ (by decide) (by decide) (by decide) (by decide) (by decide) (by decide) _) (fun k _ => hs _ (by decide) (by decide) (by decide) (by decide) (by decide) (by decide) _) (fun k _ => hs _ (by decide) (by decide) (by decide) (by decide) (by decide) (by decide) _) (fun k _ => hs _ (by decide) (by decide) (by decide) (by decide) (by decide) (by decide) _) (fun k _ => hs _ (by decide) (by decide) (by decide) (by decide) (by decide) (by decide) _) (fun k _ => hs _ (by decide) (by decide) (by decide) (by decide) (by decide) (by decide) _) (fun k _ => hs _ (by decide) (by decide) (by decide) (by decide) (by decide) (by decide) _) (fun k _ => hs _ (by decide) (by decide) (by decide) (by decide) (by decide) (by decide) _) (fun k _ => hs _ (by decide) (by decide) (by decide) (by decide) (by decide) (by decide) _)
    exact ⟨hG.2.2.al (fun k hk => (hm _ (by decide) (by decide) (by decide) (by decide) k).trans (ao k hk)) (fun k hk => (hm _ (by decide) (by decide) (by decide) (by decide) k).trans (n0 k hk)) (fun k hk => (hm _ (by decide) (by decide) (by decide) (by decide) k).trans (n1 k hk)) (fun k hk => (hm _ (by decide) (by decide) (by decide) (by decide) k).trans (n2 k hk)) (fun k hk => (hm _ (by decide) (by decide) (by decide) (by decide) k).trans (q0 k hk)) (fun k hk => (hm _ (by decide) (by decide) (by decide) (by decide) k).trans (q1 k hk)) (fun k hk => (hm _ (by decide) (by decide) (by decide) (by decide) k).trans (q2 k hk)) (fun k hk => (congrArg (ev_u E 12 22 0 34) (Nat.zero_add k)).trans (h34 k (by omega))) (fun k hk => (congrArg (ev_u E 12 22 0 19) (Nat.zero_add k)).trans (h19 k hk)), i0, i1⟩
  · have f1 : f_11_restore_k1 M = some (0, M) := by
      unfold f_11_restore_k1
      rw [if_neg h0]
    have f2 : f_12_restore_k1 M = some (0, ev_u M 12 0 0) := by
      unfold f_12_restore_k1
      rw [z_isIn, if_pos (by decide), ev_bdS, if_neg (by decide), if_neg (show ¬ (ev_u M 12 0 0 46 1 ≠ 0) by rw [ev_ut (by decide)]; exact fun h => h0 (hf.mpr h))]
    refine ⟨0, M, 0, _, f1, f2, ?_⟩
    have hs : ∀ t : Nat, t ≠ 12 → ∀ k : Nat, ev_u M 12 0 0 t k = M t k := fun t h k => by rw [ev_ut h]
    exact ⟨hG.1.al (fun k _ => hs _ (by decide) _) (fun k _ => hs _ (by decide) _) (fun k _ => hs _ (by decide) _) (fun k _ => hs _ (by decide) _) (fun k _ => hs _ (by decide) _) (fun k _ => hs _ (by decide) _) (fun k _ => hs _ (by decide) _) (fun k _ => hs _ (by decide) _) (fun k _ => hs _ (by decide) _), hG.2.1.al (fun k _ => hs _ (by decide) _) (fun k _ => hs _ (by decide) _) (fun k _ => hs _ (by decide) _) (fun k _ => hs _ (by decide) _) (fun k _ => hs _ (by decide) _) (fun k _ => hs _ (by decide) _) (fun k _ => hs _ (by decide) _) (fun k _ => hs _ (by decide) _) (fun k _ => hs _ (by decide) _), hG.2.2.al (fun k _ => hs _ (by decide) _) (fun k _ => hs _ (by decide) _) (fun k _ => hs _ (by decide) _) (fun k _ => hs _ (by decide) _) (fun k _ => hs _ (by decide) _) (fun k _ => hs _ (by decide) _) (fun k _ => hs _ (by decide) _) (fun k _ => hs _ (by decide) _) (fun k _ => hs _ (by decide) _)⟩
/-! count, act, scene -/
theorem z_count {M1 M2 : ev_C} {x : Int} (hG : z_PL 6 67 34 0 19 0 M1 M2) (hl : M1 10 1 = M2 12 2) : ∃ r M2', f_11_count M1 x = some (r, M1) ∧ f_12_count M2 x = some (r, M2') := by
  obtain ⟨⟨c0, c1, c2, c3, c4, c5⟩, -, -⟩ := hG
  have c0 : M1 6 0 = M2 34 0 := c0.1
  have c1 : M1 6 1 = M2 34 1 := c1.1
  have c2 : M1 6 2 = M2 34 2 := c2.1
  have c3 : M1 6 3 = M2 34 3 := c3.1
  have c4 : M1 6 4 = M2 34 4 := c4.1
  have c5 : M1 6 5 = M2 34 5 ∧ 0 ≤ M1 6 5 ∧ M1 6 5 ≤ 1 := c5
  have key : ∀ k : Nat, k ≤ 5 → M1 6 k = M2 34 k → f_12_count M2 (k : Int) = some (M1 6 k, ev_u M2 12 0 0) := fun k hk he => by
    unfold f_12_count
    rw [if_pos (show (k : Int) ≠ 6 by omega), z_isIn, if_pos (show 0 ≤ (k : Int) ∧ (k : Int) ≤ 5 by omega), ev_bdS, if_neg (show ¬ (1 : Int) = 0 by decide), if_pos (show 0 ≤ (k : Int) ∧ (k : Int) < 367 by omega), Int.toNat_natCast, ev_ut (by decide), he]
  by_cases h6 : x = 6
  · subst h6
    refine ⟨M1 10 1, ev_u M2 12 0 0, ?_, ?_⟩
    · rfl
    · unfold f_12_count
      rw [if_neg (show ¬ (6 : Int) ≠ 6 by decide), hl]
  · by_cases hx : 0 ≤ x ∧ x ≤ 5
    · rcases (show x = 0 ∨ x = 1 ∨ x = 2 ∨ x = 3 ∨ x = 4 ∨ x = 5 by omega) with rfl | rfl | rfl | rfl | rfl | rfl
      · exact ⟨_, _, rfl, key 0 (by decide) c0⟩
      · exact ⟨_, _, rfl, key 1 (by decide) c1⟩
      · exact ⟨_, _, rfl, key 2 (by decide) c2⟩
      · exact ⟨_, _, rfl, key 3 (by decide) c3⟩
      · exact ⟨_, _, rfl, key 4 (by decide) c4⟩
      · refine ⟨_, _, ?_, key 5 (by decide) c5.1⟩
        show (if M1 6 5 = 0 then some ((0 : Int), M1) else some (1, M1)) = _
        by_cases h : M1 6 5 = 0
        · rw [if_pos h, h]
        · rw [if_neg h, show M1 6 5 = 1 by omega]
    · refine ⟨-1, ev_u M2 12 0 0, ?_, ?_⟩
      · unfold f_11_count
        rw [if_neg (show ¬ x = 0 by omega), if_neg (show ¬ x = 1 by omega), if_neg (show ¬ x = 2 by omega), if_neg (show ¬ x = 3 by omega), if_neg (show ¬ x = 4 by omega), if_neg (show ¬ x = 5 by omega), if_neg h6]
      · unfold f_12_count
        rw [if_pos h6, z_isIn, if_neg hx, ev_bdS, if_pos (rfl : (0 : Int) = 0)]
theorem z_or0 {x : Int} (h1 : -2147483648 ≤ x) (h2 : x ≤ 2147483647) : ev_or x 0 = x := by
  unfold ev_or
  rw [show Int32.ofInt 0 = 0 from rfl, show Int32.ofInt x ||| 0 = Int32.ofInt x from Int32.or_zero, Int32.toInt_ofInt]
  exact ev_w_id h1 h2
theorem z_orI {x y : Int} : -2147483648 ≤ ev_or x y ∧ ev_or x y ≤ 2147483647 := ⟨ck_lo _, ck_hi _⟩
theorem z_e3 {k : Nat} (hk : k < 12) : ev_w ((k : Int) + 1) = ((k + 1 : Nat) : Int) := by rw [ev_w_id (by omega) (by omega)]; omega
theorem z_eo {k o : Nat} (hk : k < 12) (ho : o < 200) : ev_w ((o : Int) + k) = ((o + k : Nat) : Int) := by rw [ev_w_id (by omega) (by omega)]; omega
theorem z_Aparts {M : ev_C} {N k : Nat} {y z : Int} (hk : (k : Int) < M 6 4) (h12 : k < 12) : f_6_partsOf_L4 (N + 1) M y z k = f_6_partsOf_L4 N M y (if M 78 k = y then ev_or z (M 79 k) else z) ((k + 1 : Nat) : Int) := by
  rw [f_6_partsOf_L4, if_neg (show ¬ M 6 4 ≤ (k : Int) by omega), if_pos (show 0 ≤ (k : Int) ∧ (k : Int) < 12 by omega), Int.toNat_natCast]
  unfold f_6_partsOf_J31
  rw [z_e3 h12]
  by_cases h : M 78 k = y
  · rw [if_neg (fun q => q h), if_pos (show 0 ≤ (k : Int) ∧ (k : Int) < 12 by omega), if_pos h]
  · rw [if_pos h, if_neg h]
theorem z_Bparts {M : ev_C} {N k : Nat} {y z : Int} (hk : (k : Int) < M 34 4) (h12 : k < 12) (hz : -2147483648 ≤ z ∧ z ≤ 2147483647) : f_12_partsOf_L4 (N + 1) M y z k = f_12_partsOf_L4 N M y (if M 34 (104 + k) = y then ev_or z (M 34 (116 + k)) else z) ((k + 1 : Nat) : Int) := by
  have e1 : ev_w ((104 : Int) + (k : Int)) = ((104 + k : Nat) : Int) := z_eo h12 (o := 104) (by decide)
  have e2 : ev_w ((116 : Int) + (k : Int)) = ((116 + k : Nat) : Int) := z_eo h12 (o := 116) (by decide)
  rw [f_12_partsOf_L4, if_neg (show ¬ M 34 4 ≤ (k : Int) by omega), e1, e2, if_pos (show 0 ≤ ((104 + k : Nat) : Int) ∧ ((104 + k : Nat) : Int) < 367 by omega), Int.toNat_natCast, Int.toNat_natCast]
  unfold f_12_partsOf_J41
  rw [z_e3 h12]
  by_cases h : M 34 (104 + k) = y
  · rw [if_neg (fun q => q h), if_pos (show 0 ≤ ((116 + k : Nat) : Int) ∧ ((116 + k : Nat) : Int) < 367 by omega), if_pos h]
  · rw [if_pos h, if_neg h, z_or0 hz.1 hz.2]
theorem z_parts {M1 M2 : ev_C} {y : Int} (h4 : M1 6 4 = M2 34 4 ∧ 0 ≤ M1 6 4 ∧ M1 6 4 ≤ 12) (hs : ∀ k : Nat, (k : Int) < M1 6 4 → M1 78 k = M2 34 (104 + k)) (hr : ∀ k : Nat, (k : Int) < M1 6 4 → M1 79 k = M2 34 (116 + k)) : ∀ (N1 N2 k : Nat) (z : Int), 13 - k < N1 → 13 - k < N2 → k ≤ 12 → (-2147483648 ≤ z ∧ z ≤ 2147483647) → ∃ r, f_6_partsOf_L4 N1 M1 y z k = some (r, M1) ∧ f_12_partsOf_L4 N2 M2 y z k = some (r, M2)
  | 0, _, k, z, h, _, _, _ => by omega
  | N1 + 1, 0, k, z, _, h, _, _ => by omega
  | N1 + 1, N2 + 1, k, z, h1, h2, hk, hz => by
    by_cases h : M1 6 4 ≤ k
    · rw [f_6_partsOf_L4, f_12_partsOf_L4, if_pos h, if_pos (show M2 34 4 ≤ (k : Int) by omega)]
      exact ⟨z, rfl, rfl⟩
    · rw [z_Aparts (by omega) (by omega), z_Bparts (by omega) (by omega) hz, hs k (by omega), hr k (by omega)]
      refine z_parts h4 hs hr N1 N2 (k + 1) _ (by omega) (by omega) (by omega) ?_
      split
      · exact z_orI
      · exact hz
theorem z_Afacts {M : ev_C} {N k : Nat} {y z : Int} (hk : (k : Int) < M 6 4) (h12 : k < 12) : f_6_factsOf_L4 (N + 1) M y z k = f_6_factsOf_L4 N M y (if M 78 k = y then ev_or z (M 80 k) else z) ((k + 1 : Nat) : Int) := by
  rw [f_6_factsOf_L4, if_neg (show ¬ M 6 4 ≤ (k : Int) by omega), if_pos (show 0 ≤ (k : Int) ∧ (k : Int) < 12 by omega), Int.toNat_natCast]
  unfold f_6_factsOf_J31
  rw [z_e3 h12]
  by_cases h : M 78 k = y
  · rw [if_neg (fun q => q h), if_pos (show 0 ≤ (k : Int) ∧ (k : Int) < 12 by omega), if_pos h]
  · rw [if_pos h, if_neg h]
theorem z_Bfacts {M : ev_C} {N k : Nat} {y z : Int} (hk : (k : Int) < M 34 4) (h12 : k < 12) (hz : -2147483648 ≤ z ∧ z ≤ 2147483647) : f_12_factsOf_L4 (N + 1) M y z k = f_12_factsOf_L4 N M y (if M 34 (104 + k) = y then ev_or z (M 34 (128 + k)) else z) ((k + 1 : Nat) : Int) := by
  have e1 : ev_w ((104 : Int) + (k : Int)) = ((104 + k : Nat) : Int) := z_eo h12 (o := 104) (by decide)
  have e2 : ev_w ((128 : Int) + (k : Int)) = ((128 + k : Nat) : Int) := z_eo h12 (o := 128) (by decide)
  rw [f_12_factsOf_L4, if_neg (show ¬ M 34 4 ≤ (k : Int) by omega), e1, e2, if_pos (show 0 ≤ ((104 + k : Nat) : Int) ∧ ((104 + k : Nat) : Int) < 367 by omega), Int.toNat_natCast, Int.toNat_natCast]
  unfold f_12_factsOf_J42
  rw [z_e3 h12]
  by_cases h : M 34 (104 + k) = y
  · rw [if_neg (fun q => q h), if_pos (show 0 ≤ ((128 + k : Nat) : Int) ∧ ((128 + k : Nat) : Int) < 367 by omega), if_pos h]
  · rw [if_pos h, if_neg h, z_or0 hz.1 hz.2]
theorem z_facts {M1 M2 : ev_C} {y : Int} (h4 : M1 6 4 = M2 34 4 ∧ 0 ≤ M1 6 4 ∧ M1 6 4 ≤ 12) (hs : ∀ k : Nat, (k : Int) < M1 6 4 → M1 78 k = M2 34 (104 + k)) (hr : ∀ k : Nat, (k : Int) < M1 6 4 → M1 80 k = M2 34 (128 + k)) : ∀ (N1 N2 k : Nat) (z : Int), 13 - k < N1 → 13 - k < N2 → k ≤ 12 → (-2147483648 ≤ z ∧ z ≤ 2147483647) → ∃ r, f_6_factsOf_L4 N1 M1 y z k = some (r, M1) ∧ f_12_factsOf_L4 N2 M2 y z k = some (r, M2)
  | 0, _, k, z, h, _, _, _ => by omega
  | N1 + 1, 0, k, z, _, h, _, _ => by omega
  | N1 + 1, N2 + 1, k, z, h1, h2, hk, hz => by
    by_cases h : M1 6 4 ≤ k
    · rw [f_6_factsOf_L4, f_12_factsOf_L4, if_pos h, if_pos (show M2 34 4 ≤ (k : Int) by omega)]
      exact ⟨z, rfl, rfl⟩
    · rw [z_Afacts (by omega) (by omega), z_Bfacts (by omega) (by omega) hz, hs k (by omega), hr k (by omega)]
      refine z_facts h4 hs hr N1 N2 (k + 1) _ (by omega) (by omega) (by omega) ?_
      split
      · exact z_orI
      · exact hz
theorem z_Asum {M : ev_C} {N k : Nat} {y z : Int} (hk : (k : Int) < M 6 4) (h12 : k < 12) : f_6_scenesOf_L4 (N + 1) M y z k = f_6_scenesOf_L4 N M y (if M 78 k = y then ev_w (z + 1) else z) ((k + 1 : Nat) : Int) := by
  rw [f_6_scenesOf_L4, if_neg (show ¬ M 6 4 ≤ (k : Int) by omega), if_pos (show 0 ≤ (k : Int) ∧ (k : Int) < 12 by omega), Int.toNat_natCast]
  unfold f_6_scenesOf_J25
  rw [z_e3 h12]
  by_cases h : M 78 k = y
  · rw [if_neg (fun q => q h), if_pos h]
  · rw [if_pos h, if_neg h]
theorem z_Bsum {M : ev_C} {N k : Nat} {y w z : Int} (hk : (k : Int) < M 34 4) (h12 : k < 12) (hz : 0 ≤ z ∧ z ≤ 12) : f_12_act_L37 (N + 1) M y w z k = f_12_act_L37 N M y w (if M 34 (104 + k) = y then ev_w (z + 1) else z) ((k + 1 : Nat) : Int) := by
  have e1 : ev_w ((104 : Int) + (k : Int)) = ((104 + k : Nat) : Int) := z_eo h12 (o := 104) (by decide)
  rw [f_12_act_L37, if_neg (show ¬ M 34 4 ≤ (k : Int) by omega), e1, if_pos (show 0 ≤ ((104 + k : Nat) : Int) ∧ ((104 + k : Nat) : Int) < 367 by omega), Int.toNat_natCast]
  unfold f_12_act_J68
  rw [z_e3 h12]
  by_cases h : M 34 (104 + k) = y
  · rw [if_neg (fun q => q h), if_pos h]
  · rw [if_pos h, if_neg h, show ev_w (z + 0) = z by rw [ev_w_id (by omega) (by omega)]; omega]
/-- the reference's sum goes its way whatever is asked; the class's is the same -/
theorem z_sum {M1 M2 : ev_C} {y w : Int} (h4 : M1 6 4 = M2 34 4 ∧ 0 ≤ M1 6 4 ∧ M1 6 4 ≤ 12) (hs : ∀ k : Nat, (k : Int) < M1 6 4 → M1 78 k = M2 34 (104 + k)) : ∀ (N1 N2 k : Nat) (z : Int), 13 - k < N1 → 13 - k < N2 → k ≤ 12 → (0 ≤ z ∧ z ≤ k) → ∃ r, f_6_scenesOf_L4 N1 M1 y z k = some (r, M1) ∧ f_12_act_L37 N2 M2 y w z k = (if w ≠ 0 then (if w ≠ 1 then (ev_bd (f_12_factsOf M2 y) fun r8 C8 => some (r8, C8)) else (ev_bd (f_12_partsOf M2 y) fun r9 C9 => some (r9, C9))) else some (r, M2))
  | 0, _, k, z, h, _, _, _ => by omega
  | N1 + 1, 0, k, z, _, h, _, _ => by omega
  | N1 + 1, N2 + 1, k, z, h1, h2, hk, hz => by
    by_cases h : M1 6 4 ≤ k
    · rw [f_6_scenesOf_L4, f_12_act_L37, if_pos h, if_pos (show M2 34 4 ≤ (k : Int) by omega)]
      exact ⟨z, rfl, rfl⟩
    · rw [z_Asum (by omega) (by omega), z_Bsum (by omega) (by omega) (by omega), hs k (by omega)]
      refine z_sum h4 hs N1 N2 (k + 1) _ (by omega) (by omega) (by omega) ?_
      split
      · rw [ev_w_id (by omega) (by omega)]; omega
      · omega
theorem z_act {M1 M2 : ev_C} {x w : Int} (hG : z_PL 6 67 34 0 19 0 M1 M2) : ∃ r M2', f_11_act M1 x w = some (r, M1) ∧ f_12_act M2 x w = some (r, M2') := by
  obtain ⟨⟨-, -, -, c3, c4, -⟩, -, s0, s1, s2⟩ := hG
  have c3 : M1 6 3 = M2 34 3 ∧ 0 ≤ M1 6 3 ∧ M1 6 3 ≤ 6 := c3
  have c4 : M1 6 4 = M2 34 4 ∧ 0 ≤ M1 6 4 ∧ M1 6 4 ≤ 12 := c4
  have s0 : ∀ k : Nat, (k : Int) < M1 6 4 → M1 78 k = M2 34 (104 + k) := fun k hk => by have := s0 k hk; rwa [Nat.zero_add] at this
  have s1 : ∀ k : Nat, (k : Int) < M1 6 4 → M1 79 k = M2 34 (116 + k) := fun k hk => by have := s1 k hk; rwa [Nat.zero_add] at this
  have s2 : ∀ k : Nat, (k : Int) < M1 6 4 → M1 80 k = M2 34 (128 + k) := fun k hk => by have := s2 k hk; rwa [Nat.zero_add] at this
  obtain ⟨X, hX⟩ : ∃ X, X = ev_u M2 12 0 0 := ⟨_, rfl⟩
  have x34 : ∀ j, X 34 j = M2 34 j := fun j => by rw [hX, ev_ut (by decide)]
  obtain ⟨r0, a0, b0⟩ := z_sum (M2 := X) (y := x) (w := w) (by rw [x34]; exact c4) (fun k hk => by rw [x34]; exact s0 k hk) 1000 1000 0 0 (by omega) (by omega) (by omega) ⟨by decide, by decide⟩
  obtain ⟨r1, a1, b1⟩ := z_parts (M2 := X) (y := x) (by rw [x34]; exact c4) (fun k hk => by rw [x34]; exact s0 k hk) (fun k hk => by rw [x34]; exact s1 k hk) 1000 1000 0 0 (by omega) (by omega) (by omega) ⟨by decide, by decide⟩
  obtain ⟨r2, a2, b2⟩ := z_facts (M2 := X) (y := x) (by rw [x34]; exact c4) (fun k hk => by rw [x34]; exact s0 k hk) (fun k hk => by rw [x34]; exact s2 k hk) 1000 1000 0 0 (by omega) (by omega) (by omega) ⟨by decide, by decide⟩
  have a0 : f_6_scenesOf M1 x = some (r0, M1) := a0
  have a1 : f_6_partsOf M1 x = some (r1, M1) := a1
  have a2 : f_6_factsOf M1 x = some (r2, M1) := a2
  have b1 : f_12_partsOf X x = some (r1, X) := b1
  have b2 : f_12_factsOf X x = some (r2, X) := b2
  have b0 : f_12_act_L37 1000 X x w 0 0 = _ := b0
  unfold f_11_act f_12_act
  rw [← hX, show ev_w (M2 34 3 - 1) = M1 6 3 - 1 by rw [← c3.1, ev_w_id (by omega) (by omega)], z_isIn, ev_bdS]
  by_cases h1 : x < 0
  · rw [if_pos h1, if_neg (show ¬ (0 ≤ x ∧ x ≤ M1 6 3 - 1) by omega), if_pos rfl]
    exact ⟨_, _, rfl, rfl⟩
  · rw [if_neg h1]
    by_cases h2 : x < M1 6 3
    · rw [if_pos h2, if_pos (show 0 ≤ x ∧ x ≤ M1 6 3 - 1 by omega), if_neg (show ¬ (1 : Int) = 0 by decide), z_isIn, ev_bdS]
      by_cases w0 : w = 0
      · subst w0
        rw [if_pos (rfl : (0 : Int) = 0), a0, ev_bdS, if_pos (show (0 : Int) ≤ 0 ∧ (0 : Int) ≤ 2 by decide), if_pos (show (1 : Int) ≠ 0 by decide), b0, if_neg (show ¬ (0 : Int) ≠ 0 by decide)]
        exact ⟨_, _, rfl, rfl⟩
      · rw [if_neg w0]
        by_cases w1 : w = 1
        · subst w1
          rw [if_pos (rfl : (1 : Int) = 1), a1, ev_bdS, if_pos (show (0 : Int) ≤ 1 ∧ (1 : Int) ≤ 2 by decide), if_pos (show (1 : Int) ≠ 0 by decide), b0, if_pos (show (1 : Int) ≠ 0 by decide), if_neg (show ¬ (1 : Int) ≠ 1 by decide), b1, ev_bdS]
          exact ⟨_, _, rfl, rfl⟩
        · rw [if_neg w1]
          by_cases w2 : w = 2
          · subst w2
            rw [if_pos (rfl : (2 : Int) = 2), a2, ev_bdS, if_pos (show (0 : Int) ≤ 2 ∧ (2 : Int) ≤ 2 by decide), if_pos (show (1 : Int) ≠ 0 by decide), b0, if_pos (show (2 : Int) ≠ 0 by decide), if_pos (show (2 : Int) ≠ 1 by decide), b2, ev_bdS]
            exact ⟨_, _, rfl, rfl⟩
          · rw [if_neg w2, if_neg (show ¬ (0 ≤ w ∧ w ≤ 2) by omega), if_neg (show ¬ (0 : Int) ≠ 0 by decide)]
            exact ⟨_, _, rfl, rfl⟩
    · rw [if_neg h2, if_neg (show ¬ (0 ≤ x ∧ x ≤ M1 6 3 - 1) by omega), if_pos rfl]
      exact ⟨_, _, rfl, rfl⟩
theorem z_scene {M1 M2 : ev_C} {x w : Int} (hG : z_PL 6 67 34 0 19 0 M1 M2) : ∃ r M2', f_11_scene M1 x w = some (r, M1) ∧ f_12_scene M2 x w = some (r, M2') := by
  obtain ⟨⟨-, -, -, -, c4, -⟩, -, s0, s1, s2⟩ := hG
  have c4 : M1 6 4 = M2 34 4 ∧ 0 ≤ M1 6 4 ∧ M1 6 4 ≤ 12 := c4
  have s0 : ∀ k : Nat, (k : Int) < M1 6 4 → M1 78 k = M2 34 (104 + k) := fun k hk => by have := s0 k hk; rwa [Nat.zero_add] at this
  have s1 : ∀ k : Nat, (k : Int) < M1 6 4 → M1 79 k = M2 34 (116 + k) := fun k hk => by have := s1 k hk; rwa [Nat.zero_add] at this
  have s2 : ∀ k : Nat, (k : Int) < M1 6 4 → M1 80 k = M2 34 (128 + k) := fun k hk => by have := s2 k hk; rwa [Nat.zero_add] at this
  obtain ⟨X, hX⟩ : ∃ X, X = ev_u M2 12 0 0 := ⟨_, rfl⟩
  have x34 : ∀ j, X 34 j = M2 34 j := fun j => by rw [hX, ev_ut (by decide)]
  unfold f_11_scene f_12_scene
  rw [← hX, show ev_w (M2 34 4 - 1) = M1 6 4 - 1 by rw [← c4.1, ev_w_id (by omega) (by omega)], z_isIn, ev_bdS]
  by_cases h1 : x < 0
  · rw [if_pos h1, if_neg (show ¬ (0 ≤ x ∧ x ≤ M1 6 4 - 1) by omega), if_neg (show ¬ (0 : Int) ≠ 0 by decide)]
    exact ⟨_, _, rfl, rfl⟩
  · rw [if_neg h1]
    by_cases h2 : x < M1 6 4
    · obtain ⟨k, rfl⟩ : ∃ k : Nat, x = k := ⟨x.toNat, by omega⟩
      have h12 : k < 12 := by omega
      have e0 : ev_w ((104 : Int) + (k : Int)) = ((104 + k : Nat) : Int) := z_eo h12 (o := 104) (by decide)
      have e1 : ev_w ((116 : Int) + (k : Int)) = ((116 + k : Nat) : Int) := z_eo h12 (o := 116) (by decide)
      have e2 : ev_w ((128 : Int) + (k : Int)) = ((128 + k : Nat) : Int) := z_eo h12 (o := 128) (by decide)
      have g : 0 ≤ (k : Int) ∧ (k : Int) < 12 := by omega
      rw [if_pos h2, if_pos (show 0 ≤ (k : Int) ∧ (k : Int) ≤ M1 6 4 - 1 by omega), if_pos (show (1 : Int) ≠ 0 by decide), e0, e1, e2, Int.toNat_natCast, Int.toNat_natCast, Int.toNat_natCast, Int.toNat_natCast]
      by_cases w0 : w = 0
      · subst w0
        rw [if_pos (rfl : (0 : Int) = 0), if_pos g, if_neg (show ¬ (0 : Int) ≠ 0 by decide), if_pos (show 0 ≤ ((104 + k : Nat) : Int) ∧ ((104 + k : Nat) : Int) < 367 by omega), x34, s0 k h2]
        exact ⟨_, _, rfl, rfl⟩
      · rw [if_neg w0, if_pos w0]
        by_cases w1 : w = 1
        · subst w1
          rw [if_pos (rfl : (1 : Int) = 1), if_pos g, if_neg (show ¬ (1 : Int) ≠ 1 by decide), if_pos (show 0 ≤ ((116 + k : Nat) : Int) ∧ ((116 + k : Nat) : Int) < 367 by omega), x34, s1 k h2]
          exact ⟨_, _, rfl, rfl⟩
        · rw [if_neg w1, if_pos w1]
          by_cases w2 : w = 2
          · subst w2
            rw [if_pos (rfl : (2 : Int) = 2), if_pos g, if_neg (show ¬ (2 : Int) ≠ 2 by decide), if_pos (show 0 ≤ ((128 + k : Nat) : Int) ∧ ((128 + k : Nat) : Int) < 367 by omega), x34, s2 k h2]
            exact ⟨_, _, rfl, rfl⟩
          · rw [if_neg w2, if_pos w2]
            exact ⟨_, _, rfl, rfl⟩
    · rw [if_neg h2, if_neg (show ¬ (0 ≤ x ∧ x ≤ M1 6 4 - 1) by omega), if_neg (show ¬ (0 : Int) ≠ 0 by decide)]
      exact ⟨_, _, rfl, rfl⟩
