/-! THE TWO READERS ALIKE, 7: names told, numbers, bits. -/
theorem z_A.u18 {C1 C2 : ev_C} {v : Int} (h : z_A C1 C2) : z_A C1 (ev_u C2 12 18 v) := h
theorem z_D.u18 {C1 C2 : ev_C} {v : Int} (h : z_D C1 C2) : z_D C1 (ev_u C2 12 18 v) := h
theorem z_F2_18 {C C' : ev_C} (h : z_F2 C C') : C' 12 18 = C 12 18 := h.2 18 (by decide) (by decide) (by decide) (by decide) (by decide) (by decide)
theorem z_ff53 {C1 C2 : ev_C} (hP : z_P C1 C2) (hN : z_N (C1 8 8) (C2 12 17)) : ∃ i : Int, f_8_indexOf_53 C1 (C1 13 0) (C1 8 8) = some (i, C1) ∧ f_12_find C2 20 (C1 13 0) = some (i, C2) ∧ ((∃ k : Nat, i = k ∧ (k : Int) < C1 13 0) ∨ i = -1) := by
  have hc := hP.1.1
  obtain ⟨i, a1, a2⟩ := z_idx53 C1 (c := C1 13 0) (a := C1 8 8) (by omega)
  obtain ⟨i', b1, b2⟩ := z_find C2 (f := 20) (c := C1 13 0) (by decide) (by omega) (by omega)
  have e : i = i' := z_fst_eq a2 b2 (fun k hk => by
    have e1 : ((20 : Int) + k).toNat = 20 + k := by omega
    rw [e1]
    exact z_N_eq (hP.2.1.1 k hk) hN)
  subst e
  refine ⟨i, a1, b1, ?_⟩
  rcases a2 with ⟨k, e1, e2, -⟩ | ⟨e1, -⟩
  · exact Or.inl ⟨k, e1, e2⟩
  · exact Or.inr e1
theorem z_nh53 {C1 C2 : ev_C} (h : z_A C1 C2) (hP : z_P C1 C2) : (∃ i : Nat, (i : Int) < C1 13 0 ∧ f_8_nameHere_53 C1 (C1 13 0) = some ((i : Int), C1) ∧ f_12_looksAt C2 20 (C1 13 0) = some (1, ev_u C2 12 18 i)) ∨ (∃ C1' C2', f_8_nameHere_53 C1 (C1 13 0) = some (-1, C1') ∧ f_12_looksAt C2 20 (C1 13 0) = some (0, C2') ∧ z_X C1' C2') := by
  unfold f_8_nameHere_53 f_12_looksAt
  rcases z_name h with ⟨a1, a2, a3⟩ | ⟨a1, a2⟩
  · rw [a1, a2, ev_bdS, ev_bdS, if_pos (by decide), if_pos (by decide)]
    obtain ⟨i, b1, b2, b3⟩ := z_ff53 hP a3
    rw [b1, b2, ev_bdS, ev_bdS]
    rcases b3 with ⟨k, rfl, hk⟩ | rfl
    · rw [if_pos (show (k : Int) ≠ -1 by omega), if_pos (show (0 : Int) ≤ k by omega)]
      exact Or.inl ⟨k, hk, rfl, rfl⟩
    · obtain ⟨C1', C2', g1, g2, g3⟩ := z_fail (k := 3) (h.u18 (v := -1)) (by decide)
      rw [if_neg (by decide), if_neg (by decide), g1, g2, ev_bvS, ev_bdS, if_pos rfl]
      exact Or.inr ⟨C1', C2', rfl, rfl, g3⟩
  · obtain ⟨C1', C2', g1, g2, g3⟩ := z_fail (k := 1) h (by decide)
    rw [a1, a2, ev_bdS, ev_bdS, if_neg (by decide), if_neg (by decide), g1, g2, ev_bvS, ev_bdS, if_pos (by decide)]
    exact Or.inr ⟨C1', C2', rfl, rfl, g3⟩
theorem z_tn53 {C1 C2 : ev_C} (h : z_A C1 C2) (hP : z_P C1 C2) : (∃ (i : Nat) (C1' C2' : ev_C), (i : Int) < C1 13 0 ∧ f_8_takeName_53 C1 (C1 13 0) = some ((i : Int), C1') ∧ f_12_takesName C2 20 (C1 13 0) = some (1, C2') ∧ z_A C1' C2' ∧ z_F1 C1 C1' ∧ z_F2 (ev_u C2 12 18 i) C2' ∧ z_M C1 C1') ∨ (∃ C1' C2', f_8_takeName_53 C1 (C1 13 0) = some (-1, C1') ∧ f_12_takesName C2 20 (C1 13 0) = some (0, C2') ∧ z_X C1' C2') := by
  unfold f_8_takeName_53 f_12_takesName
  rcases z_nh53 h hP with ⟨i, hi, a1, a2⟩ | ⟨C1', C2', a1, a2, a3⟩
  · obtain ⟨C1', C2', g1, g2, g3, g4, g5, g6⟩ := z_stp (h.u18 (v := i)).1
    rw [a1, a2, ev_bdS, ev_bdS, if_neg (show ¬ (i : Int) = -1 by omega), if_pos (by decide), g1, g2, ev_bvS, ev_bvS]
    exact Or.inl ⟨i, C1', C2', hi, rfl, rfl, g3, g4, g5, g6⟩
  · rw [a1, a2, ev_bdS, ev_bdS, if_pos rfl, if_neg (by decide)]
    exact Or.inr ⟨C1', C2', rfl, rfl, a3⟩
theorem z_ff54 {C1 C2 : ev_C} (hP : z_P C1 C2) (hN : z_N (C1 8 8) (C2 12 17)) : ∃ i : Int, f_8_indexOf_54 C1 (C1 13 1) (C1 8 8) = some (i, C1) ∧ f_12_find C2 26 (C1 13 1) = some (i, C2) ∧ ((∃ k : Nat, i = k ∧ (k : Int) < C1 13 1) ∨ i = -1) := by
  have hc := hP.1.2.1
  obtain ⟨i, a1, a2⟩ := z_idx54 C1 (c := C1 13 1) (a := C1 8 8) (by omega)
  obtain ⟨i', b1, b2⟩ := z_find C2 (f := 26) (c := C1 13 1) (by decide) (by omega) (by omega)
  have e : i = i' := z_fst_eq a2 b2 (fun k hk => by
    have e1 : ((26 : Int) + k).toNat = 26 + k := by omega
    rw [e1]
    exact z_N_eq (hP.2.1.2.1 k hk) hN)
  subst e
  refine ⟨i, a1, b1, ?_⟩
  rcases a2 with ⟨k, e1, e2, -⟩ | ⟨e1, -⟩
  · exact Or.inl ⟨k, e1, e2⟩
  · exact Or.inr e1
theorem z_nh54 {C1 C2 : ev_C} (h : z_A C1 C2) (hP : z_P C1 C2) : (∃ i : Nat, (i : Int) < C1 13 1 ∧ f_8_nameHere_54 C1 (C1 13 1) = some ((i : Int), C1) ∧ f_12_looksAt C2 26 (C1 13 1) = some (1, ev_u C2 12 18 i)) ∨ (∃ C1' C2', f_8_nameHere_54 C1 (C1 13 1) = some (-1, C1') ∧ f_12_looksAt C2 26 (C1 13 1) = some (0, C2') ∧ z_X C1' C2') := by
  unfold f_8_nameHere_54 f_12_looksAt
  rcases z_name h with ⟨a1, a2, a3⟩ | ⟨a1, a2⟩
  · rw [a1, a2, ev_bdS, ev_bdS, if_pos (by decide), if_pos (by decide)]
    obtain ⟨i, b1, b2, b3⟩ := z_ff54 hP a3
    rw [b1, b2, ev_bdS, ev_bdS]
    rcases b3 with ⟨k, rfl, hk⟩ | rfl
    · rw [if_pos (show (k : Int) ≠ -1 by omega), if_pos (show (0 : Int) ≤ k by omega)]
      exact Or.inl ⟨k, hk, rfl, rfl⟩
    · obtain ⟨C1', C2', g1, g2, g3⟩ := z_fail (k := 3) (h.u18 (v := -1)) (by decide)
      rw [if_neg (by decide), if_neg (by decide), g1, g2, ev_bvS, ev_bdS, if_pos rfl]
      exact Or.inr ⟨C1', C2', rfl, rfl, g3⟩
  · obtain ⟨C1', C2', g1, g2, g3⟩ := z_fail (k := 1) h (by decide)
    rw [a1, a2, ev_bdS, ev_bdS, if_neg (by decide), if_neg (by decide), g1, g2, ev_bvS, ev_bdS, if_pos (by decide)]
    exact Or.inr ⟨C1', C2', rfl, rfl, g3⟩
theorem z_tn54 {C1 C2 : ev_C} (h : z_A C1 C2) (hP : z_P C1 C2) : (∃ (i : Nat) (C1' C2' : ev_C), (i : Int) < C1 13 1 ∧ f_8_takeName_54 C1 (C1 13 1) = some ((i : Int), C1') ∧ f_12_takesName C2 26 (C1 13 1) = some (1, C2') ∧ z_A C1' C2' ∧ z_F1 C1 C1' ∧ z_F2 (ev_u C2 12 18 i) C2' ∧ z_M C1 C1') ∨ (∃ C1' C2', f_8_takeName_54 C1 (C1 13 1) = some (-1, C1') ∧ f_12_takesName C2 26 (C1 13 1) = some (0, C2') ∧ z_X C1' C2') := by
  unfold f_8_takeName_54 f_12_takesName
  rcases z_nh54 h hP with ⟨i, hi, a1, a2⟩ | ⟨C1', C2', a1, a2, a3⟩
  · obtain ⟨C1', C2', g1, g2, g3, g4, g5, g6⟩ := z_stp (h.u18 (v := i)).1
    rw [a1, a2, ev_bdS, ev_bdS, if_neg (show ¬ (i : Int) = -1 by omega), if_pos (by decide), g1, g2, ev_bvS, ev_bvS]
    exact Or.inl ⟨i, C1', C2', hi, rfl, rfl, g3, g4, g5, g6⟩
  · rw [a1, a2, ev_bdS, ev_bdS, if_pos rfl, if_neg (by decide)]
    exact Or.inr ⟨C1', C2', rfl, rfl, a3⟩
theorem z_ff55 {C1 C2 : ev_C} (hP : z_P C1 C2) (hN : z_N (C1 8 8) (C2 12 17)) : ∃ i : Int, f_8_indexOf_55 C1 (C1 13 2) (C1 8 8) = some (i, C1) ∧ f_12_find C2 32 (C1 13 2) = some (i, C2) ∧ ((∃ k : Nat, i = k ∧ (k : Int) < C1 13 2) ∨ i = -1) := by
  have hc := hP.1.2.2.1
  obtain ⟨i, a1, a2⟩ := z_idx55 C1 (c := C1 13 2) (a := C1 8 8) (by omega)
  obtain ⟨i', b1, b2⟩ := z_find C2 (f := 32) (c := C1 13 2) (by decide) (by omega) (by omega)
  have e : i = i' := z_fst_eq a2 b2 (fun k hk => by
    have e1 : ((32 : Int) + k).toNat = 32 + k := by omega
    rw [e1]
    exact z_N_eq (hP.2.1.2.2 k hk) hN)
  subst e
  refine ⟨i, a1, b1, ?_⟩
  rcases a2 with ⟨k, e1, e2, -⟩ | ⟨e1, -⟩
  · exact Or.inl ⟨k, e1, e2⟩
  · exact Or.inr e1
theorem z_nh55 {C1 C2 : ev_C} (h : z_A C1 C2) (hP : z_P C1 C2) : (∃ i : Nat, (i : Int) < C1 13 2 ∧ f_8_nameHere_55 C1 (C1 13 2) = some ((i : Int), C1) ∧ f_12_looksAt C2 32 (C1 13 2) = some (1, ev_u C2 12 18 i)) ∨ (∃ C1' C2', f_8_nameHere_55 C1 (C1 13 2) = some (-1, C1') ∧ f_12_looksAt C2 32 (C1 13 2) = some (0, C2') ∧ z_X C1' C2') := by
  unfold f_8_nameHere_55 f_12_looksAt
  rcases z_name h with ⟨a1, a2, a3⟩ | ⟨a1, a2⟩
  · rw [a1, a2, ev_bdS, ev_bdS, if_pos (by decide), if_pos (by decide)]
    obtain ⟨i, b1, b2, b3⟩ := z_ff55 hP a3
    rw [b1, b2, ev_bdS, ev_bdS]
    rcases b3 with ⟨k, rfl, hk⟩ | rfl
    · rw [if_pos (show (k : Int) ≠ -1 by omega), if_pos (show (0 : Int) ≤ k by omega)]
      exact Or.inl ⟨k, hk, rfl, rfl⟩
    · obtain ⟨C1', C2', g1, g2, g3⟩ := z_fail (k := 3) (h.u18 (v := -1)) (by decide)
      rw [if_neg (by decide), if_neg (by decide), g1, g2, ev_bvS, ev_bdS, if_pos rfl]
      exact Or.inr ⟨C1', C2', rfl, rfl, g3⟩
  · obtain ⟨C1', C2', g1, g2, g3⟩ := z_fail (k := 1) h (by decide)
    rw [a1, a2, ev_bdS, ev_bdS, if_neg (by decide), if_neg (by decide), g1, g2, ev_bvS, ev_bdS, if_pos (by decide)]
    exact Or.inr ⟨C1', C2', rfl, rfl, g3⟩
theorem z_tn55 {C1 C2 : ev_C} (h : z_A C1 C2) (hP : z_P C1 C2) : (∃ (i : Nat) (C1' C2' : ev_C), (i : Int) < C1 13 2 ∧ f_8_takeName_55 C1 (C1 13 2) = some ((i : Int), C1') ∧ f_12_takesName C2 32 (C1 13 2) = some (1, C2') ∧ z_A C1' C2' ∧ z_F1 C1 C1' ∧ z_F2 (ev_u C2 12 18 i) C2' ∧ z_M C1 C1') ∨ (∃ C1' C2', f_8_takeName_55 C1 (C1 13 2) = some (-1, C1') ∧ f_12_takesName C2 32 (C1 13 2) = some (0, C2') ∧ z_X C1' C2') := by
  unfold f_8_takeName_55 f_12_takesName
  rcases z_nh55 h hP with ⟨i, hi, a1, a2⟩ | ⟨C1', C2', a1, a2, a3⟩
  · obtain ⟨C1', C2', g1, g2, g3, g4, g5, g6⟩ := z_stp (h.u18 (v := i)).1
    rw [a1, a2, ev_bdS, ev_bdS, if_neg (show ¬ (i : Int) = -1 by omega), if_pos (by decide), g1, g2, ev_bvS, ev_bvS]
    exact Or.inl ⟨i, C1', C2', hi, rfl, rfl, g3, g4, g5, g6⟩
  · rw [a1, a2, ev_bdS, ev_bdS, if_pos rfl, if_neg (by decide)]
    exact Or.inr ⟨C1', C2', rfl, rfl, a3⟩
theorem z_failF {C C' : ev_C} {k : Int} (h : f_8_fail C k = some C') : ∀ t, t ≠ 8 → C' t = C t := by
  intro t ht
  unfold f_8_fail at h
  split at h
  · cases h; rfl
  · cases h; rw [ev_ut ht, ev_ut ht]
theorem z_numb {C1 C2 : ev_C} {lo hi : Int} (h : z_A C1 C2) : (∃ (v : Int) (C1' C2' : ev_C), (lo ≤ v ∧ v ≤ hi) ∧ f_8_takeNumber C1 lo hi = some (v, C1') ∧ f_12_takes C2 lo hi = some (1, C2') ∧ z_A C1' C2' ∧ z_F1 C1 C1' ∧ z_F2 (ev_u C2 12 18 v) C2' ∧ z_M C1 C1') ∨ (∃ C1' C2', f_8_takeNumber C1 lo hi = some (-1, C1') ∧ f_12_takes C2 lo hi = some (0, C2') ∧ z_X C1' C2' ∧ ∀ t, t ≠ 8 → C1' t = C1 t) := by
  have key : C1 8 4 ≠ 2 → C2 12 11 ≠ 2 → (∃ C1' C2', f_8_takeNumber C1 lo hi = some (-1, C1') ∧ f_12_takes C2 lo hi = some (0, C2') ∧ z_X C1' C2' ∧ ∀ t, t ≠ 8 → C1' t = C1 t) := by
    intro a b
    obtain ⟨C1', C2', g1, g2, g3⟩ := z_fail (k := 1) h (by decide)
    unfold f_8_takeNumber f_12_takes
    rw [if_neg a, if_neg b, g1, g2, ev_bvS, ev_bdS, if_pos (by decide)]
    exact ⟨C1', C2', rfl, rfl, g3, z_failF g1⟩
  obtain ⟨hD, hK, hT⟩ := id h
  rcases hK with ⟨k1, k2⟩ | ⟨k1, k2, -⟩ | ⟨k1, k2, k3, k4, k5⟩ | ⟨k1, k2, -⟩ | ⟨k2, k1⟩
  · exact Or.inr (key (by omega) (by omega))
  · exact Or.inr (key (by omega) (by omega))
  · unfold f_8_takeNumber f_12_takes f_12_isIn
    rw [if_pos k1, if_pos k2, ← k3]
    have bad : ∃ C1' C2', f_8_fail C1 2 = some C1' ∧ f_12_bad C2 2 = some (0, C2') ∧ z_X C1' C2' := z_fail h (by decide)
    obtain ⟨B1, B2, g1, g2, g3⟩ := bad
    by_cases c1 : C1 8 6 < lo
    · rw [if_pos c1, if_pos c1, ev_bdS, if_neg (by decide), g1, g2, ev_bvS, ev_bdS, if_pos (by decide)]
      exact Or.inr ⟨B1, B2, rfl, rfl, g3, z_failF g1⟩
    · rw [if_neg c1, if_neg c1]
      by_cases c2 : C1 8 6 ≤ hi
      · obtain ⟨C1', C2', w1, w2, w3, w4, w5, w6⟩ := z_stp (h.u18 (v := C1 8 6)).1
        rw [if_pos c2, if_neg (by omega), ev_bdS, if_pos (by decide), ← k3, w1, w2, ev_bvS, ev_bvS]
        exact Or.inl ⟨C1 8 6, C1', C2', ⟨by omega, c2⟩, rfl, rfl, w3, w4, w5, w6⟩
      · rw [if_neg c2, if_pos (by omega), ev_bdS, if_neg (by decide), g1, g2, ev_bvS, ev_bdS, if_pos (by decide)]
        exact Or.inr ⟨B1, B2, rfl, rfl, g3, z_failF g1⟩
  · exact Or.inr (key (by omega) (by omega))
  · exact Or.inr (key (by rcases k1 with k1 | ⟨k1, -⟩ <;> omega) (by omega))
theorem z_once {C1 C2 : ev_C} {b k to : Int} (h : z_A C1 C2) (h0 : 0 ≤ to) (h1 : to < 140) (hb : C2 35 to.toNat = b) (hk : C2 12 18 = k) : (ev_and (ev_shr b k) 1 = 0 ∧ ∃ C1' C2', f_7_takeOnce_8 C1 b k = some (ev_or b (ev_shl 1 k), C1') ∧ f_12_sets C2 to = some (1, C2') ∧ z_A C1' C2' ∧ z_F1 C1 C1' ∧ z_F2 (ev_u C2 35 to.toNat (ev_or b (ev_shl 1 k))) C2' ∧ z_M C1 C1') ∨ (ev_and (ev_shr b k) 1 = 1 ∧ ∃ C1' C2', f_7_takeOnce_8 C1 b k = some (b, C1') ∧ f_12_sets C2 to = some (0, C2') ∧ z_X C1' C2' ∧ ∀ t, t ≠ 8 → C1' t = C1 t) := by
  have hto : 0 ≤ to ∧ to < 140 := ⟨h0, h1⟩
  rcases z_bit b k with c | c
  · have hD : z_D C1 (ev_u C2 35 to.toNat (ev_or b (ev_shl 1 k))) := h.1
    obtain ⟨C1', C2', w1, w2, w3, w4, w5, w6⟩ := z_stp hD
    refine Or.inl ⟨c, C1', C2', ?_, ?_, w3, w4, w5, w6⟩
    · unfold f_7_takeOnce_8 f_11_has
      rw [if_pos c, ev_bdS, if_pos rfl, w1, ev_bvS]
    · unfold f_12_sets f_12_bitOf
      rw [if_pos hto, hb, hk, if_pos (show ev_and (ev_shr b k) 1 ≠ 1 by omega), ev_bdS, if_pos rfl, if_pos hto, if_pos hto, hb, hk, w2, ev_bvS]
  · obtain ⟨C1', C2', g1, g2, g3⟩ := z_fail (k := 3) h (by decide)
    refine Or.inr ⟨c, C1', C2', ?_, ?_, g3, z_failF g1⟩
    · unfold f_7_takeOnce_8 f_11_has
      rw [if_neg (show ¬ ev_and (ev_shr b k) 1 = 0 by omega), ev_bdS, if_neg (by decide), g1, ev_bvS]
    · unfold f_12_sets f_12_bitOf
      rw [if_pos hto, hb, hk, if_neg (show ¬ ev_and (ev_shr b k) 1 ≠ 1 by omega), ev_bdS, if_neg (by decide), g2, ev_bdS, if_pos (by decide)]
/-! a new name -/
theorem z_hasN {C1 C2 : ev_C} (hP : z_P C1 C2) (hN : z_N (C1 8 8) (C2 12 17)) : ∃ v1 v2 v3 : Int, f_12_find C2 20 (C1 13 0) = some (v1, C2) ∧ f_12_find C2 26 (C1 13 1) = some (v2, C2) ∧ f_12_find C2 32 (C1 13 2) = some (v3, C2) ∧ (0 ≤ v1 ∨ v1 = -1) ∧ (0 ≤ v2 ∨ v2 = -1) ∧ (0 ≤ v3 ∨ v3 = -1) ∧ f_6_hasName_13 C1 (C1 8 8) = some (if 0 ≤ v1 ∨ 0 ≤ v2 ∨ 0 ≤ v3 then 1 else 0, C1) := by
  obtain ⟨v1, a1, a2, a3⟩ := z_ff53 hP hN
  obtain ⟨v2, b1, b2, b3⟩ := z_ff54 hP hN
  obtain ⟨v3, c1, c2, c3⟩ := z_ff55 hP hN
  have a3 : 0 ≤ v1 ∨ v1 = -1 := a3.imp (fun ⟨k, e, _⟩ => by omega) id
  have b3 : 0 ≤ v2 ∨ v2 = -1 := b3.imp (fun ⟨k, e, _⟩ => by omega) id
  have c3 : 0 ≤ v3 ∨ v3 = -1 := c3.imp (fun ⟨k, e, _⟩ => by omega) id
  refine ⟨v1, v2, v3, a2, b2, c2, a3, b3, c3, ?_⟩
  unfold f_6_hasName_13
  rw [a1, ev_bdS]
  by_cases d1 : v1 ≠ -1
  · rw [if_pos d1, if_pos (by omega)]
  · rw [if_neg d1, b1, ev_bdS]
    by_cases d2 : v2 ≠ -1
    · rw [if_pos d2, if_pos (by omega)]
    · rw [if_neg d2, c1, ev_bdS]
      by_cases d3 : v3 = -1
      · rw [if_pos d3, if_neg (by omega)]
      · rw [if_neg d3, if_pos (by omega)]
theorem z_nw53 {C1 C2 : ev_C} {x : Int} (h : z_A C1 C2) (hP : z_P C1 C2) (hx0 : 0 ≤ x) (hx : x < 6) : (∃ C1' C2', f_7_takeNewName_8_53 C1 x = some (1, C1') ∧ f_12_fresh C2 (20 + x) = some (1, C2') ∧ z_A C1' C2' ∧ z_N (C1 8 8) (C2 12 17) ∧ z_F1 (ev_u C1 53 x.toNat (C1 8 8)) C1' ∧ z_F2 (ev_u C2 19 (20 + x).toNat (C2 12 17)) C2' ∧ z_M C1 C1') ∨ (∃ C1' C2', f_7_takeNewName_8_53 C1 x = some (0, C1') ∧ f_12_fresh C2 (20 + x) = some (0, C2') ∧ z_X C1' C2') := by
  unfold f_7_takeNewName_8_53 f_12_fresh
  rcases z_name h with ⟨a1, a2, a3⟩ | ⟨a1, a2⟩
  · obtain ⟨v1, v2, v3, b1, b2, b3, d1, d2, d3, b4⟩ := z_hasN hP a3
    have e0 := hP.1.1.1
    have e1 := hP.1.2.1.1
    have e2 := hP.1.2.2.1.1
    rw [a1, a2, ev_bdS, ev_bdS, if_pos (by decide), if_pos (by decide), b4, ev_bdS, ← e0, b1, ev_bdS]
    obtain ⟨B1, B2, g1, g2, g3⟩ := z_fail (k := 3) h (by decide)
    by_cases c1 : 0 ≤ v1
    · rw [if_pos (show 0 ≤ v1 ∨ 0 ≤ v2 ∨ 0 ≤ v3 from Or.inl c1), if_neg (by decide), if_pos c1, g1, g2, ev_bvS, ev_bdS, if_pos (by decide)]
      exact Or.inr ⟨B1, B2, rfl, rfl, g3⟩
    · rw [if_neg c1, ← e1, b2, ev_bdS]
      by_cases c2 : 0 ≤ v2
      · rw [if_pos (show 0 ≤ v1 ∨ 0 ≤ v2 ∨ 0 ≤ v3 from Or.inr (Or.inl c2)), if_neg (by decide), if_pos c2, g1, g2, ev_bvS, ev_bdS, if_pos (by decide)]
        exact Or.inr ⟨B1, B2, rfl, rfl, g3⟩
      · rw [if_neg c2, ← e2, b3, ev_bdS]
        by_cases c3 : 0 ≤ v3
        · rw [if_pos (show 0 ≤ v1 ∨ 0 ≤ v2 ∨ 0 ≤ v3 from Or.inr (Or.inr c3)), if_neg (by decide), if_neg (show ¬ v3 < 0 by omega), g1, g2, ev_bvS, ev_bdS, if_pos (by decide)]
          exact Or.inr ⟨B1, B2, rfl, rfl, g3⟩
        · have hD : z_D (ev_u C1 53 x.toNat (C1 8 8)) (ev_u C2 19 (20 + x).toNat (C2 12 17)) := h.1
          obtain ⟨C1', C2', w1, w2, w3, w4, w5, w6⟩ := z_stp hD
          rw [if_neg (show ¬ (0 ≤ v1 ∨ 0 ≤ v2 ∨ 0 ≤ v3) by omega), if_pos rfl, if_neg (show ¬ 6 ≤ x by omega), if_pos ⟨hx0, hx⟩, if_pos (show v3 < 0 by omega), if_pos (show 0 ≤ 20 + x ∧ 20 + x < 40 by omega), w1, w2, ev_bvS, ev_bvS]
          exact Or.inl ⟨C1', C2', rfl, rfl, w3, a3, w4, w5, w6⟩
  · obtain ⟨B1, B2, g1, g2, g3⟩ := z_fail (k := 1) h (by decide)
    rw [a1, a2, ev_bdS, ev_bdS, if_neg (by decide), if_neg (by decide), g1, g2, ev_bvS, ev_bdS, if_pos (by decide)]
    exact Or.inr ⟨B1, B2, rfl, rfl, g3⟩
theorem z_nw54 {C1 C2 : ev_C} {x : Int} (h : z_A C1 C2) (hP : z_P C1 C2) (hx0 : 0 ≤ x) (hx : x < 6) : (∃ C1' C2', f_7_takeNewName_8_54 C1 x = some (1, C1') ∧ f_12_fresh C2 (26 + x) = some (1, C2') ∧ z_A C1' C2' ∧ z_N (C1 8 8) (C2 12 17) ∧ z_F1 (ev_u C1 54 x.toNat (C1 8 8)) C1' ∧ z_F2 (ev_u C2 19 (26 + x).toNat (C2 12 17)) C2' ∧ z_M C1 C1') ∨ (∃ C1' C2', f_7_takeNewName_8_54 C1 x = some (0, C1') ∧ f_12_fresh C2 (26 + x) = some (0, C2') ∧ z_X C1' C2') := by
  unfold f_7_takeNewName_8_54 f_12_fresh
  rcases z_name h with ⟨a1, a2, a3⟩ | ⟨a1, a2⟩
  · obtain ⟨v1, v2, v3, b1, b2, b3, d1, d2, d3, b4⟩ := z_hasN hP a3
    have e0 := hP.1.1.1
    have e1 := hP.1.2.1.1
    have e2 := hP.1.2.2.1.1
    rw [a1, a2, ev_bdS, ev_bdS, if_pos (by decide), if_pos (by decide), b4, ev_bdS, ← e0, b1, ev_bdS]
    obtain ⟨B1, B2, g1, g2, g3⟩ := z_fail (k := 3) h (by decide)
    by_cases c1 : 0 ≤ v1
    · rw [if_pos (show 0 ≤ v1 ∨ 0 ≤ v2 ∨ 0 ≤ v3 from Or.inl c1), if_neg (by decide), if_pos c1, g1, g2, ev_bvS, ev_bdS, if_pos (by decide)]
      exact Or.inr ⟨B1, B2, rfl, rfl, g3⟩
    · rw [if_neg c1, ← e1, b2, ev_bdS]
      by_cases c2 : 0 ≤ v2
      · rw [if_pos (show 0 ≤ v1 ∨ 0 ≤ v2 ∨ 0 ≤ v3 from Or.inr (Or.inl c2)), if_neg (by decide), if_pos c2, g1, g2, ev_bvS, ev_bdS, if_pos (by decide)]
        exact Or.inr ⟨B1, B2, rfl, rfl, g3⟩
      · rw [if_neg c2, ← e2, b3, ev_bdS]
        by_cases c3 : 0 ≤ v3
        · rw [if_pos (show 0 ≤ v1 ∨ 0 ≤ v2 ∨ 0 ≤ v3 from Or.inr (Or.inr c3)), if_neg (by decide), if_neg (show ¬ v3 < 0 by omega), g1, g2, ev_bvS, ev_bdS, if_pos (by decide)]
          exact Or.inr ⟨B1, B2, rfl, rfl, g3⟩
        · have hD : z_D (ev_u C1 54 x.toNat (C1 8 8)) (ev_u C2 19 (26 + x).toNat (C2 12 17)) := h.1
          obtain ⟨C1', C2', w1, w2, w3, w4, w5, w6⟩ := z_stp hD
          rw [if_neg (show ¬ (0 ≤ v1 ∨ 0 ≤ v2 ∨ 0 ≤ v3) by omega), if_pos rfl, if_neg (show ¬ 6 ≤ x by omega), if_pos ⟨hx0, hx⟩, if_pos (show v3 < 0 by omega), if_pos (show 0 ≤ 26 + x ∧ 26 + x < 40 by omega), w1, w2, ev_bvS, ev_bvS]
          exact Or.inl ⟨C1', C2', rfl, rfl, w3, a3, w4, w5, w6⟩
  · obtain ⟨B1, B2, g1, g2, g3⟩ := z_fail (k := 1) h (by decide)
    rw [a1, a2, ev_bdS, ev_bdS, if_neg (by decide), if_neg (by decide), g1, g2, ev_bvS, ev_bdS, if_pos (by decide)]
    exact Or.inr ⟨B1, B2, rfl, rfl, g3⟩
theorem z_nw55 {C1 C2 : ev_C} {x : Int} (h : z_A C1 C2) (hP : z_P C1 C2) (hx0 : 0 ≤ x) (hx : x < 8) : (∃ C1' C2', f_7_takeNewName_8_55 C1 x = some (1, C1') ∧ f_12_fresh C2 (32 + x) = some (1, C2') ∧ z_A C1' C2' ∧ z_N (C1 8 8) (C2 12 17) ∧ z_F1 (ev_u C1 55 x.toNat (C1 8 8)) C1' ∧ z_F2 (ev_u C2 19 (32 + x).toNat (C2 12 17)) C2' ∧ z_M C1 C1') ∨ (∃ C1' C2', f_7_takeNewName_8_55 C1 x = some (0, C1') ∧ f_12_fresh C2 (32 + x) = some (0, C2') ∧ z_X C1' C2') := by
  unfold f_7_takeNewName_8_55 f_12_fresh
  rcases z_name h with ⟨a1, a2, a3⟩ | ⟨a1, a2⟩
  · obtain ⟨v1, v2, v3, b1, b2, b3, d1, d2, d3, b4⟩ := z_hasN hP a3
    have e0 := hP.1.1.1
    have e1 := hP.1.2.1.1
    have e2 := hP.1.2.2.1.1
    rw [a1, a2, ev_bdS, ev_bdS, if_pos (by decide), if_pos (by decide), b4, ev_bdS, ← e0, b1, ev_bdS]
    obtain ⟨B1, B2, g1, g2, g3⟩ := z_fail (k := 3) h (by decide)
    by_cases c1 : 0 ≤ v1
    · rw [if_pos (show 0 ≤ v1 ∨ 0 ≤ v2 ∨ 0 ≤ v3 from Or.inl c1), if_neg (by decide), if_pos c1, g1, g2, ev_bvS, ev_bdS, if_pos (by decide)]
      exact Or.inr ⟨B1, B2, rfl, rfl, g3⟩
    · rw [if_neg c1, ← e1, b2, ev_bdS]
      by_cases c2 : 0 ≤ v2
      · rw [if_pos (show 0 ≤ v1 ∨ 0 ≤ v2 ∨ 0 ≤ v3 from Or.inr (Or.inl c2)), if_neg (by decide), if_pos c2, g1, g2, ev_bvS, ev_bdS, if_pos (by decide)]
        exact Or.inr ⟨B1, B2, rfl, rfl, g3⟩
      · rw [if_neg c2, ← e2, b3, ev_bdS]
        by_cases c3 : 0 ≤ v3
        · rw [if_pos (show 0 ≤ v1 ∨ 0 ≤ v2 ∨ 0 ≤ v3 from Or.inr (Or.inr c3)), if_neg (by decide), if_neg (show ¬ v3 < 0 by omega), g1, g2, ev_bvS, ev_bdS, if_pos (by decide)]
          exact Or.inr ⟨B1, B2, rfl, rfl, g3⟩
        · have hD : z_D (ev_u C1 55 x.toNat (C1 8 8)) (ev_u C2 19 (32 + x).toNat (C2 12 17)) := h.1
          obtain ⟨C1', C2', w1, w2, w3, w4, w5, w6⟩ := z_stp hD
          rw [if_neg (show ¬ (0 ≤ v1 ∨ 0 ≤ v2 ∨ 0 ≤ v3) by omega), if_pos rfl, if_neg (show ¬ 8 ≤ x by omega), if_pos ⟨hx0, hx⟩, if_pos (show v3 < 0 by omega), if_pos (show 0 ≤ 32 + x ∧ 32 + x < 40 by omega), w1, w2, ev_bvS, ev_bvS]
          exact Or.inl ⟨C1', C2', rfl, rfl, w3, a3, w4, w5, w6⟩
  · obtain ⟨B1, B2, g1, g2, g3⟩ := z_fail (k := 1) h (by decide)
    rw [a1, a2, ev_bdS, ev_bdS, if_neg (by decide), if_neg (by decide), g1, g2, ev_bvS, ev_bdS, if_pos (by decide)]
    exact Or.inr ⟨B1, B2, rfl, rfl, g3⟩
