/-! BOOKS ALIKE: one line. -/
def y_nk (t j b n : Nat) (C1 C2 : ev_C) : Prop := (C1 6 j = C2 34 j ∧ 0 ≤ C1 6 j ∧ C1 6 j ≤ (n : Int)) ∧ ∀ k : Nat, (k : Int) < C1 6 j → z_N (C1 t k) (C2 19 (b + k))
def y_nm (C1 C2 : ev_C) : Prop := y_nk 67 0 0 6 C1 C2 ∧ y_nk 68 1 6 6 C1 C2 ∧ y_nk 69 2 12 8 C1 C2
theorem y_nm.al {C1 C2 C1' C2' : ev_C} (h : y_nm C1 C2) (e6 : C1' 6 = C1 6) (e67 : C1' 67 = C1 67) (e68 : C1' 68 = C1 68) (e69 : C1' 69 = C1 69) (e34 : C2' 34 = C2 34) (e19 : C2' 19 = C2 19) : y_nm C1' C2' := by
  unfold y_nm y_nk at h ⊢
  rw [e6, e67, e68, e69, e34, e19]
  exact h
/-- at a token, with n lines read -/
def x_A (n : Nat) (C1 C2 : ev_C) : Prop := z_A C1 C2 ∧ y_nm C1 C2 ∧ C1 0 0 = (n : Int) ∧ C2 12 41 = (n : Int) ∧ n ≤ 40
theorem x_A.mv {n : Nat} {C1 C2 X C1' C2' : ev_C} (h : x_A n C1 C2) (hA : z_A C1' C2') (f1 : z_F1 C1 C1') (f2 : z_F2 X C2') (e34 : X 34 = C2 34) (e19 : X 19 = C2 19) (e41 : X 12 41 = C2 12 41) : x_A n C1' C2' := by
  obtain ⟨a, b, c, d, e⟩ := h
  refine ⟨hA, b.al (f1.1 _ (by decide)) (f1.1 _ (by decide)) (f1.1 _ (by decide)) (f1.1 _ (by decide)) ((f2.1 _ (by decide)).trans e34) ((f2.1 _ (by decide)).trans e19), ?_, ?_, e⟩
  · rw [f1.1 0 (by decide)]; exact c
  · rw [f2.2 41 (by decide) (by decide) (by decide) (by decide) (by decide) (by decide), e41]; exact d
theorem z_A.u36 {C1 C2 : ev_C} {j : Nat} {v : Int} (h : z_A C1 C2) : z_A C1 (ev_u C2 36 j v) := h.yf ⟨fun t a b c => ev_ut b, fun j hj => congrFun (ev_ut (by decide)) j⟩
theorem x_ix67 {C : ev_C} {c a : Int} (hc : c ≤ 6) : ∀ (N k : Nat), 6 - k < N → (k : Int) ≤ 6 → (∀ j : Nat, j < k → ¬ C 67 j = a) → ∃ i, f_8_indexOf_67_L3 N C c a k = some (i, C) ∧ z_fst (fun k => C 67 k = a) c i
  | 0, k, h, _, _ => by omega
  | N + 1, k, h, hk, hj => by
    unfold f_8_indexOf_67_L3
    by_cases h1 : c ≤ k
    · rw [if_pos h1]
      exact ⟨-1, rfl, Or.inr ⟨rfl, fun j hjc => hj j (by omega)⟩⟩
    · rw [if_neg h1, if_neg (by omega), if_pos (by omega)]
      by_cases h2 : C 67 (Int.toNat (k : Int)) = a
      · rw [if_neg (fun q => q (z_cmp.mpr h2))]
        exact ⟨k, rfl, Or.inl ⟨k, rfl, by omega, h2, hj⟩⟩
      · rw [if_pos (fun q => h2 (z_cmp.mp q)), ev_w_id (by omega) (by omega), show (k : Int) + 1 = ((k + 1 : Nat) : Int) by omega]
        refine x_ix67 hc N (k + 1) (by omega) (by omega) (fun j hj' => ?_)
        by_cases e : j = k
        · subst e; exact h2
        · exact hj j (by omega)
theorem x_ff67 {C1 C2 : ev_C} (hP : y_nk 67 0 0 6 C1 C2) (hN : z_N (C1 8 8) (C2 12 17)) : ∃ i : Int, f_8_indexOf_67 C1 (C1 6 0) (C1 8 8) = some (i, C1) ∧ f_12_find C2 0 (C2 34 0) = some (i, C2) ∧ (0 ≤ i ∨ i = -1) := by
  obtain ⟨⟨p0, p1, p2⟩, p3⟩ := hP
  obtain ⟨i, a1, a2⟩ := x_ix67 (C := C1) (c := C1 6 0) (a := C1 8 8) (by omega) 1000 0 (by omega) (by omega) (fun j h => by omega)
  obtain ⟨i', b1, b2⟩ := z_find C2 (f := 0) (c := C1 6 0) (by decide) (by omega) (by omega)
  have e : i = i' := z_fst_eq a2 b2 (fun k hk => by
    have e1 : ((0 : Int) + k).toNat = 0 + k := by omega
    rw [e1]
    exact z_N_eq (p3 k hk) hN)
  subst e
  refine ⟨i, a1, by rw [← p0]; exact b1, ?_⟩
  rcases a2 with ⟨k, e1, e2, -⟩ | ⟨e1, -⟩
  · exact Or.inl (by omega)
  · exact Or.inr e1
theorem x_nh67 {C1 C2 : ev_C} (h : z_A C1 C2) (hP : y_nk 67 0 0 6 C1 C2) : (∃ i : Int, 0 ≤ i ∧ f_8_nameHere_67 C1 (C1 6 0) = some (i, C1) ∧ f_12_looksAt C2 0 (C2 34 0) = some (1, ev_u C2 12 18 i)) ∨ (∃ C1' C2', f_8_nameHere_67 C1 (C1 6 0) = some (-1, C1') ∧ f_12_looksAt C2 0 (C2 34 0) = some (0, C2') ∧ z_X C1' C2' ∧ ∀ t, t ≠ 8 → C1' t = C1 t) := by
  unfold f_8_nameHere_67 f_12_looksAt
  rcases z_name h with ⟨a1, a2, a3⟩ | ⟨a1, a2⟩
  · rw [a1, a2, ev_bdS, ev_bdS, if_pos (by decide), if_pos (by decide)]
    obtain ⟨i, b1, b2, b3⟩ := x_ff67 hP a3
    rw [b1, b2, ev_bdS, ev_bdS]
    rcases b3 with hk | rfl
    · rw [if_pos (show i ≠ -1 by omega), if_pos hk]
      exact Or.inl ⟨i, hk, rfl, rfl⟩
    · obtain ⟨C1', C2', g1, g2, g3⟩ := z_fail (k := 3) (h.u18 (v := -1)) (by decide)
      have gF := z_failF g1
      rw [if_neg (by decide), if_neg (by decide), g1, g2, ev_bvS, ev_bdS, if_pos rfl]
      exact Or.inr ⟨C1', C2', rfl, rfl, g3, gF⟩
  · obtain ⟨C1', C2', g1, g2, g3⟩ := z_fail (k := 1) h (by decide)
    have gF := z_failF g1
    rw [a1, a2, ev_bdS, ev_bdS, if_neg (by decide), if_neg (by decide), g1, g2, ev_bvS, ev_bdS, if_pos (by decide)]
    exact Or.inr ⟨C1', C2', rfl, rfl, g3, gF⟩
theorem x_ix69 {C : ev_C} {c a : Int} (hc : c ≤ 8) : ∀ (N k : Nat), 8 - k < N → (k : Int) ≤ 8 → (∀ j : Nat, j < k → ¬ C 69 j = a) → ∃ i, f_8_indexOf_69_L3 N C c a k = some (i, C) ∧ z_fst (fun k => C 69 k = a) c i
  | 0, k, h, _, _ => by omega
  | N + 1, k, h, hk, hj => by
    unfold f_8_indexOf_69_L3
    by_cases h1 : c ≤ k
    · rw [if_pos h1]
      exact ⟨-1, rfl, Or.inr ⟨rfl, fun j hjc => hj j (by omega)⟩⟩
    · rw [if_neg h1, if_neg (by omega), if_pos (by omega)]
      by_cases h2 : C 69 (Int.toNat (k : Int)) = a
      · rw [if_neg (fun q => q (z_cmp.mpr h2))]
        exact ⟨k, rfl, Or.inl ⟨k, rfl, by omega, h2, hj⟩⟩
      · rw [if_pos (fun q => h2 (z_cmp.mp q)), ev_w_id (by omega) (by omega), show (k : Int) + 1 = ((k + 1 : Nat) : Int) by omega]
        refine x_ix69 hc N (k + 1) (by omega) (by omega) (fun j hj' => ?_)
        by_cases e : j = k
        · subst e; exact h2
        · exact hj j (by omega)
theorem x_ff69 {C1 C2 : ev_C} (hP : y_nk 69 2 12 8 C1 C2) (hN : z_N (C1 8 8) (C2 12 17)) : ∃ i : Int, f_8_indexOf_69 C1 (C1 6 2) (C1 8 8) = some (i, C1) ∧ f_12_find C2 12 (C2 34 2) = some (i, C2) ∧ (0 ≤ i ∨ i = -1) := by
  obtain ⟨⟨p0, p1, p2⟩, p3⟩ := hP
  obtain ⟨i, a1, a2⟩ := x_ix69 (C := C1) (c := C1 6 2) (a := C1 8 8) (by omega) 1000 0 (by omega) (by omega) (fun j h => by omega)
  obtain ⟨i', b1, b2⟩ := z_find C2 (f := 12) (c := C1 6 2) (by decide) (by omega) (by omega)
  have e : i = i' := z_fst_eq a2 b2 (fun k hk => by
    have e1 : ((12 : Int) + k).toNat = 12 + k := by omega
    rw [e1]
    exact z_N_eq (p3 k hk) hN)
  subst e
  refine ⟨i, a1, by rw [← p0]; exact b1, ?_⟩
  rcases a2 with ⟨k, e1, e2, -⟩ | ⟨e1, -⟩
  · exact Or.inl (by omega)
  · exact Or.inr e1
theorem x_nh69 {C1 C2 : ev_C} (h : z_A C1 C2) (hP : y_nk 69 2 12 8 C1 C2) : (∃ i : Int, 0 ≤ i ∧ f_8_nameHere_69 C1 (C1 6 2) = some (i, C1) ∧ f_12_looksAt C2 12 (C2 34 2) = some (1, ev_u C2 12 18 i)) ∨ (∃ C1' C2', f_8_nameHere_69 C1 (C1 6 2) = some (-1, C1') ∧ f_12_looksAt C2 12 (C2 34 2) = some (0, C2') ∧ z_X C1' C2' ∧ ∀ t, t ≠ 8 → C1' t = C1 t) := by
  unfold f_8_nameHere_69 f_12_looksAt
  rcases z_name h with ⟨a1, a2, a3⟩ | ⟨a1, a2⟩
  · rw [a1, a2, ev_bdS, ev_bdS, if_pos (by decide), if_pos (by decide)]
    obtain ⟨i, b1, b2, b3⟩ := x_ff69 hP a3
    rw [b1, b2, ev_bdS, ev_bdS]
    rcases b3 with hk | rfl
    · rw [if_pos (show i ≠ -1 by omega), if_pos hk]
      exact Or.inl ⟨i, hk, rfl, rfl⟩
    · obtain ⟨C1', C2', g1, g2, g3⟩ := z_fail (k := 3) (h.u18 (v := -1)) (by decide)
      have gF := z_failF g1
      rw [if_neg (by decide), if_neg (by decide), g1, g2, ev_bvS, ev_bdS, if_pos rfl]
      exact Or.inr ⟨C1', C2', rfl, rfl, g3, gF⟩
  · obtain ⟨C1', C2', g1, g2, g3⟩ := z_fail (k := 1) h (by decide)
    have gF := z_failF g1
    rw [a1, a2, ev_bdS, ev_bdS, if_neg (by decide), if_neg (by decide), g1, g2, ev_bvS, ev_bdS, if_pos (by decide)]
    exact Or.inr ⟨C1', C2', rfl, rfl, g3, gF⟩
theorem x_ix68 {C : ev_C} {c a : Int} (hc : c ≤ 6) : ∀ (N k : Nat), 6 - k < N → (k : Int) ≤ 6 → (∀ j : Nat, j < k → ¬ C 68 j = a) → ∃ i, f_8_indexOf_68_L3 N C c a k = some (i, C) ∧ z_fst (fun k => C 68 k = a) c i
  | 0, k, h, _, _ => by omega
  | N + 1, k, h, hk, hj => by
    unfold f_8_indexOf_68_L3
    by_cases h1 : c ≤ k
    · rw [if_pos h1]
      exact ⟨-1, rfl, Or.inr ⟨rfl, fun j hjc => hj j (by omega)⟩⟩
    · rw [if_neg h1, if_neg (by omega), if_pos (by omega)]
      by_cases h2 : C 68 (Int.toNat (k : Int)) = a
      · rw [if_neg (fun q => q (z_cmp.mpr h2))]
        exact ⟨k, rfl, Or.inl ⟨k, rfl, by omega, h2, hj⟩⟩
      · rw [if_pos (fun q => h2 (z_cmp.mp q)), ev_w_id (by omega) (by omega), show (k : Int) + 1 = ((k + 1 : Nat) : Int) by omega]
        refine x_ix68 hc N (k + 1) (by omega) (by omega) (fun j hj' => ?_)
        by_cases e : j = k
        · subst e; exact h2
        · exact hj j (by omega)
theorem x_ff68 {C1 C2 : ev_C} (hP : y_nk 68 1 6 6 C1 C2) (hN : z_N (C1 8 8) (C2 12 17)) : ∃ i : Int, f_8_indexOf_68 C1 (C1 6 1) (C1 8 8) = some (i, C1) ∧ f_12_find C2 6 (C2 34 1) = some (i, C2) ∧ (0 ≤ i ∨ i = -1) := by
  obtain ⟨⟨p0, p1, p2⟩, p3⟩ := hP
  obtain ⟨i, a1, a2⟩ := x_ix68 (C := C1) (c := C1 6 1) (a := C1 8 8) (by omega) 1000 0 (by omega) (by omega) (fun j h => by omega)
  obtain ⟨i', b1, b2⟩ := z_find C2 (f := 6) (c := C1 6 1) (by decide) (by omega) (by omega)
  have e : i = i' := z_fst_eq a2 b2 (fun k hk => by
    have e1 : ((6 : Int) + k).toNat = 6 + k := by omega
    rw [e1]
    exact z_N_eq (p3 k hk) hN)
  subst e
  refine ⟨i, a1, by rw [← p0]; exact b1, ?_⟩
  rcases a2 with ⟨k, e1, e2, -⟩ | ⟨e1, -⟩
  · exact Or.inl (by omega)
  · exact Or.inr e1
theorem x_nh68 {C1 C2 : ev_C} (h : z_A C1 C2) (hP : y_nk 68 1 6 6 C1 C2) : (∃ i : Int, 0 ≤ i ∧ f_8_nameHere_68 C1 (C1 6 1) = some (i, C1) ∧ f_12_looksAt C2 6 (C2 34 1) = some (1, ev_u C2 12 18 i)) ∨ (∃ C1' C2', f_8_nameHere_68 C1 (C1 6 1) = some (-1, C1') ∧ f_12_looksAt C2 6 (C2 34 1) = some (0, C2') ∧ z_X C1' C2' ∧ ∀ t, t ≠ 8 → C1' t = C1 t) := by
  unfold f_8_nameHere_68 f_12_looksAt
  rcases z_name h with ⟨a1, a2, a3⟩ | ⟨a1, a2⟩
  · rw [a1, a2, ev_bdS, ev_bdS, if_pos (by decide), if_pos (by decide)]
    obtain ⟨i, b1, b2, b3⟩ := x_ff68 hP a3
    rw [b1, b2, ev_bdS, ev_bdS]
    rcases b3 with hk | rfl
    · rw [if_pos (show i ≠ -1 by omega), if_pos hk]
      exact Or.inl ⟨i, hk, rfl, rfl⟩
    · obtain ⟨C1', C2', g1, g2, g3⟩ := z_fail (k := 3) (h.u18 (v := -1)) (by decide)
      have gF := z_failF g1
      rw [if_neg (by decide), if_neg (by decide), g1, g2, ev_bvS, ev_bdS, if_pos rfl]
      exact Or.inr ⟨C1', C2', rfl, rfl, g3, gF⟩
  · obtain ⟨C1', C2', g1, g2, g3⟩ := z_fail (k := 1) h (by decide)
    have gF := z_failF g1
    rw [a1, a2, ev_bdS, ev_bdS, if_neg (by decide), if_neg (by decide), g1, g2, ev_bvS, ev_bdS, if_pos (by decide)]
    exact Or.inr ⟨C1', C2', rfl, rfl, g3, gF⟩
theorem x_thing67 {n : Nat} {C1 C2 : ev_C} {y2 : Int} (h : x_A n C1 C2) (hn : n < 40) : ∃ (C1' C2' : ev_C) (r x : Int), f_8_takeName_67 C1 (C1 6 0) = some (x, C1') ∧ C1' 0 0 = (n : Int) ∧ f_12_bookLine_J215 C2 (3 * (n : Int)) y2 0 0 = some (r, C2') ∧ ((r = 1 ∧ n < 40 ∧ x_A n C1' C2') ∨ (r = 0 ∧ z_X C1' C2')) := by
  obtain ⟨hA, hN, h0, h41, h40⟩ := id h
  have e2 : ev_w (3 * (n : Int) + (2 : Int)) = 3 * (n : Int) + 2 := ev_w_id (by omega) (by omega)
  unfold f_8_takeName_67 f_12_bookLine_J215
  rw [if_pos (show 0 ≤ (0 : Int) ∧ (0 : Int) < 367 by decide), show Int.toNat 0 = 0 from rfl, e2]
  rcases x_nh67 hA hN.1 with ⟨i, i0, a1, a2⟩ | ⟨C1', C2', a1, a2, a3, a4⟩
  · obtain ⟨D, E, s1, s2, s3, s4, s5, -⟩ := z_stp ((hA.u18 (v := i)).u36 (j := Int.toNat (3 * (n : Int) + 2)) (v := (ev_u C2 12 18 i) 12 18)).1
    rw [a1, a2, ev_bdS, ev_bdS, if_neg (show ¬ i = -1 by omega), if_pos (show (1 : Int) ≠ 0 by decide), if_pos (show 0 ≤ 3 * (n : Int) + 2 ∧ 3 * (n : Int) + 2 < 135 by omega), s1, s2, ev_bvS, ev_bvS]
    exact ⟨D, E, 1, i, rfl, by rw [s4.1 0 (by decide)]; exact h0, rfl, Or.inl ⟨rfl, hn, h.mv s3 s4 s5 ((ev_ut (by decide)).trans (ev_ut (by decide))) ((ev_ut (by decide)).trans (ev_ut (by decide))) ((congrFun (ev_ut (by decide)) 41).trans (ev_un (by decide)))⟩⟩
  · rw [a1, a2, ev_bdS, ev_bdS, if_pos rfl, if_neg (show ¬ (0 : Int) ≠ 0 by decide)]
    exact ⟨C1', C2', 0, -1, rfl, by rw [a4 0 (by decide)]; exact h0, rfl, Or.inr ⟨rfl, a3⟩⟩
theorem x_thing68 {n : Nat} {C1 C2 : ev_C} {y2 : Int} (h : x_A n C1 C2) (hn : n < 40) : ∃ (C1' C2' : ev_C) (r x : Int), f_8_takeName_68 C1 (C1 6 1) = some (x, C1') ∧ C1' 0 0 = (n : Int) ∧ f_12_bookLine_J215 C2 (3 * (n : Int)) y2 1 6 = some (r, C2') ∧ ((r = 1 ∧ n < 40 ∧ x_A n C1' C2') ∨ (r = 0 ∧ z_X C1' C2')) := by
  obtain ⟨hA, hN, h0, h41, h40⟩ := id h
  have e2 : ev_w (3 * (n : Int) + (2 : Int)) = 3 * (n : Int) + 2 := ev_w_id (by omega) (by omega)
  unfold f_8_takeName_68 f_12_bookLine_J215
  rw [if_pos (show 0 ≤ (1 : Int) ∧ (1 : Int) < 367 by decide), show Int.toNat 1 = 1 from rfl, e2]
  rcases x_nh68 hA hN.2.1 with ⟨i, i0, a1, a2⟩ | ⟨C1', C2', a1, a2, a3, a4⟩
  · obtain ⟨D, E, s1, s2, s3, s4, s5, -⟩ := z_stp ((hA.u18 (v := i)).u36 (j := Int.toNat (3 * (n : Int) + 2)) (v := (ev_u C2 12 18 i) 12 18)).1
    rw [a1, a2, ev_bdS, ev_bdS, if_neg (show ¬ i = -1 by omega), if_pos (show (1 : Int) ≠ 0 by decide), if_pos (show 0 ≤ 3 * (n : Int) + 2 ∧ 3 * (n : Int) + 2 < 135 by omega), s1, s2, ev_bvS, ev_bvS]
    exact ⟨D, E, 1, i, rfl, by rw [s4.1 0 (by decide)]; exact h0, rfl, Or.inl ⟨rfl, hn, h.mv s3 s4 s5 ((ev_ut (by decide)).trans (ev_ut (by decide))) ((ev_ut (by decide)).trans (ev_ut (by decide))) ((congrFun (ev_ut (by decide)) 41).trans (ev_un (by decide)))⟩⟩
  · rw [a1, a2, ev_bdS, ev_bdS, if_pos rfl, if_neg (show ¬ (0 : Int) ≠ 0 by decide)]
    exact ⟨C1', C2', 0, -1, rfl, by rw [a4 0 (by decide)]; exact h0, rfl, Or.inr ⟨rfl, a3⟩⟩
/-- curtain and best -/
theorem x_J27 {n : Nat} {C1 C2 : ev_C} {w : Int} (h : x_A n C1 C2) (hw : z_wi C1 = w) (hw2 : w = 14 ∨ w = 15) : ∃ (C1' C2' : ev_C) (r : Int), f_0_readLine_8_6_J54 C1 w (-1) = some C1' ∧ f_12_bookLine_J27 C2 (3 * (n : Int)) = some (r, C2') ∧ ((r = 1 ∧ n < 40 ∧ x_A n C1' C2') ∨ (r = 0 ∧ z_X C1' C2')) := by
  obtain ⟨hA, hN, h0, h41, h40⟩ := id h
  unfold f_0_readLine_8_6_J54 f_12_bookLine_J27
  by_cases hn : n < 40
  · have key : ∀ v : Int, ∃ (C1' C2' : ev_C), f_0_readLine_8_6_J68 C1 w (-1) = some C1' ∧ f_12_go (ev_u C2 36 (Int.toNat (3 * (n : Int))) v) = some C2' ∧ x_A n C1' C2' := fun v => by
      obtain ⟨D, E, s1, s2, s3, s4, s5, -⟩ := z_stp (hA.u36 (j := Int.toNat (3 * (n : Int))) (v := v)).1
      have d0 : D 0 0 = (n : Int) := by rw [s4.1 0 (by decide)]; exact h0
      refine ⟨D, E, ?_, s2, h.mv s3 s4 s5 (ev_ut (by decide)) (ev_ut (by decide)) (congrFun (ev_ut (by decide)) 41)⟩
      unfold f_0_readLine_8_6_J68
      rw [y_fine.1 hA.1.2.1, ev_bdS, if_pos (show (1 : Int) ≠ 0 by decide), s1, ev_bvS, if_pos (show 0 ≤ D 0 0 ∧ D 0 0 < 40 by omega), if_pos (show 0 ≤ D 0 0 ∧ D 0 0 < 40 by omega), if_pos (show w ≠ 12 by omega), if_pos (show w ≠ 13 by omega)]
    rw [if_pos (show C1 0 0 < 40 by omega), if_pos (show C2 12 41 ≠ 40 by omega), (z_word hA).2 14 27995157133617518 (by decide) rfl, ev_bdS]
    have k1 : 0 ≤ 3 * (n : Int) ∧ 3 * (n : Int) < 135 := by omega
    by_cases e : z_wi C1 = ((14 : Nat) : Int)
    · obtain ⟨D, E, q1, q2, q3⟩ := key 2
      rw [if_pos e, if_neg (show ¬ (1 : Int) = 0 by decide), if_pos k1, q2, ev_bvS]
      exact ⟨D, E, 1, q1, rfl, Or.inl ⟨rfl, hn, q3⟩⟩
    · obtain ⟨D, E, q1, q2, q3⟩ := key 3
      rw [if_neg e, if_pos (rfl : (0 : Int) = 0), if_pos k1, q2, ev_bvS]
      exact ⟨D, E, 1, q1, rfl, Or.inl ⟨rfl, hn, q3⟩⟩
  · obtain ⟨D, E, f1, f2, f3⟩ := z_fail (k := 4) hA (by decide)
    rw [if_neg (show ¬ C1 0 0 < 40 by omega), if_neg (show ¬ C2 12 41 ≠ 40 by omega), f1, ev_bvS, y_b01 f2]
    unfold f_0_readLine_8_6_J68
    rw [y_fine.2 f3.2.1, ev_bdS, if_neg (show ¬ (0 : Int) ≠ 0 by decide)]
    exact ⟨D, E, 0, rfl, rfl, Or.inr ⟨rfl, f3⟩⟩
/-- a whisper's names -/
theorem x_whisper {n : Nat} {C1 C2 : ev_C} (h : x_A n C1 C2) (hn : n < 40) : ∃ (C1' C2' : ev_C) (r : Int), (ev_bd (f_8_takeName_69 C1 (C1 6 2)) fun r15 C15 => if 0 ≤ (C1 0 0) ∧ (C1 0 0) < 40 then (ev_bd (f_8_isFine C15) fun r17 C17 => if r17 = 0 then some C17 else (ev_bd (f_8_takeName_68 C17 (C17 6 1)) fun r19 C19 => if 0 ≤ (C17 0 0) ∧ (C17 0 0) < 40 then some C19 else none)) else none) = some C1' ∧ f_12_bookLine_J104 C2 (3 * (n : Int)) 1 = some (r, C2') ∧ ((r = 1 ∧ n < 40 ∧ x_A n C1' C2') ∨ (r = 0 ∧ z_X C1' C2')) := by
  obtain ⟨hA, hN, h0, h41, h40⟩ := id h
  have e1 : ev_w (3 * (n : Int) + (1 : Int)) = 3 * (n : Int) + 1 := ev_w_id (by omega) (by omega)
  have k0 : 0 ≤ C1 0 0 ∧ C1 0 0 < 40 := by omega
  rcases x_nh69 hA hN.2.2 with ⟨i, i0, a1, a2⟩ | ⟨C1', C2', a1, a2, a3, a4⟩
  · obtain ⟨D, E, s1, s2, s3, s4, s5, -⟩ := z_stp (((hA.u18 (v := i)).u36 (j := Int.toNat (3 * (n : Int))) (v := 1)).u36 (j := Int.toNat (3 * (n : Int) + 1)) (v := (ev_u C2 12 18 i) 12 18)).1
    have hx : x_A n D E := h.mv s3 s4 s5 ((ev_ut (by decide)).trans ((ev_ut (by decide)).trans (ev_ut (by decide)))) ((ev_ut (by decide)).trans ((ev_ut (by decide)).trans (ev_ut (by decide)))) ((congrFun (ev_ut (by decide)) 41).trans ((congrFun (ev_ut (by decide)) 41).trans (ev_un (by decide))))
    obtain ⟨F, G, r, x, t1, t2, t3, t4⟩ := x_thing68 (y2 := 1) hx hn
    have d0 : 0 ≤ D 0 0 ∧ D 0 0 < 40 := by have := hx.2.2.1; omega
    refine ⟨F, G, r, ?_, ?_, t4⟩
    · unfold f_8_takeName_69
      rw [a1, ev_bdS, if_neg (show ¬ i = -1 by omega), s1, ev_bvS, ev_bdS, if_pos k0, y_fine.1 hx.1.1.2.1, ev_bdS, if_neg (show ¬ (1 : Int) = 0 by decide), t1, ev_bdS, if_pos d0]
    · have k41 : ev_u C2 12 18 i 12 41 ≠ 40 := by rw [ev_un (by decide)]; omega
      unfold f_12_bookLine_J104
      rw [a2, ev_bdS, if_pos (show (1 : Int) ≠ 0 by decide), if_pos k41, if_neg (show ¬ (1 : Int) = 0 by decide)]
      unfold f_12_bookLine_J150
      rw [if_pos (show 0 ≤ 3 * (n : Int) ∧ 3 * (n : Int) < 135 by omega), e1, if_pos (show 0 ≤ 3 * (n : Int) + 1 ∧ 3 * (n : Int) + 1 < 135 by omega), s2, ev_bvS, if_pos (show (1 : Int) ≠ 0 by decide)]
      unfold f_12_bookLine_J191
      rw [if_neg (show ¬ (1 : Int) = 0 by decide)]
      unfold f_12_bookLine_J202
      rw [if_neg (show ¬ (1 : Int) = 0 by decide)]
      exact t3
  · refine ⟨C1', C2', 0, ?_, ?_, Or.inr ⟨rfl, a3⟩⟩
    · unfold f_8_takeName_69
      rw [a1, ev_bdS, if_pos (rfl : (-1 : Int) = -1), ev_bdS, if_pos k0, y_fine.2 a3.2.1, ev_bdS, if_pos (rfl : (0 : Int) = 0)]
    · unfold f_12_bookLine_J104
      rw [a2, ev_bdS, if_neg (show ¬ (0 : Int) ≠ 0 by decide)]
/-- a man as a part -/
theorem x_as {n : Nat} {C1 C2 : ev_C} (h : x_A n C1 C2) : ∃ (C1' C2' : ev_C) (r : Int), (ev_bd (f_8_nameHere_69 C1 (C1 6 2)) fun r27 C27 => f_0_readLine_8_6_J54 C27 12 r27) = some C1' ∧ f_12_bookLine_J104 C2 (3 * (n : Int)) 0 = some (r, C2') ∧ ((r = 1 ∧ n < 40 ∧ x_A n C1' C2') ∨ (r = 0 ∧ z_X C1' C2')) := by
  obtain ⟨hA, hN, h0, h41, h40⟩ := id h
  have e1 : n < 40 → ev_w (3 * (n : Int) + (1 : Int)) = 3 * (n : Int) + 1 := fun hn => ev_w_id (by omega) (by omega)
  rcases x_nh69 hA hN.2.2 with ⟨i, i0, a1, a2⟩ | ⟨C1', C2', a1, a2, a3, a4⟩
  · by_cases hn : n < 40
    · obtain ⟨D, E, s1, s2, s3, s4, s5, -⟩ := z_stp (((hA.u18 (v := i)).u36 (j := Int.toNat (3 * (n : Int))) (v := 0)).u36 (j := Int.toNat (3 * (n : Int) + 1)) (v := (ev_u C2 12 18 i) 12 18)).1
      have hx : x_A n D E := h.mv s3 s4 s5 ((ev_ut (by decide)).trans ((ev_ut (by decide)).trans (ev_ut (by decide)))) ((ev_ut (by decide)).trans ((ev_ut (by decide)).trans (ev_ut (by decide)))) ((congrFun (ev_ut (by decide)) 41).trans ((congrFun (ev_ut (by decide)) 41).trans (ev_un (by decide))))
      have d0 : 0 ≤ D 0 0 ∧ D 0 0 < 40 := by have := hx.2.2.1; omega
      have k41 : ev_u C2 12 18 i 12 41 ≠ 40 := by rw [ev_un (by decide)]; omega
      have hr : ∀ Z, (ev_bv (f_8_takeWord D 12) fun C21 => ev_bd (f_8_isFine C21) fun r22 C22 => if r22 = 0 then some C22 else (ev_bd (f_8_takeName_67 C22 (C22 6 0)) fun r24 C24 => if 0 ≤ (C22 0 0) ∧ (C22 0 0) < 40 then some C24 else none)) = some Z → (ev_bd (f_8_nameHere_69 C1 (C1 6 2)) fun r27 C27 => f_0_readLine_8_6_J54 C27 12 r27) = some Z := fun Z hZ => by
        rw [a1, ev_bdS]
        unfold f_0_readLine_8_6_J54
        rw [if_pos (show C1 0 0 < 40 by omega)]
        unfold f_0_readLine_8_6_J68
        rw [y_fine.1 hA.1.2.1, ev_bdS, if_pos (show (1 : Int) ≠ 0 by decide), s1, ev_bvS, if_pos d0, if_pos d0, if_neg (show ¬ (12 : Int) ≠ 12 by decide)]
        exact hZ
      have hw := (z_word hx.1).2 12 24947 (by decide) rfl
      have hb : ∀ Z, (ev_bd (f_12_isWord E 24947) fun r32 C32 => if r32 ≠ 0 then (ev_bv (f_12_go C32) fun C34 => f_12_bookLine_J191 C34 (3 * (n : Int)) 0) else (ev_bd (f_12_bad C32 1) fun r35 C35 => if 0 ≤ r35 ∧ r35 ≤ 1 then some (r35, C35) else none)) = some Z → f_12_bookLine_J104 C2 (3 * (n : Int)) 0 = some Z := fun Z hZ => by
        unfold f_12_bookLine_J104
        rw [a2, ev_bdS, if_pos (show (1 : Int) ≠ 0 by decide), if_pos k41, if_pos (rfl : (0 : Int) = 0)]
        unfold f_12_bookLine_J150
        rw [if_pos (show 0 ≤ 3 * (n : Int) ∧ 3 * (n : Int) < 135 by omega), e1 hn, if_pos (show 0 ≤ 3 * (n : Int) + 1 ∧ 3 * (n : Int) + 1 < 135 by omega), s2, ev_bvS, if_neg (show ¬ (0 : Int) ≠ 0 by decide)]
        exact hZ
      by_cases e : z_wi D = 12
      · obtain ⟨D2, E2, u1, u2, u3, u4, u5, -⟩ := z_stp hx.1.1
        have hx2 : x_A n D2 E2 := hx.mv u3 u4 u5 rfl rfl rfl
        have d2 : 0 ≤ D2 0 0 ∧ D2 0 0 < 40 := by have := hx2.2.2.1; omega
        obtain ⟨F, G, r, x, t1, t2, t3, t4⟩ := x_thing67 (y2 := 0) hx2 hn
        refine ⟨F, G, r, hr _ ?_, hb _ ?_, t4⟩
        · unfold f_8_takeWord
          rw [y_iaw (x := 12) (by decide), ev_bdS, if_pos e, if_neg (show ¬ (1 : Int) = 0 by decide), u1, ev_bvS, ev_bvS, y_fine.1 hx2.1.1.2.1, ev_bdS, if_neg (show ¬ (1 : Int) = 0 by decide), t1, ev_bdS, if_pos d2]
        · rw [hw, ev_bdS, if_pos (show z_wi D = ((12 : Nat) : Int) by omega), if_pos (show (1 : Int) ≠ 0 by decide), u2, ev_bvS]
          unfold f_12_bookLine_J191
          rw [if_pos (rfl : (0 : Int) = 0)]
          unfold f_12_bookLine_J202
          rw [if_pos (rfl : (0 : Int) = 0)]
          exact t3
      · obtain ⟨F, G, f1, f2, f3⟩ := z_fail (k := 1) hx.1 (by decide)
        refine ⟨F, G, 0, hr _ ?_, hb _ ?_, Or.inr ⟨rfl, f3⟩⟩
        · unfold f_8_takeWord
          rw [y_iaw (x := 12) (by decide), ev_bdS, if_neg e, if_pos (rfl : (0 : Int) = 0), f1, ev_bvS, ev_bvS, y_fine.2 f3.2.1, ev_bdS, if_pos (rfl : (0 : Int) = 0)]
        · rw [hw, ev_bdS, if_neg (show ¬ z_wi D = ((12 : Nat) : Int) by omega), if_neg (show ¬ (0 : Int) ≠ 0 by decide)]
          exact y_b01 f2
    · obtain ⟨F, G, f1, f2, f3⟩ := z_fail (k := 4) (hA.u18 (v := i)) (by decide)
      refine ⟨F, G, 0, ?_, ?_, Or.inr ⟨rfl, f3⟩⟩
      · rw [a1, ev_bdS]
        unfold f_0_readLine_8_6_J54
        rw [if_neg (show ¬ C1 0 0 < 40 by omega), f1, ev_bvS]
        unfold f_0_readLine_8_6_J68
        rw [y_fine.2 f3.2.1, ev_bdS, if_neg (show ¬ (0 : Int) ≠ 0 by decide)]
      · have k41 : ¬ ev_u C2 12 18 i 12 41 ≠ 40 := by rw [ev_un (by decide)]; omega
        unfold f_12_bookLine_J104
        rw [a2, ev_bdS, if_pos (show (1 : Int) ≠ 0 by decide), if_neg k41]
        exact y_b01 f2
  · refine ⟨C1', C2', 0, ?_, ?_, Or.inr ⟨rfl, a3⟩⟩
    · rw [a1, ev_bdS]
      unfold f_0_readLine_8_6_J54
      have hj : f_0_readLine_8_6_J68 C1' 12 (-1) = some C1' := by
        unfold f_0_readLine_8_6_J68
        rw [y_fine.2 a3.2.1, ev_bdS, if_neg (show ¬ (0 : Int) ≠ 0 by decide)]
      by_cases hn : C1' 0 0 < 40
      · rw [if_pos hn]
        exact hj
      · rw [if_neg hn]
        unfold f_8_fail
        rw [if_pos a3.2.1, ev_bvS]
        exact hj
    · unfold f_12_bookLine_J104
      rw [a2, ev_bdS, if_neg (show ¬ (0 : Int) ≠ 0 by decide)]
theorem x_wn {C : ev_C} (h : f_8_isAtName C = some (1, C)) : z_wi C = -1 := by
  unfold f_8_isAtName at h
  unfold z_wi
  by_cases h1 : C 8 4 = 1
  · rw [if_neg (fun q => q h1)] at h
    by_cases h2 : C 8 7 = -1
    · rw [if_pos h1]
      exact h2
    · rw [if_pos h2] at h
      exact absurd (congrArg Prod.fst (Option.some.inj h)) (show ¬ (0 : Int) = 1 by decide)
  · exact if_neg h1
theorem x_cb {C : ev_C} {v w : Int} (h : f_8_isAtName C = some (v, C)) : f_0_canBegin_8 C w = some (if v ≠ 0 ∨ w = 13 ∨ w = 14 ∨ w = 15 then 1 else 0, C) := by
  unfold f_0_canBegin_8
  rw [h, ev_bdS]
  by_cases h0 : v ≠ 0
  · rw [if_pos h0, if_pos (Or.inl h0)]
  · rw [if_neg h0]
    by_cases h1 : w = 13
    · rw [if_pos h1, if_pos (Or.inr (Or.inl h1))]
    · rw [if_neg h1]
      by_cases h2 : w = 14
      · rw [if_pos h2, if_pos (Or.inr (Or.inr (Or.inl h2)))]
      · rw [if_neg h2]
        by_cases h3 : w = 15
        · rw [if_neg (fun q => q h3), if_pos (Or.inr (Or.inr (Or.inr h3)))]
        · rw [if_pos h3, if_neg (by omega)]
/-- a line of a book -/
theorem x_line {n : Nat} {C1 C2 : ev_C} (h : x_A n C1 C2) : ∃ (C1' C2' : ev_C) (r : Int), f_0_readLine_8_6 C1 = some C1' ∧ f_12_bookLine C2 = some (r, C2') ∧ ((r = 1 ∧ n < 40 ∧ x_A n C1' C2') ∨ (r = 0 ∧ z_X C1' C2')) := by
  obtain ⟨hA, hN, h0, h41, h40⟩ := id h
  have ey : ev_w ((3 : Int) * C2 12 41) = 3 * (n : Int) := by rw [h41]; exact ev_w_id (by omega) (by omega)
  have w14 := (z_word hA).2 14 27995157133617518 (by decide) rfl
  have w15 := (z_word hA).2 15 1650815860 (by decide) rfl
  have w13 := (z_word hA).2 13 33610324346168690 (by decide) rfl
  have hw := (z_word hA).1
  rcases z_name hA with ⟨a1, a2, a3⟩ | ⟨a1, a2⟩
  · have hz := x_wn a1
    obtain ⟨F, G, r, t1, t2, t3⟩ := x_as h
    refine ⟨F, G, r, ?_, ?_, t3⟩
    · unfold f_0_readLine_8_6
      rw [a1, ev_bdS, if_neg (show ¬ (1 : Int) = 0 by decide)]
      unfold f_0_readLine_8_6_J16
      rw [x_cb a1, ev_bdS, if_pos (show (1 : Int) ≠ 0 ∨ (12 : Int) = 13 ∨ (12 : Int) = 14 ∨ (12 : Int) = 15 by decide), if_pos (show (1 : Int) ≠ 0 by decide), if_neg (show ¬ (12 : Int) ≠ 12 by decide)]
      exact t1
    · unfold f_12_bookLine
      rw [w14, ev_bdS, if_neg (show ¬ z_wi C1 = ((14 : Nat) : Int) by omega), if_neg (show ¬ (0 : Int) ≠ 0 by decide), w15, ev_bdS, if_neg (show ¬ z_wi C1 = ((15 : Nat) : Int) by omega), if_pos (rfl : (0 : Int) = 0), w13, ev_bdS, if_neg (show ¬ z_wi C1 = ((13 : Nat) : Int) by omega), if_pos (rfl : (0 : Int) = 0), ey]
      unfold f_12_bookLine_J96
      rw [if_pos (rfl : (0 : Int) = 0)]
      exact t2
  · have hr : f_0_readLine_8_6 C1 = f_0_readLine_8_6_J16 C1 (z_wi C1) := by
      unfold f_0_readLine_8_6
      rw [a1, ev_bdS, if_pos (rfl : (0 : Int) = 0), hw, ev_bdS]
    by_cases e1 : z_wi C1 = 14 ∨ z_wi C1 = 15
    · obtain ⟨F, G, r, t1, t2, t3⟩ := x_J27 h rfl e1
      refine ⟨F, G, r, ?_, ?_, t3⟩
      · rw [hr]
        unfold f_0_readLine_8_6_J16
        rw [x_cb a1, ev_bdS, if_pos (show (0 : Int) ≠ 0 ∨ z_wi C1 = 13 ∨ z_wi C1 = 14 ∨ z_wi C1 = 15 by omega), if_pos (show (1 : Int) ≠ 0 by decide), if_pos (show z_wi C1 ≠ 12 by omega)]
        exact t1
      · unfold f_12_bookLine
        rw [w14, ev_bdS]
        by_cases e2 : z_wi C1 = 14
        · rw [if_pos (show z_wi C1 = ((14 : Nat) : Int) by omega), if_pos (show (1 : Int) ≠ 0 by decide), ey]
          exact t2
        · rw [if_neg (show ¬ z_wi C1 = ((14 : Nat) : Int) by omega), if_neg (show ¬ (0 : Int) ≠ 0 by decide), w15, ev_bdS, if_pos (show z_wi C1 = ((15 : Nat) : Int) by omega), if_neg (show ¬ (1 : Int) = 0 by decide), ey]
          exact t2
    · have hb0 : ∀ Z, (if z_wi C1 = ((13 : Nat) : Int) then (if C2 12 41 ≠ 40 then f_12_bookLine_J96 C2 (3 * (n : Int)) 1 else (ev_bd (f_12_bad C2 4) fun r41 C41 => if 0 ≤ r41 ∧ r41 ≤ 1 then some (r41, C41) else none)) else f_12_bookLine_J96 C2 (3 * (n : Int)) 0) = some Z → f_12_bookLine C2 = some Z := fun Z hZ => by
        unfold f_12_bookLine
        rw [w14, ev_bdS, if_neg (show ¬ z_wi C1 = ((14 : Nat) : Int) by omega), if_neg (show ¬ (0 : Int) ≠ 0 by decide), w15, ev_bdS, if_neg (show ¬ z_wi C1 = ((15 : Nat) : Int) by omega), if_pos (rfl : (0 : Int) = 0), w13, ev_bdS, ey]
        by_cases e3 : z_wi C1 = ((13 : Nat) : Int)
        · rw [if_pos e3] at hZ ⊢
          rw [if_neg (show ¬ (1 : Int) = 0 by decide)]
          exact hZ
        · rw [if_neg e3] at hZ ⊢
          rw [if_pos (rfl : (0 : Int) = 0)]
          exact hZ
      by_cases e3 : z_wi C1 = 13
      · have hc : f_0_readLine_8_6 C1 = f_0_readLine_8_6_J54 C1 13 (-1) := by
          rw [hr]
          unfold f_0_readLine_8_6_J16
          rw [x_cb a1, ev_bdS, if_pos (show (0 : Int) ≠ 0 ∨ z_wi C1 = 13 ∨ z_wi C1 = 14 ∨ z_wi C1 = 15 by omega), if_pos (show (1 : Int) ≠ 0 by decide), if_pos (show z_wi C1 ≠ 12 by omega), e3]
        by_cases hn : n < 40
        · obtain ⟨D, E, u1, u2, u3, u4, u5, -⟩ := z_stp hA.1
          have hx : x_A n D E := h.mv u3 u4 u5 rfl rfl rfl
          have d0 : 0 ≤ D 0 0 ∧ D 0 0 < 40 := by have := hx.2.2.1; omega
          obtain ⟨F, G, r, t1, t2, t3⟩ := x_whisper hx hn
          refine ⟨F, G, r, ?_, hb0 _ ?_, t3⟩
          · rw [hc]
            unfold f_0_readLine_8_6_J54
            rw [if_pos (show C1 0 0 < 40 by omega)]
            unfold f_0_readLine_8_6_J68
            rw [y_fine.1 hA.1.2.1, ev_bdS, if_pos (show (1 : Int) ≠ 0 by decide), u1, ev_bvS, if_pos d0, if_pos d0, if_pos (show (13 : Int) ≠ 12 by decide), if_neg (show ¬ (13 : Int) ≠ 13 by decide)]
            exact t1
          · rw [if_pos (show z_wi C1 = ((13 : Nat) : Int) by omega), if_pos (show C2 12 41 ≠ 40 by omega)]
            unfold f_12_bookLine_J96
            rw [if_neg (show ¬ (1 : Int) = 0 by decide), u2, ev_bvS]
            exact t2
        · obtain ⟨F, G, f1, f2, f3⟩ := z_fail (k := 4) hA (by decide)
          refine ⟨F, G, 0, ?_, hb0 _ ?_, Or.inr ⟨rfl, f3⟩⟩
          · rw [hc]
            unfold f_0_readLine_8_6_J54
            rw [if_neg (show ¬ C1 0 0 < 40 by omega), f1, ev_bvS]
            unfold f_0_readLine_8_6_J68
            rw [y_fine.2 f3.2.1, ev_bdS, if_neg (show ¬ (0 : Int) ≠ 0 by decide)]
          · rw [if_pos (show z_wi C1 = ((13 : Nat) : Int) by omega), if_neg (show ¬ C2 12 41 ≠ 40 by omega)]
            exact y_b01 f2
      · obtain ⟨F, G, f1, f2, f3⟩ := z_fail (k := 1) hA (by decide)
        refine ⟨F, G, 0, ?_, hb0 _ ?_, Or.inr ⟨rfl, f3⟩⟩
        · rw [hr]
          unfold f_0_readLine_8_6_J16
          rw [x_cb a1, ev_bdS, if_neg (show ¬ ((0 : Int) ≠ 0 ∨ z_wi C1 = 13 ∨ z_wi C1 = 14 ∨ z_wi C1 = 15) by omega), if_neg (show ¬ (0 : Int) ≠ 0 by decide), f1, ev_bvS]
        · rw [if_neg (show ¬ z_wi C1 = ((13 : Nat) : Int) by omega)]
          unfold f_12_bookLine_J96
          rw [if_pos (rfl : (0 : Int) = 0)]
          unfold f_12_bookLine_J104 f_12_looksAt
          rw [a2, ev_bdS, if_neg (show ¬ (0 : Int) ≠ 0 by decide), y_b01 f2, ev_bdS, if_neg (show ¬ (0 : Int) ≠ 0 by decide)]
