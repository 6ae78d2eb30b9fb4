/-! THE TWO READERS ALIKE, 14: play() of both. -/
def z_B (C1 C2 : ev_C) : Prop := (∀ k : Nat, k < 940 → C1 15 k = C2 49 k ∧ -2147483648 ≤ C1 15 k ∧ C1 15 k ≤ 2147483647) ∧ C1 10 1 = C2 12 2 ∧ (0 ≤ C1 10 1 ∧ C1 10 1 ≤ 940) ∧ ∀ j : Nat, j < 27 → C1 16 j = z_V.getD j 0 ∧ C2 50 j = z_W.getD j 0
theorem z_A.al {C1 C2 C1' : ev_C} (h : z_A C1 C2) (h8 : C1' 8 = C1 8) (h10 : C1' 10 = C1 10) (h15 : C1' 15 = C1 15) (h16 : C1' 16 = C1 16) : z_A C1' C2 := by
  unfold z_A z_D z_T z_K z_E at *
  rw [h8, h10, h15, h16]
  exact h
theorem z_E.al2 {C1 C2 C2' : ev_C} (h : z_E C1 C2) (h12 : C2' 12 = C2 12) (h49 : C2' 49 = C2 49) (h50 : C2' 50 = C2 50) : z_E C1 C2' := by
  unfold z_E at *
  rw [h12, h49, h50]
  exact h
theorem z_copy {C : ev_C} (h : 0 ≤ C 13 5 ∧ C 13 5 ≤ 1) : ∃ C', f_6_copyFrom_13 C = some C' ∧ (∀ t : Nat, t ≠ 6 → (t < 67 ∨ 80 < t) → C' t = C t) ∧ (∀ k : Nat, k < 6 → C' 6 k = C 13 k) ∧ (∀ k : Nat, k < 6 → C' 67 k = C 53 k) ∧ (∀ k : Nat, k < 6 → C' 68 k = C 54 k) ∧ (∀ k : Nat, k < 8 → C' 69 k = C 55 k) ∧ (∀ k : Nat, k < 12 → C' 78 k = C 64 k) ∧ (∀ k : Nat, k < 12 → C' 79 k = C 65 k) ∧ (∀ k : Nat, k < 12 → C' 80 k = C 66 k) := by
  unfold f_6_copyFrom_13
  rw [if_pos h]
  refine ⟨_, rfl, fun t h1 h2 => ?_, fun k hk => ?_, fun k hk => ?_, fun k hk => ?_, fun k hk => ?_, fun k hk => ?_, fun k hk => ?_, fun k hk => ?_⟩
  · rw [ev_cpt (by omega), ev_cpt (by omega), ev_cpt (by omega), ev_cpt (by omega), ev_cpt (by omega), ev_cpt (by omega), ev_cpt (by omega), ev_cpt (by omega), ev_cpt (by omega), ev_cpt (by omega), ev_cpt (by omega), ev_cpt (by omega), ev_cpt (by omega), ev_cpt (by omega), ev_ut h1, ev_ut h1, ev_ut h1, ev_ut h1, ev_ut h1, ev_ut h1]
  · rcases (show k = 0 ∨ k = 1 ∨ k = 2 ∨ k = 3 ∨ k = 4 ∨ k = 5 by omega) with rfl | rfl | rfl | rfl | rfl | rfl <;> rfl
  · rw [ev_cpt (by decide), ev_cpt (by decide), ev_cpt (by decide), ev_cpt (by decide), ev_cpt (by decide), ev_cpt (by decide), ev_cpt (by decide), ev_cpt (by decide), ev_cpt (by decide), ev_cpt (by decide), ev_cpt (by decide), ev_cpt (by decide), ev_cpt (by decide)]; exact if_pos ⟨rfl, hk⟩
  · rw [ev_cpt (by decide), ev_cpt (by decide), ev_cpt (by decide), ev_cpt (by decide), ev_cpt (by decide), ev_cpt (by decide), ev_cpt (by decide), ev_cpt (by decide), ev_cpt (by decide), ev_cpt (by decide), ev_cpt (by decide), ev_cpt (by decide)]; exact if_pos ⟨rfl, hk⟩
  · rw [ev_cpt (by decide), ev_cpt (by decide), ev_cpt (by decide), ev_cpt (by decide), ev_cpt (by decide), ev_cpt (by decide), ev_cpt (by decide), ev_cpt (by decide), ev_cpt (by decide), ev_cpt (by decide), ev_cpt (by decide)]; exact if_pos ⟨rfl, hk⟩
  · rw [ev_cpt (by decide), ev_cpt (by decide)]; exact if_pos ⟨rfl, hk⟩
  · rw [ev_cpt (by decide)]; exact if_pos ⟨rfl, hk⟩
  · exact if_pos ⟨rfl, hk⟩
theorem z_play {C1 C2 : ev_C} (hB : z_B C1 C2) : ∃ (r : Int) (C1' C2' : ev_C), f_11_play C1 = some (r, C1') ∧ f_12_play C2 = some (r, C2') ∧ C1' 11 13 = C2' 12 15 ∧ ((fr sC C1 C1' ∧ C2' 34 = C2 34 ∧ ∀ k : Nat, k < 20 → C2' 19 k = C2 19 k) ∨ z_PL 6 67 34 0 19 0 C1' C2') := by
  obtain ⟨b1, b2, b3, b4⟩ := hB
  obtain ⟨K, hK⟩ := z_keep (f_11_play C1)
  obtain ⟨T, hT⟩ := z_keep (f_12_play C2)
  rw [hK, hT]
  unfold f_11_play f_8_open at hK
  unfold f_12_play f_12_taken at hT
  rw [ev_bvS] at hT
  obtain ⟨X1, hX1⟩ : ∃ X1, X1 = ev_u (ev_u (ev_u (ev_u C1 8 2 900) 8 3 0) 8 9 0) 8 10 0 := ⟨_, rfl⟩
  rw [← hX1] at hK
  obtain ⟨Y0, hY0⟩ : ∃ Y0, Y0 = ev_u (ev_u (ev_u (ev_u (ev_u (ev_u (ev_u C2 12 0 0) 12 3 (ev_u C2 12 0 0 12 2)) 12 2 0) 12 4 0) 12 5 900) 12 15 0) 12 19 0 := ⟨_, rfl⟩
  rw [← hY0] at hT
  obtain ⟨Y1, y1, y2, y3, -⟩ := z_L24 1000 0 Y0 (by decide) (by decide)
  have y1 : f_12_play_L24 1000 Y0 0 = (ev_bv (f_12_go Y1) fun C3 => f_12_play_L48 1000 C3 140) := y1
  rw [y1] at hT
  have hE0 : z_E X1 Y0 := by
    rw [hX1, hY0]
    exact ⟨b1, b2, b3, rfl, (by decide : (0 : Int) ≤ 900 ∧ (900 : Int) ≤ 940), b4⟩
  have hE : z_E X1 Y1 := hE0.al2 (y2 12 (by decide)) (y2 49 (by decide)) (y2 50 (by decide))
  have hD : z_D X1 Y1 := by
    refine ⟨hE, by rw [hX1]; rfl, by rw [y2 12 (by decide), hY0]; rfl, by rw [y2 12 (by decide), hX1, hY0]; rfl, by rw [hX1]; exact Int.le_refl 0, ?_⟩
    rw [hX1]
    exact b3.1
  obtain ⟨A1, A2, a1, a2, a3, a4, a5, a6⟩ := z_stp hD
  rw [a1, ev_bvS, ev_bvS] at hK
  rw [a2, ev_bvS] at hT
  unfold f_7_read_8 at hK
  obtain ⟨B1, c1, ⟨c8, c10, c15, c16, c11⟩, c13, c57, c58, c61, c62, c63, c65, c66⟩ := z_clear A1
  have hA : z_A B1 A2 := a3.al c8 c10 c15 c16
  have e35 : ∀ j : Nat, j < 140 → A2 35 j = 0 := fun j hj => by
    rw [a5.1 35 (by decide)]
    exact y3 j (by omega) hj
  have hP : z_P B1 A2 := by
    refine ⟨⟨?_, ?_, ?_, ?_, ?_, ?_⟩, ⟨fun k hk => ?_, fun k hk => ?_, fun k hk => ?_⟩, ⟨fun k hk => ?_, fun k hk => ?_, fun k hk => ?_, fun k hk => ?_, fun k hk => ?_⟩, fun k hk => ?_, fun k hk => ?_, fun k hk => ?_, fun k hk hk2 => ?_⟩
    · rw [c13 0 (by decide), e35 0 (by decide)]; decide
    · rw [c13 1 (by decide), e35 1 (by decide)]; decide
    · rw [c13 2 (by decide), e35 2 (by decide)]; decide
    · rw [c13 3 (by decide), e35 3 (by decide)]; decide
    · rw [c13 4 (by decide), e35 4 (by decide)]; decide
    · rw [c13 5 (by decide), e35 5 (by decide)]; decide
    · rw [c13 0 (by decide)] at hk; omega
    · rw [c13 1 (by decide)] at hk; omega
    · rw [c13 2 (by decide)] at hk; omega
    · rw [c57 k hk, e35 _ (by omega)]
    · rw [c58 k hk, e35 _ (by omega)]
    · rw [c61 k hk, e35 _ (by omega)]
    · rw [c62 k hk, e35 _ (by omega)]
    · rw [c63 k hk, e35 _ (by omega)]; exact ⟨rfl, Int.le_refl 0⟩
    · rw [c13 4 (by decide)] at hk; omega
    · rw [c65 k hk, e35 _ (by omega)]
    · rw [c66 k hk, e35 _ (by omega)]
    · exact c65 k hk2
  have h19 : A2 12 19 = ((0 : Nat) : Int) := by
    rw [z_F2_19 a5, y2 12 (by decide), hY0]
    rfl
  rw [c1, ev_bvS] at hK
  have hpos := hA.1.2.2.2.2.1
  have hfB : fr sC C1 B1 := ((show fr sC C1 X1 by rw [hX1]; exact fr_u (by decide) (fr_u (by decide) (fr_u (by decide) (fr_u (by decide) fr_rf)))).tr (fr_8_step _ _ a1)).tr (fr_6_clear_13 _ _ c1)
  have hfY : ∀ t : Nat, t ≠ 12 → t ≠ 35 → A2 t = C2 t := fun t h12 h35 => by
    rw [fr_12_go _ _ a2 t (by simp [sA, h12]), y2 t h35, hY0, ev_ut h12, ev_ut h12, ev_ut h12, ev_ut h12, ev_ut h12, ev_ut h12, ev_ut h12]
  rcases z_main 472 1000 1000 B1 A2 0 140 (by decide) (by decide) (by decide) (by decide) hA hP h19 (Or.inr (Or.inr (by omega))) with ⟨G1, G2, k, g1, g2, g3, g4, g5, g6, g7⟩ | ⟨G1, G2, x, g1, g2, g3, g7⟩
  · have g1 : f_7_read_8_L11 1000 B1 0 0 = some ((k : Int), G1) := g1
    obtain ⟨H2, h1, h2, hs, -⟩ := z_L93 1000 0 G2 (by decide) (by decide)
    have h1 : f_12_play_L93 1000 G2 0 = f_12_play_L131 1000 H2 0 := h1
    obtain ⟨J2, j1, j2, jn, -⟩ := z_L131 1000 0 H2 (by decide) (by decide)
    have j1 : f_12_play_L131 1000 H2 0 = some (H2 12 19, ev_u J2 12 22 0) := j1
    have h9 : G1 8 9 = 0 := g4.1.2.1
    rw [g1, ev_bdS, if_pos h9] at hK
    rw [g2, h1, j1, h2 12 (by decide), g6] at hT
    have hc5 := g5.1.2.2.2.2.2.2
    obtain ⟨M1, m1, m2, mo, n0, n1, n2, q0, q1, q2⟩ := z_copy (C := ev_u (ev_u G1 10 1 0) 11 13 (G1 8 9)) hc5
    rw [m1, ev_bvS, z_begin, ev_bvS] at hK
    unfold f_9_clear f_3_forget at hK
    rw [ev_bvS, ev_bvS] at hK
    obtain ⟨M2, hM2⟩ : ∃ M2, M2 = ev_u (ev_u M1 9 0 0) 9 1 0 := ⟨_, rfl⟩
    rw [← hM2] at hK
    have w : ∀ t : Nat, t ≠ 9 → M2 t = M1 t := fun t h => by rw [hM2, ev_ut h, ev_ut h]
    refine ⟨_, _, _, hK.symm, hT.symm, ?_, Or.inr ?_⟩
    · rw [w 11 (by decide), m2 11 (by decide) (by decide)]
      show G1 8 9 = ev_u J2 12 22 0 12 15
      show G1 8 9 = J2 12 15
      rw [h9, j2 12 (by decide), h2 12 (by decide)]
      exact g4.1.2.2.1.symm
    · have e34 : ∀ j : Nat, j < 140 → ev_u J2 12 22 0 34 j = G2 35 j := fun j hj => by
        rw [ev_ut (by decide), j2 34 (by decide), hs j (by omega) (by omega), if_pos hj]
      have e19 : ∀ j : Nat, j < 20 → ev_u J2 12 22 0 19 j = G2 19 (20 + j) := fun j hj => by
        rw [ev_ut (by decide), jn j (by omega) hj, h2 19 (by decide)]
      obtain ⟨⟨c0, c1, c2, c3, c4, c5⟩, ⟨p0, p1, p2⟩, -, s64, s65, s66, -⟩ := g5
      have k0 : M2 6 0 = G1 13 0 := (congrFun (w 6 (by decide)) 0).trans (mo 0 (by decide))
      have k1 : M2 6 1 = G1 13 1 := (congrFun (w 6 (by decide)) 1).trans (mo 1 (by decide))
      have k2 : M2 6 2 = G1 13 2 := (congrFun (w 6 (by decide)) 2).trans (mo 2 (by decide))
      have k3 : M2 6 3 = G1 13 3 := (congrFun (w 6 (by decide)) 3).trans (mo 3 (by decide))
      have k4 : M2 6 4 = G1 13 4 := (congrFun (w 6 (by decide)) 4).trans (mo 4 (by decide))
      have k5 : M2 6 5 = G1 13 5 := (congrFun (w 6 (by decide)) 5).trans (mo 5 (by decide))
      refine ⟨⟨?_, ?_, ?_, ?_, ?_, ?_⟩, ⟨fun i hi => ?_, fun i hi => ?_, fun i hi => ?_⟩, fun i hi => ?_, fun i hi => ?_, fun i hi => ?_⟩
      · rw [k0, e34 0 (by decide)]; exact c0
      · rw [k1, e34 1 (by decide)]; exact c1
      · rw [k2, e34 2 (by decide)]; exact c2
      · rw [k3, e34 3 (by decide)]; exact c3
      · rw [k4, e34 4 (by decide)]; exact c4
      · rw [k5, e34 5 (by decide)]; exact c5
      · rw [k0] at hi
        have hi6 : i < 6 := by omega
        have a : M2 67 i = G1 53 i := (congrFun (w _ (by decide)) i).trans (n0 i hi6)
        have b : ev_u J2 12 22 0 19 (0 + i) = G2 19 (20 + i) := by rw [e19 _ (by omega), show 20 + (0 + i) = 20 + i by omega]
        rw [a, b]
        exact p0 i hi
      · rw [k1] at hi
        have hi6 : i < 6 := by omega
        have a : M2 (67 + 1) i = G1 54 i := (congrFun (w _ (by decide)) i).trans (n1 i hi6)
        have b : ev_u J2 12 22 0 19 (0 + 6 + i) = G2 19 (26 + i) := by rw [e19 _ (by omega), show 20 + (0 + 6 + i) = 26 + i by omega]
        rw [a, b]
        exact p1 i hi
      · rw [k2] at hi
        have hi8 : i < 8 := by omega
        have a : M2 (67 + 2) i = G1 55 i := (congrFun (w _ (by decide)) i).trans (n2 i hi8)
        have b : ev_u J2 12 22 0 19 (0 + 12 + i) = G2 19 (32 + i) := by rw [e19 _ (by omega), show 20 + (0 + 12 + i) = 32 + i by omega]
        rw [a, b]
        exact p2 i hi
      · rw [k4] at hi
        have h12 : i < 12 := by omega
        have a : M2 (67 + 11) i = G1 64 i := (congrFun (w _ (by decide)) i).trans (q0 i h12)
        have b : ev_u J2 12 22 0 34 (0 + 104 + i) = G2 35 (104 + i) := by rw [e34 _ (by omega), show 0 + 104 + i = 104 + i by omega]
        rw [a, b]
        exact s64 i hi
      · rw [k4] at hi
        have h12 : i < 12 := by omega
        have a : M2 (67 + 12) i = G1 65 i := (congrFun (w _ (by decide)) i).trans (q1 i h12)
        have b : ev_u J2 12 22 0 34 (0 + 116 + i) = G2 35 (116 + i) := by rw [e34 _ (by omega), show 0 + 116 + i = 116 + i by omega]
        rw [a, b]
        exact s65 i h12
      · rw [k4] at hi
        have h12 : i < 12 := by omega
        have a : M2 (67 + 13) i = G1 66 i := (congrFun (w _ (by decide)) i).trans (q2 i h12)
        have b : ev_u J2 12 22 0 34 (0 + 128 + i) = G2 35 (128 + i) := by rw [e34 _ (by omega), show 0 + 128 + i = 128 + i by omega]
        rw [a, b]
        exact s66 i h12
  · have g1 : f_7_read_8_L11 1000 B1 0 0 = some (x, G1) := g1
    rw [g1, ev_bdS, if_neg g3.2.1, g3.2.2.1] at hK
    rw [g2] at hT
    refine ⟨_, _, _, hK.symm, hT.symm, g3.1, Or.inl ⟨fr_u (by decide) (fr_u (by decide) (hfB.tr (fr_7_read_8_L11 _ _ _ _ _ _ g1))), ?_, fun k hk => ?_⟩⟩
    · rw [g7.1 34 (by decide) (by decide) (by decide), hfY 34 (by decide) (by decide)]
    · rw [g7.2 k hk, hfY 19 (by decide) (by decide)]
