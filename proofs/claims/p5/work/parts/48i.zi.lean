/-! THE TWO READERS ALIKE, 9: lines that tell something new. -/
def z_O (C1 C2 C1' C2' : ev_C) (r : Int) : Prop := (r = 1 ∧ z_A C1' C2' ∧ z_P C1' C2' ∧ z_M C1 C1' ∧ C2' 12 19 = C2 12 19) ∨ (r = 0 ∧ z_X C1' C2')
theorem z_F2_19 {C C' : ev_C} (h : z_F2 C C') : C' 12 19 = C 12 19 := h.2 19 (by decide) (by decide) (by decide) (by decide) (by decide) (by decide)
theorem z_wno {C1 C2 : ev_C} {i : Int} (h : z_A C1 C2) (hi : z_wi C1 = i) (j : Nat) (w : Int) (hj : j < 27) (hw : z_W.getD j 0 = w) (hne : i ≠ j) : f_12_isWord C2 w = some (0, C2) := by
  rw [(z_word h).2 j w hj hw, if_neg (by omega)]
theorem z_wyes {C1 C2 : ev_C} {i : Int} (h : z_A C1 C2) (hi : z_wi C1 = i) (j : Nat) (w : Int) (hj : j < 27) (hw : z_W.getD j 0 = w) (he : i = j) : f_12_isWord C2 w = some (1, C2) := by
  rw [(z_word h).2 j w hj hw, if_pos (by omega)]
theorem z_P.u18 {C1 C2 : ev_C} {v : Int} (h : z_P C1 C2) : z_P C1 (ev_u C2 12 18 v) := h
theorem z_keep {α : Type} (a : α) : ∃ b, a = b := ⟨a, rfl⟩

theorem z_lPart {C1 C2 : ev_C} (h : z_A C1 C2) (hP : z_P C1 C2) (hj : z_wi C1 = 0) : ∃ C1' C2' r, f_7_readPart_8 C1 = some C1' ∧ f_12_line C2 = some (r, C2') ∧ z_O C1 C2 C1' C2' r := by
  obtain ⟨K, hK⟩ := z_keep (f_7_readPart_8 C1)
  obtain ⟨T, hT⟩ := z_keep (f_12_line C2)
  rw [hK, hT]
  unfold f_7_readPart_8 at hK
  unfold f_12_line at hT
  rw [z_wyes h hj 0 1885434484 (by decide) rfl rfl, ev_bdS, if_neg (by decide)] at hT
  unfold f_7_takeOneOf_8 at hK
  have c0 := hP.1.1
  by_cases hlt : C1 13 0 < 6
  · obtain ⟨A1, A2, a1, a2, a3, a4, a5, a6⟩ := z_stp h.1
    have p0 : A1 13 = C1 13 := a4.1 13 (by decide)
    have hPa := hP.mv a4 a5
    have e20 : ev_w ((20 : Int) + C2 35 0) = 20 + C1 13 0 := by rw [ev_w_id (by omega) (by omega)]; omega
    have e6 : ev_w ((6 : Int) + C2 35 0) = 6 + C1 13 0 := by rw [ev_w_id (by omega) (by omega)]; omega
    rw [if_pos hlt, a1, ev_bvS, ev_bdS, if_neg (by decide), p0] at hK
    rw [if_pos (show C2 35 0 ≠ 6 by omega), a2, ev_bvS, e20, e6] at hT
    rcases z_nw53 (x := C1 13 0) a3 hPa c0.2.1 hlt with ⟨B1, B2, b1, b2, b3, b4, b5, b6, b7⟩ | ⟨B1, B2, b1, b2, b3⟩
    · have n20 : (20 + C1 13 0).toNat = 20 + (C1 13 0).toNat := by omega
      rw [n20] at b6
      have hPb : z_P B1 B2 := (hPa.n53 (k := (C1 13 0).toNat) (a := A1 8 8) (b := A2 12 17) (by rw [p0]; omega) (by omega)).mv b5 b6
      have q0 : B1 13 = C1 13 := (b5.1 13 (by decide)).trans ((ev_ut (by decide)).trans p0)
      rw [b1, ev_bdS, if_pos (by decide)] at hK
      rw [b2, ev_bdS, if_neg (by decide)] at hT
      rcases z_numb (lo := 0) (hi := 9) b3 with ⟨v, D1, D2, d0, d1, d2, d3, d4, d5, d6⟩ | ⟨D1, D2, d1, d2, d3, d4⟩
      · have r0 : D1 13 = C1 13 := (d4.1 13 (by decide)).trans q0
        have s18 : D2 12 18 = v := (z_F2_18 d5).trans ev_us
        have n6 : (6 + C1 13 0).toNat = 6 + (C1 13 0).toNat := by omega
        have hPd : z_P D1 D2 := (hPb.u18 (v := v)).mv d4 d5
        have hPx : z_P (ev_u D1 56 (C1 13 0).toNat v) (ev_u D2 35 (6 + (C1 13 0).toNat) v) := (hPd.f56).h (by omega)
        have e13 : ev_u D1 56 (C1 13 0).toNat v 13 0 = C1 13 0 := by show D1 13 0 = _; rw [r0]
        have e35 : ev_u D2 35 (6 + (C1 13 0).toNat) v 35 0 = C1 13 0 := by rw [← hPx.1.1.1]; exact e13
        have w1 : ev_w (C1 13 0 + 1) = C1 13 0 + 1 := ev_w_id (by omega) (by omega)
        rw [d1, ev_bdS, q0, r0, if_pos ⟨c0.2.1, hlt⟩, w1] at hK
        rw [d2, ev_bdS, if_pos (by decide), if_pos (show 0 ≤ 6 + C1 13 0 ∧ 6 + C1 13 0 < 140 by omega), n6, s18, e35, w1] at hT
        refine ⟨_, _, _, hK.symm, hT.symm, Or.inl ⟨rfl, d3, ?_, ?_, (have m := z_F2_19 d5; m).trans ((have m := z_F2_19 b6; m).trans (have m := z_F2_19 a5; m))⟩⟩
        · have := hPx.c0 (by rw [e13]; exact hlt) (by
            rw [e13]
            show z_N (D1 53 (C1 13 0).toNat) (D2 19 (20 + (C1 13 0).toNat))
            rw [d4.1 53 (by decide), b5.1 53 (by decide), d5.1 19 (by decide)]
            show z_N (ev_u A1 53 (C1 13 0).toNat (A1 8 8) 53 (C1 13 0).toNat) (B2 19 (20 + (C1 13 0).toNat))
            rw [b6.1 19 (by decide), ev_us, ev_us]
            exact b4)
          rw [e13] at this
          exact this
        · exact z_M.tr (C' := B1) (by have := a6.1; have := b7.1; omega) d6
      · have r0 : D1 13 = C1 13 := (d4 13 (by decide)).trans q0
        rw [d1, ev_bdS, q0, if_pos ⟨c0.2.1, hlt⟩] at hK
        rw [d2, ev_bdS, if_neg (by decide)] at hT
        exact ⟨_, _, _, hK.symm, hT.symm, Or.inr ⟨rfl, d3⟩⟩
    · rw [b1, ev_bdS, if_neg (by decide)] at hK
      rw [b2, ev_bdS, if_pos rfl] at hT
      exact ⟨_, _, _, hK.symm, hT.symm, Or.inr ⟨rfl, b3⟩⟩
  · obtain ⟨B1, B2, g1, g2, g3⟩ := z_fail (k := 4) h (by decide)
    rw [if_neg hlt, g1, ev_bvS, ev_bdS, if_pos rfl] at hK
    rw [if_neg (show ¬ C2 35 0 ≠ 6 by omega), g2, ev_bdS, if_pos (by decide)] at hT
    exact ⟨_, _, _, hK.symm, hT.symm, Or.inr ⟨rfl, g3⟩⟩
theorem z_lFact {C1 C2 : ev_C} (h : z_A C1 C2) (hP : z_P C1 C2) (hj : z_wi C1 = 1) : ∃ C1' C2' r, f_7_readFact_8 C1 = some C1' ∧ f_12_line C2 = some (r, C2') ∧ z_O C1 C2 C1' C2' r := by
  obtain ⟨K, hK⟩ := z_keep (f_7_readFact_8 C1)
  obtain ⟨T, hT⟩ := z_keep (f_12_line C2)
  rw [hK, hT]
  unfold f_7_readFact_8 at hK
  unfold f_12_line at hT
  rw [z_wno h hj 0 1885434484 (by decide) rfl (by decide), ev_bdS, if_pos rfl, z_wyes h hj 1 1717658484 (by decide) rfl rfl, ev_bdS, if_neg (by decide)] at hT
  unfold f_7_takeOneOf_8 at hK
  have c0 := hP.1.2.1
  by_cases hlt : C1 13 1 < 6
  · obtain ⟨A1, A2, a1, a2, a3, a4, a5, a6⟩ := z_stp h.1
    have p0 : A1 13 = C1 13 := a4.1 13 (by decide)
    have p35 : A2 35 = C2 35 := a5.1 35 (by decide)
    have hPa := hP.mv a4 a5
    have e20 : ev_w ((26 : Int) + C2 35 1) = 26 + C1 13 1 := by rw [ev_w_id (by omega) (by omega)]; omega
    rw [if_pos hlt, a1, ev_bvS, ev_bdS, if_neg (by decide), p0] at hK
    rw [if_pos (show C2 35 1 ≠ 6 by omega), a2, ev_bvS, p35, e20] at hT
    rcases z_nw54 (x := C1 13 1) a3 hPa c0.2.1 hlt with ⟨B1, B2, b1, b2, b3, b4, b5, b6, b7⟩ | ⟨B1, B2, b1, b2, b3⟩
    · have n20 : (26 + C1 13 1).toNat = 26 + (C1 13 1).toNat := by omega
      rw [n20] at b6
      have hPb : z_P B1 B2 := (hPa.n54 (k := (C1 13 1).toNat) (a := A1 8 8) (b := A2 12 17) (by rw [p0]; omega) (by omega)).mv b5 b6
      have q0 : B1 13 = C1 13 := (b5.1 13 (by decide)).trans ((ev_ut (by decide)).trans p0)
      have q35 : B2 35 = C2 35 := (b6.1 35 (by decide)).trans ((ev_ut (by decide)).trans p35)
      have w1 : ev_w (C1 13 1 + 1) = C1 13 1 + 1 := ev_w_id (by omega) (by omega)
      have w2 : ev_w (C2 35 1 + 1) = C1 13 1 + 1 := by rw [← c0.1]; exact w1
      rw [b1, ev_bdS, if_neg (by decide), q0, w1] at hK
      rw [b2, ev_bdS, if_pos (by decide), q35, w2] at hT
      refine ⟨_, _, _, hK.symm, hT.symm, Or.inl ⟨rfl, b3, ?_, ?_, (have m := z_F2_19 b6; m).trans (have m := z_F2_19 a5; m)⟩⟩
      · have := hPb.c1 (by rw [q0]; exact hlt) (by
          rw [q0, b5.1 54 (by decide), b6.1 19 (by decide), ev_us, ev_us]
          exact b4)
        rw [q0] at this
        exact this
      · exact z_M.tr (C' := A1) a6.1 b7
    · rw [b1, ev_bdS, if_pos rfl] at hK
      rw [b2, ev_bdS, if_neg (by decide)] at hT
      exact ⟨_, _, _, hK.symm, hT.symm, Or.inr ⟨rfl, b3⟩⟩
  · obtain ⟨B1, B2, g1, g2, g3⟩ := z_fail (k := 4) h (by decide)
    rw [if_neg hlt, g1, ev_bvS, ev_bdS, if_pos rfl] at hK
    rw [if_neg (show ¬ C2 35 1 ≠ 6 by omega), g2, ev_bdS, if_pos (by decide)] at hT
    exact ⟨_, _, _, hK.symm, hT.symm, Or.inr ⟨rfl, g3⟩⟩
theorem z_lAct {C1 C2 : ev_C} (h : z_A C1 C2) (hP : z_P C1 C2) (hj : z_wi C1 = 4) : ∃ C1' C2' r, f_7_readAct_8 C1 = some C1' ∧ f_12_line C2 = some (r, C2') ∧ z_O C1 C2 C1' C2' r := by
  obtain ⟨K, hK⟩ := z_keep (f_7_readAct_8 C1)
  obtain ⟨T, hT⟩ := z_keep (f_12_line C2)
  rw [hK, hT]
  unfold f_7_readAct_8 at hK
  unfold f_12_line at hT
  rw [z_wno h hj 0 1885434484 (by decide) rfl (by decide), ev_bdS, if_pos rfl, z_wno h hj 1 1717658484 (by decide) rfl (by decide), ev_bdS, if_pos rfl, z_wno h hj 3 7168366 (by decide) rfl (by decide), ev_bdS, if_pos rfl, z_wyes h hj 4 6382452 (by decide) rfl rfl, ev_bdS, if_neg (by decide)] at hT
  unfold f_7_takeOneOf_8 at hK
  have c0 := hP.1.2.2.2.1
  by_cases hlt : C1 13 3 < 6
  · obtain ⟨A1, A2, a1, a2, a3, a4, a5, a6⟩ := z_stp h.1
    have p0 : A1 13 = C1 13 := a4.1 13 (by decide)
    have p35 : A2 35 = C2 35 := a5.1 35 (by decide)
    have hPa := hP.mv a4 a5
    have w1 : ev_w (C1 13 3 + 1) = C1 13 3 + 1 := ev_w_id (by omega) (by omega)
    have w2 : ev_w (C2 35 3 + 1) = C1 13 3 + 1 := by rw [← c0.1]; exact w1
    rw [if_pos hlt, a1, ev_bvS, ev_bdS, if_neg (by decide), p0, w1] at hK
    rw [if_pos (show C2 35 3 ≠ 6 by omega), a2, ev_bvS, p35, w2] at hT
    refine ⟨_, _, _, hK.symm, hT.symm, Or.inl ⟨rfl, a3, ?_, a6, (have m := z_F2_19 a5; m)⟩⟩
    have := hPa.c3 (by rw [p0]; exact hlt)
    rw [p0] at this
    exact this
  · obtain ⟨B1, B2, g1, g2, g3⟩ := z_fail (k := 4) h (by decide)
    rw [if_neg hlt, g1, ev_bvS, ev_bdS, if_pos rfl] at hK
    rw [if_neg (show ¬ C2 35 3 ≠ 6 by omega), g2, ev_bdS, if_pos (by decide)] at hT
    exact ⟨_, _, _, hK.symm, hT.symm, Or.inr ⟨rfl, g3⟩⟩
theorem z_lRest {C1 C2 : ev_C} (h : z_A C1 C2) (hP : z_P C1 C2) (hj : z_wi C1 = 11) : ∃ C1' C2' r, f_7_readRest_8 C1 = some C1' ∧ f_12_line C2 = some (r, C2') ∧ z_O C1 C2 C1' C2' r := by
  obtain ⟨K, hK⟩ := z_keep (f_7_readRest_8 C1)
  obtain ⟨T, hT⟩ := z_keep (f_12_line C2)
  rw [hK, hT]
  unfold f_7_readRest_8 at hK
  unfold f_12_line at hT
  rw [z_wno h hj 0 1885434484 (by decide) rfl (by decide), ev_bdS, if_pos rfl, z_wno h hj 1 1717658484 (by decide) rfl (by decide), ev_bdS, if_pos rfl, z_wno h hj 3 7168366 (by decide) rfl (by decide), ev_bdS, if_pos rfl, z_wno h hj 4 6382452 (by decide) rfl (by decide), ev_bdS, if_pos rfl, z_wyes h hj 11 1919251316 (by decide) rfl rfl, ev_bdS, if_neg (by decide)] at hT
  have c0 := hP.1.2.2.2.2.2
  by_cases hlt : C1 13 5 = 0
  · have hD : z_D (ev_u C1 13 5 1) (ev_u C2 35 5 1) := h.1
    obtain ⟨A1, A2, a1, a2, a3, a4, a5, a6⟩ := z_stp hD
    rw [if_pos hlt, a1, ev_bvS] at hK
    rw [if_pos (show C2 35 5 ≠ 1 by omega), a2, ev_bvS] at hT
    exact ⟨_, _, _, hK.symm, hT.symm, Or.inl ⟨rfl, a3, hP.c5.mv a4 a5, a6, (have m := z_F2_19 a5; m)⟩⟩
  · obtain ⟨B1, B2, g1, g2, g3⟩ := z_fail (k := 3) h (by decide)
    rw [if_neg hlt, g1, ev_bvS] at hK
    rw [if_neg (show ¬ C2 35 5 ≠ 1 by omega), g2, ev_bdS, if_pos (by decide)] at hT
    exact ⟨_, _, _, hK.symm, hT.symm, Or.inr ⟨rfl, g3⟩⟩
theorem z_lMan {C1 C2 : ev_C} (h : z_A C1 C2) (hP : z_P C1 C2) (hj : z_wi C1 = 3) : ∃ C1' C2' r, f_7_readMan_8 C1 = some C1' ∧ f_12_line C2 = some (r, C2') ∧ z_O C1 C2 C1' C2' r := by
  obtain ⟨K, hK⟩ := z_keep (f_7_readMan_8 C1)
  obtain ⟨T, hT⟩ := z_keep (f_12_line C2)
  rw [hK, hT]
  unfold f_7_readMan_8 at hK
  unfold f_12_line at hT
  rw [z_wno h hj 0 1885434484 (by decide) rfl (by decide), ev_bdS, if_pos rfl, z_wno h hj 1 1717658484 (by decide) rfl (by decide), ev_bdS, if_pos rfl, z_wyes h hj 3 7168366 (by decide) rfl rfl, ev_bdS, if_neg (by decide)] at hT
  unfold f_7_takeOneOf_8 at hK
  have c0 := hP.1.2.2.1
  by_cases hlt : C1 13 2 < 8
  · obtain ⟨A1, A2, a1, a2, a3, a4, a5, a6⟩ := z_stp h.1
    have p0 : A1 13 = C1 13 := a4.1 13 (by decide)
    have hPa := hP.mv a4 a5
    have e20 : ev_w ((32 : Int) + C2 35 2) = 32 + C1 13 2 := by rw [ev_w_id (by omega) (by omega)]; omega
    have e18 : ev_w ((18 : Int) + C2 35 2) = 18 + C1 13 2 := by rw [ev_w_id (by omega) (by omega)]; omega
    have e26 : ev_w ((26 : Int) + C2 35 2) = 26 + C1 13 2 := by rw [ev_w_id (by omega) (by omega)]; omega
    rw [if_pos hlt, a1, ev_bvS, ev_bdS, if_neg (by decide), p0] at hK
    rw [if_pos (show C2 35 2 ≠ 8 by omega), a2, ev_bvS, e20, e18, e26] at hT
    rcases z_nw55 (x := C1 13 2) a3 hPa c0.2.1 hlt with ⟨B1, B2, b1, b2, b3, b4, b5, b6, b7⟩ | ⟨B1, B2, b1, b2, b3⟩
    · have n20 : (32 + C1 13 2).toNat = 32 + (C1 13 2).toNat := by omega
      have n18 : (18 + C1 13 2).toNat = 18 + (C1 13 2).toNat := by omega
      have n26 : (26 + C1 13 2).toNat = 26 + (C1 13 2).toNat := by omega
      rw [n20] at b6
      have hPb : z_P B1 B2 := (hPa.n55 (k := (C1 13 2).toNat) (a := A1 8 8) (b := A2 12 17) (by rw [p0]; omega) (by omega)).mv b5 b6
      have q0 : B1 13 = C1 13 := (b5.1 13 (by decide)).trans ((ev_ut (by decide)).trans p0)
      rw [b1, ev_bdS, if_pos (by decide)] at hK
      rw [b2, ev_bdS, if_neg (by decide)] at hT
      rcases z_numb (lo := 0) (hi := 9) b3 with ⟨v, D1, D2, d0, d1, d2, d3, d4, d5, d6⟩ | ⟨D1, D2, d1, d2, d3, d4⟩
      · have r0 : D1 13 = C1 13 := (d4.1 13 (by decide)).trans q0
        have s18 : D2 12 18 = v := (z_F2_18 d5).trans ev_us
        have hPd : z_P D1 D2 := (hPb.u18 (v := v)).mv d4 d5
        have hPx : z_P (ev_u D1 59 (C1 13 2).toNat v) (ev_u D2 35 (18 + (C1 13 2).toNat) v) := (hPd.f59).h (by omega)
        have hAx : z_A (ev_u D1 59 (C1 13 2).toNat v) (ev_u D2 35 (18 + (C1 13 2).toNat) v) := d3
        have h9 : (ev_u D1 59 (C1 13 2).toNat v) 8 9 = 0 := hAx.1.2.1
        have hfine : f_8_isFine (ev_u D1 59 (C1 13 2).toNat v) = some (1, ev_u D1 59 (C1 13 2).toNat v) := by
          unfold f_8_isFine
          rw [if_neg (fun q => q h9)]
        rw [d1, ev_bdS, q0, if_pos ⟨c0.2.1, hlt⟩, hfine, ev_bdS, if_neg (by decide)] at hK
        rw [d2, ev_bdS, if_pos (by decide), if_pos (show 0 ≤ 18 + C1 13 2 ∧ 18 + C1 13 2 < 140 by omega), n18, s18] at hT
        have x13 : ev_u D1 59 (C1 13 2).toNat v 13 = C1 13 := (ev_ut (by decide)).trans r0
        rcases z_numb (lo := 1) (hi := 9) hAx with ⟨w, G1, G2, g0, g1, g2, g3, g4, g5, g6⟩ | ⟨G1, G2, g1, g2, g3, g4⟩
        · have t0 : G1 13 = C1 13 := (g4.1 13 (by decide)).trans x13
          have t18 : G2 12 18 = w := (z_F2_18 g5).trans ev_us
          have hPg : z_P G1 G2 := (hPx.u18 (v := w)).mv g4 g5
          have hPy : z_P (ev_u G1 60 (C1 13 2).toNat w) (ev_u G2 35 (26 + (C1 13 2).toNat) w) := (hPg.f60).h (by omega)
          have e13 : ev_u G1 60 (C1 13 2).toNat w 13 2 = C1 13 2 := by show G1 13 2 = _; rw [t0]
          have e35 : ev_u G2 35 (26 + (C1 13 2).toNat) w 35 2 = C1 13 2 := by rw [← hPy.1.2.2.1.1]; exact e13
          have w1 : ev_w (C1 13 2 + 1) = C1 13 2 + 1 := ev_w_id (by omega) (by omega)
          rw [g1, ev_bdS, x13, if_pos ⟨c0.2.1, hlt⟩, t0, w1] at hK
          rw [g2, ev_bdS, if_pos (by decide), if_pos (show 0 ≤ 26 + C1 13 2 ∧ 26 + C1 13 2 < 140 by omega), n26, t18, e35, w1] at hT
          refine ⟨_, _, _, hK.symm, hT.symm, Or.inl ⟨rfl, g3, ?_, ?_, (have m := z_F2_19 g5; m).trans ((have m := z_F2_19 d5; m).trans ((have m := z_F2_19 b6; m).trans (have m := z_F2_19 a5; m)))⟩⟩
          · have := hPy.c2 (by rw [e13]; exact hlt) (by
              rw [e13]
              show z_N (G1 55 (C1 13 2).toNat) (G2 19 (32 + (C1 13 2).toNat))
              rw [g4.1 55 (by decide), g5.1 19 (by decide)]
              show z_N (D1 55 (C1 13 2).toNat) (D2 19 (32 + (C1 13 2).toNat))
              rw [d4.1 55 (by decide), b5.1 55 (by decide), d5.1 19 (by decide)]
              show z_N (ev_u A1 55 (C1 13 2).toNat (A1 8 8) 55 (C1 13 2).toNat) (B2 19 (32 + (C1 13 2).toNat))
              rw [b6.1 19 (by decide), ev_us, ev_us]
              exact b4)
            rw [e13] at this
            exact this
          · exact z_M.tr (C' := ev_u D1 59 (C1 13 2).toNat v) (by show C1 8 3 ≤ D1 8 3; have := a6.1; have := b7.1; have := d6.1; omega) g6
        · have t0 : G1 13 = C1 13 := (g4 13 (by decide)).trans x13
          rw [g1, ev_bdS, x13, if_pos ⟨c0.2.1, hlt⟩] at hK
          rw [g2, ev_bdS, if_neg (by decide)] at hT
          exact ⟨_, _, _, hK.symm, hT.symm, Or.inr ⟨rfl, g3⟩⟩
      · have h9 : (ev_u D1 59 (C1 13 2).toNat (-1)) 8 9 ≠ 0 := d3.2.1
        have hfine : f_8_isFine (ev_u D1 59 (C1 13 2).toNat (-1)) = some (0, ev_u D1 59 (C1 13 2).toNat (-1)) := by
          unfold f_8_isFine
          rw [if_pos h9]
        rw [d1, ev_bdS, q0, if_pos ⟨c0.2.1, hlt⟩, hfine, ev_bdS, if_pos rfl] at hK
        rw [d2, ev_bdS, if_neg (by decide)] at hT
        exact ⟨_, _, _, hK.symm, hT.symm, Or.inr ⟨rfl, d3⟩⟩
    · rw [b1, ev_bdS, if_neg (by decide)] at hK
      rw [b2, ev_bdS, if_pos rfl] at hT
      exact ⟨_, _, _, hK.symm, hT.symm, Or.inr ⟨rfl, b3⟩⟩
  · obtain ⟨B1, B2, g1, g2, g3⟩ := z_fail (k := 4) h (by decide)
    rw [if_neg hlt, g1, ev_bvS, ev_bdS, if_pos rfl] at hK
    rw [if_neg (show ¬ C2 35 2 ≠ 8 by omega), g2, ev_bdS, if_pos (by decide)] at hT
    exact ⟨_, _, _, hK.symm, hT.symm, Or.inr ⟨rfl, g3⟩⟩
