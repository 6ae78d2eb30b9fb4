/-! THE TWO READERS ALIKE, 10: lines of pairs, and what a scene shows. -/
theorem z_F1.o {C C' : ev_C} {t j : Nat} {v : Int} (h : z_F1 C C') (ht : t ≠ 8) : z_F1 (ev_u C t j v) (ev_u C' t j v) := by
  refine ⟨fun t' ht' => funext (fun j' => ?_), fun i a b c d e f => ?_⟩
  · unfold ev_u
    rw [h.1 t' ht']
  · rw [ev_un (fun q => ht q.1.symm), ev_un (fun q => ht q.1.symm)]
    exact h.2 i a b c d e f
theorem z_lineP {C1 C2 C2' : ev_C} {i r : Int} (h : z_A C1 C2) (hj : z_wi C1 = i) (hi : i ≠ 0 ∧ i ≠ 1 ∧ i ≠ 3 ∧ i ≠ 4 ∧ i ≠ 11 ∧ i ≠ 5 ∧ i ≠ 6) (hp : f_12_pairs C2 = some (r, C2')) (hr : r = 0 ∨ r = 1) : f_12_line C2 = some (r, C2') := by
  unfold f_12_line
  rw [z_wno h hj 0 1885434484 (by decide) rfl (by omega), ev_bdS, if_pos rfl, z_wno h hj 1 1717658484 (by decide) rfl (by omega), ev_bdS, if_pos rfl, z_wno h hj 3 7168366 (by decide) rfl (by omega), ev_bdS, if_pos rfl, z_wno h hj 4 6382452 (by decide) rfl (by omega), ev_bdS, if_pos rfl, z_wno h hj 11 1919251316 (by decide) rfl (by omega), ev_bdS, if_pos rfl, z_wno h hj 5 495588830821 (by decide) rfl (by omega), ev_bdS, if_pos rfl, z_wno h hj 6 495673374579 (by decide) rfl (by omega), ev_bdS, if_pos rfl, hp, ev_bdS, if_pos (by omega)]
theorem z_pClears {C1 C2 : ev_C} (h : z_A C1 C2) (hP : z_P C1 C2) (hj : z_wi C1 = 2) : ∃ C1' C2' r, f_7_readClears_8 C1 = some C1' ∧ f_12_pairs C2 = some (r, C2') ∧ z_O C1 C2 C1' C2' r := by
  obtain ⟨K, hK⟩ := z_keep (f_7_readClears_8 C1)
  obtain ⟨T, hT⟩ := z_keep (f_12_pairs C2)
  rw [hK, hT]
  unfold f_7_readClears_8 at hK
  unfold f_12_pairs at hT
  rw [z_wyes h hj 2 109317208502899 (by decide) rfl rfl, ev_bdS, if_neg (by decide)] at hT
  obtain ⟨A1, A2, a1, a2, a3, a4, a5, a6⟩ := z_stp h.1
  have hPa := hP.mv a4 a5
  rw [a1, ev_bvS] at hK
  rw [a2, ev_bvS, ← hPa.1.2.1.1] at hT
  rcases z_tn54 a3 hPa with ⟨i, B1, B2, hi, b1, b2, b3, b4, b5, b6⟩ | ⟨B1, B2, b1, b2, b3⟩
  rotate_left
  · rw [b1, ev_bdS, if_neg (by decide)] at hK
    rw [b2, ev_bdS, if_neg (by decide)] at hT
    exact ⟨_, _, _, hK.symm, hT.symm, Or.inr ⟨rfl, b3⟩⟩
  have hPb := (hPa.u18 (v := i)).mv b4 b5
  have s18 : B2 12 18 = i := (z_F2_18 b5).trans ev_us
  have hi6 : i < 6 := by have := hPa.1.2.1.2.2; omega
  rw [b1, ev_bdS, if_pos (show (i : Int) ≠ -1 by omega)] at hK
  rw [b2, ev_bdS, if_pos (by decide), ← hPb.1.1.1, s18] at hT
  rcases z_nh53 b3 hPb with ⟨k, hk, d1, d2⟩ | ⟨D1, D2, d1, d2, d3⟩
  rotate_left
  · rw [d1, ev_bdS, if_pos rfl] at hK
    rw [d2, ev_bdS, if_neg (by decide)] at hT
    exact ⟨_, _, _, hK.symm, hT.symm, Or.inr ⟨rfl, d3⟩⟩
  have hk6 : k < 6 := by have := hPb.1.1.2.2; omega
  have hAd : z_A B1 (ev_u B2 12 18 k) := b3
  have hPk : z_P B1 (ev_u B2 12 18 k) := hPb.u18
  have k18 : ev_u B2 12 18 k 12 18 = k := ev_us
  have gi : 0 ≤ (i : Int) ∧ (i : Int) < 6 := by omega
  have w0 : ev_w ((34 : Int) + i) = 34 + i := ev_w_id (by omega) (by omega)
  have e0 : ((34 : Int) + i).toNat = 34 + i := by omega
  rw [d1, ev_bdS, if_neg (show ¬ (k : Int) = -1 by omega), if_pos gi, Int.toNat_natCast] at hK
  rw [d2, ev_bdS, if_pos (by decide), w0] at hT
  rcases z_once (to := 34 + i) (b := B1 58 i) (k := k) hAd (by omega) (by omega) (by rw [e0]; exact (hPb.2.2.1.2.1 i hi6).symm) k18 with ⟨c, G1, G2, g1, g2, g3, g4, g5, g6⟩ | ⟨c, G1, G2, g1, g2, g3, g4⟩
  · rw [g1, ev_bdS, if_pos gi] at hK
    rw [g2, ev_bdS, if_pos (by decide)] at hT
    rw [e0] at g5
    exact ⟨_, _, _, hK.symm, hT.symm, Or.inl ⟨rfl, g3, (hPk.b58 (f := i) (v := ev_or (B1 58 i) (ev_shl 1 k)) hi6).mv (g4.o (by decide)) g5, z_M.tr (C' := B1) (by have := a6.1; have := b6.1; omega) g6, (have m := z_F2_19 g5; m).trans ((have m := z_F2_19 b5; m).trans (have m := z_F2_19 a5; m))⟩⟩
  · rw [g1, ev_bdS, if_pos gi] at hK
    rw [g2, ev_bdS, if_neg (by decide)] at hT
    exact ⟨_, _, _, hK.symm, hT.symm, Or.inr ⟨rfl, g3⟩⟩
theorem z_pNeeds {C1 C2 : ev_C} (h : z_A C1 C2) (hP : z_P C1 C2) (hj : z_wi C1 = 7) : ∃ C1' C2' r, f_7_readNeeds_8 C1 = some C1' ∧ f_12_pairs C2 = some (r, C2') ∧ z_O C1 C2 C1' C2' r := by
  obtain ⟨K, hK⟩ := z_keep (f_7_readNeeds_8 C1)
  obtain ⟨T, hT⟩ := z_keep (f_12_pairs C2)
  rw [hK, hT]
  unfold f_7_readNeeds_8 at hK
  unfold f_12_pairs at hT
  rw [z_wno h hj 2 109317208502899 (by decide) rfl (by decide), ev_bdS, if_pos rfl, z_wyes h hj 7 474147546227 (by decide) rfl rfl, ev_bdS, if_neg (by decide)] at hT
  obtain ⟨A1, A2, a1, a2, a3, a4, a5, a6⟩ := z_stp h.1
  have hPa := hP.mv a4 a5
  rw [a1, ev_bvS] at hK
  rw [a2, ev_bvS, ← hPa.1.1.1] at hT
  rcases z_tn53 a3 hPa with ⟨i, B1, B2, hi, b1, b2, b3, b4, b5, b6⟩ | ⟨B1, B2, b1, b2, b3⟩
  rotate_left
  · rw [b1, ev_bdS, if_neg (by decide)] at hK
    rw [b2, ev_bdS, if_neg (by decide)] at hT
    exact ⟨_, _, _, hK.symm, hT.symm, Or.inr ⟨rfl, b3⟩⟩
  have hPb := (hPa.u18 (v := i)).mv b4 b5
  have s18 : B2 12 18 = i := (z_F2_18 b5).trans ev_us
  have hi6 : i < 6 := by have := hPa.1.1.2.2; omega
  rw [b1, ev_bdS, if_pos (show (i : Int) ≠ -1 by omega)] at hK
  rw [b2, ev_bdS, if_pos (by decide), ← hPb.1.2.1.1, s18] at hT
  rcases z_nh54 b3 hPb with ⟨k, hk, d1, d2⟩ | ⟨D1, D2, d1, d2, d3⟩
  rotate_left
  · rw [d1, ev_bdS, if_pos rfl] at hK
    rw [d2, ev_bdS, if_neg (by decide)] at hT
    exact ⟨_, _, _, hK.symm, hT.symm, Or.inr ⟨rfl, d3⟩⟩
  have hk6 : k < 6 := by have := hPb.1.2.1.2.2; omega
  have hAd : z_A B1 (ev_u B2 12 18 k) := b3
  have hPk : z_P B1 (ev_u B2 12 18 k) := hPb.u18
  have k18 : ev_u B2 12 18 k 12 18 = k := ev_us
  have gi : 0 ≤ (i : Int) ∧ (i : Int) < 6 := by omega
  have w0 : ev_w ((12 : Int) + i) = 12 + i := ev_w_id (by omega) (by omega)
  have e0 : ((12 : Int) + i).toNat = 12 + i := by omega
  rw [d1, ev_bdS, if_neg (show ¬ (k : Int) = -1 by omega), if_pos gi, Int.toNat_natCast] at hK
  rw [d2, ev_bdS, if_pos (by decide), w0] at hT
  rcases z_once (to := 12 + i) (b := B1 57 i) (k := k) hAd (by omega) (by omega) (by rw [e0]; exact (hPb.2.2.1.1 i hi6).symm) k18 with ⟨c, G1, G2, g1, g2, g3, g4, g5, g6⟩ | ⟨c, G1, G2, g1, g2, g3, g4⟩
  · rw [g1, ev_bdS, if_pos gi] at hK
    rw [g2, ev_bdS, if_pos (by decide)] at hT
    rw [e0] at g5
    exact ⟨_, _, _, hK.symm, hT.symm, Or.inl ⟨rfl, g3, (hPk.b57 (f := i) (v := ev_or (B1 57 i) (ev_shl 1 k)) hi6).mv (g4.o (by decide)) g5, z_M.tr (C' := B1) (by have := a6.1; have := b6.1; omega) g6, (have m := z_F2_19 g5; m).trans ((have m := z_F2_19 b5; m).trans (have m := z_F2_19 a5; m))⟩⟩
  · rw [g1, ev_bdS, if_pos gi] at hK
    rw [g2, ev_bdS, if_neg (by decide)] at hT
    exact ⟨_, _, _, hK.symm, hT.symm, Or.inr ⟨rfl, g3⟩⟩
theorem z_pNever {C1 C2 : ev_C} (h : z_A C1 C2) (hP : z_P C1 C2) (hj : z_wi C1 = 9) : ∃ C1' C2' r, f_7_readNever_8 C1 = some C1' ∧ f_12_pairs C2 = some (r, C2') ∧ z_O C1 C2 C1' C2' r := by
  obtain ⟨K, hK⟩ := z_keep (f_7_readNever_8 C1)
  obtain ⟨T, hT⟩ := z_keep (f_12_pairs C2)
  rw [hK, hT]
  unfold f_7_readNever_8 at hK
  unfold f_12_pairs at hT
  rw [z_wno h hj 2 109317208502899 (by decide) rfl (by decide), ev_bdS, if_pos rfl, z_wno h hj 7 474147546227 (by decide) rfl (by decide), ev_bdS, if_pos rfl, z_wno h hj 8 465625113971 (by decide) rfl (by decide), ev_bdS, if_pos rfl, z_wyes h hj 9 474148660594 (by decide) rfl rfl, ev_bdS, if_neg (by decide)] at hT
  obtain ⟨A1, A2, a1, a2, a3, a4, a5, a6⟩ := z_stp h.1
  have hPa := hP.mv a4 a5
  rw [a1, ev_bvS] at hK
  rw [a2, ev_bvS, ← hPa.1.2.2.1.1] at hT
  rcases z_tn55 a3 hPa with ⟨i, B1, B2, hi, b1, b2, b3, b4, b5, b6⟩ | ⟨B1, B2, b1, b2, b3⟩
  rotate_left
  · rw [b1, ev_bdS, if_neg (by decide)] at hK
    rw [b2, ev_bdS, if_neg (by decide)] at hT
    exact ⟨_, _, _, hK.symm, hT.symm, Or.inr ⟨rfl, b3⟩⟩
  have hPb := (hPa.u18 (v := i)).mv b4 b5
  have s18 : B2 12 18 = i := (z_F2_18 b5).trans ev_us
  have hi6 : i < 8 := by have := hPa.1.2.2.1.2.2; omega
  rw [b1, ev_bdS, if_pos (show (i : Int) ≠ -1 by omega)] at hK
  rw [b2, ev_bdS, if_pos (by decide), ← hPb.1.1.1, s18] at hT
  rcases z_nh53 b3 hPb with ⟨k, hk, d1, d2⟩ | ⟨D1, D2, d1, d2, d3⟩
  rotate_left
  · rw [d1, ev_bdS, if_pos rfl] at hK
    rw [d2, ev_bdS, if_neg (by decide)] at hT
    exact ⟨_, _, _, hK.symm, hT.symm, Or.inr ⟨rfl, d3⟩⟩
  have hk6 : k < 6 := by have := hPb.1.1.2.2; omega
  have hAd : z_A B1 (ev_u B2 12 18 k) := b3
  have hPk : z_P B1 (ev_u B2 12 18 k) := hPb.u18
  have k18 : ev_u B2 12 18 k 12 18 = k := ev_us
  have gi : 0 ≤ (i : Int) ∧ (i : Int) < 8 := by omega
  have w0 : ev_w ((88 : Int) + i) = 88 + i := ev_w_id (by omega) (by omega)
  have e0 : ((88 : Int) + i).toNat = 88 + i := by omega
  rw [d1, ev_bdS, if_neg (show ¬ (k : Int) = -1 by omega), if_pos gi, Int.toNat_natCast] at hK
  rw [d2, ev_bdS, if_pos (by decide), w0] at hT
  rcases z_once (to := 88 + i) (b := B1 61 i) (k := k) hAd (by omega) (by omega) (by rw [e0]; exact (hPb.2.2.1.2.2.1 i hi6).symm) k18 with ⟨c, G1, G2, g1, g2, g3, g4, g5, g6⟩ | ⟨c, G1, G2, g1, g2, g3, g4⟩
  · rw [g1, ev_bdS, if_pos gi] at hK
    rw [g2, ev_bdS, if_pos (by decide)] at hT
    rw [e0] at g5
    exact ⟨_, _, _, hK.symm, hT.symm, Or.inl ⟨rfl, g3, (hPk.b61 (f := i) (v := ev_or (B1 61 i) (ev_shl 1 k)) hi6).mv (g4.o (by decide)) g5, z_M.tr (C' := B1) (by have := a6.1; have := b6.1; omega) g6, (have m := z_F2_19 g5; m).trans ((have m := z_F2_19 b5; m).trans (have m := z_F2_19 a5; m))⟩⟩
  · rw [g1, ev_bdS, if_pos gi] at hK
    rw [g2, ev_bdS, if_neg (by decide)] at hT
    exact ⟨_, _, _, hK.symm, hT.symm, Or.inr ⟨rfl, g3⟩⟩
theorem z_pFoes {C1 C2 : ev_C} (h : z_A C1 C2) (hP : z_P C1 C2) (hj : z_wi C1 = 10) : ∃ C1' C2' r, f_7_readFoes_8 C1 = some C1' ∧ f_12_pairs C2 = some (r, C2') ∧ z_O C1 C2 C1' C2' r := by
  obtain ⟨K, hK⟩ := z_keep (f_7_readFoes_8 C1)
  obtain ⟨T, hT⟩ := z_keep (f_12_pairs C2)
  rw [hK, hT]
  unfold f_7_readFoes_8 at hK
  unfold f_12_pairs at hT
  rw [z_wno h hj 2 109317208502899 (by decide) rfl (by decide), ev_bdS, if_pos rfl, z_wno h hj 7 474147546227 (by decide) rfl (by decide), ev_bdS, if_pos rfl, z_wno h hj 8 465625113971 (by decide) rfl (by decide), ev_bdS, if_pos rfl, z_wno h hj 9 474148660594 (by decide) rfl (by decide), ev_bdS, if_pos rfl, z_wyes h hj 10 1718576499 (by decide) rfl rfl, ev_bdS, if_neg (by decide)] at hT
  obtain ⟨A1, A2, a1, a2, a3, a4, a5, a6⟩ := z_stp h.1
  have hPa := hP.mv a4 a5
  rw [a1, ev_bvS] at hK
  rw [a2, ev_bvS, ← hPa.1.2.2.1.1] at hT
  rcases z_tn55 a3 hPa with ⟨i, B1, B2, hi, b1, b2, b3, b4, b5, b6⟩ | ⟨B1, B2, b1, b2, b3⟩
  rotate_left
  · rw [b1, ev_bdS, if_neg (by decide)] at hK
    rw [b2, ev_bdS, if_neg (by decide)] at hT
    exact ⟨_, _, _, hK.symm, hT.symm, Or.inr ⟨rfl, b3⟩⟩
  have hPb := (hPa.u18 (v := i)).mv b4 b5
  have s18 : B2 12 18 = i := (z_F2_18 b5).trans ev_us
  have hi6 : i < 8 := by have := hPa.1.2.2.1.2.2; omega
  rw [b1, ev_bdS, if_pos (show (i : Int) ≠ -1 by omega)] at hK
  rw [b2, ev_bdS, if_pos (by decide), ← hPb.1.2.2.1.1, s18] at hT
  rcases z_nh55 b3 hPb with ⟨k, hk, d1, d2⟩ | ⟨D1, D2, d1, d2, d3⟩
  rotate_left
  · rw [d1, ev_bdS, if_neg (by decide)] at hK
    rw [d2, ev_bdS, if_neg (by decide)] at hT
    exact ⟨_, _, _, hK.symm, hT.symm, Or.inr ⟨rfl, d3⟩⟩
  have hk6 : k < 8 := by have := hPb.1.2.2.1.2.2; omega
  have hAd : z_A B1 (ev_u B2 12 18 k) := b3
  have hPk : z_P B1 (ev_u B2 12 18 k) := hPb.u18
  have k18 : ev_u B2 12 18 k 12 18 = k := ev_us
  have gi : 0 ≤ (i : Int) ∧ (i : Int) < 8 := by omega
  have w0 : ev_w ((96 : Int) + i) = 96 + i := ev_w_id (by omega) (by omega)
  have e0 : ((96 : Int) + i).toNat = 96 + i := by omega
  have w1 : ev_w ((96 : Int) + k) = 96 + k := ev_w_id (by omega) (by omega)
  have e1 : ((96 : Int) + k).toNat = 96 + k := by omega
  have gk : 0 ≤ (k : Int) ∧ (k : Int) < 8 := by omega
  rw [d1, ev_bdS, if_pos (show (k : Int) ≠ -1 by omega)] at hK
  rw [d2, ev_bdS, if_pos (by decide), k18, w0, w1] at hT
  by_cases hne : (k : Int) = i
  · obtain ⟨F1, F2, g1, g2, g3⟩ := z_fail (k := 3) hAd (by decide)
    rw [if_neg (fun q => q hne), g1, ev_bvS] at hK
    rw [if_pos hne, g2, ev_bdS, if_pos (by decide)] at hT
    exact ⟨_, _, _, hK.symm, hT.symm, Or.inr ⟨rfl, g3⟩⟩
  · rw [if_pos hne, if_pos gi, Int.toNat_natCast, Int.toNat_natCast] at hK
    rw [if_neg hne] at hT
    rcases z_once (to := 96 + i) (b := B1 62 i) (k := k) hAd (by omega) (by omega) (by rw [e0]; exact (hPb.2.2.1.2.2.2.1 i hi6).symm) k18 with ⟨c, G1, G2, g1, g2, g3, g4, g5, g6⟩ | ⟨c, G1, G2, g1, g2, g3, g4⟩
    · rw [e0] at g5
      have hPx : z_P (ev_u G1 62 i (ev_or (B1 62 i) (ev_shl 1 k))) G2 := (hPk.b62 (f := i) (v := ev_or (B1 62 i) (ev_shl 1 k)) hi6).mv (g4.o (by decide)) g5
      have hrow := hPx.2.2.1.2.2.2.1 k hk6
      have hG : 0 ≤ 96 + (k : Int) ∧ 96 + (k : Int) < 140 := by omega
      rw [g1, ev_bdS, if_pos gi, if_pos gk, if_pos gk] at hK
      rw [g2, ev_bdS, if_pos (by decide), if_pos hG, if_pos hG, e1, ← hrow] at hT
      exact ⟨_, _, _, hK.symm, hT.symm, Or.inl ⟨rfl, g3, hPx.b62 hk6, z_M.tr (C' := B1) (by have := a6.1; have := b6.1; omega) g6, (have m := z_F2_19 g5; m).trans ((have m := z_F2_19 b5; m).trans (have m := z_F2_19 a5; m))⟩⟩
    · rw [g1, ev_bdS, if_pos gi, if_pos gk, if_pos gk] at hK
      rw [g2, ev_bdS, if_neg (by decide)] at hT
      exact ⟨_, _, _, hK.symm, hT.symm, Or.inr ⟨rfl, g3⟩⟩
theorem z_pLikes {C1 C2 : ev_C} (h : z_A C1 C2) (hP : z_P C1 C2) (hj : z_wi C1 = 8) : ∃ C1' C2' r, f_7_readLikes_8 C1 = some C1' ∧ f_12_pairs C2 = some (r, C2') ∧ z_O C1 C2 C1' C2' r := by
  obtain ⟨K, hK⟩ := z_keep (f_7_readLikes_8 C1)
  obtain ⟨T, hT⟩ := z_keep (f_12_pairs C2)
  rw [hK, hT]
  unfold f_7_readLikes_8 at hK
  unfold f_12_pairs at hT
  rw [z_wno h hj 2 109317208502899 (by decide) rfl (by decide), ev_bdS, if_pos rfl, z_wno h hj 7 474147546227 (by decide) rfl (by decide), ev_bdS, if_pos rfl, z_wyes h hj 8 465625113971 (by decide) rfl rfl, ev_bdS, if_neg (by decide)] at hT
  obtain ⟨A1, A2, a1, a2, a3, a4, a5, a6⟩ := z_stp h.1
  have hPa := hP.mv a4 a5
  rw [a1, ev_bvS] at hK
  rw [a2, ev_bvS, ← hPa.1.2.2.1.1] at hT
  rcases z_tn55 a3 hPa with ⟨i, B1, B2, hi, b1, b2, b3, b4, b5, b6⟩ | ⟨B1, B2, b1, b2, b3⟩
  rotate_left
  · rw [b1, ev_bdS, if_neg (by decide)] at hK
    rw [b2, ev_bdS, if_neg (by decide)] at hT
    exact ⟨_, _, _, hK.symm, hT.symm, Or.inr ⟨rfl, b3⟩⟩
  have hPb := (hPa.u18 (v := i)).mv b4 b5
  have s18 : B2 12 18 = i := (z_F2_18 b5).trans ev_us
  have hi6 : i < 8 := by have := hPa.1.2.2.1.2.2; omega
  rw [b1, ev_bdS, if_pos (show (i : Int) ≠ -1 by omega)] at hK
  rw [b2, ev_bdS, if_pos (by decide), ← hPb.1.1.1, s18] at hT
  rcases z_nh53 b3 hPb with ⟨k, hk, d1, d2⟩ | ⟨D1, D2, d1, d2, d3⟩
  rotate_left
  · rw [d1, ev_bdS, if_neg (by decide)] at hK
    rw [d2, ev_bdS, if_neg (by decide)] at hT
    exact ⟨_, _, _, hK.symm, hT.symm, Or.inr ⟨rfl, d3⟩⟩
  have hk6 : k < 6 := by have := hPb.1.1.2.2; omega
  have hAd : z_A B1 (ev_u B2 12 18 k) := b3
  have hPk : z_P B1 (ev_u B2 12 18 k) := hPb.u18
  have k18 : ev_u B2 12 18 k 12 18 = k := ev_us
  have gi : 0 ≤ (i : Int) ∧ (i : Int) < 8 := by omega
  have w0 : ev_w ((ev_w ((i : Int) * (6 : Int))) + k) = ((6 * i + k : Nat) : Int) := by rw [ev_w_id (n := (i : Int) * 6) (by omega) (by omega), ev_w_id (by omega) (by omega)]; omega
  have w1 : ev_w ((ev_w ((40 : Int) + (ev_w ((6 : Int) * i)))) + k) = ((40 + (6 * i + k) : Nat) : Int) := by rw [ev_w_id (n := (6 : Int) * i) (by omega) (by omega), ev_w_id (n := 40 + (6 : Int) * i) (by omega) (by omega), ev_w_id (by omega) (by omega)]; omega
  have gl : 0 ≤ ((6 * i + k : Nat) : Int) ∧ ((6 * i + k : Nat) : Int) < 48 := by omega
  have gr : 0 ≤ ((40 + (6 * i + k) : Nat) : Int) ∧ ((40 + (6 * i + k) : Nat) : Int) < 140 := by omega
  have hrow := hPb.2.2.1.2.2.2.2 (6 * i + k) (by omega)
  have hrow2 : ev_u B2 12 18 k 35 (40 + (6 * i + k)) = B1 63 (6 * i + k) := hrow.1.symm
  unfold f_6_liking_13 at hK
  rw [d1, ev_bdS, if_pos (show (k : Int) ≠ -1 by omega), w0, if_pos gl, ev_bdS, Int.toNat_natCast] at hK
  rw [d2, ev_bdS, if_pos (by decide), k18, w1, if_pos gr, Int.toNat_natCast, hrow2] at hT
  by_cases h0 : B1 63 (6 * i + k) = 0
  · obtain ⟨E1, E2, x1, x2, x3, x4, x5, x6⟩ := z_stp hAd.1
    have hPe := hPk.mv x4 x5
    rw [if_pos h0, x1, ev_bvS] at hK
    rw [if_pos (show B1 63 (6 * i + k) ≤ 0 by omega), x2, ev_bvS] at hT
    rcases z_numb (lo := 1) (hi := 9) x3 with ⟨v, G1, G2, g0, g1, g2, g3, g4, g5, g6⟩ | ⟨G1, G2, g1, g2, g3, g4⟩
    · have t18 : G2 12 18 = v := (z_F2_18 g5).trans ev_us
      rw [g1, ev_bdS, if_pos gl] at hK
      rw [g2, ev_bdS, if_pos (by decide), if_pos gr, t18] at hT
      exact ⟨_, _, _, hK.symm, hT.symm, Or.inl ⟨rfl, g3, ((hPe.u18 (v := v)).mv g4 g5).b63 (by omega) (by omega), z_M.tr (C' := E1) (by have := a6.1; have := b6.1; have := x6.1; omega) g6, (have m := z_F2_19 g5; m).trans ((have m := z_F2_19 x5; m).trans ((have m := z_F2_19 b5; m).trans (have m := z_F2_19 a5; m)))⟩⟩
    · rw [g1, ev_bdS, if_pos gl] at hK
      rw [g2, ev_bdS, if_neg (by decide)] at hT
      exact ⟨_, _, _, hK.symm, hT.symm, Or.inr ⟨rfl, g3⟩⟩
  · obtain ⟨F1, F2, g1, g2, g3⟩ := z_fail (k := 3) hAd (by decide)
    rw [if_neg h0, g1, ev_bvS] at hK
    rw [if_neg (show ¬ B1 63 (6 * i + k) ≤ 0 by have := hrow.2; omega), g2, ev_bdS, if_pos (by decide)] at hT
    exact ⟨_, _, _, hK.symm, hT.symm, Or.inr ⟨rfl, g3⟩⟩
theorem z_lShows {C1 C2 : ev_C} (h : z_A C1 C2) (hP : z_P C1 C2) (hj : z_wi C1 = 6) : ∃ C1' C2' r, f_7_readShows_8 C1 = some C1' ∧ f_12_line C2 = some (r, C2') ∧ z_O C1 C2 C1' C2' r := by
  obtain ⟨K, hK⟩ := z_keep (f_7_readShows_8 C1)
  obtain ⟨T, hT⟩ := z_keep (f_12_line C2)
  rw [hK, hT]
  unfold f_7_readShows_8 at hK
  unfold f_12_line at hT
  rw [z_wno h hj 0 1885434484 (by decide) rfl (by decide), ev_bdS, if_pos rfl, z_wno h hj 1 1717658484 (by decide) rfl (by decide), ev_bdS, if_pos rfl, z_wno h hj 3 7168366 (by decide) rfl (by decide), ev_bdS, if_pos rfl, z_wno h hj 4 6382452 (by decide) rfl (by decide), ev_bdS, if_pos rfl, z_wno h hj 11 1919251316 (by decide) rfl (by decide), ev_bdS, if_pos rfl, z_wno h hj 5 495588830821 (by decide) rfl (by decide), ev_bdS, if_pos rfl, z_wyes h hj 6 495673374579 (by decide) rfl rfl, ev_bdS, if_neg (by decide)] at hT
  have c4 := hP.1.2.2.2.2.1
  have c3 := hP.1.2.2.2.1
  have u1 : ev_w (C1 13 4 - 1) = C1 13 4 - 1 := ev_w_id (by omega) (by omega)
  have u2 : ev_w (C2 35 4 - 1) = C1 13 4 - 1 := by rw [← c4.1]; exact u1
  have u3 : ev_w (C1 13 3 - 1) = C1 13 3 - 1 := ev_w_id (by omega) (by omega)
  have u4 : ev_w (C2 35 3 - 1) = C1 13 3 - 1 := by rw [← c3.1]; exact u3
  rw [u1, u3] at hK
  rw [u2, u4] at hT
  obtain ⟨F1, F2, f1, f2, f3⟩ := z_fail (k := 1) h (by decide)
  by_cases hs : C1 13 4 - 1 < 0
  · rw [if_pos hs, f1, ev_bvS] at hK
    rw [if_pos hs, f2, ev_bdS, if_pos (by decide)] at hT
    exact ⟨_, _, _, hK.symm, hT.symm, Or.inr ⟨rfl, f3⟩⟩
  · obtain ⟨s, hs1⟩ : ∃ s : Nat, C1 13 4 - 1 = s := ⟨(C1 13 4 - 1).toNat, by omega⟩
    have hact := hP.2.2.2.1 s (by omega)
    have hs12 : s < 12 := by omega
    rw [hs1] at hK hT hs
    clear u1 u2 u3 u4 hs1 c3 c4
    have gs : 0 ≤ (s : Int) ∧ (s : Int) < 12 := by omega
    have g4 : 0 ≤ 104 + (s : Int) ∧ 104 + (s : Int) < 140 := by omega
    have g8 : 0 ≤ 128 + (s : Int) ∧ 128 + (s : Int) < 140 := by omega
    have e1 : ((104 : Int) + s).toNat = 104 + s := by omega
    have e2 : ((128 : Int) + s).toNat = 128 + s := by omega
    have v1 : ev_w ((104 : Int) + s) = 104 + s ∧ ev_w ((128 : Int) + s) = 128 + s := ⟨ev_w_id (by omega) (by omega), ev_w_id (by omega) (by omega)⟩
    rw [if_neg hs, if_pos gs, Int.toNat_natCast] at hK
    rw [if_neg hs, v1.1, v1.2, if_pos g4, e1, ← hact] at hT
    clear v1
    by_cases ha : C1 64 s = C1 13 3 - 1
    · obtain ⟨A1, A2, a1, a2, a3, a4, a5, a6⟩ := z_stp h.1
      have hPa := hP.mv a4 a5
      rw [if_pos ha, a1, ev_bvS] at hK
      rw [if_pos ha, a2, ev_bvS, ← hPa.1.2.1.1] at hT
      rcases z_nh54 a3 hPa with ⟨k, hk, d1, d2⟩ | ⟨D1, D2, d1, d2, d3⟩
      · have hAd : z_A A1 (ev_u A2 12 18 k) := a3
        have hPk : z_P A1 (ev_u A2 12 18 k) := hPa.u18
        rw [d1, ev_bdS, if_neg (show ¬ (k : Int) = -1 by omega), if_pos gs] at hK
        rw [d2, ev_bdS, if_neg (by decide)] at hT
        rcases z_once (to := 128 + s) (b := A1 66 s) (k := k) hAd g8.1 g8.2 (by rw [e2]; exact (hPa.2.2.2.2.2.1 s hs12).symm) ev_us with ⟨c, G1, G2, g1, g2, g3, g4, g5, g6⟩ | ⟨c, G1, G2, g1, g2, g3, g4⟩
        · rw [g1, ev_bdS, if_pos gs] at hK
          rw [g2, ev_bdS, if_neg (by decide)] at hT
          rw [e2] at g5
          exact ⟨_, _, _, hK.symm, hT.symm, Or.inl ⟨rfl, g3, (hPk.b66 (f := s) (v := ev_or (A1 66 s) (ev_shl 1 k)) hs12).mv (g4.o (by decide)) g5, z_M.tr (C' := A1) a6.1 g6, (have m := z_F2_19 g5; m).trans (have m := z_F2_19 a5; m)⟩⟩
        · rw [g1, ev_bdS, if_pos gs] at hK
          rw [g2, ev_bdS, if_pos rfl] at hT
          exact ⟨_, _, _, hK.symm, hT.symm, Or.inr ⟨rfl, g3⟩⟩
      · rw [d1, ev_bdS, if_pos rfl] at hK
        rw [d2, ev_bdS, if_pos rfl] at hT
        exact ⟨_, _, _, hK.symm, hT.symm, Or.inr ⟨rfl, d3⟩⟩
    · rw [if_neg ha, f1, ev_bvS] at hK
      rw [if_neg ha, f2, ev_bdS, if_pos (by decide)] at hT
      exact ⟨_, _, _, hK.symm, hT.symm, Or.inr ⟨rfl, f3⟩⟩
