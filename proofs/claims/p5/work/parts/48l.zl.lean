/-! THE TWO READERS ALIKE, 12: any line; all lines. -/
theorem z_line {C1 C2 : ev_C} (h : z_A C1 C2) (hP : z_P C1 C2) : ∃ C1' C2' r, f_7_readLine_8 C1 = some C1' ∧ f_12_line C2 = some (r, C2') ∧ z_O C1 C2 C1' C2' r ∧ (r = 1 → C1 8 4 = 1) := by
  have hw := (z_word h).1
  obtain ⟨i, hi⟩ : ∃ i, z_wi C1 = i := ⟨_, rfl⟩
  have hk : ∀ r : Int, 0 ≤ i → (r = 1 → C1 8 4 = 1) := by
    intro r h0 _
    unfold z_wi at hi
    by_cases q : C1 8 4 = 1
    · exact q
    · rw [if_neg q] at hi; omega
  unfold f_7_readLine_8
  rw [hw, ev_bdS, hi]
  by_cases e0 : i = 0
  · obtain ⟨C1', C2', r, g1, g2, g3⟩ := z_lPart h hP (hi.trans e0)
    rw [if_pos e0, g1, ev_bvS]
    exact ⟨C1', C2', r, rfl, g2, g3, hk r (by omega)⟩
  rw [if_neg e0]
  by_cases e1 : i = 1
  · obtain ⟨C1', C2', r, g1, g2, g3⟩ := z_lFact h hP (hi.trans e1)
    rw [if_pos e1, g1, ev_bvS]
    exact ⟨C1', C2', r, rfl, g2, g3, hk r (by omega)⟩
  rw [if_neg e1]
  by_cases e2 : i = 2
  · obtain ⟨C1', C2', r, g1, g2, g3⟩ := z_pClears h hP (hi.trans e2)
    rw [if_pos e2, g1, ev_bvS]
    exact ⟨C1', C2', r, rfl, z_lineP h hi (by omega) g2 (by rcases g3 with ⟨q, -⟩ | ⟨q, -⟩ <;> omega), g3, hk r (by omega)⟩
  rw [if_neg e2]
  by_cases e3 : i = 3
  · obtain ⟨C1', C2', r, g1, g2, g3⟩ := z_lMan h hP (hi.trans e3)
    rw [if_pos e3, g1, ev_bvS]
    exact ⟨C1', C2', r, rfl, g2, g3, hk r (by omega)⟩
  rw [if_neg e3]
  by_cases e4 : i = 4
  · obtain ⟨C1', C2', r, g1, g2, g3⟩ := z_lAct h hP (hi.trans e4)
    rw [if_pos e4, g1, ev_bvS]
    exact ⟨C1', C2', r, rfl, g2, g3, hk r (by omega)⟩
  rw [if_neg e4]
  by_cases e5 : i = 5
  · obtain ⟨C1', C2', r, g1, g2, g3⟩ := z_lScene h hP (hi.trans e5)
    rw [if_pos e5, g1, ev_bvS]
    exact ⟨C1', C2', r, rfl, g2, g3, hk r (by omega)⟩
  rw [if_neg e5]
  by_cases e6 : i = 6
  · obtain ⟨C1', C2', r, g1, g2, g3⟩ := z_lShows h hP (hi.trans e6)
    rw [if_pos e6, g1, ev_bvS]
    exact ⟨C1', C2', r, rfl, g2, g3, hk r (by omega)⟩
  rw [if_neg e6]
  by_cases e7 : i = 7
  · obtain ⟨C1', C2', r, g1, g2, g3⟩ := z_pNeeds h hP (hi.trans e7)
    rw [if_pos e7, g1, ev_bvS]
    exact ⟨C1', C2', r, rfl, z_lineP h hi (by omega) g2 (by rcases g3 with ⟨q, -⟩ | ⟨q, -⟩ <;> omega), g3, hk r (by omega)⟩
  rw [if_neg e7]
  by_cases e8 : i = 8
  · obtain ⟨C1', C2', r, g1, g2, g3⟩ := z_pLikes h hP (hi.trans e8)
    rw [if_pos e8, g1, ev_bvS]
    exact ⟨C1', C2', r, rfl, z_lineP h hi (by omega) g2 (by rcases g3 with ⟨q, -⟩ | ⟨q, -⟩ <;> omega), g3, hk r (by omega)⟩
  rw [if_neg e8]
  by_cases e9 : i = 9
  · obtain ⟨C1', C2', r, g1, g2, g3⟩ := z_pNever h hP (hi.trans e9)
    rw [if_pos e9, g1, ev_bvS]
    exact ⟨C1', C2', r, rfl, z_lineP h hi (by omega) g2 (by rcases g3 with ⟨q, -⟩ | ⟨q, -⟩ <;> omega), g3, hk r (by omega)⟩
  rw [if_neg e9]
  by_cases e10 : i = 10
  · obtain ⟨C1', C2', r, g1, g2, g3⟩ := z_pFoes h hP (hi.trans e10)
    rw [if_pos e10, g1, ev_bvS]
    exact ⟨C1', C2', r, rfl, z_lineP h hi (by omega) g2 (by rcases g3 with ⟨q, -⟩ | ⟨q, -⟩ <;> omega), g3, hk r (by omega)⟩
  rw [if_neg e10]
  by_cases e11 : i = 11
  · obtain ⟨C1', C2', r, g1, g2, g3⟩ := z_lRest h hP (hi.trans e11)
    rw [if_pos e11, g1, ev_bvS]
    exact ⟨C1', C2', r, rfl, g2, g3, hk r (by omega)⟩
  rw [if_neg e11]
  obtain ⟨F1, F2, f1, f2, f3⟩ := z_fail (k := 1) h (by decide)
  rw [f1, ev_bvS]
  refine ⟨F1, F2, 0, rfl, z_lineP h hi (by omega) ?_ (Or.inl rfl), Or.inr ⟨rfl, f3⟩, fun q => by cases q⟩
  unfold f_12_pairs
  rw [z_wno h hi 2 109317208502899 (by decide) rfl (by omega), ev_bdS, if_pos rfl, z_wno h hi 7 474147546227 (by decide) rfl (by omega), ev_bdS, if_pos rfl, z_wno h hi 8 465625113971 (by decide) rfl (by omega), ev_bdS, if_pos rfl, z_wno h hi 9 474148660594 (by decide) rfl (by omega), ev_bdS, if_pos rfl, z_wno h hi 10 1718576499 (by decide) rfl (by omega), ev_bdS, if_pos rfl, f2, ev_bdS, if_pos (by decide)]
theorem z_J43 {K : ev_C → Int → Int → Option (Int × ev_C)} {C : ev_C} {a b : Int} : f_7_read_8_J43 K C a b = (if C 8 9 = 0 then K C (ev_w (a + 1)) (ev_w (b + 1)) else some (a, C)) := by
  unfold f_7_read_8_J43 f_8_isFine
  by_cases q : C 8 9 = 0
  · rw [if_neg (fun z => z q), ev_bdS, if_pos (by decide), if_pos q]
  · rw [if_pos q, ev_bdS, if_neg (by decide), if_neg q]
theorem z_main : ∀ (m N1 N2 : Nat) (C1 C2 : ev_C) (n : Nat) (y : Int), 472 - n ≤ m → m < N1 → m < N2 → n ≤ 471 → z_A C1 C2 → z_P C1 C2 → C2 12 19 = n → (C1 8 4 = 0 ∨ C1 8 4 = 4 ∨ 2 * (n : Int) ≤ C1 8 3) →
    (∃ (C1' C2' : ev_C) (k : Nat), f_7_read_8_L11 N1 C1 n n = some ((k : Int), C1') ∧ f_12_play_L48 N2 C2 y = f_12_play_L93 1000 C2' 0 ∧ k ≤ 471 ∧ z_A C1' C2' ∧ z_P C1' C2' ∧ C2' 12 19 = k ∧ frn C2 C2') ∨ (∃ (C1' C2' : ev_C) (x : Int), f_7_read_8_L11 N1 C1 n n = some (x, C1') ∧ f_12_play_L48 N2 C2 y = some (ev_w ((-1 : Int) - C2' 12 16), C2') ∧ z_X C1' C2' ∧ frn C2 C2') := by
  intro m
  induction m with
  | zero => intro N1 N2 C1 C2 n y hm h1 h2 hn h hP h19 hpos; omega
  | succ m ih =>
    intro N1 N2 C1 C2 n y hm h1 h2 hn h hP h19 hpos
    obtain ⟨N1, rfl⟩ : ∃ n, N1 = n + 1 := ⟨N1 - 1, by omega⟩
    obtain ⟨N2, rfl⟩ : ∃ n, N2 = n + 1 := ⟨N2 - 1, by omega⟩
    obtain ⟨K, hK⟩ := z_keep (f_7_read_8_L11 (N1 + 1) C1 n n)
    obtain ⟨T, hT⟩ := z_keep (f_12_play_L48 (N2 + 1) C2 y)
    rw [hK, hT]
    rw [f_7_read_8_L11, if_neg (show ¬ (900 : Int) < n by omega)] at hK
    rw [f_12_play_L48] at hT
    have hkind : C1 8 4 = 0 ↔ C2 12 11 = 0 := by
      rcases h.2.1 with ⟨k1, k2⟩ | ⟨k1, k2, -⟩ | ⟨k1, k2, -⟩ | ⟨k1, k2, -⟩ | ⟨k2, k1⟩
      · exact ⟨fun _ => k2, fun _ => k1⟩
      · omega
      · omega
      · omega
      · rcases k1 with k1 | ⟨k1, -⟩ <;> omega
    by_cases h0 : C1 8 4 = 0
    · rw [if_pos h0] at hK
      rw [if_pos (hkind.mp h0)] at hT
      exact Or.inl ⟨C1, C2, n, hK.symm, hT.symm, hn, h, hP, h19, frn_rf⟩
    · rw [if_neg h0] at hK
      rw [if_neg (fun q => h0 (hkind.mpr q))] at hT
      obtain ⟨A1, A2, r, a1, a2, a3, a4⟩ := z_line h hP
      have hfA : frn C2 A2 := fr_12_line (by rw [← hP.1.1.1]; have := hP.1.1.2; omega) (by rw [← hP.1.2.1.1]; have := hP.1.2.1.2; omega) (by rw [← hP.1.2.2.1.1]; exact hP.1.2.2.1.2) r A2 a2
      rw [a1, ev_bvS] at hK
      rw [a2, ev_bdS] at hT
      rcases a3 with ⟨rfl, b1, b2, b3, b4⟩ | ⟨rfl, b1⟩
      · have h9 : A1 8 9 = 0 := b1.1.2.1
        have hfine : f_8_isFine A1 = some (1, A1) := by
          unfold f_8_isFine
          rw [if_neg (fun q => q h9)]
        have h19a : A2 12 19 = n := b4.trans h19
        rw [hfine, ev_bdS, if_neg (by decide)] at hK
        rw [if_neg (by decide)] at hT
        obtain ⟨v, v0, v1, v2, v3⟩ := z_sign (c := 59) b1 (by decide)
        unfold f_8_takeSign at hK
        unfold f_12_sign at hT
        rw [v1, ev_bdS] at hK
        rw [v2, ev_bdS] at hT
        rcases v0 with v0 | v0
        · obtain ⟨F1, F2, f1, f2, f3⟩ := z_fail (k := 1) b1 (by decide)
          rw [if_pos v0, f1, ev_bvS, ev_bvS, z_J43, if_neg f3.2.1] at hK
          rw [if_neg (fun q => q v0), f2, ev_bdS, if_pos (by decide), ev_bdS, if_neg (by decide)] at hT
          exact Or.inr ⟨F1, F2, n, hK.symm, hT.symm, f3, hfA.tr (frn_A (fr_12_bad _ _ _ _ f2))⟩
        · obtain ⟨B1, B2, c1, c2, c3, c4, c5, c6⟩ := z_stp b1.1
          have hB9 : B1 8 9 = 0 := c3.1.2.1
          have hB19 : B2 12 19 = n := (c5.2 19 (by decide) (by decide) (by decide) (by decide) (by decide) (by decide)).trans h19a
          have w1 : z_h (ev_w ((n : Int) + 1) = ((n + 1 : Nat) : Int)) := by show ev_w ((n : Int) + 1) = ((n + 1 : Nat) : Int); rw [ev_w_id (by omega) (by omega)]; omega
          rw [if_neg (by omega), c1, ev_bvS, ev_bvS, z_J43, if_pos hB9, w1.e] at hK
          rw [if_pos (by omega), c2, ev_bvS, ev_bdS, if_pos (by decide), hB19, w1.e] at hT
          have k1 := a4 rfl
          have k3 := v3 v0
          have hn9 := h.1.2.2.2.2.2
          have hnn := h.1.1.2.2.1
          have p1 : 2 * (n : Int) ≤ C1 8 3 := by omega
          have p2 : C1 8 3 + 1 ≤ A1 8 3 := by have := b3.2; omega
          have p3 : B1 8 4 = 0 ∨ B1 8 4 = 4 ∨ 2 * ((n + 1 : Nat) : Int) ≤ B1 8 3 := by have := c6.2; omega
          have hAx : z_A B1 (ev_u B2 12 19 ((n + 1 : Nat) : Int)) := c3
          have hPx : z_P B1 (ev_u B2 12 19 ((n + 1 : Nat) : Int)) := b2.mv c4 c5 |>.al rfl rfl rfl rfl rfl rfl rfl rfl rfl rfl rfl rfl rfl rfl
          have hx := ih N1 N2 B1 (ev_u B2 12 19 ((n + 1 : Nat) : Int)) (n + 1) y (by omega) (by omega) (by omega) (by omega) hAx hPx ev_us p3
          have hfB : frn C2 (ev_u B2 12 19 ((n + 1 : Nat) : Int)) := frn_12 (hfA.tr (frn_A (fr_12_go _ _ c2)))
          rw [← hK, ← hT]
          rcases hx with ⟨D1, D2, k, d1, d2, d3, d4, d5, d6, d7⟩ | ⟨D1, D2, x, d1, d2, d3, d4⟩
          · exact Or.inl ⟨D1, D2, k, d1, d2, d3, d4, d5, d6, hfB.tr d7⟩
          · exact Or.inr ⟨D1, D2, x, d1, d2, d3, hfB.tr d4⟩
      · have hfine : f_8_isFine A1 = some (0, A1) := by
          unfold f_8_isFine
          rw [if_pos b1.2.1]
        rw [hfine, ev_bdS, if_pos rfl, z_J43, if_neg b1.2.1] at hK
        rw [if_pos rfl] at hT
        exact Or.inr ⟨A1, A2, n, hK.symm, hT.symm, b1, hfA⟩
