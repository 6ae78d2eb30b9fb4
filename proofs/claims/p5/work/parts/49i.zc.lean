/-! BOOKS ALIKE: all lines. -/
/-- the reference's while -/
def x_L12 : Nat → ev_C → Option (Int × ev_C)
  | 0, _ => none
  | n + 1, C => if C 12 11 = 0 then some (1, C) else
    (ev_bd (f_12_bookLine C) fun r1 C1 => if r1 = 0 then some (0, C1) else
    (ev_bd (f_12_sign C1 59) fun r2 C2 => if r2 = 0 then some (0, C2) else x_L12 n (ev_u C2 12 41 (ev_w (C2 12 41 + (1 : Int))))))
theorem x_J40 {K : ev_C → Int → Option ev_C} {C : ev_C} {a : Int} : f_0_read_8_6_J40 K C a = (if C 8 9 = 0 then K (ev_u C 0 0 (ev_w (C 0 0 + (1 : Int)))) (ev_w (a + 1)) else some C) := by
  unfold f_0_read_8_6_J40 f_8_isFine
  by_cases q : C 8 9 = 0
  · rw [if_neg (fun z => z q), ev_bdS, if_pos (by decide), if_pos q]
  · rw [if_pos q, ev_bdS, if_neg (by decide), if_neg q]
theorem x_A.nx {n : Nat} {C1 C2 : ev_C} (h : x_A n C1 C2) (hn : n < 40) : x_A (n + 1) (ev_u C1 0 0 ((n + 1 : Nat) : Int)) (ev_u C2 12 41 ((n + 1 : Nat) : Int)) := by
  obtain ⟨hA, hN, h0, h41, h40⟩ := h
  exact ⟨hA, hN.al (ev_ut (by decide)) (ev_ut (by decide)) (ev_ut (by decide)) (ev_ut (by decide)) (ev_ut (by decide)) (ev_ut (by decide)), ev_us, ev_us, by omega⟩
theorem x_loop : ∀ (d n N M : Nat) (k : Int) (C1 C2 : ev_C), k = (n : Int) → 41 - n ≤ d → d < N → d < M → x_A n C1 C2 → ∃ (C1' C2' : ev_C) (r : Int), f_0_read_8_6_L7 N C1 k = some C1' ∧ x_L12 M C2 = some (r, C2') ∧ C1' 8 9 = C2' 12 15 := by
  intro d
  induction d with
  | zero => intro n N M k C1 C2 hk hm h1 h2 h; have := h.2.2.2.2; omega
  | succ d ih =>
    intro n N M k C1 C2 hk hm h1 h2 h
    subst hk
    obtain ⟨N, rfl⟩ : ∃ k, N = k + 1 := ⟨N - 1, by omega⟩
    obtain ⟨M, rfl⟩ : ∃ k, M = k + 1 := ⟨M - 1, by omega⟩
    have h40 := h.2.2.2.2
    obtain ⟨K, hK⟩ := z_keep (f_0_read_8_6_L7 (N + 1) C1 n)
    obtain ⟨T, hT⟩ := z_keep (x_L12 (M + 1) C2)
    rw [hK, hT]
    rw [f_0_read_8_6_L7, if_neg (show ¬ (400 : Int) < n by omega)] at hK
    rw [x_L12] at hT
    by_cases h0 : C1 8 4 = 0
    · rw [if_pos h0] at hK
      rw [if_pos ((y_e0 h.1).mp h0)] at hT
      exact ⟨C1, C2, 1, hK.symm, hT.symm, h.1.1.2.1.trans h.1.1.2.2.1.symm⟩
    · rw [if_neg h0] at hK
      rw [if_neg (fun q => h0 ((y_e0 h.1).mpr q))] at hT
      obtain ⟨A1, A2, r, a1, a2, a3⟩ := x_line h
      rw [a1, ev_bvS] at hK
      rw [a2, ev_bdS] at hT
      rcases a3 with ⟨rfl, hn, b⟩ | ⟨rfl, b⟩
      · rw [y_fine.1 b.1.1.2.1, ev_bdS, if_neg (show ¬ (1 : Int) = 0 by decide)] at hK
        rw [if_neg (show ¬ (1 : Int) = 0 by decide)] at hT
        obtain ⟨v, v0, v1, v2, v3⟩ := z_sign (c := 59) b.1 (by decide)
        unfold f_8_takeSign at hK
        unfold f_12_sign at hT
        rw [v1, ev_bdS] at hK
        rw [v2, ev_bdS] at hT
        rcases v0 with v0 | v0
        · obtain ⟨F1, F2, f1, f2, f3⟩ := z_fail (k := 1) b.1 (by decide)
          rw [if_pos v0, f1, ev_bvS, ev_bvS, x_J40, if_neg f3.2.1] at hK
          rw [if_neg (fun q => q v0), f2, ev_bdS, if_pos (by decide), ev_bdS, if_pos (rfl : (0 : Int) = 0)] at hT
          exact ⟨F1, F2, 0, hK.symm, hT.symm, f3.1⟩
        · obtain ⟨B1, B2, c1, c2, c3, c4, c5, c6⟩ := z_stp b.1.1
          have hx : x_A n B1 B2 := b.mv c3 c4 c5 rfl rfl rfl
          have w1 : z_h (ev_w ((n : Int) + 1) = ((n + 1 : Nat) : Int)) := by show ev_w ((n : Int) + 1) = ((n + 1 : Nat) : Int); rw [ev_w_id (by omega) (by omega)]; omega
          rw [if_neg (by omega), c1, ev_bvS, ev_bvS, x_J40, if_pos hx.1.1.2.1, hx.2.2.1, w1.e] at hK
          rw [if_pos (by omega), c2, ev_bvS, ev_bdS, if_neg (show ¬ (1 : Int) = 0 by decide), hx.2.2.2.1, w1.e] at hT
          obtain ⟨D1, D2, r, d1, d2, d3⟩ := ih (n + 1) N M _ _ _ rfl (by omega) (by omega) (by omega) (hx.nx hn)
          rw [← hK, ← hT]
          exact ⟨D1, D2, r, d1, d2, d3⟩
      · rw [y_fine.2 b.2.1, ev_bdS, if_pos (rfl : (0 : Int) = 0), x_J40, if_neg b.2.1] at hK
        rw [if_pos (rfl : (0 : Int) = 0)] at hT
        exact ⟨A1, A2, 0, hK.symm, hT.symm, b.1⟩
/-- what book() reads: both find the same fault -/
theorem x_book {C1 C2 : ev_C} (hB : z_B C1 C2) (hN : y_nm C1 C2) : ∃ (A1 B1 T G Z : ev_C) (r : Int), f_8_open C1 400 = some A1 ∧ f_0_read_8_6 A1 = some B1 ∧ f_12_taken (ev_u C2 12 0 0) 400 = some T ∧ f_12_go (ev_u (ev_u T 12 15 0) 12 41 0) = some G ∧ x_L12 1000 G = some (r, Z) ∧ B1 8 9 = Z 12 15 := by
  obtain ⟨b1, b2, b3, b4⟩ := hB
  obtain ⟨X1, hX1⟩ : ∃ X1, X1 = ev_u (ev_u (ev_u (ev_u C1 8 2 400) 8 3 0) 8 9 0) 8 10 0 := ⟨_, rfl⟩
  obtain ⟨T, hT⟩ : ∃ T, T = ev_u (ev_u (ev_u (ev_u (ev_u C2 12 0 0) 12 3 (ev_u C2 12 0 0 12 2)) 12 2 0) 12 4 0) 12 5 400 := ⟨_, rfl⟩
  obtain ⟨Y0, hY0⟩ : ∃ Y0, Y0 = ev_u (ev_u T 12 15 0) 12 41 0 := ⟨_, rfl⟩
  have hE0 : z_E X1 Y0 := by
    rw [hX1, hY0, hT]
    exact ⟨b1, b2, b3, rfl, (by decide : (0 : Int) ≤ 400 ∧ (400 : Int) ≤ 940), b4⟩
  have hD : z_D X1 Y0 := by
    refine ⟨hE0, by rw [hX1]; rfl, by rw [hY0]; rfl, by rw [hX1, hY0, hT]; rfl, by rw [hX1]; exact Int.le_refl 0, ?_⟩
    rw [hX1]
    exact b3.1
  obtain ⟨A1, A2, a1, a2, a3, a4, a5, -⟩ := z_stp hD
  have hx : x_A 0 (ev_u A1 0 0 0) A2 := by
    refine ⟨a3, ?_, ev_us, ?_, by decide⟩
    · refine hN.al ?_ ?_ ?_ ?_ ?_ ?_
      · rw [ev_ut (by decide), a4.1 6 (by decide), hX1]; rfl
      · rw [ev_ut (by decide), a4.1 67 (by decide), hX1]; rfl
      · rw [ev_ut (by decide), a4.1 68 (by decide), hX1]; rfl
      · rw [ev_ut (by decide), a4.1 69 (by decide), hX1]; rfl
      · rw [a5.1 34 (by decide), hY0, hT]; rfl
      · rw [a5.1 19 (by decide), hY0, hT]; rfl
    · rw [a5.2 41 (by decide) (by decide) (by decide) (by decide) (by decide) (by decide), hY0]; rfl
  obtain ⟨B1, Z, r, r1, r2, r3⟩ := x_loop 41 0 1000 1000 0 _ _ rfl (by omega) (by omega) (by omega) hx
  refine ⟨A1, B1, T, A2, Z, r, ?_, ?_, ?_, ?_, r2, r3⟩
  · unfold f_8_open
    rw [← hX1, a1, ev_bvS]
  · unfold f_0_read_8_6
    exact r1
  · unfold f_12_taken
    rw [hT]
  · rw [← hY0]
    exact a2
