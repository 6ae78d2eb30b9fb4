/-! SENTENCES ALIKE, 4: sentence() of both. -/
theorem y_L146 {y : Int} : ∀ (N k : Nat) (C : ev_C), 135 - k < N → k ≤ 135 → (0 ≤ C 12 45 ∧ C 12 45 ≤ 45) → ∃ C', f_12_sentence_L146 N C y (k : Int) = some (C 12 46, C') ∧ C' 12 = C 12
  | 0, _, _, h, _, _ => absurd h (Nat.not_lt_zero _)
  | N + 1, k, C, h, hk, hc => by
    rw [f_12_sentence_L146, ev_w_id (n := 3 * C 12 45) (by omega) (by omega)]
    by_cases h1 : 3 * C 12 45 ≤ (k : Int)
    · rw [if_pos h1]
      exact ⟨C, rfl, rfl⟩
    · have e : ev_w ((187 : Int) + (k : Int)) = ((187 + k : Nat) : Int) := by rw [ev_w_id (by omega) (by omega)]; omega
      rw [if_neg h1, if_pos (show 0 ≤ (k : Int) ∧ (k : Int) < 135 by omega), e, if_pos (show 0 ≤ ((187 + k : Nat) : Int) ∧ ((187 + k : Nat) : Int) < 367 by omega), y_succ (by omega)]
      obtain ⟨C', g1, g2⟩ := y_L146 N (k + 1) (ev_u C 34 (Int.toNat ((187 + k : Nat) : Int)) (C 36 (Int.toNat (k : Int)))) (by omega) (by omega) (by rw [ev_ut (by decide)]; exact hc)
      rw [g1, ev_ut (by decide)]
      exact ⟨C', rfl, g2.trans (ev_ut (by decide))⟩
/-- at the end of a sentence -/
theorem y_top {C1 C2 : ev_C} {a : List Int} {j : Nat} (h : y_A C1 C2 (List.replicate j 20 ++ (a ++ [])) (1 + (j : Int)) 1) (h1 : (1 : Int) + (j : Int) ≤ 100) (hw : z_wi C1 ≠ 17 ∧ z_wi C1 ≠ 16) (ha : ∀ x ∈ a, x = 21 ∨ x = 22) : (C1 8 4 = 0 → ∀ n : Nat, ∃ C', f_12_sentence_L48 (n + 2) C2 1 = some (C1 14 0, C') ∧ C' 12 15 = 0) ∧ (C1 8 4 ≠ 0 → ∃ C1', f_8_fail C1 1 = some C1' ∧ C1' 8 9 ≠ 0 ∧ y_bad C2 C1' 1) := by
  obtain ⟨D, E, n1, j1, hD, hE⟩ := y_red (v := 22) h (by decide) h1 (fun x hx => by have := ha x hx; omega) (fun x S' e => by cases e)
  have b6 : C2 12 49 = 1 := h.2.2.2.2.2.2.2.1
  have k0 : ¬ C2 12 49 = 0 := by omega
  have hk := y_e0 h.1
  obtain ⟨hA, b0, b1, b2, b3, b4, b5, b6', b7, b8⟩ := id hE
  have b3 : E 12 47 = 0 := b3
  have b7 : 0 ≤ E 12 45 ∧ E 12 45 + 0 + 1 ≤ 2 * C1 14 0 := b7
  refine ⟨fun h0 n => ?_, fun h0 => ?_⟩
  · obtain ⟨C', g1, g2⟩ := y_L146 (y := 0) 1000 0 (ev_u E 34 186 (E 12 45)) (by decide) (by decide) (by rw [ev_ut (by decide)]; omega)
    have g1 : f_12_sentence_L146 1000 (ev_u E 34 186 (E 12 45)) 0 0 = some (ev_u E 34 186 (E 12 45) 12 46, C') := g1
    refine ⟨C', ?_, ?_⟩
    · rw [f_12_sentence_L48, if_neg (show ¬ (1 : Int) = 0 by decide), if_neg k0, if_neg (show ¬ C2 12 11 ≠ 0 from fun q => q (hk.mp h0)), n1, ev_bvS, j1, ev_bvS, if_pos (show E 12 47 ≤ 0 by omega), f_12_sentence_L48, if_pos (rfl : (0 : Int) = 0), g1, ev_ut (by decide), b0]
    · rw [g2, ev_ut (by decide)]
      exact hA.1.2.2.1
  · have hs : C2 12 11 ≠ 0 := fun q => h0 (hk.mpr q)
    obtain ⟨C1', E', f1, f2, f3⟩ := z_fail (k := 1) hA (by decide)
    obtain ⟨v, v0, v1, v2, v3⟩ := z_sign (c := 41) hA (by decide)
    have wD := (z_word hD).2
    refine ⟨C1', f1, f3.2.1, y_it1b b6 hs ?_ f3⟩
    have e1 : (if z_wi C1 = ((17 : Nat) : Int) then (1 : Int) else 0) = 0 := if_neg (by omega)
    have e2 : (if z_wi C1 = ((16 : Nat) : Int) then (1 : Int) else 0) = 0 := if_neg (by omega)
    unfold f_12_behind
    rw [n1, ev_bvS, wD 17 6385252 (by decide) rfl, ev_bdS, e1, if_neg (show ¬ (0 : Int) ≠ 0 by decide), wD 16 28530 (by decide) rfl, ev_bdS, e2, if_pos (rfl : (0 : Int) = 0), j1, ev_bvS, v2, ev_bdS]
    by_cases hv : v = 0
    · rw [if_pos hv]
      exact y_b01 f2
    · rw [if_neg hv, if_neg (show ¬ E 12 47 ≠ 0 by omega)]
      exact y_b01 f2
theorem y_read {C1 C2 : ev_C} (h : y_A C1 C2 [] 1 0) : ∃ C1', f_9_readCond_14_8_6_k0 C1 = some C1' ∧ ((C1' 8 9 = 0 ∧ C1' 8 4 = 0 ∧ ∃ C2', f_12_sentence_L48 1000 C2 1 = some (C1' 14 0, C2') ∧ C2' 12 15 = 0) ∨ (C1' 8 9 = 0 ∧ C1' 8 4 ≠ 0 ∧ ∃ C1'' C2', f_8_fail C1' 1 = some C1'' ∧ C1'' 8 9 ≠ 0 ∧ f_12_sentence_L48 1000 C2 1 = some (ev_w ((-1 : Int) - C1'' 8 10), C2') ∧ C1'' 8 9 = C2' 12 15) ∨ (C1' 8 9 ≠ 0 ∧ ∃ C2', f_12_sentence_L48 1000 C2 1 = some (ev_w ((-1 : Int) - C1' 8 10), C2') ∧ C1' 8 9 = C2' 12 15)) := by
  obtain ⟨E, e1, e2⟩ := y_cond0 h (fun x S' e => by cases e)
  obtain ⟨hb, -, -⟩ := y_B1 h
  refine ⟨E, e1, ?_⟩
  rcases e2 with ⟨j, a, C2e, k, o0, o1, o2, o3, o4, o5⟩ | ⟨fb, fn, k, fk, fbad⟩
  · obtain ⟨he, -, he2⟩ := y_B1 o1
    obtain ⟨t1, t2⟩ := y_top o1 (by omega) o5 o0
    by_cases h0 : E 8 4 = 0
    · refine Or.inl ⟨he2, h0, ?_⟩
      obtain ⟨C2', g1, g2⟩ := t1 h0 (998 - k)
      refine ⟨C2', ?_, g2⟩
      have e := o4 (998 - k + 2)
      rw [show 998 - k + 2 + k = 1000 by omega] at e
      exact e.trans g1
    · refine Or.inr (Or.inl ⟨he2, h0, ?_⟩)
      obtain ⟨C1'', f1, f2, f3⟩ := t2 h0
      obtain ⟨C2', g1, g2⟩ := (o4.bad f3) (999 - k)
      rw [show 999 - k + (1 + k) = 1000 by omega] at g1
      exact ⟨C1'', C2', f1, f2, g1, g2⟩
  · refine Or.inr (Or.inr ⟨fn, ?_⟩)
    obtain ⟨C2', g1, g2⟩ := fbad (1000 - k)
    rw [show 1000 - k + k = 1000 by omega] at g1
    exact ⟨C2', g1, g2⟩
theorem y_sentence {C1 C2 : ev_C} (hB : z_B C1 C2) (hF : y_fk C1 C2) : ∃ (r : Int) (C1' C2' : ev_C), f_11_sentence C1 = some (r, C1') ∧ f_12_sentence C2 = some (r, C2') ∧ C1' 11 13 = C2' 12 15 := by
  obtain ⟨b1, b2, b3, b4⟩ := hB
  obtain ⟨X1, hX1⟩ : ∃ X1, X1 = ev_u (ev_u (ev_u (ev_u C1 8 2 200) 8 3 0) 8 9 0) 8 10 0 := ⟨_, rfl⟩
  obtain ⟨Y0, hY0⟩ : ∃ Y0, Y0 = ev_u (ev_u (ev_u (ev_u (ev_u (ev_u (ev_u (ev_u (ev_u (ev_u (ev_u C2 12 0 0) 12 3 (ev_u C2 12 0 0 12 2)) 12 2 0) 12 4 0) 12 5 200) 12 15 0) 12 45 0) 12 46 0) 12 47 0) 12 48 1) 12 49 0 := ⟨_, rfl⟩
  have hE0 : z_E X1 Y0 := by
    rw [hX1, hY0]
    exact ⟨b1, b2, b3, rfl, (by decide : (0 : Int) ≤ 200 ∧ (200 : Int) ≤ 940), b4⟩
  have hD : z_D X1 Y0 := by
    refine ⟨hE0, by rw [hX1]; rfl, by rw [hY0]; rfl, by rw [hX1, hY0]; rfl, by rw [hX1]; exact Int.le_refl 0, ?_⟩
    rw [hX1]
    exact b3.1
  obtain ⟨A1, A2, a1, a2, a3, a4, a5, -⟩ := z_stp hD
  obtain ⟨B1, hB1⟩ : ∃ B1, B1 = ev_u (ev_u A1 14 0 0) 14 1 0 := ⟨_, rfl⟩
  have q : ∀ i : Nat, 45 ≤ i → A2 12 i = Y0 12 i := fun i h => a5.2 i (by omega) (by omega) (by omega) (by omega) (by omega) (by omega)
  have hy : y_A B1 A2 [] 1 0 := by
    refine ⟨a3.c1 (fun t ht => by rw [hB1, ev_ut ht, ev_ut ht]), ?_, ?_, ?_, ?_, trivial, ?_, ?_, ?_, ?_⟩
    · rw [q 46 (by decide), hY0, hB1]; rfl
    · rw [hB1]; exact (by decide : (0 : Int) ≤ 0 ∧ (0 : Int) ≤ 20)
    · rw [hB1]; exact (by decide : (0 : Int) ≤ 0 ∧ (0 : Int) ≤ 40)
    · rw [q 47 (by decide), hY0]; rfl
    · rw [q 48 (by decide), hY0]; rfl
    · rw [q 49 (by decide), hY0]; rfl
    · rw [q 45 (by decide), hY0, hB1]; exact (by decide : (0 : Int) ≤ 0 ∧ (0 : Int) + 0 + 0 ≤ 2 * 0)
    · unfold y_fk
      have e6 : B1 6 = C1 6 := by rw [hB1, ev_ut (by decide), ev_ut (by decide), a4.1 6 (by decide), hX1]; rfl
      have e68 : B1 68 = C1 68 := by rw [hB1, ev_ut (by decide), ev_ut (by decide), a4.1 68 (by decide), hX1]; rfl
      have e34 : A2 34 = C2 34 := by rw [a5.1 34 (by decide), hY0]; rfl
      have e19 : A2 19 = C2 19 := by rw [a5.1 19 (by decide), hY0]; rfl
      rw [e6, e68, e34, e19]
      exact hF
  obtain ⟨R, r1, r2⟩ := y_read hy
  have hT : f_12_sentence C2 = f_12_sentence_L48 1000 A2 1 := by
    unfold f_12_sentence f_12_taken
    rw [ev_bvS]
    show (ev_bv (f_12_go (ev_u (ev_u (ev_u (ev_u (ev_u (ev_u (ev_u (ev_u (ev_u (ev_u (ev_u C2 12 0 0) 12 3 (ev_u C2 12 0 0 12 2)) 12 2 0) 12 4 0) 12 5 200) 12 15 0) 12 45 0) 12 46 0) 12 47 0) 12 48 1) 12 49 0) ) fun C3 => f_12_sentence_L48 1000 C3 1) = _
    rw [← hY0, a2, ev_bvS]
  have hK : f_11_sentence C1 = (ev_bv (f_9_read_14_8_6 A1) fun C2 => if (C2 8 9) = 0 then (ev_bv (f_9_copyFrom_14 (ev_u (ev_u C2 10 1 0) 11 13 ((C2 8 9)))) fun C4 => some ((C4 9 0), C4)) else some (ev_w ((-1 : Int) - ((C2 8 10))), (ev_u (ev_u C2 10 1 0) 11 13 ((C2 8 9))))) := by
    unfold f_11_sentence f_8_open
    rw [← hX1, a1, ev_bvS, ev_bvS]
  have hR : f_9_read_14_8_6 A1 = (ev_bd (f_8_isFine R) fun r3 C3 => if r3 = 0 then some C3 else if (C3 8 4) = 0 then some C3 else (ev_bv (f_8_fail C3 1) fun C6 => some C6)) := by
    unfold f_9_read_14_8_6 f_9_clear_14
    rw [ev_bvS, ← hB1, r1, ev_bvS]
  rcases r2 with ⟨s0, s1, Z, s2, s3⟩ | ⟨s0, s1, R', Z, s2, s3, s4, s5⟩ | ⟨s0, Z, s1, s2⟩
  · rw [y_fine.1 s0, ev_bdS, if_neg (show ¬ (1 : Int) = 0 by decide), if_pos s1] at hR
    rw [hR, ev_bvS, if_pos s0] at hK
    unfold f_9_copyFrom_14 at hK
    rw [ev_bvS] at hK
    refine ⟨R 14 0, _, Z, hK, hT.trans s2, ?_⟩
    rw [s3]
    exact s0
  · rw [y_fine.1 s0, ev_bdS, if_neg (show ¬ (1 : Int) = 0 by decide), if_neg s1, s2, ev_bvS] at hR
    rw [hR, ev_bvS, if_neg s3] at hK
    exact ⟨_, _, Z, hK, hT.trans s4, s5⟩
  · rw [y_fine.2 s0, ev_bdS, if_pos (rfl : (0 : Int) = 0)] at hR
    rw [hR, ev_bvS, if_neg s0] at hK
    exact ⟨_, _, Z, hK, hT.trans s1, s2⟩
