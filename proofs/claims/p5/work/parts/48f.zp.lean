/-! THE TWO READERS ALIKE, 6: what is told so far; names, numbers, faults. -/
def z_P (C1 C2 : ev_C) : Prop :=
  ((C1 13 0 = C2 35 0 ∧ 0 ≤ C1 13 0 ∧ C1 13 0 ≤ 6) ∧ (C1 13 1 = C2 35 1 ∧ 0 ≤ C1 13 1 ∧ C1 13 1 ≤ 6) ∧ (C1 13 2 = C2 35 2 ∧ 0 ≤ C1 13 2 ∧ C1 13 2 ≤ 8) ∧ (C1 13 3 = C2 35 3 ∧ 0 ≤ C1 13 3 ∧ C1 13 3 ≤ 6) ∧ (C1 13 4 = C2 35 4 ∧ 0 ≤ C1 13 4 ∧ C1 13 4 ≤ 12) ∧ (C1 13 5 = C2 35 5 ∧ 0 ≤ C1 13 5 ∧ C1 13 5 ≤ 1)) ∧
  ((∀ k : Nat, (k : Int) < C1 13 0 → z_N (C1 53 k) (C2 19 (20 + k))) ∧ (∀ k : Nat, (k : Int) < C1 13 1 → z_N (C1 54 k) (C2 19 (26 + k))) ∧ (∀ k : Nat, (k : Int) < C1 13 2 → z_N (C1 55 k) (C2 19 (32 + k)))) ∧
  ((∀ k : Nat, k < 6 → C1 57 k = C2 35 (12 + k)) ∧ (∀ k : Nat, k < 6 → C1 58 k = C2 35 (34 + k)) ∧ (∀ k : Nat, k < 8 → C1 61 k = C2 35 (88 + k)) ∧ (∀ k : Nat, k < 8 → C1 62 k = C2 35 (96 + k)) ∧ (∀ k : Nat, k < 48 → C1 63 k = C2 35 (40 + k) ∧ 0 ≤ C1 63 k)) ∧
  ((∀ k : Nat, (k : Int) < C1 13 4 → C1 64 k = C2 35 (104 + k)) ∧ (∀ k : Nat, k < 12 → C1 65 k = C2 35 (116 + k)) ∧ (∀ k : Nat, k < 12 → C1 66 k = C2 35 (128 + k)) ∧ (∀ k : Nat, C1 13 4 ≤ k → k < 12 → C1 65 k = 0))
theorem z_P.al {C1 C2 C1' C2' : ev_C} (h : z_P C1 C2) (h13 : C1' 13 = C1 13) (h53 : C1' 53 = C1 53) (h54 : C1' 54 = C1 54) (h55 : C1' 55 = C1 55) (h57 : C1' 57 = C1 57) (h58 : C1' 58 = C1 58) (h61 : C1' 61 = C1 61) (h62 : C1' 62 = C1 62) (h63 : C1' 63 = C1 63) (h64 : C1' 64 = C1 64) (h65 : C1' 65 = C1 65) (h66 : C1' 66 = C1 66) (h35 : C2' 35 = C2 35) (h19 : C2' 19 = C2 19) : z_P C1' C2' := by
  unfold z_P
  rw [h13, h53, h54, h55, h57, h58, h61, h62, h63, h64, h65, h66, h35, h19]
  exact h
theorem z_P.mv {C1 C2 C1' C2' : ev_C} (h : z_P C1 C2) (h1 : z_F1 C1 C1') (h2 : z_F2 C2 C2') : z_P C1' C2' := h.al (h1.1 _ (by decide)) (h1.1 _ (by decide)) (h1.1 _ (by decide)) (h1.1 _ (by decide)) (h1.1 _ (by decide)) (h1.1 _ (by decide)) (h1.1 _ (by decide)) (h1.1 _ (by decide)) (h1.1 _ (by decide)) (h1.1 _ (by decide)) (h1.1 _ (by decide)) (h1.1 _ (by decide)) (h2.1 _ (by decide)) (h2.1 _ (by decide))
/-- between two tokens: where both stand -/
def z_D (C1 C2 : ev_C) : Prop := z_E C1 C2 ∧ C1 8 9 = 0 ∧ C2 12 15 = 0 ∧ C1 8 3 = C2 12 4 ∧ 0 ≤ C1 8 3 ∧ C1 8 3 ≤ C1 10 1
/-- at a token -/
def z_A (C1 C2 : ev_C) : Prop := z_D C1 C2 ∧ z_T C1 C2
/-- a fault of both -/
def z_X (C1 C2 : ev_C) : Prop := C1 8 9 = C2 12 15 ∧ C1 8 9 ≠ 0 ∧ C1 8 10 = C2 12 16 ∧ 0 ≤ C1 8 10 ∧ C1 8 10 ≤ 940
/-- further on -/
def z_M (C1 C1' : ev_C) : Prop := C1 8 3 ≤ C1' 8 3 ∧ (C1' 8 4 = 0 ∨ C1' 8 4 = 4 ∨ C1 8 3 + 1 ≤ C1' 8 3)
theorem z_M.tr {C C' C'' : ev_C} (h : C 8 3 ≤ C' 8 3) (h' : z_M C' C'') : z_M C C'' := by
  obtain ⟨a, b⟩ := h'
  exact ⟨by omega, by omega⟩
theorem z_stp {C1 C2 : ev_C} (h : z_D C1 C2) : ∃ C1' C2', f_8_step C1 = some C1' ∧ f_12_go C2 = some C2' ∧ z_A C1' C2' ∧ z_F1 C1 C1' ∧ z_F2 C2 C2' ∧ z_M C1 C1' := by
  obtain ⟨hE, h9, h15, hp, h0, h1⟩ := h
  obtain ⟨C1', C2', g1, g2, g3, g4, g5, g6, g7⟩ := z_lex hE hp h0 h1
  refine ⟨C1', C2', g1, g2, ⟨⟨hE.mv g4 g5, ?_, ?_, g3.2.1, g3.2.2.1.1, g3.2.2.1.2⟩, g3⟩, g4, g5, g6, g7⟩
  · rw [g4.2 9 (by decide) (by decide) (by decide) (by decide) (by decide) (by decide)]
    exact h9
  · rw [g5.2 15 (by decide) (by decide) (by decide) (by decide) (by decide) (by decide)]
    exact h15
theorem z_fail {C1 C2 : ev_C} {k : Int} (h : z_A C1 C2) (hk : k ≠ 0) : ∃ C1' C2', f_8_fail C1 k = some C1' ∧ f_12_bad C2 k = some (0, C2') ∧ z_X C1' C2' := by
  obtain ⟨⟨hE, h9, -⟩, -, -, -, t1, t2, t3⟩ := h
  refine ⟨ev_u (ev_u C1 8 9 k) 8 10 (C1 8 5), ev_u (ev_u C2 12 15 k) 12 16 (C2 12 12), ?_, rfl, rfl, hk, t1, t2, t3⟩
  unfold f_8_fail
  rw [if_neg (fun q => q h9)]
/-! is it a name -/
theorem z_isNL {C : ev_C} : ∀ (N k : Nat) (v : Int), 27 - k < N → k ≤ 27 → (v = 0 ∨ v = 1) → ∃ w, f_12_isName_L16 N C v k = some (w, C) ∧ ((w = 1 ∧ v = 1 ∧ ∀ j : Nat, k ≤ j → j < 27 → C 12 17 ≠ C 50 j) ∨ (w = 0 ∧ (v = 0 ∨ ∃ j : Nat, k ≤ j ∧ j < 27 ∧ C 12 17 = C 50 j)))
  | 0, k, v, h, _, _ => by omega
  | N + 1, k, v, h, hk, hv => by
    unfold f_12_isName_L16
    by_cases h1 : (27 : Int) ≤ k
    · rw [if_pos h1, if_pos (by omega)]
      refine ⟨v, rfl, ?_⟩
      rcases hv with hv | hv
      · exact Or.inr ⟨hv, Or.inl hv⟩
      · exact Or.inl ⟨hv, hv, fun j a b => by omega⟩
    · rw [if_neg h1]
      unfold f_12_isName_J44 f_12_isName_J45
      have e1 : ev_w ((k : Int) + 1) = ((k + 1 : Nat) : Int) := by rw [ev_w_id (by omega) (by omega)]; omega
      by_cases h2 : v = 0
      · rw [if_pos h2, e1]
        obtain ⟨w, g1, g2⟩ := z_isNL (C := C) N (k + 1) 0 (by omega) (by omega) (Or.inl rfl)
        refine ⟨w, g1, ?_⟩
        rcases g2 with ⟨_, g3, _⟩ | ⟨g3, _⟩
        · cases g3
        · exact Or.inr ⟨g3, Or.inl h2⟩
      · rw [if_neg h2, if_pos (by omega), Int.toNat_natCast]
        by_cases h3 : C 12 17 = C 50 k
        · rw [if_pos (z_cmp.mpr h3), e1]
          obtain ⟨w, g1, g2⟩ := z_isNL (C := C) N (k + 1) 0 (by omega) (by omega) (Or.inl rfl)
          refine ⟨w, g1, ?_⟩
          rcases g2 with ⟨_, g3, _⟩ | ⟨g3, _⟩
          · cases g3
          · exact Or.inr ⟨g3, Or.inr ⟨k, Nat.le_refl _, by omega, h3⟩⟩
        · rw [if_neg (fun q => h3 (z_cmp.mp q)), e1]
          obtain ⟨w, g1, g2⟩ := z_isNL (C := C) N (k + 1) 1 (by omega) (by omega) (Or.inr rfl)
          refine ⟨w, g1, ?_⟩
          rcases g2 with ⟨g3, _, g4⟩ | ⟨g3, g4⟩
          · refine Or.inl ⟨g3, by omega, fun j a b => ?_⟩
            by_cases e : j = k
            · subst e; exact h3
            · exact g4 j (by omega) b
          · refine Or.inr ⟨g3, Or.inr ?_⟩
            rcases g4 with g4 | ⟨j, a, b, c⟩
            · cases g4
            · exact ⟨j, by omega, b, c⟩
/-- a name of both, or of neither -/
theorem z_name {C1 C2 : ev_C} (h : z_A C1 C2) : (f_8_isAtName C1 = some (1, C1) ∧ f_12_isName C2 = some (1, C2) ∧ z_N (C1 8 8) (C2 12 17)) ∨ (f_8_isAtName C1 = some (0, C1) ∧ f_12_isName C2 = some (0, C2)) := by
  obtain ⟨⟨hE, -⟩, hK, -⟩ := h
  have hR := hE.2.2.2.2.2
  have no : C2 12 11 ≠ 1 → f_12_isName C2 = some (0, C2) := by
    intro hne
    unfold f_12_isName f_12_isName_J13
    rw [if_pos hne]
    obtain ⟨w, g1, g2⟩ := z_isNL (C := C2) 1000 0 0 (by decide) (by decide) (Or.inl rfl)
    have g1 : f_12_isName_L16 1000 C2 0 0 = some (w, C2) := g1
    rcases g2 with ⟨_, g3, _⟩ | ⟨g3, _⟩
    · cases g3
    · rw [g1, g3]
  have no1 : C1 8 4 ≠ 1 → f_8_isAtName C1 = some (0, C1) := by
    intro hne
    unfold f_8_isAtName
    rw [if_pos hne]
  rcases hK with ⟨k1, k2⟩ | ⟨k1, k2, k3, k4⟩ | ⟨k1, k2, -⟩ | ⟨k1, k2, -⟩ | ⟨k2, k1⟩
  · exact Or.inr ⟨no1 (by omega), no (by omega)⟩
  · obtain ⟨w, g1, g2⟩ := z_isNL (C := C2) 1000 0 1 (by decide) (by decide) (Or.inr rfl)
    have g1 : f_12_isName_L16 1000 C2 1 0 = some (w, C2) := g1
    have q2 : f_12_isName C2 = some (w, C2) := by
      unfold f_12_isName f_12_isName_J13
      rw [if_neg (by omega)]
      exact g1
    have q1 : f_8_isAtName C1 = if C1 8 7 ≠ -1 then some (0, C1) else some (1, C1) := by
      unfold f_8_isAtName
      rw [if_neg (by omega)]
    rw [q1, q2]
    rcases k4 with ⟨j, j1, j2, j3⟩ | ⟨j2, j3⟩
    · rw [if_pos (by omega)]
      refine Or.inr ⟨rfl, ?_⟩
      rcases g2 with ⟨_, _, g4⟩ | ⟨g3, _⟩
      · exact absurd (((z_N_eq k3 (z_VW j j1)).mp j3).trans (hR j j1).2.symm) (g4 j (by omega) j1)
      · rw [g3]
    · rw [if_neg (by omega)]
      refine Or.inl ⟨rfl, ?_, k3⟩
      rcases g2 with ⟨g3, _, _⟩ | ⟨_, g4⟩
      · rw [g3]
      · rcases g4 with g4 | ⟨j, _, j1, g4⟩
        · cases g4
        · exact absurd ((z_N_eq k3 (z_VW j j1)).mpr (g4.trans (hR j j1).2)) (j3 j j1)
  · exact Or.inr ⟨no1 (by omega), no (by omega)⟩
  · exact Or.inr ⟨no1 (by omega), no (by omega)⟩
  · refine Or.inr ⟨no1 (by rcases k1 with k1 | ⟨k1, -⟩ <;> omega), no (by omega)⟩
/-- which word: the reference's chain -/
def z_wi (C1 : ev_C) : Int := if C1 8 4 = 1 then C1 8 7 else -1
theorem z_word {C1 C2 : ev_C} (h : z_A C1 C2) : f_8_wordHere C1 = some (z_wi C1, C1) ∧ ∀ (j : Nat) (w : Int), j < 27 → z_W.getD j 0 = w → f_12_isWord C2 w = some (if z_wi C1 = j then 1 else 0, C2) := by
  obtain ⟨⟨hE, -⟩, hK, -⟩ := h
  refine ⟨?_, ?_⟩
  · unfold f_8_wordHere z_wi
    by_cases h1 : C1 8 4 = 1
    · rw [if_neg (fun q => q h1), if_pos h1]
    · rw [if_pos h1, if_neg h1]
  · intro j w hj hw
    unfold f_12_isWord z_wi
    have no : C2 12 11 ≠ 1 → C1 8 4 ≠ 1 → (if C2 12 11 ≠ 1 then some ((0 : Int), C2) else if ev_cmp (C2 12 17) w ≠ 0 then some (0, C2) else some (1, C2)) = some (if (if C1 8 4 = 1 then C1 8 7 else -1) = (j : Int) then 1 else 0, C2) := by
      intro a b
      rw [if_pos a, if_neg b, if_neg (by omega)]
    rcases hK with ⟨k1, k2⟩ | ⟨k1, k2, k3, k4⟩ | ⟨k1, k2, -⟩ | ⟨k1, k2, -⟩ | ⟨k2, k1⟩
    · exact no (by omega) (by omega)
    · rw [if_neg (by omega), if_pos k1]
      have hjw := z_N_eq k3 (z_VW j hj)
      rw [hw] at hjw
      by_cases c : C2 12 17 = w
      · rw [if_neg (fun q => q (z_cmp.mpr c))]
        have e := hjw.mpr c
        rcases k4 with ⟨i, i1, i2, i3⟩ | ⟨i2, i3⟩
        · have : i = j := z_Vinj i i1 j hj (i3.symm.trans e)
          rw [if_pos (by omega)]
        · exact absurd e (i3 j hj)
      · rw [if_pos (fun q => c (z_cmp.mp q))]
        rw [if_neg ?_]
        intro e
        rcases k4 with ⟨i, i1, i2, i3⟩ | ⟨i2, i3⟩
        · have : i = j := by omega
          subst this
          exact c (hjw.mp i3)
        · omega
    · exact no (by omega) (by omega)
    · exact no (by omega) (by omega)
    · exact no (by omega) (by rcases k1 with k1 | ⟨k1, -⟩ <;> omega)
