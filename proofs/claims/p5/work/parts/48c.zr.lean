/-! THE TWO READERS ALIKE, 3: a run of letters and digits. -/
def z_F1 (C C' : ev_C) : Prop := (∀ t : Nat, t ≠ 8 → C' t = C t) ∧ ∀ j : Nat, j ≠ 3 → j ≠ 4 → j ≠ 5 → j ≠ 6 → j ≠ 7 → j ≠ 8 → C' 8 j = C 8 j
def z_F2 (C C' : ev_C) : Prop := (∀ t : Nat, t ≠ 12 → C' t = C t) ∧ ∀ j : Nat, j ≠ 4 → j ≠ 11 → j ≠ 12 → j ≠ 13 → j ≠ 14 → j ≠ 17 → C' 12 j = C 12 j
theorem z_F1.rf {C : ev_C} : z_F1 C C := ⟨fun _ _ => rfl, fun _ _ _ _ _ _ _ => rfl⟩
theorem z_F2.rf {C : ev_C} : z_F2 C C := ⟨fun _ _ => rfl, fun _ _ _ _ _ _ _ => rfl⟩
theorem z_F1.tr {C C' C'' : ev_C} (h : z_F1 C C') (h' : z_F1 C' C'') : z_F1 C C'' := ⟨fun t ht => (h'.1 t ht).trans (h.1 t ht), fun j a b c d e f => (h'.2 j a b c d e f).trans (h.2 j a b c d e f)⟩
theorem z_F2.tr {C C' C'' : ev_C} (h : z_F2 C C') (h' : z_F2 C' C'') : z_F2 C C'' := ⟨fun t ht => (h'.1 t ht).trans (h.1 t ht), fun j a b c d e f => (h'.2 j a b c d e f).trans (h.2 j a b c d e f)⟩
theorem z_F1.u {C C' : ev_C} {j : Nat} {n : Int} (h : z_F1 C C') (hj : 3 ≤ j ∧ j ≤ 8) : z_F1 C (ev_u C' 8 j n) := ⟨fun t ht => (ev_ut ht).trans (h.1 t ht), fun i a b c d e f => (ev_un (fun q => by have := q.2; omega)).trans (h.2 i a b c d e f)⟩
theorem z_F2.u {C C' : ev_C} {j : Nat} {n : Int} (h : z_F2 C C') (hj : j = 4 ∨ j = 11 ∨ j = 12 ∨ j = 13 ∨ j = 14 ∨ j = 17) : z_F2 C (ev_u C' 12 j n) := ⟨fun t ht => (ev_ut ht).trans (h.1 t ht), fun i a b c d e f => (ev_un (fun q => by have := q.2; omega)).trans (h.2 i a b c d e f)⟩
theorem z_E.mv {C1 C2 C1' C2' : ev_C} (h : z_E C1 C2) (h1 : z_F1 C1 C1') (h2 : z_F2 C2 C2') : z_E C1' C2' := by
  obtain ⟨a1, a2, a3, a4, a5, a6⟩ := h
  have e1 := h1.1 15 (by decide)
  have e2 := h1.1 10 (by decide)
  have e3 := h1.1 16 (by decide)
  have e4 := h2.1 49 (by decide)
  have e5 := h2.1 50 (by decide)
  have e6 := h1.2 2 (by decide) (by decide) (by decide) (by decide) (by decide) (by decide)
  have e7 := h2.2 3 (by decide) (by decide) (by decide) (by decide) (by decide) (by decide)
  have e8 := h2.2 5 (by decide) (by decide) (by decide) (by decide) (by decide) (by decide)
  unfold z_E
  rw [e1, e2, e3, e4, e5, e6, e7, e8]
  exact ⟨a1, a2, a3, a4, a5, a6⟩
theorem z_E.b1 {C1 C2 : ev_C} (h : z_E C1 C2) : ∀ k : Nat, k < 940 → -2147483648 ≤ C1 15 k ∧ C1 15 k ≤ 2147483647 := fun k hk => (h.1 k hk).2
theorem z_E.b2 {C1 C2 : ev_C} (h : z_E C1 C2) : ∀ k : Nat, k < 940 → -2147483648 ≤ C2 49 k ∧ C2 49 k ≤ 2147483647 := fun k hk => by rw [← (h.1 k hk).1]; exact (h.1 k hk).2
theorem ev_bdS {α : Type} {r : Int} {C : ev_C} {g : Int → ev_C → Option α} : ev_bd (some (r, C)) g = g r C := rfl
theorem ev_bvS {α : Type} {C : ev_C} {g : ev_C → Option α} : ev_bv (some C) g = g C := rfl
/-! the reference's run: a step, the end -/
def z_wrd (C : ev_C) (b : Int) : ev_C := if 7 ≤ C 12 13 then C else ev_u C 12 17 (ev_lor (ev_lshl (C 12 17) 8) b)
def z_num (C : ev_C) (b : Int) : ev_C := if 2 ≤ C 12 13 then C else ev_u C 12 14 (ev_w ((ev_w ((ev_w ((10 : Int) * (C 12 14))) + b)) - (48 : Int)))
def z_ad2 (C : ev_C) : ev_C := ev_u (ev_u C 12 13 (ev_w (C 12 13 + (1 : Int)))) 12 4 (ev_w (C 12 4 + (1 : Int)))
def z_adv (C : ev_C) (b : Int) : ev_C := z_ad2 (z_num (z_wrd C b) b)
theorem z_J275 {K : ev_C → Int → Int → Int → Option ev_C} {C : ev_C} {y1 y2 y3 : Int} : f_12_go_J275 K C y1 y2 y3 = K (z_ad2 C) y1 y2 y3 := rfl
def z_at (C : ev_C) (b : Int) : Prop := ∀ C' : ev_C, C' 49 = C 49 → C' 12 4 = C 12 4 → C' 12 3 = C 12 3 → f_12_peek C' = some (b, C')
theorem z_at.u {C : ev_C} {b n : Int} {j : Nat} (h : z_at C b) (hj : j ≠ 4 ∧ j ≠ 3) : z_at (ev_u C 12 j n) b := fun C' h1 h2 h3 => h C' (h1.trans (ev_ut (by decide))) (h2.trans (ev_un (fun q => hj.1 q.2.symm))) (h3.trans (ev_un (fun q => hj.2 q.2.symm)))
theorem z_at.wrd {C : ev_C} {b : Int} (h : z_at C b) : z_at (z_wrd C b) b := by
  unfold z_wrd
  split
  · exact h
  · exact h.u (by decide)
theorem z_J248 {K : ev_C → Int → Int → Int → Option ev_C} {C : ev_C} {y1 y2 y3 b : Int} (h : z_at C b) : f_12_go_J248 K C y1 y2 y3 = K (z_ad2 (z_num C b)) y1 y2 y3 := by
  unfold f_12_go_J248 z_num
  by_cases h1 : 2 ≤ C 12 13
  · rw [if_pos h1, if_pos h1]; rfl
  · rw [if_neg h1, if_neg h1, h C rfl rfl rfl]; rfl
theorem z_J221 {K : ev_C → Int → Int → Int → Option ev_C} {C : ev_C} {y1 y2 y3 w b : Int} (h : z_at C b) : f_12_go_J221 K C y1 y2 y3 w = K (z_adv C b) y1 y2 w := by
  unfold f_12_go_J221
  have h2 := h.wrd
  unfold z_adv z_wrd at *
  by_cases h1 : 7 ≤ C 12 13
  · rw [if_pos h1] at h2 ⊢
    rw [if_pos h1]
    exact z_J248 h2
  · rw [if_neg h1] at h2 ⊢
    rw [if_neg h1, h C rfl rfl rfl]
    exact z_J248 h2
theorem z_J201 {K : ev_C → Int → Int → Int → Option ev_C} {C : ev_C} {y1 y2 y3 b : Int} (h : z_at C b) : f_12_go_J201 K C y1 y2 y3 = K (z_adv C b) y1 y2 (if y3 = 0 then 0 else if (if 97 ≤ b ∧ b ≤ 122 then 1 else 0) = y2 then 1 else 0) := by
  unfold f_12_go_J201 f_12_go_J220
  by_cases h1 : y3 = 0
  · rw [if_pos h1, if_pos h1]
    exact z_J221 h
  · rw [if_neg h1, if_neg h1, h C rfl rfl rfl]
    rw [ev_bdS, z_isSmall, ev_bdS]
    by_cases h2 : (if 97 ≤ b ∧ b ≤ 122 then (1 : Int) else 0) = y2
    · rw [if_neg (fun q => q h2), if_pos h2]
      exact z_J221 h
    · rw [if_pos h2, if_neg h2]
      exact z_J221 h
theorem z_goS {N : Nat} {C : ev_C} {y1 y2 y3 b : Int} (h : z_at C b) (hb : (97 ≤ b ∧ b ≤ 122) ∨ (48 ≤ b ∧ b ≤ 57)) : f_12_go_L181 (N + 1) C y1 y2 y3 = f_12_go_L181 N (z_adv C b) y1 y2 (if y3 = 0 then 0 else if (if 97 ≤ b ∧ b ≤ 122 then 1 else 0) = y2 then 1 else 0) := by
  rw [f_12_go_L181, h C rfl rfl rfl]
  rw [ev_bdS, z_isSmall, ev_bdS]
  by_cases h1 : 97 ≤ b ∧ b ≤ 122
  · rw [if_pos (by rw [if_pos h1]; decide)]
    exact z_J201 h
  · rw [if_neg (by rw [if_neg h1]; decide), h C rfl rfl rfl]
    rw [ev_bdS, z_isDigit2, if_pos (show 48 ≤ b ∧ b ≤ 57 by omega), ev_bdS]
    rw [if_neg (by decide)]
    exact z_J201 h
theorem z_goX {N : Nat} {C : ev_C} {y1 y2 y3 b : Int} (h : z_at C b) (hb : ¬ ((97 ≤ b ∧ b ≤ 122) ∨ (48 ≤ b ∧ b ≤ 57))) : f_12_go_L181 (N + 1) C y1 y2 y3 = some (ev_u C 12 11 (if y3 = 0 then 4 else if y2 = 0 then (if C 12 13 ≤ 2 then 2 else 4) else (if C 12 13 ≤ 7 then 1 else 4))) := by
  rw [f_12_go_L181, h C rfl rfl rfl]
  rw [ev_bdS, z_isSmall, if_neg (show ¬ (97 ≤ b ∧ b ≤ 122) by omega), ev_bdS]
  rw [if_neg (by decide), h C rfl rfl rfl]
  rw [ev_bdS, z_isDigit2, if_neg (show ¬ (48 ≤ b ∧ b ≤ 57) by omega), ev_bdS]
  rw [if_pos rfl]
  by_cases h1 : y3 = 0
  · rw [if_pos h1, if_pos h1]
  · rw [if_neg h1, if_neg h1]
    by_cases h2 : y2 = 0
    · rw [if_pos h2, if_pos h2]
      unfold f_12_go_J317
      by_cases h3 : C 12 13 ≤ 2
      · rw [if_pos h3, if_pos h2, if_pos h3]
      · rw [if_neg h3, if_neg h3]
    · rw [if_neg h2, if_neg h2]
      unfold f_12_go_J317
      by_cases h3 : C 12 13 ≤ 7
      · rw [if_pos h3, if_neg h2, if_pos h3]
      · rw [if_neg h3, if_neg h3]
theorem z_adv_F {C : ev_C} {b : Int} : z_F2 C (z_adv C b) := by
  have h1 : z_F2 C (z_wrd C b) := by
    unfold z_wrd
    split
    · exact z_F2.rf
    · exact z_F2.rf.u (by decide)
  have h2 : z_F2 C (z_num (z_wrd C b) b) := by
    unfold z_num
    split
    · exact h1
    · exact h1.u (by decide)
  exact (h2.u (by decide)).u (by decide)
theorem z_adv_v {C : ev_C} {b : Int} (h0 : 0 ≤ C 12 13) (h1 : C 12 13 ≤ 1000) (h2 : 0 ≤ C 12 4) (h3 : C 12 4 ≤ 1000) : z_adv C b 12 4 = C 12 4 + 1 ∧ z_adv C b 12 13 = C 12 13 + 1 ∧ z_adv C b 12 12 = C 12 12 ∧ z_adv C b 12 17 = (if 7 ≤ C 12 13 then C 12 17 else ev_lor (ev_lshl (C 12 17) 8) b) ∧ z_adv C b 12 14 = (if 2 ≤ C 12 13 then C 12 14 else ev_w ((ev_w ((ev_w ((10 : Int) * (C 12 14))) + b)) - (48 : Int))) := by
  have a1 : z_wrd C b 12 13 = C 12 13 ∧ z_wrd C b 12 4 = C 12 4 ∧ z_wrd C b 12 14 = C 12 14 ∧ z_wrd C b 12 12 = C 12 12 ∧ z_wrd C b 12 17 = (if 7 ≤ C 12 13 then C 12 17 else ev_lor (ev_lshl (C 12 17) 8) b) := by
    unfold z_wrd
    split
    · exact ⟨rfl, rfl, rfl, rfl, rfl⟩
    · exact ⟨rfl, rfl, rfl, rfl, rfl⟩
  have a2 : z_num (z_wrd C b) b 12 13 = C 12 13 ∧ z_num (z_wrd C b) b 12 4 = C 12 4 ∧ z_num (z_wrd C b) b 12 12 = C 12 12 ∧ z_num (z_wrd C b) b 12 17 = (if 7 ≤ C 12 13 then C 12 17 else ev_lor (ev_lshl (C 12 17) 8) b) ∧ z_num (z_wrd C b) b 12 14 = (if 2 ≤ C 12 13 then C 12 14 else ev_w ((ev_w ((ev_w ((10 : Int) * (C 12 14))) + b)) - (48 : Int))) := by
    obtain ⟨b1, b2, b3, b4, b5⟩ := a1
    unfold z_num
    rw [b1, b3]
    by_cases h : 2 ≤ C 12 13
    · rw [if_pos h]
      exact ⟨b1, b2, b4, b5, by rw [if_pos h]; exact b3⟩
    · rw [if_neg h]
      exact ⟨b1, b2, b4, b5, by rw [if_neg h]; rfl⟩
  obtain ⟨b1, b2, b3, b4, b5⟩ := a2
  refine ⟨?_, ?_, b3, b4, b5⟩
  · show ev_w (z_num (z_wrd C b) b 12 4 + 1) = _
    rw [b2]; exact ev_w_id (by omega) (by omega)
  · show ev_w (z_num (z_wrd C b) b 12 13 + 1) = _
    rw [b1]; exact ev_w_id (by omega) (by omega)
/-! the class's run: a step, the end -/
theorem z_rrL {N : Nat} {C : ev_C} {a d b : Int} (hp : C 8 3 < C 10 1) (hb : f_10_byteAt C (C 8 3) = some (b, C)) (h : 97 ≤ b ∧ b ≤ 122) : f_8_readRun_L14 (N + 1) C a d = f_8_readRun_L14 N (ev_u (ev_u C 8 8 (ev_w64 ((ev_w64 (C 8 8 * 32)) + (ev_w ((ev_w (b - (97 : Int))) + (1 : Int)))))) 8 3 (ev_w (C 8 3 + (1 : Int)))) (ev_w (a + 1)) d := by
  rw [f_8_readRun_L14, if_neg (by omega), hb]
  rw [ev_bdS, z_isLetter, if_pos h, ev_bdS]
  rw [if_neg (by decide)]
  rfl
theorem z_rrD {N : Nat} {C : ev_C} {a d b : Int} (hp : C 8 3 < C 10 1) (hb : f_10_byteAt C (C 8 3) = some (b, C)) (h : 48 ≤ b ∧ b ≤ 57) : f_8_readRun_L14 (N + 1) C a d = f_8_readRun_L14 N (ev_u (ev_u C 8 6 (ev_w ((ev_w (C 8 6 * (10 : Int))) + (ev_w (b - (48 : Int)))))) 8 3 (ev_w (C 8 3 + (1 : Int)))) a (ev_w (d + 1)) := by
  rw [f_8_readRun_L14, if_neg (by omega), hb]
  rw [ev_bdS, z_isLetter, if_neg (by omega), ev_bdS]
  rw [if_pos rfl, z_isDigit, if_pos h, ev_bdS]
  rw [if_neg (by decide)]
  rfl
theorem z_rrX {N : Nat} {C : ev_C} {a d b : Int} (hb : C 10 1 ≤ C 8 3 ∨ (f_10_byteAt C (C 8 3) = some (b, C) ∧ ¬ ((97 ≤ b ∧ b ≤ 122) ∨ (48 ≤ b ∧ b ≤ 57)))) : f_8_readRun_L14 (N + 1) C a d = f_8_readRun_J104 C a d := by
  rw [f_8_readRun_L14]
  by_cases h1 : C 10 1 ≤ C 8 3
  · rw [if_pos h1]
  · obtain ⟨h2, h3⟩ := hb.resolve_left h1
    rw [if_neg h1, h2]
    rw [ev_bdS, z_isLetter, if_neg (by omega), ev_bdS]
    rw [if_pos rfl, z_isDigit, if_neg (by omega), ev_bdS]
    rw [if_pos rfl]
