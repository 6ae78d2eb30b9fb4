/-! SENTENCES ALIKE, 2: one operand. -/
def y_lf (i : Int) : Int := if i = 19 then 0 else if i = 20 then 1 else if i = 22 then 2 else if i = 21 then 3 else if i = 23 then 4 else if i = 24 then 5 else if i = 25 then 6 else if i = 26 then 7 else -1
theorem y_lf0 {i : Int} : 0 ≤ y_lf i ↔ 19 ≤ i ∧ i ≤ 26 := by
  unfold y_lf
  by_cases h19 : i = 19
  · rw [if_pos h19]
    omega
  · rw [if_neg h19]
    by_cases h20 : i = 20
    · rw [if_pos h20]
      omega
    · rw [if_neg h20]
      by_cases h22 : i = 22
      · rw [if_pos h22]
        omega
      · rw [if_neg h22]
        by_cases h21 : i = 21
        · rw [if_pos h21]
          omega
        · rw [if_neg h21]
          by_cases h23 : i = 23
          · rw [if_pos h23]
            omega
          · rw [if_neg h23]
            by_cases h24 : i = 24
            · rw [if_pos h24]
              omega
            · rw [if_neg h24]
              by_cases h25 : i = 25
              · rw [if_pos h25]
                omega
              · rw [if_neg h25]
                by_cases h26 : i = 26
                · rw [if_pos h26]
                  omega
                · rw [if_neg h26]
                  omega
theorem y_leaf {C1 C2 : ev_C} (h : z_A C1 C2) : f_12_leafOf C2 = some (y_lf (z_wi C1), C2) := by
  have w := (z_word h).2
  unfold f_12_leafOf y_lf
  rw [w 19 482854664563 (by decide) rfl, ev_bdS]
  by_cases h19 : z_wi C1 = 19
  · rw [if_pos (show z_wi C1 = ((19 : Nat) : Int) by omega), if_neg (show ¬ (1 : Int) = 0 by decide), if_pos h19]
  · rw [if_neg (show ¬ z_wi C1 = ((19 : Nat) : Int) by omega), if_pos (rfl : (0 : Int) = 0), if_neg h19]
    rw [w 20 125780054271332 (by decide) rfl, ev_bdS]
    by_cases h20 : z_wi C1 = 20
    · rw [if_pos (show z_wi C1 = ((20 : Nat) : Int) by omega), if_neg (show ¬ (1 : Int) = 0 by decide), if_pos h20]
    · rw [if_neg (show ¬ z_wi C1 = ((20 : Nat) : Int) by omega), if_pos (rfl : (0 : Int) = 0), if_neg h20]
      rw [w 22 1937076837 (by decide) rfl, ev_bdS]
      by_cases h22 : z_wi C1 = 22
      · rw [if_pos (show z_wi C1 = ((22 : Nat) : Int) by omega), if_neg (show ¬ (1 : Int) = 0 by decide), if_pos h22]
      · rw [if_neg (show ¬ z_wi C1 = ((22 : Nat) : Int) by omega), if_pos (rfl : (0 : Int) = 0), if_neg h22]
        rw [w 21 461414299507 (by decide) rfl, ev_bdS]
        by_cases h21 : z_wi C1 = 21
        · rw [if_pos (show z_wi C1 = ((21 : Nat) : Int) by omega), if_neg (show ¬ (1 : Int) = 0 by decide), if_pos h21]
        · rw [if_neg (show ¬ z_wi C1 = ((21 : Nat) : Int) by omega), if_pos (rfl : (0 : Int) = 0), if_neg h21]
          rw [w 23 495723310188 (by decide) rfl, ev_bdS]
          by_cases h23 : z_wi C1 = 23
          · rw [if_pos (show z_wi C1 = ((23 : Nat) : Int) by omega), if_neg (show ¬ (1 : Int) = 0 by decide), if_pos h23]
          · rw [if_neg (show ¬ z_wi C1 = ((23 : Nat) : Int) by omega), if_pos (rfl : (0 : Int) = 0), if_neg h23]
            rw [w 24 499984983411 (by decide) rfl, ev_bdS]
            by_cases h24 : z_wi C1 = 24
            · rw [if_pos (show z_wi C1 = ((24 : Nat) : Int) by omega), if_neg (show ¬ (1 : Int) = 0 by decide), if_pos h24]
            · rw [if_neg (show ¬ z_wi C1 = ((24 : Nat) : Int) by omega), if_pos (rfl : (0 : Int) = 0), if_neg h24]
              rw [w 25 427020087411 (by decide) rfl, ev_bdS]
              by_cases h25 : z_wi C1 = 25
              · rw [if_pos (show z_wi C1 = ((25 : Nat) : Int) by omega), if_neg (show ¬ (1 : Int) = 0 by decide), if_pos h25]
              · rw [if_neg (show ¬ z_wi C1 = ((25 : Nat) : Int) by omega), if_pos (rfl : (0 : Int) = 0), if_neg h25]
                rw [w 26 121450625394034 (by decide) rfl, ev_bdS]
                by_cases h26 : z_wi C1 = 26
                · rw [if_pos (show z_wi C1 = ((26 : Nat) : Int) by omega), if_neg (show ¬ (1 : Int) = 0 by decide), if_pos h26]
                · rw [if_neg (show ¬ z_wi C1 = ((26 : Nat) : Int) by omega), if_pos (rfl : (0 : Int) = 0), if_neg h26]
/-- what the reference does behind a word that is an operand alone -/
def y_pl (C9 : ev_C) (y3 : Int) : Option (Int × ev_C) :=
  if 3 ≤ y3 then
    if y3 ≠ 3 then
      if (C9 12 11) ≠ 3 then
        ev_bd (f_12_bad (ev_u C9 12 49 1) (1)) fun r17 C17 =>
        if 0 ≤ r17 ∧ r17 ≤ 1 then some (r17, C17) else none
      else
        if (C9 12 14) < 60 then
          ev_bd (f_12_bad (ev_u C9 12 49 1) (1)) fun r20 C20 =>
          if 0 ≤ r20 ∧ r20 ≤ 1 then some (r20, C20) else none
        else
          if (C9 12 14) ≤ 62 then
            ev_bv (f_12_go (ev_u C9 12 49 1)) fun C23 =>
            if (C23 12 11) = 2 then
              ev_bv (f_12_code C23 y3 ((C9 12 14)) ((C23 12 14))) fun C25 =>
              ev_bv (f_12_go C25) fun C26 =>
              some (1, C26)
            else
              ev_bd (f_12_bad C23 (1)) fun r27 C27 =>
              if 0 ≤ r27 ∧ r27 ≤ 1 then some (r27, C27) else none
          else
            ev_bd (f_12_bad (ev_u C9 12 49 1) (1)) fun r29 C29 =>
            if 0 ≤ r29 ∧ r29 ≤ 1 then some (r29, C29) else none
    else
      ev_bd (f_12_isName (ev_u C9 12 49 1)) fun r31 C31 =>
      if r31 ≠ 0 then
        ev_bd (f_12_find C31 (6) ((C31 34 1))) fun r33 C33 =>
        if 0 ≤ r33 then
          ev_bv (f_12_code C33 y3 (0) r33) fun C35 =>
          ev_bv (f_12_go C35) fun C36 =>
          some (1, C36)
        else
          ev_bd (f_12_bad C33 (3)) fun r37 C37 =>
          if 0 ≤ r37 ∧ r37 ≤ 1 then some (r37, C37) else none
      else
        ev_bd (f_12_bad C31 (1)) fun r39 C39 =>
        if 0 ≤ r39 ∧ r39 ≤ 1 then some (r39, C39) else none
  else
    ev_bv (f_12_code (ev_u C9 12 49 1) y3 (0) (0)) fun C41 =>
    some (1, C41)
def y_rest (C9 : ev_C) (y1 y2 y3 : Int) : Option (Int × ev_C) := if y1 ≠ 0 then f_12_operand_J84 C9 y1 y2 y3 else if y2 = 0 then y_pl C9 y3 else f_12_operand_J84 C9 y1 y2 y3
theorem z_X.c8 {C1 C1' C2 : ev_C} (h : z_X C1 C2) (e : C1' 8 = C1 8) : z_X C1' C2 := by
  unfold z_X
  rw [e]
  exact h
theorem y_b01 {C : ev_C} {k : Int} {E : ev_C} (h : f_12_bad C k = some (0, E)) : (ev_bd (f_12_bad C k) fun r C' => if 0 ≤ r ∧ r ≤ 1 then some (r, C') else none) = some (0, E) := by
  rw [h, ev_bdS, if_pos (show 0 ≤ (0 : Int) ∧ (0 : Int) ≤ 1 by decide)]
/-- where an operand begins -/
theorem y_start {C1 C2 : ev_C} {S : List Int} {q : Int} (h : y_A C1 C2 S q 0) (h1 : 1 ≤ q) (h2 : q ≤ 9) : ∃ v r : Int, (v = 0 ∨ v = 1) ∧ (r = 1 ∧ z_wi C1 = 18 ∨ r = 0 ∧ z_wi C1 ≠ 18) ∧ f_8_isAtSign C1 40 = some (v, C1) ∧ (v = 1 → z_wi C1 = -1) ∧ (((v = 0 ∧ (z_wi C1 < 18 ∨ 26 < z_wi C1)) ∧ ∃ C1', f_8_fail C1 1 = some C1' ∧ C1' 14 = C1 14 ∧ C1' 8 9 ≠ 0 ∧ y_bad C2 C1' 1) ∨ ((v = 1 ∨ (18 ≤ z_wi C1 ∧ z_wi C1 ≤ 26)) ∧ (20 ≤ C1 14 0 ∨ q = 9) ∧ ∃ C1', f_8_fail C1 4 = some C1' ∧ C1' 14 = C1 14 ∧ C1' 8 9 ≠ 0 ∧ y_bad C2 C1' 1) ∨ ((v = 1 ∨ (18 ≤ z_wi C1 ∧ z_wi C1 ≤ 26)) ∧ C1 14 0 < 20 ∧ q ≤ 8 ∧ ∃ C1' C2', f_8_step (ev_u C1 14 0 (ev_w (C1 14 0 + (1 : Int)))) = some C1' ∧ y_A C1' C2' S q 0 ∧ C1' 14 0 = C1 14 0 + 1 ∧ C2' 12 45 + (S.length : Int) + 2 ≤ 2 * C1' 14 0 ∧ C2 12 49 = 0 ∧ f_12_operand C2 = y_rest C2' r v (y_lf (z_wi C1)))) := by
  obtain ⟨v, v0, v1, v2, v3⟩ := z_sign (c := 40) h.1 (by decide)
  have wv : v = 1 → z_wi C1 = -1 := fun e => if_neg (by have := v3 e; omega)
  obtain ⟨r, hr⟩ : ∃ r, r = (if z_wi C1 = ((18 : Nat) : Int) then (1 : Int) else 0) := ⟨_, rfl⟩
  have r0 : r = 1 ∧ z_wi C1 = 18 ∨ r = 0 ∧ z_wi C1 ≠ 18 := by
    by_cases e : z_wi C1 = 18
    · exact Or.inl ⟨hr.trans (if_pos (by omega)), e⟩
    · exact Or.inr ⟨hr.trans (if_neg (by omega)), e⟩
  have hw := (z_word h.1).2
  have b6 : C2 12 49 = 0 := h.2.2.2.2.2.2.2.1
  have hop : f_12_operand C2 = (if r ≠ 0 then f_12_operand_J38 C2 r v (y_lf (z_wi C1)) else if v ≠ 0 then f_12_operand_J38 C2 r v (y_lf (z_wi C1)) else if 0 ≤ y_lf (z_wi C1) then f_12_operand_J38 C2 r v (y_lf (z_wi C1)) else (ev_bd (f_12_bad C2 1) fun r46 C46 => if 0 ≤ r46 ∧ r46 ≤ 1 then some (r46, C46) else none)) := by
    unfold f_12_operand
    rw [hw 18 7237492 (by decide) rfl, ev_bdS, ← hr, v2, ev_bdS, y_leaf h.1, ev_bdS]
  have hlf := @y_lf0 (z_wi C1)
  refine ⟨v, r, v0, r0, v1, wv, ?_⟩
  by_cases hg : v = 1 ∨ (18 ≤ z_wi C1 ∧ z_wi C1 ≤ 26)
  · have hop2 : f_12_operand C2 = f_12_operand_J38 C2 r v (y_lf (z_wi C1)) := by
      rw [hop]
      by_cases e1 : r ≠ 0
      · rw [if_pos e1]
      · rw [if_neg e1]
        by_cases e2 : v ≠ 0
        · rw [if_pos e2]
        · rw [if_neg e2, if_pos (hlf.mpr (by omega))]
    obtain ⟨hA, b0, b1, b2, b3, b4, b5, -, b7, b8⟩ := id h
    by_cases ht : 20 ≤ C1 14 0 ∨ q = 9
    · obtain ⟨C1', E, f1, f2, f3⟩ := z_fail (k := 4) hA (by decide)
      refine Or.inr (Or.inl ⟨hg, ht, C1', f1, z_failF f1 14 (by decide), f3.2.1, ?_⟩)
      refine y_it0b b6 ?_ f3
      rw [hop2]
      unfold f_12_operand_J38
      by_cases e : C2 12 46 = 20
      · rw [if_pos e]
        exact y_b01 f2
      · rw [if_neg e, if_neg (show ¬ C2 12 48 ≤ 8 by omega)]
        exact y_b01 f2
    · have hu : y_A (ev_u C1 14 0 (C1 14 0 + 1)) (ev_u C2 12 46 (C2 12 46 + 1)) S q 0 := by
        refine ⟨(hA.yf (y_F.rf.u12 (by decide))).c1 (fun t ht => ev_ut ht), ?_, ?_, ?_, ?_, b4.al (fun k _ => by rw [ev_ut (by decide)]), ?_, ?_, ?_, ?_⟩
        · rw [ev_us, ev_us]; omega
        · rw [ev_us]; omega
        · rw [ev_un (by decide)]; exact b2
        · rw [ev_un (by decide)]; exact b3
        · rw [ev_un (by decide)]; exact b5
        · rw [ev_un (by decide)]; exact b6
        · rw [ev_un (by decide), ev_us]; omega
        · have b9 : y_fk C1 (ev_u C2 12 46 (C2 12 46 + 1)) := b8.yf (y_F.rf.u12 (by decide))
          unfold y_fk at b9 ⊢
          rw [show ev_u C1 14 0 (C1 14 0 + 1) 6 = C1 6 from ev_ut (by decide), show ev_u C1 14 0 (C1 14 0 + 1) 68 = C1 68 from ev_ut (by decide)]
          exact b9
      obtain ⟨C1', C2', g1, g2, g3, g4, g5, -⟩ := z_stp hu.1.1
      have e0 : C1' 14 0 = C1 14 0 + 1 := (congrFun (g4.1 14 (by decide)) 0).trans ev_us
      have e45 : C2' 12 45 = C2 12 45 := (g5.2 45 (by decide) (by decide) (by decide) (by decide) (by decide) (by decide)).trans (ev_un (by decide))
      refine Or.inr (Or.inr ⟨hg, by omega, by omega, C1', C2', ?_, ⟨g3, hu.2.mv g4 g5⟩, e0, by omega, b6, ?_⟩)
      · rw [ev_w_id (n := C1 14 0 + 1) (by omega) (by omega)]
        exact g1
      · rw [hop2]
        unfold f_12_operand_J38
        rw [if_neg (show ¬ C2 12 46 = 20 by omega), if_pos (show C2 12 48 ≤ 8 by omega), ev_w_id (n := C2 12 46 + 1) (by omega) (by omega), g2, ev_bvS]
        rfl
  · obtain ⟨C1', E, f1, f2, f3⟩ := z_fail (k := 1) h.1 (by decide)
    refine Or.inl ⟨⟨by omega, by omega⟩, C1', f1, z_failF f1 14 (by decide), f3.2.1, ?_⟩
    refine y_it0b b6 ?_ f3
    rw [hop, if_neg (show ¬ r ≠ 0 by omega), if_neg (show ¬ v ≠ 0 by omega), if_neg (fun q => hg (Or.inr (by have := hlf.mp q; omega)))]
    exact y_b01 f2
/-- not, or a bracket, is put on the stack -/
theorem y_push {C1 C2 : ev_C} {S : List Int} {q : Int} (x : Int) (h : y_A C1 C2 S q 0) (hc : C2 12 45 + (S.length : Int) + 2 ≤ 2 * C1 14 0) (hq : 0 ≤ q ∧ q ≤ 100) {y1 y2 y3 : Int} : ∃ C2', f_12_operand_J103 C2 y1 y2 y3 x (C2 12 47) = some (1, C2') ∧ y_A C1 C2' (x :: S) (q + 1) 0 := by
  obtain ⟨hA, b0, b1, b2, b3, b4, b5, b6, b7, b8⟩ := h
  have f : y_F C2 (ev_u (ev_u (ev_u C2 43 S.length x) 12 47 ((S.length : Int) + 1)) 12 48 (q + 1)) := (y_F.rf.u43.u12 (by decide)).u12 (by decide)
  have hl : (((x :: S).length : Nat) : Int) = (S.length : Int) + 1 := by rw [List.length_cons]; omega
  refine ⟨ev_u (ev_u (ev_u C2 43 S.length x) 12 47 ((S.length : Int) + 1)) 12 48 (q + 1), ?_, hA.yf f, ?_, b1, b2, ?_, ⟨?_, b4.al (fun k hk => ?_)⟩, ev_us, ?_, ?_, b8.yf f⟩
  · unfold f_12_operand_J103
    rw [b5, b3, if_pos (show 0 ≤ (S.length : Int) ∧ (S.length : Int) < 45 by omega), Int.toNat_natCast, ev_w_id (n := (S.length : Int) + 1) (by omega) (by omega), ev_w_id (n := q + 1) (by omega) (by omega)]
  · rw [ev_un (by decide), ev_un (by decide), ev_ut (by decide)]; exact b0
  · rw [ev_un (by decide), ev_us, hl]
  · rw [ev_ut (by decide), ev_ut (by decide), ev_us]
  · rw [ev_ut (by decide), ev_ut (by decide), ev_un (fun q => by have := q.2; omega)]
  · rw [ev_un (by decide), ev_un (by decide), ev_ut (by decide)]; exact b6
  · rw [ev_un (by decide), ev_un (by decide), ev_ut (by decide), hl]; omega
theorem y_codeA {C1 X : ev_C} {S : List Int} {q a b c : Int} (h : y_A C1 X S q 1) (hc : X 12 45 + (S.length : Int) + 2 ≤ 2 * C1 14 0) : ∃ X', f_12_code X a b c = some X' ∧ y_A C1 X' S q 1 := by
  obtain ⟨hA, b0, b1, b2, b3, b4, b5, b6, b7, b8⟩ := h
  obtain ⟨X', g1, g2, g3, ⟨g4, g5, g6, g7⟩, g8⟩ := y_code (C := X) (a := a) (b := b) (c := c) (by omega) (by omega)
  exact ⟨X', g1, hA.yf g2, by omega, b1, b2, by omega, b4.al (fun k _ => by rw [g8]), by omega, by omega, by omega, b8.yf g2⟩
theorem y_ix68 {C : ev_C} {c a : Int} (hc : c ≤ 6) : ∀ (N k : Nat), 6 - k < N → (k : Int) ≤ 6 → (∀ j : Nat, j < k → ¬ C 68 j = a) → ∃ i, f_8_indexOf_68_L3 N C c a k = some (i, C) ∧ z_fst (fun k => C 68 k = a) c i
  | 0, k, h, _, _ => by omega
  | N + 1, k, h, hk, hj => by
    unfold f_8_indexOf_68_L3
    by_cases h1 : c ≤ k
    · rw [if_pos h1]
      exact ⟨-1, rfl, Or.inr ⟨rfl, fun j hjc => hj j (by omega)⟩⟩
    · rw [if_neg h1, if_neg (by omega), if_pos (by omega)]
      by_cases h2 : C 68 (Int.toNat (k : Int)) = a
      · rw [if_neg (fun q => q (z_cmp.mpr h2))]
        exact ⟨k, rfl, Or.inl ⟨k, rfl, by omega, h2, hj⟩⟩
      · rw [if_pos (fun q => h2 (z_cmp.mp q)), ev_w_id (by omega) (by omega), show (k : Int) + 1 = ((k + 1 : Nat) : Int) by omega]
        refine y_ix68 hc N (k + 1) (by omega) (by omega) (fun j hj' => ?_)
        by_cases e : j = k
        · subst e; exact h2
        · exact hj j (by omega)
theorem y_ff68 {C1 C2 : ev_C} (hP : y_fk C1 C2) (hN : z_N (C1 8 8) (C2 12 17)) : ∃ i : Int, f_8_indexOf_68 C1 (C1 6 1) (C1 8 8) = some (i, C1) ∧ f_12_find C2 6 (C2 34 1) = some (i, C2) ∧ (0 ≤ i ∨ i = -1) := by
  obtain ⟨⟨p0, p1, p2⟩, p3⟩ := hP
  obtain ⟨i, a1, a2⟩ := y_ix68 (C := C1) (c := C1 6 1) (a := C1 8 8) (by omega) 1000 0 (by omega) (by omega) (fun j h => by omega)
  obtain ⟨i', b1, b2⟩ := z_find C2 (f := 6) (c := C1 6 1) (by decide) (by omega) (by omega)
  have e : i = i' := z_fst_eq a2 b2 (fun k hk => by
    have e1 : ((6 : Int) + k).toNat = 6 + k := by omega
    rw [e1]
    exact z_N_eq (p3 k hk) hN)
  subst e
  refine ⟨i, a1, by rw [← p0]; exact b1, ?_⟩
  rcases a2 with ⟨k, e1, e2, -⟩ | ⟨e1, -⟩
  · exact Or.inl (by omega)
  · exact Or.inr e1
theorem y_isg (C : ev_C) (c : Int) : f_8_isAtSign C c = some (if C 8 4 = 3 ∧ C 8 6 = c then 1 else 0, C) := by
  unfold f_8_isAtSign
  by_cases h1 : C 8 4 = 3
  · rw [if_neg (fun q => q h1)]
    by_cases h2 : C 8 6 = c
    · rw [if_neg (fun q => q h2), if_pos ⟨h1, h2⟩]
    · rw [if_pos h2, if_neg (fun q => h2 q.2)]
  · rw [if_pos h1, if_neg (fun q => h1 q.1)]
/-- what both make of an operand that is one word, or begins with it -/
theorem y_plain {C1 C2 : ev_C} {S : List Int} {q i : Int} (h : y_A C1 C2 S q 0) (hc : C2 12 45 + (S.length : Int) + 2 ≤ 2 * C1 14 0) (hi : 19 ≤ i ∧ i ≤ 26) : ∃ C1', f_9_readPlainOne_14_8_6 C1 i = some C1' ∧ C1' 14 0 = C1 14 0 ∧ (0 ≤ C1' 14 1 ∧ C1' 14 1 ≤ 40) ∧ ((∃ C2', y_pl C2 (y_lf i) = some (1, C2') ∧ y_A C1' C2' S q 1) ∨ (∃ C2', y_pl C2 (y_lf i) = some (0, C2') ∧ z_X C1' C2')) := by
  have hb2 : 0 ≤ C1 14 1 ∧ C1 14 1 ≤ 40 := h.2.2.2.1
  obtain ⟨W, hW⟩ : ∃ W, W = ev_u C2 12 49 1 := ⟨_, rfl⟩
  have hw : y_A C1 W S q 1 := by
    obtain ⟨hA, b0, b1, b2, b3, b4, b5, b6, b7, b8⟩ := h
    have f : y_F C2 W := by rw [hW]; exact y_F.rf.u12 (by decide)
    refine ⟨hA.yf f, ?_, b1, b2, ?_, b4.al (fun k _ => by rw [hW, ev_ut (by decide)]), ?_, by rw [hW]; exact ev_us, ?_, b8.yf f⟩
    · rw [hW, ev_un (by decide)]; exact b0
    · rw [hW, ev_un (by decide)]; exact b3
    · rw [hW, ev_un (by decide)]; exact b5
    · rw [hW, ev_un (by decide)]; omega
  have e45 : W 12 45 = C2 12 45 := by rw [hW, ev_un (by decide)]
  have hk : z_K C1 C2 := h.1.2.1
  have leaf : (i = 19 ∨ i = 20 ∨ i = 22) → (∃ C1', f_9_readPlainOne_14_8_6 C1 i = some C1' ∧ C1' 14 0 = C1 14 0 ∧ (0 ≤ C1' 14 1 ∧ C1' 14 1 ≤ 40) ∧ ((∃ C2', y_pl C2 (y_lf i) = some (1, C2') ∧ y_A C1' C2' S q 1) ∨ (∃ C2', y_pl C2 (y_lf i) = some (0, C2') ∧ z_X C1' C2'))) := by
    intro hi2
    obtain ⟨C1', a1, a2, a3, a4⟩ := y_add (C := C1) (a := i) (b := 0) (c := 0) hb2
    obtain ⟨X', g1, g2⟩ := y_codeA (a := y_lf i) (b := 0) (c := 0) hw (by omega)
    refine ⟨C1', ?_, a3, a4, Or.inl ⟨X', ?_, g2.ad a2 a3 a4⟩⟩
    · unfold f_9_readPlainOne_14_8_6
      rcases hi2 with rfl | rfl | rfl
      · rw [if_pos (rfl : (19 : Int) = 19), a1, ev_bvS]
      · rw [if_neg (show ¬ (20 : Int) = 19 by decide), if_pos (rfl : (20 : Int) = 20), a1, ev_bvS]
      · rw [if_neg (show ¬ (22 : Int) = 19 by decide), if_neg (show ¬ (22 : Int) = 20 by decide), if_neg (show ¬ (22 : Int) ≠ 22 by decide), a1, ev_bvS]
    · have hlt : ¬ 3 ≤ y_lf i := by rcases hi2 with rfl | rfl | rfl <;> decide
      unfold y_pl
      rw [if_neg hlt, ← hW, g1, ev_bvS]
  by_cases h3 : i = 19 ∨ i = 20 ∨ i = 22
  · exact leaf h3
  · by_cases h21 : i = 21
    · subst h21
      have hp : y_pl C2 (y_lf 21) = (ev_bd (f_12_isName W) fun r31 C31 => if r31 ≠ 0 then ev_bd (f_12_find C31 6 (C31 34 1)) fun r33 C33 => if 0 ≤ r33 then ev_bv (f_12_code C33 3 0 r33) fun C35 => ev_bv (f_12_go C35) fun C36 => some (1, C36) else ev_bd (f_12_bad C33 3) fun r37 C37 => if 0 ≤ r37 ∧ r37 ≤ 1 then some (r37, C37) else none else ev_bd (f_12_bad C31 1) fun r39 C39 => if 0 ≤ r39 ∧ r39 ≤ 1 then some (r39, C39) else none) := by
        rw [show y_lf 21 = 3 by decide]
        unfold y_pl
        rw [if_pos (show (3 : Int) ≤ 3 by decide), if_neg (show ¬ (3 : Int) ≠ 3 by decide), ← hW]
      have hr : f_9_readPlainOne_14_8_6 C1 21 = (ev_bd (f_8_takeName_68 C1 (C1 6 1)) fun r17 C17 => ev_bv (f_9_addStep_14 C17 21 0 r17) fun C18 => some C18) := by
        unfold f_9_readPlainOne_14_8_6
        rw [if_neg (show ¬ (21 : Int) = 19 by decide), if_neg (show ¬ (21 : Int) = 20 by decide), if_pos (show (21 : Int) ≠ 22 by decide), if_neg (show ¬ (21 : Int) ≠ 21 by decide)]
      have faulty : ∀ k : Int, k ≠ 0 → f_8_nameHere_68 C1 (C1 6 1) = (ev_bv (f_8_fail C1 k) fun C5 => some (-1, C5)) → (∀ E, f_12_bad W k = some (0, E) → y_pl C2 (y_lf 21) = some (0, E)) → (∃ C1', f_9_readPlainOne_14_8_6 C1 21 = some C1' ∧ C1' 14 0 = C1 14 0 ∧ (0 ≤ C1' 14 1 ∧ C1' 14 1 ≤ 40) ∧ ((∃ C2', y_pl C2 (y_lf 21) = some (1, C2') ∧ y_A C1' C2' S q 1) ∨ (∃ C2', y_pl C2 (y_lf 21) = some (0, C2') ∧ z_X C1' C2'))) := by
        intro k k0 hn hb
        obtain ⟨D, E, f1, f2, f3⟩ := z_fail hw.1 k0
        have d14 := z_failF f1 14 (by decide)
        obtain ⟨C1', a1, a2, a3, a4⟩ := y_add (C := D) (a := 21) (b := 0) (c := -1) (by rw [d14]; exact hb2)
        refine ⟨C1', ?_, by rw [a3, d14], a4, Or.inr ⟨E, hb E f2, f3.c8 (a2 8 (by decide))⟩⟩
        rw [hr]
        unfold f_8_takeName_68
        rw [hn, f1, ev_bvS, ev_bdS, if_pos (rfl : (-1 : Int) = -1), ev_bdS, a1, ev_bvS]
      rcases z_name hw.1 with ⟨n1, n2, n3⟩ | ⟨n1, n2⟩
      · obtain ⟨i0, i1, i2, i3⟩ := y_ff68 hw.2.2.2.2.2.2.2.2.2 n3
        rw [n2, ev_bdS, if_pos (show (1 : Int) ≠ 0 by decide), i2, ev_bdS] at hp
        by_cases hi0 : i0 = -1
        · subst hi0
          rw [if_neg (show ¬ (0 : Int) ≤ -1 by decide)] at hp
          refine faulty 3 (by decide) ?_ (fun E hE => by rw [hp]; exact y_b01 hE)
          unfold f_8_nameHere_68
          rw [n1, ev_bdS, if_pos (show (1 : Int) ≠ 0 by decide), i1, ev_bdS, if_neg (show ¬ (-1 : Int) ≠ -1 by decide)]
        · obtain ⟨X', g1, g2⟩ := y_codeA (a := 3) (b := 0) (c := i0) hw (by omega)
          obtain ⟨D, C2', s1, s2, s3, s4, s5, -⟩ := z_stp g2.1.1
          have d14 := s4.1 14 (by decide)
          obtain ⟨C1', a1, a2, a3, a4⟩ := y_add (C := D) (a := 21) (b := 0) (c := i0) (by rw [d14]; exact hb2)
          rw [if_pos (show 0 ≤ i0 by omega), g1, ev_bvS, s2, ev_bvS] at hp
          have hy : y_A D C2' S q 1 := ⟨s3, g2.2.mv s4 s5⟩
          refine ⟨C1', ?_, by rw [a3, d14], a4, Or.inl ⟨C2', hp, hy.ad a2 a3 a4⟩⟩
          rw [hr]
          unfold f_8_takeName_68 f_8_nameHere_68
          rw [n1, ev_bdS, if_pos (show (1 : Int) ≠ 0 by decide), i1, ev_bdS, if_pos hi0, ev_bdS, if_neg hi0, s1, ev_bvS, ev_bdS, a1, ev_bvS]
      · rw [n2, ev_bdS, if_neg (show ¬ (0 : Int) ≠ 0 by decide)] at hp
        refine faulty 1 (by decide) ?_ (fun E hE => by rw [hp]; exact y_b01 hE)
        unfold f_8_nameHere_68
        rw [n1, ev_bdS, if_neg (show ¬ (0 : Int) ≠ 0 by decide)]
    · have h4 : 3 ≤ y_lf i ∧ y_lf i ≠ 3 := by
        rcases (show i = 23 ∨ i = 24 ∨ i = 25 ∨ i = 26 by omega) with rfl | rfl | rfl | rfl <;> decide
      have hr : f_9_readPlainOne_14_8_6 C1 i = (if C1 8 4 = 3 ∧ 60 ≤ C1 8 6 ∧ C1 8 6 ≤ 62 then f_9_readPlainOne_14_8_6_J94 C1 i (C1 8 6) else (ev_bv (f_8_fail C1 1) fun C16 => some C16)) := by
        unfold f_9_readPlainOne_14_8_6
        rw [if_neg (show ¬ i = 19 by omega), if_neg (show ¬ i = 20 by omega), if_pos (show i ≠ 22 by omega), if_pos h21, y_isg, ev_bdS]
        by_cases c0 : C1 8 4 = 3 ∧ C1 8 6 = 60
        · rw [if_pos c0, if_pos (show (1 : Int) ≠ 0 by decide), if_pos (show C1 8 4 = 3 ∧ 60 ≤ C1 8 6 ∧ C1 8 6 ≤ 62 by omega)]
        · rw [if_neg c0, if_neg (show ¬ (0 : Int) ≠ 0 by decide), y_isg, ev_bdS]
          by_cases c1 : C1 8 4 = 3 ∧ C1 8 6 = 61
          · rw [if_pos c1, if_pos (show (1 : Int) ≠ 0 by decide), if_pos (show C1 8 4 = 3 ∧ 60 ≤ C1 8 6 ∧ C1 8 6 ≤ 62 by omega)]
          · rw [if_neg c1, if_neg (show ¬ (0 : Int) ≠ 0 by decide), y_isg, ev_bdS]
            by_cases c2 : C1 8 4 = 3 ∧ C1 8 6 = 62
            · rw [if_pos c2, if_pos (show (1 : Int) ≠ 0 by decide), if_pos (show C1 8 4 = 3 ∧ 60 ≤ C1 8 6 ∧ C1 8 6 ≤ 62 by omega)]
            · rw [if_neg c2, if_neg (show ¬ (0 : Int) ≠ 0 by decide), if_neg (show ¬ (C1 8 4 = 3 ∧ 60 ≤ C1 8 6 ∧ C1 8 6 ≤ 62) by omega)]
      by_cases hs : C1 8 4 = 3 ∧ 60 ≤ C1 8 6 ∧ C1 8 6 ≤ 62
      · have hk2 : C2 12 11 = 3 ∧ C2 12 14 = C1 8 6 := by
          rcases hk with ⟨k1, k2⟩ | ⟨k1, k2, -⟩ | ⟨k1, k2, -⟩ | ⟨k1, k2, k3⟩ | ⟨k2, k1⟩
          · omega
          · omega
          · omega
          · omega
          · rcases k1 with k1 | ⟨k1, k3⟩ <;> omega
        obtain ⟨D, C2a, s1, s2, s3, s4, s5, -⟩ := z_stp hw.1.1
        have hy : y_A D C2a S q 1 := ⟨s3, hw.2.mv s4 s5⟩
        have d14 := s4.1 14 (by decide)
        have d45 : C2a 12 45 = W 12 45 := s5.2 45 (by decide) (by decide) (by decide) (by decide) (by decide) (by decide)
        have d0 : D 14 0 = C1 14 0 := congrFun d14 0
        have hp : y_pl C2 (y_lf i) = (if C2a 12 11 = 2 then (ev_bv (f_12_code C2a (y_lf i) (C2 12 14) (C2a 12 14)) fun C25 => ev_bv (f_12_go C25) fun C26 => some (1, C26)) else (ev_bd (f_12_bad C2a 1) fun r27 C27 => if 0 ≤ r27 ∧ r27 ≤ 1 then some (r27, C27) else none)) := by
          unfold y_pl
          rw [if_pos h4.1, if_pos h4.2, if_neg (show ¬ C2 12 11 ≠ 3 by omega), if_neg (show ¬ C2 12 14 < 60 by omega), if_pos (show C2 12 14 ≤ 62 by omega), ← hW, s2, ev_bvS]
        have hr2 : f_9_readPlainOne_14_8_6 C1 i = (ev_bd (f_8_takeNumber D 0 99) fun r10 C10 => ev_bv (f_9_addStep_14 C10 i (C1 8 6) r10) fun C11 => some C11) := by
          rw [hr, if_pos hs]
          unfold f_9_readPlainOne_14_8_6_J94
          rw [s1, ev_bvS]
        have hk3 : z_K D C2a := s3.2.1
        by_cases hn : C2a 12 11 = 2
        · have hk4 : D 8 4 = 2 ∧ 0 ≤ D 8 6 ∧ D 8 6 ≤ 99 := by
            rcases hk3 with ⟨k1, k2⟩ | ⟨k1, k2, -⟩ | ⟨k1, k2, k3, k4, k5⟩ | ⟨k1, k2, -⟩ | ⟨k2, k1⟩
            · omega
            · omega
            · omega
            · omega
            · omega
          obtain ⟨X', g1, g2⟩ := y_codeA (a := y_lf i) (b := C2 12 14) (c := C2a 12 14) hy (by omega)
          obtain ⟨D2, C2', t1, t2, t3, t4, t5, -⟩ := z_stp g2.1.1
          have d2 := t4.1 14 (by decide)
          have hb3 : 0 ≤ D2 14 1 ∧ D2 14 1 ≤ 40 := by rw [d2, d14]; exact hb2
          obtain ⟨C1', a1, a2, a3, a4⟩ := y_add (C := D2) (a := i) (b := C1 8 6) (c := D 8 6) hb3
          rw [if_pos hn, g1, ev_bvS, t2, ev_bvS] at hp
          have hy2 : y_A D2 C2' S q 1 := ⟨t3, g2.2.mv t4 t5⟩
          refine ⟨C1', ?_, by rw [a3, d2, d14], a4, Or.inl ⟨C2', hp, hy2.ad a2 a3 a4⟩⟩
          rw [hr2]
          unfold f_8_takeNumber
          rw [if_pos hk4.1, if_neg (show ¬ D 8 6 < 0 by omega), if_pos hk4.2.2, t1, ev_bvS, ev_bdS, a1, ev_bvS]
        · have hk4 : D 8 4 ≠ 2 := by
            rcases hk3 with ⟨k1, k2⟩ | ⟨k1, k2, -⟩ | ⟨k1, k2, -⟩ | ⟨k1, k2, -⟩ | ⟨k2, k1⟩
            · omega
            · omega
            · omega
            · omega
            · rcases k1 with k1 | ⟨k1, -⟩ <;> omega
          obtain ⟨D2, E, f1, f2, f3⟩ := z_fail (k := 1) hy.1 (by decide)
          have d2 := z_failF f1 14 (by decide)
          have hb3 : 0 ≤ D2 14 1 ∧ D2 14 1 ≤ 40 := by rw [d2, d14]; exact hb2
          obtain ⟨C1', a1, a2, a3, a4⟩ := y_add (C := D2) (a := i) (b := C1 8 6) (c := -1) hb3
          rw [if_neg hn] at hp
          refine ⟨C1', ?_, by rw [a3, d2, d14], a4, Or.inr ⟨E, by rw [hp]; exact y_b01 f2, f3.c8 (a2 8 (by decide))⟩⟩
          rw [hr2]
          unfold f_8_takeNumber
          rw [if_neg hk4, f1, ev_bvS, ev_bdS, a1, ev_bvS]
      · have hk2 : C2 12 11 = 3 → ¬ (60 ≤ C2 12 14 ∧ C2 12 14 ≤ 62) := by
          intro e
          rcases hk with ⟨k1, k2⟩ | ⟨k1, k2, -⟩ | ⟨k1, k2, -⟩ | ⟨k1, k2, k3⟩ | ⟨k2, k1⟩
          · omega
          · omega
          · omega
          · omega
          · omega
        obtain ⟨D2, E, f1, f2, f3⟩ := z_fail (k := 1) hw.1 (by decide)
        have d2 := z_failF f1 14 (by decide)
        refine ⟨D2, ?_, by rw [d2], by rw [d2]; exact hb2, Or.inr ⟨E, ?_, f3⟩⟩
        · rw [hr, if_neg hs, f1, ev_bvS]
        · unfold y_pl
          rw [if_pos h4.1, if_pos h4.2, ← hW]
          by_cases e1 : C2 12 11 ≠ 3
          · rw [if_pos e1]
            exact y_b01 f2
          · rw [if_neg e1]
            by_cases e2 : C2 12 14 < 60
            · rw [if_pos e2]
              exact y_b01 f2
            · rw [if_neg e2, if_neg (show ¬ C2 12 14 ≤ 62 from fun e3 => hk2 (Decidable.not_not.mp e1) ⟨by omega, e3⟩)]
              exact y_b01 f2
