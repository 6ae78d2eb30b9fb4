/-! THE EXACT LOGIC: the class's play(), 1 (printed by a program of ours). -/
section GX
variable {l : Launch} {D : va_G} {cys : Nat → ClassId} {ty : Nat → Option Nat}
theorem eX8_open_0 : decode cX8_open 0 = .ok (.aload_n 0, 1) := by decide +kernel
theorem eX8_open_1 : decode cX8_open 1 = .ok (.iload_n 1, 1) := by decide +kernel
theorem eX8_open_2 : decode cX8_open 2 = .ok (.putfield 18, 3) := by decide +kernel
theorem eX8_open_5 : decode cX8_open 5 = .ok (.aload_n 0, 1) := by decide +kernel
theorem eX8_open_6 : decode cX8_open 6 = .ok (.iconst 0, 1) := by decide +kernel
theorem eX8_open_7 : decode cX8_open 7 = .ok (.putfield 22, 3) := by decide +kernel
theorem eX8_open_10 : decode cX8_open 10 = .ok (.aload_n 0, 1) := by decide +kernel
theorem eX8_open_11 : decode cX8_open 11 = .ok (.iconst 0, 1) := by decide +kernel
theorem eX8_open_12 : decode cX8_open 12 = .ok (.putfield 41, 3) := by decide +kernel
theorem eX8_open_15 : decode cX8_open 15 = .ok (.aload_n 0, 1) := by decide +kernel
theorem eX8_open_16 : decode cX8_open 16 = .ok (.iconst 0, 1) := by decide +kernel
theorem eX8_open_17 : decode cX8_open 17 = .ok (.putfield 44, 3) := by decide +kernel
theorem eX8_open_20 : decode cX8_open 20 = .ok (.aload_n 0, 1) := by decide +kernel
theorem eX8_open_21 : decode cX8_open 21 = .ok (.invokevirtual 73, 3) := by decide +kernel
theorem eX8_open_24 : decode cX8_open 24 = .ok (.return_, 1) := by decide +kernel
set_option maxRecDepth 100000 in
theorem m_8_open (hU : ev_uq ty ev_TR) {C : ev_C} {x1 : Int} {C' : ev_C} (h : f_8_open C x1 = some C') : ev_Met l D cys ty ck_tags ev_TR kc_120 [.inr (.inl 8), .inl x1] C (fun r0 C0 => r0 = none ∧ C0 = C') := by
  unfold f_8_open at h
  refine ev_enter (by decide +kernel) (by decide +kernel) (Nat.le_of_ble_eq_true rfl) ?_
  show ev_W l D cys ty ck_tags ev_TR kc_120 0 [(0, .inr (.inl 8)), (1, .inl x1)] [] C _
  refine ev_al eX8_open_0 rfl ?_
  refine ev_il eX8_open_1 rfl ?_
  refine ev_putI lk_f hU (ci := 8) (j := 2) (cd := 0) eX8_open_2 (isF (by decide +kernel)) rfl rfl (Or.inl rfl) rfl ?_
  refine ev_al eX8_open_5 rfl ?_
  refine ev_ic eX8_open_6 (by decide) ?_
  refine ev_putI lk_f hU (ci := 8) (j := 3) (cd := 0) eX8_open_7 (isF (by decide +kernel)) rfl rfl (Or.inl rfl) rfl ?_
  refine ev_al eX8_open_10 rfl ?_
  refine ev_ic eX8_open_11 (by decide) ?_
  refine ev_putI lk_f hU (ci := 8) (j := 9) (cd := 0) eX8_open_12 (isF (by decide +kernel)) rfl rfl (Or.inl rfl) rfl ?_
  refine ev_al eX8_open_15 rfl ?_
  refine ev_ic eX8_open_16 (by decide) ?_
  refine ev_putI lk_f hU (ci := 8) (j := 10) (cd := 0) eX8_open_17 (isF (by decide +kernel)) rfl rfl (Or.inl rfl) rfl ?_
  refine ev_al eX8_open_20 rfl ?_
  obtain ⟨C1, hq1, h⟩ := ev_bv_some h
  refine ev_callV (kc := kc_57) (A := []) (T := []) (lk_m.1 _ _ 0 [57] (isM (by decide +kernel)) 57 (by decide)) eX8_open_21 (m_8_step hU hq1) rfl rfl rfl (by decide) (by decide) (Nat.le_of_ble_eq_true rfl) ?_
  rintro _ C1 ⟨rfl, rfl⟩
  show ev_W l D cys ty ck_tags ev_TR kc_120 24 [(0, .inr (.inl 8)), (1, .inl x1)] [] C1 _
  cases h
  exact ev_vret eX8_open_24 rfl ⟨rfl, rfl⟩
theorem eJ7_fill_53178_0 : decode cJ7_fill_53178 0 = .ok (.iconst 0, 1) := by decide +kernel
theorem eJ7_fill_53178_1 : decode cJ7_fill_53178 1 = .ok (.istore_n 2, 1) := by decide +kernel
theorem eJ7_fill_53178_2 : decode cJ7_fill_53178 2 = .ok (.aload_n 0, 1) := by decide +kernel
theorem eJ7_fill_53178_3 : decode cJ7_fill_53178 3 = .ok (.arraylength, 1) := by decide +kernel
theorem eJ7_fill_53178_4 : decode cJ7_fill_53178 4 = .ok (.istore_n 3, 1) := by decide +kernel
theorem eJ7_fill_53178_5 : decode cJ7_fill_53178 5 = .ok (.iload_n 2, 1) := by decide +kernel
theorem eJ7_fill_53178_6 : decode cJ7_fill_53178 6 = .ok (.iload_n 3, 1) := by decide +kernel
theorem eJ7_fill_53178_7 : decode cJ7_fill_53178 7 = .ok (.if_icmp .ge 13, 3) := by decide +kernel
theorem eJ7_fill_53178_10 : decode cJ7_fill_53178 10 = .ok (.aload_n 0, 1) := by decide +kernel
theorem eJ7_fill_53178_11 : decode cJ7_fill_53178 11 = .ok (.iload_n 2, 1) := by decide +kernel
theorem eJ7_fill_53178_12 : decode cJ7_fill_53178 12 = .ok (.iload_n 1, 1) := by decide +kernel
theorem eJ7_fill_53178_13 : decode cJ7_fill_53178 13 = .ok (.iastore, 1) := by decide +kernel
theorem eJ7_fill_53178_14 : decode cJ7_fill_53178 14 = .ok (.iinc 2 1, 3) := by decide +kernel
theorem eJ7_fill_53178_17 : decode cJ7_fill_53178 17 = .ok (.goto (-12), 3) := by decide +kernel
theorem eJ7_fill_53178_20 : decode cJ7_fill_53178 20 = .ok (.return_, 1) := by decide +kernel
set_option maxRecDepth 100000 in
theorem m_15_fill_57_L5 (hU : ev_uq ty ev_TR) : ∀ (n : Nat) {C : ev_C} {y1 y2 y3 : Int} {C' : ev_C}, f_15_fill_57_L5 n C y1 y2 y3 = some C' → ev_W l D cys ty ck_tags ev_TR kc_273 5 [(0, .inr (.inl 57)), (1, .inl y1), (2, .inl y2), (3, .inl y3)] [] C (fun r0 C0 => r0 = none ∧ C0 = C')
  | 0, _, _, _, _, _, h => by cases h
  | n + 1, C, y1, y2, y3, _, h => by
    unfold f_15_fill_57_L5 at h
    refine ev_il eJ7_fill_53178_5 rfl ?_
    refine ev_il eJ7_fill_53178_6 rfl ?_
    refine ev_c_ge (tgt := 20) eJ7_fill_53178_7 (by decide) (fun hc1 => ?_) (fun hc1 => ?_)
    · rw [if_pos (show y3 ≤ y2 from hc1)] at h
      cases h
      exact ev_vret eJ7_fill_53178_20 rfl ⟨rfl, rfl⟩
    · rw [if_neg (show ¬ (y3 ≤ y2) from hc1)] at h
      refine ev_al eJ7_fill_53178_10 rfl ?_
      refine ev_il eJ7_fill_53178_11 rfl ?_
      refine ev_il eJ7_fill_53178_12 rfl ?_
      obtain ⟨hb2, h⟩ := ev_gd h
      refine ev_iast hU eJ7_fill_53178_13 rfl rfl hb2.1 hb2.2 ?_
      refine ev_inc (L' := [(2, .inl (ev_w (y2 + 1))), (0, .inr (.inl 57)), (1, .inl y1), (3, .inl y3)]) eJ7_fill_53178_14 (by decide) (by decide) rfl rfl ?_
      refine ev_goto (tgt := 5) eJ7_fill_53178_17 (by decide) ?_
      refine ev_loc (L' := [(0, .inr (.inl 57)), (1, .inl y1), (2, .inl (ev_w (y2 + 1))), (3, .inl y3)]) rfl ?_
      exact m_15_fill_57_L5 hU n h
set_option maxRecDepth 100000 in
theorem m_15_fill_57 (hU : ev_uq ty ev_TR) {C : ev_C} {x1 : Int} {C' : ev_C} (h : f_15_fill_57 C x1 = some C') : ev_Met l D cys ty ck_tags ev_TR kc_273 [.inr (.inl 57), .inl x1] C (fun r0 C0 => r0 = none ∧ C0 = C') := by
  unfold f_15_fill_57 at h
  refine ev_enter (by decide +kernel) (by decide +kernel) (Nat.le_of_ble_eq_true rfl) ?_
  show ev_W l D cys ty ck_tags ev_TR kc_273 0 [(0, .inr (.inl 57)), (1, .inl x1)] [] C _
  refine ev_ic eJ7_fill_53178_0 (by decide) ?_
  refine ev_is (L' := [(2, .inl 0), (0, .inr (.inl 57)), (1, .inl x1)]) eJ7_fill_53178_1 (by decide) rfl ?_
  refine ev_al eJ7_fill_53178_2 rfl ?_
  refine ev_alen (v := 6) eJ7_fill_53178_3 rfl (by decide) rfl ?_
  refine ev_is (L' := [(3, .inl 6), (2, .inl 0), (0, .inr (.inl 57)), (1, .inl x1)]) eJ7_fill_53178_4 (by decide) rfl ?_
  refine ev_loc (L' := [(0, .inr (.inl 57)), (1, .inl x1), (2, .inl 0), (3, .inl 6)]) rfl ?_
  exact m_15_fill_57_L5 hU 1000 h
set_option maxRecDepth 100000 in
theorem m_15_fill_58_L5 (hU : ev_uq ty ev_TR) : ∀ (n : Nat) {C : ev_C} {y1 y2 y3 : Int} {C' : ev_C}, f_15_fill_58_L5 n C y1 y2 y3 = some C' → ev_W l D cys ty ck_tags ev_TR kc_274 5 [(0, .inr (.inl 58)), (1, .inl y1), (2, .inl y2), (3, .inl y3)] [] C (fun r0 C0 => r0 = none ∧ C0 = C')
  | 0, _, _, _, _, _, h => by cases h
  | n + 1, C, y1, y2, y3, _, h => by
    unfold f_15_fill_58_L5 at h
    refine ev_il eJ7_fill_53178_5 rfl ?_
    refine ev_il eJ7_fill_53178_6 rfl ?_
    refine ev_c_ge (tgt := 20) eJ7_fill_53178_7 (by decide) (fun hc1 => ?_) (fun hc1 => ?_)
    · rw [if_pos (show y3 ≤ y2 from hc1)] at h
      cases h
      exact ev_vret eJ7_fill_53178_20 rfl ⟨rfl, rfl⟩
    · rw [if_neg (show ¬ (y3 ≤ y2) from hc1)] at h
      refine ev_al eJ7_fill_53178_10 rfl ?_
      refine ev_il eJ7_fill_53178_11 rfl ?_
      refine ev_il eJ7_fill_53178_12 rfl ?_
      obtain ⟨hb2, h⟩ := ev_gd h
      refine ev_iast hU eJ7_fill_53178_13 rfl rfl hb2.1 hb2.2 ?_
      refine ev_inc (L' := [(2, .inl (ev_w (y2 + 1))), (0, .inr (.inl 58)), (1, .inl y1), (3, .inl y3)]) eJ7_fill_53178_14 (by decide) (by decide) rfl rfl ?_
      refine ev_goto (tgt := 5) eJ7_fill_53178_17 (by decide) ?_
      refine ev_loc (L' := [(0, .inr (.inl 58)), (1, .inl y1), (2, .inl (ev_w (y2 + 1))), (3, .inl y3)]) rfl ?_
      exact m_15_fill_58_L5 hU n h
set_option maxRecDepth 100000 in
theorem m_15_fill_58 (hU : ev_uq ty ev_TR) {C : ev_C} {x1 : Int} {C' : ev_C} (h : f_15_fill_58 C x1 = some C') : ev_Met l D cys ty ck_tags ev_TR kc_274 [.inr (.inl 58), .inl x1] C (fun r0 C0 => r0 = none ∧ C0 = C') := by
  unfold f_15_fill_58 at h
  refine ev_enter (by decide +kernel) (by decide +kernel) (Nat.le_of_ble_eq_true rfl) ?_
  show ev_W l D cys ty ck_tags ev_TR kc_274 0 [(0, .inr (.inl 58)), (1, .inl x1)] [] C _
  refine ev_ic eJ7_fill_53178_0 (by decide) ?_
  refine ev_is (L' := [(2, .inl 0), (0, .inr (.inl 58)), (1, .inl x1)]) eJ7_fill_53178_1 (by decide) rfl ?_
  refine ev_al eJ7_fill_53178_2 rfl ?_
  refine ev_alen (v := 6) eJ7_fill_53178_3 rfl (by decide) rfl ?_
  refine ev_is (L' := [(3, .inl 6), (2, .inl 0), (0, .inr (.inl 58)), (1, .inl x1)]) eJ7_fill_53178_4 (by decide) rfl ?_
  refine ev_loc (L' := [(0, .inr (.inl 58)), (1, .inl x1), (2, .inl 0), (3, .inl 6)]) rfl ?_
  exact m_15_fill_58_L5 hU 1000 h
set_option maxRecDepth 100000 in
theorem m_15_fill_61_L5 (hU : ev_uq ty ev_TR) : ∀ (n : Nat) {C : ev_C} {y1 y2 y3 : Int} {C' : ev_C}, f_15_fill_61_L5 n C y1 y2 y3 = some C' → ev_W l D cys ty ck_tags ev_TR kc_275 5 [(0, .inr (.inl 61)), (1, .inl y1), (2, .inl y2), (3, .inl y3)] [] C (fun r0 C0 => r0 = none ∧ C0 = C')
  | 0, _, _, _, _, _, h => by cases h
  | n + 1, C, y1, y2, y3, _, h => by
    unfold f_15_fill_61_L5 at h
    refine ev_il eJ7_fill_53178_5 rfl ?_
    refine ev_il eJ7_fill_53178_6 rfl ?_
    refine ev_c_ge (tgt := 20) eJ7_fill_53178_7 (by decide) (fun hc1 => ?_) (fun hc1 => ?_)
    · rw [if_pos (show y3 ≤ y2 from hc1)] at h
      cases h
      exact ev_vret eJ7_fill_53178_20 rfl ⟨rfl, rfl⟩
    · rw [if_neg (show ¬ (y3 ≤ y2) from hc1)] at h
      refine ev_al eJ7_fill_53178_10 rfl ?_
      refine ev_il eJ7_fill_53178_11 rfl ?_
      refine ev_il eJ7_fill_53178_12 rfl ?_
      obtain ⟨hb2, h⟩ := ev_gd h
      refine ev_iast hU eJ7_fill_53178_13 rfl rfl hb2.1 hb2.2 ?_
      refine ev_inc (L' := [(2, .inl (ev_w (y2 + 1))), (0, .inr (.inl 61)), (1, .inl y1), (3, .inl y3)]) eJ7_fill_53178_14 (by decide) (by decide) rfl rfl ?_
      refine ev_goto (tgt := 5) eJ7_fill_53178_17 (by decide) ?_
      refine ev_loc (L' := [(0, .inr (.inl 61)), (1, .inl y1), (2, .inl (ev_w (y2 + 1))), (3, .inl y3)]) rfl ?_
      exact m_15_fill_61_L5 hU n h
set_option maxRecDepth 100000 in
theorem m_15_fill_61 (hU : ev_uq ty ev_TR) {C : ev_C} {x1 : Int} {C' : ev_C} (h : f_15_fill_61 C x1 = some C') : ev_Met l D cys ty ck_tags ev_TR kc_275 [.inr (.inl 61), .inl x1] C (fun r0 C0 => r0 = none ∧ C0 = C') := by
  unfold f_15_fill_61 at h
  refine ev_enter (by decide +kernel) (by decide +kernel) (Nat.le_of_ble_eq_true rfl) ?_
  show ev_W l D cys ty ck_tags ev_TR kc_275 0 [(0, .inr (.inl 61)), (1, .inl x1)] [] C _
  refine ev_ic eJ7_fill_53178_0 (by decide) ?_
  refine ev_is (L' := [(2, .inl 0), (0, .inr (.inl 61)), (1, .inl x1)]) eJ7_fill_53178_1 (by decide) rfl ?_
  refine ev_al eJ7_fill_53178_2 rfl ?_
  refine ev_alen (v := 8) eJ7_fill_53178_3 rfl (by decide) rfl ?_
  refine ev_is (L' := [(3, .inl 8), (2, .inl 0), (0, .inr (.inl 61)), (1, .inl x1)]) eJ7_fill_53178_4 (by decide) rfl ?_
  refine ev_loc (L' := [(0, .inr (.inl 61)), (1, .inl x1), (2, .inl 0), (3, .inl 8)]) rfl ?_
  exact m_15_fill_61_L5 hU 1000 h
set_option maxRecDepth 100000 in
theorem m_15_fill_62_L5 (hU : ev_uq ty ev_TR) : ∀ (n : Nat) {C : ev_C} {y1 y2 y3 : Int} {C' : ev_C}, f_15_fill_62_L5 n C y1 y2 y3 = some C' → ev_W l D cys ty ck_tags ev_TR kc_276 5 [(0, .inr (.inl 62)), (1, .inl y1), (2, .inl y2), (3, .inl y3)] [] C (fun r0 C0 => r0 = none ∧ C0 = C')
  | 0, _, _, _, _, _, h => by cases h
  | n + 1, C, y1, y2, y3, _, h => by
    unfold f_15_fill_62_L5 at h
    refine ev_il eJ7_fill_53178_5 rfl ?_
    refine ev_il eJ7_fill_53178_6 rfl ?_
    refine ev_c_ge (tgt := 20) eJ7_fill_53178_7 (by decide) (fun hc1 => ?_) (fun hc1 => ?_)
    · rw [if_pos (show y3 ≤ y2 from hc1)] at h
      cases h
      exact ev_vret eJ7_fill_53178_20 rfl ⟨rfl, rfl⟩
    · rw [if_neg (show ¬ (y3 ≤ y2) from hc1)] at h
      refine ev_al eJ7_fill_53178_10 rfl ?_
      refine ev_il eJ7_fill_53178_11 rfl ?_
      refine ev_il eJ7_fill_53178_12 rfl ?_
      obtain ⟨hb2, h⟩ := ev_gd h
      refine ev_iast hU eJ7_fill_53178_13 rfl rfl hb2.1 hb2.2 ?_
      refine ev_inc (L' := [(2, .inl (ev_w (y2 + 1))), (0, .inr (.inl 62)), (1, .inl y1), (3, .inl y3)]) eJ7_fill_53178_14 (by decide) (by decide) rfl rfl ?_
      refine ev_goto (tgt := 5) eJ7_fill_53178_17 (by decide) ?_
      refine ev_loc (L' := [(0, .inr (.inl 62)), (1, .inl y1), (2, .inl (ev_w (y2 + 1))), (3, .inl y3)]) rfl ?_
      exact m_15_fill_62_L5 hU n h
set_option maxRecDepth 100000 in
theorem m_15_fill_62 (hU : ev_uq ty ev_TR) {C : ev_C} {x1 : Int} {C' : ev_C} (h : f_15_fill_62 C x1 = some C') : ev_Met l D cys ty ck_tags ev_TR kc_276 [.inr (.inl 62), .inl x1] C (fun r0 C0 => r0 = none ∧ C0 = C') := by
  unfold f_15_fill_62 at h
  refine ev_enter (by decide +kernel) (by decide +kernel) (Nat.le_of_ble_eq_true rfl) ?_
  show ev_W l D cys ty ck_tags ev_TR kc_276 0 [(0, .inr (.inl 62)), (1, .inl x1)] [] C _
  refine ev_ic eJ7_fill_53178_0 (by decide) ?_
  refine ev_is (L' := [(2, .inl 0), (0, .inr (.inl 62)), (1, .inl x1)]) eJ7_fill_53178_1 (by decide) rfl ?_
  refine ev_al eJ7_fill_53178_2 rfl ?_
  refine ev_alen (v := 8) eJ7_fill_53178_3 rfl (by decide) rfl ?_
  refine ev_is (L' := [(3, .inl 8), (2, .inl 0), (0, .inr (.inl 62)), (1, .inl x1)]) eJ7_fill_53178_4 (by decide) rfl ?_
  refine ev_loc (L' := [(0, .inr (.inl 62)), (1, .inl x1), (2, .inl 0), (3, .inl 8)]) rfl ?_
  exact m_15_fill_62_L5 hU 1000 h
set_option maxRecDepth 100000 in
theorem m_15_fill_63_L5 (hU : ev_uq ty ev_TR) : ∀ (n : Nat) {C : ev_C} {y1 y2 y3 : Int} {C' : ev_C}, f_15_fill_63_L5 n C y1 y2 y3 = some C' → ev_W l D cys ty ck_tags ev_TR kc_277 5 [(0, .inr (.inl 63)), (1, .inl y1), (2, .inl y2), (3, .inl y3)] [] C (fun r0 C0 => r0 = none ∧ C0 = C')
  | 0, _, _, _, _, _, h => by cases h
  | n + 1, C, y1, y2, y3, _, h => by
    unfold f_15_fill_63_L5 at h
    refine ev_il eJ7_fill_53178_5 rfl ?_
    refine ev_il eJ7_fill_53178_6 rfl ?_
    refine ev_c_ge (tgt := 20) eJ7_fill_53178_7 (by decide) (fun hc1 => ?_) (fun hc1 => ?_)
    · rw [if_pos (show y3 ≤ y2 from hc1)] at h
      cases h
      exact ev_vret eJ7_fill_53178_20 rfl ⟨rfl, rfl⟩
    · rw [if_neg (show ¬ (y3 ≤ y2) from hc1)] at h
      refine ev_al eJ7_fill_53178_10 rfl ?_
      refine ev_il eJ7_fill_53178_11 rfl ?_
      refine ev_il eJ7_fill_53178_12 rfl ?_
      obtain ⟨hb2, h⟩ := ev_gd h
      refine ev_iast hU eJ7_fill_53178_13 rfl rfl hb2.1 hb2.2 ?_
      refine ev_inc (L' := [(2, .inl (ev_w (y2 + 1))), (0, .inr (.inl 63)), (1, .inl y1), (3, .inl y3)]) eJ7_fill_53178_14 (by decide) (by decide) rfl rfl ?_
      refine ev_goto (tgt := 5) eJ7_fill_53178_17 (by decide) ?_
      refine ev_loc (L' := [(0, .inr (.inl 63)), (1, .inl y1), (2, .inl (ev_w (y2 + 1))), (3, .inl y3)]) rfl ?_
      exact m_15_fill_63_L5 hU n h
set_option maxRecDepth 100000 in
theorem m_15_fill_63 (hU : ev_uq ty ev_TR) {C : ev_C} {x1 : Int} {C' : ev_C} (h : f_15_fill_63 C x1 = some C') : ev_Met l D cys ty ck_tags ev_TR kc_277 [.inr (.inl 63), .inl x1] C (fun r0 C0 => r0 = none ∧ C0 = C') := by
  unfold f_15_fill_63 at h
  refine ev_enter (by decide +kernel) (by decide +kernel) (Nat.le_of_ble_eq_true rfl) ?_
  show ev_W l D cys ty ck_tags ev_TR kc_277 0 [(0, .inr (.inl 63)), (1, .inl x1)] [] C _
  refine ev_ic eJ7_fill_53178_0 (by decide) ?_
  refine ev_is (L' := [(2, .inl 0), (0, .inr (.inl 63)), (1, .inl x1)]) eJ7_fill_53178_1 (by decide) rfl ?_
  refine ev_al eJ7_fill_53178_2 rfl ?_
  refine ev_alen (v := 48) eJ7_fill_53178_3 rfl (by decide) rfl ?_
  refine ev_is (L' := [(3, .inl 48), (2, .inl 0), (0, .inr (.inl 63)), (1, .inl x1)]) eJ7_fill_53178_4 (by decide) rfl ?_
  refine ev_loc (L' := [(0, .inr (.inl 63)), (1, .inl x1), (2, .inl 0), (3, .inl 48)]) rfl ?_
  exact m_15_fill_63_L5 hU 1000 h
set_option maxRecDepth 100000 in
theorem m_15_fill_65_L5 (hU : ev_uq ty ev_TR) : ∀ (n : Nat) {C : ev_C} {y1 y2 y3 : Int} {C' : ev_C}, f_15_fill_65_L5 n C y1 y2 y3 = some C' → ev_W l D cys ty ck_tags ev_TR kc_278 5 [(0, .inr (.inl 65)), (1, .inl y1), (2, .inl y2), (3, .inl y3)] [] C (fun r0 C0 => r0 = none ∧ C0 = C')
  | 0, _, _, _, _, _, h => by cases h
  | n + 1, C, y1, y2, y3, _, h => by
    unfold f_15_fill_65_L5 at h
    refine ev_il eJ7_fill_53178_5 rfl ?_
    refine ev_il eJ7_fill_53178_6 rfl ?_
    refine ev_c_ge (tgt := 20) eJ7_fill_53178_7 (by decide) (fun hc1 => ?_) (fun hc1 => ?_)
    · rw [if_pos (show y3 ≤ y2 from hc1)] at h
      cases h
      exact ev_vret eJ7_fill_53178_20 rfl ⟨rfl, rfl⟩
    · rw [if_neg (show ¬ (y3 ≤ y2) from hc1)] at h
      refine ev_al eJ7_fill_53178_10 rfl ?_
      refine ev_il eJ7_fill_53178_11 rfl ?_
      refine ev_il eJ7_fill_53178_12 rfl ?_
      obtain ⟨hb2, h⟩ := ev_gd h
      refine ev_iast hU eJ7_fill_53178_13 rfl rfl hb2.1 hb2.2 ?_
      refine ev_inc (L' := [(2, .inl (ev_w (y2 + 1))), (0, .inr (.inl 65)), (1, .inl y1), (3, .inl y3)]) eJ7_fill_53178_14 (by decide) (by decide) rfl rfl ?_
      refine ev_goto (tgt := 5) eJ7_fill_53178_17 (by decide) ?_
      refine ev_loc (L' := [(0, .inr (.inl 65)), (1, .inl y1), (2, .inl (ev_w (y2 + 1))), (3, .inl y3)]) rfl ?_
      exact m_15_fill_65_L5 hU n h
set_option maxRecDepth 100000 in
theorem m_15_fill_65 (hU : ev_uq ty ev_TR) {C : ev_C} {x1 : Int} {C' : ev_C} (h : f_15_fill_65 C x1 = some C') : ev_Met l D cys ty ck_tags ev_TR kc_278 [.inr (.inl 65), .inl x1] C (fun r0 C0 => r0 = none ∧ C0 = C') := by
  unfold f_15_fill_65 at h
  refine ev_enter (by decide +kernel) (by decide +kernel) (Nat.le_of_ble_eq_true rfl) ?_
  show ev_W l D cys ty ck_tags ev_TR kc_278 0 [(0, .inr (.inl 65)), (1, .inl x1)] [] C _
  refine ev_ic eJ7_fill_53178_0 (by decide) ?_
  refine ev_is (L' := [(2, .inl 0), (0, .inr (.inl 65)), (1, .inl x1)]) eJ7_fill_53178_1 (by decide) rfl ?_
  refine ev_al eJ7_fill_53178_2 rfl ?_
  refine ev_alen (v := 12) eJ7_fill_53178_3 rfl (by decide) rfl ?_
  refine ev_is (L' := [(3, .inl 12), (2, .inl 0), (0, .inr (.inl 65)), (1, .inl x1)]) eJ7_fill_53178_4 (by decide) rfl ?_
  refine ev_loc (L' := [(0, .inr (.inl 65)), (1, .inl x1), (2, .inl 0), (3, .inl 12)]) rfl ?_
  exact m_15_fill_65_L5 hU 1000 h
set_option maxRecDepth 100000 in
theorem m_15_fill_66_L5 (hU : ev_uq ty ev_TR) : ∀ (n : Nat) {C : ev_C} {y1 y2 y3 : Int} {C' : ev_C}, f_15_fill_66_L5 n C y1 y2 y3 = some C' → ev_W l D cys ty ck_tags ev_TR kc_279 5 [(0, .inr (.inl 66)), (1, .inl y1), (2, .inl y2), (3, .inl y3)] [] C (fun r0 C0 => r0 = none ∧ C0 = C')
  | 0, _, _, _, _, _, h => by cases h
  | n + 1, C, y1, y2, y3, _, h => by
    unfold f_15_fill_66_L5 at h
    refine ev_il eJ7_fill_53178_5 rfl ?_
    refine ev_il eJ7_fill_53178_6 rfl ?_
    refine ev_c_ge (tgt := 20) eJ7_fill_53178_7 (by decide) (fun hc1 => ?_) (fun hc1 => ?_)
    · rw [if_pos (show y3 ≤ y2 from hc1)] at h
      cases h
      exact ev_vret eJ7_fill_53178_20 rfl ⟨rfl, rfl⟩
    · rw [if_neg (show ¬ (y3 ≤ y2) from hc1)] at h
      refine ev_al eJ7_fill_53178_10 rfl ?_
      refine ev_il eJ7_fill_53178_11 rfl ?_
      refine ev_il eJ7_fill_53178_12 rfl ?_
      obtain ⟨hb2, h⟩ := ev_gd h
      refine ev_iast hU eJ7_fill_53178_13 rfl rfl hb2.1 hb2.2 ?_
      refine ev_inc (L' := [(2, .inl (ev_w (y2 + 1))), (0, .inr (.inl 66)), (1, .inl y1), (3, .inl y3)]) eJ7_fill_53178_14 (by decide) (by decide) rfl rfl ?_
      refine ev_goto (tgt := 5) eJ7_fill_53178_17 (by decide) ?_
      refine ev_loc (L' := [(0, .inr (.inl 66)), (1, .inl y1), (2, .inl (ev_w (y2 + 1))), (3, .inl y3)]) rfl ?_
      exact m_15_fill_66_L5 hU n h
set_option maxRecDepth 100000 in
theorem m_15_fill_66 (hU : ev_uq ty ev_TR) {C : ev_C} {x1 : Int} {C' : ev_C} (h : f_15_fill_66 C x1 = some C') : ev_Met l D cys ty ck_tags ev_TR kc_279 [.inr (.inl 66), .inl x1] C (fun r0 C0 => r0 = none ∧ C0 = C') := by
  unfold f_15_fill_66 at h
  refine ev_enter (by decide +kernel) (by decide +kernel) (Nat.le_of_ble_eq_true rfl) ?_
  show ev_W l D cys ty ck_tags ev_TR kc_279 0 [(0, .inr (.inl 66)), (1, .inl x1)] [] C _
  refine ev_ic eJ7_fill_53178_0 (by decide) ?_
  refine ev_is (L' := [(2, .inl 0), (0, .inr (.inl 66)), (1, .inl x1)]) eJ7_fill_53178_1 (by decide) rfl ?_
  refine ev_al eJ7_fill_53178_2 rfl ?_
  refine ev_alen (v := 12) eJ7_fill_53178_3 rfl (by decide) rfl ?_
  refine ev_is (L' := [(3, .inl 12), (2, .inl 0), (0, .inr (.inl 66)), (1, .inl x1)]) eJ7_fill_53178_4 (by decide) rfl ?_
  refine ev_loc (L' := [(0, .inr (.inl 66)), (1, .inl x1), (2, .inl 0), (3, .inl 12)]) rfl ?_
  exact m_15_fill_66_L5 hU 1000 h
theorem eX6_clear_0 : decode cX6_clear 0 = .ok (.aload_n 0, 1) := by decide +kernel
theorem eX6_clear_1 : decode cX6_clear 1 = .ok (.iconst 0, 1) := by decide +kernel
theorem eX6_clear_2 : decode cX6_clear 2 = .ok (.putfield 9, 3) := by decide +kernel
theorem eX6_clear_5 : decode cX6_clear 5 = .ok (.aload_n 0, 1) := by decide +kernel
theorem eX6_clear_6 : decode cX6_clear 6 = .ok (.iconst 0, 1) := by decide +kernel
theorem eX6_clear_7 : decode cX6_clear 7 = .ok (.putfield 15, 3) := by decide +kernel
theorem eX6_clear_10 : decode cX6_clear 10 = .ok (.aload_n 0, 1) := by decide +kernel
theorem eX6_clear_11 : decode cX6_clear 11 = .ok (.iconst 0, 1) := by decide +kernel
theorem eX6_clear_12 : decode cX6_clear 12 = .ok (.putfield 18, 3) := by decide +kernel
theorem eX6_clear_15 : decode cX6_clear 15 = .ok (.aload_n 0, 1) := by decide +kernel
theorem eX6_clear_16 : decode cX6_clear 16 = .ok (.iconst 0, 1) := by decide +kernel
theorem eX6_clear_17 : decode cX6_clear 17 = .ok (.putfield 21, 3) := by decide +kernel
theorem eX6_clear_20 : decode cX6_clear 20 = .ok (.aload_n 0, 1) := by decide +kernel
theorem eX6_clear_21 : decode cX6_clear 21 = .ok (.iconst 0, 1) := by decide +kernel
theorem eX6_clear_22 : decode cX6_clear 22 = .ok (.putfield 24, 3) := by decide +kernel
theorem eX6_clear_25 : decode cX6_clear 25 = .ok (.aload_n 0, 1) := by decide +kernel
theorem eX6_clear_26 : decode cX6_clear 26 = .ok (.iconst 0, 1) := by decide +kernel
theorem eX6_clear_27 : decode cX6_clear 27 = .ok (.putfield 27, 3) := by decide +kernel
theorem eX6_clear_30 : decode cX6_clear 30 = .ok (.aload_n 0, 1) := by decide +kernel
theorem eX6_clear_31 : decode cX6_clear 31 = .ok (.getfield 45, 3) := by decide +kernel
theorem eX6_clear_34 : decode cX6_clear 34 = .ok (.iconst 0, 1) := by decide +kernel
theorem eX6_clear_35 : decode cX6_clear 35 = .ok (.invokestatic 75, 3) := by decide +kernel
theorem eX6_clear_38 : decode cX6_clear 38 = .ok (.aload_n 0, 1) := by decide +kernel
theorem eX6_clear_39 : decode cX6_clear 39 = .ok (.getfield 48, 3) := by decide +kernel
theorem eX6_clear_42 : decode cX6_clear 42 = .ok (.iconst 0, 1) := by decide +kernel
theorem eX6_clear_43 : decode cX6_clear 43 = .ok (.invokestatic 75, 3) := by decide +kernel
theorem eX6_clear_46 : decode cX6_clear 46 = .ok (.aload_n 0, 1) := by decide +kernel
theorem eX6_clear_47 : decode cX6_clear 47 = .ok (.getfield 57, 3) := by decide +kernel
theorem eX6_clear_50 : decode cX6_clear 50 = .ok (.iconst 0, 1) := by decide +kernel
theorem eX6_clear_51 : decode cX6_clear 51 = .ok (.invokestatic 75, 3) := by decide +kernel
theorem eX6_clear_54 : decode cX6_clear 54 = .ok (.aload_n 0, 1) := by decide +kernel
theorem eX6_clear_55 : decode cX6_clear 55 = .ok (.getfield 60, 3) := by decide +kernel
theorem eX6_clear_58 : decode cX6_clear 58 = .ok (.iconst 0, 1) := by decide +kernel
theorem eX6_clear_59 : decode cX6_clear 59 = .ok (.invokestatic 75, 3) := by decide +kernel
theorem eX6_clear_62 : decode cX6_clear 62 = .ok (.aload_n 0, 1) := by decide +kernel
theorem eX6_clear_63 : decode cX6_clear 63 = .ok (.getfield 63, 3) := by decide +kernel
theorem eX6_clear_66 : decode cX6_clear 66 = .ok (.iconst 0, 1) := by decide +kernel
theorem eX6_clear_67 : decode cX6_clear 67 = .ok (.invokestatic 75, 3) := by decide +kernel
theorem eX6_clear_70 : decode cX6_clear 70 = .ok (.aload_n 0, 1) := by decide +kernel
theorem eX6_clear_71 : decode cX6_clear 71 = .ok (.getfield 69, 3) := by decide +kernel
theorem eX6_clear_74 : decode cX6_clear 74 = .ok (.iconst 0, 1) := by decide +kernel
theorem eX6_clear_75 : decode cX6_clear 75 = .ok (.invokestatic 75, 3) := by decide +kernel
theorem eX6_clear_78 : decode cX6_clear 78 = .ok (.aload_n 0, 1) := by decide +kernel
theorem eX6_clear_79 : decode cX6_clear 79 = .ok (.getfield 72, 3) := by decide +kernel
theorem eX6_clear_82 : decode cX6_clear 82 = .ok (.iconst 0, 1) := by decide +kernel
theorem eX6_clear_83 : decode cX6_clear 83 = .ok (.invokestatic 75, 3) := by decide +kernel
theorem eX6_clear_86 : decode cX6_clear 86 = .ok (.return_, 1) := by decide +kernel
set_option maxRecDepth 100000 in
theorem m_6_clear_13 (hU : ev_uq ty ev_TR) {C : ev_C} {C' : ev_C} (h : f_6_clear_13 C = some C') : ev_Met l D cys ty ck_tags ev_TR kc_294 [.inr (.inl 13)] C (fun r0 C0 => r0 = none ∧ C0 = C') := by
  unfold f_6_clear_13 at h
  refine ev_enter (by decide +kernel) (by decide +kernel) (Nat.le_of_ble_eq_true rfl) ?_
  show ev_W l D cys ty ck_tags ev_TR kc_294 0 [(0, .inr (.inl 13))] [] C _
  refine ev_al eX6_clear_0 rfl ?_
  refine ev_ic eX6_clear_1 (by decide) ?_
  refine ev_putI lk_f hU (ci := 6) (j := 0) (cd := 0) eX6_clear_2 (isF (by decide +kernel)) rfl rfl (Or.inl rfl) rfl ?_
  refine ev_al eX6_clear_5 rfl ?_
  refine ev_ic eX6_clear_6 (by decide) ?_
  refine ev_putI lk_f hU (ci := 6) (j := 1) (cd := 0) eX6_clear_7 (isF (by decide +kernel)) rfl rfl (Or.inl rfl) rfl ?_
  refine ev_al eX6_clear_10 rfl ?_
  refine ev_ic eX6_clear_11 (by decide) ?_
  refine ev_putI lk_f hU (ci := 6) (j := 2) (cd := 0) eX6_clear_12 (isF (by decide +kernel)) rfl rfl (Or.inl rfl) rfl ?_
  refine ev_al eX6_clear_15 rfl ?_
  refine ev_ic eX6_clear_16 (by decide) ?_
  refine ev_putI lk_f hU (ci := 6) (j := 3) (cd := 0) eX6_clear_17 (isF (by decide +kernel)) rfl rfl (Or.inl rfl) rfl ?_
  refine ev_al eX6_clear_20 rfl ?_
  refine ev_ic eX6_clear_21 (by decide) ?_
  refine ev_putI lk_f hU (ci := 6) (j := 4) (cd := 0) eX6_clear_22 (isF (by decide +kernel)) rfl rfl (Or.inl rfl) rfl ?_
  refine ev_al eX6_clear_25 rfl ?_
  refine ev_ic eX6_clear_26 (by decide) ?_
  refine ev_putI lk_f hU (ci := 6) (j := 5) (cd := 1) eX6_clear_27 (isF (by decide +kernel)) rfl rfl (Or.inr ⟨rfl, by decide, by decide⟩) rfl ?_
  refine ev_al eX6_clear_30 rfl ?_
  refine ev_getR lk_f (ci := 6) (j := 10) (cd := 3) eX6_clear_31 (isF (by decide +kernel)) rfl rfl ?_
  refine ev_ic eX6_clear_34 (by decide) ?_
  obtain ⟨C1, hq1, h⟩ := ev_bv_some h
  refine ev_callS (kc := kc_273) (A := [.inr (.inl 57), .inl 0]) (T := []) (lk_m.1 _ _ 1 [273, 274, 275, 276, 277, 278, 279, 280, 281, 282, 283, 284] (isM (by decide +kernel)) 273 (by decide)) eX6_clear_35 (m_15_fill_57 hU hq1) rfl rfl (by decide) (by decide) (Nat.le_of_ble_eq_true rfl) ?_
  rintro _ C1 ⟨rfl, rfl⟩
  show ev_W l D cys ty ck_tags ev_TR kc_294 38 [(0, .inr (.inl 13))] [] C1 _
  refine ev_al eX6_clear_38 rfl ?_
  refine ev_getR lk_f (ci := 6) (j := 11) (cd := 3) eX6_clear_39 (isF (by decide +kernel)) rfl rfl ?_
  refine ev_ic eX6_clear_42 (by decide) ?_
  obtain ⟨C2, hq2, h⟩ := ev_bv_some h
  refine ev_callS (kc := kc_274) (A := [.inr (.inl 58), .inl 0]) (T := []) (lk_m.1 _ _ 1 [273, 274, 275, 276, 277, 278, 279, 280, 281, 282, 283, 284] (isM (by decide +kernel)) 274 (by decide)) eX6_clear_43 (m_15_fill_58 hU hq2) rfl rfl (by decide) (by decide) (Nat.le_of_ble_eq_true rfl) ?_
  rintro _ C2 ⟨rfl, rfl⟩
  show ev_W l D cys ty ck_tags ev_TR kc_294 46 [(0, .inr (.inl 13))] [] C2 _
  refine ev_al eX6_clear_46 rfl ?_
  refine ev_getR lk_f (ci := 6) (j := 14) (cd := 3) eX6_clear_47 (isF (by decide +kernel)) rfl rfl ?_
  refine ev_ic eX6_clear_50 (by decide) ?_
  obtain ⟨C3, hq3, h⟩ := ev_bv_some h
  refine ev_callS (kc := kc_275) (A := [.inr (.inl 61), .inl 0]) (T := []) (lk_m.1 _ _ 1 [273, 274, 275, 276, 277, 278, 279, 280, 281, 282, 283, 284] (isM (by decide +kernel)) 275 (by decide)) eX6_clear_51 (m_15_fill_61 hU hq3) rfl rfl (by decide) (by decide) (Nat.le_of_ble_eq_true rfl) ?_
  rintro _ C3 ⟨rfl, rfl⟩
  show ev_W l D cys ty ck_tags ev_TR kc_294 54 [(0, .inr (.inl 13))] [] C3 _
  refine ev_al eX6_clear_54 rfl ?_
  refine ev_getR lk_f (ci := 6) (j := 15) (cd := 3) eX6_clear_55 (isF (by decide +kernel)) rfl rfl ?_
  refine ev_ic eX6_clear_58 (by decide) ?_
  obtain ⟨C4, hq4, h⟩ := ev_bv_some h
  refine ev_callS (kc := kc_276) (A := [.inr (.inl 62), .inl 0]) (T := []) (lk_m.1 _ _ 1 [273, 274, 275, 276, 277, 278, 279, 280, 281, 282, 283, 284] (isM (by decide +kernel)) 276 (by decide)) eX6_clear_59 (m_15_fill_62 hU hq4) rfl rfl (by decide) (by decide) (Nat.le_of_ble_eq_true rfl) ?_
  rintro _ C4 ⟨rfl, rfl⟩
  show ev_W l D cys ty ck_tags ev_TR kc_294 62 [(0, .inr (.inl 13))] [] C4 _
  refine ev_al eX6_clear_62 rfl ?_
  refine ev_getR lk_f (ci := 6) (j := 16) (cd := 3) eX6_clear_63 (isF (by decide +kernel)) rfl rfl ?_
  refine ev_ic eX6_clear_66 (by decide) ?_
  obtain ⟨C5, hq5, h⟩ := ev_bv_some h
  refine ev_callS (kc := kc_277) (A := [.inr (.inl 63), .inl 0]) (T := []) (lk_m.1 _ _ 1 [273, 274, 275, 276, 277, 278, 279, 280, 281, 282, 283, 284] (isM (by decide +kernel)) 277 (by decide)) eX6_clear_67 (m_15_fill_63 hU hq5) rfl rfl (by decide) (by decide) (Nat.le_of_ble_eq_true rfl) ?_
  rintro _ C5 ⟨rfl, rfl⟩
  show ev_W l D cys ty ck_tags ev_TR kc_294 70 [(0, .inr (.inl 13))] [] C5 _
  refine ev_al eX6_clear_70 rfl ?_
  refine ev_getR lk_f (ci := 6) (j := 18) (cd := 3) eX6_clear_71 (isF (by decide +kernel)) rfl rfl ?_
  refine ev_ic eX6_clear_74 (by decide) ?_
  obtain ⟨C6, hq6, h⟩ := ev_bv_some h
  refine ev_callS (kc := kc_278) (A := [.inr (.inl 65), .inl 0]) (T := []) (lk_m.1 _ _ 1 [273, 274, 275, 276, 277, 278, 279, 280, 281, 282, 283, 284] (isM (by decide +kernel)) 278 (by decide)) eX6_clear_75 (m_15_fill_65 hU hq6) rfl rfl (by decide) (by decide) (Nat.le_of_ble_eq_true rfl) ?_
  rintro _ C6 ⟨rfl, rfl⟩
  show ev_W l D cys ty ck_tags ev_TR kc_294 78 [(0, .inr (.inl 13))] [] C6 _
  refine ev_al eX6_clear_78 rfl ?_
  refine ev_getR lk_f (ci := 6) (j := 19) (cd := 3) eX6_clear_79 (isF (by decide +kernel)) rfl rfl ?_
  refine ev_ic eX6_clear_82 (by decide) ?_
  obtain ⟨C7, hq7, h⟩ := ev_bv_some h
  refine ev_callS (kc := kc_279) (A := [.inr (.inl 66), .inl 0]) (T := []) (lk_m.1 _ _ 1 [273, 274, 275, 276, 277, 278, 279, 280, 281, 282, 283, 284] (isM (by decide +kernel)) 279 (by decide)) eX6_clear_83 (m_15_fill_66 hU hq7) rfl rfl (by decide) (by decide) (Nat.le_of_ble_eq_true rfl) ?_
  rintro _ C7 ⟨rfl, rfl⟩
  show ev_W l D cys ty ck_tags ev_TR kc_294 86 [(0, .inr (.inl 13))] [] C7 _
  cases h
  exact ev_vret eX6_clear_86 rfl ⟨rfl, rfl⟩
theorem eX8_wordHere_0 : decode cX8_wordHere 0 = .ok (.aload_n 0, 1) := by decide +kernel
theorem eX8_wordHere_1 : decode cX8_wordHere 1 = .ok (.getfield 25, 3) := by decide +kernel
theorem eX8_wordHere_4 : decode cX8_wordHere 4 = .ok (.iconst 1, 1) := by decide +kernel
theorem eX8_wordHere_5 : decode cX8_wordHere 5 = .ok (.if_icmp .ne 10, 3) := by decide +kernel
theorem eX8_wordHere_8 : decode cX8_wordHere 8 = .ok (.aload_n 0, 1) := by decide +kernel
theorem eX8_wordHere_9 : decode cX8_wordHere 9 = .ok (.getfield 34, 3) := by decide +kernel
theorem eX8_wordHere_12 : decode cX8_wordHere 12 = .ok (.goto 4, 3) := by decide +kernel
theorem eX8_wordHere_15 : decode cX8_wordHere 15 = .ok (.iconst (-1), 1) := by decide +kernel
theorem eX8_wordHere_16 : decode cX8_wordHere 16 = .ok (.ireturn, 1) := by decide +kernel
set_option maxRecDepth 100000 in
theorem m_8_wordHere (hU : ev_uq ty ev_TR) {C : ev_C} {r : Int} {C' : ev_C} (h : f_8_wordHere C = some (r, C')) : ev_Met l D cys ty ck_tags ev_TR kc_66 [.inr (.inl 8)] C (fun r0 C0 => r0 = some (.inl r) ∧ C0 = C') := by
  unfold f_8_wordHere at h
  refine ev_enter (by decide +kernel) (by decide +kernel) (Nat.le_of_ble_eq_true rfl) ?_
  show ev_W l D cys ty ck_tags ev_TR kc_66 0 [(0, .inr (.inl 8))] [] C _
  refine ev_al eX8_wordHere_0 rfl ?_
  refine ev_getI lk_f (ci := 8) (j := 4) (cd := 0) eX8_wordHere_1 (isF (by decide +kernel)) rfl rfl rfl ?_
  refine ev_ic eX8_wordHere_4 (by decide) ?_
  refine ev_c_ne (tgt := 15) eX8_wordHere_5 (by decide) (fun hc1 => ?_) (fun hc1 => ?_)
  · rw [if_pos (show (C 8 4) ≠ 1 from hc1)] at h
    refine ev_ic eX8_wordHere_15 (by decide) ?_
    cases h
    exact ev_iret eX8_wordHere_16 rfl ⟨rfl, rfl⟩
  · rw [if_neg (show ¬ ((C 8 4) ≠ 1) from hc1)] at h
    refine ev_al eX8_wordHere_8 rfl ?_
    refine ev_getI lk_f (ci := 8) (j := 7) (cd := 0) eX8_wordHere_9 (isF (by decide +kernel)) rfl rfl rfl ?_
    refine ev_goto (tgt := 16) eX8_wordHere_12 (by decide) ?_
    cases h
    exact ev_iret eX8_wordHere_16 rfl ⟨rfl, rfl⟩
theorem eX8_fail_0 : decode cX8_fail 0 = .ok (.aload_n 0, 1) := by decide +kernel
theorem eX8_fail_1 : decode cX8_fail 1 = .ok (.getfield 41, 3) := by decide +kernel
theorem eX8_fail_4 : decode cX8_fail 4 = .ok (.ifCond .ne 16, 3) := by decide +kernel
theorem eX8_fail_7 : decode cX8_fail 7 = .ok (.aload_n 0, 1) := by decide +kernel
theorem eX8_fail_8 : decode cX8_fail 8 = .ok (.iload_n 1, 1) := by decide +kernel
theorem eX8_fail_9 : decode cX8_fail 9 = .ok (.putfield 41, 3) := by decide +kernel
theorem eX8_fail_12 : decode cX8_fail 12 = .ok (.aload_n 0, 1) := by decide +kernel
theorem eX8_fail_13 : decode cX8_fail 13 = .ok (.aload_n 0, 1) := by decide +kernel
theorem eX8_fail_14 : decode cX8_fail 14 = .ok (.getfield 28, 3) := by decide +kernel
theorem eX8_fail_17 : decode cX8_fail 17 = .ok (.putfield 44, 3) := by decide +kernel
theorem eX8_fail_20 : decode cX8_fail 20 = .ok (.return_, 1) := by decide +kernel
set_option maxRecDepth 100000 in
theorem m_8_fail (hU : ev_uq ty ev_TR) {C : ev_C} {x1 : Int} {C' : ev_C} (h : f_8_fail C x1 = some C') : ev_Met l D cys ty ck_tags ev_TR kc_35 [.inr (.inl 8), .inl x1] C (fun r0 C0 => r0 = none ∧ C0 = C') := by
  unfold f_8_fail at h
  refine ev_enter (by decide +kernel) (by decide +kernel) (Nat.le_of_ble_eq_true rfl) ?_
  show ev_W l D cys ty ck_tags ev_TR kc_35 0 [(0, .inr (.inl 8)), (1, .inl x1)] [] C _
  refine ev_al eX8_fail_0 rfl ?_
  refine ev_getI lk_f (ci := 8) (j := 9) (cd := 0) eX8_fail_1 (isF (by decide +kernel)) rfl rfl rfl ?_
  refine ev_z_ne (tgt := 20) eX8_fail_4 (by decide) (fun hc1 => ?_) (fun hc1 => ?_)
  · rw [if_pos (show (C 8 9) ≠ 0 from hc1)] at h
    cases h
    exact ev_vret eX8_fail_20 rfl ⟨rfl, rfl⟩
  · rw [if_neg (show ¬ ((C 8 9) ≠ 0) from hc1)] at h
    refine ev_al eX8_fail_7 rfl ?_
    refine ev_il eX8_fail_8 rfl ?_
    refine ev_putI lk_f hU (ci := 8) (j := 9) (cd := 0) eX8_fail_9 (isF (by decide +kernel)) rfl rfl (Or.inl rfl) rfl ?_
    refine ev_al eX8_fail_12 rfl ?_
    refine ev_al eX8_fail_13 rfl ?_
    refine ev_getI lk_f (ci := 8) (j := 5) (cd := 0) eX8_fail_14 (isF (by decide +kernel)) rfl rfl rfl ?_
    refine ev_putI lk_f hU (ci := 8) (j := 10) (cd := 0) eX8_fail_17 (isF (by decide +kernel)) rfl rfl (Or.inl rfl) rfl ?_
    cases h
    exact ev_vret eX8_fail_20 rfl ⟨rfl, rfl⟩
theorem eX7_takeOneOf_0 : decode cX7_takeOneOf 0 = .ok (.iload_n 1, 1) := by decide +kernel
theorem eX7_takeOneOf_1 : decode cX7_takeOneOf 1 = .ok (.iload_n 2, 1) := by decide +kernel
theorem eX7_takeOneOf_2 : decode cX7_takeOneOf 2 = .ok (.if_icmp .lt 10, 3) := by decide +kernel
theorem eX7_takeOneOf_5 : decode cX7_takeOneOf 5 = .ok (.aload_n 0, 1) := by decide +kernel
theorem eX7_takeOneOf_6 : decode cX7_takeOneOf 6 = .ok (.iconst 4, 1) := by decide +kernel
theorem eX7_takeOneOf_7 : decode cX7_takeOneOf 7 = .ok (.invokevirtual 79, 3) := by decide +kernel
theorem eX7_takeOneOf_10 : decode cX7_takeOneOf 10 = .ok (.iconst 0, 1) := by decide +kernel
theorem eX7_takeOneOf_11 : decode cX7_takeOneOf 11 = .ok (.ireturn, 1) := by decide +kernel
theorem eX7_takeOneOf_12 : decode cX7_takeOneOf 12 = .ok (.aload_n 0, 1) := by decide +kernel
theorem eX7_takeOneOf_13 : decode cX7_takeOneOf 13 = .ok (.invokevirtual 82, 3) := by decide +kernel
theorem eX7_takeOneOf_16 : decode cX7_takeOneOf 16 = .ok (.iconst 1, 1) := by decide +kernel
theorem eX7_takeOneOf_17 : decode cX7_takeOneOf 17 = .ok (.ireturn, 1) := by decide +kernel
set_option maxRecDepth 100000 in
theorem m_7_takeOneOf_8 (hU : ev_uq ty ev_TR) {C : ev_C} {x1 x2 : Int} {r : Int} {C' : ev_C} (h : f_7_takeOneOf_8 C x1 x2 = some (r, C')) : ev_Met l D cys ty ck_tags ev_TR kc_99 [.inr (.inl 8), .inl x1, .inl x2] C (fun r0 C0 => r0 = some (.inl r) ∧ C0 = C') := by
  unfold f_7_takeOneOf_8 at h
  refine ev_enter (by decide +kernel) (by decide +kernel) (Nat.le_of_ble_eq_true rfl) ?_
  show ev_W l D cys ty ck_tags ev_TR kc_99 0 [(0, .inr (.inl 8)), (1, .inl x1), (2, .inl x2)] [] C _
  refine ev_il eX7_takeOneOf_0 rfl ?_
  refine ev_il eX7_takeOneOf_1 rfl ?_
  refine ev_c_lt (tgt := 12) eX7_takeOneOf_2 (by decide) (fun hc1 => ?_) (fun hc1 => ?_)
  · rw [if_pos (show x1 < x2 from hc1)] at h
    refine ev_al eX7_takeOneOf_12 rfl ?_
    obtain ⟨C2, hq2, h⟩ := ev_bv_some h
    refine ev_callV (kc := kc_57) (A := []) (T := []) (lk_m.1 _ _ 0 [57] (isM (by decide +kernel)) 57 (by decide)) eX7_takeOneOf_13 (m_8_step hU hq2) rfl rfl rfl (by decide) (by decide) (Nat.le_of_ble_eq_true rfl) ?_
    rintro _ C2 ⟨rfl, rfl⟩
    show ev_W l D cys ty ck_tags ev_TR kc_99 16 [(0, .inr (.inl 8)), (1, .inl x1), (2, .inl x2)] [] C2 _
    refine ev_ic eX7_takeOneOf_16 (by decide) ?_
    cases h
    exact ev_zret eX7_takeOneOf_17 rfl (by decide) ⟨rfl, rfl⟩
  · rw [if_neg (show ¬ (x1 < x2) from hc1)] at h
    refine ev_al eX7_takeOneOf_5 rfl ?_
    refine ev_ic eX7_takeOneOf_6 (by decide) ?_
    obtain ⟨C3, hq3, h⟩ := ev_bv_some h
    refine ev_callV (kc := kc_35) (A := [.inl 4]) (T := []) (lk_m.1 _ _ 0 [35] (isM (by decide +kernel)) 35 (by decide)) eX7_takeOneOf_7 (m_8_fail hU hq3) rfl rfl rfl (by decide) (by decide) (Nat.le_of_ble_eq_true rfl) ?_
    rintro _ C3 ⟨rfl, rfl⟩
    show ev_W l D cys ty ck_tags ev_TR kc_99 10 [(0, .inr (.inl 8)), (1, .inl x1), (2, .inl x2)] [] C3 _
    refine ev_ic eX7_takeOneOf_10 (by decide) ?_
    cases h
    exact ev_zret eX7_takeOneOf_11 rfl (by decide) ⟨rfl, rfl⟩
theorem eX8_isAtName_0 : decode cX8_isAtName 0 = .ok (.aload_n 0, 1) := by decide +kernel
theorem eX8_isAtName_1 : decode cX8_isAtName 1 = .ok (.getfield 25, 3) := by decide +kernel
theorem eX8_isAtName_4 : decode cX8_isAtName 4 = .ok (.iconst 1, 1) := by decide +kernel
theorem eX8_isAtName_5 : decode cX8_isAtName 5 = .ok (.if_icmp .ne 15, 3) := by decide +kernel
theorem eX8_isAtName_8 : decode cX8_isAtName 8 = .ok (.aload_n 0, 1) := by decide +kernel
theorem eX8_isAtName_9 : decode cX8_isAtName 9 = .ok (.getfield 34, 3) := by decide +kernel
theorem eX8_isAtName_12 : decode cX8_isAtName 12 = .ok (.iconst (-1), 1) := by decide +kernel
theorem eX8_isAtName_13 : decode cX8_isAtName 13 = .ok (.if_icmp .ne 7, 3) := by decide +kernel
theorem eX8_isAtName_16 : decode cX8_isAtName 16 = .ok (.iconst 1, 1) := by decide +kernel
theorem eX8_isAtName_17 : decode cX8_isAtName 17 = .ok (.goto 4, 3) := by decide +kernel
theorem eX8_isAtName_20 : decode cX8_isAtName 20 = .ok (.iconst 0, 1) := by decide +kernel
theorem eX8_isAtName_21 : decode cX8_isAtName 21 = .ok (.ireturn, 1) := by decide +kernel
set_option maxRecDepth 100000 in
theorem m_8_isAtName (hU : ev_uq ty ev_TR) {C : ev_C} {r : Int} {C' : ev_C} (h : f_8_isAtName C = some (r, C')) : ev_Met l D cys ty ck_tags ev_TR kc_0 [.inr (.inl 8)] C (fun r0 C0 => r0 = some (.inl r) ∧ C0 = C') := by
  unfold f_8_isAtName at h
  refine ev_enter (by decide +kernel) (by decide +kernel) (Nat.le_of_ble_eq_true rfl) ?_
  show ev_W l D cys ty ck_tags ev_TR kc_0 0 [(0, .inr (.inl 8))] [] C _
  refine ev_al eX8_isAtName_0 rfl ?_
  refine ev_getI lk_f (ci := 8) (j := 4) (cd := 0) eX8_isAtName_1 (isF (by decide +kernel)) rfl rfl rfl ?_
  refine ev_ic eX8_isAtName_4 (by decide) ?_
  refine ev_c_ne (tgt := 20) eX8_isAtName_5 (by decide) (fun hc1 => ?_) (fun hc1 => ?_)
  · rw [if_pos (show (C 8 4) ≠ 1 from hc1)] at h
    refine ev_ic eX8_isAtName_20 (by decide) ?_
    cases h
    exact ev_zret eX8_isAtName_21 rfl (by decide) ⟨rfl, rfl⟩
  · rw [if_neg (show ¬ ((C 8 4) ≠ 1) from hc1)] at h
    refine ev_al eX8_isAtName_8 rfl ?_
    refine ev_getI lk_f (ci := 8) (j := 7) (cd := 0) eX8_isAtName_9 (isF (by decide +kernel)) rfl rfl rfl ?_
    refine ev_ic eX8_isAtName_12 (by decide) ?_
    refine ev_c_ne (tgt := 20) eX8_isAtName_13 (by decide) (fun hc2 => ?_) (fun hc2 => ?_)
    · rw [if_pos (show (C 8 7) ≠ -1 from hc2)] at h
      refine ev_ic eX8_isAtName_20 (by decide) ?_
      cases h
      exact ev_zret eX8_isAtName_21 rfl (by decide) ⟨rfl, rfl⟩
    · rw [if_neg (show ¬ ((C 8 7) ≠ -1) from hc2)] at h
      refine ev_ic eX8_isAtName_16 (by decide) ?_
      refine ev_goto (tgt := 21) eX8_isAtName_17 (by decide) ?_
      cases h
      exact ev_zret eX8_isAtName_21 rfl (by decide) ⟨rfl, rfl⟩
set_option maxRecDepth 100000 in
theorem m_8_indexOf_53_L3 (hU : ev_uq ty ev_TR) : ∀ (n : Nat) {C : ev_C} {y1 y2 y4 : Int} {r : Int} {C' : ev_C}, f_8_indexOf_53_L3 n C y1 y2 y4 = some (r, C') → ev_W l D cys ty ck_tags ev_TR kc_37 3 [(0, .inr (.inl 53)), (1, .inl y1), (2, .inr (.inr y2)), (4, .inl y4)] [] C (fun r0 C0 => r0 = some (.inl r) ∧ C0 = C')
  | 0, _, _, _, _, _, _, h => by cases h
  | n + 1, C, y1, y2, y4, _, _, h => by
    unfold f_8_indexOf_53_L3 at h
    refine ev_ilw eX8_indexOf_3 rfl ?_
    refine ev_il eX8_indexOf_5 rfl ?_
    refine ev_c_ge (tgt := 34) eX8_indexOf_6 (by decide) (fun hc1 => ?_) (fun hc1 => ?_)
    · rw [if_pos (show y1 ≤ y4 from hc1)] at h
      refine ev_ic eX8_indexOf_34 (by decide) ?_
      cases h
      exact ev_iret eX8_indexOf_35 rfl ⟨rfl, rfl⟩
    · rw [if_neg (show ¬ (y1 ≤ y4) from hc1)] at h
      refine ev_ilw eX8_indexOf_9 rfl ?_
      refine ev_al eX8_indexOf_11 rfl ?_
      refine ev_alen (v := 6) eX8_indexOf_12 rfl (by decide) rfl ?_
      refine ev_c_ge (tgt := 34) eX8_indexOf_13 (by decide) (fun hc2 => ?_) (fun hc2 => ?_)
      · rw [if_pos (show 6 ≤ y4 from hc2)] at h
        refine ev_ic eX8_indexOf_34 (by decide) ?_
        cases h
        exact ev_iret eX8_indexOf_35 rfl ⟨rfl, rfl⟩
      · rw [if_neg (show ¬ (6 ≤ y4) from hc2)] at h
        refine ev_al eX8_indexOf_16 rfl ?_
        refine ev_ilw eX8_indexOf_17 rfl ?_
        obtain ⟨hb3, h⟩ := ev_gd h
        refine ev_lald eX8_indexOf_19 rfl rfl hb3.1 hb3.2 ?_
        refine ev_ll eX8_indexOf_20 rfl ?_
        refine ev_lcmp eX8_indexOf_21 ?_
        refine ev_z_ne (tgt := 28) eX8_indexOf_22 (by decide) (fun hc4 => ?_) (fun hc4 => ?_)
        · rw [if_pos (show ev_cmp ((C 53 (Int.toNat y4))) y2 ≠ 0 from hc4)] at h
          refine ev_inc (L' := [(4, .inl (ev_w (y4 + 1))), (0, .inr (.inl 53)), (1, .inl y1), (2, .inr (.inr y2))]) eX8_indexOf_28 (by decide) (by decide) rfl rfl ?_
          refine ev_goto (tgt := 3) eX8_indexOf_31 (by decide) ?_
          refine ev_loc (L' := [(0, .inr (.inl 53)), (1, .inl y1), (2, .inr (.inr y2)), (4, .inl (ev_w (y4 + 1)))]) rfl ?_
          exact m_8_indexOf_53_L3 hU n h
        · rw [if_neg (show ¬ (ev_cmp ((C 53 (Int.toNat y4))) y2 ≠ 0) from hc4)] at h
          refine ev_ilw eX8_indexOf_25 rfl ?_
          cases h
          exact ev_iret eX8_indexOf_27 rfl ⟨rfl, rfl⟩
set_option maxRecDepth 100000 in
theorem m_8_indexOf_53 (hU : ev_uq ty ev_TR) {C : ev_C} {x1 x2 : Int} {r : Int} {C' : ev_C} (h : f_8_indexOf_53 C x1 x2 = some (r, C')) : ev_Met l D cys ty ck_tags ev_TR kc_37 [.inr (.inl 53), .inl x1, .inr (.inr x2)] C (fun r0 C0 => r0 = some (.inl r) ∧ C0 = C') := by
  unfold f_8_indexOf_53 at h
  refine ev_enter (by decide +kernel) (by decide +kernel) (Nat.le_of_ble_eq_true rfl) ?_
  show ev_W l D cys ty ck_tags ev_TR kc_37 0 [(0, .inr (.inl 53)), (1, .inl x1), (2, .inr (.inr x2))] [] C _
  refine ev_ic eX8_indexOf_0 (by decide) ?_
  refine ev_isw (L' := [(4, .inl 0), (0, .inr (.inl 53)), (1, .inl x1), (2, .inr (.inr x2))]) eX8_indexOf_1 (by decide) rfl ?_
  refine ev_loc (L' := [(0, .inr (.inl 53)), (1, .inl x1), (2, .inr (.inr x2)), (4, .inl 0)]) rfl ?_
  exact m_8_indexOf_53_L3 hU 1000 h
set_option maxRecDepth 100000 in
theorem m_8_indexOf_54_L3 (hU : ev_uq ty ev_TR) : ∀ (n : Nat) {C : ev_C} {y1 y2 y4 : Int} {r : Int} {C' : ev_C}, f_8_indexOf_54_L3 n C y1 y2 y4 = some (r, C') → ev_W l D cys ty ck_tags ev_TR kc_38 3 [(0, .inr (.inl 54)), (1, .inl y1), (2, .inr (.inr y2)), (4, .inl y4)] [] C (fun r0 C0 => r0 = some (.inl r) ∧ C0 = C')
  | 0, _, _, _, _, _, _, h => by cases h
  | n + 1, C, y1, y2, y4, _, _, h => by
    unfold f_8_indexOf_54_L3 at h
    refine ev_ilw eX8_indexOf_3 rfl ?_
    refine ev_il eX8_indexOf_5 rfl ?_
    refine ev_c_ge (tgt := 34) eX8_indexOf_6 (by decide) (fun hc1 => ?_) (fun hc1 => ?_)
    · rw [if_pos (show y1 ≤ y4 from hc1)] at h
      refine ev_ic eX8_indexOf_34 (by decide) ?_
      cases h
      exact ev_iret eX8_indexOf_35 rfl ⟨rfl, rfl⟩
    · rw [if_neg (show ¬ (y1 ≤ y4) from hc1)] at h
      refine ev_ilw eX8_indexOf_9 rfl ?_
      refine ev_al eX8_indexOf_11 rfl ?_
      refine ev_alen (v := 6) eX8_indexOf_12 rfl (by decide) rfl ?_
      refine ev_c_ge (tgt := 34) eX8_indexOf_13 (by decide) (fun hc2 => ?_) (fun hc2 => ?_)
      · rw [if_pos (show 6 ≤ y4 from hc2)] at h
        refine ev_ic eX8_indexOf_34 (by decide) ?_
        cases h
        exact ev_iret eX8_indexOf_35 rfl ⟨rfl, rfl⟩
      · rw [if_neg (show ¬ (6 ≤ y4) from hc2)] at h
        refine ev_al eX8_indexOf_16 rfl ?_
        refine ev_ilw eX8_indexOf_17 rfl ?_
        obtain ⟨hb3, h⟩ := ev_gd h
        refine ev_lald eX8_indexOf_19 rfl rfl hb3.1 hb3.2 ?_
        refine ev_ll eX8_indexOf_20 rfl ?_
        refine ev_lcmp eX8_indexOf_21 ?_
        refine ev_z_ne (tgt := 28) eX8_indexOf_22 (by decide) (fun hc4 => ?_) (fun hc4 => ?_)
        · rw [if_pos (show ev_cmp ((C 54 (Int.toNat y4))) y2 ≠ 0 from hc4)] at h
          refine ev_inc (L' := [(4, .inl (ev_w (y4 + 1))), (0, .inr (.inl 54)), (1, .inl y1), (2, .inr (.inr y2))]) eX8_indexOf_28 (by decide) (by decide) rfl rfl ?_
          refine ev_goto (tgt := 3) eX8_indexOf_31 (by decide) ?_
          refine ev_loc (L' := [(0, .inr (.inl 54)), (1, .inl y1), (2, .inr (.inr y2)), (4, .inl (ev_w (y4 + 1)))]) rfl ?_
          exact m_8_indexOf_54_L3 hU n h
        · rw [if_neg (show ¬ (ev_cmp ((C 54 (Int.toNat y4))) y2 ≠ 0) from hc4)] at h
          refine ev_ilw eX8_indexOf_25 rfl ?_
          cases h
          exact ev_iret eX8_indexOf_27 rfl ⟨rfl, rfl⟩
set_option maxRecDepth 100000 in
theorem m_8_indexOf_54 (hU : ev_uq ty ev_TR) {C : ev_C} {x1 x2 : Int} {r : Int} {C' : ev_C} (h : f_8_indexOf_54 C x1 x2 = some (r, C')) : ev_Met l D cys ty ck_tags ev_TR kc_38 [.inr (.inl 54), .inl x1, .inr (.inr x2)] C (fun r0 C0 => r0 = some (.inl r) ∧ C0 = C') := by
  unfold f_8_indexOf_54 at h
  refine ev_enter (by decide +kernel) (by decide +kernel) (Nat.le_of_ble_eq_true rfl) ?_
  show ev_W l D cys ty ck_tags ev_TR kc_38 0 [(0, .inr (.inl 54)), (1, .inl x1), (2, .inr (.inr x2))] [] C _
  refine ev_ic eX8_indexOf_0 (by decide) ?_
  refine ev_isw (L' := [(4, .inl 0), (0, .inr (.inl 54)), (1, .inl x1), (2, .inr (.inr x2))]) eX8_indexOf_1 (by decide) rfl ?_
  refine ev_loc (L' := [(0, .inr (.inl 54)), (1, .inl x1), (2, .inr (.inr x2)), (4, .inl 0)]) rfl ?_
  exact m_8_indexOf_54_L3 hU 1000 h
set_option maxRecDepth 100000 in
theorem m_8_indexOf_55_L3 (hU : ev_uq ty ev_TR) : ∀ (n : Nat) {C : ev_C} {y1 y2 y4 : Int} {r : Int} {C' : ev_C}, f_8_indexOf_55_L3 n C y1 y2 y4 = some (r, C') → ev_W l D cys ty ck_tags ev_TR kc_39 3 [(0, .inr (.inl 55)), (1, .inl y1), (2, .inr (.inr y2)), (4, .inl y4)] [] C (fun r0 C0 => r0 = some (.inl r) ∧ C0 = C')
  | 0, _, _, _, _, _, _, h => by cases h
  | n + 1, C, y1, y2, y4, _, _, h => by
    unfold f_8_indexOf_55_L3 at h
    refine ev_ilw eX8_indexOf_3 rfl ?_
    refine ev_il eX8_indexOf_5 rfl ?_
    refine ev_c_ge (tgt := 34) eX8_indexOf_6 (by decide) (fun hc1 => ?_) (fun hc1 => ?_)
    · rw [if_pos (show y1 ≤ y4 from hc1)] at h
      refine ev_ic eX8_indexOf_34 (by decide) ?_
      cases h
      exact ev_iret eX8_indexOf_35 rfl ⟨rfl, rfl⟩
    · rw [if_neg (show ¬ (y1 ≤ y4) from hc1)] at h
      refine ev_ilw eX8_indexOf_9 rfl ?_
      refine ev_al eX8_indexOf_11 rfl ?_
      refine ev_alen (v := 8) eX8_indexOf_12 rfl (by decide) rfl ?_
      refine ev_c_ge (tgt := 34) eX8_indexOf_13 (by decide) (fun hc2 => ?_) (fun hc2 => ?_)
      · rw [if_pos (show 8 ≤ y4 from hc2)] at h
        refine ev_ic eX8_indexOf_34 (by decide) ?_
        cases h
        exact ev_iret eX8_indexOf_35 rfl ⟨rfl, rfl⟩
      · rw [if_neg (show ¬ (8 ≤ y4) from hc2)] at h
        refine ev_al eX8_indexOf_16 rfl ?_
        refine ev_ilw eX8_indexOf_17 rfl ?_
        obtain ⟨hb3, h⟩ := ev_gd h
        refine ev_lald eX8_indexOf_19 rfl rfl hb3.1 hb3.2 ?_
        refine ev_ll eX8_indexOf_20 rfl ?_
        refine ev_lcmp eX8_indexOf_21 ?_
        refine ev_z_ne (tgt := 28) eX8_indexOf_22 (by decide) (fun hc4 => ?_) (fun hc4 => ?_)
        · rw [if_pos (show ev_cmp ((C 55 (Int.toNat y4))) y2 ≠ 0 from hc4)] at h
          refine ev_inc (L' := [(4, .inl (ev_w (y4 + 1))), (0, .inr (.inl 55)), (1, .inl y1), (2, .inr (.inr y2))]) eX8_indexOf_28 (by decide) (by decide) rfl rfl ?_
          refine ev_goto (tgt := 3) eX8_indexOf_31 (by decide) ?_
          refine ev_loc (L' := [(0, .inr (.inl 55)), (1, .inl y1), (2, .inr (.inr y2)), (4, .inl (ev_w (y4 + 1)))]) rfl ?_
          exact m_8_indexOf_55_L3 hU n h
        · rw [if_neg (show ¬ (ev_cmp ((C 55 (Int.toNat y4))) y2 ≠ 0) from hc4)] at h
          refine ev_ilw eX8_indexOf_25 rfl ?_
          cases h
          exact ev_iret eX8_indexOf_27 rfl ⟨rfl, rfl⟩
set_option maxRecDepth 100000 in
theorem m_8_indexOf_55 (hU : ev_uq ty ev_TR) {C : ev_C} {x1 x2 : Int} {r : Int} {C' : ev_C} (h : f_8_indexOf_55 C x1 x2 = some (r, C')) : ev_Met l D cys ty ck_tags ev_TR kc_39 [.inr (.inl 55), .inl x1, .inr (.inr x2)] C (fun r0 C0 => r0 = some (.inl r) ∧ C0 = C') := by
  unfold f_8_indexOf_55 at h
  refine ev_enter (by decide +kernel) (by decide +kernel) (Nat.le_of_ble_eq_true rfl) ?_
  show ev_W l D cys ty ck_tags ev_TR kc_39 0 [(0, .inr (.inl 55)), (1, .inl x1), (2, .inr (.inr x2))] [] C _
  refine ev_ic eX8_indexOf_0 (by decide) ?_
  refine ev_isw (L' := [(4, .inl 0), (0, .inr (.inl 55)), (1, .inl x1), (2, .inr (.inr x2))]) eX8_indexOf_1 (by decide) rfl ?_
  refine ev_loc (L' := [(0, .inr (.inl 55)), (1, .inl x1), (2, .inr (.inr x2)), (4, .inl 0)]) rfl ?_
  exact m_8_indexOf_55_L3 hU 1000 h
theorem eX6_hasName_0 : decode cX6_hasName 0 = .ok (.aload_n 0, 1) := by decide +kernel
theorem eX6_hasName_1 : decode cX6_hasName 1 = .ok (.getfield 31, 3) := by decide +kernel
theorem eX6_hasName_4 : decode cX6_hasName 4 = .ok (.aload_n 0, 1) := by decide +kernel
theorem eX6_hasName_5 : decode cX6_hasName 5 = .ok (.getfield 9, 3) := by decide +kernel
theorem eX6_hasName_8 : decode cX6_hasName 8 = .ok (.lload_n 1, 1) := by decide +kernel
theorem eX6_hasName_9 : decode cX6_hasName 9 = .ok (.invokestatic 87, 3) := by decide +kernel
theorem eX6_hasName_12 : decode cX6_hasName 12 = .ok (.iconst (-1), 1) := by decide +kernel
theorem eX6_hasName_13 : decode cX6_hasName 13 = .ok (.if_icmp .ne 35, 3) := by decide +kernel
theorem eX6_hasName_16 : decode cX6_hasName 16 = .ok (.aload_n 0, 1) := by decide +kernel
theorem eX6_hasName_17 : decode cX6_hasName 17 = .ok (.getfield 35, 3) := by decide +kernel
theorem eX6_hasName_20 : decode cX6_hasName 20 = .ok (.aload_n 0, 1) := by decide +kernel
theorem eX6_hasName_21 : decode cX6_hasName 21 = .ok (.getfield 15, 3) := by decide +kernel
theorem eX6_hasName_24 : decode cX6_hasName 24 = .ok (.lload_n 1, 1) := by decide +kernel
theorem eX6_hasName_25 : decode cX6_hasName 25 = .ok (.invokestatic 87, 3) := by decide +kernel
theorem eX6_hasName_28 : decode cX6_hasName 28 = .ok (.iconst (-1), 1) := by decide +kernel
theorem eX6_hasName_29 : decode cX6_hasName 29 = .ok (.if_icmp .ne 19, 3) := by decide +kernel
theorem eX6_hasName_32 : decode cX6_hasName 32 = .ok (.aload_n 0, 1) := by decide +kernel
theorem eX6_hasName_33 : decode cX6_hasName 33 = .ok (.getfield 38, 3) := by decide +kernel
theorem eX6_hasName_36 : decode cX6_hasName 36 = .ok (.aload_n 0, 1) := by decide +kernel
theorem eX6_hasName_37 : decode cX6_hasName 37 = .ok (.getfield 18, 3) := by decide +kernel
theorem eX6_hasName_40 : decode cX6_hasName 40 = .ok (.lload_n 1, 1) := by decide +kernel
theorem eX6_hasName_41 : decode cX6_hasName 41 = .ok (.invokestatic 87, 3) := by decide +kernel
theorem eX6_hasName_44 : decode cX6_hasName 44 = .ok (.iconst (-1), 1) := by decide +kernel
theorem eX6_hasName_45 : decode cX6_hasName 45 = .ok (.if_icmp .eq 7, 3) := by decide +kernel
theorem eX6_hasName_48 : decode cX6_hasName 48 = .ok (.iconst 1, 1) := by decide +kernel
theorem eX6_hasName_49 : decode cX6_hasName 49 = .ok (.goto 4, 3) := by decide +kernel
theorem eX6_hasName_52 : decode cX6_hasName 52 = .ok (.iconst 0, 1) := by decide +kernel
theorem eX6_hasName_53 : decode cX6_hasName 53 = .ok (.ireturn, 1) := by decide +kernel
set_option maxRecDepth 100000 in
theorem m_6_hasName_13 (hU : ev_uq ty ev_TR) {C : ev_C} {x1 : Int} {r : Int} {C' : ev_C} (h : f_6_hasName_13 C x1 = some (r, C')) : ev_Met l D cys ty ck_tags ev_TR kc_96 [.inr (.inl 13), .inr (.inr x1)] C (fun r0 C0 => r0 = some (.inl r) ∧ C0 = C') := by
  unfold f_6_hasName_13 at h
  refine ev_enter (by decide +kernel) (by decide +kernel) (Nat.le_of_ble_eq_true rfl) ?_
  show ev_W l D cys ty ck_tags ev_TR kc_96 0 [(0, .inr (.inl 13)), (1, .inr (.inr x1))] [] C _
  refine ev_al eX6_hasName_0 rfl ?_
  refine ev_getR lk_f (ci := 6) (j := 6) (cd := 3) eX6_hasName_1 (isF (by decide +kernel)) rfl rfl ?_
  refine ev_al eX6_hasName_4 rfl ?_
  refine ev_getI lk_f (ci := 6) (j := 0) (cd := 0) eX6_hasName_5 (isF (by decide +kernel)) rfl rfl rfl ?_
  refine ev_ll eX6_hasName_8 rfl ?_
  obtain ⟨r1, C1, hq1, h⟩ := ev_bd_some h
  refine ev_callS (kc := kc_37) (A := [.inr (.inl 53), .inl ((C 13 0)), .inr (.inr x1)]) (T := []) (lk_m.1 _ _ 1 [37, 38, 39, 40, 41, 42, 43] (isM (by decide +kernel)) 37 (by decide)) eX6_hasName_9 (m_8_indexOf_53 hU hq1) rfl rfl (by decide) (by decide) (Nat.le_of_ble_eq_true rfl) ?_
  rintro _ C1 ⟨rfl, rfl⟩
  show ev_W l D cys ty ck_tags ev_TR kc_96 12 [(0, .inr (.inl 13)), (1, .inr (.inr x1))] [.inl r1] C1 _
  refine ev_ic eX6_hasName_12 (by decide) ?_
  refine ev_c_ne (tgt := 48) eX6_hasName_13 (by decide) (fun hc2 => ?_) (fun hc2 => ?_)
  · rw [if_pos (show r1 ≠ -1 from hc2)] at h
    refine ev_ic eX6_hasName_48 (by decide) ?_
    refine ev_goto (tgt := 53) eX6_hasName_49 (by decide) ?_
    cases h
    exact ev_zret eX6_hasName_53 rfl (by decide) ⟨rfl, rfl⟩
  · rw [if_neg (show ¬ (r1 ≠ -1) from hc2)] at h
    refine ev_al eX6_hasName_16 rfl ?_
    refine ev_getR lk_f (ci := 6) (j := 7) (cd := 3) eX6_hasName_17 (isF (by decide +kernel)) rfl rfl ?_
    refine ev_al eX6_hasName_20 rfl ?_
    refine ev_getI lk_f (ci := 6) (j := 1) (cd := 0) eX6_hasName_21 (isF (by decide +kernel)) rfl rfl rfl ?_
    refine ev_ll eX6_hasName_24 rfl ?_
    obtain ⟨r3, C3, hq3, h⟩ := ev_bd_some h
    refine ev_callS (kc := kc_38) (A := [.inr (.inl 54), .inl ((C1 13 1)), .inr (.inr x1)]) (T := []) (lk_m.1 _ _ 1 [37, 38, 39, 40, 41, 42, 43] (isM (by decide +kernel)) 38 (by decide)) eX6_hasName_25 (m_8_indexOf_54 hU hq3) rfl rfl (by decide) (by decide) (Nat.le_of_ble_eq_true rfl) ?_
    rintro _ C3 ⟨rfl, rfl⟩
    show ev_W l D cys ty ck_tags ev_TR kc_96 28 [(0, .inr (.inl 13)), (1, .inr (.inr x1))] [.inl r3] C3 _
    refine ev_ic eX6_hasName_28 (by decide) ?_
    refine ev_c_ne (tgt := 48) eX6_hasName_29 (by decide) (fun hc4 => ?_) (fun hc4 => ?_)
    · rw [if_pos (show r3 ≠ -1 from hc4)] at h
      refine ev_ic eX6_hasName_48 (by decide) ?_
      refine ev_goto (tgt := 53) eX6_hasName_49 (by decide) ?_
      cases h
      exact ev_zret eX6_hasName_53 rfl (by decide) ⟨rfl, rfl⟩
    · rw [if_neg (show ¬ (r3 ≠ -1) from hc4)] at h
      refine ev_al eX6_hasName_32 rfl ?_
      refine ev_getR lk_f (ci := 6) (j := 8) (cd := 3) eX6_hasName_33 (isF (by decide +kernel)) rfl rfl ?_
      refine ev_al eX6_hasName_36 rfl ?_
      refine ev_getI lk_f (ci := 6) (j := 2) (cd := 0) eX6_hasName_37 (isF (by decide +kernel)) rfl rfl rfl ?_
      refine ev_ll eX6_hasName_40 rfl ?_
      obtain ⟨r5, C5, hq5, h⟩ := ev_bd_some h
      refine ev_callS (kc := kc_39) (A := [.inr (.inl 55), .inl ((C3 13 2)), .inr (.inr x1)]) (T := []) (lk_m.1 _ _ 1 [37, 38, 39, 40, 41, 42, 43] (isM (by decide +kernel)) 39 (by decide)) eX6_hasName_41 (m_8_indexOf_55 hU hq5) rfl rfl (by decide) (by decide) (Nat.le_of_ble_eq_true rfl) ?_
      rintro _ C5 ⟨rfl, rfl⟩
      show ev_W l D cys ty ck_tags ev_TR kc_96 44 [(0, .inr (.inl 13)), (1, .inr (.inr x1))] [.inl r5] C5 _
      refine ev_ic eX6_hasName_44 (by decide) ?_
      refine ev_c_eq (tgt := 52) eX6_hasName_45 (by decide) (fun hc6 => ?_) (fun hc6 => ?_)
      · rw [if_pos (show r5 = -1 from hc6)] at h
        refine ev_ic eX6_hasName_52 (by decide) ?_
        cases h
        exact ev_zret eX6_hasName_53 rfl (by decide) ⟨rfl, rfl⟩
      · rw [if_neg (show ¬ (r5 = -1) from hc6)] at h
        refine ev_ic eX6_hasName_48 (by decide) ?_
        refine ev_goto (tgt := 53) eX6_hasName_49 (by decide) ?_
        cases h
        exact ev_zret eX6_hasName_53 rfl (by decide) ⟨rfl, rfl⟩
theorem eX7_takeNewName_0 : decode cX7_takeNewName 0 = .ok (.aload_n 1, 1) := by decide +kernel
theorem eX7_takeNewName_1 : decode cX7_takeNewName 1 = .ok (.invokevirtual 85, 3) := by decide +kernel
theorem eX7_takeNewName_4 : decode cX7_takeNewName 4 = .ok (.ifCond .ne 10, 3) := by decide +kernel
theorem eX7_takeNewName_7 : decode cX7_takeNewName 7 = .ok (.aload_n 1, 1) := by decide +kernel
theorem eX7_takeNewName_8 : decode cX7_takeNewName 8 = .ok (.iconst 1, 1) := by decide +kernel
theorem eX7_takeNewName_9 : decode cX7_takeNewName 9 = .ok (.invokevirtual 79, 3) := by decide +kernel
theorem eX7_takeNewName_12 : decode cX7_takeNewName 12 = .ok (.iconst 0, 1) := by decide +kernel
theorem eX7_takeNewName_13 : decode cX7_takeNewName 13 = .ok (.ireturn, 1) := by decide +kernel
theorem eX7_takeNewName_14 : decode cX7_takeNewName 14 = .ok (.aload_n 0, 1) := by decide +kernel
theorem eX7_takeNewName_15 : decode cX7_takeNewName 15 = .ok (.getfield 12, 3) := by decide +kernel
theorem eX7_takeNewName_18 : decode cX7_takeNewName 18 = .ok (.aload_n 1, 1) := by decide +kernel
theorem eX7_takeNewName_19 : decode cX7_takeNewName 19 = .ok (.getfield 88, 3) := by decide +kernel
theorem eX7_takeNewName_22 : decode cX7_takeNewName 22 = .ok (.invokevirtual 92, 3) := by decide +kernel
theorem eX7_takeNewName_25 : decode cX7_takeNewName 25 = .ok (.ifCond .eq 10, 3) := by decide +kernel
theorem eX7_takeNewName_28 : decode cX7_takeNewName 28 = .ok (.aload_n 1, 1) := by decide +kernel
theorem eX7_takeNewName_29 : decode cX7_takeNewName 29 = .ok (.iconst 3, 1) := by decide +kernel
theorem eX7_takeNewName_30 : decode cX7_takeNewName 30 = .ok (.invokevirtual 79, 3) := by decide +kernel
theorem eX7_takeNewName_33 : decode cX7_takeNewName 33 = .ok (.iconst 0, 1) := by decide +kernel
theorem eX7_takeNewName_34 : decode cX7_takeNewName 34 = .ok (.ireturn, 1) := by decide +kernel
theorem eX7_takeNewName_35 : decode cX7_takeNewName 35 = .ok (.iload_n 3, 1) := by decide +kernel
theorem eX7_takeNewName_36 : decode cX7_takeNewName 36 = .ok (.aload_n 2, 1) := by decide +kernel
theorem eX7_takeNewName_37 : decode cX7_takeNewName 37 = .ok (.arraylength, 1) := by decide +kernel
theorem eX7_takeNewName_38 : decode cX7_takeNewName 38 = .ok (.if_icmp .ge 10, 3) := by decide +kernel
theorem eX7_takeNewName_41 : decode cX7_takeNewName 41 = .ok (.aload_n 2, 1) := by decide +kernel
theorem eX7_takeNewName_42 : decode cX7_takeNewName 42 = .ok (.iload_n 3, 1) := by decide +kernel
theorem eX7_takeNewName_43 : decode cX7_takeNewName 43 = .ok (.aload_n 1, 1) := by decide +kernel
theorem eX7_takeNewName_44 : decode cX7_takeNewName 44 = .ok (.getfield 88, 3) := by decide +kernel
theorem eX7_takeNewName_47 : decode cX7_takeNewName 47 = .ok (.lastore, 1) := by decide +kernel
theorem eX7_takeNewName_48 : decode cX7_takeNewName 48 = .ok (.aload_n 1, 1) := by decide +kernel
theorem eX7_takeNewName_49 : decode cX7_takeNewName 49 = .ok (.invokevirtual 82, 3) := by decide +kernel
theorem eX7_takeNewName_52 : decode cX7_takeNewName 52 = .ok (.iconst 1, 1) := by decide +kernel
theorem eX7_takeNewName_53 : decode cX7_takeNewName 53 = .ok (.ireturn, 1) := by decide +kernel
set_option maxRecDepth 100000 in
theorem m_7_takeNewName_8_53 (hU : ev_uq ty ev_TR) {C : ev_C} {x3 : Int} {r : Int} {C' : ev_C} (h : f_7_takeNewName_8_53 C x3 = some (r, C')) : ev_Met l D cys ty ck_tags ev_TR kc_105 [.inr (.inl 7), .inr (.inl 8), .inr (.inl 53), .inl x3] C (fun r0 C0 => r0 = some (.inl r) ∧ C0 = C') := by
  unfold f_7_takeNewName_8_53 at h
  refine ev_enter (by decide +kernel) (by decide +kernel) (Nat.le_of_ble_eq_true rfl) ?_
  show ev_W l D cys ty ck_tags ev_TR kc_105 0 [(0, .inr (.inl 7)), (1, .inr (.inl 8)), (2, .inr (.inl 53)), (3, .inl x3)] [] C _
  refine ev_al eX7_takeNewName_0 rfl ?_
  obtain ⟨r1, C1, hq1, h⟩ := ev_bd_some h
  refine ev_callV (kc := kc_0) (A := []) (T := []) (lk_m.1 _ _ 0 [0] (isM (by decide +kernel)) 0 (by decide)) eX7_takeNewName_1 (m_8_isAtName hU hq1) rfl rfl rfl (by decide) (by decide) (Nat.le_of_ble_eq_true rfl) ?_
  rintro _ C1 ⟨rfl, rfl⟩
  show ev_W l D cys ty ck_tags ev_TR kc_105 4 [(0, .inr (.inl 7)), (1, .inr (.inl 8)), (2, .inr (.inl 53)), (3, .inl x3)] [.inl r1] C1 _
  refine ev_z_ne (tgt := 14) eX7_takeNewName_4 (by decide) (fun hc2 => ?_) (fun hc2 => ?_)
  · rw [if_pos (show r1 ≠ 0 from hc2)] at h
    refine ev_al eX7_takeNewName_14 rfl ?_
    refine ev_getR lk_f (ci := 7) (j := 0) (cd := 3) eX7_takeNewName_15 (isF (by decide +kernel)) rfl rfl ?_
    refine ev_al eX7_takeNewName_18 rfl ?_
    refine ev_getL lk_f (ci := 8) (j := 8) (cd := 2) eX7_takeNewName_19 (isF (by decide +kernel)) rfl rfl rfl ?_
    obtain ⟨r3, C3, hq3, h⟩ := ev_bd_some h
    refine ev_callV (kc := kc_96) (A := [.inr (.inr ((C1 8 8)))]) (T := []) (lk_m.1 _ _ 0 [96] (isM (by decide +kernel)) 96 (by decide)) eX7_takeNewName_22 (m_6_hasName_13 hU hq3) rfl rfl rfl (by decide) (by decide) (Nat.le_of_ble_eq_true rfl) ?_
    rintro _ C3 ⟨rfl, rfl⟩
    show ev_W l D cys ty ck_tags ev_TR kc_105 25 [(0, .inr (.inl 7)), (1, .inr (.inl 8)), (2, .inr (.inl 53)), (3, .inl x3)] [.inl r3] C3 _
    refine ev_z_eq (tgt := 35) eX7_takeNewName_25 (by decide) (fun hc4 => ?_) (fun hc4 => ?_)
    · rw [if_pos (show r3 = 0 from hc4)] at h
      refine ev_il eX7_takeNewName_35 rfl ?_
      refine ev_al eX7_takeNewName_36 rfl ?_
      refine ev_alen (v := 6) eX7_takeNewName_37 rfl (by decide) rfl ?_
      refine ev_c_ge (tgt := 48) eX7_takeNewName_38 (by decide) (fun hc5 => ?_) (fun hc5 => ?_)
      · rw [if_pos (show 6 ≤ x3 from hc5)] at h
        refine ev_al eX7_takeNewName_48 rfl ?_
        obtain ⟨C6, hq6, h⟩ := ev_bv_some h
        refine ev_callV (kc := kc_57) (A := []) (T := []) (lk_m.1 _ _ 0 [57] (isM (by decide +kernel)) 57 (by decide)) eX7_takeNewName_49 (m_8_step hU hq6) rfl rfl rfl (by decide) (by decide) (Nat.le_of_ble_eq_true rfl) ?_
        rintro _ C6 ⟨rfl, rfl⟩
        show ev_W l D cys ty ck_tags ev_TR kc_105 52 [(0, .inr (.inl 7)), (1, .inr (.inl 8)), (2, .inr (.inl 53)), (3, .inl x3)] [] C6 _
        refine ev_ic eX7_takeNewName_52 (by decide) ?_
        cases h
        exact ev_zret eX7_takeNewName_53 rfl (by decide) ⟨rfl, rfl⟩
      · rw [if_neg (show ¬ (6 ≤ x3) from hc5)] at h
        refine ev_al eX7_takeNewName_41 rfl ?_
        refine ev_il eX7_takeNewName_42 rfl ?_
        refine ev_al eX7_takeNewName_43 rfl ?_
        refine ev_getL lk_f (ci := 8) (j := 8) (cd := 2) eX7_takeNewName_44 (isF (by decide +kernel)) rfl rfl rfl ?_
        obtain ⟨hb7, h⟩ := ev_gd h
        refine ev_last hU eX7_takeNewName_47 rfl rfl hb7.1 hb7.2 ?_
        refine ev_al eX7_takeNewName_48 rfl ?_
        obtain ⟨C8, hq8, h⟩ := ev_bv_some h
        refine ev_callV (kc := kc_57) (A := []) (T := []) (lk_m.1 _ _ 0 [57] (isM (by decide +kernel)) 57 (by decide)) eX7_takeNewName_49 (m_8_step hU hq8) rfl rfl rfl (by decide) (by decide) (Nat.le_of_ble_eq_true rfl) ?_
        rintro _ C8 ⟨rfl, rfl⟩
        show ev_W l D cys ty ck_tags ev_TR kc_105 52 [(0, .inr (.inl 7)), (1, .inr (.inl 8)), (2, .inr (.inl 53)), (3, .inl x3)] [] C8 _
        refine ev_ic eX7_takeNewName_52 (by decide) ?_
        cases h
        exact ev_zret eX7_takeNewName_53 rfl (by decide) ⟨rfl, rfl⟩
    · rw [if_neg (show ¬ (r3 = 0) from hc4)] at h
      refine ev_al eX7_takeNewName_28 rfl ?_
      refine ev_ic eX7_takeNewName_29 (by decide) ?_
      obtain ⟨C9, hq9, h⟩ := ev_bv_some h
      refine ev_callV (kc := kc_35) (A := [.inl 3]) (T := []) (lk_m.1 _ _ 0 [35] (isM (by decide +kernel)) 35 (by decide)) eX7_takeNewName_30 (m_8_fail hU hq9) rfl rfl rfl (by decide) (by decide) (Nat.le_of_ble_eq_true rfl) ?_
      rintro _ C9 ⟨rfl, rfl⟩
      show ev_W l D cys ty ck_tags ev_TR kc_105 33 [(0, .inr (.inl 7)), (1, .inr (.inl 8)), (2, .inr (.inl 53)), (3, .inl x3)] [] C9 _
      refine ev_ic eX7_takeNewName_33 (by decide) ?_
      cases h
      exact ev_zret eX7_takeNewName_34 rfl (by decide) ⟨rfl, rfl⟩
  · rw [if_neg (show ¬ (r1 ≠ 0) from hc2)] at h
    refine ev_al eX7_takeNewName_7 rfl ?_
    refine ev_ic eX7_takeNewName_8 (by decide) ?_
    obtain ⟨C10, hq10, h⟩ := ev_bv_some h
    refine ev_callV (kc := kc_35) (A := [.inl 1]) (T := []) (lk_m.1 _ _ 0 [35] (isM (by decide +kernel)) 35 (by decide)) eX7_takeNewName_9 (m_8_fail hU hq10) rfl rfl rfl (by decide) (by decide) (Nat.le_of_ble_eq_true rfl) ?_
    rintro _ C10 ⟨rfl, rfl⟩
    show ev_W l D cys ty ck_tags ev_TR kc_105 12 [(0, .inr (.inl 7)), (1, .inr (.inl 8)), (2, .inr (.inl 53)), (3, .inl x3)] [] C10 _
    refine ev_ic eX7_takeNewName_12 (by decide) ?_
    cases h
    exact ev_zret eX7_takeNewName_13 rfl (by decide) ⟨rfl, rfl⟩
theorem eX8_takeNumber_0 : decode cX8_takeNumber 0 = .ok (.aload_n 0, 1) := by decide +kernel
theorem eX8_takeNumber_1 : decode cX8_takeNumber 1 = .ok (.getfield 25, 3) := by decide +kernel
theorem eX8_takeNumber_4 : decode cX8_takeNumber 4 = .ok (.iconst 2, 1) := by decide +kernel
theorem eX8_takeNumber_5 : decode cX8_takeNumber 5 = .ok (.if_icmp .eq 10, 3) := by decide +kernel
theorem eX8_takeNumber_8 : decode cX8_takeNumber 8 = .ok (.aload_n 0, 1) := by decide +kernel
theorem eX8_takeNumber_9 : decode cX8_takeNumber 9 = .ok (.iconst 1, 1) := by decide +kernel
theorem eX8_takeNumber_10 : decode cX8_takeNumber 10 = .ok (.invokevirtual 106, 3) := by decide +kernel
theorem eX8_takeNumber_13 : decode cX8_takeNumber 13 = .ok (.iconst (-1), 1) := by decide +kernel
theorem eX8_takeNumber_14 : decode cX8_takeNumber 14 = .ok (.ireturn, 1) := by decide +kernel
theorem eX8_takeNumber_15 : decode cX8_takeNumber 15 = .ok (.aload_n 0, 1) := by decide +kernel
theorem eX8_takeNumber_16 : decode cX8_takeNumber 16 = .ok (.getfield 31, 3) := by decide +kernel
theorem eX8_takeNumber_19 : decode cX8_takeNumber 19 = .ok (.iload_n 1, 1) := by decide +kernel
theorem eX8_takeNumber_20 : decode cX8_takeNumber 20 = .ok (.if_icmp .lt 11, 3) := by decide +kernel
theorem eX8_takeNumber_23 : decode cX8_takeNumber 23 = .ok (.aload_n 0, 1) := by decide +kernel
theorem eX8_takeNumber_24 : decode cX8_takeNumber 24 = .ok (.getfield 31, 3) := by decide +kernel
theorem eX8_takeNumber_27 : decode cX8_takeNumber 27 = .ok (.iload_n 2, 1) := by decide +kernel
theorem eX8_takeNumber_28 : decode cX8_takeNumber 28 = .ok (.if_icmp .le 10, 3) := by decide +kernel
theorem eX8_takeNumber_31 : decode cX8_takeNumber 31 = .ok (.aload_n 0, 1) := by decide +kernel
theorem eX8_takeNumber_32 : decode cX8_takeNumber 32 = .ok (.iconst 2, 1) := by decide +kernel
theorem eX8_takeNumber_33 : decode cX8_takeNumber 33 = .ok (.invokevirtual 106, 3) := by decide +kernel
theorem eX8_takeNumber_36 : decode cX8_takeNumber 36 = .ok (.iconst (-1), 1) := by decide +kernel
theorem eX8_takeNumber_37 : decode cX8_takeNumber 37 = .ok (.ireturn, 1) := by decide +kernel
theorem eX8_takeNumber_38 : decode cX8_takeNumber 38 = .ok (.aload_n 0, 1) := by decide +kernel
theorem eX8_takeNumber_39 : decode cX8_takeNumber 39 = .ok (.getfield 31, 3) := by decide +kernel
theorem eX8_takeNumber_42 : decode cX8_takeNumber 42 = .ok (.istore_n 3, 1) := by decide +kernel
theorem eX8_takeNumber_43 : decode cX8_takeNumber 43 = .ok (.aload_n 0, 1) := by decide +kernel
theorem eX8_takeNumber_44 : decode cX8_takeNumber 44 = .ok (.invokevirtual 73, 3) := by decide +kernel
theorem eX8_takeNumber_47 : decode cX8_takeNumber 47 = .ok (.iload_n 3, 1) := by decide +kernel
theorem eX8_takeNumber_48 : decode cX8_takeNumber 48 = .ok (.ireturn, 1) := by decide +kernel
set_option maxRecDepth 100000 in
theorem m_8_takeNumber (hU : ev_uq ty ev_TR) {C : ev_C} {x1 x2 : Int} {r : Int} {C' : ev_C} (h : f_8_takeNumber C x1 x2 = some (r, C')) : ev_Met l D cys ty ck_tags ev_TR kc_110 [.inr (.inl 8), .inl x1, .inl x2] C (fun r0 C0 => r0 = some (.inl r) ∧ C0 = C') := by
  unfold f_8_takeNumber at h
  refine ev_enter (by decide +kernel) (by decide +kernel) (Nat.le_of_ble_eq_true rfl) ?_
  show ev_W l D cys ty ck_tags ev_TR kc_110 0 [(0, .inr (.inl 8)), (1, .inl x1), (2, .inl x2)] [] C _
  refine ev_al eX8_takeNumber_0 rfl ?_
  refine ev_getI lk_f (ci := 8) (j := 4) (cd := 0) eX8_takeNumber_1 (isF (by decide +kernel)) rfl rfl rfl ?_
  refine ev_ic eX8_takeNumber_4 (by decide) ?_
  refine ev_c_eq (tgt := 15) eX8_takeNumber_5 (by decide) (fun hc1 => ?_) (fun hc1 => ?_)
  · rw [if_pos (show (C 8 4) = 2 from hc1)] at h
    refine ev_al eX8_takeNumber_15 rfl ?_
    refine ev_getI lk_f (ci := 8) (j := 6) (cd := 0) eX8_takeNumber_16 (isF (by decide +kernel)) rfl rfl rfl ?_
    refine ev_il eX8_takeNumber_19 rfl ?_
    refine ev_c_lt (tgt := 31) eX8_takeNumber_20 (by decide) (fun hc2 => ?_) (fun hc2 => ?_)
    · rw [if_pos (show (C 8 6) < x1 from hc2)] at h
      refine ev_al eX8_takeNumber_31 rfl ?_
      refine ev_ic eX8_takeNumber_32 (by decide) ?_
      obtain ⟨C3, hq3, h⟩ := ev_bv_some h
      refine ev_callV (kc := kc_35) (A := [.inl 2]) (T := []) (lk_m.1 _ _ 0 [35] (isM (by decide +kernel)) 35 (by decide)) eX8_takeNumber_33 (m_8_fail hU hq3) rfl rfl rfl (by decide) (by decide) (Nat.le_of_ble_eq_true rfl) ?_
      rintro _ C3 ⟨rfl, rfl⟩
      show ev_W l D cys ty ck_tags ev_TR kc_110 36 [(0, .inr (.inl 8)), (1, .inl x1), (2, .inl x2)] [] C3 _
      refine ev_ic eX8_takeNumber_36 (by decide) ?_
      cases h
      exact ev_iret eX8_takeNumber_37 rfl ⟨rfl, rfl⟩
    · rw [if_neg (show ¬ ((C 8 6) < x1) from hc2)] at h
      refine ev_al eX8_takeNumber_23 rfl ?_
      refine ev_getI lk_f (ci := 8) (j := 6) (cd := 0) eX8_takeNumber_24 (isF (by decide +kernel)) rfl rfl rfl ?_
      refine ev_il eX8_takeNumber_27 rfl ?_
      refine ev_c_le (tgt := 38) eX8_takeNumber_28 (by decide) (fun hc4 => ?_) (fun hc4 => ?_)
      · rw [if_pos (show (C 8 6) ≤ x2 from hc4)] at h
        refine ev_al eX8_takeNumber_38 rfl ?_
        refine ev_getI lk_f (ci := 8) (j := 6) (cd := 0) eX8_takeNumber_39 (isF (by decide +kernel)) rfl rfl rfl ?_
        refine ev_is (L' := [(3, .inl ((C 8 6))), (0, .inr (.inl 8)), (1, .inl x1), (2, .inl x2)]) eX8_takeNumber_42 (by decide) rfl ?_
        refine ev_al eX8_takeNumber_43 rfl ?_
        obtain ⟨C5, hq5, h⟩ := ev_bv_some h
        refine ev_callV (kc := kc_57) (A := []) (T := []) (lk_m.1 _ _ 0 [57] (isM (by decide +kernel)) 57 (by decide)) eX8_takeNumber_44 (m_8_step hU hq5) rfl rfl rfl (by decide) (by decide) (Nat.le_of_ble_eq_true rfl) ?_
        rintro _ C5 ⟨rfl, rfl⟩
        show ev_W l D cys ty ck_tags ev_TR kc_110 47 [(3, .inl ((C 8 6))), (0, .inr (.inl 8)), (1, .inl x1), (2, .inl x2)] [] C5 _
        refine ev_il eX8_takeNumber_47 rfl ?_
        cases h
        exact ev_iret eX8_takeNumber_48 rfl ⟨rfl, rfl⟩
      · rw [if_neg (show ¬ ((C 8 6) ≤ x2) from hc4)] at h
        refine ev_al eX8_takeNumber_31 rfl ?_
        refine ev_ic eX8_takeNumber_32 (by decide) ?_
        obtain ⟨C6, hq6, h⟩ := ev_bv_some h
        refine ev_callV (kc := kc_35) (A := [.inl 2]) (T := []) (lk_m.1 _ _ 0 [35] (isM (by decide +kernel)) 35 (by decide)) eX8_takeNumber_33 (m_8_fail hU hq6) rfl rfl rfl (by decide) (by decide) (Nat.le_of_ble_eq_true rfl) ?_
        rintro _ C6 ⟨rfl, rfl⟩
        show ev_W l D cys ty ck_tags ev_TR kc_110 36 [(0, .inr (.inl 8)), (1, .inl x1), (2, .inl x2)] [] C6 _
        refine ev_ic eX8_takeNumber_36 (by decide) ?_
        cases h
        exact ev_iret eX8_takeNumber_37 rfl ⟨rfl, rfl⟩
  · rw [if_neg (show ¬ ((C 8 4) = 2) from hc1)] at h
    refine ev_al eX8_takeNumber_8 rfl ?_
    refine ev_ic eX8_takeNumber_9 (by decide) ?_
    obtain ⟨C7, hq7, h⟩ := ev_bv_some h
    refine ev_callV (kc := kc_35) (A := [.inl 1]) (T := []) (lk_m.1 _ _ 0 [35] (isM (by decide +kernel)) 35 (by decide)) eX8_takeNumber_10 (m_8_fail hU hq7) rfl rfl rfl (by decide) (by decide) (Nat.le_of_ble_eq_true rfl) ?_
    rintro _ C7 ⟨rfl, rfl⟩
    show ev_W l D cys ty ck_tags ev_TR kc_110 13 [(0, .inr (.inl 8)), (1, .inl x1), (2, .inl x2)] [] C7 _
    refine ev_ic eX8_takeNumber_13 (by decide) ?_
    cases h
    exact ev_iret eX8_takeNumber_14 rfl ⟨rfl, rfl⟩
theorem eX7_readPart_0 : decode cX7_readPart 0 = .ok (.aload_n 1, 1) := by decide +kernel
theorem eX7_readPart_1 : decode cX7_readPart 1 = .ok (.aload_n 0, 1) := by decide +kernel
theorem eX7_readPart_2 : decode cX7_readPart 2 = .ok (.getfield 12, 3) := by decide +kernel
theorem eX7_readPart_5 : decode cX7_readPart 5 = .ok (.getfield 100, 3) := by decide +kernel
theorem eX7_readPart_8 : decode cX7_readPart 8 = .ok (.bipush 6, 2) := by decide +kernel
theorem eX7_readPart_10 : decode cX7_readPart 10 = .ok (.invokestatic 103, 3) := by decide +kernel
theorem eX7_readPart_13 : decode cX7_readPart 13 = .ok (.ifCond .eq 25, 3) := by decide +kernel
theorem eX7_readPart_16 : decode cX7_readPart 16 = .ok (.aload_n 0, 1) := by decide +kernel
theorem eX7_readPart_17 : decode cX7_readPart 17 = .ok (.aload_n 1, 1) := by decide +kernel
theorem eX7_readPart_18 : decode cX7_readPart 18 = .ok (.aload_n 0, 1) := by decide +kernel
theorem eX7_readPart_19 : decode cX7_readPart 19 = .ok (.getfield 12, 3) := by decide +kernel
theorem eX7_readPart_22 : decode cX7_readPart 22 = .ok (.getfield 107, 3) := by decide +kernel
theorem eX7_readPart_25 : decode cX7_readPart 25 = .ok (.aload_n 0, 1) := by decide +kernel
theorem eX7_readPart_26 : decode cX7_readPart 26 = .ok (.getfield 12, 3) := by decide +kernel
theorem eX7_readPart_29 : decode cX7_readPart 29 = .ok (.getfield 100, 3) := by decide +kernel
theorem eX7_readPart_32 : decode cX7_readPart 32 = .ok (.invokevirtual 111, 3) := by decide +kernel
theorem eX7_readPart_35 : decode cX7_readPart 35 = .ok (.ifCond .ne 4, 3) := by decide +kernel
theorem eX7_readPart_38 : decode cX7_readPart 38 = .ok (.return_, 1) := by decide +kernel
theorem eX7_readPart_39 : decode cX7_readPart 39 = .ok (.aload_n 0, 1) := by decide +kernel
theorem eX7_readPart_40 : decode cX7_readPart 40 = .ok (.getfield 12, 3) := by decide +kernel
theorem eX7_readPart_43 : decode cX7_readPart 43 = .ok (.getfield 115, 3) := by decide +kernel
theorem eX7_readPart_46 : decode cX7_readPart 46 = .ok (.aload_n 0, 1) := by decide +kernel
theorem eX7_readPart_47 : decode cX7_readPart 47 = .ok (.getfield 12, 3) := by decide +kernel
theorem eX7_readPart_50 : decode cX7_readPart 50 = .ok (.getfield 100, 3) := by decide +kernel
theorem eX7_readPart_53 : decode cX7_readPart 53 = .ok (.aload_n 1, 1) := by decide +kernel
theorem eX7_readPart_54 : decode cX7_readPart 54 = .ok (.iconst 0, 1) := by decide +kernel
theorem eX7_readPart_55 : decode cX7_readPart 55 = .ok (.bipush 9, 2) := by decide +kernel
theorem eX7_readPart_57 : decode cX7_readPart 57 = .ok (.invokevirtual 119, 3) := by decide +kernel
theorem eX7_readPart_60 : decode cX7_readPart 60 = .ok (.iastore, 1) := by decide +kernel
theorem eX7_readPart_61 : decode cX7_readPart 61 = .ok (.aload_n 0, 1) := by decide +kernel
theorem eX7_readPart_62 : decode cX7_readPart 62 = .ok (.getfield 12, 3) := by decide +kernel
theorem eX7_readPart_65 : decode cX7_readPart 65 = .ok (.dup, 1) := by decide +kernel
theorem eX7_readPart_66 : decode cX7_readPart 66 = .ok (.getfield 100, 3) := by decide +kernel
theorem eX7_readPart_69 : decode cX7_readPart 69 = .ok (.iconst 1, 1) := by decide +kernel
theorem eX7_readPart_70 : decode cX7_readPart 70 = .ok (.iadd, 1) := by decide +kernel
theorem eX7_readPart_71 : decode cX7_readPart 71 = .ok (.putfield 100, 3) := by decide +kernel
theorem eX7_readPart_74 : decode cX7_readPart 74 = .ok (.return_, 1) := by decide +kernel
set_option maxRecDepth 100000 in
theorem m_7_readPart_8 (hU : ev_uq ty ev_TR) {C : ev_C} {C' : ev_C} (h : f_7_readPart_8 C = some C') : ev_Met l D cys ty ck_tags ev_TR kc_115 [.inr (.inl 7), .inr (.inl 8)] C (fun r0 C0 => r0 = none ∧ C0 = C') := by
  unfold f_7_readPart_8 at h
  refine ev_enter (by decide +kernel) (by decide +kernel) (Nat.le_of_ble_eq_true rfl) ?_
  show ev_W l D cys ty ck_tags ev_TR kc_115 0 [(0, .inr (.inl 7)), (1, .inr (.inl 8))] [] C _
  refine ev_al eX7_readPart_0 rfl ?_
  refine ev_al eX7_readPart_1 rfl ?_
  refine ev_getR lk_f (ci := 7) (j := 0) (cd := 3) eX7_readPart_2 (isF (by decide +kernel)) rfl rfl ?_
  refine ev_getI lk_f (ci := 6) (j := 0) (cd := 0) eX7_readPart_5 (isF (by decide +kernel)) rfl rfl rfl ?_
  refine ev_bp eX7_readPart_8 (by decide) (by decide) ?_
  obtain ⟨r1, C1, hq1, h⟩ := ev_bd_some h
  refine ev_callS (kc := kc_99) (A := [.inr (.inl 8), .inl ((C 13 0)), .inl 6]) (T := []) (lk_m.1 _ _ 1 [99, 100, 101] (isM (by decide +kernel)) 99 (by decide)) eX7_readPart_10 (m_7_takeOneOf_8 hU hq1) rfl rfl (by decide) (by decide) (Nat.le_of_ble_eq_true rfl) ?_
  rintro _ C1 ⟨rfl, rfl⟩
  show ev_W l D cys ty ck_tags ev_TR kc_115 13 [(0, .inr (.inl 7)), (1, .inr (.inl 8))] [.inl r1] C1 _
  refine ev_z_eq (tgt := 38) eX7_readPart_13 (by decide) (fun hc2 => ?_) (fun hc2 => ?_)
  · rw [if_pos (show r1 = 0 from hc2)] at h
    cases h
    exact ev_vret eX7_readPart_38 rfl ⟨rfl, rfl⟩
  · rw [if_neg (show ¬ (r1 = 0) from hc2)] at h
    refine ev_al eX7_readPart_16 rfl ?_
    refine ev_al eX7_readPart_17 rfl ?_
    refine ev_al eX7_readPart_18 rfl ?_
    refine ev_getR lk_f (ci := 7) (j := 0) (cd := 3) eX7_readPart_19 (isF (by decide +kernel)) rfl rfl ?_
    refine ev_getR lk_f (ci := 6) (j := 6) (cd := 3) eX7_readPart_22 (isF (by decide +kernel)) rfl rfl ?_
    refine ev_al eX7_readPart_25 rfl ?_
    refine ev_getR lk_f (ci := 7) (j := 0) (cd := 3) eX7_readPart_26 (isF (by decide +kernel)) rfl rfl ?_
    refine ev_getI lk_f (ci := 6) (j := 0) (cd := 0) eX7_readPart_29 (isF (by decide +kernel)) rfl rfl rfl ?_
    obtain ⟨r3, C3, hq3, h⟩ := ev_bd_some h
    refine ev_callV (kc := kc_105) (A := [.inr (.inl 8), .inr (.inl 53), .inl ((C1 13 0))]) (T := []) (lk_m.1 _ _ 0 [105, 106, 107] (isM (by decide +kernel)) 105 (by decide)) eX7_readPart_32 (m_7_takeNewName_8_53 hU hq3) rfl rfl rfl (by decide) (by decide) (Nat.le_of_ble_eq_true rfl) ?_
    rintro _ C3 ⟨rfl, rfl⟩
    show ev_W l D cys ty ck_tags ev_TR kc_115 35 [(0, .inr (.inl 7)), (1, .inr (.inl 8))] [.inl r3] C3 _
    refine ev_z_ne (tgt := 39) eX7_readPart_35 (by decide) (fun hc4 => ?_) (fun hc4 => ?_)
    · rw [if_pos (show r3 ≠ 0 from hc4)] at h
      refine ev_al eX7_readPart_39 rfl ?_
      refine ev_getR lk_f (ci := 7) (j := 0) (cd := 3) eX7_readPart_40 (isF (by decide +kernel)) rfl rfl ?_
      refine ev_getR lk_f (ci := 6) (j := 9) (cd := 3) eX7_readPart_43 (isF (by decide +kernel)) rfl rfl ?_
      refine ev_al eX7_readPart_46 rfl ?_
      refine ev_getR lk_f (ci := 7) (j := 0) (cd := 3) eX7_readPart_47 (isF (by decide +kernel)) rfl rfl ?_
      refine ev_getI lk_f (ci := 6) (j := 0) (cd := 0) eX7_readPart_50 (isF (by decide +kernel)) rfl rfl rfl ?_
      refine ev_al eX7_readPart_53 rfl ?_
      refine ev_ic eX7_readPart_54 (by decide) ?_
      refine ev_bp eX7_readPart_55 (by decide) (by decide) ?_
      obtain ⟨r5, C5, hq5, h⟩ := ev_bd_some h
      refine ev_callV (kc := kc_110) (A := [.inl 0, .inl 9]) (T := [.inl ((C3 13 0)), .inr (.inl 56)]) (lk_m.1 _ _ 0 [110] (isM (by decide +kernel)) 110 (by decide)) eX7_readPart_57 (m_8_takeNumber hU hq5) rfl rfl rfl (by decide) (by decide) (Nat.le_of_ble_eq_true rfl) ?_
      rintro _ C5 ⟨rfl, rfl⟩
      show ev_W l D cys ty ck_tags ev_TR kc_115 60 [(0, .inr (.inl 7)), (1, .inr (.inl 8))] [.inl r5, .inl ((C3 13 0)), .inr (.inl 56)] C5 _
      obtain ⟨hb6, h⟩ := ev_gd h
      refine ev_iast hU eX7_readPart_60 rfl rfl hb6.1 hb6.2 ?_
      refine ev_al eX7_readPart_61 rfl ?_
      refine ev_getR lk_f (ci := 7) (j := 0) (cd := 3) eX7_readPart_62 (isF (by decide +kernel)) rfl rfl ?_
      refine ev_dup eX7_readPart_65 rfl ?_
      refine ev_getI lk_f (ci := 6) (j := 0) (cd := 0) eX7_readPart_66 (isF (by decide +kernel)) rfl rfl rfl ?_
      refine ev_ic eX7_readPart_69 (by decide) ?_
      refine ev_add eX7_readPart_70 ?_
      refine ev_putI lk_f hU (ci := 6) (j := 0) (cd := 0) eX7_readPart_71 (isF (by decide +kernel)) rfl rfl (Or.inl rfl) rfl ?_
      cases h
      exact ev_vret eX7_readPart_74 rfl ⟨rfl, rfl⟩
    · rw [if_neg (show ¬ (r3 ≠ 0) from hc4)] at h
      cases h
      exact ev_vret eX7_readPart_38 rfl ⟨rfl, rfl⟩
set_option maxRecDepth 100000 in
theorem m_7_takeNewName_8_54 (hU : ev_uq ty ev_TR) {C : ev_C} {x3 : Int} {r : Int} {C' : ev_C} (h : f_7_takeNewName_8_54 C x3 = some (r, C')) : ev_Met l D cys ty ck_tags ev_TR kc_106 [.inr (.inl 7), .inr (.inl 8), .inr (.inl 54), .inl x3] C (fun r0 C0 => r0 = some (.inl r) ∧ C0 = C') := by
  unfold f_7_takeNewName_8_54 at h
  refine ev_enter (by decide +kernel) (by decide +kernel) (Nat.le_of_ble_eq_true rfl) ?_
  show ev_W l D cys ty ck_tags ev_TR kc_106 0 [(0, .inr (.inl 7)), (1, .inr (.inl 8)), (2, .inr (.inl 54)), (3, .inl x3)] [] C _
  refine ev_al eX7_takeNewName_0 rfl ?_
  obtain ⟨r1, C1, hq1, h⟩ := ev_bd_some h
  refine ev_callV (kc := kc_0) (A := []) (T := []) (lk_m.1 _ _ 0 [0] (isM (by decide +kernel)) 0 (by decide)) eX7_takeNewName_1 (m_8_isAtName hU hq1) rfl rfl rfl (by decide) (by decide) (Nat.le_of_ble_eq_true rfl) ?_
  rintro _ C1 ⟨rfl, rfl⟩
  show ev_W l D cys ty ck_tags ev_TR kc_106 4 [(0, .inr (.inl 7)), (1, .inr (.inl 8)), (2, .inr (.inl 54)), (3, .inl x3)] [.inl r1] C1 _
  refine ev_z_ne (tgt := 14) eX7_takeNewName_4 (by decide) (fun hc2 => ?_) (fun hc2 => ?_)
  · rw [if_pos (show r1 ≠ 0 from hc2)] at h
    refine ev_al eX7_takeNewName_14 rfl ?_
    refine ev_getR lk_f (ci := 7) (j := 0) (cd := 3) eX7_takeNewName_15 (isF (by decide +kernel)) rfl rfl ?_
    refine ev_al eX7_takeNewName_18 rfl ?_
    refine ev_getL lk_f (ci := 8) (j := 8) (cd := 2) eX7_takeNewName_19 (isF (by decide +kernel)) rfl rfl rfl ?_
    obtain ⟨r3, C3, hq3, h⟩ := ev_bd_some h
    refine ev_callV (kc := kc_96) (A := [.inr (.inr ((C1 8 8)))]) (T := []) (lk_m.1 _ _ 0 [96] (isM (by decide +kernel)) 96 (by decide)) eX7_takeNewName_22 (m_6_hasName_13 hU hq3) rfl rfl rfl (by decide) (by decide) (Nat.le_of_ble_eq_true rfl) ?_
    rintro _ C3 ⟨rfl, rfl⟩
    show ev_W l D cys ty ck_tags ev_TR kc_106 25 [(0, .inr (.inl 7)), (1, .inr (.inl 8)), (2, .inr (.inl 54)), (3, .inl x3)] [.inl r3] C3 _
    refine ev_z_eq (tgt := 35) eX7_takeNewName_25 (by decide) (fun hc4 => ?_) (fun hc4 => ?_)
    · rw [if_pos (show r3 = 0 from hc4)] at h
      refine ev_il eX7_takeNewName_35 rfl ?_
      refine ev_al eX7_takeNewName_36 rfl ?_
      refine ev_alen (v := 6) eX7_takeNewName_37 rfl (by decide) rfl ?_
      refine ev_c_ge (tgt := 48) eX7_takeNewName_38 (by decide) (fun hc5 => ?_) (fun hc5 => ?_)
      · rw [if_pos (show 6 ≤ x3 from hc5)] at h
        refine ev_al eX7_takeNewName_48 rfl ?_
        obtain ⟨C6, hq6, h⟩ := ev_bv_some h
        refine ev_callV (kc := kc_57) (A := []) (T := []) (lk_m.1 _ _ 0 [57] (isM (by decide +kernel)) 57 (by decide)) eX7_takeNewName_49 (m_8_step hU hq6) rfl rfl rfl (by decide) (by decide) (Nat.le_of_ble_eq_true rfl) ?_
        rintro _ C6 ⟨rfl, rfl⟩
        show ev_W l D cys ty ck_tags ev_TR kc_106 52 [(0, .inr (.inl 7)), (1, .inr (.inl 8)), (2, .inr (.inl 54)), (3, .inl x3)] [] C6 _
        refine ev_ic eX7_takeNewName_52 (by decide) ?_
        cases h
        exact ev_zret eX7_takeNewName_53 rfl (by decide) ⟨rfl, rfl⟩
      · rw [if_neg (show ¬ (6 ≤ x3) from hc5)] at h
        refine ev_al eX7_takeNewName_41 rfl ?_
        refine ev_il eX7_takeNewName_42 rfl ?_
        refine ev_al eX7_takeNewName_43 rfl ?_
        refine ev_getL lk_f (ci := 8) (j := 8) (cd := 2) eX7_takeNewName_44 (isF (by decide +kernel)) rfl rfl rfl ?_
        obtain ⟨hb7, h⟩ := ev_gd h
        refine ev_last hU eX7_takeNewName_47 rfl rfl hb7.1 hb7.2 ?_
        refine ev_al eX7_takeNewName_48 rfl ?_
        obtain ⟨C8, hq8, h⟩ := ev_bv_some h
        refine ev_callV (kc := kc_57) (A := []) (T := []) (lk_m.1 _ _ 0 [57] (isM (by decide +kernel)) 57 (by decide)) eX7_takeNewName_49 (m_8_step hU hq8) rfl rfl rfl (by decide) (by decide) (Nat.le_of_ble_eq_true rfl) ?_
        rintro _ C8 ⟨rfl, rfl⟩
        show ev_W l D cys ty ck_tags ev_TR kc_106 52 [(0, .inr (.inl 7)), (1, .inr (.inl 8)), (2, .inr (.inl 54)), (3, .inl x3)] [] C8 _
        refine ev_ic eX7_takeNewName_52 (by decide) ?_
        cases h
        exact ev_zret eX7_takeNewName_53 rfl (by decide) ⟨rfl, rfl⟩
    · rw [if_neg (show ¬ (r3 = 0) from hc4)] at h
      refine ev_al eX7_takeNewName_28 rfl ?_
      refine ev_ic eX7_takeNewName_29 (by decide) ?_
      obtain ⟨C9, hq9, h⟩ := ev_bv_some h
      refine ev_callV (kc := kc_35) (A := [.inl 3]) (T := []) (lk_m.1 _ _ 0 [35] (isM (by decide +kernel)) 35 (by decide)) eX7_takeNewName_30 (m_8_fail hU hq9) rfl rfl rfl (by decide) (by decide) (Nat.le_of_ble_eq_true rfl) ?_
      rintro _ C9 ⟨rfl, rfl⟩
      show ev_W l D cys ty ck_tags ev_TR kc_106 33 [(0, .inr (.inl 7)), (1, .inr (.inl 8)), (2, .inr (.inl 54)), (3, .inl x3)] [] C9 _
      refine ev_ic eX7_takeNewName_33 (by decide) ?_
      cases h
      exact ev_zret eX7_takeNewName_34 rfl (by decide) ⟨rfl, rfl⟩
  · rw [if_neg (show ¬ (r1 ≠ 0) from hc2)] at h
    refine ev_al eX7_takeNewName_7 rfl ?_
    refine ev_ic eX7_takeNewName_8 (by decide) ?_
    obtain ⟨C10, hq10, h⟩ := ev_bv_some h
    refine ev_callV (kc := kc_35) (A := [.inl 1]) (T := []) (lk_m.1 _ _ 0 [35] (isM (by decide +kernel)) 35 (by decide)) eX7_takeNewName_9 (m_8_fail hU hq10) rfl rfl rfl (by decide) (by decide) (Nat.le_of_ble_eq_true rfl) ?_
    rintro _ C10 ⟨rfl, rfl⟩
    show ev_W l D cys ty ck_tags ev_TR kc_106 12 [(0, .inr (.inl 7)), (1, .inr (.inl 8)), (2, .inr (.inl 54)), (3, .inl x3)] [] C10 _
    refine ev_ic eX7_takeNewName_12 (by decide) ?_
    cases h
    exact ev_zret eX7_takeNewName_13 rfl (by decide) ⟨rfl, rfl⟩
theorem eX7_readFact_0 : decode cX7_readFact 0 = .ok (.aload_n 1, 1) := by decide +kernel
theorem eX7_readFact_1 : decode cX7_readFact 1 = .ok (.aload_n 0, 1) := by decide +kernel
theorem eX7_readFact_2 : decode cX7_readFact 2 = .ok (.getfield 12, 3) := by decide +kernel
theorem eX7_readFact_5 : decode cX7_readFact 5 = .ok (.getfield 123, 3) := by decide +kernel
theorem eX7_readFact_8 : decode cX7_readFact 8 = .ok (.bipush 6, 2) := by decide +kernel
theorem eX7_readFact_10 : decode cX7_readFact 10 = .ok (.invokestatic 103, 3) := by decide +kernel
theorem eX7_readFact_13 : decode cX7_readFact 13 = .ok (.ifCond .eq 38, 3) := by decide +kernel
theorem eX7_readFact_16 : decode cX7_readFact 16 = .ok (.aload_n 0, 1) := by decide +kernel
theorem eX7_readFact_17 : decode cX7_readFact 17 = .ok (.aload_n 1, 1) := by decide +kernel
theorem eX7_readFact_18 : decode cX7_readFact 18 = .ok (.aload_n 0, 1) := by decide +kernel
theorem eX7_readFact_19 : decode cX7_readFact 19 = .ok (.getfield 12, 3) := by decide +kernel
theorem eX7_readFact_22 : decode cX7_readFact 22 = .ok (.getfield 126, 3) := by decide +kernel
theorem eX7_readFact_25 : decode cX7_readFact 25 = .ok (.aload_n 0, 1) := by decide +kernel
theorem eX7_readFact_26 : decode cX7_readFact 26 = .ok (.getfield 12, 3) := by decide +kernel
theorem eX7_readFact_29 : decode cX7_readFact 29 = .ok (.getfield 123, 3) := by decide +kernel
theorem eX7_readFact_32 : decode cX7_readFact 32 = .ok (.invokevirtual 111, 3) := by decide +kernel
theorem eX7_readFact_35 : decode cX7_readFact 35 = .ok (.ifCond .eq 16, 3) := by decide +kernel
theorem eX7_readFact_38 : decode cX7_readFact 38 = .ok (.aload_n 0, 1) := by decide +kernel
theorem eX7_readFact_39 : decode cX7_readFact 39 = .ok (.getfield 12, 3) := by decide +kernel
theorem eX7_readFact_42 : decode cX7_readFact 42 = .ok (.dup, 1) := by decide +kernel
theorem eX7_readFact_43 : decode cX7_readFact 43 = .ok (.getfield 123, 3) := by decide +kernel
theorem eX7_readFact_46 : decode cX7_readFact 46 = .ok (.iconst 1, 1) := by decide +kernel
theorem eX7_readFact_47 : decode cX7_readFact 47 = .ok (.iadd, 1) := by decide +kernel
theorem eX7_readFact_48 : decode cX7_readFact 48 = .ok (.putfield 123, 3) := by decide +kernel
theorem eX7_readFact_51 : decode cX7_readFact 51 = .ok (.return_, 1) := by decide +kernel
set_option maxRecDepth 100000 in
theorem m_7_readFact_8 (hU : ev_uq ty ev_TR) {C : ev_C} {C' : ev_C} (h : f_7_readFact_8 C = some C') : ev_Met l D cys ty ck_tags ev_TR kc_108 [.inr (.inl 7), .inr (.inl 8)] C (fun r0 C0 => r0 = none ∧ C0 = C') := by
  unfold f_7_readFact_8 at h
  refine ev_enter (by decide +kernel) (by decide +kernel) (Nat.le_of_ble_eq_true rfl) ?_
  show ev_W l D cys ty ck_tags ev_TR kc_108 0 [(0, .inr (.inl 7)), (1, .inr (.inl 8))] [] C _
  refine ev_al eX7_readFact_0 rfl ?_
  refine ev_al eX7_readFact_1 rfl ?_
  refine ev_getR lk_f (ci := 7) (j := 0) (cd := 3) eX7_readFact_2 (isF (by decide +kernel)) rfl rfl ?_
  refine ev_getI lk_f (ci := 6) (j := 1) (cd := 0) eX7_readFact_5 (isF (by decide +kernel)) rfl rfl rfl ?_
  refine ev_bp eX7_readFact_8 (by decide) (by decide) ?_
  obtain ⟨r1, C1, hq1, h⟩ := ev_bd_some h
  refine ev_callS (kc := kc_99) (A := [.inr (.inl 8), .inl ((C 13 1)), .inl 6]) (T := []) (lk_m.1 _ _ 1 [99, 100, 101] (isM (by decide +kernel)) 99 (by decide)) eX7_readFact_10 (m_7_takeOneOf_8 hU hq1) rfl rfl (by decide) (by decide) (Nat.le_of_ble_eq_true rfl) ?_
  rintro _ C1 ⟨rfl, rfl⟩
  show ev_W l D cys ty ck_tags ev_TR kc_108 13 [(0, .inr (.inl 7)), (1, .inr (.inl 8))] [.inl r1] C1 _
  refine ev_z_eq (tgt := 51) eX7_readFact_13 (by decide) (fun hc2 => ?_) (fun hc2 => ?_)
  · rw [if_pos (show r1 = 0 from hc2)] at h
    cases h
    exact ev_vret eX7_readFact_51 rfl ⟨rfl, rfl⟩
  · rw [if_neg (show ¬ (r1 = 0) from hc2)] at h
    refine ev_al eX7_readFact_16 rfl ?_
    refine ev_al eX7_readFact_17 rfl ?_
    refine ev_al eX7_readFact_18 rfl ?_
    refine ev_getR lk_f (ci := 7) (j := 0) (cd := 3) eX7_readFact_19 (isF (by decide +kernel)) rfl rfl ?_
    refine ev_getR lk_f (ci := 6) (j := 7) (cd := 3) eX7_readFact_22 (isF (by decide +kernel)) rfl rfl ?_
    refine ev_al eX7_readFact_25 rfl ?_
    refine ev_getR lk_f (ci := 7) (j := 0) (cd := 3) eX7_readFact_26 (isF (by decide +kernel)) rfl rfl ?_
    refine ev_getI lk_f (ci := 6) (j := 1) (cd := 0) eX7_readFact_29 (isF (by decide +kernel)) rfl rfl rfl ?_
    obtain ⟨r3, C3, hq3, h⟩ := ev_bd_some h
    refine ev_callV (kc := kc_106) (A := [.inr (.inl 8), .inr (.inl 54), .inl ((C1 13 1))]) (T := []) (lk_m.1 _ _ 0 [105, 106, 107] (isM (by decide +kernel)) 106 (by decide)) eX7_readFact_32 (m_7_takeNewName_8_54 hU hq3) rfl rfl rfl (by decide) (by decide) (Nat.le_of_ble_eq_true rfl) ?_
    rintro _ C3 ⟨rfl, rfl⟩
    show ev_W l D cys ty ck_tags ev_TR kc_108 35 [(0, .inr (.inl 7)), (1, .inr (.inl 8))] [.inl r3] C3 _
    refine ev_z_eq (tgt := 51) eX7_readFact_35 (by decide) (fun hc4 => ?_) (fun hc4 => ?_)
    · rw [if_pos (show r3 = 0 from hc4)] at h
      cases h
      exact ev_vret eX7_readFact_51 rfl ⟨rfl, rfl⟩
    · rw [if_neg (show ¬ (r3 = 0) from hc4)] at h
      refine ev_al eX7_readFact_38 rfl ?_
      refine ev_getR lk_f (ci := 7) (j := 0) (cd := 3) eX7_readFact_39 (isF (by decide +kernel)) rfl rfl ?_
      refine ev_dup eX7_readFact_42 rfl ?_
      refine ev_getI lk_f (ci := 6) (j := 1) (cd := 0) eX7_readFact_43 (isF (by decide +kernel)) rfl rfl rfl ?_
      refine ev_ic eX7_readFact_46 (by decide) ?_
      refine ev_add eX7_readFact_47 ?_
      refine ev_putI lk_f hU (ci := 6) (j := 1) (cd := 0) eX7_readFact_48 (isF (by decide +kernel)) rfl rfl (Or.inl rfl) rfl ?_
      cases h
      exact ev_vret eX7_readFact_51 rfl ⟨rfl, rfl⟩
theorem eX8_nameHere_0 : decode cX8_nameHere 0 = .ok (.aload_n 0, 1) := by decide +kernel
theorem eX8_nameHere_1 : decode cX8_nameHere 1 = .ok (.invokevirtual 102, 3) := by decide +kernel
theorem eX8_nameHere_4 : decode cX8_nameHere 4 = .ok (.ifCond .ne 10, 3) := by decide +kernel
theorem eX8_nameHere_7 : decode cX8_nameHere 7 = .ok (.aload_n 0, 1) := by decide +kernel
theorem eX8_nameHere_8 : decode cX8_nameHere 8 = .ok (.iconst 1, 1) := by decide +kernel
theorem eX8_nameHere_9 : decode cX8_nameHere 9 = .ok (.invokevirtual 106, 3) := by decide +kernel
theorem eX8_nameHere_12 : decode cX8_nameHere 12 = .ok (.iconst (-1), 1) := by decide +kernel
theorem eX8_nameHere_13 : decode cX8_nameHere 13 = .ok (.ireturn, 1) := by decide +kernel
theorem eX8_nameHere_14 : decode cX8_nameHere 14 = .ok (.aload_n 1, 1) := by decide +kernel
theorem eX8_nameHere_15 : decode cX8_nameHere 15 = .ok (.iload_n 2, 1) := by decide +kernel
theorem eX8_nameHere_16 : decode cX8_nameHere 16 = .ok (.aload_n 0, 1) := by decide +kernel
theorem eX8_nameHere_17 : decode cX8_nameHere 17 = .ok (.getfield 37, 3) := by decide +kernel
theorem eX8_nameHere_20 : decode cX8_nameHere 20 = .ok (.invokestatic 98, 3) := by decide +kernel
theorem eX8_nameHere_23 : decode cX8_nameHere 23 = .ok (.istore_n 3, 1) := by decide +kernel
theorem eX8_nameHere_24 : decode cX8_nameHere 24 = .ok (.iload_n 3, 1) := by decide +kernel
theorem eX8_nameHere_25 : decode cX8_nameHere 25 = .ok (.iconst (-1), 1) := by decide +kernel
theorem eX8_nameHere_26 : decode cX8_nameHere 26 = .ok (.if_icmp .ne 8, 3) := by decide +kernel
theorem eX8_nameHere_29 : decode cX8_nameHere 29 = .ok (.aload_n 0, 1) := by decide +kernel
theorem eX8_nameHere_30 : decode cX8_nameHere 30 = .ok (.iconst 3, 1) := by decide +kernel
theorem eX8_nameHere_31 : decode cX8_nameHere 31 = .ok (.invokevirtual 106, 3) := by decide +kernel
theorem eX8_nameHere_34 : decode cX8_nameHere 34 = .ok (.iload_n 3, 1) := by decide +kernel
theorem eX8_nameHere_35 : decode cX8_nameHere 35 = .ok (.ireturn, 1) := by decide +kernel
set_option maxRecDepth 100000 in
theorem m_8_nameHere_54 (hU : ev_uq ty ev_TR) {C : ev_C} {x2 : Int} {r : Int} {C' : ev_C} (h : f_8_nameHere_54 C x2 = some (r, C')) : ev_Met l D cys ty ck_tags ev_TR kc_45 [.inr (.inl 8), .inr (.inl 54), .inl x2] C (fun r0 C0 => r0 = some (.inl r) ∧ C0 = C') := by
  unfold f_8_nameHere_54 at h
  refine ev_enter (by decide +kernel) (by decide +kernel) (Nat.le_of_ble_eq_true rfl) ?_
  show ev_W l D cys ty ck_tags ev_TR kc_45 0 [(0, .inr (.inl 8)), (1, .inr (.inl 54)), (2, .inl x2)] [] C _
  refine ev_al eX8_nameHere_0 rfl ?_
  obtain ⟨r1, C1, hq1, h⟩ := ev_bd_some h
  refine ev_callV (kc := kc_0) (A := []) (T := []) (lk_m.1 _ _ 0 [0] (isM (by decide +kernel)) 0 (by decide)) eX8_nameHere_1 (m_8_isAtName hU hq1) rfl rfl rfl (by decide) (by decide) (Nat.le_of_ble_eq_true rfl) ?_
  rintro _ C1 ⟨rfl, rfl⟩
  show ev_W l D cys ty ck_tags ev_TR kc_45 4 [(0, .inr (.inl 8)), (1, .inr (.inl 54)), (2, .inl x2)] [.inl r1] C1 _
  refine ev_z_ne (tgt := 14) eX8_nameHere_4 (by decide) (fun hc2 => ?_) (fun hc2 => ?_)
  · rw [if_pos (show r1 ≠ 0 from hc2)] at h
    refine ev_al eX8_nameHere_14 rfl ?_
    refine ev_il eX8_nameHere_15 rfl ?_
    refine ev_al eX8_nameHere_16 rfl ?_
    refine ev_getL lk_f (ci := 8) (j := 8) (cd := 2) eX8_nameHere_17 (isF (by decide +kernel)) rfl rfl rfl ?_
    obtain ⟨r3, C3, hq3, h⟩ := ev_bd_some h
    refine ev_callS (kc := kc_38) (A := [.inr (.inl 54), .inl x2, .inr (.inr ((C1 8 8)))]) (T := []) (lk_m.1 _ _ 1 [37, 38, 39, 40, 41, 42, 43] (isM (by decide +kernel)) 38 (by decide)) eX8_nameHere_20 (m_8_indexOf_54 hU hq3) rfl rfl (by decide) (by decide) (Nat.le_of_ble_eq_true rfl) ?_
    rintro _ C3 ⟨rfl, rfl⟩
    show ev_W l D cys ty ck_tags ev_TR kc_45 23 [(0, .inr (.inl 8)), (1, .inr (.inl 54)), (2, .inl x2)] [.inl r3] C3 _
    refine ev_is (L' := [(3, .inl r3), (0, .inr (.inl 8)), (1, .inr (.inl 54)), (2, .inl x2)]) eX8_nameHere_23 (by decide) rfl ?_
    refine ev_il eX8_nameHere_24 rfl ?_
    refine ev_ic eX8_nameHere_25 (by decide) ?_
    refine ev_c_ne (tgt := 34) eX8_nameHere_26 (by decide) (fun hc4 => ?_) (fun hc4 => ?_)
    · rw [if_pos (show r3 ≠ -1 from hc4)] at h
      refine ev_il eX8_nameHere_34 rfl ?_
      cases h
      exact ev_iret eX8_nameHere_35 rfl ⟨rfl, rfl⟩
    · rw [if_neg (show ¬ (r3 ≠ -1) from hc4)] at h
      refine ev_al eX8_nameHere_29 rfl ?_
      refine ev_ic eX8_nameHere_30 (by decide) ?_
      obtain ⟨C5, hq5, h⟩ := ev_bv_some h
      refine ev_callV (kc := kc_35) (A := [.inl 3]) (T := []) (lk_m.1 _ _ 0 [35] (isM (by decide +kernel)) 35 (by decide)) eX8_nameHere_31 (m_8_fail hU hq5) rfl rfl rfl (by decide) (by decide) (Nat.le_of_ble_eq_true rfl) ?_
      rintro _ C5 ⟨rfl, rfl⟩
      show ev_W l D cys ty ck_tags ev_TR kc_45 34 [(3, .inl r3), (0, .inr (.inl 8)), (1, .inr (.inl 54)), (2, .inl x2)] [] C5 _
      refine ev_il eX8_nameHere_34 rfl ?_
      cases h
      exact ev_iret eX8_nameHere_35 rfl ⟨rfl, rfl⟩
  · rw [if_neg (show ¬ (r1 ≠ 0) from hc2)] at h
    refine ev_al eX8_nameHere_7 rfl ?_
    refine ev_ic eX8_nameHere_8 (by decide) ?_
    obtain ⟨C6, hq6, h⟩ := ev_bv_some h
    refine ev_callV (kc := kc_35) (A := [.inl 1]) (T := []) (lk_m.1 _ _ 0 [35] (isM (by decide +kernel)) 35 (by decide)) eX8_nameHere_9 (m_8_fail hU hq6) rfl rfl rfl (by decide) (by decide) (Nat.le_of_ble_eq_true rfl) ?_
    rintro _ C6 ⟨rfl, rfl⟩
    show ev_W l D cys ty ck_tags ev_TR kc_45 12 [(0, .inr (.inl 8)), (1, .inr (.inl 54)), (2, .inl x2)] [] C6 _
    refine ev_ic eX8_nameHere_12 (by decide) ?_
    cases h
    exact ev_iret eX8_nameHere_13 rfl ⟨rfl, rfl⟩
theorem eX8_takeName_0 : decode cX8_takeName 0 = .ok (.aload_n 0, 1) := by decide +kernel
theorem eX8_takeName_1 : decode cX8_takeName 1 = .ok (.aload_n 1, 1) := by decide +kernel
theorem eX8_takeName_2 : decode cX8_takeName 2 = .ok (.iload_n 2, 1) := by decide +kernel
theorem eX8_takeName_3 : decode cX8_takeName 3 = .ok (.invokevirtual 110, 3) := by decide +kernel
theorem eX8_takeName_6 : decode cX8_takeName 6 = .ok (.istore_n 3, 1) := by decide +kernel
theorem eX8_takeName_7 : decode cX8_takeName 7 = .ok (.iload_n 3, 1) := by decide +kernel
theorem eX8_takeName_8 : decode cX8_takeName 8 = .ok (.iconst (-1), 1) := by decide +kernel
theorem eX8_takeName_9 : decode cX8_takeName 9 = .ok (.if_icmp .eq 7, 3) := by decide +kernel
theorem eX8_takeName_12 : decode cX8_takeName 12 = .ok (.aload_n 0, 1) := by decide +kernel
theorem eX8_takeName_13 : decode cX8_takeName 13 = .ok (.invokevirtual 73, 3) := by decide +kernel
theorem eX8_takeName_16 : decode cX8_takeName 16 = .ok (.iload_n 3, 1) := by decide +kernel
theorem eX8_takeName_17 : decode cX8_takeName 17 = .ok (.ireturn, 1) := by decide +kernel
set_option maxRecDepth 100000 in
theorem m_8_takeName_54 (hU : ev_uq ty ev_TR) {C : ev_C} {x2 : Int} {r : Int} {C' : ev_C} (h : f_8_takeName_54 C x2 = some (r, C')) : ev_Met l D cys ty ck_tags ev_TR kc_59 [.inr (.inl 8), .inr (.inl 54), .inl x2] C (fun r0 C0 => r0 = some (.inl r) ∧ C0 = C') := by
  unfold f_8_takeName_54 at h
  refine ev_enter (by decide +kernel) (by decide +kernel) (Nat.le_of_ble_eq_true rfl) ?_
  show ev_W l D cys ty ck_tags ev_TR kc_59 0 [(0, .inr (.inl 8)), (1, .inr (.inl 54)), (2, .inl x2)] [] C _
  refine ev_al eX8_takeName_0 rfl ?_
  refine ev_al eX8_takeName_1 rfl ?_
  refine ev_il eX8_takeName_2 rfl ?_
  obtain ⟨r1, C1, hq1, h⟩ := ev_bd_some h
  refine ev_callV (kc := kc_45) (A := [.inr (.inl 54), .inl x2]) (T := []) (lk_m.1 _ _ 0 [44, 45, 46, 47, 48, 49] (isM (by decide +kernel)) 45 (by decide)) eX8_takeName_3 (m_8_nameHere_54 hU hq1) rfl rfl rfl (by decide) (by decide) (Nat.le_of_ble_eq_true rfl) ?_
  rintro _ C1 ⟨rfl, rfl⟩
  show ev_W l D cys ty ck_tags ev_TR kc_59 6 [(0, .inr (.inl 8)), (1, .inr (.inl 54)), (2, .inl x2)] [.inl r1] C1 _
  refine ev_is (L' := [(3, .inl r1), (0, .inr (.inl 8)), (1, .inr (.inl 54)), (2, .inl x2)]) eX8_takeName_6 (by decide) rfl ?_
  refine ev_il eX8_takeName_7 rfl ?_
  refine ev_ic eX8_takeName_8 (by decide) ?_
  refine ev_c_eq (tgt := 16) eX8_takeName_9 (by decide) (fun hc2 => ?_) (fun hc2 => ?_)
  · rw [if_pos (show r1 = -1 from hc2)] at h
    refine ev_il eX8_takeName_16 rfl ?_
    cases h
    exact ev_iret eX8_takeName_17 rfl ⟨rfl, rfl⟩
  · rw [if_neg (show ¬ (r1 = -1) from hc2)] at h
    refine ev_al eX8_takeName_12 rfl ?_
    obtain ⟨C3, hq3, h⟩ := ev_bv_some h
    refine ev_callV (kc := kc_57) (A := []) (T := []) (lk_m.1 _ _ 0 [57] (isM (by decide +kernel)) 57 (by decide)) eX8_takeName_13 (m_8_step hU hq3) rfl rfl rfl (by decide) (by decide) (Nat.le_of_ble_eq_true rfl) ?_
    rintro _ C3 ⟨rfl, rfl⟩
    show ev_W l D cys ty ck_tags ev_TR kc_59 16 [(3, .inl r1), (0, .inr (.inl 8)), (1, .inr (.inl 54)), (2, .inl x2)] [] C3 _
    refine ev_il eX8_takeName_16 rfl ?_
    cases h
    exact ev_iret eX8_takeName_17 rfl ⟨rfl, rfl⟩
set_option maxRecDepth 100000 in
theorem m_8_nameHere_53 (hU : ev_uq ty ev_TR) {C : ev_C} {x2 : Int} {r : Int} {C' : ev_C} (h : f_8_nameHere_53 C x2 = some (r, C')) : ev_Met l D cys ty ck_tags ev_TR kc_44 [.inr (.inl 8), .inr (.inl 53), .inl x2] C (fun r0 C0 => r0 = some (.inl r) ∧ C0 = C') := by
  unfold f_8_nameHere_53 at h
  refine ev_enter (by decide +kernel) (by decide +kernel) (Nat.le_of_ble_eq_true rfl) ?_
  show ev_W l D cys ty ck_tags ev_TR kc_44 0 [(0, .inr (.inl 8)), (1, .inr (.inl 53)), (2, .inl x2)] [] C _
  refine ev_al eX8_nameHere_0 rfl ?_
  obtain ⟨r1, C1, hq1, h⟩ := ev_bd_some h
  refine ev_callV (kc := kc_0) (A := []) (T := []) (lk_m.1 _ _ 0 [0] (isM (by decide +kernel)) 0 (by decide)) eX8_nameHere_1 (m_8_isAtName hU hq1) rfl rfl rfl (by decide) (by decide) (Nat.le_of_ble_eq_true rfl) ?_
  rintro _ C1 ⟨rfl, rfl⟩
  show ev_W l D cys ty ck_tags ev_TR kc_44 4 [(0, .inr (.inl 8)), (1, .inr (.inl 53)), (2, .inl x2)] [.inl r1] C1 _
  refine ev_z_ne (tgt := 14) eX8_nameHere_4 (by decide) (fun hc2 => ?_) (fun hc2 => ?_)
  · rw [if_pos (show r1 ≠ 0 from hc2)] at h
    refine ev_al eX8_nameHere_14 rfl ?_
    refine ev_il eX8_nameHere_15 rfl ?_
    refine ev_al eX8_nameHere_16 rfl ?_
    refine ev_getL lk_f (ci := 8) (j := 8) (cd := 2) eX8_nameHere_17 (isF (by decide +kernel)) rfl rfl rfl ?_
    obtain ⟨r3, C3, hq3, h⟩ := ev_bd_some h
    refine ev_callS (kc := kc_37) (A := [.inr (.inl 53), .inl x2, .inr (.inr ((C1 8 8)))]) (T := []) (lk_m.1 _ _ 1 [37, 38, 39, 40, 41, 42, 43] (isM (by decide +kernel)) 37 (by decide)) eX8_nameHere_20 (m_8_indexOf_53 hU hq3) rfl rfl (by decide) (by decide) (Nat.le_of_ble_eq_true rfl) ?_
    rintro _ C3 ⟨rfl, rfl⟩
    show ev_W l D cys ty ck_tags ev_TR kc_44 23 [(0, .inr (.inl 8)), (1, .inr (.inl 53)), (2, .inl x2)] [.inl r3] C3 _
    refine ev_is (L' := [(3, .inl r3), (0, .inr (.inl 8)), (1, .inr (.inl 53)), (2, .inl x2)]) eX8_nameHere_23 (by decide) rfl ?_
    refine ev_il eX8_nameHere_24 rfl ?_
    refine ev_ic eX8_nameHere_25 (by decide) ?_
    refine ev_c_ne (tgt := 34) eX8_nameHere_26 (by decide) (fun hc4 => ?_) (fun hc4 => ?_)
    · rw [if_pos (show r3 ≠ -1 from hc4)] at h
      refine ev_il eX8_nameHere_34 rfl ?_
      cases h
      exact ev_iret eX8_nameHere_35 rfl ⟨rfl, rfl⟩
    · rw [if_neg (show ¬ (r3 ≠ -1) from hc4)] at h
      refine ev_al eX8_nameHere_29 rfl ?_
      refine ev_ic eX8_nameHere_30 (by decide) ?_
      obtain ⟨C5, hq5, h⟩ := ev_bv_some h
      refine ev_callV (kc := kc_35) (A := [.inl 3]) (T := []) (lk_m.1 _ _ 0 [35] (isM (by decide +kernel)) 35 (by decide)) eX8_nameHere_31 (m_8_fail hU hq5) rfl rfl rfl (by decide) (by decide) (Nat.le_of_ble_eq_true rfl) ?_
      rintro _ C5 ⟨rfl, rfl⟩
      show ev_W l D cys ty ck_tags ev_TR kc_44 34 [(3, .inl r3), (0, .inr (.inl 8)), (1, .inr (.inl 53)), (2, .inl x2)] [] C5 _
      refine ev_il eX8_nameHere_34 rfl ?_
      cases h
      exact ev_iret eX8_nameHere_35 rfl ⟨rfl, rfl⟩
  · rw [if_neg (show ¬ (r1 ≠ 0) from hc2)] at h
    refine ev_al eX8_nameHere_7 rfl ?_
    refine ev_ic eX8_nameHere_8 (by decide) ?_
    obtain ⟨C6, hq6, h⟩ := ev_bv_some h
    refine ev_callV (kc := kc_35) (A := [.inl 1]) (T := []) (lk_m.1 _ _ 0 [35] (isM (by decide +kernel)) 35 (by decide)) eX8_nameHere_9 (m_8_fail hU hq6) rfl rfl rfl (by decide) (by decide) (Nat.le_of_ble_eq_true rfl) ?_
    rintro _ C6 ⟨rfl, rfl⟩
    show ev_W l D cys ty ck_tags ev_TR kc_44 12 [(0, .inr (.inl 8)), (1, .inr (.inl 53)), (2, .inl x2)] [] C6 _
    refine ev_ic eX8_nameHere_12 (by decide) ?_
    cases h
    exact ev_iret eX8_nameHere_13 rfl ⟨rfl, rfl⟩
theorem eX11_has_0 : decode cX11_has 0 = .ok (.iload_n 0, 1) := by decide +kernel
theorem eX11_has_1 : decode cX11_has 1 = .ok (.iload_n 1, 1) := by decide +kernel
theorem eX11_has_2 : decode cX11_has 2 = .ok (.ishr, 1) := by decide +kernel
theorem eX11_has_3 : decode cX11_has 3 = .ok (.iconst 1, 1) := by decide +kernel
theorem eX11_has_4 : decode cX11_has 4 = .ok (.iand, 1) := by decide +kernel
theorem eX11_has_5 : decode cX11_has 5 = .ok (.ifCond .eq 7, 3) := by decide +kernel
theorem eX11_has_8 : decode cX11_has 8 = .ok (.iconst 1, 1) := by decide +kernel
theorem eX11_has_9 : decode cX11_has 9 = .ok (.goto 4, 3) := by decide +kernel
theorem eX11_has_12 : decode cX11_has 12 = .ok (.iconst 0, 1) := by decide +kernel
theorem eX11_has_13 : decode cX11_has 13 = .ok (.ireturn, 1) := by decide +kernel
set_option maxRecDepth 100000 in
theorem m_11_has (hU : ev_uq ty ev_TR) {C : ev_C} {x0 x1 : Int} {r : Int} {C' : ev_C} (h : f_11_has C x0 x1 = some (r, C')) : ev_Met l D cys ty ck_tags ev_TR kc_2 [.inl x0, .inl x1] C (fun r0 C0 => r0 = some (.inl r) ∧ C0 = C') := by
  unfold f_11_has at h
  refine ev_enter (by decide +kernel) (by decide +kernel) (Nat.le_of_ble_eq_true rfl) ?_
  show ev_W l D cys ty ck_tags ev_TR kc_2 0 [(0, .inl x0), (1, .inl x1)] [] C _
  refine ev_il eX11_has_0 rfl ?_
  refine ev_il eX11_has_1 rfl ?_
  refine ev_ishr eX11_has_2 ?_
  refine ev_ic eX11_has_3 (by decide) ?_
  refine ev_iand eX11_has_4 ?_
  refine ev_z_eq (tgt := 12) eX11_has_5 (by decide) (fun hc1 => ?_) (fun hc1 => ?_)
  · rw [if_pos (show ev_and (ev_shr x0 x1) 1 = 0 from hc1)] at h
    refine ev_ic eX11_has_12 (by decide) ?_
    cases h
    exact ev_zret eX11_has_13 rfl (by decide) ⟨rfl, rfl⟩
  · rw [if_neg (show ¬ (ev_and (ev_shr x0 x1) 1 = 0) from hc1)] at h
    refine ev_ic eX11_has_8 (by decide) ?_
    refine ev_goto (tgt := 13) eX11_has_9 (by decide) ?_
    cases h
    exact ev_zret eX11_has_13 rfl (by decide) ⟨rfl, rfl⟩
theorem eX7_takeOnce_0 : decode cX7_takeOnce 0 = .ok (.iload_n 1, 1) := by decide +kernel
theorem eX7_takeOnce_1 : decode cX7_takeOnce 1 = .ok (.iload_n 2, 1) := by decide +kernel
theorem eX7_takeOnce_2 : decode cX7_takeOnce 2 = .ok (.invokestatic 96, 3) := by decide +kernel
theorem eX7_takeOnce_5 : decode cX7_takeOnce 5 = .ok (.ifCond .eq 10, 3) := by decide +kernel
theorem eX7_takeOnce_8 : decode cX7_takeOnce 8 = .ok (.aload_n 0, 1) := by decide +kernel
theorem eX7_takeOnce_9 : decode cX7_takeOnce 9 = .ok (.iconst 3, 1) := by decide +kernel
theorem eX7_takeOnce_10 : decode cX7_takeOnce 10 = .ok (.invokevirtual 79, 3) := by decide +kernel
theorem eX7_takeOnce_13 : decode cX7_takeOnce 13 = .ok (.iload_n 1, 1) := by decide +kernel
theorem eX7_takeOnce_14 : decode cX7_takeOnce 14 = .ok (.ireturn, 1) := by decide +kernel
theorem eX7_takeOnce_15 : decode cX7_takeOnce 15 = .ok (.aload_n 0, 1) := by decide +kernel
theorem eX7_takeOnce_16 : decode cX7_takeOnce 16 = .ok (.invokevirtual 82, 3) := by decide +kernel
theorem eX7_takeOnce_19 : decode cX7_takeOnce 19 = .ok (.iload_n 1, 1) := by decide +kernel
theorem eX7_takeOnce_20 : decode cX7_takeOnce 20 = .ok (.iconst 1, 1) := by decide +kernel
theorem eX7_takeOnce_21 : decode cX7_takeOnce 21 = .ok (.iload_n 2, 1) := by decide +kernel
theorem eX7_takeOnce_22 : decode cX7_takeOnce 22 = .ok (.ishl, 1) := by decide +kernel
theorem eX7_takeOnce_23 : decode cX7_takeOnce 23 = .ok (.ior, 1) := by decide +kernel
theorem eX7_takeOnce_24 : decode cX7_takeOnce 24 = .ok (.ireturn, 1) := by decide +kernel
set_option maxRecDepth 100000 in
theorem m_7_takeOnce_8 (hU : ev_uq ty ev_TR) {C : ev_C} {x1 x2 : Int} {r : Int} {C' : ev_C} (h : f_7_takeOnce_8 C x1 x2 = some (r, C')) : ev_Met l D cys ty ck_tags ev_TR kc_103 [.inr (.inl 8), .inl x1, .inl x2] C (fun r0 C0 => r0 = some (.inl r) ∧ C0 = C') := by
  unfold f_7_takeOnce_8 at h
  refine ev_enter (by decide +kernel) (by decide +kernel) (Nat.le_of_ble_eq_true rfl) ?_
  show ev_W l D cys ty ck_tags ev_TR kc_103 0 [(0, .inr (.inl 8)), (1, .inl x1), (2, .inl x2)] [] C _
  refine ev_il eX7_takeOnce_0 rfl ?_
  refine ev_il eX7_takeOnce_1 rfl ?_
  obtain ⟨r1, C1, hq1, h⟩ := ev_bd_some h
  refine ev_callN (kc := kc_2) (A := [.inl x1, .inl x2]) (T := []) (lk_m.1 _ _ 2 [2] (isM (by decide +kernel)) 2 (by decide)) eX7_takeOnce_2 (m_11_has hU hq1) rfl rfl (by decide) (by decide) (Nat.le_of_ble_eq_true rfl) ?_
  rintro _ C1 ⟨rfl, rfl⟩
  show ev_W l D cys ty ck_tags ev_TR kc_103 5 [(0, .inr (.inl 8)), (1, .inl x1), (2, .inl x2)] [.inl r1] C1 _
  refine ev_z_eq (tgt := 15) eX7_takeOnce_5 (by decide) (fun hc2 => ?_) (fun hc2 => ?_)
  · rw [if_pos (show r1 = 0 from hc2)] at h
    refine ev_al eX7_takeOnce_15 rfl ?_
    obtain ⟨C3, hq3, h⟩ := ev_bv_some h
    refine ev_callV (kc := kc_57) (A := []) (T := []) (lk_m.1 _ _ 0 [57] (isM (by decide +kernel)) 57 (by decide)) eX7_takeOnce_16 (m_8_step hU hq3) rfl rfl rfl (by decide) (by decide) (Nat.le_of_ble_eq_true rfl) ?_
    rintro _ C3 ⟨rfl, rfl⟩
    show ev_W l D cys ty ck_tags ev_TR kc_103 19 [(0, .inr (.inl 8)), (1, .inl x1), (2, .inl x2)] [] C3 _
    refine ev_il eX7_takeOnce_19 rfl ?_
    refine ev_ic eX7_takeOnce_20 (by decide) ?_
    refine ev_il eX7_takeOnce_21 rfl ?_
    refine ev_ishl eX7_takeOnce_22 ?_
    refine ev_ior eX7_takeOnce_23 ?_
    cases h
    exact ev_iret eX7_takeOnce_24 rfl ⟨rfl, rfl⟩
  · rw [if_neg (show ¬ (r1 = 0) from hc2)] at h
    refine ev_al eX7_takeOnce_8 rfl ?_
    refine ev_ic eX7_takeOnce_9 (by decide) ?_
    obtain ⟨C4, hq4, h⟩ := ev_bv_some h
    refine ev_callV (kc := kc_35) (A := [.inl 3]) (T := []) (lk_m.1 _ _ 0 [35] (isM (by decide +kernel)) 35 (by decide)) eX7_takeOnce_10 (m_8_fail hU hq4) rfl rfl rfl (by decide) (by decide) (Nat.le_of_ble_eq_true rfl) ?_
    rintro _ C4 ⟨rfl, rfl⟩
    show ev_W l D cys ty ck_tags ev_TR kc_103 13 [(0, .inr (.inl 8)), (1, .inl x1), (2, .inl x2)] [] C4 _
    refine ev_il eX7_takeOnce_13 rfl ?_
    cases h
    exact ev_iret eX7_takeOnce_14 rfl ⟨rfl, rfl⟩
end GX
