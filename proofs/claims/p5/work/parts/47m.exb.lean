/-! THE EXACT LOGIC: the class's Book.read (printed by a program of ours). -/
section GX
variable {l : Launch} {D : va_G} {cys : Nat → ClassId} {ty : Nat → Option Nat}
theorem eX0_canBegin_0 : decode cX0_canBegin 0 = .ok (.aload_n 0, 1) := by decide +kernel
theorem eX0_canBegin_1 : decode cX0_canBegin 1 = .ok (.invokevirtual 58, 3) := by decide +kernel
theorem eX0_canBegin_4 : decode cX0_canBegin 4 = .ok (.ifCond .ne 21, 3) := by decide +kernel
theorem eX0_canBegin_7 : decode cX0_canBegin 7 = .ok (.iload_n 1, 1) := by decide +kernel
theorem eX0_canBegin_8 : decode cX0_canBegin 8 = .ok (.bipush 13, 2) := by decide +kernel
theorem eX0_canBegin_10 : decode cX0_canBegin 10 = .ok (.if_icmp .eq 15, 3) := by decide +kernel
theorem eX0_canBegin_13 : decode cX0_canBegin 13 = .ok (.iload_n 1, 1) := by decide +kernel
theorem eX0_canBegin_14 : decode cX0_canBegin 14 = .ok (.bipush 14, 2) := by decide +kernel
theorem eX0_canBegin_16 : decode cX0_canBegin 16 = .ok (.if_icmp .eq 9, 3) := by decide +kernel
theorem eX0_canBegin_19 : decode cX0_canBegin 19 = .ok (.iload_n 1, 1) := by decide +kernel
theorem eX0_canBegin_20 : decode cX0_canBegin 20 = .ok (.bipush 15, 2) := by decide +kernel
theorem eX0_canBegin_22 : decode cX0_canBegin 22 = .ok (.if_icmp .ne 7, 3) := by decide +kernel
theorem eX0_canBegin_25 : decode cX0_canBegin 25 = .ok (.iconst 1, 1) := by decide +kernel
theorem eX0_canBegin_26 : decode cX0_canBegin 26 = .ok (.goto 4, 3) := by decide +kernel
theorem eX0_canBegin_29 : decode cX0_canBegin 29 = .ok (.iconst 0, 1) := by decide +kernel
theorem eX0_canBegin_30 : decode cX0_canBegin 30 = .ok (.ireturn, 1) := by decide +kernel
set_option maxRecDepth 100000 in
theorem m_0_canBegin_8 (hU : ev_uq ty ev_TR) {C : ev_C} {x1 : Int} {r : Int} {C' : ev_C} (h : f_0_canBegin_8 C x1 = some (r, C')) : ev_Met l D cys ty ck_tags ev_TR kc_1 [.inr (.inl 8), .inl x1] C (fun r0 C0 => r0 = some (.inl r) ∧ C0 = C') := by
  unfold f_0_canBegin_8 at h
  refine ev_enter (by decide +kernel) (by decide +kernel) (Nat.le_of_ble_eq_true rfl) ?_
  show ev_W l D cys ty ck_tags ev_TR kc_1 0 [(0, .inr (.inl 8)), (1, .inl x1)] [] C _
  refine ev_al eX0_canBegin_0 rfl ?_
  obtain ⟨r1, C1, hq1, h⟩ := ev_bd_some h
  refine ev_callV (kc := kc_0) (A := []) (T := []) (lk_m.1 _ _ 0 [0] (isM (by decide +kernel)) 0 (by decide)) eX0_canBegin_1 (m_8_isAtName hU hq1) rfl rfl rfl (by decide) (by decide) (Nat.le_of_ble_eq_true rfl) ?_
  rintro _ C1 ⟨rfl, rfl⟩
  show ev_W l D cys ty ck_tags ev_TR kc_1 4 [(0, .inr (.inl 8)), (1, .inl x1)] [.inl r1] C1 _
  refine ev_z_ne (tgt := 25) eX0_canBegin_4 (by decide) (fun hc2 => ?_) (fun hc2 => ?_)
  · rw [if_pos (show r1 ≠ 0 from hc2)] at h
    refine ev_ic eX0_canBegin_25 (by decide) ?_
    refine ev_goto (tgt := 30) eX0_canBegin_26 (by decide) ?_
    cases h
    exact ev_zret eX0_canBegin_30 rfl (by decide) ⟨rfl, rfl⟩
  · rw [if_neg (show ¬ (r1 ≠ 0) from hc2)] at h
    refine ev_il eX0_canBegin_7 rfl ?_
    refine ev_bp eX0_canBegin_8 (by decide) (by decide) ?_
    refine ev_c_eq (tgt := 25) eX0_canBegin_10 (by decide) (fun hc3 => ?_) (fun hc3 => ?_)
    · rw [if_pos (show x1 = 13 from hc3)] at h
      refine ev_ic eX0_canBegin_25 (by decide) ?_
      refine ev_goto (tgt := 30) eX0_canBegin_26 (by decide) ?_
      cases h
      exact ev_zret eX0_canBegin_30 rfl (by decide) ⟨rfl, rfl⟩
    · rw [if_neg (show ¬ (x1 = 13) from hc3)] at h
      refine ev_il eX0_canBegin_13 rfl ?_
      refine ev_bp eX0_canBegin_14 (by decide) (by decide) ?_
      refine ev_c_eq (tgt := 25) eX0_canBegin_16 (by decide) (fun hc4 => ?_) (fun hc4 => ?_)
      · rw [if_pos (show x1 = 14 from hc4)] at h
        refine ev_ic eX0_canBegin_25 (by decide) ?_
        refine ev_goto (tgt := 30) eX0_canBegin_26 (by decide) ?_
        cases h
        exact ev_zret eX0_canBegin_30 rfl (by decide) ⟨rfl, rfl⟩
      · rw [if_neg (show ¬ (x1 = 14) from hc4)] at h
        refine ev_il eX0_canBegin_19 rfl ?_
        refine ev_bp eX0_canBegin_20 (by decide) (by decide) ?_
        refine ev_c_ne (tgt := 29) eX0_canBegin_22 (by decide) (fun hc5 => ?_) (fun hc5 => ?_)
        · rw [if_pos (show x1 ≠ 15 from hc5)] at h
          refine ev_ic eX0_canBegin_29 (by decide) ?_
          cases h
          exact ev_zret eX0_canBegin_30 rfl (by decide) ⟨rfl, rfl⟩
        · rw [if_neg (show ¬ (x1 ≠ 15) from hc5)] at h
          refine ev_ic eX0_canBegin_25 (by decide) ?_
          refine ev_goto (tgt := 30) eX0_canBegin_26 (by decide) ?_
          cases h
          exact ev_zret eX0_canBegin_30 rfl (by decide) ⟨rfl, rfl⟩
set_option maxRecDepth 100000 in
theorem m_8_indexOf_69_L3 (hU : ev_uq ty ev_TR) : ∀ (n : Nat) {C : ev_C} {y1 y2 y4 : Int} {r : Int} {C' : ev_C}, f_8_indexOf_69_L3 n C y1 y2 y4 = some (r, C') → ev_W l D cys ty ck_tags ev_TR kc_43 3 [(0, .inr (.inl 69)), (1, .inl y1), (2, .inr (.inr y2)), (4, .inl y4)] [] C (fun r0 C0 => r0 = some (.inl r) ∧ C0 = C')
  | 0, _, _, _, _, _, _, h => by cases h
  | n + 1, C, y1, y2, y4, _, _, h => by
    unfold f_8_indexOf_69_L3 at h
    refine ev_ilw eX8_indexOf_3 rfl ?_
    refine ev_il eX8_indexOf_5 rfl ?_
    refine ev_c_ge (tgt := 34) eX8_indexOf_6 (by decide) (fun hc1 => ?_) (fun hc1 => ?_)
    · rw [if_pos (show y1 ≤ y4 from hc1)] at h
      refine ev_ic eX8_indexOf_34 (by decide) ?_
      cases h
      exact ev_iret eX8_indexOf_35 rfl ⟨rfl, rfl⟩
    · rw [if_neg (show ¬ (y1 ≤ y4) from hc1)] at h
      refine ev_ilw eX8_indexOf_9 rfl ?_
      refine ev_al eX8_indexOf_11 rfl ?_
      refine ev_alen (v := 8) eX8_indexOf_12 rfl (by decide) rfl ?_
      refine ev_c_ge (tgt := 34) eX8_indexOf_13 (by decide) (fun hc2 => ?_) (fun hc2 => ?_)
      · rw [if_pos (show 8 ≤ y4 from hc2)] at h
        refine ev_ic eX8_indexOf_34 (by decide) ?_
        cases h
        exact ev_iret eX8_indexOf_35 rfl ⟨rfl, rfl⟩
      · rw [if_neg (show ¬ (8 ≤ y4) from hc2)] at h
        refine ev_al eX8_indexOf_16 rfl ?_
        refine ev_ilw eX8_indexOf_17 rfl ?_
        obtain ⟨hb3, h⟩ := ev_gd h
        refine ev_lald eX8_indexOf_19 rfl rfl hb3.1 hb3.2 ?_
        refine ev_ll eX8_indexOf_20 rfl ?_
        refine ev_lcmp eX8_indexOf_21 ?_
        refine ev_z_ne (tgt := 28) eX8_indexOf_22 (by decide) (fun hc4 => ?_) (fun hc4 => ?_)
        · rw [if_pos (show ev_cmp ((C 69 (Int.toNat y4))) y2 ≠ 0 from hc4)] at h
          refine ev_inc (L' := [(4, .inl (ev_w (y4 + 1))), (0, .inr (.inl 69)), (1, .inl y1), (2, .inr (.inr y2))]) eX8_indexOf_28 (by decide) (by decide) rfl rfl ?_
          refine ev_goto (tgt := 3) eX8_indexOf_31 (by decide) ?_
          refine ev_loc (L' := [(0, .inr (.inl 69)), (1, .inl y1), (2, .inr (.inr y2)), (4, .inl (ev_w (y4 + 1)))]) rfl ?_
          exact m_8_indexOf_69_L3 hU n h
        · rw [if_neg (show ¬ (ev_cmp ((C 69 (Int.toNat y4))) y2 ≠ 0) from hc4)] at h
          refine ev_ilw eX8_indexOf_25 rfl ?_
          cases h
          exact ev_iret eX8_indexOf_27 rfl ⟨rfl, rfl⟩
set_option maxRecDepth 100000 in
theorem m_8_indexOf_69 (hU : ev_uq ty ev_TR) {C : ev_C} {x1 x2 : Int} {r : Int} {C' : ev_C} (h : f_8_indexOf_69 C x1 x2 = some (r, C')) : ev_Met l D cys ty ck_tags ev_TR kc_43 [.inr (.inl 69), .inl x1, .inr (.inr x2)] C (fun r0 C0 => r0 = some (.inl r) ∧ C0 = C') := by
  unfold f_8_indexOf_69 at h
  refine ev_enter (by decide +kernel) (by decide +kernel) (Nat.le_of_ble_eq_true rfl) ?_
  show ev_W l D cys ty ck_tags ev_TR kc_43 0 [(0, .inr (.inl 69)), (1, .inl x1), (2, .inr (.inr x2))] [] C _
  refine ev_ic eX8_indexOf_0 (by decide) ?_
  refine ev_isw (L' := [(4, .inl 0), (0, .inr (.inl 69)), (1, .inl x1), (2, .inr (.inr x2))]) eX8_indexOf_1 (by decide) rfl ?_
  refine ev_loc (L' := [(0, .inr (.inl 69)), (1, .inl x1), (2, .inr (.inr x2)), (4, .inl 0)]) rfl ?_
  exact m_8_indexOf_69_L3 hU 1000 h
set_option maxRecDepth 100000 in
theorem m_8_nameHere_69 (hU : ev_uq ty ev_TR) {C : ev_C} {x2 : Int} {r : Int} {C' : ev_C} (h : f_8_nameHere_69 C x2 = some (r, C')) : ev_Met l D cys ty ck_tags ev_TR kc_49 [.inr (.inl 8), .inr (.inl 69), .inl x2] C (fun r0 C0 => r0 = some (.inl r) ∧ C0 = C') := by
  unfold f_8_nameHere_69 at h
  refine ev_enter (by decide +kernel) (by decide +kernel) (Nat.le_of_ble_eq_true rfl) ?_
  show ev_W l D cys ty ck_tags ev_TR kc_49 0 [(0, .inr (.inl 8)), (1, .inr (.inl 69)), (2, .inl x2)] [] C _
  refine ev_al eX8_nameHere_0 rfl ?_
  obtain ⟨r1, C1, hq1, h⟩ := ev_bd_some h
  refine ev_callV (kc := kc_0) (A := []) (T := []) (lk_m.1 _ _ 0 [0] (isM (by decide +kernel)) 0 (by decide)) eX8_nameHere_1 (m_8_isAtName hU hq1) rfl rfl rfl (by decide) (by decide) (Nat.le_of_ble_eq_true rfl) ?_
  rintro _ C1 ⟨rfl, rfl⟩
  show ev_W l D cys ty ck_tags ev_TR kc_49 4 [(0, .inr (.inl 8)), (1, .inr (.inl 69)), (2, .inl x2)] [.inl r1] C1 _
  refine ev_z_ne (tgt := 14) eX8_nameHere_4 (by decide) (fun hc2 => ?_) (fun hc2 => ?_)
  · rw [if_pos (show r1 ≠ 0 from hc2)] at h
    refine ev_al eX8_nameHere_14 rfl ?_
    refine ev_il eX8_nameHere_15 rfl ?_
    refine ev_al eX8_nameHere_16 rfl ?_
    refine ev_getL lk_f (ci := 8) (j := 8) (cd := 2) eX8_nameHere_17 (isF (by decide +kernel)) rfl rfl rfl ?_
    obtain ⟨r3, C3, hq3, h⟩ := ev_bd_some h
    refine ev_callS (kc := kc_43) (A := [.inr (.inl 69), .inl x2, .inr (.inr ((C1 8 8)))]) (T := []) (lk_m.1 _ _ 1 [37, 38, 39, 40, 41, 42, 43] (isM (by decide +kernel)) 43 (by decide)) eX8_nameHere_20 (m_8_indexOf_69 hU hq3) rfl rfl (by decide) (by decide) (Nat.le_of_ble_eq_true rfl) ?_
    rintro _ C3 ⟨rfl, rfl⟩
    show ev_W l D cys ty ck_tags ev_TR kc_49 23 [(0, .inr (.inl 8)), (1, .inr (.inl 69)), (2, .inl x2)] [.inl r3] C3 _
    refine ev_is (L' := [(3, .inl r3), (0, .inr (.inl 8)), (1, .inr (.inl 69)), (2, .inl x2)]) eX8_nameHere_23 (by decide) rfl ?_
    refine ev_il eX8_nameHere_24 rfl ?_
    refine ev_ic eX8_nameHere_25 (by decide) ?_
    refine ev_c_ne (tgt := 34) eX8_nameHere_26 (by decide) (fun hc4 => ?_) (fun hc4 => ?_)
    · rw [if_pos (show r3 ≠ -1 from hc4)] at h
      refine ev_il eX8_nameHere_34 rfl ?_
      cases h
      exact ev_iret eX8_nameHere_35 rfl ⟨rfl, rfl⟩
    · rw [if_neg (show ¬ (r3 ≠ -1) from hc4)] at h
      refine ev_al eX8_nameHere_29 rfl ?_
      refine ev_ic eX8_nameHere_30 (by decide) ?_
      obtain ⟨C5, hq5, h⟩ := ev_bv_some h
      refine ev_callV (kc := kc_35) (A := [.inl 3]) (T := []) (lk_m.1 _ _ 0 [35] (isM (by decide +kernel)) 35 (by decide)) eX8_nameHere_31 (m_8_fail hU hq5) rfl rfl rfl (by decide) (by decide) (Nat.le_of_ble_eq_true rfl) ?_
      rintro _ C5 ⟨rfl, rfl⟩
      show ev_W l D cys ty ck_tags ev_TR kc_49 34 [(3, .inl r3), (0, .inr (.inl 8)), (1, .inr (.inl 69)), (2, .inl x2)] [] C5 _
      refine ev_il eX8_nameHere_34 rfl ?_
      cases h
      exact ev_iret eX8_nameHere_35 rfl ⟨rfl, rfl⟩
  · rw [if_neg (show ¬ (r1 ≠ 0) from hc2)] at h
    refine ev_al eX8_nameHere_7 rfl ?_
    refine ev_ic eX8_nameHere_8 (by decide) ?_
    obtain ⟨C6, hq6, h⟩ := ev_bv_some h
    refine ev_callV (kc := kc_35) (A := [.inl 1]) (T := []) (lk_m.1 _ _ 0 [35] (isM (by decide +kernel)) 35 (by decide)) eX8_nameHere_9 (m_8_fail hU hq6) rfl rfl rfl (by decide) (by decide) (Nat.le_of_ble_eq_true rfl) ?_
    rintro _ C6 ⟨rfl, rfl⟩
    show ev_W l D cys ty ck_tags ev_TR kc_49 12 [(0, .inr (.inl 8)), (1, .inr (.inl 69)), (2, .inl x2)] [] C6 _
    refine ev_ic eX8_nameHere_12 (by decide) ?_
    cases h
    exact ev_iret eX8_nameHere_13 rfl ⟨rfl, rfl⟩
set_option maxRecDepth 100000 in
theorem m_8_takeName_69 (hU : ev_uq ty ev_TR) {C : ev_C} {x2 : Int} {r : Int} {C' : ev_C} (h : f_8_takeName_69 C x2 = some (r, C')) : ev_Met l D cys ty ck_tags ev_TR kc_63 [.inr (.inl 8), .inr (.inl 69), .inl x2] C (fun r0 C0 => r0 = some (.inl r) ∧ C0 = C') := by
  unfold f_8_takeName_69 at h
  refine ev_enter (by decide +kernel) (by decide +kernel) (Nat.le_of_ble_eq_true rfl) ?_
  show ev_W l D cys ty ck_tags ev_TR kc_63 0 [(0, .inr (.inl 8)), (1, .inr (.inl 69)), (2, .inl x2)] [] C _
  refine ev_al eX8_takeName_0 rfl ?_
  refine ev_al eX8_takeName_1 rfl ?_
  refine ev_il eX8_takeName_2 rfl ?_
  obtain ⟨r1, C1, hq1, h⟩ := ev_bd_some h
  refine ev_callV (kc := kc_49) (A := [.inr (.inl 69), .inl x2]) (T := []) (lk_m.1 _ _ 0 [44, 45, 46, 47, 48, 49] (isM (by decide +kernel)) 49 (by decide)) eX8_takeName_3 (m_8_nameHere_69 hU hq1) rfl rfl rfl (by decide) (by decide) (Nat.le_of_ble_eq_true rfl) ?_
  rintro _ C1 ⟨rfl, rfl⟩
  show ev_W l D cys ty ck_tags ev_TR kc_63 6 [(0, .inr (.inl 8)), (1, .inr (.inl 69)), (2, .inl x2)] [.inl r1] C1 _
  refine ev_is (L' := [(3, .inl r1), (0, .inr (.inl 8)), (1, .inr (.inl 69)), (2, .inl x2)]) eX8_takeName_6 (by decide) rfl ?_
  refine ev_il eX8_takeName_7 rfl ?_
  refine ev_ic eX8_takeName_8 (by decide) ?_
  refine ev_c_eq (tgt := 16) eX8_takeName_9 (by decide) (fun hc2 => ?_) (fun hc2 => ?_)
  · rw [if_pos (show r1 = -1 from hc2)] at h
    refine ev_il eX8_takeName_16 rfl ?_
    cases h
    exact ev_iret eX8_takeName_17 rfl ⟨rfl, rfl⟩
  · rw [if_neg (show ¬ (r1 = -1) from hc2)] at h
    refine ev_al eX8_takeName_12 rfl ?_
    obtain ⟨C3, hq3, h⟩ := ev_bv_some h
    refine ev_callV (kc := kc_57) (A := []) (T := []) (lk_m.1 _ _ 0 [57] (isM (by decide +kernel)) 57 (by decide)) eX8_takeName_13 (m_8_step hU hq3) rfl rfl rfl (by decide) (by decide) (Nat.le_of_ble_eq_true rfl) ?_
    rintro _ C3 ⟨rfl, rfl⟩
    show ev_W l D cys ty ck_tags ev_TR kc_63 16 [(3, .inl r1), (0, .inr (.inl 8)), (1, .inr (.inl 69)), (2, .inl x2)] [] C3 _
    refine ev_il eX8_takeName_16 rfl ?_
    cases h
    exact ev_iret eX8_takeName_17 rfl ⟨rfl, rfl⟩
theorem eX8_takeWord_0 : decode cX8_takeWord 0 = .ok (.aload_n 0, 1) := by decide +kernel
theorem eX8_takeWord_1 : decode cX8_takeWord 1 = .ok (.iload_n 1, 1) := by decide +kernel
theorem eX8_takeWord_2 : decode cX8_takeWord 2 = .ok (.invokevirtual 117, 3) := by decide +kernel
theorem eX8_takeWord_5 : decode cX8_takeWord 5 = .ok (.ifCond .eq 10, 3) := by decide +kernel
theorem eX8_takeWord_8 : decode cX8_takeWord 8 = .ok (.aload_n 0, 1) := by decide +kernel
theorem eX8_takeWord_9 : decode cX8_takeWord 9 = .ok (.invokevirtual 73, 3) := by decide +kernel
theorem eX8_takeWord_12 : decode cX8_takeWord 12 = .ok (.goto 8, 3) := by decide +kernel
theorem eX8_takeWord_15 : decode cX8_takeWord 15 = .ok (.aload_n 0, 1) := by decide +kernel
theorem eX8_takeWord_16 : decode cX8_takeWord 16 = .ok (.iconst 1, 1) := by decide +kernel
theorem eX8_takeWord_17 : decode cX8_takeWord 17 = .ok (.invokevirtual 106, 3) := by decide +kernel
theorem eX8_takeWord_20 : decode cX8_takeWord 20 = .ok (.return_, 1) := by decide +kernel
set_option maxRecDepth 100000 in
theorem m_8_takeWord (hU : ev_uq ty ev_TR) {C : ev_C} {x1 : Int} {C' : ev_C} (h : f_8_takeWord C x1 = some C') : ev_Met l D cys ty ck_tags ev_TR kc_65 [.inr (.inl 8), .inl x1] C (fun r0 C0 => r0 = none ∧ C0 = C') := by
  unfold f_8_takeWord at h
  refine ev_enter (by decide +kernel) (by decide +kernel) (Nat.le_of_ble_eq_true rfl) ?_
  show ev_W l D cys ty ck_tags ev_TR kc_65 0 [(0, .inr (.inl 8)), (1, .inl x1)] [] C _
  refine ev_al eX8_takeWord_0 rfl ?_
  refine ev_il eX8_takeWord_1 rfl ?_
  obtain ⟨r1, C1, hq1, h⟩ := ev_bd_some h
  refine ev_callV (kc := kc_64) (A := [.inl x1]) (T := []) (lk_m.1 _ _ 0 [64] (isM (by decide +kernel)) 64 (by decide)) eX8_takeWord_2 (m_8_isAtWord hU hq1) rfl rfl rfl (by decide) (by decide) (Nat.le_of_ble_eq_true rfl) ?_
  rintro _ C1 ⟨rfl, rfl⟩
  show ev_W l D cys ty ck_tags ev_TR kc_65 5 [(0, .inr (.inl 8)), (1, .inl x1)] [.inl r1] C1 _
  refine ev_z_eq (tgt := 15) eX8_takeWord_5 (by decide) (fun hc2 => ?_) (fun hc2 => ?_)
  · rw [if_pos (show r1 = 0 from hc2)] at h
    refine ev_al eX8_takeWord_15 rfl ?_
    refine ev_ic eX8_takeWord_16 (by decide) ?_
    obtain ⟨C3, hq3, h⟩ := ev_bv_some h
    refine ev_callV (kc := kc_35) (A := [.inl 1]) (T := []) (lk_m.1 _ _ 0 [35] (isM (by decide +kernel)) 35 (by decide)) eX8_takeWord_17 (m_8_fail hU hq3) rfl rfl rfl (by decide) (by decide) (Nat.le_of_ble_eq_true rfl) ?_
    rintro _ C3 ⟨rfl, rfl⟩
    show ev_W l D cys ty ck_tags ev_TR kc_65 20 [(0, .inr (.inl 8)), (1, .inl x1)] [] C3 _
    cases h
    exact ev_vret eX8_takeWord_20 rfl ⟨rfl, rfl⟩
  · rw [if_neg (show ¬ (r1 = 0) from hc2)] at h
    refine ev_al eX8_takeWord_8 rfl ?_
    obtain ⟨C4, hq4, h⟩ := ev_bv_some h
    refine ev_callV (kc := kc_57) (A := []) (T := []) (lk_m.1 _ _ 0 [57] (isM (by decide +kernel)) 57 (by decide)) eX8_takeWord_9 (m_8_step hU hq4) rfl rfl rfl (by decide) (by decide) (Nat.le_of_ble_eq_true rfl) ?_
    rintro _ C4 ⟨rfl, rfl⟩
    show ev_W l D cys ty ck_tags ev_TR kc_65 12 [(0, .inr (.inl 8)), (1, .inl x1)] [] C4 _
    refine ev_goto (tgt := 20) eX8_takeWord_12 (by decide) ?_
    cases h
    exact ev_vret eX8_takeWord_20 rfl ⟨rfl, rfl⟩
set_option maxRecDepth 100000 in
theorem m_8_indexOf_67_L3 (hU : ev_uq ty ev_TR) : ∀ (n : Nat) {C : ev_C} {y1 y2 y4 : Int} {r : Int} {C' : ev_C}, f_8_indexOf_67_L3 n C y1 y2 y4 = some (r, C') → ev_W l D cys ty ck_tags ev_TR kc_41 3 [(0, .inr (.inl 67)), (1, .inl y1), (2, .inr (.inr y2)), (4, .inl y4)] [] C (fun r0 C0 => r0 = some (.inl r) ∧ C0 = C')
  | 0, _, _, _, _, _, _, h => by cases h
  | n + 1, C, y1, y2, y4, _, _, h => by
    unfold f_8_indexOf_67_L3 at h
    refine ev_ilw eX8_indexOf_3 rfl ?_
    refine ev_il eX8_indexOf_5 rfl ?_
    refine ev_c_ge (tgt := 34) eX8_indexOf_6 (by decide) (fun hc1 => ?_) (fun hc1 => ?_)
    · rw [if_pos (show y1 ≤ y4 from hc1)] at h
      refine ev_ic eX8_indexOf_34 (by decide) ?_
      cases h
      exact ev_iret eX8_indexOf_35 rfl ⟨rfl, rfl⟩
    · rw [if_neg (show ¬ (y1 ≤ y4) from hc1)] at h
      refine ev_ilw eX8_indexOf_9 rfl ?_
      refine ev_al eX8_indexOf_11 rfl ?_
      refine ev_alen (v := 6) eX8_indexOf_12 rfl (by decide) rfl ?_
      refine ev_c_ge (tgt := 34) eX8_indexOf_13 (by decide) (fun hc2 => ?_) (fun hc2 => ?_)
      · rw [if_pos (show 6 ≤ y4 from hc2)] at h
        refine ev_ic eX8_indexOf_34 (by decide) ?_
        cases h
        exact ev_iret eX8_indexOf_35 rfl ⟨rfl, rfl⟩
      · rw [if_neg (show ¬ (6 ≤ y4) from hc2)] at h
        refine ev_al eX8_indexOf_16 rfl ?_
        refine ev_ilw eX8_indexOf_17 rfl ?_
        obtain ⟨hb3, h⟩ := ev_gd h
        refine ev_lald eX8_indexOf_19 rfl rfl hb3.1 hb3.2 ?_
        refine ev_ll eX8_indexOf_20 rfl ?_
        refine ev_lcmp eX8_indexOf_21 ?_
        refine ev_z_ne (tgt := 28) eX8_indexOf_22 (by decide) (fun hc4 => ?_) (fun hc4 => ?_)
        · rw [if_pos (show ev_cmp ((C 67 (Int.toNat y4))) y2 ≠ 0 from hc4)] at h
          refine ev_inc (L' := [(4, .inl (ev_w (y4 + 1))), (0, .inr (.inl 67)), (1, .inl y1), (2, .inr (.inr y2))]) eX8_indexOf_28 (by decide) (by decide) rfl rfl ?_
          refine ev_goto (tgt := 3) eX8_indexOf_31 (by decide) ?_
          refine ev_loc (L' := [(0, .inr (.inl 67)), (1, .inl y1), (2, .inr (.inr y2)), (4, .inl (ev_w (y4 + 1)))]) rfl ?_
          exact m_8_indexOf_67_L3 hU n h
        · rw [if_neg (show ¬ (ev_cmp ((C 67 (Int.toNat y4))) y2 ≠ 0) from hc4)] at h
          refine ev_ilw eX8_indexOf_25 rfl ?_
          cases h
          exact ev_iret eX8_indexOf_27 rfl ⟨rfl, rfl⟩
set_option maxRecDepth 100000 in
theorem m_8_indexOf_67 (hU : ev_uq ty ev_TR) {C : ev_C} {x1 x2 : Int} {r : Int} {C' : ev_C} (h : f_8_indexOf_67 C x1 x2 = some (r, C')) : ev_Met l D cys ty ck_tags ev_TR kc_41 [.inr (.inl 67), .inl x1, .inr (.inr x2)] C (fun r0 C0 => r0 = some (.inl r) ∧ C0 = C') := by
  unfold f_8_indexOf_67 at h
  refine ev_enter (by decide +kernel) (by decide +kernel) (Nat.le_of_ble_eq_true rfl) ?_
  show ev_W l D cys ty ck_tags ev_TR kc_41 0 [(0, .inr (.inl 67)), (1, .inl x1), (2, .inr (.inr x2))] [] C _
  refine ev_ic eX8_indexOf_0 (by decide) ?_
  refine ev_isw (L' := [(4, .inl 0), (0, .inr (.inl 67)), (1, .inl x1), (2, .inr (.inr x2))]) eX8_indexOf_1 (by decide) rfl ?_
  refine ev_loc (L' := [(0, .inr (.inl 67)), (1, .inl x1), (2, .inr (.inr x2)), (4, .inl 0)]) rfl ?_
  exact m_8_indexOf_67_L3 hU 1000 h
set_option maxRecDepth 100000 in
theorem m_8_nameHere_67 (hU : ev_uq ty ev_TR) {C : ev_C} {x2 : Int} {r : Int} {C' : ev_C} (h : f_8_nameHere_67 C x2 = some (r, C')) : ev_Met l D cys ty ck_tags ev_TR kc_47 [.inr (.inl 8), .inr (.inl 67), .inl x2] C (fun r0 C0 => r0 = some (.inl r) ∧ C0 = C') := by
  unfold f_8_nameHere_67 at h
  refine ev_enter (by decide +kernel) (by decide +kernel) (Nat.le_of_ble_eq_true rfl) ?_
  show ev_W l D cys ty ck_tags ev_TR kc_47 0 [(0, .inr (.inl 8)), (1, .inr (.inl 67)), (2, .inl x2)] [] C _
  refine ev_al eX8_nameHere_0 rfl ?_
  obtain ⟨r1, C1, hq1, h⟩ := ev_bd_some h
  refine ev_callV (kc := kc_0) (A := []) (T := []) (lk_m.1 _ _ 0 [0] (isM (by decide +kernel)) 0 (by decide)) eX8_nameHere_1 (m_8_isAtName hU hq1) rfl rfl rfl (by decide) (by decide) (Nat.le_of_ble_eq_true rfl) ?_
  rintro _ C1 ⟨rfl, rfl⟩
  show ev_W l D cys ty ck_tags ev_TR kc_47 4 [(0, .inr (.inl 8)), (1, .inr (.inl 67)), (2, .inl x2)] [.inl r1] C1 _
  refine ev_z_ne (tgt := 14) eX8_nameHere_4 (by decide) (fun hc2 => ?_) (fun hc2 => ?_)
  · rw [if_pos (show r1 ≠ 0 from hc2)] at h
    refine ev_al eX8_nameHere_14 rfl ?_
    refine ev_il eX8_nameHere_15 rfl ?_
    refine ev_al eX8_nameHere_16 rfl ?_
    refine ev_getL lk_f (ci := 8) (j := 8) (cd := 2) eX8_nameHere_17 (isF (by decide +kernel)) rfl rfl rfl ?_
    obtain ⟨r3, C3, hq3, h⟩ := ev_bd_some h
    refine ev_callS (kc := kc_41) (A := [.inr (.inl 67), .inl x2, .inr (.inr ((C1 8 8)))]) (T := []) (lk_m.1 _ _ 1 [37, 38, 39, 40, 41, 42, 43] (isM (by decide +kernel)) 41 (by decide)) eX8_nameHere_20 (m_8_indexOf_67 hU hq3) rfl rfl (by decide) (by decide) (Nat.le_of_ble_eq_true rfl) ?_
    rintro _ C3 ⟨rfl, rfl⟩
    show ev_W l D cys ty ck_tags ev_TR kc_47 23 [(0, .inr (.inl 8)), (1, .inr (.inl 67)), (2, .inl x2)] [.inl r3] C3 _
    refine ev_is (L' := [(3, .inl r3), (0, .inr (.inl 8)), (1, .inr (.inl 67)), (2, .inl x2)]) eX8_nameHere_23 (by decide) rfl ?_
    refine ev_il eX8_nameHere_24 rfl ?_
    refine ev_ic eX8_nameHere_25 (by decide) ?_
    refine ev_c_ne (tgt := 34) eX8_nameHere_26 (by decide) (fun hc4 => ?_) (fun hc4 => ?_)
    · rw [if_pos (show r3 ≠ -1 from hc4)] at h
      refine ev_il eX8_nameHere_34 rfl ?_
      cases h
      exact ev_iret eX8_nameHere_35 rfl ⟨rfl, rfl⟩
    · rw [if_neg (show ¬ (r3 ≠ -1) from hc4)] at h
      refine ev_al eX8_nameHere_29 rfl ?_
      refine ev_ic eX8_nameHere_30 (by decide) ?_
      obtain ⟨C5, hq5, h⟩ := ev_bv_some h
      refine ev_callV (kc := kc_35) (A := [.inl 3]) (T := []) (lk_m.1 _ _ 0 [35] (isM (by decide +kernel)) 35 (by decide)) eX8_nameHere_31 (m_8_fail hU hq5) rfl rfl rfl (by decide) (by decide) (Nat.le_of_ble_eq_true rfl) ?_
      rintro _ C5 ⟨rfl, rfl⟩
      show ev_W l D cys ty ck_tags ev_TR kc_47 34 [(3, .inl r3), (0, .inr (.inl 8)), (1, .inr (.inl 67)), (2, .inl x2)] [] C5 _
      refine ev_il eX8_nameHere_34 rfl ?_
      cases h
      exact ev_iret eX8_nameHere_35 rfl ⟨rfl, rfl⟩
  · rw [if_neg (show ¬ (r1 ≠ 0) from hc2)] at h
    refine ev_al eX8_nameHere_7 rfl ?_
    refine ev_ic eX8_nameHere_8 (by decide) ?_
    obtain ⟨C6, hq6, h⟩ := ev_bv_some h
    refine ev_callV (kc := kc_35) (A := [.inl 1]) (T := []) (lk_m.1 _ _ 0 [35] (isM (by decide +kernel)) 35 (by decide)) eX8_nameHere_9 (m_8_fail hU hq6) rfl rfl rfl (by decide) (by decide) (Nat.le_of_ble_eq_true rfl) ?_
    rintro _ C6 ⟨rfl, rfl⟩
    show ev_W l D cys ty ck_tags ev_TR kc_47 12 [(0, .inr (.inl 8)), (1, .inr (.inl 67)), (2, .inl x2)] [] C6 _
    refine ev_ic eX8_nameHere_12 (by decide) ?_
    cases h
    exact ev_iret eX8_nameHere_13 rfl ⟨rfl, rfl⟩
set_option maxRecDepth 100000 in
theorem m_8_takeName_67 (hU : ev_uq ty ev_TR) {C : ev_C} {x2 : Int} {r : Int} {C' : ev_C} (h : f_8_takeName_67 C x2 = some (r, C')) : ev_Met l D cys ty ck_tags ev_TR kc_61 [.inr (.inl 8), .inr (.inl 67), .inl x2] C (fun r0 C0 => r0 = some (.inl r) ∧ C0 = C') := by
  unfold f_8_takeName_67 at h
  refine ev_enter (by decide +kernel) (by decide +kernel) (Nat.le_of_ble_eq_true rfl) ?_
  show ev_W l D cys ty ck_tags ev_TR kc_61 0 [(0, .inr (.inl 8)), (1, .inr (.inl 67)), (2, .inl x2)] [] C _
  refine ev_al eX8_takeName_0 rfl ?_
  refine ev_al eX8_takeName_1 rfl ?_
  refine ev_il eX8_takeName_2 rfl ?_
  obtain ⟨r1, C1, hq1, h⟩ := ev_bd_some h
  refine ev_callV (kc := kc_47) (A := [.inr (.inl 67), .inl x2]) (T := []) (lk_m.1 _ _ 0 [44, 45, 46, 47, 48, 49] (isM (by decide +kernel)) 47 (by decide)) eX8_takeName_3 (m_8_nameHere_67 hU hq1) rfl rfl rfl (by decide) (by decide) (Nat.le_of_ble_eq_true rfl) ?_
  rintro _ C1 ⟨rfl, rfl⟩
  show ev_W l D cys ty ck_tags ev_TR kc_61 6 [(0, .inr (.inl 8)), (1, .inr (.inl 67)), (2, .inl x2)] [.inl r1] C1 _
  refine ev_is (L' := [(3, .inl r1), (0, .inr (.inl 8)), (1, .inr (.inl 67)), (2, .inl x2)]) eX8_takeName_6 (by decide) rfl ?_
  refine ev_il eX8_takeName_7 rfl ?_
  refine ev_ic eX8_takeName_8 (by decide) ?_
  refine ev_c_eq (tgt := 16) eX8_takeName_9 (by decide) (fun hc2 => ?_) (fun hc2 => ?_)
  · rw [if_pos (show r1 = -1 from hc2)] at h
    refine ev_il eX8_takeName_16 rfl ?_
    cases h
    exact ev_iret eX8_takeName_17 rfl ⟨rfl, rfl⟩
  · rw [if_neg (show ¬ (r1 = -1) from hc2)] at h
    refine ev_al eX8_takeName_12 rfl ?_
    obtain ⟨C3, hq3, h⟩ := ev_bv_some h
    refine ev_callV (kc := kc_57) (A := []) (T := []) (lk_m.1 _ _ 0 [57] (isM (by decide +kernel)) 57 (by decide)) eX8_takeName_13 (m_8_step hU hq3) rfl rfl rfl (by decide) (by decide) (Nat.le_of_ble_eq_true rfl) ?_
    rintro _ C3 ⟨rfl, rfl⟩
    show ev_W l D cys ty ck_tags ev_TR kc_61 16 [(3, .inl r1), (0, .inr (.inl 8)), (1, .inr (.inl 67)), (2, .inl x2)] [] C3 _
    refine ev_il eX8_takeName_16 rfl ?_
    cases h
    exact ev_iret eX8_takeName_17 rfl ⟨rfl, rfl⟩
theorem eX0_readLine_0 : decode cX0_readLine 0 = .ok (.aload_n 1, 1) := by decide +kernel
theorem eX0_readLine_1 : decode cX0_readLine 1 = .ok (.invokevirtual 58, 3) := by decide +kernel
theorem eX0_readLine_4 : decode cX0_readLine 4 = .ok (.ifCond .eq 8, 3) := by decide +kernel
theorem eX0_readLine_7 : decode cX0_readLine 7 = .ok (.bipush 12, 2) := by decide +kernel
theorem eX0_readLine_9 : decode cX0_readLine 9 = .ok (.goto 7, 3) := by decide +kernel
theorem eX0_readLine_12 : decode cX0_readLine 12 = .ok (.aload_n 1, 1) := by decide +kernel
theorem eX0_readLine_13 : decode cX0_readLine 13 = .ok (.invokevirtual 61, 3) := by decide +kernel
theorem eX0_readLine_16 : decode cX0_readLine 16 = .ok (.istore_n 3, 1) := by decide +kernel
theorem eX0_readLine_17 : decode cX0_readLine 17 = .ok (.aload_n 1, 1) := by decide +kernel
theorem eX0_readLine_18 : decode cX0_readLine 18 = .ok (.iload_n 3, 1) := by decide +kernel
theorem eX0_readLine_19 : decode cX0_readLine 19 = .ok (.invokestatic 65, 3) := by decide +kernel
theorem eX0_readLine_22 : decode cX0_readLine 22 = .ok (.ifCond .ne 9, 3) := by decide +kernel
theorem eX0_readLine_25 : decode cX0_readLine 25 = .ok (.aload_n 1, 1) := by decide +kernel
theorem eX0_readLine_26 : decode cX0_readLine 26 = .ok (.iconst 1, 1) := by decide +kernel
theorem eX0_readLine_27 : decode cX0_readLine 27 = .ok (.invokevirtual 69, 3) := by decide +kernel
theorem eX0_readLine_30 : decode cX0_readLine 30 = .ok (.return_, 1) := by decide +kernel
theorem eX0_readLine_31 : decode cX0_readLine 31 = .ok (.iconst (-1), 1) := by decide +kernel
theorem eX0_readLine_32 : decode cX0_readLine 32 = .ok (.istore 4, 2) := by decide +kernel
theorem eX0_readLine_34 : decode cX0_readLine 34 = .ok (.iload_n 3, 1) := by decide +kernel
theorem eX0_readLine_35 : decode cX0_readLine 35 = .ok (.bipush 12, 2) := by decide +kernel
theorem eX0_readLine_37 : decode cX0_readLine 37 = .ok (.if_icmp .ne 17, 3) := by decide +kernel
theorem eX0_readLine_40 : decode cX0_readLine 40 = .ok (.aload_n 1, 1) := by decide +kernel
theorem eX0_readLine_41 : decode cX0_readLine 41 = .ok (.aload_n 2, 1) := by decide +kernel
theorem eX0_readLine_42 : decode cX0_readLine 42 = .ok (.getfield 72, 3) := by decide +kernel
theorem eX0_readLine_45 : decode cX0_readLine 45 = .ok (.aload_n 2, 1) := by decide +kernel
theorem eX0_readLine_46 : decode cX0_readLine 46 = .ok (.getfield 78, 3) := by decide +kernel
theorem eX0_readLine_49 : decode cX0_readLine 49 = .ok (.invokevirtual 80, 3) := by decide +kernel
theorem eX0_readLine_52 : decode cX0_readLine 52 = .ok (.istore 4, 2) := by decide +kernel
theorem eX0_readLine_54 : decode cX0_readLine 54 = .ok (.aload_n 0, 1) := by decide +kernel
theorem eX0_readLine_55 : decode cX0_readLine 55 = .ok (.getfield 9, 3) := by decide +kernel
theorem eX0_readLine_58 : decode cX0_readLine 58 = .ok (.bipush 40, 2) := by decide +kernel
theorem eX0_readLine_60 : decode cX0_readLine 60 = .ok (.if_icmp .lt 8, 3) := by decide +kernel
theorem eX0_readLine_63 : decode cX0_readLine 63 = .ok (.aload_n 1, 1) := by decide +kernel
theorem eX0_readLine_64 : decode cX0_readLine 64 = .ok (.iconst 4, 1) := by decide +kernel
theorem eX0_readLine_65 : decode cX0_readLine 65 = .ok (.invokevirtual 69, 3) := by decide +kernel
theorem eX0_readLine_68 : decode cX0_readLine 68 = .ok (.aload_n 1, 1) := by decide +kernel
theorem eX0_readLine_69 : decode cX0_readLine 69 = .ok (.invokevirtual 50, 3) := by decide +kernel
theorem eX0_readLine_72 : decode cX0_readLine 72 = .ok (.ifCond .ne 4, 3) := by decide +kernel
theorem eX0_readLine_75 : decode cX0_readLine 75 = .ok (.return_, 1) := by decide +kernel
theorem eX0_readLine_76 : decode cX0_readLine 76 = .ok (.aload_n 1, 1) := by decide +kernel
theorem eX0_readLine_77 : decode cX0_readLine 77 = .ok (.invokevirtual 84, 3) := by decide +kernel
theorem eX0_readLine_80 : decode cX0_readLine 80 = .ok (.aload_n 0, 1) := by decide +kernel
theorem eX0_readLine_81 : decode cX0_readLine 81 = .ok (.getfield 15, 3) := by decide +kernel
theorem eX0_readLine_84 : decode cX0_readLine 84 = .ok (.aload_n 0, 1) := by decide +kernel
theorem eX0_readLine_85 : decode cX0_readLine 85 = .ok (.getfield 9, 3) := by decide +kernel
theorem eX0_readLine_88 : decode cX0_readLine 88 = .ok (.iload_n 3, 1) := by decide +kernel
theorem eX0_readLine_89 : decode cX0_readLine 89 = .ok (.iastore, 1) := by decide +kernel
theorem eX0_readLine_90 : decode cX0_readLine 90 = .ok (.aload_n 0, 1) := by decide +kernel
theorem eX0_readLine_91 : decode cX0_readLine 91 = .ok (.getfield 19, 3) := by decide +kernel
theorem eX0_readLine_94 : decode cX0_readLine 94 = .ok (.aload_n 0, 1) := by decide +kernel
theorem eX0_readLine_95 : decode cX0_readLine 95 = .ok (.getfield 9, 3) := by decide +kernel
theorem eX0_readLine_98 : decode cX0_readLine 98 = .ok (.iload 4, 2) := by decide +kernel
theorem eX0_readLine_100 : decode cX0_readLine 100 = .ok (.iastore, 1) := by decide +kernel
theorem eX0_readLine_101 : decode cX0_readLine 101 = .ok (.iload_n 3, 1) := by decide +kernel
theorem eX0_readLine_102 : decode cX0_readLine 102 = .ok (.bipush 12, 2) := by decide +kernel
theorem eX0_readLine_104 : decode cX0_readLine 104 = .ok (.if_icmp .ne 40, 3) := by decide +kernel
theorem eX0_readLine_107 : decode cX0_readLine 107 = .ok (.aload_n 1, 1) := by decide +kernel
theorem eX0_readLine_108 : decode cX0_readLine 108 = .ok (.bipush 12, 2) := by decide +kernel
theorem eX0_readLine_110 : decode cX0_readLine 110 = .ok (.invokevirtual 87, 3) := by decide +kernel
theorem eX0_readLine_113 : decode cX0_readLine 113 = .ok (.aload_n 1, 1) := by decide +kernel
theorem eX0_readLine_114 : decode cX0_readLine 114 = .ok (.invokevirtual 50, 3) := by decide +kernel
theorem eX0_readLine_117 : decode cX0_readLine 117 = .ok (.ifCond .eq 82, 3) := by decide +kernel
theorem eX0_readLine_120 : decode cX0_readLine 120 = .ok (.aload_n 0, 1) := by decide +kernel
theorem eX0_readLine_121 : decode cX0_readLine 121 = .ok (.getfield 22, 3) := by decide +kernel
theorem eX0_readLine_124 : decode cX0_readLine 124 = .ok (.aload_n 0, 1) := by decide +kernel
theorem eX0_readLine_125 : decode cX0_readLine 125 = .ok (.getfield 9, 3) := by decide +kernel
theorem eX0_readLine_128 : decode cX0_readLine 128 = .ok (.aload_n 1, 1) := by decide +kernel
theorem eX0_readLine_129 : decode cX0_readLine 129 = .ok (.aload_n 2, 1) := by decide +kernel
theorem eX0_readLine_130 : decode cX0_readLine 130 = .ok (.getfield 90, 3) := by decide +kernel
theorem eX0_readLine_133 : decode cX0_readLine 133 = .ok (.aload_n 2, 1) := by decide +kernel
theorem eX0_readLine_134 : decode cX0_readLine 134 = .ok (.getfield 93, 3) := by decide +kernel
theorem eX0_readLine_137 : decode cX0_readLine 137 = .ok (.invokevirtual 96, 3) := by decide +kernel
theorem eX0_readLine_140 : decode cX0_readLine 140 = .ok (.iastore, 1) := by decide +kernel
theorem eX0_readLine_141 : decode cX0_readLine 141 = .ok (.goto 58, 3) := by decide +kernel
theorem eX0_readLine_144 : decode cX0_readLine 144 = .ok (.iload_n 3, 1) := by decide +kernel
theorem eX0_readLine_145 : decode cX0_readLine 145 = .ok (.bipush 13, 2) := by decide +kernel
theorem eX0_readLine_147 : decode cX0_readLine 147 = .ok (.if_icmp .ne 52, 3) := by decide +kernel
theorem eX0_readLine_150 : decode cX0_readLine 150 = .ok (.aload_n 0, 1) := by decide +kernel
theorem eX0_readLine_151 : decode cX0_readLine 151 = .ok (.getfield 19, 3) := by decide +kernel
theorem eX0_readLine_154 : decode cX0_readLine 154 = .ok (.aload_n 0, 1) := by decide +kernel
theorem eX0_readLine_155 : decode cX0_readLine 155 = .ok (.getfield 9, 3) := by decide +kernel
theorem eX0_readLine_158 : decode cX0_readLine 158 = .ok (.aload_n 1, 1) := by decide +kernel
theorem eX0_readLine_159 : decode cX0_readLine 159 = .ok (.aload_n 2, 1) := by decide +kernel
theorem eX0_readLine_160 : decode cX0_readLine 160 = .ok (.getfield 72, 3) := by decide +kernel
theorem eX0_readLine_163 : decode cX0_readLine 163 = .ok (.aload_n 2, 1) := by decide +kernel
theorem eX0_readLine_164 : decode cX0_readLine 164 = .ok (.getfield 78, 3) := by decide +kernel
theorem eX0_readLine_167 : decode cX0_readLine 167 = .ok (.invokevirtual 96, 3) := by decide +kernel
theorem eX0_readLine_170 : decode cX0_readLine 170 = .ok (.iastore, 1) := by decide +kernel
theorem eX0_readLine_171 : decode cX0_readLine 171 = .ok (.aload_n 1, 1) := by decide +kernel
theorem eX0_readLine_172 : decode cX0_readLine 172 = .ok (.invokevirtual 50, 3) := by decide +kernel
theorem eX0_readLine_175 : decode cX0_readLine 175 = .ok (.ifCond .eq 24, 3) := by decide +kernel
theorem eX0_readLine_178 : decode cX0_readLine 178 = .ok (.aload_n 0, 1) := by decide +kernel
theorem eX0_readLine_179 : decode cX0_readLine 179 = .ok (.getfield 22, 3) := by decide +kernel
theorem eX0_readLine_182 : decode cX0_readLine 182 = .ok (.aload_n 0, 1) := by decide +kernel
theorem eX0_readLine_183 : decode cX0_readLine 183 = .ok (.getfield 9, 3) := by decide +kernel
theorem eX0_readLine_186 : decode cX0_readLine 186 = .ok (.aload_n 1, 1) := by decide +kernel
theorem eX0_readLine_187 : decode cX0_readLine 187 = .ok (.aload_n 2, 1) := by decide +kernel
theorem eX0_readLine_188 : decode cX0_readLine 188 = .ok (.getfield 99, 3) := by decide +kernel
theorem eX0_readLine_191 : decode cX0_readLine 191 = .ok (.aload_n 2, 1) := by decide +kernel
theorem eX0_readLine_192 : decode cX0_readLine 192 = .ok (.getfield 102, 3) := by decide +kernel
theorem eX0_readLine_195 : decode cX0_readLine 195 = .ok (.invokevirtual 96, 3) := by decide +kernel
theorem eX0_readLine_198 : decode cX0_readLine 198 = .ok (.iastore, 1) := by decide +kernel
theorem eX0_readLine_199 : decode cX0_readLine 199 = .ok (.return_, 1) := by decide +kernel
set_option maxRecDepth 100000 in
theorem m_0_readLine_8_6_J68 (hU : ev_uq ty ev_TR) {C' : ev_C} {C : ev_C} {y3 y4 : Int} (h : f_0_readLine_8_6_J68 C y3 y4 = some C') : ev_W l D cys ty ck_tags ev_TR kh_0_readLine 68 [(0, .inr (.inl 0)), (1, .inr (.inl 8)), (2, .inr (.inl 6)), (3, .inl y3), (4, .inl y4)] [] C (fun r0 C0 => r0 = none ∧ C0 = C') := by
  unfold f_0_readLine_8_6_J68 at h
  refine ev_al eX0_readLine_68 rfl ?_
  obtain ⟨r8, C8, hq8, h⟩ := ev_bd_some h
  refine ev_callV (kc := kc_36) (A := []) (T := []) (lk_m.1 _ _ 0 [36] (isM (by decide +kernel)) 36 (by decide)) eX0_readLine_69 (m_8_isFine hU hq8) rfl rfl rfl (by decide) (by decide) (Nat.le_of_ble_eq_true rfl) ?_
  rintro _ C8 ⟨rfl, rfl⟩
  show ev_W l D cys ty ck_tags ev_TR kh_0_readLine 72 [(0, .inr (.inl 0)), (1, .inr (.inl 8)), (2, .inr (.inl 6)), (3, .inl y3), (4, .inl y4)] [.inl r8] C8 _
  refine ev_z_ne (tgt := 76) eX0_readLine_72 (by decide) (fun hc9 => ?_) (fun hc9 => ?_)
  · rw [if_pos (show r8 ≠ 0 from hc9)] at h
    refine ev_al eX0_readLine_76 rfl ?_
    obtain ⟨C10, hq10, h⟩ := ev_bv_some h
    refine ev_callV (kc := kc_57) (A := []) (T := []) (lk_m.1 _ _ 0 [57] (isM (by decide +kernel)) 57 (by decide)) eX0_readLine_77 (m_8_step hU hq10) rfl rfl rfl (by decide) (by decide) (Nat.le_of_ble_eq_true rfl) ?_
    rintro _ C10 ⟨rfl, rfl⟩
    show ev_W l D cys ty ck_tags ev_TR kh_0_readLine 80 [(0, .inr (.inl 0)), (1, .inr (.inl 8)), (2, .inr (.inl 6)), (3, .inl y3), (4, .inl y4)] [] C10 _
    refine ev_al eX0_readLine_80 rfl ?_
    refine ev_getR lk_f (ci := 0) (j := 1) (cd := 3) eX0_readLine_81 (isF (by decide +kernel)) rfl rfl ?_
    refine ev_al eX0_readLine_84 rfl ?_
    refine ev_getI lk_f (ci := 0) (j := 0) (cd := 0) eX0_readLine_85 (isF (by decide +kernel)) rfl rfl rfl ?_
    refine ev_il eX0_readLine_88 rfl ?_
    obtain ⟨hb11, h⟩ := ev_gd h
    refine ev_iastU hU eX0_readLine_89 rfl rfl hb11.1 hb11.2 ?_
    refine ev_al eX0_readLine_90 rfl ?_
    refine ev_getR lk_f (ci := 0) (j := 2) (cd := 3) eX0_readLine_91 (isF (by decide +kernel)) rfl rfl ?_
    refine ev_al eX0_readLine_94 rfl ?_
    refine ev_getI lk_f (ci := 0) (j := 0) (cd := 0) eX0_readLine_95 (isF (by decide +kernel)) rfl rfl rfl ?_
    refine ev_ilw eX0_readLine_98 rfl ?_
    obtain ⟨hb12, h⟩ := ev_gd h
    refine ev_iastU hU eX0_readLine_100 rfl rfl hb12.1 hb12.2 ?_
    refine ev_il eX0_readLine_101 rfl ?_
    refine ev_bp eX0_readLine_102 (by decide) (by decide) ?_
    refine ev_c_ne (tgt := 144) eX0_readLine_104 (by decide) (fun hc13 => ?_) (fun hc13 => ?_)
    · rw [if_pos (show y3 ≠ 12 from hc13)] at h
      refine ev_il eX0_readLine_144 rfl ?_
      refine ev_bp eX0_readLine_145 (by decide) (by decide) ?_
      refine ev_c_ne (tgt := 199) eX0_readLine_147 (by decide) (fun hc14 => ?_) (fun hc14 => ?_)
      · rw [if_pos (show y3 ≠ 13 from hc14)] at h
        cases h
        exact ev_vret eX0_readLine_199 rfl ⟨rfl, rfl⟩
      · rw [if_neg (show ¬ (y3 ≠ 13) from hc14)] at h
        refine ev_al eX0_readLine_150 rfl ?_
        refine ev_getR lk_f (ci := 0) (j := 2) (cd := 3) eX0_readLine_151 (isF (by decide +kernel)) rfl rfl ?_
        refine ev_al eX0_readLine_154 rfl ?_
        refine ev_getI lk_f (ci := 0) (j := 0) (cd := 0) eX0_readLine_155 (isF (by decide +kernel)) rfl rfl rfl ?_
        refine ev_al eX0_readLine_158 rfl ?_
        refine ev_al eX0_readLine_159 rfl ?_
        refine ev_getR lk_f (ci := 6) (j := 8) (cd := 3) eX0_readLine_160 (isF (by decide +kernel)) rfl rfl ?_
        refine ev_al eX0_readLine_163 rfl ?_
        refine ev_getI lk_f (ci := 6) (j := 2) (cd := 0) eX0_readLine_164 (isF (by decide +kernel)) rfl rfl rfl ?_
        obtain ⟨r15, C15, hq15, h⟩ := ev_bd_some h
        refine ev_callV (kc := kc_63) (A := [.inr (.inl 69), .inl ((C10 6 2))]) (T := [.inl ((C10 0 0)), .inr (.inl 30)]) (lk_m.1 _ _ 0 [58, 59, 60, 61, 62, 63] (isM (by decide +kernel)) 63 (by decide)) eX0_readLine_167 (m_8_takeName_69 hU hq15) rfl rfl rfl (by decide) (by decide) (Nat.le_of_ble_eq_true rfl) ?_
        rintro _ C15 ⟨rfl, rfl⟩
        show ev_W l D cys ty ck_tags ev_TR kh_0_readLine 170 [(0, .inr (.inl 0)), (1, .inr (.inl 8)), (2, .inr (.inl 6)), (3, .inl y3), (4, .inl y4)] [.inl r15, .inl ((C10 0 0)), .inr (.inl 30)] C15 _
        obtain ⟨hb16, h⟩ := ev_gd h
        refine ev_iastU hU eX0_readLine_170 rfl rfl hb16.1 hb16.2 ?_
        refine ev_al eX0_readLine_171 rfl ?_
        obtain ⟨r17, C17, hq17, h⟩ := ev_bd_some h
        refine ev_callV (kc := kc_36) (A := []) (T := []) (lk_m.1 _ _ 0 [36] (isM (by decide +kernel)) 36 (by decide)) eX0_readLine_172 (m_8_isFine hU hq17) rfl rfl rfl (by decide) (by decide) (Nat.le_of_ble_eq_true rfl) ?_
        rintro _ C17 ⟨rfl, rfl⟩
        show ev_W l D cys ty ck_tags ev_TR kh_0_readLine 175 [(0, .inr (.inl 0)), (1, .inr (.inl 8)), (2, .inr (.inl 6)), (3, .inl y3), (4, .inl y4)] [.inl r17] C17 _
        refine ev_z_eq (tgt := 199) eX0_readLine_175 (by decide) (fun hc18 => ?_) (fun hc18 => ?_)
        · rw [if_pos (show r17 = 0 from hc18)] at h
          cases h
          exact ev_vret eX0_readLine_199 rfl ⟨rfl, rfl⟩
        · rw [if_neg (show ¬ (r17 = 0) from hc18)] at h
          refine ev_al eX0_readLine_178 rfl ?_
          refine ev_getR lk_f (ci := 0) (j := 3) (cd := 3) eX0_readLine_179 (isF (by decide +kernel)) rfl rfl ?_
          refine ev_al eX0_readLine_182 rfl ?_
          refine ev_getI lk_f (ci := 0) (j := 0) (cd := 0) eX0_readLine_183 (isF (by decide +kernel)) rfl rfl rfl ?_
          refine ev_al eX0_readLine_186 rfl ?_
          refine ev_al eX0_readLine_187 rfl ?_
          refine ev_getR lk_f (ci := 6) (j := 7) (cd := 3) eX0_readLine_188 (isF (by decide +kernel)) rfl rfl ?_
          refine ev_al eX0_readLine_191 rfl ?_
          refine ev_getI lk_f (ci := 6) (j := 1) (cd := 0) eX0_readLine_192 (isF (by decide +kernel)) rfl rfl rfl ?_
          obtain ⟨r19, C19, hq19, h⟩ := ev_bd_some h
          refine ev_callV (kc := kc_62) (A := [.inr (.inl 68), .inl ((C17 6 1))]) (T := [.inl ((C17 0 0)), .inr (.inl 31)]) (lk_m.1 _ _ 0 [58, 59, 60, 61, 62, 63] (isM (by decide +kernel)) 62 (by decide)) eX0_readLine_195 (m_8_takeName_68 hU hq19) rfl rfl rfl (by decide) (by decide) (Nat.le_of_ble_eq_true rfl) ?_
          rintro _ C19 ⟨rfl, rfl⟩
          show ev_W l D cys ty ck_tags ev_TR kh_0_readLine 198 [(0, .inr (.inl 0)), (1, .inr (.inl 8)), (2, .inr (.inl 6)), (3, .inl y3), (4, .inl y4)] [.inl r19, .inl ((C17 0 0)), .inr (.inl 31)] C19 _
          obtain ⟨hb20, h⟩ := ev_gd h
          refine ev_iastU hU eX0_readLine_198 rfl rfl hb20.1 hb20.2 ?_
          cases h
          exact ev_vret eX0_readLine_199 rfl ⟨rfl, rfl⟩
    · rw [if_neg (show ¬ (y3 ≠ 12) from hc13)] at h
      refine ev_al eX0_readLine_107 rfl ?_
      refine ev_bp eX0_readLine_108 (by decide) (by decide) ?_
      obtain ⟨C21, hq21, h⟩ := ev_bv_some h
      refine ev_callV (kc := kc_65) (A := [.inl 12]) (T := []) (lk_m.1 _ _ 0 [65] (isM (by decide +kernel)) 65 (by decide)) eX0_readLine_110 (m_8_takeWord hU hq21) rfl rfl rfl (by decide) (by decide) (Nat.le_of_ble_eq_true rfl) ?_
      rintro _ C21 ⟨rfl, rfl⟩
      show ev_W l D cys ty ck_tags ev_TR kh_0_readLine 113 [(0, .inr (.inl 0)), (1, .inr (.inl 8)), (2, .inr (.inl 6)), (3, .inl y3), (4, .inl y4)] [] C21 _
      refine ev_al eX0_readLine_113 rfl ?_
      obtain ⟨r22, C22, hq22, h⟩ := ev_bd_some h
      refine ev_callV (kc := kc_36) (A := []) (T := []) (lk_m.1 _ _ 0 [36] (isM (by decide +kernel)) 36 (by decide)) eX0_readLine_114 (m_8_isFine hU hq22) rfl rfl rfl (by decide) (by decide) (Nat.le_of_ble_eq_true rfl) ?_
      rintro _ C22 ⟨rfl, rfl⟩
      show ev_W l D cys ty ck_tags ev_TR kh_0_readLine 117 [(0, .inr (.inl 0)), (1, .inr (.inl 8)), (2, .inr (.inl 6)), (3, .inl y3), (4, .inl y4)] [.inl r22] C22 _
      refine ev_z_eq (tgt := 199) eX0_readLine_117 (by decide) (fun hc23 => ?_) (fun hc23 => ?_)
      · rw [if_pos (show r22 = 0 from hc23)] at h
        cases h
        exact ev_vret eX0_readLine_199 rfl ⟨rfl, rfl⟩
      · rw [if_neg (show ¬ (r22 = 0) from hc23)] at h
        refine ev_al eX0_readLine_120 rfl ?_
        refine ev_getR lk_f (ci := 0) (j := 3) (cd := 3) eX0_readLine_121 (isF (by decide +kernel)) rfl rfl ?_
        refine ev_al eX0_readLine_124 rfl ?_
        refine ev_getI lk_f (ci := 0) (j := 0) (cd := 0) eX0_readLine_125 (isF (by decide +kernel)) rfl rfl rfl ?_
        refine ev_al eX0_readLine_128 rfl ?_
        refine ev_al eX0_readLine_129 rfl ?_
        refine ev_getR lk_f (ci := 6) (j := 6) (cd := 3) eX0_readLine_130 (isF (by decide +kernel)) rfl rfl ?_
        refine ev_al eX0_readLine_133 rfl ?_
        refine ev_getI lk_f (ci := 6) (j := 0) (cd := 0) eX0_readLine_134 (isF (by decide +kernel)) rfl rfl rfl ?_
        obtain ⟨r24, C24, hq24, h⟩ := ev_bd_some h
        refine ev_callV (kc := kc_61) (A := [.inr (.inl 67), .inl ((C22 6 0))]) (T := [.inl ((C22 0 0)), .inr (.inl 31)]) (lk_m.1 _ _ 0 [58, 59, 60, 61, 62, 63] (isM (by decide +kernel)) 61 (by decide)) eX0_readLine_137 (m_8_takeName_67 hU hq24) rfl rfl rfl (by decide) (by decide) (Nat.le_of_ble_eq_true rfl) ?_
        rintro _ C24 ⟨rfl, rfl⟩
        show ev_W l D cys ty ck_tags ev_TR kh_0_readLine 140 [(0, .inr (.inl 0)), (1, .inr (.inl 8)), (2, .inr (.inl 6)), (3, .inl y3), (4, .inl y4)] [.inl r24, .inl ((C22 0 0)), .inr (.inl 31)] C24 _
        obtain ⟨hb25, h⟩ := ev_gd h
        refine ev_iastU hU eX0_readLine_140 rfl rfl hb25.1 hb25.2 ?_
        refine ev_goto (tgt := 199) eX0_readLine_141 (by decide) ?_
        cases h
        exact ev_vret eX0_readLine_199 rfl ⟨rfl, rfl⟩
  · rw [if_neg (show ¬ (r8 ≠ 0) from hc9)] at h
    cases h
    exact ev_vret eX0_readLine_75 rfl ⟨rfl, rfl⟩
set_option maxRecDepth 100000 in
theorem m_0_readLine_8_6_J54 (hU : ev_uq ty ev_TR) {C' : ev_C} {C : ev_C} {y3 y4 : Int} (h : f_0_readLine_8_6_J54 C y3 y4 = some C') : ev_W l D cys ty ck_tags ev_TR kh_0_readLine 54 [(0, .inr (.inl 0)), (1, .inr (.inl 8)), (2, .inr (.inl 6)), (3, .inl y3), (4, .inl y4)] [] C (fun r0 C0 => r0 = none ∧ C0 = C') := by
  unfold f_0_readLine_8_6_J54 at h
  refine ev_al eX0_readLine_54 rfl ?_
  refine ev_getI lk_f (ci := 0) (j := 0) (cd := 0) eX0_readLine_55 (isF (by decide +kernel)) rfl rfl rfl ?_
  refine ev_bp eX0_readLine_58 (by decide) (by decide) ?_
  refine ev_c_lt (tgt := 68) eX0_readLine_60 (by decide) (fun hc7 => ?_) (fun hc7 => ?_)
  · rw [if_pos (show (C 0 0) < 40 from hc7)] at h
    refine ev_loc (L' := [(0, .inr (.inl 0)), (1, .inr (.inl 8)), (2, .inr (.inl 6)), (3, .inl y3), (4, .inl y4)]) rfl ?_
    exact m_0_readLine_8_6_J68 hU h
  · rw [if_neg (show ¬ ((C 0 0) < 40) from hc7)] at h
    refine ev_al eX0_readLine_63 rfl ?_
    refine ev_ic eX0_readLine_64 (by decide) ?_
    obtain ⟨C26, hq26, h⟩ := ev_bv_some h
    refine ev_callV (kc := kc_35) (A := [.inl 4]) (T := []) (lk_m.1 _ _ 0 [35] (isM (by decide +kernel)) 35 (by decide)) eX0_readLine_65 (m_8_fail hU hq26) rfl rfl rfl (by decide) (by decide) (Nat.le_of_ble_eq_true rfl) ?_
    rintro _ C26 ⟨rfl, rfl⟩
    show ev_W l D cys ty ck_tags ev_TR kh_0_readLine 68 [(0, .inr (.inl 0)), (1, .inr (.inl 8)), (2, .inr (.inl 6)), (3, .inl y3), (4, .inl y4)] [] C26 _
    refine ev_loc (L' := [(0, .inr (.inl 0)), (1, .inr (.inl 8)), (2, .inr (.inl 6)), (3, .inl y3), (4, .inl y4)]) rfl ?_
    exact m_0_readLine_8_6_J68 hU h
set_option maxRecDepth 100000 in
theorem m_0_readLine_8_6_J16 (hU : ev_uq ty ev_TR) {C' : ev_C} {C : ev_C} {w0 : Int} (h : f_0_readLine_8_6_J16 C w0 = some C') : ev_W l D cys ty ck_tags ev_TR kh_0_readLine 16 [(0, .inr (.inl 0)), (1, .inr (.inl 8)), (2, .inr (.inl 6))] [.inl w0] C (fun r0 C0 => r0 = none ∧ C0 = C') := by
  unfold f_0_readLine_8_6_J16 at h
  refine ev_is (L' := [(3, .inl w0), (0, .inr (.inl 0)), (1, .inr (.inl 8)), (2, .inr (.inl 6))]) eX0_readLine_16 (by decide) rfl ?_
  refine ev_al eX0_readLine_17 rfl ?_
  refine ev_il eX0_readLine_18 rfl ?_
  obtain ⟨r4, C4, hq4, h⟩ := ev_bd_some h
  refine ev_callS (kc := kc_1) (A := [.inr (.inl 8), .inl w0]) (T := []) (lk_m.1 _ _ 1 [1] (isM (by decide +kernel)) 1 (by decide)) eX0_readLine_19 (m_0_canBegin_8 hU hq4) rfl rfl (by decide) (by decide) (Nat.le_of_ble_eq_true rfl) ?_
  rintro _ C4 ⟨rfl, rfl⟩
  show ev_W l D cys ty ck_tags ev_TR kh_0_readLine 22 [(3, .inl w0), (0, .inr (.inl 0)), (1, .inr (.inl 8)), (2, .inr (.inl 6))] [.inl r4] C4 _
  refine ev_z_ne (tgt := 31) eX0_readLine_22 (by decide) (fun hc5 => ?_) (fun hc5 => ?_)
  · rw [if_pos (show r4 ≠ 0 from hc5)] at h
    refine ev_ic eX0_readLine_31 (by decide) ?_
    refine ev_isw (L' := [(4, .inl (-1)), (3, .inl w0), (0, .inr (.inl 0)), (1, .inr (.inl 8)), (2, .inr (.inl 6))]) eX0_readLine_32 (by decide) rfl ?_
    refine ev_il eX0_readLine_34 rfl ?_
    refine ev_bp eX0_readLine_35 (by decide) (by decide) ?_
    refine ev_c_ne (tgt := 54) eX0_readLine_37 (by decide) (fun hc6 => ?_) (fun hc6 => ?_)
    · rw [if_pos (show w0 ≠ 12 from hc6)] at h
      refine ev_loc (L' := [(0, .inr (.inl 0)), (1, .inr (.inl 8)), (2, .inr (.inl 6)), (3, .inl w0), (4, .inl (-1))]) rfl ?_
      exact m_0_readLine_8_6_J54 hU h
    · rw [if_neg (show ¬ (w0 ≠ 12) from hc6)] at h
      refine ev_al eX0_readLine_40 rfl ?_
      refine ev_al eX0_readLine_41 rfl ?_
      refine ev_getR lk_f (ci := 6) (j := 8) (cd := 3) eX0_readLine_42 (isF (by decide +kernel)) rfl rfl ?_
      refine ev_al eX0_readLine_45 rfl ?_
      refine ev_getI lk_f (ci := 6) (j := 2) (cd := 0) eX0_readLine_46 (isF (by decide +kernel)) rfl rfl rfl ?_
      obtain ⟨r27, C27, hq27, h⟩ := ev_bd_some h
      refine ev_callV (kc := kc_49) (A := [.inr (.inl 69), .inl ((C4 6 2))]) (T := []) (lk_m.1 _ _ 0 [44, 45, 46, 47, 48, 49] (isM (by decide +kernel)) 49 (by decide)) eX0_readLine_49 (m_8_nameHere_69 hU hq27) rfl rfl rfl (by decide) (by decide) (Nat.le_of_ble_eq_true rfl) ?_
      rintro _ C27 ⟨rfl, rfl⟩
      show ev_W l D cys ty ck_tags ev_TR kh_0_readLine 52 [(4, .inl (-1)), (3, .inl w0), (0, .inr (.inl 0)), (1, .inr (.inl 8)), (2, .inr (.inl 6))] [.inl r27] C27 _
      refine ev_isw (L' := [(4, .inl r27), (3, .inl w0), (0, .inr (.inl 0)), (1, .inr (.inl 8)), (2, .inr (.inl 6))]) eX0_readLine_52 (by decide) rfl ?_
      refine ev_loc (L' := [(0, .inr (.inl 0)), (1, .inr (.inl 8)), (2, .inr (.inl 6)), (3, .inl w0), (4, .inl r27)]) rfl ?_
      exact m_0_readLine_8_6_J54 hU h
  · rw [if_neg (show ¬ (r4 ≠ 0) from hc5)] at h
    refine ev_al eX0_readLine_25 rfl ?_
    refine ev_ic eX0_readLine_26 (by decide) ?_
    obtain ⟨C28, hq28, h⟩ := ev_bv_some h
    refine ev_callV (kc := kc_35) (A := [.inl 1]) (T := []) (lk_m.1 _ _ 0 [35] (isM (by decide +kernel)) 35 (by decide)) eX0_readLine_27 (m_8_fail hU hq28) rfl rfl rfl (by decide) (by decide) (Nat.le_of_ble_eq_true rfl) ?_
    rintro _ C28 ⟨rfl, rfl⟩
    show ev_W l D cys ty ck_tags ev_TR kh_0_readLine 30 [(3, .inl w0), (0, .inr (.inl 0)), (1, .inr (.inl 8)), (2, .inr (.inl 6))] [] C28 _
    cases h
    exact ev_vret eX0_readLine_30 rfl ⟨rfl, rfl⟩
set_option maxRecDepth 100000 in
theorem m_0_readLine_8_6 (hU : ev_uq ty ev_TR) {C : ev_C} {C' : ev_C} (h : f_0_readLine_8_6 C = some C') : ev_Met l D cys ty ck_tags ev_TR kh_0_readLine [.inr (.inl 0), .inr (.inl 8), .inr (.inl 6)] C (fun r0 C0 => r0 = none ∧ C0 = C') := by
  unfold f_0_readLine_8_6 at h
  refine ev_enter (by decide +kernel) (by decide +kernel) (Nat.le_of_ble_eq_true rfl) ?_
  show ev_W l D cys ty ck_tags ev_TR kh_0_readLine 0 [(0, .inr (.inl 0)), (1, .inr (.inl 8)), (2, .inr (.inl 6))] [] C _
  refine ev_al eX0_readLine_0 rfl ?_
  obtain ⟨r1, C1, hq1, h⟩ := ev_bd_some h
  refine ev_callV (kc := kc_0) (A := []) (T := []) (lk_m.1 _ _ 0 [0] (isM (by decide +kernel)) 0 (by decide)) eX0_readLine_1 (m_8_isAtName hU hq1) rfl rfl rfl (by decide) (by decide) (Nat.le_of_ble_eq_true rfl) ?_
  rintro _ C1 ⟨rfl, rfl⟩
  show ev_W l D cys ty ck_tags ev_TR kh_0_readLine 4 [(0, .inr (.inl 0)), (1, .inr (.inl 8)), (2, .inr (.inl 6))] [.inl r1] C1 _
  refine ev_z_eq (tgt := 12) eX0_readLine_4 (by decide) (fun hc2 => ?_) (fun hc2 => ?_)
  · rw [if_pos (show r1 = 0 from hc2)] at h
    refine ev_al eX0_readLine_12 rfl ?_
    obtain ⟨r3, C3, hq3, h⟩ := ev_bd_some h
    refine ev_callV (kc := kc_66) (A := []) (T := []) (lk_m.1 _ _ 0 [66] (isM (by decide +kernel)) 66 (by decide)) eX0_readLine_13 (m_8_wordHere hU hq3) rfl rfl rfl (by decide) (by decide) (Nat.le_of_ble_eq_true rfl) ?_
    rintro _ C3 ⟨rfl, rfl⟩
    show ev_W l D cys ty ck_tags ev_TR kh_0_readLine 16 [(0, .inr (.inl 0)), (1, .inr (.inl 8)), (2, .inr (.inl 6))] [.inl r3] C3 _
    refine ev_loc (L' := [(0, .inr (.inl 0)), (1, .inr (.inl 8)), (2, .inr (.inl 6))]) rfl ?_
    exact m_0_readLine_8_6_J16 hU h
  · rw [if_neg (show ¬ (r1 = 0) from hc2)] at h
    refine ev_bp eX0_readLine_7 (by decide) (by decide) ?_
    refine ev_goto (tgt := 16) eX0_readLine_9 (by decide) ?_
    refine ev_loc (L' := [(0, .inr (.inl 0)), (1, .inr (.inl 8)), (2, .inr (.inl 6))]) rfl ?_
    exact m_0_readLine_8_6_J16 hU h
theorem eX0_read_0 : decode cX0_read 0 = .ok (.aload_n 0, 1) := by decide +kernel
theorem eX0_read_1 : decode cX0_read 1 = .ok (.iconst 0, 1) := by decide +kernel
theorem eX0_read_2 : decode cX0_read 2 = .ok (.putfield 9, 3) := by decide +kernel
theorem eX0_read_5 : decode cX0_read 5 = .ok (.iconst 0, 1) := by decide +kernel
theorem eX0_read_6 : decode cX0_read 6 = .ok (.istore_n 3, 1) := by decide +kernel
theorem eX0_read_7 : decode cX0_read 7 = .ok (.iload_n 3, 1) := by decide +kernel
theorem eX0_read_8 : decode cX0_read 8 = .ok (.sipush 400, 3) := by decide +kernel
theorem eX0_read_11 : decode cX0_read 11 = .ok (.if_icmp .gt 53, 3) := by decide +kernel
theorem eX0_read_14 : decode cX0_read 14 = .ok (.aload_n 1, 1) := by decide +kernel
theorem eX0_read_15 : decode cX0_read 15 = .ok (.getfield 41, 3) := by decide +kernel
theorem eX0_read_18 : decode cX0_read 18 = .ok (.ifCond .eq 46, 3) := by decide +kernel
theorem eX0_read_21 : decode cX0_read 21 = .ok (.aload_n 0, 1) := by decide +kernel
theorem eX0_read_22 : decode cX0_read 22 = .ok (.aload_n 1, 1) := by decide +kernel
theorem eX0_read_23 : decode cX0_read 23 = .ok (.aload_n 2, 1) := by decide +kernel
theorem eX0_read_24 : decode cX0_read 24 = .ok (.invokevirtual 46, 3) := by decide +kernel
theorem eX0_read_27 : decode cX0_read 27 = .ok (.aload_n 1, 1) := by decide +kernel
theorem eX0_read_28 : decode cX0_read 28 = .ok (.invokevirtual 50, 3) := by decide +kernel
theorem eX0_read_31 : decode cX0_read 31 = .ok (.ifCond .eq 9, 3) := by decide +kernel
theorem eX0_read_34 : decode cX0_read 34 = .ok (.aload_n 1, 1) := by decide +kernel
theorem eX0_read_35 : decode cX0_read 35 = .ok (.bipush 59, 2) := by decide +kernel
theorem eX0_read_37 : decode cX0_read 37 = .ok (.invokevirtual 54, 3) := by decide +kernel
theorem eX0_read_40 : decode cX0_read 40 = .ok (.aload_n 1, 1) := by decide +kernel
theorem eX0_read_41 : decode cX0_read 41 = .ok (.invokevirtual 50, 3) := by decide +kernel
theorem eX0_read_44 : decode cX0_read 44 = .ok (.ifCond .ne 4, 3) := by decide +kernel
theorem eX0_read_47 : decode cX0_read 47 = .ok (.return_, 1) := by decide +kernel
theorem eX0_read_48 : decode cX0_read 48 = .ok (.aload_n 0, 1) := by decide +kernel
theorem eX0_read_49 : decode cX0_read 49 = .ok (.dup, 1) := by decide +kernel
theorem eX0_read_50 : decode cX0_read 50 = .ok (.getfield 9, 3) := by decide +kernel
theorem eX0_read_53 : decode cX0_read 53 = .ok (.iconst 1, 1) := by decide +kernel
theorem eX0_read_54 : decode cX0_read 54 = .ok (.iadd, 1) := by decide +kernel
theorem eX0_read_55 : decode cX0_read 55 = .ok (.putfield 9, 3) := by decide +kernel
theorem eX0_read_58 : decode cX0_read 58 = .ok (.iinc 3 1, 3) := by decide +kernel
theorem eX0_read_61 : decode cX0_read 61 = .ok (.goto (-54), 3) := by decide +kernel
theorem eX0_read_64 : decode cX0_read 64 = .ok (.return_, 1) := by decide +kernel
set_option maxRecDepth 100000 in
theorem m_0_read_8_6_J40 (hU : ev_uq ty ev_TR) {C' : ev_C} {K7 : ev_C → Int → Option ev_C} (hK7 : ∀ {C : ev_C} {y3 : Int}, K7 C y3 = some C' → ev_W l D cys ty ck_tags ev_TR kc_332 7 [(0, .inr (.inl 0)), (1, .inr (.inl 8)), (2, .inr (.inl 6)), (3, .inl y3)] [] C (fun r0 C0 => r0 = none ∧ C0 = C')) {C : ev_C} {y3 : Int} (h : f_0_read_8_6_J40 K7 C y3 = some C') : ev_W l D cys ty ck_tags ev_TR kc_332 40 [(0, .inr (.inl 0)), (1, .inr (.inl 8)), (2, .inr (.inl 6)), (3, .inl y3)] [] C (fun r0 C0 => r0 = none ∧ C0 = C') := by
  unfold f_0_read_8_6_J40 at h
  refine ev_al eX0_read_40 rfl ?_
  obtain ⟨r6, C6, hq6, h⟩ := ev_bd_some h
  refine ev_callV (kc := kc_36) (A := []) (T := []) (lk_m.1 _ _ 0 [36] (isM (by decide +kernel)) 36 (by decide)) eX0_read_41 (m_8_isFine hU hq6) rfl rfl rfl (by decide) (by decide) (Nat.le_of_ble_eq_true rfl) ?_
  rintro _ C6 ⟨rfl, rfl⟩
  show ev_W l D cys ty ck_tags ev_TR kc_332 44 [(0, .inr (.inl 0)), (1, .inr (.inl 8)), (2, .inr (.inl 6)), (3, .inl y3)] [.inl r6] C6 _
  refine ev_z_ne (tgt := 48) eX0_read_44 (by decide) (fun hc7 => ?_) (fun hc7 => ?_)
  · rw [if_pos (show r6 ≠ 0 from hc7)] at h
    refine ev_al eX0_read_48 rfl ?_
    refine ev_dup eX0_read_49 rfl ?_
    refine ev_getI lk_f (ci := 0) (j := 0) (cd := 0) eX0_read_50 (isF (by decide +kernel)) rfl rfl rfl ?_
    refine ev_ic eX0_read_53 (by decide) ?_
    refine ev_add eX0_read_54 ?_
    refine ev_putI lk_f hU (ci := 0) (j := 0) (cd := 0) eX0_read_55 (isF (by decide +kernel)) rfl rfl (Or.inl rfl) rfl ?_
    refine ev_inc (L' := [(3, .inl (ev_w (y3 + 1))), (0, .inr (.inl 0)), (1, .inr (.inl 8)), (2, .inr (.inl 6))]) eX0_read_58 (by decide) (by decide) rfl rfl ?_
    refine ev_goto (tgt := 7) eX0_read_61 (by decide) ?_
    refine ev_loc (L' := [(0, .inr (.inl 0)), (1, .inr (.inl 8)), (2, .inr (.inl 6)), (3, .inl (ev_w (y3 + 1)))]) rfl ?_
    exact hK7 h
  · rw [if_neg (show ¬ (r6 ≠ 0) from hc7)] at h
    cases h
    exact ev_vret eX0_read_47 rfl ⟨rfl, rfl⟩
set_option maxRecDepth 100000 in
theorem m_0_read_8_6_L7 (hU : ev_uq ty ev_TR) : ∀ (n : Nat) {C : ev_C} {y3 : Int} {C' : ev_C}, f_0_read_8_6_L7 n C y3 = some C' → ev_W l D cys ty ck_tags ev_TR kc_332 7 [(0, .inr (.inl 0)), (1, .inr (.inl 8)), (2, .inr (.inl 6)), (3, .inl y3)] [] C (fun r0 C0 => r0 = none ∧ C0 = C')
  | 0, _, _, _, h => by cases h
  | n + 1, C, y3, _, h => by
    unfold f_0_read_8_6_L7 at h
    refine ev_il eX0_read_7 rfl ?_
    refine ev_sp eX0_read_8 (by decide) (by decide) ?_
    refine ev_c_gt (tgt := 64) eX0_read_11 (by decide) (fun hc1 => ?_) (fun hc1 => ?_)
    · rw [if_pos (show 400 < y3 from hc1)] at h
      cases h
      exact ev_vret eX0_read_64 rfl ⟨rfl, rfl⟩
    · rw [if_neg (show ¬ (400 < y3) from hc1)] at h
      refine ev_al eX0_read_14 rfl ?_
      refine ev_getI lk_f (ci := 8) (j := 4) (cd := 0) eX0_read_15 (isF (by decide +kernel)) rfl rfl rfl ?_
      refine ev_z_eq (tgt := 64) eX0_read_18 (by decide) (fun hc2 => ?_) (fun hc2 => ?_)
      · rw [if_pos (show (C 8 4) = 0 from hc2)] at h
        cases h
        exact ev_vret eX0_read_64 rfl ⟨rfl, rfl⟩
      · rw [if_neg (show ¬ ((C 8 4) = 0) from hc2)] at h
        refine ev_al eX0_read_21 rfl ?_
        refine ev_al eX0_read_22 rfl ?_
        refine ev_al eX0_read_23 rfl ?_
        obtain ⟨C3, hq3, h⟩ := ev_bv_some h
        refine ev_callV (kc := kh_0_readLine) (A := [.inr (.inl 8), .inr (.inl 6)]) (T := []) (lk_h (0, 46, 0, kh_0_readLine) (List.mem_of_getElem? (i := 0) rfl)) eX0_read_24 (m_0_readLine_8_6 hU hq3) rfl rfl rfl (by decide) (by decide) (Nat.le_of_ble_eq_true rfl) ?_
        rintro _ C3 ⟨rfl, rfl⟩
        show ev_W l D cys ty ck_tags ev_TR kc_332 27 [(0, .inr (.inl 0)), (1, .inr (.inl 8)), (2, .inr (.inl 6)), (3, .inl y3)] [] C3 _
        refine ev_al eX0_read_27 rfl ?_
        obtain ⟨r4, C4, hq4, h⟩ := ev_bd_some h
        refine ev_callV (kc := kc_36) (A := []) (T := []) (lk_m.1 _ _ 0 [36] (isM (by decide +kernel)) 36 (by decide)) eX0_read_28 (m_8_isFine hU hq4) rfl rfl rfl (by decide) (by decide) (Nat.le_of_ble_eq_true rfl) ?_
        rintro _ C4 ⟨rfl, rfl⟩
        show ev_W l D cys ty ck_tags ev_TR kc_332 31 [(0, .inr (.inl 0)), (1, .inr (.inl 8)), (2, .inr (.inl 6)), (3, .inl y3)] [.inl r4] C4 _
        refine ev_z_eq (tgt := 40) eX0_read_31 (by decide) (fun hc5 => ?_) (fun hc5 => ?_)
        · rw [if_pos (show r4 = 0 from hc5)] at h
          refine ev_loc (L' := [(0, .inr (.inl 0)), (1, .inr (.inl 8)), (2, .inr (.inl 6)), (3, .inl y3)]) rfl ?_
          exact m_0_read_8_6_J40 hU (fun h => m_0_read_8_6_L7 hU n h) h
        · rw [if_neg (show ¬ (r4 = 0) from hc5)] at h
          refine ev_al eX0_read_34 rfl ?_
          refine ev_bp eX0_read_35 (by decide) (by decide) ?_
          obtain ⟨C8, hq8, h⟩ := ev_bv_some h
          refine ev_callV (kc := kc_68) (A := [.inl 59]) (T := []) (lk_m.1 _ _ 0 [68] (isM (by decide +kernel)) 68 (by decide)) eX0_read_37 (m_8_takeSign hU hq8) rfl rfl rfl (by decide) (by decide) (Nat.le_of_ble_eq_true rfl) ?_
          rintro _ C8 ⟨rfl, rfl⟩
          show ev_W l D cys ty ck_tags ev_TR kc_332 40 [(0, .inr (.inl 0)), (1, .inr (.inl 8)), (2, .inr (.inl 6)), (3, .inl y3)] [] C8 _
          refine ev_loc (L' := [(0, .inr (.inl 0)), (1, .inr (.inl 8)), (2, .inr (.inl 6)), (3, .inl y3)]) rfl ?_
          exact m_0_read_8_6_J40 hU (fun h => m_0_read_8_6_L7 hU n h) h
set_option maxRecDepth 100000 in
theorem m_0_read_8_6 (hU : ev_uq ty ev_TR) {C : ev_C} {C' : ev_C} (h : f_0_read_8_6 C = some C') : ev_Met l D cys ty ck_tags ev_TR kc_332 [.inr (.inl 0), .inr (.inl 8), .inr (.inl 6)] C (fun r0 C0 => r0 = none ∧ C0 = C') := by
  unfold f_0_read_8_6 at h
  refine ev_enter (by decide +kernel) (by decide +kernel) (Nat.le_of_ble_eq_true rfl) ?_
  show ev_W l D cys ty ck_tags ev_TR kc_332 0 [(0, .inr (.inl 0)), (1, .inr (.inl 8)), (2, .inr (.inl 6))] [] C _
  refine ev_al eX0_read_0 rfl ?_
  refine ev_ic eX0_read_1 (by decide) ?_
  refine ev_putI lk_f hU (ci := 0) (j := 0) (cd := 0) eX0_read_2 (isF (by decide +kernel)) rfl rfl (Or.inl rfl) rfl ?_
  refine ev_ic eX0_read_5 (by decide) ?_
  refine ev_is (L' := [(3, .inl 0), (0, .inr (.inl 0)), (1, .inr (.inl 8)), (2, .inr (.inl 6))]) eX0_read_6 (by decide) rfl ?_
  refine ev_loc (L' := [(0, .inr (.inl 0)), (1, .inr (.inl 8)), (2, .inr (.inl 6)), (3, .inl 0)]) rfl ?_
  exact m_0_read_8_6_L7 hU 1000 h
end GX
