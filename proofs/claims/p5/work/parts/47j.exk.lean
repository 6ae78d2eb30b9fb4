/-! THE EXACT LOGIC: the class's sentence(), 1 (printed by a program of ours). -/
section GX
variable {l : Launch} {D : va_G} {cys : Nat → ClassId} {ty : Nat → Option Nat}
set_option maxRecDepth 100000 in
theorem m_9_clear_14 (hU : ev_uq ty ev_TR) {C : ev_C} {C' : ev_C} (h : f_9_clear_14 C = some C') : ev_Met l D cys ty ck_tags ev_TR kc_123 [.inr (.inl 14)] C (fun r0 C0 => r0 = none ∧ C0 = C') := by
  unfold f_9_clear_14 at h
  refine ev_enter (by decide +kernel) (by decide +kernel) (Nat.le_of_ble_eq_true rfl) ?_
  show ev_W l D cys ty ck_tags ev_TR kc_123 0 [(0, .inr (.inl 14))] [] C _
  refine ev_al eX9_clear_0 rfl ?_
  refine ev_ic eX9_clear_1 (by decide) ?_
  refine ev_putI lk_f hU (ci := 9) (j := 0) (cd := 0) eX9_clear_2 (isF (by decide +kernel)) rfl rfl (Or.inl rfl) rfl ?_
  refine ev_al eX9_clear_5 rfl ?_
  refine ev_ic eX9_clear_6 (by decide) ?_
  refine ev_putI lk_f hU (ci := 9) (j := 1) (cd := 0) eX9_clear_7 (isF (by decide +kernel)) rfl rfl (Or.inl rfl) rfl ?_
  cases h
  exact ev_vret eX9_clear_10 rfl ⟨rfl, rfl⟩
theorem eX9_addStep_0 : decode cX9_addStep 0 = .ok (.aload_n 0, 1) := by decide +kernel
theorem eX9_addStep_1 : decode cX9_addStep 1 = .ok (.getfield 15, 3) := by decide +kernel
theorem eX9_addStep_4 : decode cX9_addStep 4 = .ok (.bipush 40, 2) := by decide +kernel
theorem eX9_addStep_6 : decode cX9_addStep 6 = .ok (.if_icmp .ge 43, 3) := by decide +kernel
theorem eX9_addStep_9 : decode cX9_addStep 9 = .ok (.aload_n 0, 1) := by decide +kernel
theorem eX9_addStep_10 : decode cX9_addStep 10 = .ok (.getfield 18, 3) := by decide +kernel
theorem eX9_addStep_13 : decode cX9_addStep 13 = .ok (.aload_n 0, 1) := by decide +kernel
theorem eX9_addStep_14 : decode cX9_addStep 14 = .ok (.getfield 15, 3) := by decide +kernel
theorem eX9_addStep_17 : decode cX9_addStep 17 = .ok (.iload_n 1, 1) := by decide +kernel
theorem eX9_addStep_18 : decode cX9_addStep 18 = .ok (.iastore, 1) := by decide +kernel
theorem eX9_addStep_19 : decode cX9_addStep 19 = .ok (.aload_n 0, 1) := by decide +kernel
theorem eX9_addStep_20 : decode cX9_addStep 20 = .ok (.getfield 22, 3) := by decide +kernel
theorem eX9_addStep_23 : decode cX9_addStep 23 = .ok (.aload_n 0, 1) := by decide +kernel
theorem eX9_addStep_24 : decode cX9_addStep 24 = .ok (.getfield 15, 3) := by decide +kernel
theorem eX9_addStep_27 : decode cX9_addStep 27 = .ok (.iload_n 2, 1) := by decide +kernel
theorem eX9_addStep_28 : decode cX9_addStep 28 = .ok (.iastore, 1) := by decide +kernel
theorem eX9_addStep_29 : decode cX9_addStep 29 = .ok (.aload_n 0, 1) := by decide +kernel
theorem eX9_addStep_30 : decode cX9_addStep 30 = .ok (.getfield 25, 3) := by decide +kernel
theorem eX9_addStep_33 : decode cX9_addStep 33 = .ok (.aload_n 0, 1) := by decide +kernel
theorem eX9_addStep_34 : decode cX9_addStep 34 = .ok (.getfield 15, 3) := by decide +kernel
theorem eX9_addStep_37 : decode cX9_addStep 37 = .ok (.iload_n 3, 1) := by decide +kernel
theorem eX9_addStep_38 : decode cX9_addStep 38 = .ok (.iastore, 1) := by decide +kernel
theorem eX9_addStep_39 : decode cX9_addStep 39 = .ok (.aload_n 0, 1) := by decide +kernel
theorem eX9_addStep_40 : decode cX9_addStep 40 = .ok (.dup, 1) := by decide +kernel
theorem eX9_addStep_41 : decode cX9_addStep 41 = .ok (.getfield 15, 3) := by decide +kernel
theorem eX9_addStep_44 : decode cX9_addStep 44 = .ok (.iconst 1, 1) := by decide +kernel
theorem eX9_addStep_45 : decode cX9_addStep 45 = .ok (.iadd, 1) := by decide +kernel
theorem eX9_addStep_46 : decode cX9_addStep 46 = .ok (.putfield 15, 3) := by decide +kernel
theorem eX9_addStep_49 : decode cX9_addStep 49 = .ok (.return_, 1) := by decide +kernel
set_option maxRecDepth 100000 in
theorem m_9_addStep_14 (hU : ev_uq ty ev_TR) {C : ev_C} {x1 x2 x3 : Int} {C' : ev_C} (h : f_9_addStep_14 C x1 x2 x3 = some C') : ev_Met l D cys ty ck_tags ev_TR kc_121 [.inr (.inl 14), .inl x1, .inl x2, .inl x3] C (fun r0 C0 => r0 = none ∧ C0 = C') := by
  unfold f_9_addStep_14 at h
  refine ev_enter (by decide +kernel) (by decide +kernel) (Nat.le_of_ble_eq_true rfl) ?_
  show ev_W l D cys ty ck_tags ev_TR kc_121 0 [(0, .inr (.inl 14)), (1, .inl x1), (2, .inl x2), (3, .inl x3)] [] C _
  refine ev_al eX9_addStep_0 rfl ?_
  refine ev_getI lk_f (ci := 9) (j := 1) (cd := 0) eX9_addStep_1 (isF (by decide +kernel)) rfl rfl rfl ?_
  refine ev_bp eX9_addStep_4 (by decide) (by decide) ?_
  refine ev_c_ge (tgt := 49) eX9_addStep_6 (by decide) (fun hc1 => ?_) (fun hc1 => ?_)
  · rw [if_pos (show 40 ≤ (C 14 1) from hc1)] at h
    cases h
    exact ev_vret eX9_addStep_49 rfl ⟨rfl, rfl⟩
  · rw [if_neg (show ¬ (40 ≤ (C 14 1)) from hc1)] at h
    refine ev_al eX9_addStep_9 rfl ?_
    refine ev_getR lk_f (ci := 9) (j := 2) (cd := 3) eX9_addStep_10 (isF (by decide +kernel)) rfl rfl ?_
    refine ev_al eX9_addStep_13 rfl ?_
    refine ev_getI lk_f (ci := 9) (j := 1) (cd := 0) eX9_addStep_14 (isF (by decide +kernel)) rfl rfl rfl ?_
    refine ev_il eX9_addStep_17 rfl ?_
    obtain ⟨hb2, h⟩ := ev_gd h
    refine ev_iastU hU eX9_addStep_18 rfl rfl hb2.1 hb2.2 ?_
    refine ev_al eX9_addStep_19 rfl ?_
    refine ev_getR lk_f (ci := 9) (j := 3) (cd := 3) eX9_addStep_20 (isF (by decide +kernel)) rfl rfl ?_
    refine ev_al eX9_addStep_23 rfl ?_
    refine ev_getI lk_f (ci := 9) (j := 1) (cd := 0) eX9_addStep_24 (isF (by decide +kernel)) rfl rfl rfl ?_
    refine ev_il eX9_addStep_27 rfl ?_
    obtain ⟨hb3, h⟩ := ev_gd h
    refine ev_iastU hU eX9_addStep_28 rfl rfl hb3.1 hb3.2 ?_
    refine ev_al eX9_addStep_29 rfl ?_
    refine ev_getR lk_f (ci := 9) (j := 4) (cd := 3) eX9_addStep_30 (isF (by decide +kernel)) rfl rfl ?_
    refine ev_al eX9_addStep_33 rfl ?_
    refine ev_getI lk_f (ci := 9) (j := 1) (cd := 0) eX9_addStep_34 (isF (by decide +kernel)) rfl rfl rfl ?_
    refine ev_il eX9_addStep_37 rfl ?_
    obtain ⟨hb4, h⟩ := ev_gd h
    refine ev_iastU hU eX9_addStep_38 rfl rfl hb4.1 hb4.2 ?_
    refine ev_al eX9_addStep_39 rfl ?_
    refine ev_dup eX9_addStep_40 rfl ?_
    refine ev_getI lk_f (ci := 9) (j := 1) (cd := 0) eX9_addStep_41 (isF (by decide +kernel)) rfl rfl rfl ?_
    refine ev_ic eX9_addStep_44 (by decide) ?_
    refine ev_add eX9_addStep_45 ?_
    refine ev_putI lk_f hU (ci := 9) (j := 1) (cd := 0) eX9_addStep_46 (isF (by decide +kernel)) rfl rfl (Or.inl rfl) rfl ?_
    cases h
    exact ev_vret eX9_addStep_49 rfl ⟨rfl, rfl⟩
set_option maxRecDepth 100000 in
theorem m_8_indexOf_68_L3 (hU : ev_uq ty ev_TR) : ∀ (n : Nat) {C : ev_C} {y1 y2 y4 : Int} {r : Int} {C' : ev_C}, f_8_indexOf_68_L3 n C y1 y2 y4 = some (r, C') → ev_W l D cys ty ck_tags ev_TR kc_42 3 [(0, .inr (.inl 68)), (1, .inl y1), (2, .inr (.inr y2)), (4, .inl y4)] [] C (fun r0 C0 => r0 = some (.inl r) ∧ C0 = C')
  | 0, _, _, _, _, _, _, h => by cases h
  | n + 1, C, y1, y2, y4, _, _, h => by
    unfold f_8_indexOf_68_L3 at h
    refine ev_ilw eX8_indexOf_3 rfl ?_
    refine ev_il eX8_indexOf_5 rfl ?_
    refine ev_c_ge (tgt := 34) eX8_indexOf_6 (by decide) (fun hc1 => ?_) (fun hc1 => ?_)
    · rw [if_pos (show y1 ≤ y4 from hc1)] at h
      refine ev_ic eX8_indexOf_34 (by decide) ?_
      cases h
      exact ev_iret eX8_indexOf_35 rfl ⟨rfl, rfl⟩
    · rw [if_neg (show ¬ (y1 ≤ y4) from hc1)] at h
      refine ev_ilw eX8_indexOf_9 rfl ?_
      refine ev_al eX8_indexOf_11 rfl ?_
      refine ev_alen (v := 6) eX8_indexOf_12 rfl (by decide) rfl ?_
      refine ev_c_ge (tgt := 34) eX8_indexOf_13 (by decide) (fun hc2 => ?_) (fun hc2 => ?_)
      · rw [if_pos (show 6 ≤ y4 from hc2)] at h
        refine ev_ic eX8_indexOf_34 (by decide) ?_
        cases h
        exact ev_iret eX8_indexOf_35 rfl ⟨rfl, rfl⟩
      · rw [if_neg (show ¬ (6 ≤ y4) from hc2)] at h
        refine ev_al eX8_indexOf_16 rfl ?_
        refine ev_ilw eX8_indexOf_17 rfl ?_
        obtain ⟨hb3, h⟩ := ev_gd h
        refine ev_lald eX8_indexOf_19 rfl rfl hb3.1 hb3.2 ?_
        refine ev_ll eX8_indexOf_20 rfl ?_
        refine ev_lcmp eX8_indexOf_21 ?_
        refine ev_z_ne (tgt := 28) eX8_indexOf_22 (by decide) (fun hc4 => ?_) (fun hc4 => ?_)
        · rw [if_pos (show ev_cmp ((C 68 (Int.toNat y4))) y2 ≠ 0 from hc4)] at h
          refine ev_inc (L' := [(4, .inl (ev_w (y4 + 1))), (0, .inr (.inl 68)), (1, .inl y1), (2, .inr (.inr y2))]) eX8_indexOf_28 (by decide) (by decide) rfl rfl ?_
          refine ev_goto (tgt := 3) eX8_indexOf_31 (by decide) ?_
          refine ev_loc (L' := [(0, .inr (.inl 68)), (1, .inl y1), (2, .inr (.inr y2)), (4, .inl (ev_w (y4 + 1)))]) rfl ?_
          exact m_8_indexOf_68_L3 hU n h
        · rw [if_neg (show ¬ (ev_cmp ((C 68 (Int.toNat y4))) y2 ≠ 0) from hc4)] at h
          refine ev_ilw eX8_indexOf_25 rfl ?_
          cases h
          exact ev_iret eX8_indexOf_27 rfl ⟨rfl, rfl⟩
set_option maxRecDepth 100000 in
theorem m_8_indexOf_68 (hU : ev_uq ty ev_TR) {C : ev_C} {x1 x2 : Int} {r : Int} {C' : ev_C} (h : f_8_indexOf_68 C x1 x2 = some (r, C')) : ev_Met l D cys ty ck_tags ev_TR kc_42 [.inr (.inl 68), .inl x1, .inr (.inr x2)] C (fun r0 C0 => r0 = some (.inl r) ∧ C0 = C') := by
  unfold f_8_indexOf_68 at h
  refine ev_enter (by decide +kernel) (by decide +kernel) (Nat.le_of_ble_eq_true rfl) ?_
  show ev_W l D cys ty ck_tags ev_TR kc_42 0 [(0, .inr (.inl 68)), (1, .inl x1), (2, .inr (.inr x2))] [] C _
  refine ev_ic eX8_indexOf_0 (by decide) ?_
  refine ev_isw (L' := [(4, .inl 0), (0, .inr (.inl 68)), (1, .inl x1), (2, .inr (.inr x2))]) eX8_indexOf_1 (by decide) rfl ?_
  refine ev_loc (L' := [(0, .inr (.inl 68)), (1, .inl x1), (2, .inr (.inr x2)), (4, .inl 0)]) rfl ?_
  exact m_8_indexOf_68_L3 hU 1000 h
set_option maxRecDepth 100000 in
theorem m_8_nameHere_68 (hU : ev_uq ty ev_TR) {C : ev_C} {x2 : Int} {r : Int} {C' : ev_C} (h : f_8_nameHere_68 C x2 = some (r, C')) : ev_Met l D cys ty ck_tags ev_TR kc_48 [.inr (.inl 8), .inr (.inl 68), .inl x2] C (fun r0 C0 => r0 = some (.inl r) ∧ C0 = C') := by
  unfold f_8_nameHere_68 at h
  refine ev_enter (by decide +kernel) (by decide +kernel) (Nat.le_of_ble_eq_true rfl) ?_
  show ev_W l D cys ty ck_tags ev_TR kc_48 0 [(0, .inr (.inl 8)), (1, .inr (.inl 68)), (2, .inl x2)] [] C _
  refine ev_al eX8_nameHere_0 rfl ?_
  obtain ⟨r1, C1, hq1, h⟩ := ev_bd_some h
  refine ev_callV (kc := kc_0) (A := []) (T := []) (lk_m.1 _ _ 0 [0] (isM (by decide +kernel)) 0 (by decide)) eX8_nameHere_1 (m_8_isAtName hU hq1) rfl rfl rfl (by decide) (by decide) (Nat.le_of_ble_eq_true rfl) ?_
  rintro _ C1 ⟨rfl, rfl⟩
  show ev_W l D cys ty ck_tags ev_TR kc_48 4 [(0, .inr (.inl 8)), (1, .inr (.inl 68)), (2, .inl x2)] [.inl r1] C1 _
  refine ev_z_ne (tgt := 14) eX8_nameHere_4 (by decide) (fun hc2 => ?_) (fun hc2 => ?_)
  · rw [if_pos (show r1 ≠ 0 from hc2)] at h
    refine ev_al eX8_nameHere_14 rfl ?_
    refine ev_il eX8_nameHere_15 rfl ?_
    refine ev_al eX8_nameHere_16 rfl ?_
    refine ev_getL lk_f (ci := 8) (j := 8) (cd := 2) eX8_nameHere_17 (isF (by decide +kernel)) rfl rfl rfl ?_
    obtain ⟨r3, C3, hq3, h⟩ := ev_bd_some h
    refine ev_callS (kc := kc_42) (A := [.inr (.inl 68), .inl x2, .inr (.inr ((C1 8 8)))]) (T := []) (lk_m.1 _ _ 1 [37, 38, 39, 40, 41, 42, 43] (isM (by decide +kernel)) 42 (by decide)) eX8_nameHere_20 (m_8_indexOf_68 hU hq3) rfl rfl (by decide) (by decide) (Nat.le_of_ble_eq_true rfl) ?_
    rintro _ C3 ⟨rfl, rfl⟩
    show ev_W l D cys ty ck_tags ev_TR kc_48 23 [(0, .inr (.inl 8)), (1, .inr (.inl 68)), (2, .inl x2)] [.inl r3] C3 _
    refine ev_is (L' := [(3, .inl r3), (0, .inr (.inl 8)), (1, .inr (.inl 68)), (2, .inl x2)]) eX8_nameHere_23 (by decide) rfl ?_
    refine ev_il eX8_nameHere_24 rfl ?_
    refine ev_ic eX8_nameHere_25 (by decide) ?_
    refine ev_c_ne (tgt := 34) eX8_nameHere_26 (by decide) (fun hc4 => ?_) (fun hc4 => ?_)
    · rw [if_pos (show r3 ≠ -1 from hc4)] at h
      refine ev_il eX8_nameHere_34 rfl ?_
      cases h
      exact ev_iret eX8_nameHere_35 rfl ⟨rfl, rfl⟩
    · rw [if_neg (show ¬ (r3 ≠ -1) from hc4)] at h
      refine ev_al eX8_nameHere_29 rfl ?_
      refine ev_ic eX8_nameHere_30 (by decide) ?_
      obtain ⟨C5, hq5, h⟩ := ev_bv_some h
      refine ev_callV (kc := kc_35) (A := [.inl 3]) (T := []) (lk_m.1 _ _ 0 [35] (isM (by decide +kernel)) 35 (by decide)) eX8_nameHere_31 (m_8_fail hU hq5) rfl rfl rfl (by decide) (by decide) (Nat.le_of_ble_eq_true rfl) ?_
      rintro _ C5 ⟨rfl, rfl⟩
      show ev_W l D cys ty ck_tags ev_TR kc_48 34 [(3, .inl r3), (0, .inr (.inl 8)), (1, .inr (.inl 68)), (2, .inl x2)] [] C5 _
      refine ev_il eX8_nameHere_34 rfl ?_
      cases h
      exact ev_iret eX8_nameHere_35 rfl ⟨rfl, rfl⟩
  · rw [if_neg (show ¬ (r1 ≠ 0) from hc2)] at h
    refine ev_al eX8_nameHere_7 rfl ?_
    refine ev_ic eX8_nameHere_8 (by decide) ?_
    obtain ⟨C6, hq6, h⟩ := ev_bv_some h
    refine ev_callV (kc := kc_35) (A := [.inl 1]) (T := []) (lk_m.1 _ _ 0 [35] (isM (by decide +kernel)) 35 (by decide)) eX8_nameHere_9 (m_8_fail hU hq6) rfl rfl rfl (by decide) (by decide) (Nat.le_of_ble_eq_true rfl) ?_
    rintro _ C6 ⟨rfl, rfl⟩
    show ev_W l D cys ty ck_tags ev_TR kc_48 12 [(0, .inr (.inl 8)), (1, .inr (.inl 68)), (2, .inl x2)] [] C6 _
    refine ev_ic eX8_nameHere_12 (by decide) ?_
    cases h
    exact ev_iret eX8_nameHere_13 rfl ⟨rfl, rfl⟩
set_option maxRecDepth 100000 in
theorem m_8_takeName_68 (hU : ev_uq ty ev_TR) {C : ev_C} {x2 : Int} {r : Int} {C' : ev_C} (h : f_8_takeName_68 C x2 = some (r, C')) : ev_Met l D cys ty ck_tags ev_TR kc_62 [.inr (.inl 8), .inr (.inl 68), .inl x2] C (fun r0 C0 => r0 = some (.inl r) ∧ C0 = C') := by
  unfold f_8_takeName_68 at h
  refine ev_enter (by decide +kernel) (by decide +kernel) (Nat.le_of_ble_eq_true rfl) ?_
  show ev_W l D cys ty ck_tags ev_TR kc_62 0 [(0, .inr (.inl 8)), (1, .inr (.inl 68)), (2, .inl x2)] [] C _
  refine ev_al eX8_takeName_0 rfl ?_
  refine ev_al eX8_takeName_1 rfl ?_
  refine ev_il eX8_takeName_2 rfl ?_
  obtain ⟨r1, C1, hq1, h⟩ := ev_bd_some h
  refine ev_callV (kc := kc_48) (A := [.inr (.inl 68), .inl x2]) (T := []) (lk_m.1 _ _ 0 [44, 45, 46, 47, 48, 49] (isM (by decide +kernel)) 48 (by decide)) eX8_takeName_3 (m_8_nameHere_68 hU hq1) rfl rfl rfl (by decide) (by decide) (Nat.le_of_ble_eq_true rfl) ?_
  rintro _ C1 ⟨rfl, rfl⟩
  show ev_W l D cys ty ck_tags ev_TR kc_62 6 [(0, .inr (.inl 8)), (1, .inr (.inl 68)), (2, .inl x2)] [.inl r1] C1 _
  refine ev_is (L' := [(3, .inl r1), (0, .inr (.inl 8)), (1, .inr (.inl 68)), (2, .inl x2)]) eX8_takeName_6 (by decide) rfl ?_
  refine ev_il eX8_takeName_7 rfl ?_
  refine ev_ic eX8_takeName_8 (by decide) ?_
  refine ev_c_eq (tgt := 16) eX8_takeName_9 (by decide) (fun hc2 => ?_) (fun hc2 => ?_)
  · rw [if_pos (show r1 = -1 from hc2)] at h
    refine ev_il eX8_takeName_16 rfl ?_
    cases h
    exact ev_iret eX8_takeName_17 rfl ⟨rfl, rfl⟩
  · rw [if_neg (show ¬ (r1 = -1) from hc2)] at h
    refine ev_al eX8_takeName_12 rfl ?_
    obtain ⟨C3, hq3, h⟩ := ev_bv_some h
    refine ev_callV (kc := kc_57) (A := []) (T := []) (lk_m.1 _ _ 0 [57] (isM (by decide +kernel)) 57 (by decide)) eX8_takeName_13 (m_8_step hU hq3) rfl rfl rfl (by decide) (by decide) (Nat.le_of_ble_eq_true rfl) ?_
    rintro _ C3 ⟨rfl, rfl⟩
    show ev_W l D cys ty ck_tags ev_TR kc_62 16 [(3, .inl r1), (0, .inr (.inl 8)), (1, .inr (.inl 68)), (2, .inl x2)] [] C3 _
    refine ev_il eX8_takeName_16 rfl ?_
    cases h
    exact ev_iret eX8_takeName_17 rfl ⟨rfl, rfl⟩
theorem eX9_readPlainOne_0 : decode cX9_readPlainOne 0 = .ok (.iload_n 3, 1) := by decide +kernel
theorem eX9_readPlainOne_1 : decode cX9_readPlainOne 1 = .ok (.bipush 19, 2) := by decide +kernel
theorem eX9_readPlainOne_3 : decode cX9_readPlainOne 3 = .ok (.if_icmp .eq 15, 3) := by decide +kernel
theorem eX9_readPlainOne_6 : decode cX9_readPlainOne 6 = .ok (.iload_n 3, 1) := by decide +kernel
theorem eX9_readPlainOne_7 : decode cX9_readPlainOne 7 = .ok (.bipush 20, 2) := by decide +kernel
theorem eX9_readPlainOne_9 : decode cX9_readPlainOne 9 = .ok (.if_icmp .eq 9, 3) := by decide +kernel
theorem eX9_readPlainOne_12 : decode cX9_readPlainOne 12 = .ok (.iload_n 3, 1) := by decide +kernel
theorem eX9_readPlainOne_13 : decode cX9_readPlainOne 13 = .ok (.bipush 22, 2) := by decide +kernel
theorem eX9_readPlainOne_15 : decode cX9_readPlainOne 15 = .ok (.if_icmp .ne 13, 3) := by decide +kernel
theorem eX9_readPlainOne_18 : decode cX9_readPlainOne 18 = .ok (.aload_n 0, 1) := by decide +kernel
theorem eX9_readPlainOne_19 : decode cX9_readPlainOne 19 = .ok (.iload_n 3, 1) := by decide +kernel
theorem eX9_readPlainOne_20 : decode cX9_readPlainOne 20 = .ok (.iconst 0, 1) := by decide +kernel
theorem eX9_readPlainOne_21 : decode cX9_readPlainOne 21 = .ok (.iconst 0, 1) := by decide +kernel
theorem eX9_readPlainOne_22 : decode cX9_readPlainOne 22 = .ok (.invokevirtual 67, 3) := by decide +kernel
theorem eX9_readPlainOne_25 : decode cX9_readPlainOne 25 = .ok (.goto 87, 3) := by decide +kernel
theorem eX9_readPlainOne_28 : decode cX9_readPlainOne 28 = .ok (.iload_n 3, 1) := by decide +kernel
theorem eX9_readPlainOne_29 : decode cX9_readPlainOne 29 = .ok (.bipush 21, 2) := by decide +kernel
theorem eX9_readPlainOne_31 : decode cX9_readPlainOne 31 = .ok (.if_icmp .ne 24, 3) := by decide +kernel
theorem eX9_readPlainOne_34 : decode cX9_readPlainOne 34 = .ok (.aload_n 0, 1) := by decide +kernel
theorem eX9_readPlainOne_35 : decode cX9_readPlainOne 35 = .ok (.iload_n 3, 1) := by decide +kernel
theorem eX9_readPlainOne_36 : decode cX9_readPlainOne 36 = .ok (.iconst 0, 1) := by decide +kernel
theorem eX9_readPlainOne_37 : decode cX9_readPlainOne 37 = .ok (.aload_n 1, 1) := by decide +kernel
theorem eX9_readPlainOne_38 : decode cX9_readPlainOne 38 = .ok (.aload_n 2, 1) := by decide +kernel
theorem eX9_readPlainOne_39 : decode cX9_readPlainOne 39 = .ok (.getfield 87, 3) := by decide +kernel
theorem eX9_readPlainOne_42 : decode cX9_readPlainOne 42 = .ok (.aload_n 2, 1) := by decide +kernel
theorem eX9_readPlainOne_43 : decode cX9_readPlainOne 43 = .ok (.getfield 93, 3) := by decide +kernel
theorem eX9_readPlainOne_46 : decode cX9_readPlainOne 46 = .ok (.invokevirtual 96, 3) := by decide +kernel
theorem eX9_readPlainOne_49 : decode cX9_readPlainOne 49 = .ok (.invokevirtual 67, 3) := by decide +kernel
theorem eX9_readPlainOne_52 : decode cX9_readPlainOne 52 = .ok (.goto 60, 3) := by decide +kernel
theorem eX9_readPlainOne_55 : decode cX9_readPlainOne 55 = .ok (.aload_n 1, 1) := by decide +kernel
theorem eX9_readPlainOne_56 : decode cX9_readPlainOne 56 = .ok (.getfield 100, 3) := by decide +kernel
theorem eX9_readPlainOne_59 : decode cX9_readPlainOne 59 = .ok (.istore 4, 2) := by decide +kernel
theorem eX9_readPlainOne_61 : decode cX9_readPlainOne 61 = .ok (.aload_n 1, 1) := by decide +kernel
theorem eX9_readPlainOne_62 : decode cX9_readPlainOne 62 = .ok (.bipush 60, 2) := by decide +kernel
theorem eX9_readPlainOne_64 : decode cX9_readPlainOne 64 = .ok (.invokevirtual 78, 3) := by decide +kernel
theorem eX9_readPlainOne_67 : decode cX9_readPlainOne 67 = .ok (.ifCond .ne 27, 3) := by decide +kernel
theorem eX9_readPlainOne_70 : decode cX9_readPlainOne 70 = .ok (.aload_n 1, 1) := by decide +kernel
theorem eX9_readPlainOne_71 : decode cX9_readPlainOne 71 = .ok (.bipush 61, 2) := by decide +kernel
theorem eX9_readPlainOne_73 : decode cX9_readPlainOne 73 = .ok (.invokevirtual 78, 3) := by decide +kernel
theorem eX9_readPlainOne_76 : decode cX9_readPlainOne 76 = .ok (.ifCond .ne 18, 3) := by decide +kernel
theorem eX9_readPlainOne_79 : decode cX9_readPlainOne 79 = .ok (.aload_n 1, 1) := by decide +kernel
theorem eX9_readPlainOne_80 : decode cX9_readPlainOne 80 = .ok (.bipush 62, 2) := by decide +kernel
theorem eX9_readPlainOne_82 : decode cX9_readPlainOne 82 = .ok (.invokevirtual 78, 3) := by decide +kernel
theorem eX9_readPlainOne_85 : decode cX9_readPlainOne 85 = .ok (.ifCond .ne 9, 3) := by decide +kernel
theorem eX9_readPlainOne_88 : decode cX9_readPlainOne 88 = .ok (.aload_n 1, 1) := by decide +kernel
theorem eX9_readPlainOne_89 : decode cX9_readPlainOne 89 = .ok (.iconst 1, 1) := by decide +kernel
theorem eX9_readPlainOne_90 : decode cX9_readPlainOne 90 = .ok (.invokevirtual 53, 3) := by decide +kernel
theorem eX9_readPlainOne_93 : decode cX9_readPlainOne 93 = .ok (.return_, 1) := by decide +kernel
theorem eX9_readPlainOne_94 : decode cX9_readPlainOne 94 = .ok (.aload_n 1, 1) := by decide +kernel
theorem eX9_readPlainOne_95 : decode cX9_readPlainOne 95 = .ok (.invokevirtual 64, 3) := by decide +kernel
theorem eX9_readPlainOne_98 : decode cX9_readPlainOne 98 = .ok (.aload_n 0, 1) := by decide +kernel
theorem eX9_readPlainOne_99 : decode cX9_readPlainOne 99 = .ok (.iload_n 3, 1) := by decide +kernel
theorem eX9_readPlainOne_100 : decode cX9_readPlainOne 100 = .ok (.iload 4, 2) := by decide +kernel
theorem eX9_readPlainOne_102 : decode cX9_readPlainOne 102 = .ok (.aload_n 1, 1) := by decide +kernel
theorem eX9_readPlainOne_103 : decode cX9_readPlainOne 103 = .ok (.iconst 0, 1) := by decide +kernel
theorem eX9_readPlainOne_104 : decode cX9_readPlainOne 104 = .ok (.bipush 99, 2) := by decide +kernel
theorem eX9_readPlainOne_106 : decode cX9_readPlainOne 106 = .ok (.invokevirtual 103, 3) := by decide +kernel
theorem eX9_readPlainOne_109 : decode cX9_readPlainOne 109 = .ok (.invokevirtual 67, 3) := by decide +kernel
theorem eX9_readPlainOne_112 : decode cX9_readPlainOne 112 = .ok (.return_, 1) := by decide +kernel
set_option maxRecDepth 100000 in
theorem m_9_readPlainOne_14_8_6_J94 (hU : ev_uq ty ev_TR) {C' : ev_C} {C : ev_C} {y3 y4 : Int} (h : f_9_readPlainOne_14_8_6_J94 C y3 y4 = some C') : ev_W l D cys ty ck_tags ev_TR kc_133 94 [(0, .inr (.inl 14)), (1, .inr (.inl 8)), (2, .inr (.inl 6)), (3, .inl y3), (4, .inl y4)] [] C (fun r0 C0 => r0 = none ∧ C0 = C') := by
  unfold f_9_readPlainOne_14_8_6_J94 at h
  refine ev_al eX9_readPlainOne_94 rfl ?_
  obtain ⟨C9, hq9, h⟩ := ev_bv_some h
  refine ev_callV (kc := kc_57) (A := []) (T := []) (lk_m.1 _ _ 0 [57] (isM (by decide +kernel)) 57 (by decide)) eX9_readPlainOne_95 (m_8_step hU hq9) rfl rfl rfl (by decide) (by decide) (Nat.le_of_ble_eq_true rfl) ?_
  rintro _ C9 ⟨rfl, rfl⟩
  show ev_W l D cys ty ck_tags ev_TR kc_133 98 [(0, .inr (.inl 14)), (1, .inr (.inl 8)), (2, .inr (.inl 6)), (3, .inl y3), (4, .inl y4)] [] C9 _
  refine ev_al eX9_readPlainOne_98 rfl ?_
  refine ev_il eX9_readPlainOne_99 rfl ?_
  refine ev_ilw eX9_readPlainOne_100 rfl ?_
  refine ev_al eX9_readPlainOne_102 rfl ?_
  refine ev_ic eX9_readPlainOne_103 (by decide) ?_
  refine ev_bp eX9_readPlainOne_104 (by decide) (by decide) ?_
  obtain ⟨r10, C10, hq10, h⟩ := ev_bd_some h
  refine ev_callV (kc := kc_110) (A := [.inl 0, .inl 99]) (T := [.inl y4, .inl y3, .inr (.inl 14)]) (lk_m.1 _ _ 0 [110] (isM (by decide +kernel)) 110 (by decide)) eX9_readPlainOne_106 (m_8_takeNumber hU hq10) rfl rfl rfl (by decide) (by decide) (Nat.le_of_ble_eq_true rfl) ?_
  rintro _ C10 ⟨rfl, rfl⟩
  show ev_W l D cys ty ck_tags ev_TR kc_133 109 [(0, .inr (.inl 14)), (1, .inr (.inl 8)), (2, .inr (.inl 6)), (3, .inl y3), (4, .inl y4)] [.inl r10, .inl y4, .inl y3, .inr (.inl 14)] C10 _
  obtain ⟨C11, hq11, h⟩ := ev_bv_some h
  refine ev_callV (kc := kc_121) (A := [.inl y3, .inl y4, .inl r10]) (T := []) (lk_m.1 _ _ 0 [121] (isM (by decide +kernel)) 121 (by decide)) eX9_readPlainOne_109 (m_9_addStep_14 hU hq11) rfl rfl rfl (by decide) (by decide) (Nat.le_of_ble_eq_true rfl) ?_
  rintro _ C11 ⟨rfl, rfl⟩
  show ev_W l D cys ty ck_tags ev_TR kc_133 112 [(0, .inr (.inl 14)), (1, .inr (.inl 8)), (2, .inr (.inl 6)), (3, .inl y3), (4, .inl y4)] [] C11 _
  cases h
  exact ev_vret eX9_readPlainOne_112 rfl ⟨rfl, rfl⟩
set_option maxRecDepth 100000 in
theorem m_9_readPlainOne_14_8_6 (hU : ev_uq ty ev_TR) {C : ev_C} {x3 : Int} {C' : ev_C} (h : f_9_readPlainOne_14_8_6 C x3 = some C') : ev_Met l D cys ty ck_tags ev_TR kc_133 [.inr (.inl 14), .inr (.inl 8), .inr (.inl 6), .inl x3] C (fun r0 C0 => r0 = none ∧ C0 = C') := by
  unfold f_9_readPlainOne_14_8_6 at h
  refine ev_enter (by decide +kernel) (by decide +kernel) (Nat.le_of_ble_eq_true rfl) ?_
  show ev_W l D cys ty ck_tags ev_TR kc_133 0 [(0, .inr (.inl 14)), (1, .inr (.inl 8)), (2, .inr (.inl 6)), (3, .inl x3)] [] C _
  refine ev_il eX9_readPlainOne_0 rfl ?_
  refine ev_bp eX9_readPlainOne_1 (by decide) (by decide) ?_
  refine ev_c_eq (tgt := 18) eX9_readPlainOne_3 (by decide) (fun hc1 => ?_) (fun hc1 => ?_)
  · rw [if_pos (show x3 = 19 from hc1)] at h
    refine ev_al eX9_readPlainOne_18 rfl ?_
    refine ev_il eX9_readPlainOne_19 rfl ?_
    refine ev_ic eX9_readPlainOne_20 (by decide) ?_
    refine ev_ic eX9_readPlainOne_21 (by decide) ?_
    obtain ⟨C2, hq2, h⟩ := ev_bv_some h
    refine ev_callV (kc := kc_121) (A := [.inl x3, .inl 0, .inl 0]) (T := []) (lk_m.1 _ _ 0 [121] (isM (by decide +kernel)) 121 (by decide)) eX9_readPlainOne_22 (m_9_addStep_14 hU hq2) rfl rfl rfl (by decide) (by decide) (Nat.le_of_ble_eq_true rfl) ?_
    rintro _ C2 ⟨rfl, rfl⟩
    show ev_W l D cys ty ck_tags ev_TR kc_133 25 [(0, .inr (.inl 14)), (1, .inr (.inl 8)), (2, .inr (.inl 6)), (3, .inl x3)] [] C2 _
    refine ev_goto (tgt := 112) eX9_readPlainOne_25 (by decide) ?_
    cases h
    exact ev_vret eX9_readPlainOne_112 rfl ⟨rfl, rfl⟩
  · rw [if_neg (show ¬ (x3 = 19) from hc1)] at h
    refine ev_il eX9_readPlainOne_6 rfl ?_
    refine ev_bp eX9_readPlainOne_7 (by decide) (by decide) ?_
    refine ev_c_eq (tgt := 18) eX9_readPlainOne_9 (by decide) (fun hc3 => ?_) (fun hc3 => ?_)
    · rw [if_pos (show x3 = 20 from hc3)] at h
      refine ev_al eX9_readPlainOne_18 rfl ?_
      refine ev_il eX9_readPlainOne_19 rfl ?_
      refine ev_ic eX9_readPlainOne_20 (by decide) ?_
      refine ev_ic eX9_readPlainOne_21 (by decide) ?_
      obtain ⟨C4, hq4, h⟩ := ev_bv_some h
      refine ev_callV (kc := kc_121) (A := [.inl x3, .inl 0, .inl 0]) (T := []) (lk_m.1 _ _ 0 [121] (isM (by decide +kernel)) 121 (by decide)) eX9_readPlainOne_22 (m_9_addStep_14 hU hq4) rfl rfl rfl (by decide) (by decide) (Nat.le_of_ble_eq_true rfl) ?_
      rintro _ C4 ⟨rfl, rfl⟩
      show ev_W l D cys ty ck_tags ev_TR kc_133 25 [(0, .inr (.inl 14)), (1, .inr (.inl 8)), (2, .inr (.inl 6)), (3, .inl x3)] [] C4 _
      refine ev_goto (tgt := 112) eX9_readPlainOne_25 (by decide) ?_
      cases h
      exact ev_vret eX9_readPlainOne_112 rfl ⟨rfl, rfl⟩
    · rw [if_neg (show ¬ (x3 = 20) from hc3)] at h
      refine ev_il eX9_readPlainOne_12 rfl ?_
      refine ev_bp eX9_readPlainOne_13 (by decide) (by decide) ?_
      refine ev_c_ne (tgt := 28) eX9_readPlainOne_15 (by decide) (fun hc5 => ?_) (fun hc5 => ?_)
      · rw [if_pos (show x3 ≠ 22 from hc5)] at h
        refine ev_il eX9_readPlainOne_28 rfl ?_
        refine ev_bp eX9_readPlainOne_29 (by decide) (by decide) ?_
        refine ev_c_ne (tgt := 55) eX9_readPlainOne_31 (by decide) (fun hc6 => ?_) (fun hc6 => ?_)
        · rw [if_pos (show x3 ≠ 21 from hc6)] at h
          refine ev_al eX9_readPlainOne_55 rfl ?_
          refine ev_getI lk_f (ci := 8) (j := 6) (cd := 0) eX9_readPlainOne_56 (isF (by decide +kernel)) rfl rfl rfl ?_
          refine ev_isw (L' := [(4, .inl ((C 8 6))), (0, .inr (.inl 14)), (1, .inr (.inl 8)), (2, .inr (.inl 6)), (3, .inl x3)]) eX9_readPlainOne_59 (by decide) rfl ?_
          refine ev_al eX9_readPlainOne_61 rfl ?_
          refine ev_bp eX9_readPlainOne_62 (by decide) (by decide) ?_
          obtain ⟨r7, C7, hq7, h⟩ := ev_bd_some h
          refine ev_callV (kc := kc_67) (A := [.inl 60]) (T := []) (lk_m.1 _ _ 0 [67] (isM (by decide +kernel)) 67 (by decide)) eX9_readPlainOne_64 (m_8_isAtSign hU hq7) rfl rfl rfl (by decide) (by decide) (Nat.le_of_ble_eq_true rfl) ?_
          rintro _ C7 ⟨rfl, rfl⟩
          show ev_W l D cys ty ck_tags ev_TR kc_133 67 [(4, .inl ((C 8 6))), (0, .inr (.inl 14)), (1, .inr (.inl 8)), (2, .inr (.inl 6)), (3, .inl x3)] [.inl r7] C7 _
          refine ev_z_ne (tgt := 94) eX9_readPlainOne_67 (by decide) (fun hc8 => ?_) (fun hc8 => ?_)
          · rw [if_pos (show r7 ≠ 0 from hc8)] at h
            refine ev_loc (L' := [(0, .inr (.inl 14)), (1, .inr (.inl 8)), (2, .inr (.inl 6)), (3, .inl x3), (4, .inl ((C 8 6)))]) rfl ?_
            exact m_9_readPlainOne_14_8_6_J94 hU h
          · rw [if_neg (show ¬ (r7 ≠ 0) from hc8)] at h
            refine ev_al eX9_readPlainOne_70 rfl ?_
            refine ev_bp eX9_readPlainOne_71 (by decide) (by decide) ?_
            obtain ⟨r12, C12, hq12, h⟩ := ev_bd_some h
            refine ev_callV (kc := kc_67) (A := [.inl 61]) (T := []) (lk_m.1 _ _ 0 [67] (isM (by decide +kernel)) 67 (by decide)) eX9_readPlainOne_73 (m_8_isAtSign hU hq12) rfl rfl rfl (by decide) (by decide) (Nat.le_of_ble_eq_true rfl) ?_
            rintro _ C12 ⟨rfl, rfl⟩
            show ev_W l D cys ty ck_tags ev_TR kc_133 76 [(4, .inl ((C 8 6))), (0, .inr (.inl 14)), (1, .inr (.inl 8)), (2, .inr (.inl 6)), (3, .inl x3)] [.inl r12] C12 _
            refine ev_z_ne (tgt := 94) eX9_readPlainOne_76 (by decide) (fun hc13 => ?_) (fun hc13 => ?_)
            · rw [if_pos (show r12 ≠ 0 from hc13)] at h
              refine ev_loc (L' := [(0, .inr (.inl 14)), (1, .inr (.inl 8)), (2, .inr (.inl 6)), (3, .inl x3), (4, .inl ((C 8 6)))]) rfl ?_
              exact m_9_readPlainOne_14_8_6_J94 hU h
            · rw [if_neg (show ¬ (r12 ≠ 0) from hc13)] at h
              refine ev_al eX9_readPlainOne_79 rfl ?_
              refine ev_bp eX9_readPlainOne_80 (by decide) (by decide) ?_
              obtain ⟨r14, C14, hq14, h⟩ := ev_bd_some h
              refine ev_callV (kc := kc_67) (A := [.inl 62]) (T := []) (lk_m.1 _ _ 0 [67] (isM (by decide +kernel)) 67 (by decide)) eX9_readPlainOne_82 (m_8_isAtSign hU hq14) rfl rfl rfl (by decide) (by decide) (Nat.le_of_ble_eq_true rfl) ?_
              rintro _ C14 ⟨rfl, rfl⟩
              show ev_W l D cys ty ck_tags ev_TR kc_133 85 [(4, .inl ((C 8 6))), (0, .inr (.inl 14)), (1, .inr (.inl 8)), (2, .inr (.inl 6)), (3, .inl x3)] [.inl r14] C14 _
              refine ev_z_ne (tgt := 94) eX9_readPlainOne_85 (by decide) (fun hc15 => ?_) (fun hc15 => ?_)
              · rw [if_pos (show r14 ≠ 0 from hc15)] at h
                refine ev_loc (L' := [(0, .inr (.inl 14)), (1, .inr (.inl 8)), (2, .inr (.inl 6)), (3, .inl x3), (4, .inl ((C 8 6)))]) rfl ?_
                exact m_9_readPlainOne_14_8_6_J94 hU h
              · rw [if_neg (show ¬ (r14 ≠ 0) from hc15)] at h
                refine ev_al eX9_readPlainOne_88 rfl ?_
                refine ev_ic eX9_readPlainOne_89 (by decide) ?_
                obtain ⟨C16, hq16, h⟩ := ev_bv_some h
                refine ev_callV (kc := kc_35) (A := [.inl 1]) (T := []) (lk_m.1 _ _ 0 [35] (isM (by decide +kernel)) 35 (by decide)) eX9_readPlainOne_90 (m_8_fail hU hq16) rfl rfl rfl (by decide) (by decide) (Nat.le_of_ble_eq_true rfl) ?_
                rintro _ C16 ⟨rfl, rfl⟩
                show ev_W l D cys ty ck_tags ev_TR kc_133 93 [(4, .inl ((C 8 6))), (0, .inr (.inl 14)), (1, .inr (.inl 8)), (2, .inr (.inl 6)), (3, .inl x3)] [] C16 _
                cases h
                exact ev_vret eX9_readPlainOne_93 rfl ⟨rfl, rfl⟩
        · rw [if_neg (show ¬ (x3 ≠ 21) from hc6)] at h
          refine ev_al eX9_readPlainOne_34 rfl ?_
          refine ev_il eX9_readPlainOne_35 rfl ?_
          refine ev_ic eX9_readPlainOne_36 (by decide) ?_
          refine ev_al eX9_readPlainOne_37 rfl ?_
          refine ev_al eX9_readPlainOne_38 rfl ?_
          refine ev_getR lk_f (ci := 6) (j := 7) (cd := 3) eX9_readPlainOne_39 (isF (by decide +kernel)) rfl rfl ?_
          refine ev_al eX9_readPlainOne_42 rfl ?_
          refine ev_getI lk_f (ci := 6) (j := 1) (cd := 0) eX9_readPlainOne_43 (isF (by decide +kernel)) rfl rfl rfl ?_
          obtain ⟨r17, C17, hq17, h⟩ := ev_bd_some h
          refine ev_callV (kc := kc_62) (A := [.inr (.inl 68), .inl ((C 6 1))]) (T := [.inl 0, .inl x3, .inr (.inl 14)]) (lk_m.1 _ _ 0 [58, 59, 60, 61, 62, 63] (isM (by decide +kernel)) 62 (by decide)) eX9_readPlainOne_46 (m_8_takeName_68 hU hq17) rfl rfl rfl (by decide) (by decide) (Nat.le_of_ble_eq_true rfl) ?_
          rintro _ C17 ⟨rfl, rfl⟩
          show ev_W l D cys ty ck_tags ev_TR kc_133 49 [(0, .inr (.inl 14)), (1, .inr (.inl 8)), (2, .inr (.inl 6)), (3, .inl x3)] [.inl r17, .inl 0, .inl x3, .inr (.inl 14)] C17 _
          obtain ⟨C18, hq18, h⟩ := ev_bv_some h
          refine ev_callV (kc := kc_121) (A := [.inl x3, .inl 0, .inl r17]) (T := []) (lk_m.1 _ _ 0 [121] (isM (by decide +kernel)) 121 (by decide)) eX9_readPlainOne_49 (m_9_addStep_14 hU hq18) rfl rfl rfl (by decide) (by decide) (Nat.le_of_ble_eq_true rfl) ?_
          rintro _ C18 ⟨rfl, rfl⟩
          show ev_W l D cys ty ck_tags ev_TR kc_133 52 [(0, .inr (.inl 14)), (1, .inr (.inl 8)), (2, .inr (.inl 6)), (3, .inl x3)] [] C18 _
          refine ev_goto (tgt := 112) eX9_readPlainOne_52 (by decide) ?_
          cases h
          exact ev_vret eX9_readPlainOne_112 rfl ⟨rfl, rfl⟩
      · rw [if_neg (show ¬ (x3 ≠ 22) from hc5)] at h
        refine ev_al eX9_readPlainOne_18 rfl ?_
        refine ev_il eX9_readPlainOne_19 rfl ?_
        refine ev_ic eX9_readPlainOne_20 (by decide) ?_
        refine ev_ic eX9_readPlainOne_21 (by decide) ?_
        obtain ⟨C19, hq19, h⟩ := ev_bv_some h
        refine ev_callV (kc := kc_121) (A := [.inl x3, .inl 0, .inl 0]) (T := []) (lk_m.1 _ _ 0 [121] (isM (by decide +kernel)) 121 (by decide)) eX9_readPlainOne_22 (m_9_addStep_14 hU hq19) rfl rfl rfl (by decide) (by decide) (Nat.le_of_ble_eq_true rfl) ?_
        rintro _ C19 ⟨rfl, rfl⟩
        show ev_W l D cys ty ck_tags ev_TR kc_133 25 [(0, .inr (.inl 14)), (1, .inr (.inl 8)), (2, .inr (.inl 6)), (3, .inl x3)] [] C19 _
        refine ev_goto (tgt := 112) eX9_readPlainOne_25 (by decide) ?_
        cases h
        exact ev_vret eX9_readPlainOne_112 rfl ⟨rfl, rfl⟩
theorem eX9_readOne_0 : decode cX9_readOne 0 = .ok (.aload_n 1, 1) := by decide +kernel
theorem eX9_readOne_1 : decode cX9_readOne 1 = .ok (.invokevirtual 74, 3) := by decide +kernel
theorem eX9_readOne_4 : decode cX9_readOne 4 = .ok (.istore 4, 2) := by decide +kernel
theorem eX9_readOne_6 : decode cX9_readOne 6 = .ok (.aload_n 1, 1) := by decide +kernel
theorem eX9_readOne_7 : decode cX9_readOne 7 = .ok (.bipush 40, 2) := by decide +kernel
theorem eX9_readOne_9 : decode cX9_readOne 9 = .ok (.invokevirtual 78, 3) := by decide +kernel
theorem eX9_readOne_12 : decode cX9_readOne 12 = .ok (.istore 5, 2) := by decide +kernel
theorem eX9_readOne_14 : decode cX9_readOne 14 = .ok (.iload 5, 2) := by decide +kernel
theorem eX9_readOne_16 : decode cX9_readOne 16 = .ok (.ifCond .ne 23, 3) := by decide +kernel
theorem eX9_readOne_19 : decode cX9_readOne 19 = .ok (.iload 4, 2) := by decide +kernel
theorem eX9_readOne_21 : decode cX9_readOne 21 = .ok (.bipush 18, 2) := by decide +kernel
theorem eX9_readOne_23 : decode cX9_readOne 23 = .ok (.if_icmp .lt 10, 3) := by decide +kernel
theorem eX9_readOne_26 : decode cX9_readOne 26 = .ok (.iload 4, 2) := by decide +kernel
theorem eX9_readOne_28 : decode cX9_readOne 28 = .ok (.bipush 26, 2) := by decide +kernel
theorem eX9_readOne_30 : decode cX9_readOne 30 = .ok (.if_icmp .le 9, 3) := by decide +kernel
theorem eX9_readOne_33 : decode cX9_readOne 33 = .ok (.aload_n 1, 1) := by decide +kernel
theorem eX9_readOne_34 : decode cX9_readOne 34 = .ok (.iconst 1, 1) := by decide +kernel
theorem eX9_readOne_35 : decode cX9_readOne 35 = .ok (.invokevirtual 53, 3) := by decide +kernel
theorem eX9_readOne_38 : decode cX9_readOne 38 = .ok (.return_, 1) := by decide +kernel
theorem eX9_readOne_39 : decode cX9_readOne 39 = .ok (.aload_n 0, 1) := by decide +kernel
theorem eX9_readOne_40 : decode cX9_readOne 40 = .ok (.getfield 9, 3) := by decide +kernel
theorem eX9_readOne_43 : decode cX9_readOne 43 = .ok (.bipush 20, 2) := by decide +kernel
theorem eX9_readOne_45 : decode cX9_readOne 45 = .ok (.if_icmp .ge 9, 3) := by decide +kernel
theorem eX9_readOne_48 : decode cX9_readOne 48 = .ok (.iload_n 3, 1) := by decide +kernel
theorem eX9_readOne_49 : decode cX9_readOne 49 = .ok (.bipush 8, 2) := by decide +kernel
theorem eX9_readOne_51 : decode cX9_readOne 51 = .ok (.if_icmp .le 9, 3) := by decide +kernel
theorem eX9_readOne_54 : decode cX9_readOne 54 = .ok (.aload_n 1, 1) := by decide +kernel
theorem eX9_readOne_55 : decode cX9_readOne 55 = .ok (.iconst 4, 1) := by decide +kernel
theorem eX9_readOne_56 : decode cX9_readOne 56 = .ok (.invokevirtual 53, 3) := by decide +kernel
theorem eX9_readOne_59 : decode cX9_readOne 59 = .ok (.return_, 1) := by decide +kernel
theorem eX9_readOne_60 : decode cX9_readOne 60 = .ok (.aload_n 0, 1) := by decide +kernel
theorem eX9_readOne_61 : decode cX9_readOne 61 = .ok (.dup, 1) := by decide +kernel
theorem eX9_readOne_62 : decode cX9_readOne 62 = .ok (.getfield 9, 3) := by decide +kernel
theorem eX9_readOne_65 : decode cX9_readOne 65 = .ok (.iconst 1, 1) := by decide +kernel
theorem eX9_readOne_66 : decode cX9_readOne 66 = .ok (.iadd, 1) := by decide +kernel
theorem eX9_readOne_67 : decode cX9_readOne 67 = .ok (.putfield 9, 3) := by decide +kernel
theorem eX9_readOne_70 : decode cX9_readOne 70 = .ok (.aload_n 1, 1) := by decide +kernel
theorem eX9_readOne_71 : decode cX9_readOne 71 = .ok (.invokevirtual 64, 3) := by decide +kernel
theorem eX9_readOne_74 : decode cX9_readOne 74 = .ok (.iload 5, 2) := by decide +kernel
theorem eX9_readOne_76 : decode cX9_readOne 76 = .ok (.ifCond .eq 26, 3) := by decide +kernel
theorem eX9_readOne_79 : decode cX9_readOne 79 = .ok (.aload_n 0, 1) := by decide +kernel
theorem eX9_readOne_80 : decode cX9_readOne 80 = .ok (.aload_n 1, 1) := by decide +kernel
theorem eX9_readOne_81 : decode cX9_readOne 81 = .ok (.aload_n 2, 1) := by decide +kernel
theorem eX9_readOne_82 : decode cX9_readOne 82 = .ok (.iload_n 3, 1) := by decide +kernel
theorem eX9_readOne_83 : decode cX9_readOne 83 = .ok (.invokevirtual 40, 3) := by decide +kernel
theorem eX9_readOne_86 : decode cX9_readOne 86 = .ok (.aload_n 1, 1) := by decide +kernel
theorem eX9_readOne_87 : decode cX9_readOne 87 = .ok (.invokevirtual 44, 3) := by decide +kernel
theorem eX9_readOne_90 : decode cX9_readOne 90 = .ok (.ifCond .eq 47, 3) := by decide +kernel
theorem eX9_readOne_93 : decode cX9_readOne 93 = .ok (.aload_n 1, 1) := by decide +kernel
theorem eX9_readOne_94 : decode cX9_readOne 94 = .ok (.bipush 41, 2) := by decide +kernel
theorem eX9_readOne_96 : decode cX9_readOne 96 = .ok (.invokevirtual 81, 3) := by decide +kernel
theorem eX9_readOne_99 : decode cX9_readOne 99 = .ok (.goto 38, 3) := by decide +kernel
theorem eX9_readOne_102 : decode cX9_readOne 102 = .ok (.iload 4, 2) := by decide +kernel
theorem eX9_readOne_104 : decode cX9_readOne 104 = .ok (.bipush 18, 2) := by decide +kernel
theorem eX9_readOne_106 : decode cX9_readOne 106 = .ok (.if_icmp .ne 23, 3) := by decide +kernel
theorem eX9_readOne_109 : decode cX9_readOne 109 = .ok (.aload_n 0, 1) := by decide +kernel
theorem eX9_readOne_110 : decode cX9_readOne 110 = .ok (.aload_n 1, 1) := by decide +kernel
theorem eX9_readOne_111 : decode cX9_readOne 111 = .ok (.aload_n 2, 1) := by decide +kernel
theorem eX9_readOne_112 : decode cX9_readOne 112 = .ok (.iload_n 3, 1) := by decide +kernel
theorem eX9_readOne_113 : decode cX9_readOne 113 = .ok (.iconst 1, 1) := by decide +kernel
theorem eX9_readOne_114 : decode cX9_readOne 114 = .ok (.iadd, 1) := by decide +kernel
theorem eX9_readOne_115 : decode cX9_readOne 115 = .ok (.invokevirtual 71, 3) := by decide +kernel
theorem eX9_readOne_118 : decode cX9_readOne 118 = .ok (.aload_n 0, 1) := by decide +kernel
theorem eX9_readOne_119 : decode cX9_readOne 119 = .ok (.bipush 18, 2) := by decide +kernel
theorem eX9_readOne_121 : decode cX9_readOne 121 = .ok (.iconst 0, 1) := by decide +kernel
theorem eX9_readOne_122 : decode cX9_readOne 122 = .ok (.iconst 0, 1) := by decide +kernel
theorem eX9_readOne_123 : decode cX9_readOne 123 = .ok (.invokevirtual 67, 3) := by decide +kernel
theorem eX9_readOne_126 : decode cX9_readOne 126 = .ok (.goto 11, 3) := by decide +kernel
theorem eX9_readOne_129 : decode cX9_readOne 129 = .ok (.aload_n 0, 1) := by decide +kernel
theorem eX9_readOne_130 : decode cX9_readOne 130 = .ok (.aload_n 1, 1) := by decide +kernel
theorem eX9_readOne_131 : decode cX9_readOne 131 = .ok (.aload_n 2, 1) := by decide +kernel
theorem eX9_readOne_132 : decode cX9_readOne 132 = .ok (.iload 4, 2) := by decide +kernel
theorem eX9_readOne_134 : decode cX9_readOne 134 = .ok (.invokevirtual 84, 3) := by decide +kernel
theorem eX9_readOne_137 : decode cX9_readOne 137 = .ok (.return_, 1) := by decide +kernel
set_option maxRecDepth 100000 in
theorem m_9_readOne_14_8_6_k9_J39 (hU : ev_uq ty ev_TR) {C' : ev_C} {C : ev_C} {y4 y5 : Int} (h : f_9_readOne_14_8_6_k9_J39 C y4 y5 = some C') : ev_W l D cys ty ck_tags ev_TR kc_134 39 [(0, .inr (.inl 14)), (1, .inr (.inl 8)), (2, .inr (.inl 6)), (3, .inl 9), (4, .inl y4), (5, .inl y5)] [] C (fun r0 C0 => r0 = none ∧ C0 = C') := by
  unfold f_9_readOne_14_8_6_k9_J39 at h
  refine ev_al eX9_readOne_39 rfl ?_
  refine ev_getI lk_f (ci := 9) (j := 0) (cd := 0) eX9_readOne_40 (isF (by decide +kernel)) rfl rfl rfl ?_
  refine ev_bp eX9_readOne_43 (by decide) (by decide) ?_
  refine ev_c_ge (tgt := 54) eX9_readOne_45 (by decide) (fun hc4 => ?_) (fun hc4 => ?_)
  · rw [if_pos (show 20 ≤ (C 14 0) from hc4)] at h
    refine ev_al eX9_readOne_54 rfl ?_
    refine ev_ic eX9_readOne_55 (by decide) ?_
    obtain ⟨C5, hq5, h⟩ := ev_bv_some h
    refine ev_callV (kc := kc_35) (A := [.inl 4]) (T := []) (lk_m.1 _ _ 0 [35] (isM (by decide +kernel)) 35 (by decide)) eX9_readOne_56 (m_8_fail hU hq5) rfl rfl rfl (by decide) (by decide) (Nat.le_of_ble_eq_true rfl) ?_
    rintro _ C5 ⟨rfl, rfl⟩
    show ev_W l D cys ty ck_tags ev_TR kc_134 59 [(0, .inr (.inl 14)), (1, .inr (.inl 8)), (2, .inr (.inl 6)), (3, .inl 9), (4, .inl y4), (5, .inl y5)] [] C5 _
    cases h
    exact ev_vret eX9_readOne_59 rfl ⟨rfl, rfl⟩
  · rw [if_neg (show ¬ (20 ≤ (C 14 0)) from hc4)] at h
    refine ev_il eX9_readOne_48 rfl ?_
    refine ev_bp eX9_readOne_49 (by decide) (by decide) ?_
    refine ev_c_le (tgt := 60) eX9_readOne_51 (by decide) (fun hc => absurd hc (show ¬ ((9 : Int) ≤ 8) by decide)) (fun _ => ?_)
    refine ev_al eX9_readOne_54 rfl ?_
    refine ev_ic eX9_readOne_55 (by decide) ?_
    obtain ⟨C6, hq6, h⟩ := ev_bv_some h
    refine ev_callV (kc := kc_35) (A := [.inl 4]) (T := []) (lk_m.1 _ _ 0 [35] (isM (by decide +kernel)) 35 (by decide)) eX9_readOne_56 (m_8_fail hU hq6) rfl rfl rfl (by decide) (by decide) (Nat.le_of_ble_eq_true rfl) ?_
    rintro _ C6 ⟨rfl, rfl⟩
    show ev_W l D cys ty ck_tags ev_TR kc_134 59 [(0, .inr (.inl 14)), (1, .inr (.inl 8)), (2, .inr (.inl 6)), (3, .inl 9), (4, .inl y4), (5, .inl y5)] [] C6 _
    cases h
    exact ev_vret eX9_readOne_59 rfl ⟨rfl, rfl⟩
set_option maxRecDepth 100000 in
theorem m_9_readOne_14_8_6_k9 (hU : ev_uq ty ev_TR) {C : ev_C} {C' : ev_C} (h : f_9_readOne_14_8_6_k9 C = some C') : ev_Met l D cys ty ck_tags ev_TR kc_134 [.inr (.inl 14), .inr (.inl 8), .inr (.inl 6), .inl 9] C (fun r0 C0 => r0 = none ∧ C0 = C') := by
  unfold f_9_readOne_14_8_6_k9 at h
  refine ev_enter (by decide +kernel) (by decide +kernel) (Nat.le_of_ble_eq_true rfl) ?_
  show ev_W l D cys ty ck_tags ev_TR kc_134 0 [(0, .inr (.inl 14)), (1, .inr (.inl 8)), (2, .inr (.inl 6)), (3, .inl 9)] [] C _
  refine ev_al eX9_readOne_0 rfl ?_
  obtain ⟨r1, C1, hq1, h⟩ := ev_bd_some h
  refine ev_callV (kc := kc_66) (A := []) (T := []) (lk_m.1 _ _ 0 [66] (isM (by decide +kernel)) 66 (by decide)) eX9_readOne_1 (m_8_wordHere hU hq1) rfl rfl rfl (by decide) (by decide) (Nat.le_of_ble_eq_true rfl) ?_
  rintro _ C1 ⟨rfl, rfl⟩
  show ev_W l D cys ty ck_tags ev_TR kc_134 4 [(0, .inr (.inl 14)), (1, .inr (.inl 8)), (2, .inr (.inl 6)), (3, .inl 9)] [.inl r1] C1 _
  refine ev_isw (L' := [(4, .inl r1), (0, .inr (.inl 14)), (1, .inr (.inl 8)), (2, .inr (.inl 6)), (3, .inl 9)]) eX9_readOne_4 (by decide) rfl ?_
  refine ev_al eX9_readOne_6 rfl ?_
  refine ev_bp eX9_readOne_7 (by decide) (by decide) ?_
  obtain ⟨r2, C2, hq2, h⟩ := ev_bd_some h
  refine ev_callV (kc := kc_67) (A := [.inl 40]) (T := []) (lk_m.1 _ _ 0 [67] (isM (by decide +kernel)) 67 (by decide)) eX9_readOne_9 (m_8_isAtSign hU hq2) rfl rfl rfl (by decide) (by decide) (Nat.le_of_ble_eq_true rfl) ?_
  rintro _ C2 ⟨rfl, rfl⟩
  show ev_W l D cys ty ck_tags ev_TR kc_134 12 [(4, .inl r1), (0, .inr (.inl 14)), (1, .inr (.inl 8)), (2, .inr (.inl 6)), (3, .inl 9)] [.inl r2] C2 _
  refine ev_isw (L' := [(5, .inl r2), (4, .inl r1), (0, .inr (.inl 14)), (1, .inr (.inl 8)), (2, .inr (.inl 6)), (3, .inl 9)]) eX9_readOne_12 (by decide) rfl ?_
  refine ev_ilw eX9_readOne_14 rfl ?_
  refine ev_z_ne (tgt := 39) eX9_readOne_16 (by decide) (fun hc3 => ?_) (fun hc3 => ?_)
  · rw [if_pos (show r2 ≠ 0 from hc3)] at h
    refine ev_loc (L' := [(0, .inr (.inl 14)), (1, .inr (.inl 8)), (2, .inr (.inl 6)), (3, .inl 9), (4, .inl r1), (5, .inl r2)]) rfl ?_
    exact m_9_readOne_14_8_6_k9_J39 hU h
  · rw [if_neg (show ¬ (r2 ≠ 0) from hc3)] at h
    refine ev_ilw eX9_readOne_19 rfl ?_
    refine ev_bp eX9_readOne_21 (by decide) (by decide) ?_
    refine ev_c_lt (tgt := 33) eX9_readOne_23 (by decide) (fun hc7 => ?_) (fun hc7 => ?_)
    · rw [if_pos (show r1 < 18 from hc7)] at h
      refine ev_al eX9_readOne_33 rfl ?_
      refine ev_ic eX9_readOne_34 (by decide) ?_
      obtain ⟨C8, hq8, h⟩ := ev_bv_some h
      refine ev_callV (kc := kc_35) (A := [.inl 1]) (T := []) (lk_m.1 _ _ 0 [35] (isM (by decide +kernel)) 35 (by decide)) eX9_readOne_35 (m_8_fail hU hq8) rfl rfl rfl (by decide) (by decide) (Nat.le_of_ble_eq_true rfl) ?_
      rintro _ C8 ⟨rfl, rfl⟩
      show ev_W l D cys ty ck_tags ev_TR kc_134 38 [(5, .inl r2), (4, .inl r1), (0, .inr (.inl 14)), (1, .inr (.inl 8)), (2, .inr (.inl 6)), (3, .inl 9)] [] C8 _
      cases h
      exact ev_vret eX9_readOne_38 rfl ⟨rfl, rfl⟩
    · rw [if_neg (show ¬ (r1 < 18) from hc7)] at h
      refine ev_ilw eX9_readOne_26 rfl ?_
      refine ev_bp eX9_readOne_28 (by decide) (by decide) ?_
      refine ev_c_le (tgt := 39) eX9_readOne_30 (by decide) (fun hc9 => ?_) (fun hc9 => ?_)
      · rw [if_pos (show r1 ≤ 26 from hc9)] at h
        refine ev_loc (L' := [(0, .inr (.inl 14)), (1, .inr (.inl 8)), (2, .inr (.inl 6)), (3, .inl 9), (4, .inl r1), (5, .inl r2)]) rfl ?_
        exact m_9_readOne_14_8_6_k9_J39 hU h
      · rw [if_neg (show ¬ (r1 ≤ 26) from hc9)] at h
        refine ev_al eX9_readOne_33 rfl ?_
        refine ev_ic eX9_readOne_34 (by decide) ?_
        obtain ⟨C10, hq10, h⟩ := ev_bv_some h
        refine ev_callV (kc := kc_35) (A := [.inl 1]) (T := []) (lk_m.1 _ _ 0 [35] (isM (by decide +kernel)) 35 (by decide)) eX9_readOne_35 (m_8_fail hU hq10) rfl rfl rfl (by decide) (by decide) (Nat.le_of_ble_eq_true rfl) ?_
        rintro _ C10 ⟨rfl, rfl⟩
        show ev_W l D cys ty ck_tags ev_TR kc_134 38 [(5, .inl r2), (4, .inl r1), (0, .inr (.inl 14)), (1, .inr (.inl 8)), (2, .inr (.inl 6)), (3, .inl 9)] [] C10 _
        cases h
        exact ev_vret eX9_readOne_38 rfl ⟨rfl, rfl⟩
theorem eX8_isAtWord_0 : decode cX8_isAtWord 0 = .ok (.aload_n 0, 1) := by decide +kernel
theorem eX8_isAtWord_1 : decode cX8_isAtWord 1 = .ok (.getfield 25, 3) := by decide +kernel
theorem eX8_isAtWord_4 : decode cX8_isAtWord 4 = .ok (.iconst 1, 1) := by decide +kernel
theorem eX8_isAtWord_5 : decode cX8_isAtWord 5 = .ok (.if_icmp .ne 15, 3) := by decide +kernel
theorem eX8_isAtWord_8 : decode cX8_isAtWord 8 = .ok (.aload_n 0, 1) := by decide +kernel
theorem eX8_isAtWord_9 : decode cX8_isAtWord 9 = .ok (.getfield 34, 3) := by decide +kernel
theorem eX8_isAtWord_12 : decode cX8_isAtWord 12 = .ok (.iload_n 1, 1) := by decide +kernel
theorem eX8_isAtWord_13 : decode cX8_isAtWord 13 = .ok (.if_icmp .ne 7, 3) := by decide +kernel
theorem eX8_isAtWord_16 : decode cX8_isAtWord 16 = .ok (.iconst 1, 1) := by decide +kernel
theorem eX8_isAtWord_17 : decode cX8_isAtWord 17 = .ok (.goto 4, 3) := by decide +kernel
theorem eX8_isAtWord_20 : decode cX8_isAtWord 20 = .ok (.iconst 0, 1) := by decide +kernel
theorem eX8_isAtWord_21 : decode cX8_isAtWord 21 = .ok (.ireturn, 1) := by decide +kernel
set_option maxRecDepth 100000 in
theorem m_8_isAtWord (hU : ev_uq ty ev_TR) {C : ev_C} {x1 : Int} {r : Int} {C' : ev_C} (h : f_8_isAtWord C x1 = some (r, C')) : ev_Met l D cys ty ck_tags ev_TR kc_64 [.inr (.inl 8), .inl x1] C (fun r0 C0 => r0 = some (.inl r) ∧ C0 = C') := by
  unfold f_8_isAtWord at h
  refine ev_enter (by decide +kernel) (by decide +kernel) (Nat.le_of_ble_eq_true rfl) ?_
  show ev_W l D cys ty ck_tags ev_TR kc_64 0 [(0, .inr (.inl 8)), (1, .inl x1)] [] C _
  refine ev_al eX8_isAtWord_0 rfl ?_
  refine ev_getI lk_f (ci := 8) (j := 4) (cd := 0) eX8_isAtWord_1 (isF (by decide +kernel)) rfl rfl rfl ?_
  refine ev_ic eX8_isAtWord_4 (by decide) ?_
  refine ev_c_ne (tgt := 20) eX8_isAtWord_5 (by decide) (fun hc1 => ?_) (fun hc1 => ?_)
  · rw [if_pos (show (C 8 4) ≠ 1 from hc1)] at h
    refine ev_ic eX8_isAtWord_20 (by decide) ?_
    cases h
    exact ev_zret eX8_isAtWord_21 rfl (by decide) ⟨rfl, rfl⟩
  · rw [if_neg (show ¬ ((C 8 4) ≠ 1) from hc1)] at h
    refine ev_al eX8_isAtWord_8 rfl ?_
    refine ev_getI lk_f (ci := 8) (j := 7) (cd := 0) eX8_isAtWord_9 (isF (by decide +kernel)) rfl rfl rfl ?_
    refine ev_il eX8_isAtWord_12 rfl ?_
    refine ev_c_ne (tgt := 20) eX8_isAtWord_13 (by decide) (fun hc2 => ?_) (fun hc2 => ?_)
    · rw [if_pos (show (C 8 7) ≠ x1 from hc2)] at h
      refine ev_ic eX8_isAtWord_20 (by decide) ?_
      cases h
      exact ev_zret eX8_isAtWord_21 rfl (by decide) ⟨rfl, rfl⟩
    · rw [if_neg (show ¬ ((C 8 7) ≠ x1) from hc2)] at h
      refine ev_ic eX8_isAtWord_16 (by decide) ?_
      refine ev_goto (tgt := 21) eX8_isAtWord_17 (by decide) ?_
      cases h
      exact ev_zret eX8_isAtWord_21 rfl (by decide) ⟨rfl, rfl⟩
theorem eX9_readAll_0 : decode cX9_readAll 0 = .ok (.aload_n 0, 1) := by decide +kernel
theorem eX9_readAll_1 : decode cX9_readAll 1 = .ok (.aload_n 1, 1) := by decide +kernel
theorem eX9_readAll_2 : decode cX9_readAll 2 = .ok (.aload_n 2, 1) := by decide +kernel
theorem eX9_readAll_3 : decode cX9_readAll 3 = .ok (.iload_n 3, 1) := by decide +kernel
theorem eX9_readAll_4 : decode cX9_readAll 4 = .ok (.iconst 1, 1) := by decide +kernel
theorem eX9_readAll_5 : decode cX9_readAll 5 = .ok (.iadd, 1) := by decide +kernel
theorem eX9_readAll_6 : decode cX9_readAll 6 = .ok (.invokevirtual 71, 3) := by decide +kernel
theorem eX9_readAll_9 : decode cX9_readAll 9 = .ok (.iconst 0, 1) := by decide +kernel
theorem eX9_readAll_10 : decode cX9_readAll 10 = .ok (.istore 4, 2) := by decide +kernel
theorem eX9_readAll_12 : decode cX9_readAll 12 = .ok (.iload 4, 2) := by decide +kernel
theorem eX9_readAll_14 : decode cX9_readAll 14 = .ok (.bipush 20, 2) := by decide +kernel
theorem eX9_readAll_16 : decode cX9_readAll 16 = .ok (.if_icmp .ge 46, 3) := by decide +kernel
theorem eX9_readAll_19 : decode cX9_readAll 19 = .ok (.aload_n 1, 1) := by decide +kernel
theorem eX9_readAll_20 : decode cX9_readAll 20 = .ok (.invokevirtual 44, 3) := by decide +kernel
theorem eX9_readAll_23 : decode cX9_readAll 23 = .ok (.ifCond .eq 39, 3) := by decide +kernel
theorem eX9_readAll_26 : decode cX9_readAll 26 = .ok (.aload_n 1, 1) := by decide +kernel
theorem eX9_readAll_27 : decode cX9_readAll 27 = .ok (.bipush 17, 2) := by decide +kernel
theorem eX9_readAll_29 : decode cX9_readAll 29 = .ok (.invokevirtual 60, 3) := by decide +kernel
theorem eX9_readAll_32 : decode cX9_readAll 32 = .ok (.ifCond .eq 30, 3) := by decide +kernel
theorem eX9_readAll_35 : decode cX9_readAll 35 = .ok (.aload_n 1, 1) := by decide +kernel
theorem eX9_readAll_36 : decode cX9_readAll 36 = .ok (.invokevirtual 64, 3) := by decide +kernel
theorem eX9_readAll_39 : decode cX9_readAll 39 = .ok (.aload_n 0, 1) := by decide +kernel
theorem eX9_readAll_40 : decode cX9_readAll 40 = .ok (.aload_n 1, 1) := by decide +kernel
theorem eX9_readAll_41 : decode cX9_readAll 41 = .ok (.aload_n 2, 1) := by decide +kernel
theorem eX9_readAll_42 : decode cX9_readAll 42 = .ok (.iload_n 3, 1) := by decide +kernel
theorem eX9_readAll_43 : decode cX9_readAll 43 = .ok (.iconst 1, 1) := by decide +kernel
theorem eX9_readAll_44 : decode cX9_readAll 44 = .ok (.iadd, 1) := by decide +kernel
theorem eX9_readAll_45 : decode cX9_readAll 45 = .ok (.invokevirtual 71, 3) := by decide +kernel
theorem eX9_readAll_48 : decode cX9_readAll 48 = .ok (.aload_n 0, 1) := by decide +kernel
theorem eX9_readAll_49 : decode cX9_readAll 49 = .ok (.bipush 17, 2) := by decide +kernel
theorem eX9_readAll_51 : decode cX9_readAll 51 = .ok (.iconst 0, 1) := by decide +kernel
theorem eX9_readAll_52 : decode cX9_readAll 52 = .ok (.iconst 0, 1) := by decide +kernel
theorem eX9_readAll_53 : decode cX9_readAll 53 = .ok (.invokevirtual 67, 3) := by decide +kernel
theorem eX9_readAll_56 : decode cX9_readAll 56 = .ok (.iinc 4 1, 3) := by decide +kernel
theorem eX9_readAll_59 : decode cX9_readAll 59 = .ok (.goto (-47), 3) := by decide +kernel
theorem eX9_readAll_62 : decode cX9_readAll 62 = .ok (.return_, 1) := by decide +kernel
set_option maxRecDepth 100000 in
theorem m_9_readAll_14_8_6_k8_L12 (hU : ev_uq ty ev_TR) : ∀ (n : Nat) {C : ev_C} {y4 : Int} {C' : ev_C}, f_9_readAll_14_8_6_k8_L12 n C y4 = some C' → ev_W l D cys ty ck_tags ev_TR kc_135 12 [(0, .inr (.inl 14)), (1, .inr (.inl 8)), (2, .inr (.inl 6)), (3, .inl 8), (4, .inl y4)] [] C (fun r0 C0 => r0 = none ∧ C0 = C')
  | 0, _, _, _, h => by cases h
  | n + 1, C, y4, _, h => by
    rw [f_9_readAll_14_8_6_k8_L12] at h
    refine ev_ilw eX9_readAll_12 rfl ?_
    refine ev_bp eX9_readAll_14 (by decide) (by decide) ?_
    refine ev_c_ge (tgt := 62) eX9_readAll_16 (by decide) (fun hc2 => ?_) (fun hc2 => ?_)
    · rw [if_pos (show 20 ≤ y4 from hc2)] at h
      cases h
      exact ev_vret eX9_readAll_62 rfl ⟨rfl, rfl⟩
    · rw [if_neg (show ¬ (20 ≤ y4) from hc2)] at h
      refine ev_al eX9_readAll_19 rfl ?_
      obtain ⟨r3, C3, hq3, h⟩ := ev_bd_some h
      refine ev_callV (kc := kc_36) (A := []) (T := []) (lk_m.1 _ _ 0 [36] (isM (by decide +kernel)) 36 (by decide)) eX9_readAll_20 (m_8_isFine hU hq3) rfl rfl rfl (by decide) (by decide) (Nat.le_of_ble_eq_true rfl) ?_
      rintro _ C3 ⟨rfl, rfl⟩
      show ev_W l D cys ty ck_tags ev_TR kc_135 23 [(0, .inr (.inl 14)), (1, .inr (.inl 8)), (2, .inr (.inl 6)), (3, .inl 8), (4, .inl y4)] [.inl r3] C3 _
      refine ev_z_eq (tgt := 62) eX9_readAll_23 (by decide) (fun hc4 => ?_) (fun hc4 => ?_)
      · rw [if_pos (show r3 = 0 from hc4)] at h
        cases h
        exact ev_vret eX9_readAll_62 rfl ⟨rfl, rfl⟩
      · rw [if_neg (show ¬ (r3 = 0) from hc4)] at h
        refine ev_al eX9_readAll_26 rfl ?_
        refine ev_bp eX9_readAll_27 (by decide) (by decide) ?_
        obtain ⟨r5, C5, hq5, h⟩ := ev_bd_some h
        refine ev_callV (kc := kc_64) (A := [.inl 17]) (T := []) (lk_m.1 _ _ 0 [64] (isM (by decide +kernel)) 64 (by decide)) eX9_readAll_29 (m_8_isAtWord hU hq5) rfl rfl rfl (by decide) (by decide) (Nat.le_of_ble_eq_true rfl) ?_
        rintro _ C5 ⟨rfl, rfl⟩
        show ev_W l D cys ty ck_tags ev_TR kc_135 32 [(0, .inr (.inl 14)), (1, .inr (.inl 8)), (2, .inr (.inl 6)), (3, .inl 8), (4, .inl y4)] [.inl r5] C5 _
        refine ev_z_eq (tgt := 62) eX9_readAll_32 (by decide) (fun hc6 => ?_) (fun hc6 => ?_)
        · rw [if_pos (show r5 = 0 from hc6)] at h
          cases h
          exact ev_vret eX9_readAll_62 rfl ⟨rfl, rfl⟩
        · rw [if_neg (show ¬ (r5 = 0) from hc6)] at h
          refine ev_al eX9_readAll_35 rfl ?_
          cases h
set_option maxRecDepth 100000 in
theorem m_9_readAll_14_8_6_k8 (hU : ev_uq ty ev_TR) {C : ev_C} {C' : ev_C} (h : f_9_readAll_14_8_6_k8 C = some C') : ev_Met l D cys ty ck_tags ev_TR kc_135 [.inr (.inl 14), .inr (.inl 8), .inr (.inl 6), .inl 8] C (fun r0 C0 => r0 = none ∧ C0 = C') := by
  unfold f_9_readAll_14_8_6_k8 at h
  refine ev_enter (by decide +kernel) (by decide +kernel) (Nat.le_of_ble_eq_true rfl) ?_
  show ev_W l D cys ty ck_tags ev_TR kc_135 0 [(0, .inr (.inl 14)), (1, .inr (.inl 8)), (2, .inr (.inl 6)), (3, .inl 8)] [] C _
  refine ev_al eX9_readAll_0 rfl ?_
  refine ev_al eX9_readAll_1 rfl ?_
  refine ev_al eX9_readAll_2 rfl ?_
  refine ev_il eX9_readAll_3 rfl ?_
  refine ev_ic eX9_readAll_4 (by decide) ?_
  refine ev_add eX9_readAll_5 ?_
  show ev_W l D cys ty ck_tags ev_TR kc_135 6 [(0, .inr (.inl 14)), (1, .inr (.inl 8)), (2, .inr (.inl 6)), (3, .inl 8)] [.inl 9, .inr (.inl 6), .inr (.inl 8), .inr (.inl 14)] C _
  obtain ⟨C1, hq1, h⟩ := ev_bv_some h
  refine ev_callV (kc := kc_134) (A := [.inr (.inl 8), .inr (.inl 6), .inl 9]) (T := []) (lk_m.1 _ _ 0 [134, 137, 140, 143, 146, 149, 152, 155, 158] (isM (by decide +kernel)) 134 (by decide)) eX9_readAll_6 (m_9_readOne_14_8_6_k9 hU hq1) rfl rfl rfl (by decide) (by decide) (Nat.le_of_ble_eq_true rfl) ?_
  rintro _ C1 ⟨rfl, rfl⟩
  show ev_W l D cys ty ck_tags ev_TR kc_135 9 [(0, .inr (.inl 14)), (1, .inr (.inl 8)), (2, .inr (.inl 6)), (3, .inl 8)] [] C1 _
  refine ev_ic eX9_readAll_9 (by decide) ?_
  refine ev_isw (L' := [(4, .inl 0), (0, .inr (.inl 14)), (1, .inr (.inl 8)), (2, .inr (.inl 6)), (3, .inl 8)]) eX9_readAll_10 (by decide) rfl ?_
  refine ev_loc (L' := [(0, .inr (.inl 14)), (1, .inr (.inl 8)), (2, .inr (.inl 6)), (3, .inl 8), (4, .inl 0)]) rfl ?_
  exact m_9_readAll_14_8_6_k8_L12 hU 1000 h
theorem eX9_readCond_0 : decode cX9_readCond 0 = .ok (.aload_n 0, 1) := by decide +kernel
theorem eX9_readCond_1 : decode cX9_readCond 1 = .ok (.aload_n 1, 1) := by decide +kernel
theorem eX9_readCond_2 : decode cX9_readCond 2 = .ok (.aload_n 2, 1) := by decide +kernel
theorem eX9_readCond_3 : decode cX9_readCond 3 = .ok (.iload_n 3, 1) := by decide +kernel
theorem eX9_readCond_4 : decode cX9_readCond 4 = .ok (.invokevirtual 57, 3) := by decide +kernel
theorem eX9_readCond_7 : decode cX9_readCond 7 = .ok (.iconst 0, 1) := by decide +kernel
theorem eX9_readCond_8 : decode cX9_readCond 8 = .ok (.istore 4, 2) := by decide +kernel
theorem eX9_readCond_10 : decode cX9_readCond 10 = .ok (.iload 4, 2) := by decide +kernel
theorem eX9_readCond_12 : decode cX9_readCond 12 = .ok (.bipush 20, 2) := by decide +kernel
theorem eX9_readCond_14 : decode cX9_readCond 14 = .ok (.if_icmp .ge 44, 3) := by decide +kernel
theorem eX9_readCond_17 : decode cX9_readCond 17 = .ok (.aload_n 1, 1) := by decide +kernel
theorem eX9_readCond_18 : decode cX9_readCond 18 = .ok (.invokevirtual 44, 3) := by decide +kernel
theorem eX9_readCond_21 : decode cX9_readCond 21 = .ok (.ifCond .eq 37, 3) := by decide +kernel
theorem eX9_readCond_24 : decode cX9_readCond 24 = .ok (.aload_n 1, 1) := by decide +kernel
theorem eX9_readCond_25 : decode cX9_readCond 25 = .ok (.bipush 16, 2) := by decide +kernel
theorem eX9_readCond_27 : decode cX9_readCond 27 = .ok (.invokevirtual 60, 3) := by decide +kernel
theorem eX9_readCond_30 : decode cX9_readCond 30 = .ok (.ifCond .eq 28, 3) := by decide +kernel
theorem eX9_readCond_33 : decode cX9_readCond 33 = .ok (.aload_n 1, 1) := by decide +kernel
theorem eX9_readCond_34 : decode cX9_readCond 34 = .ok (.invokevirtual 64, 3) := by decide +kernel
theorem eX9_readCond_37 : decode cX9_readCond 37 = .ok (.aload_n 0, 1) := by decide +kernel
theorem eX9_readCond_38 : decode cX9_readCond 38 = .ok (.aload_n 1, 1) := by decide +kernel
theorem eX9_readCond_39 : decode cX9_readCond 39 = .ok (.aload_n 2, 1) := by decide +kernel
theorem eX9_readCond_40 : decode cX9_readCond 40 = .ok (.iload_n 3, 1) := by decide +kernel
theorem eX9_readCond_41 : decode cX9_readCond 41 = .ok (.invokevirtual 57, 3) := by decide +kernel
theorem eX9_readCond_44 : decode cX9_readCond 44 = .ok (.aload_n 0, 1) := by decide +kernel
theorem eX9_readCond_45 : decode cX9_readCond 45 = .ok (.bipush 16, 2) := by decide +kernel
theorem eX9_readCond_47 : decode cX9_readCond 47 = .ok (.iconst 0, 1) := by decide +kernel
theorem eX9_readCond_48 : decode cX9_readCond 48 = .ok (.iconst 0, 1) := by decide +kernel
theorem eX9_readCond_49 : decode cX9_readCond 49 = .ok (.invokevirtual 67, 3) := by decide +kernel
theorem eX9_readCond_52 : decode cX9_readCond 52 = .ok (.iinc 4 1, 3) := by decide +kernel
theorem eX9_readCond_55 : decode cX9_readCond 55 = .ok (.goto (-45), 3) := by decide +kernel
theorem eX9_readCond_58 : decode cX9_readCond 58 = .ok (.return_, 1) := by decide +kernel
set_option maxRecDepth 100000 in
theorem m_9_readCond_14_8_6_k8_L10 (hU : ev_uq ty ev_TR) : ∀ (n : Nat) {C : ev_C} {y4 : Int} {C' : ev_C}, f_9_readCond_14_8_6_k8_L10 n C y4 = some C' → ev_W l D cys ty ck_tags ev_TR kc_136 10 [(0, .inr (.inl 14)), (1, .inr (.inl 8)), (2, .inr (.inl 6)), (3, .inl 8), (4, .inl y4)] [] C (fun r0 C0 => r0 = none ∧ C0 = C')
  | 0, _, _, _, h => by cases h
  | n + 1, C, y4, _, h => by
    unfold f_9_readCond_14_8_6_k8_L10 at h
    refine ev_ilw eX9_readCond_10 rfl ?_
    refine ev_bp eX9_readCond_12 (by decide) (by decide) ?_
    refine ev_c_ge (tgt := 58) eX9_readCond_14 (by decide) (fun hc2 => ?_) (fun hc2 => ?_)
    · rw [if_pos (show 20 ≤ y4 from hc2)] at h
      cases h
      exact ev_vret eX9_readCond_58 rfl ⟨rfl, rfl⟩
    · rw [if_neg (show ¬ (20 ≤ y4) from hc2)] at h
      refine ev_al eX9_readCond_17 rfl ?_
      obtain ⟨r3, C3, hq3, h⟩ := ev_bd_some h
      refine ev_callV (kc := kc_36) (A := []) (T := []) (lk_m.1 _ _ 0 [36] (isM (by decide +kernel)) 36 (by decide)) eX9_readCond_18 (m_8_isFine hU hq3) rfl rfl rfl (by decide) (by decide) (Nat.le_of_ble_eq_true rfl) ?_
      rintro _ C3 ⟨rfl, rfl⟩
      show ev_W l D cys ty ck_tags ev_TR kc_136 21 [(0, .inr (.inl 14)), (1, .inr (.inl 8)), (2, .inr (.inl 6)), (3, .inl 8), (4, .inl y4)] [.inl r3] C3 _
      refine ev_z_eq (tgt := 58) eX9_readCond_21 (by decide) (fun hc4 => ?_) (fun hc4 => ?_)
      · rw [if_pos (show r3 = 0 from hc4)] at h
        cases h
        exact ev_vret eX9_readCond_58 rfl ⟨rfl, rfl⟩
      · rw [if_neg (show ¬ (r3 = 0) from hc4)] at h
        refine ev_al eX9_readCond_24 rfl ?_
        refine ev_bp eX9_readCond_25 (by decide) (by decide) ?_
        obtain ⟨r5, C5, hq5, h⟩ := ev_bd_some h
        refine ev_callV (kc := kc_64) (A := [.inl 16]) (T := []) (lk_m.1 _ _ 0 [64] (isM (by decide +kernel)) 64 (by decide)) eX9_readCond_27 (m_8_isAtWord hU hq5) rfl rfl rfl (by decide) (by decide) (Nat.le_of_ble_eq_true rfl) ?_
        rintro _ C5 ⟨rfl, rfl⟩
        show ev_W l D cys ty ck_tags ev_TR kc_136 30 [(0, .inr (.inl 14)), (1, .inr (.inl 8)), (2, .inr (.inl 6)), (3, .inl 8), (4, .inl y4)] [.inl r5] C5 _
        refine ev_z_eq (tgt := 58) eX9_readCond_30 (by decide) (fun hc6 => ?_) (fun hc6 => ?_)
        · rw [if_pos (show r5 = 0 from hc6)] at h
          cases h
          exact ev_vret eX9_readCond_58 rfl ⟨rfl, rfl⟩
        · rw [if_neg (show ¬ (r5 = 0) from hc6)] at h
          refine ev_al eX9_readCond_33 rfl ?_
          obtain ⟨C7, hq7, h⟩ := ev_bv_some h
          refine ev_callV (kc := kc_57) (A := []) (T := []) (lk_m.1 _ _ 0 [57] (isM (by decide +kernel)) 57 (by decide)) eX9_readCond_34 (m_8_step hU hq7) rfl rfl rfl (by decide) (by decide) (Nat.le_of_ble_eq_true rfl) ?_
          rintro _ C7 ⟨rfl, rfl⟩
          show ev_W l D cys ty ck_tags ev_TR kc_136 37 [(0, .inr (.inl 14)), (1, .inr (.inl 8)), (2, .inr (.inl 6)), (3, .inl 8), (4, .inl y4)] [] C7 _
          refine ev_al eX9_readCond_37 rfl ?_
          refine ev_al eX9_readCond_38 rfl ?_
          refine ev_al eX9_readCond_39 rfl ?_
          refine ev_il eX9_readCond_40 rfl ?_
          obtain ⟨C8, hq8, h⟩ := ev_bv_some h
          refine ev_callV (kc := kc_135) (A := [.inr (.inl 8), .inr (.inl 6), .inl 8]) (T := []) (lk_m.1 _ _ 0 [135, 138, 141, 144, 147, 150, 153, 156, 159] (isM (by decide +kernel)) 135 (by decide)) eX9_readCond_41 (m_9_readAll_14_8_6_k8 hU hq8) rfl rfl rfl (by decide) (by decide) (Nat.le_of_ble_eq_true rfl) ?_
          rintro _ C8 ⟨rfl, rfl⟩
          show ev_W l D cys ty ck_tags ev_TR kc_136 44 [(0, .inr (.inl 14)), (1, .inr (.inl 8)), (2, .inr (.inl 6)), (3, .inl 8), (4, .inl y4)] [] C8 _
          refine ev_al eX9_readCond_44 rfl ?_
          refine ev_bp eX9_readCond_45 (by decide) (by decide) ?_
          refine ev_ic eX9_readCond_47 (by decide) ?_
          refine ev_ic eX9_readCond_48 (by decide) ?_
          obtain ⟨C9, hq9, h⟩ := ev_bv_some h
          refine ev_callV (kc := kc_121) (A := [.inl 16, .inl 0, .inl 0]) (T := []) (lk_m.1 _ _ 0 [121] (isM (by decide +kernel)) 121 (by decide)) eX9_readCond_49 (m_9_addStep_14 hU hq9) rfl rfl rfl (by decide) (by decide) (Nat.le_of_ble_eq_true rfl) ?_
          rintro _ C9 ⟨rfl, rfl⟩
          show ev_W l D cys ty ck_tags ev_TR kc_136 52 [(0, .inr (.inl 14)), (1, .inr (.inl 8)), (2, .inr (.inl 6)), (3, .inl 8), (4, .inl y4)] [] C9 _
          refine ev_inc (L' := [(4, .inl (ev_w (y4 + 1))), (0, .inr (.inl 14)), (1, .inr (.inl 8)), (2, .inr (.inl 6)), (3, .inl 8)]) eX9_readCond_52 (by decide) (by decide) rfl rfl ?_
          refine ev_goto (tgt := 10) eX9_readCond_55 (by decide) ?_
          refine ev_loc (L' := [(0, .inr (.inl 14)), (1, .inr (.inl 8)), (2, .inr (.inl 6)), (3, .inl 8), (4, .inl (ev_w (y4 + 1)))]) rfl ?_
          exact m_9_readCond_14_8_6_k8_L10 hU n h
set_option maxRecDepth 100000 in
theorem m_9_readCond_14_8_6_k8 (hU : ev_uq ty ev_TR) {C : ev_C} {C' : ev_C} (h : f_9_readCond_14_8_6_k8 C = some C') : ev_Met l D cys ty ck_tags ev_TR kc_136 [.inr (.inl 14), .inr (.inl 8), .inr (.inl 6), .inl 8] C (fun r0 C0 => r0 = none ∧ C0 = C') := by
  unfold f_9_readCond_14_8_6_k8 at h
  refine ev_enter (by decide +kernel) (by decide +kernel) (Nat.le_of_ble_eq_true rfl) ?_
  show ev_W l D cys ty ck_tags ev_TR kc_136 0 [(0, .inr (.inl 14)), (1, .inr (.inl 8)), (2, .inr (.inl 6)), (3, .inl 8)] [] C _
  refine ev_al eX9_readCond_0 rfl ?_
  refine ev_al eX9_readCond_1 rfl ?_
  refine ev_al eX9_readCond_2 rfl ?_
  refine ev_il eX9_readCond_3 rfl ?_
  obtain ⟨C1, hq1, h⟩ := ev_bv_some h
  refine ev_callV (kc := kc_135) (A := [.inr (.inl 8), .inr (.inl 6), .inl 8]) (T := []) (lk_m.1 _ _ 0 [135, 138, 141, 144, 147, 150, 153, 156, 159] (isM (by decide +kernel)) 135 (by decide)) eX9_readCond_4 (m_9_readAll_14_8_6_k8 hU hq1) rfl rfl rfl (by decide) (by decide) (Nat.le_of_ble_eq_true rfl) ?_
  rintro _ C1 ⟨rfl, rfl⟩
  show ev_W l D cys ty ck_tags ev_TR kc_136 7 [(0, .inr (.inl 14)), (1, .inr (.inl 8)), (2, .inr (.inl 6)), (3, .inl 8)] [] C1 _
  refine ev_ic eX9_readCond_7 (by decide) ?_
  refine ev_isw (L' := [(4, .inl 0), (0, .inr (.inl 14)), (1, .inr (.inl 8)), (2, .inr (.inl 6)), (3, .inl 8)]) eX9_readCond_8 (by decide) rfl ?_
  refine ev_loc (L' := [(0, .inr (.inl 14)), (1, .inr (.inl 8)), (2, .inr (.inl 6)), (3, .inl 8), (4, .inl 0)]) rfl ?_
  exact m_9_readCond_14_8_6_k8_L10 hU 1000 h
set_option maxRecDepth 100000 in
theorem m_9_readOne_14_8_6_k8_J39 (hU : ev_uq ty ev_TR) {C' : ev_C} {C : ev_C} {y4 y5 : Int} (h : f_9_readOne_14_8_6_k8_J39 C y4 y5 = some C') : ev_W l D cys ty ck_tags ev_TR kc_137 39 [(0, .inr (.inl 14)), (1, .inr (.inl 8)), (2, .inr (.inl 6)), (3, .inl 8), (4, .inl y4), (5, .inl y5)] [] C (fun r0 C0 => r0 = none ∧ C0 = C') := by
  unfold f_9_readOne_14_8_6_k8_J39 at h
  refine ev_al eX9_readOne_39 rfl ?_
  refine ev_getI lk_f (ci := 9) (j := 0) (cd := 0) eX9_readOne_40 (isF (by decide +kernel)) rfl rfl rfl ?_
  refine ev_bp eX9_readOne_43 (by decide) (by decide) ?_
  refine ev_c_ge (tgt := 54) eX9_readOne_45 (by decide) (fun hc4 => ?_) (fun hc4 => ?_)
  · rw [if_pos (show 20 ≤ (C 14 0) from hc4)] at h
    refine ev_al eX9_readOne_54 rfl ?_
    refine ev_ic eX9_readOne_55 (by decide) ?_
    obtain ⟨C5, hq5, h⟩ := ev_bv_some h
    refine ev_callV (kc := kc_35) (A := [.inl 4]) (T := []) (lk_m.1 _ _ 0 [35] (isM (by decide +kernel)) 35 (by decide)) eX9_readOne_56 (m_8_fail hU hq5) rfl rfl rfl (by decide) (by decide) (Nat.le_of_ble_eq_true rfl) ?_
    rintro _ C5 ⟨rfl, rfl⟩
    show ev_W l D cys ty ck_tags ev_TR kc_137 59 [(0, .inr (.inl 14)), (1, .inr (.inl 8)), (2, .inr (.inl 6)), (3, .inl 8), (4, .inl y4), (5, .inl y5)] [] C5 _
    cases h
    exact ev_vret eX9_readOne_59 rfl ⟨rfl, rfl⟩
  · rw [if_neg (show ¬ (20 ≤ (C 14 0)) from hc4)] at h
    refine ev_il eX9_readOne_48 rfl ?_
    refine ev_bp eX9_readOne_49 (by decide) (by decide) ?_
    refine ev_c_le (tgt := 60) eX9_readOne_51 (by decide) (fun _ => ?_) (fun hc => absurd (show (8 : Int) ≤ 8 by decide) hc)
    refine ev_al eX9_readOne_60 rfl ?_
    refine ev_dup eX9_readOne_61 rfl ?_
    refine ev_getI lk_f (ci := 9) (j := 0) (cd := 0) eX9_readOne_62 (isF (by decide +kernel)) rfl rfl rfl ?_
    refine ev_ic eX9_readOne_65 (by decide) ?_
    refine ev_add eX9_readOne_66 ?_
    refine ev_putI lk_f hU (ci := 9) (j := 0) (cd := 0) eX9_readOne_67 (isF (by decide +kernel)) rfl rfl (Or.inl rfl) rfl ?_
    refine ev_al eX9_readOne_70 rfl ?_
    obtain ⟨C6, hq6, h⟩ := ev_bv_some h
    refine ev_callV (kc := kc_57) (A := []) (T := []) (lk_m.1 _ _ 0 [57] (isM (by decide +kernel)) 57 (by decide)) eX9_readOne_71 (m_8_step hU hq6) rfl rfl rfl (by decide) (by decide) (Nat.le_of_ble_eq_true rfl) ?_
    rintro _ C6 ⟨rfl, rfl⟩
    show ev_W l D cys ty ck_tags ev_TR kc_137 74 [(0, .inr (.inl 14)), (1, .inr (.inl 8)), (2, .inr (.inl 6)), (3, .inl 8), (4, .inl y4), (5, .inl y5)] [] C6 _
    refine ev_ilw eX9_readOne_74 rfl ?_
    refine ev_z_eq (tgt := 102) eX9_readOne_76 (by decide) (fun hc7 => ?_) (fun hc7 => ?_)
    · rw [if_pos (show y5 = 0 from hc7)] at h
      refine ev_ilw eX9_readOne_102 rfl ?_
      refine ev_bp eX9_readOne_104 (by decide) (by decide) ?_
      refine ev_c_ne (tgt := 129) eX9_readOne_106 (by decide) (fun hc8 => ?_) (fun hc8 => ?_)
      · rw [if_pos (show y4 ≠ 18 from hc8)] at h
        refine ev_al eX9_readOne_129 rfl ?_
        refine ev_al eX9_readOne_130 rfl ?_
        refine ev_al eX9_readOne_131 rfl ?_
        refine ev_ilw eX9_readOne_132 rfl ?_
        obtain ⟨C9, hq9, h⟩ := ev_bv_some h
        refine ev_callV (kc := kc_133) (A := [.inr (.inl 8), .inr (.inl 6), .inl y4]) (T := []) (lk_m.1 _ _ 0 [133] (isM (by decide +kernel)) 133 (by decide)) eX9_readOne_134 (m_9_readPlainOne_14_8_6 hU hq9) rfl rfl rfl (by decide) (by decide) (Nat.le_of_ble_eq_true rfl) ?_
        rintro _ C9 ⟨rfl, rfl⟩
        show ev_W l D cys ty ck_tags ev_TR kc_137 137 [(0, .inr (.inl 14)), (1, .inr (.inl 8)), (2, .inr (.inl 6)), (3, .inl 8), (4, .inl y4), (5, .inl y5)] [] C9 _
        cases h
        exact ev_vret eX9_readOne_137 rfl ⟨rfl, rfl⟩
      · rw [if_neg (show ¬ (y4 ≠ 18) from hc8)] at h
        refine ev_al eX9_readOne_109 rfl ?_
        refine ev_al eX9_readOne_110 rfl ?_
        refine ev_al eX9_readOne_111 rfl ?_
        refine ev_il eX9_readOne_112 rfl ?_
        refine ev_ic eX9_readOne_113 (by decide) ?_
        refine ev_add eX9_readOne_114 ?_
        show ev_W l D cys ty ck_tags ev_TR kc_137 115 [(0, .inr (.inl 14)), (1, .inr (.inl 8)), (2, .inr (.inl 6)), (3, .inl 8), (4, .inl y4), (5, .inl y5)] [.inl 9, .inr (.inl 6), .inr (.inl 8), .inr (.inl 14)] C6 _
        obtain ⟨C10, hq10, h⟩ := ev_bv_some h
        refine ev_callV (kc := kc_134) (A := [.inr (.inl 8), .inr (.inl 6), .inl 9]) (T := []) (lk_m.1 _ _ 0 [134, 137, 140, 143, 146, 149, 152, 155, 158] (isM (by decide +kernel)) 134 (by decide)) eX9_readOne_115 (m_9_readOne_14_8_6_k9 hU hq10) rfl rfl rfl (by decide) (by decide) (Nat.le_of_ble_eq_true rfl) ?_
        rintro _ C10 ⟨rfl, rfl⟩
        show ev_W l D cys ty ck_tags ev_TR kc_137 118 [(0, .inr (.inl 14)), (1, .inr (.inl 8)), (2, .inr (.inl 6)), (3, .inl 8), (4, .inl y4), (5, .inl y5)] [] C10 _
        refine ev_al eX9_readOne_118 rfl ?_
        refine ev_bp eX9_readOne_119 (by decide) (by decide) ?_
        refine ev_ic eX9_readOne_121 (by decide) ?_
        refine ev_ic eX9_readOne_122 (by decide) ?_
        obtain ⟨C11, hq11, h⟩ := ev_bv_some h
        refine ev_callV (kc := kc_121) (A := [.inl 18, .inl 0, .inl 0]) (T := []) (lk_m.1 _ _ 0 [121] (isM (by decide +kernel)) 121 (by decide)) eX9_readOne_123 (m_9_addStep_14 hU hq11) rfl rfl rfl (by decide) (by decide) (Nat.le_of_ble_eq_true rfl) ?_
        rintro _ C11 ⟨rfl, rfl⟩
        show ev_W l D cys ty ck_tags ev_TR kc_137 126 [(0, .inr (.inl 14)), (1, .inr (.inl 8)), (2, .inr (.inl 6)), (3, .inl 8), (4, .inl y4), (5, .inl y5)] [] C11 _
        refine ev_goto (tgt := 137) eX9_readOne_126 (by decide) ?_
        cases h
        exact ev_vret eX9_readOne_137 rfl ⟨rfl, rfl⟩
    · rw [if_neg (show ¬ (y5 = 0) from hc7)] at h
      refine ev_al eX9_readOne_79 rfl ?_
      refine ev_al eX9_readOne_80 rfl ?_
      refine ev_al eX9_readOne_81 rfl ?_
      refine ev_il eX9_readOne_82 rfl ?_
      obtain ⟨C12, hq12, h⟩ := ev_bv_some h
      refine ev_callV (kc := kc_136) (A := [.inr (.inl 8), .inr (.inl 6), .inl 8]) (T := []) (lk_m.1 _ _ 0 [136, 139, 142, 145, 148, 151, 154, 157, 160] (isM (by decide +kernel)) 136 (by decide)) eX9_readOne_83 (m_9_readCond_14_8_6_k8 hU hq12) rfl rfl rfl (by decide) (by decide) (Nat.le_of_ble_eq_true rfl) ?_
      rintro _ C12 ⟨rfl, rfl⟩
      show ev_W l D cys ty ck_tags ev_TR kc_137 86 [(0, .inr (.inl 14)), (1, .inr (.inl 8)), (2, .inr (.inl 6)), (3, .inl 8), (4, .inl y4), (5, .inl y5)] [] C12 _
      refine ev_al eX9_readOne_86 rfl ?_
      obtain ⟨r13, C13, hq13, h⟩ := ev_bd_some h
      refine ev_callV (kc := kc_36) (A := []) (T := []) (lk_m.1 _ _ 0 [36] (isM (by decide +kernel)) 36 (by decide)) eX9_readOne_87 (m_8_isFine hU hq13) rfl rfl rfl (by decide) (by decide) (Nat.le_of_ble_eq_true rfl) ?_
      rintro _ C13 ⟨rfl, rfl⟩
      show ev_W l D cys ty ck_tags ev_TR kc_137 90 [(0, .inr (.inl 14)), (1, .inr (.inl 8)), (2, .inr (.inl 6)), (3, .inl 8), (4, .inl y4), (5, .inl y5)] [.inl r13] C13 _
      refine ev_z_eq (tgt := 137) eX9_readOne_90 (by decide) (fun hc14 => ?_) (fun hc14 => ?_)
      · rw [if_pos (show r13 = 0 from hc14)] at h
        cases h
        exact ev_vret eX9_readOne_137 rfl ⟨rfl, rfl⟩
      · rw [if_neg (show ¬ (r13 = 0) from hc14)] at h
        refine ev_al eX9_readOne_93 rfl ?_
        refine ev_bp eX9_readOne_94 (by decide) (by decide) ?_
        obtain ⟨C15, hq15, h⟩ := ev_bv_some h
        refine ev_callV (kc := kc_68) (A := [.inl 41]) (T := []) (lk_m.1 _ _ 0 [68] (isM (by decide +kernel)) 68 (by decide)) eX9_readOne_96 (m_8_takeSign hU hq15) rfl rfl rfl (by decide) (by decide) (Nat.le_of_ble_eq_true rfl) ?_
        rintro _ C15 ⟨rfl, rfl⟩
        show ev_W l D cys ty ck_tags ev_TR kc_137 99 [(0, .inr (.inl 14)), (1, .inr (.inl 8)), (2, .inr (.inl 6)), (3, .inl 8), (4, .inl y4), (5, .inl y5)] [] C15 _
        refine ev_goto (tgt := 137) eX9_readOne_99 (by decide) ?_
        cases h
        exact ev_vret eX9_readOne_137 rfl ⟨rfl, rfl⟩
set_option maxRecDepth 100000 in
theorem m_9_readOne_14_8_6_k8 (hU : ev_uq ty ev_TR) {C : ev_C} {C' : ev_C} (h : f_9_readOne_14_8_6_k8 C = some C') : ev_Met l D cys ty ck_tags ev_TR kc_137 [.inr (.inl 14), .inr (.inl 8), .inr (.inl 6), .inl 8] C (fun r0 C0 => r0 = none ∧ C0 = C') := by
  unfold f_9_readOne_14_8_6_k8 at h
  refine ev_enter (by decide +kernel) (by decide +kernel) (Nat.le_of_ble_eq_true rfl) ?_
  show ev_W l D cys ty ck_tags ev_TR kc_137 0 [(0, .inr (.inl 14)), (1, .inr (.inl 8)), (2, .inr (.inl 6)), (3, .inl 8)] [] C _
  refine ev_al eX9_readOne_0 rfl ?_
  obtain ⟨r1, C1, hq1, h⟩ := ev_bd_some h
  refine ev_callV (kc := kc_66) (A := []) (T := []) (lk_m.1 _ _ 0 [66] (isM (by decide +kernel)) 66 (by decide)) eX9_readOne_1 (m_8_wordHere hU hq1) rfl rfl rfl (by decide) (by decide) (Nat.le_of_ble_eq_true rfl) ?_
  rintro _ C1 ⟨rfl, rfl⟩
  show ev_W l D cys ty ck_tags ev_TR kc_137 4 [(0, .inr (.inl 14)), (1, .inr (.inl 8)), (2, .inr (.inl 6)), (3, .inl 8)] [.inl r1] C1 _
  refine ev_isw (L' := [(4, .inl r1), (0, .inr (.inl 14)), (1, .inr (.inl 8)), (2, .inr (.inl 6)), (3, .inl 8)]) eX9_readOne_4 (by decide) rfl ?_
  refine ev_al eX9_readOne_6 rfl ?_
  refine ev_bp eX9_readOne_7 (by decide) (by decide) ?_
  obtain ⟨r2, C2, hq2, h⟩ := ev_bd_some h
  refine ev_callV (kc := kc_67) (A := [.inl 40]) (T := []) (lk_m.1 _ _ 0 [67] (isM (by decide +kernel)) 67 (by decide)) eX9_readOne_9 (m_8_isAtSign hU hq2) rfl rfl rfl (by decide) (by decide) (Nat.le_of_ble_eq_true rfl) ?_
  rintro _ C2 ⟨rfl, rfl⟩
  show ev_W l D cys ty ck_tags ev_TR kc_137 12 [(4, .inl r1), (0, .inr (.inl 14)), (1, .inr (.inl 8)), (2, .inr (.inl 6)), (3, .inl 8)] [.inl r2] C2 _
  refine ev_isw (L' := [(5, .inl r2), (4, .inl r1), (0, .inr (.inl 14)), (1, .inr (.inl 8)), (2, .inr (.inl 6)), (3, .inl 8)]) eX9_readOne_12 (by decide) rfl ?_
  refine ev_ilw eX9_readOne_14 rfl ?_
  refine ev_z_ne (tgt := 39) eX9_readOne_16 (by decide) (fun hc3 => ?_) (fun hc3 => ?_)
  · rw [if_pos (show r2 ≠ 0 from hc3)] at h
    refine ev_loc (L' := [(0, .inr (.inl 14)), (1, .inr (.inl 8)), (2, .inr (.inl 6)), (3, .inl 8), (4, .inl r1), (5, .inl r2)]) rfl ?_
    exact m_9_readOne_14_8_6_k8_J39 hU h
  · rw [if_neg (show ¬ (r2 ≠ 0) from hc3)] at h
    refine ev_ilw eX9_readOne_19 rfl ?_
    refine ev_bp eX9_readOne_21 (by decide) (by decide) ?_
    refine ev_c_lt (tgt := 33) eX9_readOne_23 (by decide) (fun hc16 => ?_) (fun hc16 => ?_)
    · rw [if_pos (show r1 < 18 from hc16)] at h
      refine ev_al eX9_readOne_33 rfl ?_
      refine ev_ic eX9_readOne_34 (by decide) ?_
      obtain ⟨C17, hq17, h⟩ := ev_bv_some h
      refine ev_callV (kc := kc_35) (A := [.inl 1]) (T := []) (lk_m.1 _ _ 0 [35] (isM (by decide +kernel)) 35 (by decide)) eX9_readOne_35 (m_8_fail hU hq17) rfl rfl rfl (by decide) (by decide) (Nat.le_of_ble_eq_true rfl) ?_
      rintro _ C17 ⟨rfl, rfl⟩
      show ev_W l D cys ty ck_tags ev_TR kc_137 38 [(5, .inl r2), (4, .inl r1), (0, .inr (.inl 14)), (1, .inr (.inl 8)), (2, .inr (.inl 6)), (3, .inl 8)] [] C17 _
      cases h
      exact ev_vret eX9_readOne_38 rfl ⟨rfl, rfl⟩
    · rw [if_neg (show ¬ (r1 < 18) from hc16)] at h
      refine ev_ilw eX9_readOne_26 rfl ?_
      refine ev_bp eX9_readOne_28 (by decide) (by decide) ?_
      refine ev_c_le (tgt := 39) eX9_readOne_30 (by decide) (fun hc18 => ?_) (fun hc18 => ?_)
      · rw [if_pos (show r1 ≤ 26 from hc18)] at h
        refine ev_loc (L' := [(0, .inr (.inl 14)), (1, .inr (.inl 8)), (2, .inr (.inl 6)), (3, .inl 8), (4, .inl r1), (5, .inl r2)]) rfl ?_
        exact m_9_readOne_14_8_6_k8_J39 hU h
      · rw [if_neg (show ¬ (r1 ≤ 26) from hc18)] at h
        refine ev_al eX9_readOne_33 rfl ?_
        refine ev_ic eX9_readOne_34 (by decide) ?_
        obtain ⟨C19, hq19, h⟩ := ev_bv_some h
        refine ev_callV (kc := kc_35) (A := [.inl 1]) (T := []) (lk_m.1 _ _ 0 [35] (isM (by decide +kernel)) 35 (by decide)) eX9_readOne_35 (m_8_fail hU hq19) rfl rfl rfl (by decide) (by decide) (Nat.le_of_ble_eq_true rfl) ?_
        rintro _ C19 ⟨rfl, rfl⟩
        show ev_W l D cys ty ck_tags ev_TR kc_137 38 [(5, .inl r2), (4, .inl r1), (0, .inr (.inl 14)), (1, .inr (.inl 8)), (2, .inr (.inl 6)), (3, .inl 8)] [] C19 _
        cases h
        exact ev_vret eX9_readOne_38 rfl ⟨rfl, rfl⟩
set_option maxRecDepth 100000 in
theorem m_9_readAll_14_8_6_k7_L12 (hU : ev_uq ty ev_TR) : ∀ (n : Nat) {C : ev_C} {y4 : Int} {C' : ev_C}, f_9_readAll_14_8_6_k7_L12 n C y4 = some C' → ev_W l D cys ty ck_tags ev_TR kc_138 12 [(0, .inr (.inl 14)), (1, .inr (.inl 8)), (2, .inr (.inl 6)), (3, .inl 7), (4, .inl y4)] [] C (fun r0 C0 => r0 = none ∧ C0 = C')
  | 0, _, _, _, h => by cases h
  | n + 1, C, y4, _, h => by
    unfold f_9_readAll_14_8_6_k7_L12 at h
    refine ev_ilw eX9_readAll_12 rfl ?_
    refine ev_bp eX9_readAll_14 (by decide) (by decide) ?_
    refine ev_c_ge (tgt := 62) eX9_readAll_16 (by decide) (fun hc2 => ?_) (fun hc2 => ?_)
    · rw [if_pos (show 20 ≤ y4 from hc2)] at h
      cases h
      exact ev_vret eX9_readAll_62 rfl ⟨rfl, rfl⟩
    · rw [if_neg (show ¬ (20 ≤ y4) from hc2)] at h
      refine ev_al eX9_readAll_19 rfl ?_
      obtain ⟨r3, C3, hq3, h⟩ := ev_bd_some h
      refine ev_callV (kc := kc_36) (A := []) (T := []) (lk_m.1 _ _ 0 [36] (isM (by decide +kernel)) 36 (by decide)) eX9_readAll_20 (m_8_isFine hU hq3) rfl rfl rfl (by decide) (by decide) (Nat.le_of_ble_eq_true rfl) ?_
      rintro _ C3 ⟨rfl, rfl⟩
      show ev_W l D cys ty ck_tags ev_TR kc_138 23 [(0, .inr (.inl 14)), (1, .inr (.inl 8)), (2, .inr (.inl 6)), (3, .inl 7), (4, .inl y4)] [.inl r3] C3 _
      refine ev_z_eq (tgt := 62) eX9_readAll_23 (by decide) (fun hc4 => ?_) (fun hc4 => ?_)
      · rw [if_pos (show r3 = 0 from hc4)] at h
        cases h
        exact ev_vret eX9_readAll_62 rfl ⟨rfl, rfl⟩
      · rw [if_neg (show ¬ (r3 = 0) from hc4)] at h
        refine ev_al eX9_readAll_26 rfl ?_
        refine ev_bp eX9_readAll_27 (by decide) (by decide) ?_
        obtain ⟨r5, C5, hq5, h⟩ := ev_bd_some h
        refine ev_callV (kc := kc_64) (A := [.inl 17]) (T := []) (lk_m.1 _ _ 0 [64] (isM (by decide +kernel)) 64 (by decide)) eX9_readAll_29 (m_8_isAtWord hU hq5) rfl rfl rfl (by decide) (by decide) (Nat.le_of_ble_eq_true rfl) ?_
        rintro _ C5 ⟨rfl, rfl⟩
        show ev_W l D cys ty ck_tags ev_TR kc_138 32 [(0, .inr (.inl 14)), (1, .inr (.inl 8)), (2, .inr (.inl 6)), (3, .inl 7), (4, .inl y4)] [.inl r5] C5 _
        refine ev_z_eq (tgt := 62) eX9_readAll_32 (by decide) (fun hc6 => ?_) (fun hc6 => ?_)
        · rw [if_pos (show r5 = 0 from hc6)] at h
          cases h
          exact ev_vret eX9_readAll_62 rfl ⟨rfl, rfl⟩
        · rw [if_neg (show ¬ (r5 = 0) from hc6)] at h
          refine ev_al eX9_readAll_35 rfl ?_
          obtain ⟨C7, hq7, h⟩ := ev_bv_some h
          refine ev_callV (kc := kc_57) (A := []) (T := []) (lk_m.1 _ _ 0 [57] (isM (by decide +kernel)) 57 (by decide)) eX9_readAll_36 (m_8_step hU hq7) rfl rfl rfl (by decide) (by decide) (Nat.le_of_ble_eq_true rfl) ?_
          rintro _ C7 ⟨rfl, rfl⟩
          show ev_W l D cys ty ck_tags ev_TR kc_138 39 [(0, .inr (.inl 14)), (1, .inr (.inl 8)), (2, .inr (.inl 6)), (3, .inl 7), (4, .inl y4)] [] C7 _
          refine ev_al eX9_readAll_39 rfl ?_
          refine ev_al eX9_readAll_40 rfl ?_
          refine ev_al eX9_readAll_41 rfl ?_
          refine ev_il eX9_readAll_42 rfl ?_
          refine ev_ic eX9_readAll_43 (by decide) ?_
          refine ev_add eX9_readAll_44 ?_
          show ev_W l D cys ty ck_tags ev_TR kc_138 45 [(0, .inr (.inl 14)), (1, .inr (.inl 8)), (2, .inr (.inl 6)), (3, .inl 7), (4, .inl y4)] [.inl 8, .inr (.inl 6), .inr (.inl 8), .inr (.inl 14)] C7 _
          obtain ⟨C8, hq8, h⟩ := ev_bv_some h
          refine ev_callV (kc := kc_137) (A := [.inr (.inl 8), .inr (.inl 6), .inl 8]) (T := []) (lk_m.1 _ _ 0 [134, 137, 140, 143, 146, 149, 152, 155, 158] (isM (by decide +kernel)) 137 (by decide)) eX9_readAll_45 (m_9_readOne_14_8_6_k8 hU hq8) rfl rfl rfl (by decide) (by decide) (Nat.le_of_ble_eq_true rfl) ?_
          rintro _ C8 ⟨rfl, rfl⟩
          show ev_W l D cys ty ck_tags ev_TR kc_138 48 [(0, .inr (.inl 14)), (1, .inr (.inl 8)), (2, .inr (.inl 6)), (3, .inl 7), (4, .inl y4)] [] C8 _
          refine ev_al eX9_readAll_48 rfl ?_
          refine ev_bp eX9_readAll_49 (by decide) (by decide) ?_
          refine ev_ic eX9_readAll_51 (by decide) ?_
          refine ev_ic eX9_readAll_52 (by decide) ?_
          obtain ⟨C9, hq9, h⟩ := ev_bv_some h
          refine ev_callV (kc := kc_121) (A := [.inl 17, .inl 0, .inl 0]) (T := []) (lk_m.1 _ _ 0 [121] (isM (by decide +kernel)) 121 (by decide)) eX9_readAll_53 (m_9_addStep_14 hU hq9) rfl rfl rfl (by decide) (by decide) (Nat.le_of_ble_eq_true rfl) ?_
          rintro _ C9 ⟨rfl, rfl⟩
          show ev_W l D cys ty ck_tags ev_TR kc_138 56 [(0, .inr (.inl 14)), (1, .inr (.inl 8)), (2, .inr (.inl 6)), (3, .inl 7), (4, .inl y4)] [] C9 _
          refine ev_inc (L' := [(4, .inl (ev_w (y4 + 1))), (0, .inr (.inl 14)), (1, .inr (.inl 8)), (2, .inr (.inl 6)), (3, .inl 7)]) eX9_readAll_56 (by decide) (by decide) rfl rfl ?_
          refine ev_goto (tgt := 12) eX9_readAll_59 (by decide) ?_
          refine ev_loc (L' := [(0, .inr (.inl 14)), (1, .inr (.inl 8)), (2, .inr (.inl 6)), (3, .inl 7), (4, .inl (ev_w (y4 + 1)))]) rfl ?_
          exact m_9_readAll_14_8_6_k7_L12 hU n h
set_option maxRecDepth 100000 in
theorem m_9_readAll_14_8_6_k7 (hU : ev_uq ty ev_TR) {C : ev_C} {C' : ev_C} (h : f_9_readAll_14_8_6_k7 C = some C') : ev_Met l D cys ty ck_tags ev_TR kc_138 [.inr (.inl 14), .inr (.inl 8), .inr (.inl 6), .inl 7] C (fun r0 C0 => r0 = none ∧ C0 = C') := by
  unfold f_9_readAll_14_8_6_k7 at h
  refine ev_enter (by decide +kernel) (by decide +kernel) (Nat.le_of_ble_eq_true rfl) ?_
  show ev_W l D cys ty ck_tags ev_TR kc_138 0 [(0, .inr (.inl 14)), (1, .inr (.inl 8)), (2, .inr (.inl 6)), (3, .inl 7)] [] C _
  refine ev_al eX9_readAll_0 rfl ?_
  refine ev_al eX9_readAll_1 rfl ?_
  refine ev_al eX9_readAll_2 rfl ?_
  refine ev_il eX9_readAll_3 rfl ?_
  refine ev_ic eX9_readAll_4 (by decide) ?_
  refine ev_add eX9_readAll_5 ?_
  show ev_W l D cys ty ck_tags ev_TR kc_138 6 [(0, .inr (.inl 14)), (1, .inr (.inl 8)), (2, .inr (.inl 6)), (3, .inl 7)] [.inl 8, .inr (.inl 6), .inr (.inl 8), .inr (.inl 14)] C _
  obtain ⟨C1, hq1, h⟩ := ev_bv_some h
  refine ev_callV (kc := kc_137) (A := [.inr (.inl 8), .inr (.inl 6), .inl 8]) (T := []) (lk_m.1 _ _ 0 [134, 137, 140, 143, 146, 149, 152, 155, 158] (isM (by decide +kernel)) 137 (by decide)) eX9_readAll_6 (m_9_readOne_14_8_6_k8 hU hq1) rfl rfl rfl (by decide) (by decide) (Nat.le_of_ble_eq_true rfl) ?_
  rintro _ C1 ⟨rfl, rfl⟩
  show ev_W l D cys ty ck_tags ev_TR kc_138 9 [(0, .inr (.inl 14)), (1, .inr (.inl 8)), (2, .inr (.inl 6)), (3, .inl 7)] [] C1 _
  refine ev_ic eX9_readAll_9 (by decide) ?_
  refine ev_isw (L' := [(4, .inl 0), (0, .inr (.inl 14)), (1, .inr (.inl 8)), (2, .inr (.inl 6)), (3, .inl 7)]) eX9_readAll_10 (by decide) rfl ?_
  refine ev_loc (L' := [(0, .inr (.inl 14)), (1, .inr (.inl 8)), (2, .inr (.inl 6)), (3, .inl 7), (4, .inl 0)]) rfl ?_
  exact m_9_readAll_14_8_6_k7_L12 hU 1000 h
set_option maxRecDepth 100000 in
theorem m_9_readCond_14_8_6_k7_L10 (hU : ev_uq ty ev_TR) : ∀ (n : Nat) {C : ev_C} {y4 : Int} {C' : ev_C}, f_9_readCond_14_8_6_k7_L10 n C y4 = some C' → ev_W l D cys ty ck_tags ev_TR kc_139 10 [(0, .inr (.inl 14)), (1, .inr (.inl 8)), (2, .inr (.inl 6)), (3, .inl 7), (4, .inl y4)] [] C (fun r0 C0 => r0 = none ∧ C0 = C')
  | 0, _, _, _, h => by cases h
  | n + 1, C, y4, _, h => by
    unfold f_9_readCond_14_8_6_k7_L10 at h
    refine ev_ilw eX9_readCond_10 rfl ?_
    refine ev_bp eX9_readCond_12 (by decide) (by decide) ?_
    refine ev_c_ge (tgt := 58) eX9_readCond_14 (by decide) (fun hc2 => ?_) (fun hc2 => ?_)
    · rw [if_pos (show 20 ≤ y4 from hc2)] at h
      cases h
      exact ev_vret eX9_readCond_58 rfl ⟨rfl, rfl⟩
    · rw [if_neg (show ¬ (20 ≤ y4) from hc2)] at h
      refine ev_al eX9_readCond_17 rfl ?_
      obtain ⟨r3, C3, hq3, h⟩ := ev_bd_some h
      refine ev_callV (kc := kc_36) (A := []) (T := []) (lk_m.1 _ _ 0 [36] (isM (by decide +kernel)) 36 (by decide)) eX9_readCond_18 (m_8_isFine hU hq3) rfl rfl rfl (by decide) (by decide) (Nat.le_of_ble_eq_true rfl) ?_
      rintro _ C3 ⟨rfl, rfl⟩
      show ev_W l D cys ty ck_tags ev_TR kc_139 21 [(0, .inr (.inl 14)), (1, .inr (.inl 8)), (2, .inr (.inl 6)), (3, .inl 7), (4, .inl y4)] [.inl r3] C3 _
      refine ev_z_eq (tgt := 58) eX9_readCond_21 (by decide) (fun hc4 => ?_) (fun hc4 => ?_)
      · rw [if_pos (show r3 = 0 from hc4)] at h
        cases h
        exact ev_vret eX9_readCond_58 rfl ⟨rfl, rfl⟩
      · rw [if_neg (show ¬ (r3 = 0) from hc4)] at h
        refine ev_al eX9_readCond_24 rfl ?_
        refine ev_bp eX9_readCond_25 (by decide) (by decide) ?_
        obtain ⟨r5, C5, hq5, h⟩ := ev_bd_some h
        refine ev_callV (kc := kc_64) (A := [.inl 16]) (T := []) (lk_m.1 _ _ 0 [64] (isM (by decide +kernel)) 64 (by decide)) eX9_readCond_27 (m_8_isAtWord hU hq5) rfl rfl rfl (by decide) (by decide) (Nat.le_of_ble_eq_true rfl) ?_
        rintro _ C5 ⟨rfl, rfl⟩
        show ev_W l D cys ty ck_tags ev_TR kc_139 30 [(0, .inr (.inl 14)), (1, .inr (.inl 8)), (2, .inr (.inl 6)), (3, .inl 7), (4, .inl y4)] [.inl r5] C5 _
        refine ev_z_eq (tgt := 58) eX9_readCond_30 (by decide) (fun hc6 => ?_) (fun hc6 => ?_)
        · rw [if_pos (show r5 = 0 from hc6)] at h
          cases h
          exact ev_vret eX9_readCond_58 rfl ⟨rfl, rfl⟩
        · rw [if_neg (show ¬ (r5 = 0) from hc6)] at h
          refine ev_al eX9_readCond_33 rfl ?_
          obtain ⟨C7, hq7, h⟩ := ev_bv_some h
          refine ev_callV (kc := kc_57) (A := []) (T := []) (lk_m.1 _ _ 0 [57] (isM (by decide +kernel)) 57 (by decide)) eX9_readCond_34 (m_8_step hU hq7) rfl rfl rfl (by decide) (by decide) (Nat.le_of_ble_eq_true rfl) ?_
          rintro _ C7 ⟨rfl, rfl⟩
          show ev_W l D cys ty ck_tags ev_TR kc_139 37 [(0, .inr (.inl 14)), (1, .inr (.inl 8)), (2, .inr (.inl 6)), (3, .inl 7), (4, .inl y4)] [] C7 _
          refine ev_al eX9_readCond_37 rfl ?_
          refine ev_al eX9_readCond_38 rfl ?_
          refine ev_al eX9_readCond_39 rfl ?_
          refine ev_il eX9_readCond_40 rfl ?_
          obtain ⟨C8, hq8, h⟩ := ev_bv_some h
          refine ev_callV (kc := kc_138) (A := [.inr (.inl 8), .inr (.inl 6), .inl 7]) (T := []) (lk_m.1 _ _ 0 [135, 138, 141, 144, 147, 150, 153, 156, 159] (isM (by decide +kernel)) 138 (by decide)) eX9_readCond_41 (m_9_readAll_14_8_6_k7 hU hq8) rfl rfl rfl (by decide) (by decide) (Nat.le_of_ble_eq_true rfl) ?_
          rintro _ C8 ⟨rfl, rfl⟩
          show ev_W l D cys ty ck_tags ev_TR kc_139 44 [(0, .inr (.inl 14)), (1, .inr (.inl 8)), (2, .inr (.inl 6)), (3, .inl 7), (4, .inl y4)] [] C8 _
          refine ev_al eX9_readCond_44 rfl ?_
          refine ev_bp eX9_readCond_45 (by decide) (by decide) ?_
          refine ev_ic eX9_readCond_47 (by decide) ?_
          refine ev_ic eX9_readCond_48 (by decide) ?_
          obtain ⟨C9, hq9, h⟩ := ev_bv_some h
          refine ev_callV (kc := kc_121) (A := [.inl 16, .inl 0, .inl 0]) (T := []) (lk_m.1 _ _ 0 [121] (isM (by decide +kernel)) 121 (by decide)) eX9_readCond_49 (m_9_addStep_14 hU hq9) rfl rfl rfl (by decide) (by decide) (Nat.le_of_ble_eq_true rfl) ?_
          rintro _ C9 ⟨rfl, rfl⟩
          show ev_W l D cys ty ck_tags ev_TR kc_139 52 [(0, .inr (.inl 14)), (1, .inr (.inl 8)), (2, .inr (.inl 6)), (3, .inl 7), (4, .inl y4)] [] C9 _
          refine ev_inc (L' := [(4, .inl (ev_w (y4 + 1))), (0, .inr (.inl 14)), (1, .inr (.inl 8)), (2, .inr (.inl 6)), (3, .inl 7)]) eX9_readCond_52 (by decide) (by decide) rfl rfl ?_
          refine ev_goto (tgt := 10) eX9_readCond_55 (by decide) ?_
          refine ev_loc (L' := [(0, .inr (.inl 14)), (1, .inr (.inl 8)), (2, .inr (.inl 6)), (3, .inl 7), (4, .inl (ev_w (y4 + 1)))]) rfl ?_
          exact m_9_readCond_14_8_6_k7_L10 hU n h
set_option maxRecDepth 100000 in
theorem m_9_readCond_14_8_6_k7 (hU : ev_uq ty ev_TR) {C : ev_C} {C' : ev_C} (h : f_9_readCond_14_8_6_k7 C = some C') : ev_Met l D cys ty ck_tags ev_TR kc_139 [.inr (.inl 14), .inr (.inl 8), .inr (.inl 6), .inl 7] C (fun r0 C0 => r0 = none ∧ C0 = C') := by
  unfold f_9_readCond_14_8_6_k7 at h
  refine ev_enter (by decide +kernel) (by decide +kernel) (Nat.le_of_ble_eq_true rfl) ?_
  show ev_W l D cys ty ck_tags ev_TR kc_139 0 [(0, .inr (.inl 14)), (1, .inr (.inl 8)), (2, .inr (.inl 6)), (3, .inl 7)] [] C _
  refine ev_al eX9_readCond_0 rfl ?_
  refine ev_al eX9_readCond_1 rfl ?_
  refine ev_al eX9_readCond_2 rfl ?_
  refine ev_il eX9_readCond_3 rfl ?_
  obtain ⟨C1, hq1, h⟩ := ev_bv_some h
  refine ev_callV (kc := kc_138) (A := [.inr (.inl 8), .inr (.inl 6), .inl 7]) (T := []) (lk_m.1 _ _ 0 [135, 138, 141, 144, 147, 150, 153, 156, 159] (isM (by decide +kernel)) 138 (by decide)) eX9_readCond_4 (m_9_readAll_14_8_6_k7 hU hq1) rfl rfl rfl (by decide) (by decide) (Nat.le_of_ble_eq_true rfl) ?_
  rintro _ C1 ⟨rfl, rfl⟩
  show ev_W l D cys ty ck_tags ev_TR kc_139 7 [(0, .inr (.inl 14)), (1, .inr (.inl 8)), (2, .inr (.inl 6)), (3, .inl 7)] [] C1 _
  refine ev_ic eX9_readCond_7 (by decide) ?_
  refine ev_isw (L' := [(4, .inl 0), (0, .inr (.inl 14)), (1, .inr (.inl 8)), (2, .inr (.inl 6)), (3, .inl 7)]) eX9_readCond_8 (by decide) rfl ?_
  refine ev_loc (L' := [(0, .inr (.inl 14)), (1, .inr (.inl 8)), (2, .inr (.inl 6)), (3, .inl 7), (4, .inl 0)]) rfl ?_
  exact m_9_readCond_14_8_6_k7_L10 hU 1000 h
set_option maxRecDepth 100000 in
theorem m_9_readOne_14_8_6_k7_J39 (hU : ev_uq ty ev_TR) {C' : ev_C} {C : ev_C} {y4 y5 : Int} (h : f_9_readOne_14_8_6_k7_J39 C y4 y5 = some C') : ev_W l D cys ty ck_tags ev_TR kc_140 39 [(0, .inr (.inl 14)), (1, .inr (.inl 8)), (2, .inr (.inl 6)), (3, .inl 7), (4, .inl y4), (5, .inl y5)] [] C (fun r0 C0 => r0 = none ∧ C0 = C') := by
  unfold f_9_readOne_14_8_6_k7_J39 at h
  refine ev_al eX9_readOne_39 rfl ?_
  refine ev_getI lk_f (ci := 9) (j := 0) (cd := 0) eX9_readOne_40 (isF (by decide +kernel)) rfl rfl rfl ?_
  refine ev_bp eX9_readOne_43 (by decide) (by decide) ?_
  refine ev_c_ge (tgt := 54) eX9_readOne_45 (by decide) (fun hc4 => ?_) (fun hc4 => ?_)
  · rw [if_pos (show 20 ≤ (C 14 0) from hc4)] at h
    refine ev_al eX9_readOne_54 rfl ?_
    refine ev_ic eX9_readOne_55 (by decide) ?_
    obtain ⟨C5, hq5, h⟩ := ev_bv_some h
    refine ev_callV (kc := kc_35) (A := [.inl 4]) (T := []) (lk_m.1 _ _ 0 [35] (isM (by decide +kernel)) 35 (by decide)) eX9_readOne_56 (m_8_fail hU hq5) rfl rfl rfl (by decide) (by decide) (Nat.le_of_ble_eq_true rfl) ?_
    rintro _ C5 ⟨rfl, rfl⟩
    show ev_W l D cys ty ck_tags ev_TR kc_140 59 [(0, .inr (.inl 14)), (1, .inr (.inl 8)), (2, .inr (.inl 6)), (3, .inl 7), (4, .inl y4), (5, .inl y5)] [] C5 _
    cases h
    exact ev_vret eX9_readOne_59 rfl ⟨rfl, rfl⟩
  · rw [if_neg (show ¬ (20 ≤ (C 14 0)) from hc4)] at h
    refine ev_il eX9_readOne_48 rfl ?_
    refine ev_bp eX9_readOne_49 (by decide) (by decide) ?_
    refine ev_c_le (tgt := 60) eX9_readOne_51 (by decide) (fun _ => ?_) (fun hc => absurd (show (7 : Int) ≤ 8 by decide) hc)
    refine ev_al eX9_readOne_60 rfl ?_
    refine ev_dup eX9_readOne_61 rfl ?_
    refine ev_getI lk_f (ci := 9) (j := 0) (cd := 0) eX9_readOne_62 (isF (by decide +kernel)) rfl rfl rfl ?_
    refine ev_ic eX9_readOne_65 (by decide) ?_
    refine ev_add eX9_readOne_66 ?_
    refine ev_putI lk_f hU (ci := 9) (j := 0) (cd := 0) eX9_readOne_67 (isF (by decide +kernel)) rfl rfl (Or.inl rfl) rfl ?_
    refine ev_al eX9_readOne_70 rfl ?_
    obtain ⟨C6, hq6, h⟩ := ev_bv_some h
    refine ev_callV (kc := kc_57) (A := []) (T := []) (lk_m.1 _ _ 0 [57] (isM (by decide +kernel)) 57 (by decide)) eX9_readOne_71 (m_8_step hU hq6) rfl rfl rfl (by decide) (by decide) (Nat.le_of_ble_eq_true rfl) ?_
    rintro _ C6 ⟨rfl, rfl⟩
    show ev_W l D cys ty ck_tags ev_TR kc_140 74 [(0, .inr (.inl 14)), (1, .inr (.inl 8)), (2, .inr (.inl 6)), (3, .inl 7), (4, .inl y4), (5, .inl y5)] [] C6 _
    refine ev_ilw eX9_readOne_74 rfl ?_
    refine ev_z_eq (tgt := 102) eX9_readOne_76 (by decide) (fun hc7 => ?_) (fun hc7 => ?_)
    · rw [if_pos (show y5 = 0 from hc7)] at h
      refine ev_ilw eX9_readOne_102 rfl ?_
      refine ev_bp eX9_readOne_104 (by decide) (by decide) ?_
      refine ev_c_ne (tgt := 129) eX9_readOne_106 (by decide) (fun hc8 => ?_) (fun hc8 => ?_)
      · rw [if_pos (show y4 ≠ 18 from hc8)] at h
        refine ev_al eX9_readOne_129 rfl ?_
        refine ev_al eX9_readOne_130 rfl ?_
        refine ev_al eX9_readOne_131 rfl ?_
        refine ev_ilw eX9_readOne_132 rfl ?_
        obtain ⟨C9, hq9, h⟩ := ev_bv_some h
        refine ev_callV (kc := kc_133) (A := [.inr (.inl 8), .inr (.inl 6), .inl y4]) (T := []) (lk_m.1 _ _ 0 [133] (isM (by decide +kernel)) 133 (by decide)) eX9_readOne_134 (m_9_readPlainOne_14_8_6 hU hq9) rfl rfl rfl (by decide) (by decide) (Nat.le_of_ble_eq_true rfl) ?_
        rintro _ C9 ⟨rfl, rfl⟩
        show ev_W l D cys ty ck_tags ev_TR kc_140 137 [(0, .inr (.inl 14)), (1, .inr (.inl 8)), (2, .inr (.inl 6)), (3, .inl 7), (4, .inl y4), (5, .inl y5)] [] C9 _
        cases h
        exact ev_vret eX9_readOne_137 rfl ⟨rfl, rfl⟩
      · rw [if_neg (show ¬ (y4 ≠ 18) from hc8)] at h
        refine ev_al eX9_readOne_109 rfl ?_
        refine ev_al eX9_readOne_110 rfl ?_
        refine ev_al eX9_readOne_111 rfl ?_
        refine ev_il eX9_readOne_112 rfl ?_
        refine ev_ic eX9_readOne_113 (by decide) ?_
        refine ev_add eX9_readOne_114 ?_
        show ev_W l D cys ty ck_tags ev_TR kc_140 115 [(0, .inr (.inl 14)), (1, .inr (.inl 8)), (2, .inr (.inl 6)), (3, .inl 7), (4, .inl y4), (5, .inl y5)] [.inl 8, .inr (.inl 6), .inr (.inl 8), .inr (.inl 14)] C6 _
        obtain ⟨C10, hq10, h⟩ := ev_bv_some h
        refine ev_callV (kc := kc_137) (A := [.inr (.inl 8), .inr (.inl 6), .inl 8]) (T := []) (lk_m.1 _ _ 0 [134, 137, 140, 143, 146, 149, 152, 155, 158] (isM (by decide +kernel)) 137 (by decide)) eX9_readOne_115 (m_9_readOne_14_8_6_k8 hU hq10) rfl rfl rfl (by decide) (by decide) (Nat.le_of_ble_eq_true rfl) ?_
        rintro _ C10 ⟨rfl, rfl⟩
        show ev_W l D cys ty ck_tags ev_TR kc_140 118 [(0, .inr (.inl 14)), (1, .inr (.inl 8)), (2, .inr (.inl 6)), (3, .inl 7), (4, .inl y4), (5, .inl y5)] [] C10 _
        refine ev_al eX9_readOne_118 rfl ?_
        refine ev_bp eX9_readOne_119 (by decide) (by decide) ?_
        refine ev_ic eX9_readOne_121 (by decide) ?_
        refine ev_ic eX9_readOne_122 (by decide) ?_
        obtain ⟨C11, hq11, h⟩ := ev_bv_some h
        refine ev_callV (kc := kc_121) (A := [.inl 18, .inl 0, .inl 0]) (T := []) (lk_m.1 _ _ 0 [121] (isM (by decide +kernel)) 121 (by decide)) eX9_readOne_123 (m_9_addStep_14 hU hq11) rfl rfl rfl (by decide) (by decide) (Nat.le_of_ble_eq_true rfl) ?_
        rintro _ C11 ⟨rfl, rfl⟩
        show ev_W l D cys ty ck_tags ev_TR kc_140 126 [(0, .inr (.inl 14)), (1, .inr (.inl 8)), (2, .inr (.inl 6)), (3, .inl 7), (4, .inl y4), (5, .inl y5)] [] C11 _
        refine ev_goto (tgt := 137) eX9_readOne_126 (by decide) ?_
        cases h
        exact ev_vret eX9_readOne_137 rfl ⟨rfl, rfl⟩
    · rw [if_neg (show ¬ (y5 = 0) from hc7)] at h
      refine ev_al eX9_readOne_79 rfl ?_
      refine ev_al eX9_readOne_80 rfl ?_
      refine ev_al eX9_readOne_81 rfl ?_
      refine ev_il eX9_readOne_82 rfl ?_
      obtain ⟨C12, hq12, h⟩ := ev_bv_some h
      refine ev_callV (kc := kc_139) (A := [.inr (.inl 8), .inr (.inl 6), .inl 7]) (T := []) (lk_m.1 _ _ 0 [136, 139, 142, 145, 148, 151, 154, 157, 160] (isM (by decide +kernel)) 139 (by decide)) eX9_readOne_83 (m_9_readCond_14_8_6_k7 hU hq12) rfl rfl rfl (by decide) (by decide) (Nat.le_of_ble_eq_true rfl) ?_
      rintro _ C12 ⟨rfl, rfl⟩
      show ev_W l D cys ty ck_tags ev_TR kc_140 86 [(0, .inr (.inl 14)), (1, .inr (.inl 8)), (2, .inr (.inl 6)), (3, .inl 7), (4, .inl y4), (5, .inl y5)] [] C12 _
      refine ev_al eX9_readOne_86 rfl ?_
      obtain ⟨r13, C13, hq13, h⟩ := ev_bd_some h
      refine ev_callV (kc := kc_36) (A := []) (T := []) (lk_m.1 _ _ 0 [36] (isM (by decide +kernel)) 36 (by decide)) eX9_readOne_87 (m_8_isFine hU hq13) rfl rfl rfl (by decide) (by decide) (Nat.le_of_ble_eq_true rfl) ?_
      rintro _ C13 ⟨rfl, rfl⟩
      show ev_W l D cys ty ck_tags ev_TR kc_140 90 [(0, .inr (.inl 14)), (1, .inr (.inl 8)), (2, .inr (.inl 6)), (3, .inl 7), (4, .inl y4), (5, .inl y5)] [.inl r13] C13 _
      refine ev_z_eq (tgt := 137) eX9_readOne_90 (by decide) (fun hc14 => ?_) (fun hc14 => ?_)
      · rw [if_pos (show r13 = 0 from hc14)] at h
        cases h
        exact ev_vret eX9_readOne_137 rfl ⟨rfl, rfl⟩
      · rw [if_neg (show ¬ (r13 = 0) from hc14)] at h
        refine ev_al eX9_readOne_93 rfl ?_
        refine ev_bp eX9_readOne_94 (by decide) (by decide) ?_
        obtain ⟨C15, hq15, h⟩ := ev_bv_some h
        refine ev_callV (kc := kc_68) (A := [.inl 41]) (T := []) (lk_m.1 _ _ 0 [68] (isM (by decide +kernel)) 68 (by decide)) eX9_readOne_96 (m_8_takeSign hU hq15) rfl rfl rfl (by decide) (by decide) (Nat.le_of_ble_eq_true rfl) ?_
        rintro _ C15 ⟨rfl, rfl⟩
        show ev_W l D cys ty ck_tags ev_TR kc_140 99 [(0, .inr (.inl 14)), (1, .inr (.inl 8)), (2, .inr (.inl 6)), (3, .inl 7), (4, .inl y4), (5, .inl y5)] [] C15 _
        refine ev_goto (tgt := 137) eX9_readOne_99 (by decide) ?_
        cases h
        exact ev_vret eX9_readOne_137 rfl ⟨rfl, rfl⟩
set_option maxRecDepth 100000 in
theorem m_9_readOne_14_8_6_k7 (hU : ev_uq ty ev_TR) {C : ev_C} {C' : ev_C} (h : f_9_readOne_14_8_6_k7 C = some C') : ev_Met l D cys ty ck_tags ev_TR kc_140 [.inr (.inl 14), .inr (.inl 8), .inr (.inl 6), .inl 7] C (fun r0 C0 => r0 = none ∧ C0 = C') := by
  unfold f_9_readOne_14_8_6_k7 at h
  refine ev_enter (by decide +kernel) (by decide +kernel) (Nat.le_of_ble_eq_true rfl) ?_
  show ev_W l D cys ty ck_tags ev_TR kc_140 0 [(0, .inr (.inl 14)), (1, .inr (.inl 8)), (2, .inr (.inl 6)), (3, .inl 7)] [] C _
  refine ev_al eX9_readOne_0 rfl ?_
  obtain ⟨r1, C1, hq1, h⟩ := ev_bd_some h
  refine ev_callV (kc := kc_66) (A := []) (T := []) (lk_m.1 _ _ 0 [66] (isM (by decide +kernel)) 66 (by decide)) eX9_readOne_1 (m_8_wordHere hU hq1) rfl rfl rfl (by decide) (by decide) (Nat.le_of_ble_eq_true rfl) ?_
  rintro _ C1 ⟨rfl, rfl⟩
  show ev_W l D cys ty ck_tags ev_TR kc_140 4 [(0, .inr (.inl 14)), (1, .inr (.inl 8)), (2, .inr (.inl 6)), (3, .inl 7)] [.inl r1] C1 _
  refine ev_isw (L' := [(4, .inl r1), (0, .inr (.inl 14)), (1, .inr (.inl 8)), (2, .inr (.inl 6)), (3, .inl 7)]) eX9_readOne_4 (by decide) rfl ?_
  refine ev_al eX9_readOne_6 rfl ?_
  refine ev_bp eX9_readOne_7 (by decide) (by decide) ?_
  obtain ⟨r2, C2, hq2, h⟩ := ev_bd_some h
  refine ev_callV (kc := kc_67) (A := [.inl 40]) (T := []) (lk_m.1 _ _ 0 [67] (isM (by decide +kernel)) 67 (by decide)) eX9_readOne_9 (m_8_isAtSign hU hq2) rfl rfl rfl (by decide) (by decide) (Nat.le_of_ble_eq_true rfl) ?_
  rintro _ C2 ⟨rfl, rfl⟩
  show ev_W l D cys ty ck_tags ev_TR kc_140 12 [(4, .inl r1), (0, .inr (.inl 14)), (1, .inr (.inl 8)), (2, .inr (.inl 6)), (3, .inl 7)] [.inl r2] C2 _
  refine ev_isw (L' := [(5, .inl r2), (4, .inl r1), (0, .inr (.inl 14)), (1, .inr (.inl 8)), (2, .inr (.inl 6)), (3, .inl 7)]) eX9_readOne_12 (by decide) rfl ?_
  refine ev_ilw eX9_readOne_14 rfl ?_
  refine ev_z_ne (tgt := 39) eX9_readOne_16 (by decide) (fun hc3 => ?_) (fun hc3 => ?_)
  · rw [if_pos (show r2 ≠ 0 from hc3)] at h
    refine ev_loc (L' := [(0, .inr (.inl 14)), (1, .inr (.inl 8)), (2, .inr (.inl 6)), (3, .inl 7), (4, .inl r1), (5, .inl r2)]) rfl ?_
    exact m_9_readOne_14_8_6_k7_J39 hU h
  · rw [if_neg (show ¬ (r2 ≠ 0) from hc3)] at h
    refine ev_ilw eX9_readOne_19 rfl ?_
    refine ev_bp eX9_readOne_21 (by decide) (by decide) ?_
    refine ev_c_lt (tgt := 33) eX9_readOne_23 (by decide) (fun hc16 => ?_) (fun hc16 => ?_)
    · rw [if_pos (show r1 < 18 from hc16)] at h
      refine ev_al eX9_readOne_33 rfl ?_
      refine ev_ic eX9_readOne_34 (by decide) ?_
      obtain ⟨C17, hq17, h⟩ := ev_bv_some h
      refine ev_callV (kc := kc_35) (A := [.inl 1]) (T := []) (lk_m.1 _ _ 0 [35] (isM (by decide +kernel)) 35 (by decide)) eX9_readOne_35 (m_8_fail hU hq17) rfl rfl rfl (by decide) (by decide) (Nat.le_of_ble_eq_true rfl) ?_
      rintro _ C17 ⟨rfl, rfl⟩
      show ev_W l D cys ty ck_tags ev_TR kc_140 38 [(5, .inl r2), (4, .inl r1), (0, .inr (.inl 14)), (1, .inr (.inl 8)), (2, .inr (.inl 6)), (3, .inl 7)] [] C17 _
      cases h
      exact ev_vret eX9_readOne_38 rfl ⟨rfl, rfl⟩
    · rw [if_neg (show ¬ (r1 < 18) from hc16)] at h
      refine ev_ilw eX9_readOne_26 rfl ?_
      refine ev_bp eX9_readOne_28 (by decide) (by decide) ?_
      refine ev_c_le (tgt := 39) eX9_readOne_30 (by decide) (fun hc18 => ?_) (fun hc18 => ?_)
      · rw [if_pos (show r1 ≤ 26 from hc18)] at h
        refine ev_loc (L' := [(0, .inr (.inl 14)), (1, .inr (.inl 8)), (2, .inr (.inl 6)), (3, .inl 7), (4, .inl r1), (5, .inl r2)]) rfl ?_
        exact m_9_readOne_14_8_6_k7_J39 hU h
      · rw [if_neg (show ¬ (r1 ≤ 26) from hc18)] at h
        refine ev_al eX9_readOne_33 rfl ?_
        refine ev_ic eX9_readOne_34 (by decide) ?_
        obtain ⟨C19, hq19, h⟩ := ev_bv_some h
        refine ev_callV (kc := kc_35) (A := [.inl 1]) (T := []) (lk_m.1 _ _ 0 [35] (isM (by decide +kernel)) 35 (by decide)) eX9_readOne_35 (m_8_fail hU hq19) rfl rfl rfl (by decide) (by decide) (Nat.le_of_ble_eq_true rfl) ?_
        rintro _ C19 ⟨rfl, rfl⟩
        show ev_W l D cys ty ck_tags ev_TR kc_140 38 [(5, .inl r2), (4, .inl r1), (0, .inr (.inl 14)), (1, .inr (.inl 8)), (2, .inr (.inl 6)), (3, .inl 7)] [] C19 _
        cases h
        exact ev_vret eX9_readOne_38 rfl ⟨rfl, rfl⟩
set_option maxRecDepth 100000 in
theorem m_9_readAll_14_8_6_k6_L12 (hU : ev_uq ty ev_TR) : ∀ (n : Nat) {C : ev_C} {y4 : Int} {C' : ev_C}, f_9_readAll_14_8_6_k6_L12 n C y4 = some C' → ev_W l D cys ty ck_tags ev_TR kc_141 12 [(0, .inr (.inl 14)), (1, .inr (.inl 8)), (2, .inr (.inl 6)), (3, .inl 6), (4, .inl y4)] [] C (fun r0 C0 => r0 = none ∧ C0 = C')
  | 0, _, _, _, h => by cases h
  | n + 1, C, y4, _, h => by
    unfold f_9_readAll_14_8_6_k6_L12 at h
    refine ev_ilw eX9_readAll_12 rfl ?_
    refine ev_bp eX9_readAll_14 (by decide) (by decide) ?_
    refine ev_c_ge (tgt := 62) eX9_readAll_16 (by decide) (fun hc2 => ?_) (fun hc2 => ?_)
    · rw [if_pos (show 20 ≤ y4 from hc2)] at h
      cases h
      exact ev_vret eX9_readAll_62 rfl ⟨rfl, rfl⟩
    · rw [if_neg (show ¬ (20 ≤ y4) from hc2)] at h
      refine ev_al eX9_readAll_19 rfl ?_
      obtain ⟨r3, C3, hq3, h⟩ := ev_bd_some h
      refine ev_callV (kc := kc_36) (A := []) (T := []) (lk_m.1 _ _ 0 [36] (isM (by decide +kernel)) 36 (by decide)) eX9_readAll_20 (m_8_isFine hU hq3) rfl rfl rfl (by decide) (by decide) (Nat.le_of_ble_eq_true rfl) ?_
      rintro _ C3 ⟨rfl, rfl⟩
      show ev_W l D cys ty ck_tags ev_TR kc_141 23 [(0, .inr (.inl 14)), (1, .inr (.inl 8)), (2, .inr (.inl 6)), (3, .inl 6), (4, .inl y4)] [.inl r3] C3 _
      refine ev_z_eq (tgt := 62) eX9_readAll_23 (by decide) (fun hc4 => ?_) (fun hc4 => ?_)
      · rw [if_pos (show r3 = 0 from hc4)] at h
        cases h
        exact ev_vret eX9_readAll_62 rfl ⟨rfl, rfl⟩
      · rw [if_neg (show ¬ (r3 = 0) from hc4)] at h
        refine ev_al eX9_readAll_26 rfl ?_
        refine ev_bp eX9_readAll_27 (by decide) (by decide) ?_
        obtain ⟨r5, C5, hq5, h⟩ := ev_bd_some h
        refine ev_callV (kc := kc_64) (A := [.inl 17]) (T := []) (lk_m.1 _ _ 0 [64] (isM (by decide +kernel)) 64 (by decide)) eX9_readAll_29 (m_8_isAtWord hU hq5) rfl rfl rfl (by decide) (by decide) (Nat.le_of_ble_eq_true rfl) ?_
        rintro _ C5 ⟨rfl, rfl⟩
        show ev_W l D cys ty ck_tags ev_TR kc_141 32 [(0, .inr (.inl 14)), (1, .inr (.inl 8)), (2, .inr (.inl 6)), (3, .inl 6), (4, .inl y4)] [.inl r5] C5 _
        refine ev_z_eq (tgt := 62) eX9_readAll_32 (by decide) (fun hc6 => ?_) (fun hc6 => ?_)
        · rw [if_pos (show r5 = 0 from hc6)] at h
          cases h
          exact ev_vret eX9_readAll_62 rfl ⟨rfl, rfl⟩
        · rw [if_neg (show ¬ (r5 = 0) from hc6)] at h
          refine ev_al eX9_readAll_35 rfl ?_
          obtain ⟨C7, hq7, h⟩ := ev_bv_some h
          refine ev_callV (kc := kc_57) (A := []) (T := []) (lk_m.1 _ _ 0 [57] (isM (by decide +kernel)) 57 (by decide)) eX9_readAll_36 (m_8_step hU hq7) rfl rfl rfl (by decide) (by decide) (Nat.le_of_ble_eq_true rfl) ?_
          rintro _ C7 ⟨rfl, rfl⟩
          show ev_W l D cys ty ck_tags ev_TR kc_141 39 [(0, .inr (.inl 14)), (1, .inr (.inl 8)), (2, .inr (.inl 6)), (3, .inl 6), (4, .inl y4)] [] C7 _
          refine ev_al eX9_readAll_39 rfl ?_
          refine ev_al eX9_readAll_40 rfl ?_
          refine ev_al eX9_readAll_41 rfl ?_
          refine ev_il eX9_readAll_42 rfl ?_
          refine ev_ic eX9_readAll_43 (by decide) ?_
          refine ev_add eX9_readAll_44 ?_
          show ev_W l D cys ty ck_tags ev_TR kc_141 45 [(0, .inr (.inl 14)), (1, .inr (.inl 8)), (2, .inr (.inl 6)), (3, .inl 6), (4, .inl y4)] [.inl 7, .inr (.inl 6), .inr (.inl 8), .inr (.inl 14)] C7 _
          obtain ⟨C8, hq8, h⟩ := ev_bv_some h
          refine ev_callV (kc := kc_140) (A := [.inr (.inl 8), .inr (.inl 6), .inl 7]) (T := []) (lk_m.1 _ _ 0 [134, 137, 140, 143, 146, 149, 152, 155, 158] (isM (by decide +kernel)) 140 (by decide)) eX9_readAll_45 (m_9_readOne_14_8_6_k7 hU hq8) rfl rfl rfl (by decide) (by decide) (Nat.le_of_ble_eq_true rfl) ?_
          rintro _ C8 ⟨rfl, rfl⟩
          show ev_W l D cys ty ck_tags ev_TR kc_141 48 [(0, .inr (.inl 14)), (1, .inr (.inl 8)), (2, .inr (.inl 6)), (3, .inl 6), (4, .inl y4)] [] C8 _
          refine ev_al eX9_readAll_48 rfl ?_
          refine ev_bp eX9_readAll_49 (by decide) (by decide) ?_
          refine ev_ic eX9_readAll_51 (by decide) ?_
          refine ev_ic eX9_readAll_52 (by decide) ?_
          obtain ⟨C9, hq9, h⟩ := ev_bv_some h
          refine ev_callV (kc := kc_121) (A := [.inl 17, .inl 0, .inl 0]) (T := []) (lk_m.1 _ _ 0 [121] (isM (by decide +kernel)) 121 (by decide)) eX9_readAll_53 (m_9_addStep_14 hU hq9) rfl rfl rfl (by decide) (by decide) (Nat.le_of_ble_eq_true rfl) ?_
          rintro _ C9 ⟨rfl, rfl⟩
          show ev_W l D cys ty ck_tags ev_TR kc_141 56 [(0, .inr (.inl 14)), (1, .inr (.inl 8)), (2, .inr (.inl 6)), (3, .inl 6), (4, .inl y4)] [] C9 _
          refine ev_inc (L' := [(4, .inl (ev_w (y4 + 1))), (0, .inr (.inl 14)), (1, .inr (.inl 8)), (2, .inr (.inl 6)), (3, .inl 6)]) eX9_readAll_56 (by decide) (by decide) rfl rfl ?_
          refine ev_goto (tgt := 12) eX9_readAll_59 (by decide) ?_
          refine ev_loc (L' := [(0, .inr (.inl 14)), (1, .inr (.inl 8)), (2, .inr (.inl 6)), (3, .inl 6), (4, .inl (ev_w (y4 + 1)))]) rfl ?_
          exact m_9_readAll_14_8_6_k6_L12 hU n h
set_option maxRecDepth 100000 in
theorem m_9_readAll_14_8_6_k6 (hU : ev_uq ty ev_TR) {C : ev_C} {C' : ev_C} (h : f_9_readAll_14_8_6_k6 C = some C') : ev_Met l D cys ty ck_tags ev_TR kc_141 [.inr (.inl 14), .inr (.inl 8), .inr (.inl 6), .inl 6] C (fun r0 C0 => r0 = none ∧ C0 = C') := by
  unfold f_9_readAll_14_8_6_k6 at h
  refine ev_enter (by decide +kernel) (by decide +kernel) (Nat.le_of_ble_eq_true rfl) ?_
  show ev_W l D cys ty ck_tags ev_TR kc_141 0 [(0, .inr (.inl 14)), (1, .inr (.inl 8)), (2, .inr (.inl 6)), (3, .inl 6)] [] C _
  refine ev_al eX9_readAll_0 rfl ?_
  refine ev_al eX9_readAll_1 rfl ?_
  refine ev_al eX9_readAll_2 rfl ?_
  refine ev_il eX9_readAll_3 rfl ?_
  refine ev_ic eX9_readAll_4 (by decide) ?_
  refine ev_add eX9_readAll_5 ?_
  show ev_W l D cys ty ck_tags ev_TR kc_141 6 [(0, .inr (.inl 14)), (1, .inr (.inl 8)), (2, .inr (.inl 6)), (3, .inl 6)] [.inl 7, .inr (.inl 6), .inr (.inl 8), .inr (.inl 14)] C _
  obtain ⟨C1, hq1, h⟩ := ev_bv_some h
  refine ev_callV (kc := kc_140) (A := [.inr (.inl 8), .inr (.inl 6), .inl 7]) (T := []) (lk_m.1 _ _ 0 [134, 137, 140, 143, 146, 149, 152, 155, 158] (isM (by decide +kernel)) 140 (by decide)) eX9_readAll_6 (m_9_readOne_14_8_6_k7 hU hq1) rfl rfl rfl (by decide) (by decide) (Nat.le_of_ble_eq_true rfl) ?_
  rintro _ C1 ⟨rfl, rfl⟩
  show ev_W l D cys ty ck_tags ev_TR kc_141 9 [(0, .inr (.inl 14)), (1, .inr (.inl 8)), (2, .inr (.inl 6)), (3, .inl 6)] [] C1 _
  refine ev_ic eX9_readAll_9 (by decide) ?_
  refine ev_isw (L' := [(4, .inl 0), (0, .inr (.inl 14)), (1, .inr (.inl 8)), (2, .inr (.inl 6)), (3, .inl 6)]) eX9_readAll_10 (by decide) rfl ?_
  refine ev_loc (L' := [(0, .inr (.inl 14)), (1, .inr (.inl 8)), (2, .inr (.inl 6)), (3, .inl 6), (4, .inl 0)]) rfl ?_
  exact m_9_readAll_14_8_6_k6_L12 hU 1000 h
set_option maxRecDepth 100000 in
theorem m_9_readCond_14_8_6_k6_L10 (hU : ev_uq ty ev_TR) : ∀ (n : Nat) {C : ev_C} {y4 : Int} {C' : ev_C}, f_9_readCond_14_8_6_k6_L10 n C y4 = some C' → ev_W l D cys ty ck_tags ev_TR kc_142 10 [(0, .inr (.inl 14)), (1, .inr (.inl 8)), (2, .inr (.inl 6)), (3, .inl 6), (4, .inl y4)] [] C (fun r0 C0 => r0 = none ∧ C0 = C')
  | 0, _, _, _, h => by cases h
  | n + 1, C, y4, _, h => by
    unfold f_9_readCond_14_8_6_k6_L10 at h
    refine ev_ilw eX9_readCond_10 rfl ?_
    refine ev_bp eX9_readCond_12 (by decide) (by decide) ?_
    refine ev_c_ge (tgt := 58) eX9_readCond_14 (by decide) (fun hc2 => ?_) (fun hc2 => ?_)
    · rw [if_pos (show 20 ≤ y4 from hc2)] at h
      cases h
      exact ev_vret eX9_readCond_58 rfl ⟨rfl, rfl⟩
    · rw [if_neg (show ¬ (20 ≤ y4) from hc2)] at h
      refine ev_al eX9_readCond_17 rfl ?_
      obtain ⟨r3, C3, hq3, h⟩ := ev_bd_some h
      refine ev_callV (kc := kc_36) (A := []) (T := []) (lk_m.1 _ _ 0 [36] (isM (by decide +kernel)) 36 (by decide)) eX9_readCond_18 (m_8_isFine hU hq3) rfl rfl rfl (by decide) (by decide) (Nat.le_of_ble_eq_true rfl) ?_
      rintro _ C3 ⟨rfl, rfl⟩
      show ev_W l D cys ty ck_tags ev_TR kc_142 21 [(0, .inr (.inl 14)), (1, .inr (.inl 8)), (2, .inr (.inl 6)), (3, .inl 6), (4, .inl y4)] [.inl r3] C3 _
      refine ev_z_eq (tgt := 58) eX9_readCond_21 (by decide) (fun hc4 => ?_) (fun hc4 => ?_)
      · rw [if_pos (show r3 = 0 from hc4)] at h
        cases h
        exact ev_vret eX9_readCond_58 rfl ⟨rfl, rfl⟩
      · rw [if_neg (show ¬ (r3 = 0) from hc4)] at h
        refine ev_al eX9_readCond_24 rfl ?_
        refine ev_bp eX9_readCond_25 (by decide) (by decide) ?_
        obtain ⟨r5, C5, hq5, h⟩ := ev_bd_some h
        refine ev_callV (kc := kc_64) (A := [.inl 16]) (T := []) (lk_m.1 _ _ 0 [64] (isM (by decide +kernel)) 64 (by decide)) eX9_readCond_27 (m_8_isAtWord hU hq5) rfl rfl rfl (by decide) (by decide) (Nat.le_of_ble_eq_true rfl) ?_
        rintro _ C5 ⟨rfl, rfl⟩
        show ev_W l D cys ty ck_tags ev_TR kc_142 30 [(0, .inr (.inl 14)), (1, .inr (.inl 8)), (2, .inr (.inl 6)), (3, .inl 6), (4, .inl y4)] [.inl r5] C5 _
        refine ev_z_eq (tgt := 58) eX9_readCond_30 (by decide) (fun hc6 => ?_) (fun hc6 => ?_)
        · rw [if_pos (show r5 = 0 from hc6)] at h
          cases h
          exact ev_vret eX9_readCond_58 rfl ⟨rfl, rfl⟩
        · rw [if_neg (show ¬ (r5 = 0) from hc6)] at h
          refine ev_al eX9_readCond_33 rfl ?_
          obtain ⟨C7, hq7, h⟩ := ev_bv_some h
          refine ev_callV (kc := kc_57) (A := []) (T := []) (lk_m.1 _ _ 0 [57] (isM (by decide +kernel)) 57 (by decide)) eX9_readCond_34 (m_8_step hU hq7) rfl rfl rfl (by decide) (by decide) (Nat.le_of_ble_eq_true rfl) ?_
          rintro _ C7 ⟨rfl, rfl⟩
          show ev_W l D cys ty ck_tags ev_TR kc_142 37 [(0, .inr (.inl 14)), (1, .inr (.inl 8)), (2, .inr (.inl 6)), (3, .inl 6), (4, .inl y4)] [] C7 _
          refine ev_al eX9_readCond_37 rfl ?_
          refine ev_al eX9_readCond_38 rfl ?_
          refine ev_al eX9_readCond_39 rfl ?_
          refine ev_il eX9_readCond_40 rfl ?_
          obtain ⟨C8, hq8, h⟩ := ev_bv_some h
          refine ev_callV (kc := kc_141) (A := [.inr (.inl 8), .inr (.inl 6), .inl 6]) (T := []) (lk_m.1 _ _ 0 [135, 138, 141, 144, 147, 150, 153, 156, 159] (isM (by decide +kernel)) 141 (by decide)) eX9_readCond_41 (m_9_readAll_14_8_6_k6 hU hq8) rfl rfl rfl (by decide) (by decide) (Nat.le_of_ble_eq_true rfl) ?_
          rintro _ C8 ⟨rfl, rfl⟩
          show ev_W l D cys ty ck_tags ev_TR kc_142 44 [(0, .inr (.inl 14)), (1, .inr (.inl 8)), (2, .inr (.inl 6)), (3, .inl 6), (4, .inl y4)] [] C8 _
          refine ev_al eX9_readCond_44 rfl ?_
          refine ev_bp eX9_readCond_45 (by decide) (by decide) ?_
          refine ev_ic eX9_readCond_47 (by decide) ?_
          refine ev_ic eX9_readCond_48 (by decide) ?_
          obtain ⟨C9, hq9, h⟩ := ev_bv_some h
          refine ev_callV (kc := kc_121) (A := [.inl 16, .inl 0, .inl 0]) (T := []) (lk_m.1 _ _ 0 [121] (isM (by decide +kernel)) 121 (by decide)) eX9_readCond_49 (m_9_addStep_14 hU hq9) rfl rfl rfl (by decide) (by decide) (Nat.le_of_ble_eq_true rfl) ?_
          rintro _ C9 ⟨rfl, rfl⟩
          show ev_W l D cys ty ck_tags ev_TR kc_142 52 [(0, .inr (.inl 14)), (1, .inr (.inl 8)), (2, .inr (.inl 6)), (3, .inl 6), (4, .inl y4)] [] C9 _
          refine ev_inc (L' := [(4, .inl (ev_w (y4 + 1))), (0, .inr (.inl 14)), (1, .inr (.inl 8)), (2, .inr (.inl 6)), (3, .inl 6)]) eX9_readCond_52 (by decide) (by decide) rfl rfl ?_
          refine ev_goto (tgt := 10) eX9_readCond_55 (by decide) ?_
          refine ev_loc (L' := [(0, .inr (.inl 14)), (1, .inr (.inl 8)), (2, .inr (.inl 6)), (3, .inl 6), (4, .inl (ev_w (y4 + 1)))]) rfl ?_
          exact m_9_readCond_14_8_6_k6_L10 hU n h
set_option maxRecDepth 100000 in
theorem m_9_readCond_14_8_6_k6 (hU : ev_uq ty ev_TR) {C : ev_C} {C' : ev_C} (h : f_9_readCond_14_8_6_k6 C = some C') : ev_Met l D cys ty ck_tags ev_TR kc_142 [.inr (.inl 14), .inr (.inl 8), .inr (.inl 6), .inl 6] C (fun r0 C0 => r0 = none ∧ C0 = C') := by
  unfold f_9_readCond_14_8_6_k6 at h
  refine ev_enter (by decide +kernel) (by decide +kernel) (Nat.le_of_ble_eq_true rfl) ?_
  show ev_W l D cys ty ck_tags ev_TR kc_142 0 [(0, .inr (.inl 14)), (1, .inr (.inl 8)), (2, .inr (.inl 6)), (3, .inl 6)] [] C _
  refine ev_al eX9_readCond_0 rfl ?_
  refine ev_al eX9_readCond_1 rfl ?_
  refine ev_al eX9_readCond_2 rfl ?_
  refine ev_il eX9_readCond_3 rfl ?_
  obtain ⟨C1, hq1, h⟩ := ev_bv_some h
  refine ev_callV (kc := kc_141) (A := [.inr (.inl 8), .inr (.inl 6), .inl 6]) (T := []) (lk_m.1 _ _ 0 [135, 138, 141, 144, 147, 150, 153, 156, 159] (isM (by decide +kernel)) 141 (by decide)) eX9_readCond_4 (m_9_readAll_14_8_6_k6 hU hq1) rfl rfl rfl (by decide) (by decide) (Nat.le_of_ble_eq_true rfl) ?_
  rintro _ C1 ⟨rfl, rfl⟩
  show ev_W l D cys ty ck_tags ev_TR kc_142 7 [(0, .inr (.inl 14)), (1, .inr (.inl 8)), (2, .inr (.inl 6)), (3, .inl 6)] [] C1 _
  refine ev_ic eX9_readCond_7 (by decide) ?_
  refine ev_isw (L' := [(4, .inl 0), (0, .inr (.inl 14)), (1, .inr (.inl 8)), (2, .inr (.inl 6)), (3, .inl 6)]) eX9_readCond_8 (by decide) rfl ?_
  refine ev_loc (L' := [(0, .inr (.inl 14)), (1, .inr (.inl 8)), (2, .inr (.inl 6)), (3, .inl 6), (4, .inl 0)]) rfl ?_
  exact m_9_readCond_14_8_6_k6_L10 hU 1000 h
set_option maxRecDepth 100000 in
theorem m_9_readOne_14_8_6_k6_J39 (hU : ev_uq ty ev_TR) {C' : ev_C} {C : ev_C} {y4 y5 : Int} (h : f_9_readOne_14_8_6_k6_J39 C y4 y5 = some C') : ev_W l D cys ty ck_tags ev_TR kc_143 39 [(0, .inr (.inl 14)), (1, .inr (.inl 8)), (2, .inr (.inl 6)), (3, .inl 6), (4, .inl y4), (5, .inl y5)] [] C (fun r0 C0 => r0 = none ∧ C0 = C') := by
  unfold f_9_readOne_14_8_6_k6_J39 at h
  refine ev_al eX9_readOne_39 rfl ?_
  refine ev_getI lk_f (ci := 9) (j := 0) (cd := 0) eX9_readOne_40 (isF (by decide +kernel)) rfl rfl rfl ?_
  refine ev_bp eX9_readOne_43 (by decide) (by decide) ?_
  refine ev_c_ge (tgt := 54) eX9_readOne_45 (by decide) (fun hc4 => ?_) (fun hc4 => ?_)
  · rw [if_pos (show 20 ≤ (C 14 0) from hc4)] at h
    refine ev_al eX9_readOne_54 rfl ?_
    refine ev_ic eX9_readOne_55 (by decide) ?_
    obtain ⟨C5, hq5, h⟩ := ev_bv_some h
    refine ev_callV (kc := kc_35) (A := [.inl 4]) (T := []) (lk_m.1 _ _ 0 [35] (isM (by decide +kernel)) 35 (by decide)) eX9_readOne_56 (m_8_fail hU hq5) rfl rfl rfl (by decide) (by decide) (Nat.le_of_ble_eq_true rfl) ?_
    rintro _ C5 ⟨rfl, rfl⟩
    show ev_W l D cys ty ck_tags ev_TR kc_143 59 [(0, .inr (.inl 14)), (1, .inr (.inl 8)), (2, .inr (.inl 6)), (3, .inl 6), (4, .inl y4), (5, .inl y5)] [] C5 _
    cases h
    exact ev_vret eX9_readOne_59 rfl ⟨rfl, rfl⟩
  · rw [if_neg (show ¬ (20 ≤ (C 14 0)) from hc4)] at h
    refine ev_il eX9_readOne_48 rfl ?_
    refine ev_bp eX9_readOne_49 (by decide) (by decide) ?_
    refine ev_c_le (tgt := 60) eX9_readOne_51 (by decide) (fun _ => ?_) (fun hc => absurd (show (6 : Int) ≤ 8 by decide) hc)
    refine ev_al eX9_readOne_60 rfl ?_
    refine ev_dup eX9_readOne_61 rfl ?_
    refine ev_getI lk_f (ci := 9) (j := 0) (cd := 0) eX9_readOne_62 (isF (by decide +kernel)) rfl rfl rfl ?_
    refine ev_ic eX9_readOne_65 (by decide) ?_
    refine ev_add eX9_readOne_66 ?_
    refine ev_putI lk_f hU (ci := 9) (j := 0) (cd := 0) eX9_readOne_67 (isF (by decide +kernel)) rfl rfl (Or.inl rfl) rfl ?_
    refine ev_al eX9_readOne_70 rfl ?_
    obtain ⟨C6, hq6, h⟩ := ev_bv_some h
    refine ev_callV (kc := kc_57) (A := []) (T := []) (lk_m.1 _ _ 0 [57] (isM (by decide +kernel)) 57 (by decide)) eX9_readOne_71 (m_8_step hU hq6) rfl rfl rfl (by decide) (by decide) (Nat.le_of_ble_eq_true rfl) ?_
    rintro _ C6 ⟨rfl, rfl⟩
    show ev_W l D cys ty ck_tags ev_TR kc_143 74 [(0, .inr (.inl 14)), (1, .inr (.inl 8)), (2, .inr (.inl 6)), (3, .inl 6), (4, .inl y4), (5, .inl y5)] [] C6 _
    refine ev_ilw eX9_readOne_74 rfl ?_
    refine ev_z_eq (tgt := 102) eX9_readOne_76 (by decide) (fun hc7 => ?_) (fun hc7 => ?_)
    · rw [if_pos (show y5 = 0 from hc7)] at h
      refine ev_ilw eX9_readOne_102 rfl ?_
      refine ev_bp eX9_readOne_104 (by decide) (by decide) ?_
      refine ev_c_ne (tgt := 129) eX9_readOne_106 (by decide) (fun hc8 => ?_) (fun hc8 => ?_)
      · rw [if_pos (show y4 ≠ 18 from hc8)] at h
        refine ev_al eX9_readOne_129 rfl ?_
        refine ev_al eX9_readOne_130 rfl ?_
        refine ev_al eX9_readOne_131 rfl ?_
        refine ev_ilw eX9_readOne_132 rfl ?_
        obtain ⟨C9, hq9, h⟩ := ev_bv_some h
        refine ev_callV (kc := kc_133) (A := [.inr (.inl 8), .inr (.inl 6), .inl y4]) (T := []) (lk_m.1 _ _ 0 [133] (isM (by decide +kernel)) 133 (by decide)) eX9_readOne_134 (m_9_readPlainOne_14_8_6 hU hq9) rfl rfl rfl (by decide) (by decide) (Nat.le_of_ble_eq_true rfl) ?_
        rintro _ C9 ⟨rfl, rfl⟩
        show ev_W l D cys ty ck_tags ev_TR kc_143 137 [(0, .inr (.inl 14)), (1, .inr (.inl 8)), (2, .inr (.inl 6)), (3, .inl 6), (4, .inl y4), (5, .inl y5)] [] C9 _
        cases h
        exact ev_vret eX9_readOne_137 rfl ⟨rfl, rfl⟩
      · rw [if_neg (show ¬ (y4 ≠ 18) from hc8)] at h
        refine ev_al eX9_readOne_109 rfl ?_
        refine ev_al eX9_readOne_110 rfl ?_
        refine ev_al eX9_readOne_111 rfl ?_
        refine ev_il eX9_readOne_112 rfl ?_
        refine ev_ic eX9_readOne_113 (by decide) ?_
        refine ev_add eX9_readOne_114 ?_
        show ev_W l D cys ty ck_tags ev_TR kc_143 115 [(0, .inr (.inl 14)), (1, .inr (.inl 8)), (2, .inr (.inl 6)), (3, .inl 6), (4, .inl y4), (5, .inl y5)] [.inl 7, .inr (.inl 6), .inr (.inl 8), .inr (.inl 14)] C6 _
        obtain ⟨C10, hq10, h⟩ := ev_bv_some h
        refine ev_callV (kc := kc_140) (A := [.inr (.inl 8), .inr (.inl 6), .inl 7]) (T := []) (lk_m.1 _ _ 0 [134, 137, 140, 143, 146, 149, 152, 155, 158] (isM (by decide +kernel)) 140 (by decide)) eX9_readOne_115 (m_9_readOne_14_8_6_k7 hU hq10) rfl rfl rfl (by decide) (by decide) (Nat.le_of_ble_eq_true rfl) ?_
        rintro _ C10 ⟨rfl, rfl⟩
        show ev_W l D cys ty ck_tags ev_TR kc_143 118 [(0, .inr (.inl 14)), (1, .inr (.inl 8)), (2, .inr (.inl 6)), (3, .inl 6), (4, .inl y4), (5, .inl y5)] [] C10 _
        refine ev_al eX9_readOne_118 rfl ?_
        refine ev_bp eX9_readOne_119 (by decide) (by decide) ?_
        refine ev_ic eX9_readOne_121 (by decide) ?_
        refine ev_ic eX9_readOne_122 (by decide) ?_
        obtain ⟨C11, hq11, h⟩ := ev_bv_some h
        refine ev_callV (kc := kc_121) (A := [.inl 18, .inl 0, .inl 0]) (T := []) (lk_m.1 _ _ 0 [121] (isM (by decide +kernel)) 121 (by decide)) eX9_readOne_123 (m_9_addStep_14 hU hq11) rfl rfl rfl (by decide) (by decide) (Nat.le_of_ble_eq_true rfl) ?_
        rintro _ C11 ⟨rfl, rfl⟩
        show ev_W l D cys ty ck_tags ev_TR kc_143 126 [(0, .inr (.inl 14)), (1, .inr (.inl 8)), (2, .inr (.inl 6)), (3, .inl 6), (4, .inl y4), (5, .inl y5)] [] C11 _
        refine ev_goto (tgt := 137) eX9_readOne_126 (by decide) ?_
        cases h
        exact ev_vret eX9_readOne_137 rfl ⟨rfl, rfl⟩
    · rw [if_neg (show ¬ (y5 = 0) from hc7)] at h
      refine ev_al eX9_readOne_79 rfl ?_
      refine ev_al eX9_readOne_80 rfl ?_
      refine ev_al eX9_readOne_81 rfl ?_
      refine ev_il eX9_readOne_82 rfl ?_
      obtain ⟨C12, hq12, h⟩ := ev_bv_some h
      refine ev_callV (kc := kc_142) (A := [.inr (.inl 8), .inr (.inl 6), .inl 6]) (T := []) (lk_m.1 _ _ 0 [136, 139, 142, 145, 148, 151, 154, 157, 160] (isM (by decide +kernel)) 142 (by decide)) eX9_readOne_83 (m_9_readCond_14_8_6_k6 hU hq12) rfl rfl rfl (by decide) (by decide) (Nat.le_of_ble_eq_true rfl) ?_
      rintro _ C12 ⟨rfl, rfl⟩
      show ev_W l D cys ty ck_tags ev_TR kc_143 86 [(0, .inr (.inl 14)), (1, .inr (.inl 8)), (2, .inr (.inl 6)), (3, .inl 6), (4, .inl y4), (5, .inl y5)] [] C12 _
      refine ev_al eX9_readOne_86 rfl ?_
      obtain ⟨r13, C13, hq13, h⟩ := ev_bd_some h
      refine ev_callV (kc := kc_36) (A := []) (T := []) (lk_m.1 _ _ 0 [36] (isM (by decide +kernel)) 36 (by decide)) eX9_readOne_87 (m_8_isFine hU hq13) rfl rfl rfl (by decide) (by decide) (Nat.le_of_ble_eq_true rfl) ?_
      rintro _ C13 ⟨rfl, rfl⟩
      show ev_W l D cys ty ck_tags ev_TR kc_143 90 [(0, .inr (.inl 14)), (1, .inr (.inl 8)), (2, .inr (.inl 6)), (3, .inl 6), (4, .inl y4), (5, .inl y5)] [.inl r13] C13 _
      refine ev_z_eq (tgt := 137) eX9_readOne_90 (by decide) (fun hc14 => ?_) (fun hc14 => ?_)
      · rw [if_pos (show r13 = 0 from hc14)] at h
        cases h
        exact ev_vret eX9_readOne_137 rfl ⟨rfl, rfl⟩
      · rw [if_neg (show ¬ (r13 = 0) from hc14)] at h
        refine ev_al eX9_readOne_93 rfl ?_
        refine ev_bp eX9_readOne_94 (by decide) (by decide) ?_
        obtain ⟨C15, hq15, h⟩ := ev_bv_some h
        refine ev_callV (kc := kc_68) (A := [.inl 41]) (T := []) (lk_m.1 _ _ 0 [68] (isM (by decide +kernel)) 68 (by decide)) eX9_readOne_96 (m_8_takeSign hU hq15) rfl rfl rfl (by decide) (by decide) (Nat.le_of_ble_eq_true rfl) ?_
        rintro _ C15 ⟨rfl, rfl⟩
        show ev_W l D cys ty ck_tags ev_TR kc_143 99 [(0, .inr (.inl 14)), (1, .inr (.inl 8)), (2, .inr (.inl 6)), (3, .inl 6), (4, .inl y4), (5, .inl y5)] [] C15 _
        refine ev_goto (tgt := 137) eX9_readOne_99 (by decide) ?_
        cases h
        exact ev_vret eX9_readOne_137 rfl ⟨rfl, rfl⟩
set_option maxRecDepth 100000 in
theorem m_9_readOne_14_8_6_k6 (hU : ev_uq ty ev_TR) {C : ev_C} {C' : ev_C} (h : f_9_readOne_14_8_6_k6 C = some C') : ev_Met l D cys ty ck_tags ev_TR kc_143 [.inr (.inl 14), .inr (.inl 8), .inr (.inl 6), .inl 6] C (fun r0 C0 => r0 = none ∧ C0 = C') := by
  unfold f_9_readOne_14_8_6_k6 at h
  refine ev_enter (by decide +kernel) (by decide +kernel) (Nat.le_of_ble_eq_true rfl) ?_
  show ev_W l D cys ty ck_tags ev_TR kc_143 0 [(0, .inr (.inl 14)), (1, .inr (.inl 8)), (2, .inr (.inl 6)), (3, .inl 6)] [] C _
  refine ev_al eX9_readOne_0 rfl ?_
  obtain ⟨r1, C1, hq1, h⟩ := ev_bd_some h
  refine ev_callV (kc := kc_66) (A := []) (T := []) (lk_m.1 _ _ 0 [66] (isM (by decide +kernel)) 66 (by decide)) eX9_readOne_1 (m_8_wordHere hU hq1) rfl rfl rfl (by decide) (by decide) (Nat.le_of_ble_eq_true rfl) ?_
  rintro _ C1 ⟨rfl, rfl⟩
  show ev_W l D cys ty ck_tags ev_TR kc_143 4 [(0, .inr (.inl 14)), (1, .inr (.inl 8)), (2, .inr (.inl 6)), (3, .inl 6)] [.inl r1] C1 _
  refine ev_isw (L' := [(4, .inl r1), (0, .inr (.inl 14)), (1, .inr (.inl 8)), (2, .inr (.inl 6)), (3, .inl 6)]) eX9_readOne_4 (by decide) rfl ?_
  refine ev_al eX9_readOne_6 rfl ?_
  refine ev_bp eX9_readOne_7 (by decide) (by decide) ?_
  obtain ⟨r2, C2, hq2, h⟩ := ev_bd_some h
  refine ev_callV (kc := kc_67) (A := [.inl 40]) (T := []) (lk_m.1 _ _ 0 [67] (isM (by decide +kernel)) 67 (by decide)) eX9_readOne_9 (m_8_isAtSign hU hq2) rfl rfl rfl (by decide) (by decide) (Nat.le_of_ble_eq_true rfl) ?_
  rintro _ C2 ⟨rfl, rfl⟩
  show ev_W l D cys ty ck_tags ev_TR kc_143 12 [(4, .inl r1), (0, .inr (.inl 14)), (1, .inr (.inl 8)), (2, .inr (.inl 6)), (3, .inl 6)] [.inl r2] C2 _
  refine ev_isw (L' := [(5, .inl r2), (4, .inl r1), (0, .inr (.inl 14)), (1, .inr (.inl 8)), (2, .inr (.inl 6)), (3, .inl 6)]) eX9_readOne_12 (by decide) rfl ?_
  refine ev_ilw eX9_readOne_14 rfl ?_
  refine ev_z_ne (tgt := 39) eX9_readOne_16 (by decide) (fun hc3 => ?_) (fun hc3 => ?_)
  · rw [if_pos (show r2 ≠ 0 from hc3)] at h
    refine ev_loc (L' := [(0, .inr (.inl 14)), (1, .inr (.inl 8)), (2, .inr (.inl 6)), (3, .inl 6), (4, .inl r1), (5, .inl r2)]) rfl ?_
    exact m_9_readOne_14_8_6_k6_J39 hU h
  · rw [if_neg (show ¬ (r2 ≠ 0) from hc3)] at h
    refine ev_ilw eX9_readOne_19 rfl ?_
    refine ev_bp eX9_readOne_21 (by decide) (by decide) ?_
    refine ev_c_lt (tgt := 33) eX9_readOne_23 (by decide) (fun hc16 => ?_) (fun hc16 => ?_)
    · rw [if_pos (show r1 < 18 from hc16)] at h
      refine ev_al eX9_readOne_33 rfl ?_
      refine ev_ic eX9_readOne_34 (by decide) ?_
      obtain ⟨C17, hq17, h⟩ := ev_bv_some h
      refine ev_callV (kc := kc_35) (A := [.inl 1]) (T := []) (lk_m.1 _ _ 0 [35] (isM (by decide +kernel)) 35 (by decide)) eX9_readOne_35 (m_8_fail hU hq17) rfl rfl rfl (by decide) (by decide) (Nat.le_of_ble_eq_true rfl) ?_
      rintro _ C17 ⟨rfl, rfl⟩
      show ev_W l D cys ty ck_tags ev_TR kc_143 38 [(5, .inl r2), (4, .inl r1), (0, .inr (.inl 14)), (1, .inr (.inl 8)), (2, .inr (.inl 6)), (3, .inl 6)] [] C17 _
      cases h
      exact ev_vret eX9_readOne_38 rfl ⟨rfl, rfl⟩
    · rw [if_neg (show ¬ (r1 < 18) from hc16)] at h
      refine ev_ilw eX9_readOne_26 rfl ?_
      refine ev_bp eX9_readOne_28 (by decide) (by decide) ?_
      refine ev_c_le (tgt := 39) eX9_readOne_30 (by decide) (fun hc18 => ?_) (fun hc18 => ?_)
      · rw [if_pos (show r1 ≤ 26 from hc18)] at h
        refine ev_loc (L' := [(0, .inr (.inl 14)), (1, .inr (.inl 8)), (2, .inr (.inl 6)), (3, .inl 6), (4, .inl r1), (5, .inl r2)]) rfl ?_
        exact m_9_readOne_14_8_6_k6_J39 hU h
      · rw [if_neg (show ¬ (r1 ≤ 26) from hc18)] at h
        refine ev_al eX9_readOne_33 rfl ?_
        refine ev_ic eX9_readOne_34 (by decide) ?_
        obtain ⟨C19, hq19, h⟩ := ev_bv_some h
        refine ev_callV (kc := kc_35) (A := [.inl 1]) (T := []) (lk_m.1 _ _ 0 [35] (isM (by decide +kernel)) 35 (by decide)) eX9_readOne_35 (m_8_fail hU hq19) rfl rfl rfl (by decide) (by decide) (Nat.le_of_ble_eq_true rfl) ?_
        rintro _ C19 ⟨rfl, rfl⟩
        show ev_W l D cys ty ck_tags ev_TR kc_143 38 [(5, .inl r2), (4, .inl r1), (0, .inr (.inl 14)), (1, .inr (.inl 8)), (2, .inr (.inl 6)), (3, .inl 6)] [] C19 _
        cases h
        exact ev_vret eX9_readOne_38 rfl ⟨rfl, rfl⟩
set_option maxRecDepth 100000 in
theorem m_9_readAll_14_8_6_k5_L12 (hU : ev_uq ty ev_TR) : ∀ (n : Nat) {C : ev_C} {y4 : Int} {C' : ev_C}, f_9_readAll_14_8_6_k5_L12 n C y4 = some C' → ev_W l D cys ty ck_tags ev_TR kc_144 12 [(0, .inr (.inl 14)), (1, .inr (.inl 8)), (2, .inr (.inl 6)), (3, .inl 5), (4, .inl y4)] [] C (fun r0 C0 => r0 = none ∧ C0 = C')
  | 0, _, _, _, h => by cases h
  | n + 1, C, y4, _, h => by
    unfold f_9_readAll_14_8_6_k5_L12 at h
    refine ev_ilw eX9_readAll_12 rfl ?_
    refine ev_bp eX9_readAll_14 (by decide) (by decide) ?_
    refine ev_c_ge (tgt := 62) eX9_readAll_16 (by decide) (fun hc2 => ?_) (fun hc2 => ?_)
    · rw [if_pos (show 20 ≤ y4 from hc2)] at h
      cases h
      exact ev_vret eX9_readAll_62 rfl ⟨rfl, rfl⟩
    · rw [if_neg (show ¬ (20 ≤ y4) from hc2)] at h
      refine ev_al eX9_readAll_19 rfl ?_
      obtain ⟨r3, C3, hq3, h⟩ := ev_bd_some h
      refine ev_callV (kc := kc_36) (A := []) (T := []) (lk_m.1 _ _ 0 [36] (isM (by decide +kernel)) 36 (by decide)) eX9_readAll_20 (m_8_isFine hU hq3) rfl rfl rfl (by decide) (by decide) (Nat.le_of_ble_eq_true rfl) ?_
      rintro _ C3 ⟨rfl, rfl⟩
      show ev_W l D cys ty ck_tags ev_TR kc_144 23 [(0, .inr (.inl 14)), (1, .inr (.inl 8)), (2, .inr (.inl 6)), (3, .inl 5), (4, .inl y4)] [.inl r3] C3 _
      refine ev_z_eq (tgt := 62) eX9_readAll_23 (by decide) (fun hc4 => ?_) (fun hc4 => ?_)
      · rw [if_pos (show r3 = 0 from hc4)] at h
        cases h
        exact ev_vret eX9_readAll_62 rfl ⟨rfl, rfl⟩
      · rw [if_neg (show ¬ (r3 = 0) from hc4)] at h
        refine ev_al eX9_readAll_26 rfl ?_
        refine ev_bp eX9_readAll_27 (by decide) (by decide) ?_
        obtain ⟨r5, C5, hq5, h⟩ := ev_bd_some h
        refine ev_callV (kc := kc_64) (A := [.inl 17]) (T := []) (lk_m.1 _ _ 0 [64] (isM (by decide +kernel)) 64 (by decide)) eX9_readAll_29 (m_8_isAtWord hU hq5) rfl rfl rfl (by decide) (by decide) (Nat.le_of_ble_eq_true rfl) ?_
        rintro _ C5 ⟨rfl, rfl⟩
        show ev_W l D cys ty ck_tags ev_TR kc_144 32 [(0, .inr (.inl 14)), (1, .inr (.inl 8)), (2, .inr (.inl 6)), (3, .inl 5), (4, .inl y4)] [.inl r5] C5 _
        refine ev_z_eq (tgt := 62) eX9_readAll_32 (by decide) (fun hc6 => ?_) (fun hc6 => ?_)
        · rw [if_pos (show r5 = 0 from hc6)] at h
          cases h
          exact ev_vret eX9_readAll_62 rfl ⟨rfl, rfl⟩
        · rw [if_neg (show ¬ (r5 = 0) from hc6)] at h
          refine ev_al eX9_readAll_35 rfl ?_
          obtain ⟨C7, hq7, h⟩ := ev_bv_some h
          refine ev_callV (kc := kc_57) (A := []) (T := []) (lk_m.1 _ _ 0 [57] (isM (by decide +kernel)) 57 (by decide)) eX9_readAll_36 (m_8_step hU hq7) rfl rfl rfl (by decide) (by decide) (Nat.le_of_ble_eq_true rfl) ?_
          rintro _ C7 ⟨rfl, rfl⟩
          show ev_W l D cys ty ck_tags ev_TR kc_144 39 [(0, .inr (.inl 14)), (1, .inr (.inl 8)), (2, .inr (.inl 6)), (3, .inl 5), (4, .inl y4)] [] C7 _
          refine ev_al eX9_readAll_39 rfl ?_
          refine ev_al eX9_readAll_40 rfl ?_
          refine ev_al eX9_readAll_41 rfl ?_
          refine ev_il eX9_readAll_42 rfl ?_
          refine ev_ic eX9_readAll_43 (by decide) ?_
          refine ev_add eX9_readAll_44 ?_
          show ev_W l D cys ty ck_tags ev_TR kc_144 45 [(0, .inr (.inl 14)), (1, .inr (.inl 8)), (2, .inr (.inl 6)), (3, .inl 5), (4, .inl y4)] [.inl 6, .inr (.inl 6), .inr (.inl 8), .inr (.inl 14)] C7 _
          obtain ⟨C8, hq8, h⟩ := ev_bv_some h
          refine ev_callV (kc := kc_143) (A := [.inr (.inl 8), .inr (.inl 6), .inl 6]) (T := []) (lk_m.1 _ _ 0 [134, 137, 140, 143, 146, 149, 152, 155, 158] (isM (by decide +kernel)) 143 (by decide)) eX9_readAll_45 (m_9_readOne_14_8_6_k6 hU hq8) rfl rfl rfl (by decide) (by decide) (Nat.le_of_ble_eq_true rfl) ?_
          rintro _ C8 ⟨rfl, rfl⟩
          show ev_W l D cys ty ck_tags ev_TR kc_144 48 [(0, .inr (.inl 14)), (1, .inr (.inl 8)), (2, .inr (.inl 6)), (3, .inl 5), (4, .inl y4)] [] C8 _
          refine ev_al eX9_readAll_48 rfl ?_
          refine ev_bp eX9_readAll_49 (by decide) (by decide) ?_
          refine ev_ic eX9_readAll_51 (by decide) ?_
          refine ev_ic eX9_readAll_52 (by decide) ?_
          obtain ⟨C9, hq9, h⟩ := ev_bv_some h
          refine ev_callV (kc := kc_121) (A := [.inl 17, .inl 0, .inl 0]) (T := []) (lk_m.1 _ _ 0 [121] (isM (by decide +kernel)) 121 (by decide)) eX9_readAll_53 (m_9_addStep_14 hU hq9) rfl rfl rfl (by decide) (by decide) (Nat.le_of_ble_eq_true rfl) ?_
          rintro _ C9 ⟨rfl, rfl⟩
          show ev_W l D cys ty ck_tags ev_TR kc_144 56 [(0, .inr (.inl 14)), (1, .inr (.inl 8)), (2, .inr (.inl 6)), (3, .inl 5), (4, .inl y4)] [] C9 _
          refine ev_inc (L' := [(4, .inl (ev_w (y4 + 1))), (0, .inr (.inl 14)), (1, .inr (.inl 8)), (2, .inr (.inl 6)), (3, .inl 5)]) eX9_readAll_56 (by decide) (by decide) rfl rfl ?_
          refine ev_goto (tgt := 12) eX9_readAll_59 (by decide) ?_
          refine ev_loc (L' := [(0, .inr (.inl 14)), (1, .inr (.inl 8)), (2, .inr (.inl 6)), (3, .inl 5), (4, .inl (ev_w (y4 + 1)))]) rfl ?_
          exact m_9_readAll_14_8_6_k5_L12 hU n h
set_option maxRecDepth 100000 in
theorem m_9_readAll_14_8_6_k5 (hU : ev_uq ty ev_TR) {C : ev_C} {C' : ev_C} (h : f_9_readAll_14_8_6_k5 C = some C') : ev_Met l D cys ty ck_tags ev_TR kc_144 [.inr (.inl 14), .inr (.inl 8), .inr (.inl 6), .inl 5] C (fun r0 C0 => r0 = none ∧ C0 = C') := by
  unfold f_9_readAll_14_8_6_k5 at h
  refine ev_enter (by decide +kernel) (by decide +kernel) (Nat.le_of_ble_eq_true rfl) ?_
  show ev_W l D cys ty ck_tags ev_TR kc_144 0 [(0, .inr (.inl 14)), (1, .inr (.inl 8)), (2, .inr (.inl 6)), (3, .inl 5)] [] C _
  refine ev_al eX9_readAll_0 rfl ?_
  refine ev_al eX9_readAll_1 rfl ?_
  refine ev_al eX9_readAll_2 rfl ?_
  refine ev_il eX9_readAll_3 rfl ?_
  refine ev_ic eX9_readAll_4 (by decide) ?_
  refine ev_add eX9_readAll_5 ?_
  show ev_W l D cys ty ck_tags ev_TR kc_144 6 [(0, .inr (.inl 14)), (1, .inr (.inl 8)), (2, .inr (.inl 6)), (3, .inl 5)] [.inl 6, .inr (.inl 6), .inr (.inl 8), .inr (.inl 14)] C _
  obtain ⟨C1, hq1, h⟩ := ev_bv_some h
  refine ev_callV (kc := kc_143) (A := [.inr (.inl 8), .inr (.inl 6), .inl 6]) (T := []) (lk_m.1 _ _ 0 [134, 137, 140, 143, 146, 149, 152, 155, 158] (isM (by decide +kernel)) 143 (by decide)) eX9_readAll_6 (m_9_readOne_14_8_6_k6 hU hq1) rfl rfl rfl (by decide) (by decide) (Nat.le_of_ble_eq_true rfl) ?_
  rintro _ C1 ⟨rfl, rfl⟩
  show ev_W l D cys ty ck_tags ev_TR kc_144 9 [(0, .inr (.inl 14)), (1, .inr (.inl 8)), (2, .inr (.inl 6)), (3, .inl 5)] [] C1 _
  refine ev_ic eX9_readAll_9 (by decide) ?_
  refine ev_isw (L' := [(4, .inl 0), (0, .inr (.inl 14)), (1, .inr (.inl 8)), (2, .inr (.inl 6)), (3, .inl 5)]) eX9_readAll_10 (by decide) rfl ?_
  refine ev_loc (L' := [(0, .inr (.inl 14)), (1, .inr (.inl 8)), (2, .inr (.inl 6)), (3, .inl 5), (4, .inl 0)]) rfl ?_
  exact m_9_readAll_14_8_6_k5_L12 hU 1000 h
end GX
