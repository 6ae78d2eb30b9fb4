/-! THE EXACT LOGIC: the class's play(), 2 (printed by a program of ours). -/
section GX
variable {l : Launch} {D : va_G} {cys : Nat → ClassId} {ty : Nat → Option Nat}
theorem eX7_readClears_0 : decode cX7_readClears 0 = .ok (.aload_n 1, 1) := by decide +kernel
theorem eX7_readClears_1 : decode cX7_readClears 1 = .ok (.invokevirtual 82, 3) := by decide +kernel
theorem eX7_readClears_4 : decode cX7_readClears 4 = .ok (.aload_n 1, 1) := by decide +kernel
theorem eX7_readClears_5 : decode cX7_readClears 5 = .ok (.aload_n 0, 1) := by decide +kernel
theorem eX7_readClears_6 : decode cX7_readClears 6 = .ok (.getfield 12, 3) := by decide +kernel
theorem eX7_readClears_9 : decode cX7_readClears 9 = .ok (.getfield 126, 3) := by decide +kernel
theorem eX7_readClears_12 : decode cX7_readClears 12 = .ok (.aload_n 0, 1) := by decide +kernel
theorem eX7_readClears_13 : decode cX7_readClears 13 = .ok (.getfield 12, 3) := by decide +kernel
theorem eX7_readClears_16 : decode cX7_readClears 16 = .ok (.getfield 123, 3) := by decide +kernel
theorem eX7_readClears_19 : decode cX7_readClears 19 = .ok (.invokevirtual 129, 3) := by decide +kernel
theorem eX7_readClears_22 : decode cX7_readClears 22 = .ok (.istore_n 2, 1) := by decide +kernel
theorem eX7_readClears_23 : decode cX7_readClears 23 = .ok (.iload_n 2, 1) := by decide +kernel
theorem eX7_readClears_24 : decode cX7_readClears 24 = .ok (.iconst (-1), 1) := by decide +kernel
theorem eX7_readClears_25 : decode cX7_readClears 25 = .ok (.if_icmp .ne 4, 3) := by decide +kernel
theorem eX7_readClears_28 : decode cX7_readClears 28 = .ok (.return_, 1) := by decide +kernel
theorem eX7_readClears_29 : decode cX7_readClears 29 = .ok (.aload_n 1, 1) := by decide +kernel
theorem eX7_readClears_30 : decode cX7_readClears 30 = .ok (.aload_n 0, 1) := by decide +kernel
theorem eX7_readClears_31 : decode cX7_readClears 31 = .ok (.getfield 12, 3) := by decide +kernel
theorem eX7_readClears_34 : decode cX7_readClears 34 = .ok (.getfield 107, 3) := by decide +kernel
theorem eX7_readClears_37 : decode cX7_readClears 37 = .ok (.aload_n 0, 1) := by decide +kernel
theorem eX7_readClears_38 : decode cX7_readClears 38 = .ok (.getfield 12, 3) := by decide +kernel
theorem eX7_readClears_41 : decode cX7_readClears 41 = .ok (.getfield 100, 3) := by decide +kernel
theorem eX7_readClears_44 : decode cX7_readClears 44 = .ok (.invokevirtual 133, 3) := by decide +kernel
theorem eX7_readClears_47 : decode cX7_readClears 47 = .ok (.istore_n 3, 1) := by decide +kernel
theorem eX7_readClears_48 : decode cX7_readClears 48 = .ok (.iload_n 3, 1) := by decide +kernel
theorem eX7_readClears_49 : decode cX7_readClears 49 = .ok (.iconst (-1), 1) := by decide +kernel
theorem eX7_readClears_50 : decode cX7_readClears 50 = .ok (.if_icmp .eq 26, 3) := by decide +kernel
theorem eX7_readClears_53 : decode cX7_readClears 53 = .ok (.aload_n 0, 1) := by decide +kernel
theorem eX7_readClears_54 : decode cX7_readClears 54 = .ok (.getfield 12, 3) := by decide +kernel
theorem eX7_readClears_57 : decode cX7_readClears 57 = .ok (.getfield 136, 3) := by decide +kernel
theorem eX7_readClears_60 : decode cX7_readClears 60 = .ok (.iload_n 2, 1) := by decide +kernel
theorem eX7_readClears_61 : decode cX7_readClears 61 = .ok (.aload_n 1, 1) := by decide +kernel
theorem eX7_readClears_62 : decode cX7_readClears 62 = .ok (.aload_n 0, 1) := by decide +kernel
theorem eX7_readClears_63 : decode cX7_readClears 63 = .ok (.getfield 12, 3) := by decide +kernel
theorem eX7_readClears_66 : decode cX7_readClears 66 = .ok (.getfield 136, 3) := by decide +kernel
theorem eX7_readClears_69 : decode cX7_readClears 69 = .ok (.iload_n 2, 1) := by decide +kernel
theorem eX7_readClears_70 : decode cX7_readClears 70 = .ok (.iaload, 1) := by decide +kernel
theorem eX7_readClears_71 : decode cX7_readClears 71 = .ok (.iload_n 3, 1) := by decide +kernel
theorem eX7_readClears_72 : decode cX7_readClears 72 = .ok (.invokestatic 139, 3) := by decide +kernel
theorem eX7_readClears_75 : decode cX7_readClears 75 = .ok (.iastore, 1) := by decide +kernel
theorem eX7_readClears_76 : decode cX7_readClears 76 = .ok (.return_, 1) := by decide +kernel
set_option maxRecDepth 100000 in
theorem m_7_readClears_8 (hU : ev_uq ty ev_TR) {C : ev_C} {C' : ev_C} (h : f_7_readClears_8 C = some C') : ev_Met l D cys ty ck_tags ev_TR kc_104 [.inr (.inl 7), .inr (.inl 8)] C (fun r0 C0 => r0 = none ∧ C0 = C') := by
  unfold f_7_readClears_8 at h
  refine ev_enter (by decide +kernel) (by decide +kernel) (Nat.le_of_ble_eq_true rfl) ?_
  show ev_W l D cys ty ck_tags ev_TR kc_104 0 [(0, .inr (.inl 7)), (1, .inr (.inl 8))] [] C _
  refine ev_al eX7_readClears_0 rfl ?_
  obtain ⟨C1, hq1, h⟩ := ev_bv_some h
  refine ev_callV (kc := kc_57) (A := []) (T := []) (lk_m.1 _ _ 0 [57] (isM (by decide +kernel)) 57 (by decide)) eX7_readClears_1 (m_8_step hU hq1) rfl rfl rfl (by decide) (by decide) (Nat.le_of_ble_eq_true rfl) ?_
  rintro _ C1 ⟨rfl, rfl⟩
  show ev_W l D cys ty ck_tags ev_TR kc_104 4 [(0, .inr (.inl 7)), (1, .inr (.inl 8))] [] C1 _
  refine ev_al eX7_readClears_4 rfl ?_
  refine ev_al eX7_readClears_5 rfl ?_
  refine ev_getR lk_f (ci := 7) (j := 0) (cd := 3) eX7_readClears_6 (isF (by decide +kernel)) rfl rfl ?_
  refine ev_getR lk_f (ci := 6) (j := 7) (cd := 3) eX7_readClears_9 (isF (by decide +kernel)) rfl rfl ?_
  refine ev_al eX7_readClears_12 rfl ?_
  refine ev_getR lk_f (ci := 7) (j := 0) (cd := 3) eX7_readClears_13 (isF (by decide +kernel)) rfl rfl ?_
  refine ev_getI lk_f (ci := 6) (j := 1) (cd := 0) eX7_readClears_16 (isF (by decide +kernel)) rfl rfl rfl ?_
  obtain ⟨r2, C2, hq2, h⟩ := ev_bd_some h
  refine ev_callV (kc := kc_59) (A := [.inr (.inl 54), .inl ((C1 13 1))]) (T := []) (lk_m.1 _ _ 0 [58, 59, 60, 61, 62, 63] (isM (by decide +kernel)) 59 (by decide)) eX7_readClears_19 (m_8_takeName_54 hU hq2) rfl rfl rfl (by decide) (by decide) (Nat.le_of_ble_eq_true rfl) ?_
  rintro _ C2 ⟨rfl, rfl⟩
  show ev_W l D cys ty ck_tags ev_TR kc_104 22 [(0, .inr (.inl 7)), (1, .inr (.inl 8))] [.inl r2] C2 _
  refine ev_is (L' := [(2, .inl r2), (0, .inr (.inl 7)), (1, .inr (.inl 8))]) eX7_readClears_22 (by decide) rfl ?_
  refine ev_il eX7_readClears_23 rfl ?_
  refine ev_ic eX7_readClears_24 (by decide) ?_
  refine ev_c_ne (tgt := 29) eX7_readClears_25 (by decide) (fun hc3 => ?_) (fun hc3 => ?_)
  · rw [if_pos (show r2 ≠ -1 from hc3)] at h
    refine ev_al eX7_readClears_29 rfl ?_
    refine ev_al eX7_readClears_30 rfl ?_
    refine ev_getR lk_f (ci := 7) (j := 0) (cd := 3) eX7_readClears_31 (isF (by decide +kernel)) rfl rfl ?_
    refine ev_getR lk_f (ci := 6) (j := 6) (cd := 3) eX7_readClears_34 (isF (by decide +kernel)) rfl rfl ?_
    refine ev_al eX7_readClears_37 rfl ?_
    refine ev_getR lk_f (ci := 7) (j := 0) (cd := 3) eX7_readClears_38 (isF (by decide +kernel)) rfl rfl ?_
    refine ev_getI lk_f (ci := 6) (j := 0) (cd := 0) eX7_readClears_41 (isF (by decide +kernel)) rfl rfl rfl ?_
    obtain ⟨r4, C4, hq4, h⟩ := ev_bd_some h
    refine ev_callV (kc := kc_44) (A := [.inr (.inl 53), .inl ((C2 13 0))]) (T := []) (lk_m.1 _ _ 0 [44, 45, 46, 47, 48, 49] (isM (by decide +kernel)) 44 (by decide)) eX7_readClears_44 (m_8_nameHere_53 hU hq4) rfl rfl rfl (by decide) (by decide) (Nat.le_of_ble_eq_true rfl) ?_
    rintro _ C4 ⟨rfl, rfl⟩
    show ev_W l D cys ty ck_tags ev_TR kc_104 47 [(2, .inl r2), (0, .inr (.inl 7)), (1, .inr (.inl 8))] [.inl r4] C4 _
    refine ev_is (L' := [(3, .inl r4), (2, .inl r2), (0, .inr (.inl 7)), (1, .inr (.inl 8))]) eX7_readClears_47 (by decide) rfl ?_
    refine ev_il eX7_readClears_48 rfl ?_
    refine ev_ic eX7_readClears_49 (by decide) ?_
    refine ev_c_eq (tgt := 76) eX7_readClears_50 (by decide) (fun hc5 => ?_) (fun hc5 => ?_)
    · rw [if_pos (show r4 = -1 from hc5)] at h
      cases h
      exact ev_vret eX7_readClears_76 rfl ⟨rfl, rfl⟩
    · rw [if_neg (show ¬ (r4 = -1) from hc5)] at h
      refine ev_al eX7_readClears_53 rfl ?_
      refine ev_getR lk_f (ci := 7) (j := 0) (cd := 3) eX7_readClears_54 (isF (by decide +kernel)) rfl rfl ?_
      refine ev_getR lk_f (ci := 6) (j := 11) (cd := 3) eX7_readClears_57 (isF (by decide +kernel)) rfl rfl ?_
      refine ev_il eX7_readClears_60 rfl ?_
      refine ev_al eX7_readClears_61 rfl ?_
      refine ev_al eX7_readClears_62 rfl ?_
      refine ev_getR lk_f (ci := 7) (j := 0) (cd := 3) eX7_readClears_63 (isF (by decide +kernel)) rfl rfl ?_
      refine ev_getR lk_f (ci := 6) (j := 11) (cd := 3) eX7_readClears_66 (isF (by decide +kernel)) rfl rfl ?_
      refine ev_il eX7_readClears_69 rfl ?_
      obtain ⟨hb6, h⟩ := ev_gd h
      refine ev_iald eX7_readClears_70 rfl rfl hb6.1 hb6.2 ?_
      refine ev_il eX7_readClears_71 rfl ?_
      obtain ⟨r7, C7, hq7, h⟩ := ev_bd_some h
      refine ev_callS (kc := kc_103) (A := [.inr (.inl 8), .inl ((C4 58 (Int.toNat r2))), .inl r4]) (T := [.inl r2, .inr (.inl 58)]) (lk_m.1 _ _ 1 [103] (isM (by decide +kernel)) 103 (by decide)) eX7_readClears_72 (m_7_takeOnce_8 hU hq7) rfl rfl (by decide) (by decide) (Nat.le_of_ble_eq_true rfl) ?_
      rintro _ C7 ⟨rfl, rfl⟩
      show ev_W l D cys ty ck_tags ev_TR kc_104 75 [(3, .inl r4), (2, .inl r2), (0, .inr (.inl 7)), (1, .inr (.inl 8))] [.inl r7, .inl r2, .inr (.inl 58)] C7 _
      obtain ⟨hb8, h⟩ := ev_gd h
      refine ev_iast hU eX7_readClears_75 rfl rfl hb8.1 hb8.2 ?_
      cases h
      exact ev_vret eX7_readClears_76 rfl ⟨rfl, rfl⟩
  · rw [if_neg (show ¬ (r2 ≠ -1) from hc3)] at h
    cases h
    exact ev_vret eX7_readClears_28 rfl ⟨rfl, rfl⟩
set_option maxRecDepth 100000 in
theorem m_7_takeNewName_8_55 (hU : ev_uq ty ev_TR) {C : ev_C} {x3 : Int} {r : Int} {C' : ev_C} (h : f_7_takeNewName_8_55 C x3 = some (r, C')) : ev_Met l D cys ty ck_tags ev_TR kc_107 [.inr (.inl 7), .inr (.inl 8), .inr (.inl 55), .inl x3] C (fun r0 C0 => r0 = some (.inl r) ∧ C0 = C') := by
  unfold f_7_takeNewName_8_55 at h
  refine ev_enter (by decide +kernel) (by decide +kernel) (Nat.le_of_ble_eq_true rfl) ?_
  show ev_W l D cys ty ck_tags ev_TR kc_107 0 [(0, .inr (.inl 7)), (1, .inr (.inl 8)), (2, .inr (.inl 55)), (3, .inl x3)] [] C _
  refine ev_al eX7_takeNewName_0 rfl ?_
  obtain ⟨r1, C1, hq1, h⟩ := ev_bd_some h
  refine ev_callV (kc := kc_0) (A := []) (T := []) (lk_m.1 _ _ 0 [0] (isM (by decide +kernel)) 0 (by decide)) eX7_takeNewName_1 (m_8_isAtName hU hq1) rfl rfl rfl (by decide) (by decide) (Nat.le_of_ble_eq_true rfl) ?_
  rintro _ C1 ⟨rfl, rfl⟩
  show ev_W l D cys ty ck_tags ev_TR kc_107 4 [(0, .inr (.inl 7)), (1, .inr (.inl 8)), (2, .inr (.inl 55)), (3, .inl x3)] [.inl r1] C1 _
  refine ev_z_ne (tgt := 14) eX7_takeNewName_4 (by decide) (fun hc2 => ?_) (fun hc2 => ?_)
  · rw [if_pos (show r1 ≠ 0 from hc2)] at h
    refine ev_al eX7_takeNewName_14 rfl ?_
    refine ev_getR lk_f (ci := 7) (j := 0) (cd := 3) eX7_takeNewName_15 (isF (by decide +kernel)) rfl rfl ?_
    refine ev_al eX7_takeNewName_18 rfl ?_
    refine ev_getL lk_f (ci := 8) (j := 8) (cd := 2) eX7_takeNewName_19 (isF (by decide +kernel)) rfl rfl rfl ?_
    obtain ⟨r3, C3, hq3, h⟩ := ev_bd_some h
    refine ev_callV (kc := kc_96) (A := [.inr (.inr ((C1 8 8)))]) (T := []) (lk_m.1 _ _ 0 [96] (isM (by decide +kernel)) 96 (by decide)) eX7_takeNewName_22 (m_6_hasName_13 hU hq3) rfl rfl rfl (by decide) (by decide) (Nat.le_of_ble_eq_true rfl) ?_
    rintro _ C3 ⟨rfl, rfl⟩
    show ev_W l D cys ty ck_tags ev_TR kc_107 25 [(0, .inr (.inl 7)), (1, .inr (.inl 8)), (2, .inr (.inl 55)), (3, .inl x3)] [.inl r3] C3 _
    refine ev_z_eq (tgt := 35) eX7_takeNewName_25 (by decide) (fun hc4 => ?_) (fun hc4 => ?_)
    · rw [if_pos (show r3 = 0 from hc4)] at h
      refine ev_il eX7_takeNewName_35 rfl ?_
      refine ev_al eX7_takeNewName_36 rfl ?_
      refine ev_alen (v := 8) eX7_takeNewName_37 rfl (by decide) rfl ?_
      refine ev_c_ge (tgt := 48) eX7_takeNewName_38 (by decide) (fun hc5 => ?_) (fun hc5 => ?_)
      · rw [if_pos (show 8 ≤ x3 from hc5)] at h
        refine ev_al eX7_takeNewName_48 rfl ?_
        obtain ⟨C6, hq6, h⟩ := ev_bv_some h
        refine ev_callV (kc := kc_57) (A := []) (T := []) (lk_m.1 _ _ 0 [57] (isM (by decide +kernel)) 57 (by decide)) eX7_takeNewName_49 (m_8_step hU hq6) rfl rfl rfl (by decide) (by decide) (Nat.le_of_ble_eq_true rfl) ?_
        rintro _ C6 ⟨rfl, rfl⟩
        show ev_W l D cys ty ck_tags ev_TR kc_107 52 [(0, .inr (.inl 7)), (1, .inr (.inl 8)), (2, .inr (.inl 55)), (3, .inl x3)] [] C6 _
        refine ev_ic eX7_takeNewName_52 (by decide) ?_
        cases h
        exact ev_zret eX7_takeNewName_53 rfl (by decide) ⟨rfl, rfl⟩
      · rw [if_neg (show ¬ (8 ≤ x3) from hc5)] at h
        refine ev_al eX7_takeNewName_41 rfl ?_
        refine ev_il eX7_takeNewName_42 rfl ?_
        refine ev_al eX7_takeNewName_43 rfl ?_
        refine ev_getL lk_f (ci := 8) (j := 8) (cd := 2) eX7_takeNewName_44 (isF (by decide +kernel)) rfl rfl rfl ?_
        obtain ⟨hb7, h⟩ := ev_gd h
        refine ev_last hU eX7_takeNewName_47 rfl rfl hb7.1 hb7.2 ?_
        refine ev_al eX7_takeNewName_48 rfl ?_
        obtain ⟨C8, hq8, h⟩ := ev_bv_some h
        refine ev_callV (kc := kc_57) (A := []) (T := []) (lk_m.1 _ _ 0 [57] (isM (by decide +kernel)) 57 (by decide)) eX7_takeNewName_49 (m_8_step hU hq8) rfl rfl rfl (by decide) (by decide) (Nat.le_of_ble_eq_true rfl) ?_
        rintro _ C8 ⟨rfl, rfl⟩
        show ev_W l D cys ty ck_tags ev_TR kc_107 52 [(0, .inr (.inl 7)), (1, .inr (.inl 8)), (2, .inr (.inl 55)), (3, .inl x3)] [] C8 _
        refine ev_ic eX7_takeNewName_52 (by decide) ?_
        cases h
        exact ev_zret eX7_takeNewName_53 rfl (by decide) ⟨rfl, rfl⟩
    · rw [if_neg (show ¬ (r3 = 0) from hc4)] at h
      refine ev_al eX7_takeNewName_28 rfl ?_
      refine ev_ic eX7_takeNewName_29 (by decide) ?_
      obtain ⟨C9, hq9, h⟩ := ev_bv_some h
      refine ev_callV (kc := kc_35) (A := [.inl 3]) (T := []) (lk_m.1 _ _ 0 [35] (isM (by decide +kernel)) 35 (by decide)) eX7_takeNewName_30 (m_8_fail hU hq9) rfl rfl rfl (by decide) (by decide) (Nat.le_of_ble_eq_true rfl) ?_
      rintro _ C9 ⟨rfl, rfl⟩
      show ev_W l D cys ty ck_tags ev_TR kc_107 33 [(0, .inr (.inl 7)), (1, .inr (.inl 8)), (2, .inr (.inl 55)), (3, .inl x3)] [] C9 _
      refine ev_ic eX7_takeNewName_33 (by decide) ?_
      cases h
      exact ev_zret eX7_takeNewName_34 rfl (by decide) ⟨rfl, rfl⟩
  · rw [if_neg (show ¬ (r1 ≠ 0) from hc2)] at h
    refine ev_al eX7_takeNewName_7 rfl ?_
    refine ev_ic eX7_takeNewName_8 (by decide) ?_
    obtain ⟨C10, hq10, h⟩ := ev_bv_some h
    refine ev_callV (kc := kc_35) (A := [.inl 1]) (T := []) (lk_m.1 _ _ 0 [35] (isM (by decide +kernel)) 35 (by decide)) eX7_takeNewName_9 (m_8_fail hU hq10) rfl rfl rfl (by decide) (by decide) (Nat.le_of_ble_eq_true rfl) ?_
    rintro _ C10 ⟨rfl, rfl⟩
    show ev_W l D cys ty ck_tags ev_TR kc_107 12 [(0, .inr (.inl 7)), (1, .inr (.inl 8)), (2, .inr (.inl 55)), (3, .inl x3)] [] C10 _
    refine ev_ic eX7_takeNewName_12 (by decide) ?_
    cases h
    exact ev_zret eX7_takeNewName_13 rfl (by decide) ⟨rfl, rfl⟩
theorem eX8_isFine_0 : decode cX8_isFine 0 = .ok (.aload_n 0, 1) := by decide +kernel
theorem eX8_isFine_1 : decode cX8_isFine 1 = .ok (.getfield 41, 3) := by decide +kernel
theorem eX8_isFine_4 : decode cX8_isFine 4 = .ok (.ifCond .ne 7, 3) := by decide +kernel
theorem eX8_isFine_7 : decode cX8_isFine 7 = .ok (.iconst 1, 1) := by decide +kernel
theorem eX8_isFine_8 : decode cX8_isFine 8 = .ok (.goto 4, 3) := by decide +kernel
theorem eX8_isFine_11 : decode cX8_isFine 11 = .ok (.iconst 0, 1) := by decide +kernel
theorem eX8_isFine_12 : decode cX8_isFine 12 = .ok (.ireturn, 1) := by decide +kernel
set_option maxRecDepth 100000 in
theorem m_8_isFine (hU : ev_uq ty ev_TR) {C : ev_C} {r : Int} {C' : ev_C} (h : f_8_isFine C = some (r, C')) : ev_Met l D cys ty ck_tags ev_TR kc_36 [.inr (.inl 8)] C (fun r0 C0 => r0 = some (.inl r) ∧ C0 = C') := by
  unfold f_8_isFine at h
  refine ev_enter (by decide +kernel) (by decide +kernel) (Nat.le_of_ble_eq_true rfl) ?_
  show ev_W l D cys ty ck_tags ev_TR kc_36 0 [(0, .inr (.inl 8))] [] C _
  refine ev_al eX8_isFine_0 rfl ?_
  refine ev_getI lk_f (ci := 8) (j := 9) (cd := 0) eX8_isFine_1 (isF (by decide +kernel)) rfl rfl rfl ?_
  refine ev_z_ne (tgt := 11) eX8_isFine_4 (by decide) (fun hc1 => ?_) (fun hc1 => ?_)
  · rw [if_pos (show (C 8 9) ≠ 0 from hc1)] at h
    refine ev_ic eX8_isFine_11 (by decide) ?_
    cases h
    exact ev_zret eX8_isFine_12 rfl (by decide) ⟨rfl, rfl⟩
  · rw [if_neg (show ¬ ((C 8 9) ≠ 0) from hc1)] at h
    refine ev_ic eX8_isFine_7 (by decide) ?_
    refine ev_goto (tgt := 12) eX8_isFine_8 (by decide) ?_
    cases h
    exact ev_zret eX8_isFine_12 rfl (by decide) ⟨rfl, rfl⟩
theorem eX7_readMan_0 : decode cX7_readMan 0 = .ok (.aload_n 1, 1) := by decide +kernel
theorem eX7_readMan_1 : decode cX7_readMan 1 = .ok (.aload_n 0, 1) := by decide +kernel
theorem eX7_readMan_2 : decode cX7_readMan 2 = .ok (.getfield 12, 3) := by decide +kernel
theorem eX7_readMan_5 : decode cX7_readMan 5 = .ok (.getfield 143, 3) := by decide +kernel
theorem eX7_readMan_8 : decode cX7_readMan 8 = .ok (.bipush 8, 2) := by decide +kernel
theorem eX7_readMan_10 : decode cX7_readMan 10 = .ok (.invokestatic 103, 3) := by decide +kernel
theorem eX7_readMan_13 : decode cX7_readMan 13 = .ok (.ifCond .eq 25, 3) := by decide +kernel
theorem eX7_readMan_16 : decode cX7_readMan 16 = .ok (.aload_n 0, 1) := by decide +kernel
theorem eX7_readMan_17 : decode cX7_readMan 17 = .ok (.aload_n 1, 1) := by decide +kernel
theorem eX7_readMan_18 : decode cX7_readMan 18 = .ok (.aload_n 0, 1) := by decide +kernel
theorem eX7_readMan_19 : decode cX7_readMan 19 = .ok (.getfield 12, 3) := by decide +kernel
theorem eX7_readMan_22 : decode cX7_readMan 22 = .ok (.getfield 146, 3) := by decide +kernel
theorem eX7_readMan_25 : decode cX7_readMan 25 = .ok (.aload_n 0, 1) := by decide +kernel
theorem eX7_readMan_26 : decode cX7_readMan 26 = .ok (.getfield 12, 3) := by decide +kernel
theorem eX7_readMan_29 : decode cX7_readMan 29 = .ok (.getfield 143, 3) := by decide +kernel
theorem eX7_readMan_32 : decode cX7_readMan 32 = .ok (.invokevirtual 111, 3) := by decide +kernel
theorem eX7_readMan_35 : decode cX7_readMan 35 = .ok (.ifCond .ne 4, 3) := by decide +kernel
theorem eX7_readMan_38 : decode cX7_readMan 38 = .ok (.return_, 1) := by decide +kernel
theorem eX7_readMan_39 : decode cX7_readMan 39 = .ok (.aload_n 0, 1) := by decide +kernel
theorem eX7_readMan_40 : decode cX7_readMan 40 = .ok (.getfield 12, 3) := by decide +kernel
theorem eX7_readMan_43 : decode cX7_readMan 43 = .ok (.getfield 149, 3) := by decide +kernel
theorem eX7_readMan_46 : decode cX7_readMan 46 = .ok (.aload_n 0, 1) := by decide +kernel
theorem eX7_readMan_47 : decode cX7_readMan 47 = .ok (.getfield 12, 3) := by decide +kernel
theorem eX7_readMan_50 : decode cX7_readMan 50 = .ok (.getfield 143, 3) := by decide +kernel
theorem eX7_readMan_53 : decode cX7_readMan 53 = .ok (.aload_n 1, 1) := by decide +kernel
theorem eX7_readMan_54 : decode cX7_readMan 54 = .ok (.iconst 0, 1) := by decide +kernel
theorem eX7_readMan_55 : decode cX7_readMan 55 = .ok (.bipush 9, 2) := by decide +kernel
theorem eX7_readMan_57 : decode cX7_readMan 57 = .ok (.invokevirtual 119, 3) := by decide +kernel
theorem eX7_readMan_60 : decode cX7_readMan 60 = .ok (.iastore, 1) := by decide +kernel
theorem eX7_readMan_61 : decode cX7_readMan 61 = .ok (.aload_n 1, 1) := by decide +kernel
theorem eX7_readMan_62 : decode cX7_readMan 62 = .ok (.invokevirtual 31, 3) := by decide +kernel
theorem eX7_readMan_65 : decode cX7_readMan 65 = .ok (.ifCond .eq 25, 3) := by decide +kernel
theorem eX7_readMan_68 : decode cX7_readMan 68 = .ok (.aload_n 0, 1) := by decide +kernel
theorem eX7_readMan_69 : decode cX7_readMan 69 = .ok (.getfield 12, 3) := by decide +kernel
theorem eX7_readMan_72 : decode cX7_readMan 72 = .ok (.getfield 152, 3) := by decide +kernel
theorem eX7_readMan_75 : decode cX7_readMan 75 = .ok (.aload_n 0, 1) := by decide +kernel
theorem eX7_readMan_76 : decode cX7_readMan 76 = .ok (.getfield 12, 3) := by decide +kernel
theorem eX7_readMan_79 : decode cX7_readMan 79 = .ok (.getfield 143, 3) := by decide +kernel
theorem eX7_readMan_82 : decode cX7_readMan 82 = .ok (.aload_n 1, 1) := by decide +kernel
theorem eX7_readMan_83 : decode cX7_readMan 83 = .ok (.iconst 1, 1) := by decide +kernel
theorem eX7_readMan_84 : decode cX7_readMan 84 = .ok (.bipush 9, 2) := by decide +kernel
theorem eX7_readMan_86 : decode cX7_readMan 86 = .ok (.invokevirtual 119, 3) := by decide +kernel
theorem eX7_readMan_89 : decode cX7_readMan 89 = .ok (.iastore, 1) := by decide +kernel
theorem eX7_readMan_90 : decode cX7_readMan 90 = .ok (.aload_n 0, 1) := by decide +kernel
theorem eX7_readMan_91 : decode cX7_readMan 91 = .ok (.getfield 12, 3) := by decide +kernel
theorem eX7_readMan_94 : decode cX7_readMan 94 = .ok (.dup, 1) := by decide +kernel
theorem eX7_readMan_95 : decode cX7_readMan 95 = .ok (.getfield 143, 3) := by decide +kernel
theorem eX7_readMan_98 : decode cX7_readMan 98 = .ok (.iconst 1, 1) := by decide +kernel
theorem eX7_readMan_99 : decode cX7_readMan 99 = .ok (.iadd, 1) := by decide +kernel
theorem eX7_readMan_100 : decode cX7_readMan 100 = .ok (.putfield 143, 3) := by decide +kernel
theorem eX7_readMan_103 : decode cX7_readMan 103 = .ok (.return_, 1) := by decide +kernel
set_option maxRecDepth 100000 in
theorem m_7_readMan_8 (hU : ev_uq ty ev_TR) {C : ev_C} {C' : ev_C} (h : f_7_readMan_8 C = some C') : ev_Met l D cys ty ck_tags ev_TR kc_112 [.inr (.inl 7), .inr (.inl 8)] C (fun r0 C0 => r0 = none ∧ C0 = C') := by
  unfold f_7_readMan_8 at h
  refine ev_enter (by decide +kernel) (by decide +kernel) (Nat.le_of_ble_eq_true rfl) ?_
  show ev_W l D cys ty ck_tags ev_TR kc_112 0 [(0, .inr (.inl 7)), (1, .inr (.inl 8))] [] C _
  refine ev_al eX7_readMan_0 rfl ?_
  refine ev_al eX7_readMan_1 rfl ?_
  refine ev_getR lk_f (ci := 7) (j := 0) (cd := 3) eX7_readMan_2 (isF (by decide +kernel)) rfl rfl ?_
  refine ev_getI lk_f (ci := 6) (j := 2) (cd := 0) eX7_readMan_5 (isF (by decide +kernel)) rfl rfl rfl ?_
  refine ev_bp eX7_readMan_8 (by decide) (by decide) ?_
  obtain ⟨r1, C1, hq1, h⟩ := ev_bd_some h
  refine ev_callS (kc := kc_99) (A := [.inr (.inl 8), .inl ((C 13 2)), .inl 8]) (T := []) (lk_m.1 _ _ 1 [99, 100, 101] (isM (by decide +kernel)) 99 (by decide)) eX7_readMan_10 (m_7_takeOneOf_8 hU hq1) rfl rfl (by decide) (by decide) (Nat.le_of_ble_eq_true rfl) ?_
  rintro _ C1 ⟨rfl, rfl⟩
  show ev_W l D cys ty ck_tags ev_TR kc_112 13 [(0, .inr (.inl 7)), (1, .inr (.inl 8))] [.inl r1] C1 _
  refine ev_z_eq (tgt := 38) eX7_readMan_13 (by decide) (fun hc2 => ?_) (fun hc2 => ?_)
  · rw [if_pos (show r1 = 0 from hc2)] at h
    cases h
    exact ev_vret eX7_readMan_38 rfl ⟨rfl, rfl⟩
  · rw [if_neg (show ¬ (r1 = 0) from hc2)] at h
    refine ev_al eX7_readMan_16 rfl ?_
    refine ev_al eX7_readMan_17 rfl ?_
    refine ev_al eX7_readMan_18 rfl ?_
    refine ev_getR lk_f (ci := 7) (j := 0) (cd := 3) eX7_readMan_19 (isF (by decide +kernel)) rfl rfl ?_
    refine ev_getR lk_f (ci := 6) (j := 8) (cd := 3) eX7_readMan_22 (isF (by decide +kernel)) rfl rfl ?_
    refine ev_al eX7_readMan_25 rfl ?_
    refine ev_getR lk_f (ci := 7) (j := 0) (cd := 3) eX7_readMan_26 (isF (by decide +kernel)) rfl rfl ?_
    refine ev_getI lk_f (ci := 6) (j := 2) (cd := 0) eX7_readMan_29 (isF (by decide +kernel)) rfl rfl rfl ?_
    obtain ⟨r3, C3, hq3, h⟩ := ev_bd_some h
    refine ev_callV (kc := kc_107) (A := [.inr (.inl 8), .inr (.inl 55), .inl ((C1 13 2))]) (T := []) (lk_m.1 _ _ 0 [105, 106, 107] (isM (by decide +kernel)) 107 (by decide)) eX7_readMan_32 (m_7_takeNewName_8_55 hU hq3) rfl rfl rfl (by decide) (by decide) (Nat.le_of_ble_eq_true rfl) ?_
    rintro _ C3 ⟨rfl, rfl⟩
    show ev_W l D cys ty ck_tags ev_TR kc_112 35 [(0, .inr (.inl 7)), (1, .inr (.inl 8))] [.inl r3] C3 _
    refine ev_z_ne (tgt := 39) eX7_readMan_35 (by decide) (fun hc4 => ?_) (fun hc4 => ?_)
    · rw [if_pos (show r3 ≠ 0 from hc4)] at h
      refine ev_al eX7_readMan_39 rfl ?_
      refine ev_getR lk_f (ci := 7) (j := 0) (cd := 3) eX7_readMan_40 (isF (by decide +kernel)) rfl rfl ?_
      refine ev_getR lk_f (ci := 6) (j := 12) (cd := 3) eX7_readMan_43 (isF (by decide +kernel)) rfl rfl ?_
      refine ev_al eX7_readMan_46 rfl ?_
      refine ev_getR lk_f (ci := 7) (j := 0) (cd := 3) eX7_readMan_47 (isF (by decide +kernel)) rfl rfl ?_
      refine ev_getI lk_f (ci := 6) (j := 2) (cd := 0) eX7_readMan_50 (isF (by decide +kernel)) rfl rfl rfl ?_
      refine ev_al eX7_readMan_53 rfl ?_
      refine ev_ic eX7_readMan_54 (by decide) ?_
      refine ev_bp eX7_readMan_55 (by decide) (by decide) ?_
      obtain ⟨r5, C5, hq5, h⟩ := ev_bd_some h
      refine ev_callV (kc := kc_110) (A := [.inl 0, .inl 9]) (T := [.inl ((C3 13 2)), .inr (.inl 59)]) (lk_m.1 _ _ 0 [110] (isM (by decide +kernel)) 110 (by decide)) eX7_readMan_57 (m_8_takeNumber hU hq5) rfl rfl rfl (by decide) (by decide) (Nat.le_of_ble_eq_true rfl) ?_
      rintro _ C5 ⟨rfl, rfl⟩
      show ev_W l D cys ty ck_tags ev_TR kc_112 60 [(0, .inr (.inl 7)), (1, .inr (.inl 8))] [.inl r5, .inl ((C3 13 2)), .inr (.inl 59)] C5 _
      obtain ⟨hb6, h⟩ := ev_gd h
      refine ev_iast hU eX7_readMan_60 rfl rfl hb6.1 hb6.2 ?_
      refine ev_al eX7_readMan_61 rfl ?_
      obtain ⟨r7, C7, hq7, h⟩ := ev_bd_some h
      refine ev_callV (kc := kc_36) (A := []) (T := []) (lk_m.1 _ _ 0 [36] (isM (by decide +kernel)) 36 (by decide)) eX7_readMan_62 (m_8_isFine hU hq7) rfl rfl rfl (by decide) (by decide) (Nat.le_of_ble_eq_true rfl) ?_
      rintro _ C7 ⟨rfl, rfl⟩
      show ev_W l D cys ty ck_tags ev_TR kc_112 65 [(0, .inr (.inl 7)), (1, .inr (.inl 8))] [.inl r7] C7 _
      refine ev_z_eq (tgt := 90) eX7_readMan_65 (by decide) (fun hc8 => ?_) (fun hc8 => ?_)
      · rw [if_pos (show r7 = 0 from hc8)] at h
        refine ev_al eX7_readMan_90 rfl ?_
        refine ev_getR lk_f (ci := 7) (j := 0) (cd := 3) eX7_readMan_91 (isF (by decide +kernel)) rfl rfl ?_
        refine ev_dup eX7_readMan_94 rfl ?_
        refine ev_getI lk_f (ci := 6) (j := 2) (cd := 0) eX7_readMan_95 (isF (by decide +kernel)) rfl rfl rfl ?_
        refine ev_ic eX7_readMan_98 (by decide) ?_
        refine ev_add eX7_readMan_99 ?_
        refine ev_putI lk_f hU (ci := 6) (j := 2) (cd := 0) eX7_readMan_100 (isF (by decide +kernel)) rfl rfl (Or.inl rfl) rfl ?_
        cases h
        exact ev_vret eX7_readMan_103 rfl ⟨rfl, rfl⟩
      · rw [if_neg (show ¬ (r7 = 0) from hc8)] at h
        refine ev_al eX7_readMan_68 rfl ?_
        refine ev_getR lk_f (ci := 7) (j := 0) (cd := 3) eX7_readMan_69 (isF (by decide +kernel)) rfl rfl ?_
        refine ev_getR lk_f (ci := 6) (j := 13) (cd := 3) eX7_readMan_72 (isF (by decide +kernel)) rfl rfl ?_
        refine ev_al eX7_readMan_75 rfl ?_
        refine ev_getR lk_f (ci := 7) (j := 0) (cd := 3) eX7_readMan_76 (isF (by decide +kernel)) rfl rfl ?_
        refine ev_getI lk_f (ci := 6) (j := 2) (cd := 0) eX7_readMan_79 (isF (by decide +kernel)) rfl rfl rfl ?_
        refine ev_al eX7_readMan_82 rfl ?_
        refine ev_ic eX7_readMan_83 (by decide) ?_
        refine ev_bp eX7_readMan_84 (by decide) (by decide) ?_
        obtain ⟨r9, C9, hq9, h⟩ := ev_bd_some h
        refine ev_callV (kc := kc_110) (A := [.inl 1, .inl 9]) (T := [.inl ((C7 13 2)), .inr (.inl 60)]) (lk_m.1 _ _ 0 [110] (isM (by decide +kernel)) 110 (by decide)) eX7_readMan_86 (m_8_takeNumber hU hq9) rfl rfl rfl (by decide) (by decide) (Nat.le_of_ble_eq_true rfl) ?_
        rintro _ C9 ⟨rfl, rfl⟩
        show ev_W l D cys ty ck_tags ev_TR kc_112 89 [(0, .inr (.inl 7)), (1, .inr (.inl 8))] [.inl r9, .inl ((C7 13 2)), .inr (.inl 60)] C9 _
        obtain ⟨hb10, h⟩ := ev_gd h
        refine ev_iast hU eX7_readMan_89 rfl rfl hb10.1 hb10.2 ?_
        refine ev_al eX7_readMan_90 rfl ?_
        refine ev_getR lk_f (ci := 7) (j := 0) (cd := 3) eX7_readMan_91 (isF (by decide +kernel)) rfl rfl ?_
        refine ev_dup eX7_readMan_94 rfl ?_
        refine ev_getI lk_f (ci := 6) (j := 2) (cd := 0) eX7_readMan_95 (isF (by decide +kernel)) rfl rfl rfl ?_
        refine ev_ic eX7_readMan_98 (by decide) ?_
        refine ev_add eX7_readMan_99 ?_
        refine ev_putI lk_f hU (ci := 6) (j := 2) (cd := 0) eX7_readMan_100 (isF (by decide +kernel)) rfl rfl (Or.inl rfl) rfl ?_
        cases h
        exact ev_vret eX7_readMan_103 rfl ⟨rfl, rfl⟩
    · rw [if_neg (show ¬ (r3 ≠ 0) from hc4)] at h
      cases h
      exact ev_vret eX7_readMan_38 rfl ⟨rfl, rfl⟩
theorem eX7_readAct_0 : decode cX7_readAct 0 = .ok (.aload_n 1, 1) := by decide +kernel
theorem eX7_readAct_1 : decode cX7_readAct 1 = .ok (.aload_n 0, 1) := by decide +kernel
theorem eX7_readAct_2 : decode cX7_readAct 2 = .ok (.getfield 12, 3) := by decide +kernel
theorem eX7_readAct_5 : decode cX7_readAct 5 = .ok (.getfield 155, 3) := by decide +kernel
theorem eX7_readAct_8 : decode cX7_readAct 8 = .ok (.bipush 6, 2) := by decide +kernel
theorem eX7_readAct_10 : decode cX7_readAct 10 = .ok (.invokestatic 103, 3) := by decide +kernel
theorem eX7_readAct_13 : decode cX7_readAct 13 = .ok (.ifCond .eq 16, 3) := by decide +kernel
theorem eX7_readAct_16 : decode cX7_readAct 16 = .ok (.aload_n 0, 1) := by decide +kernel
theorem eX7_readAct_17 : decode cX7_readAct 17 = .ok (.getfield 12, 3) := by decide +kernel
theorem eX7_readAct_20 : decode cX7_readAct 20 = .ok (.dup, 1) := by decide +kernel
theorem eX7_readAct_21 : decode cX7_readAct 21 = .ok (.getfield 155, 3) := by decide +kernel
theorem eX7_readAct_24 : decode cX7_readAct 24 = .ok (.iconst 1, 1) := by decide +kernel
theorem eX7_readAct_25 : decode cX7_readAct 25 = .ok (.iadd, 1) := by decide +kernel
theorem eX7_readAct_26 : decode cX7_readAct 26 = .ok (.putfield 155, 3) := by decide +kernel
theorem eX7_readAct_29 : decode cX7_readAct 29 = .ok (.return_, 1) := by decide +kernel
set_option maxRecDepth 100000 in
theorem m_7_readAct_8 (hU : ev_uq ty ev_TR) {C : ev_C} {C' : ev_C} (h : f_7_readAct_8 C = some C') : ev_Met l D cys ty ck_tags ev_TR kc_102 [.inr (.inl 7), .inr (.inl 8)] C (fun r0 C0 => r0 = none ∧ C0 = C') := by
  unfold f_7_readAct_8 at h
  refine ev_enter (by decide +kernel) (by decide +kernel) (Nat.le_of_ble_eq_true rfl) ?_
  show ev_W l D cys ty ck_tags ev_TR kc_102 0 [(0, .inr (.inl 7)), (1, .inr (.inl 8))] [] C _
  refine ev_al eX7_readAct_0 rfl ?_
  refine ev_al eX7_readAct_1 rfl ?_
  refine ev_getR lk_f (ci := 7) (j := 0) (cd := 3) eX7_readAct_2 (isF (by decide +kernel)) rfl rfl ?_
  refine ev_getI lk_f (ci := 6) (j := 3) (cd := 0) eX7_readAct_5 (isF (by decide +kernel)) rfl rfl rfl ?_
  refine ev_bp eX7_readAct_8 (by decide) (by decide) ?_
  obtain ⟨r1, C1, hq1, h⟩ := ev_bd_some h
  refine ev_callS (kc := kc_99) (A := [.inr (.inl 8), .inl ((C 13 3)), .inl 6]) (T := []) (lk_m.1 _ _ 1 [99, 100, 101] (isM (by decide +kernel)) 99 (by decide)) eX7_readAct_10 (m_7_takeOneOf_8 hU hq1) rfl rfl (by decide) (by decide) (Nat.le_of_ble_eq_true rfl) ?_
  rintro _ C1 ⟨rfl, rfl⟩
  show ev_W l D cys ty ck_tags ev_TR kc_102 13 [(0, .inr (.inl 7)), (1, .inr (.inl 8))] [.inl r1] C1 _
  refine ev_z_eq (tgt := 29) eX7_readAct_13 (by decide) (fun hc2 => ?_) (fun hc2 => ?_)
  · rw [if_pos (show r1 = 0 from hc2)] at h
    cases h
    exact ev_vret eX7_readAct_29 rfl ⟨rfl, rfl⟩
  · rw [if_neg (show ¬ (r1 = 0) from hc2)] at h
    refine ev_al eX7_readAct_16 rfl ?_
    refine ev_getR lk_f (ci := 7) (j := 0) (cd := 3) eX7_readAct_17 (isF (by decide +kernel)) rfl rfl ?_
    refine ev_dup eX7_readAct_20 rfl ?_
    refine ev_getI lk_f (ci := 6) (j := 3) (cd := 0) eX7_readAct_21 (isF (by decide +kernel)) rfl rfl rfl ?_
    refine ev_ic eX7_readAct_24 (by decide) ?_
    refine ev_add eX7_readAct_25 ?_
    refine ev_putI lk_f hU (ci := 6) (j := 3) (cd := 0) eX7_readAct_26 (isF (by decide +kernel)) rfl rfl (Or.inl rfl) rfl ?_
    cases h
    exact ev_vret eX7_readAct_29 rfl ⟨rfl, rfl⟩
theorem eX8_isAtSign_0 : decode cX8_isAtSign 0 = .ok (.aload_n 0, 1) := by decide +kernel
theorem eX8_isAtSign_1 : decode cX8_isAtSign 1 = .ok (.getfield 25, 3) := by decide +kernel
theorem eX8_isAtSign_4 : decode cX8_isAtSign 4 = .ok (.iconst 3, 1) := by decide +kernel
theorem eX8_isAtSign_5 : decode cX8_isAtSign 5 = .ok (.if_icmp .ne 15, 3) := by decide +kernel
theorem eX8_isAtSign_8 : decode cX8_isAtSign 8 = .ok (.aload_n 0, 1) := by decide +kernel
theorem eX8_isAtSign_9 : decode cX8_isAtSign 9 = .ok (.getfield 31, 3) := by decide +kernel
theorem eX8_isAtSign_12 : decode cX8_isAtSign 12 = .ok (.iload_n 1, 1) := by decide +kernel
theorem eX8_isAtSign_13 : decode cX8_isAtSign 13 = .ok (.if_icmp .ne 7, 3) := by decide +kernel
theorem eX8_isAtSign_16 : decode cX8_isAtSign 16 = .ok (.iconst 1, 1) := by decide +kernel
theorem eX8_isAtSign_17 : decode cX8_isAtSign 17 = .ok (.goto 4, 3) := by decide +kernel
theorem eX8_isAtSign_20 : decode cX8_isAtSign 20 = .ok (.iconst 0, 1) := by decide +kernel
theorem eX8_isAtSign_21 : decode cX8_isAtSign 21 = .ok (.ireturn, 1) := by decide +kernel
set_option maxRecDepth 100000 in
theorem m_8_isAtSign (hU : ev_uq ty ev_TR) {C : ev_C} {x1 : Int} {r : Int} {C' : ev_C} (h : f_8_isAtSign C x1 = some (r, C')) : ev_Met l D cys ty ck_tags ev_TR kc_67 [.inr (.inl 8), .inl x1] C (fun r0 C0 => r0 = some (.inl r) ∧ C0 = C') := by
  unfold f_8_isAtSign at h
  refine ev_enter (by decide +kernel) (by decide +kernel) (Nat.le_of_ble_eq_true rfl) ?_
  show ev_W l D cys ty ck_tags ev_TR kc_67 0 [(0, .inr (.inl 8)), (1, .inl x1)] [] C _
  refine ev_al eX8_isAtSign_0 rfl ?_
  refine ev_getI lk_f (ci := 8) (j := 4) (cd := 0) eX8_isAtSign_1 (isF (by decide +kernel)) rfl rfl rfl ?_
  refine ev_ic eX8_isAtSign_4 (by decide) ?_
  refine ev_c_ne (tgt := 20) eX8_isAtSign_5 (by decide) (fun hc1 => ?_) (fun hc1 => ?_)
  · rw [if_pos (show (C 8 4) ≠ 3 from hc1)] at h
    refine ev_ic eX8_isAtSign_20 (by decide) ?_
    cases h
    exact ev_zret eX8_isAtSign_21 rfl (by decide) ⟨rfl, rfl⟩
  · rw [if_neg (show ¬ ((C 8 4) ≠ 3) from hc1)] at h
    refine ev_al eX8_isAtSign_8 rfl ?_
    refine ev_getI lk_f (ci := 8) (j := 6) (cd := 0) eX8_isAtSign_9 (isF (by decide +kernel)) rfl rfl rfl ?_
    refine ev_il eX8_isAtSign_12 rfl ?_
    refine ev_c_ne (tgt := 20) eX8_isAtSign_13 (by decide) (fun hc2 => ?_) (fun hc2 => ?_)
    · rw [if_pos (show (C 8 6) ≠ x1 from hc2)] at h
      refine ev_ic eX8_isAtSign_20 (by decide) ?_
      cases h
      exact ev_zret eX8_isAtSign_21 rfl (by decide) ⟨rfl, rfl⟩
    · rw [if_neg (show ¬ ((C 8 6) ≠ x1) from hc2)] at h
      refine ev_ic eX8_isAtSign_16 (by decide) ?_
      refine ev_goto (tgt := 21) eX8_isAtSign_17 (by decide) ?_
      cases h
      exact ev_zret eX8_isAtSign_21 rfl (by decide) ⟨rfl, rfl⟩
theorem eX7_readScene_0 : decode cX7_readScene 0 = .ok (.aload_n 0, 1) := by decide +kernel
theorem eX7_readScene_1 : decode cX7_readScene 1 = .ok (.getfield 12, 3) := by decide +kernel
theorem eX7_readScene_4 : decode cX7_readScene 4 = .ok (.getfield 155, 3) := by decide +kernel
theorem eX7_readScene_7 : decode cX7_readScene 7 = .ok (.ifCond .ne 9, 3) := by decide +kernel
theorem eX7_readScene_10 : decode cX7_readScene 10 = .ok (.aload_n 1, 1) := by decide +kernel
theorem eX7_readScene_11 : decode cX7_readScene 11 = .ok (.iconst 1, 1) := by decide +kernel
theorem eX7_readScene_12 : decode cX7_readScene 12 = .ok (.invokevirtual 79, 3) := by decide +kernel
theorem eX7_readScene_15 : decode cX7_readScene 15 = .ok (.return_, 1) := by decide +kernel
theorem eX7_readScene_16 : decode cX7_readScene 16 = .ok (.aload_n 1, 1) := by decide +kernel
theorem eX7_readScene_17 : decode cX7_readScene 17 = .ok (.aload_n 0, 1) := by decide +kernel
theorem eX7_readScene_18 : decode cX7_readScene 18 = .ok (.getfield 12, 3) := by decide +kernel
theorem eX7_readScene_21 : decode cX7_readScene 21 = .ok (.getfield 158, 3) := by decide +kernel
theorem eX7_readScene_24 : decode cX7_readScene 24 = .ok (.bipush 12, 2) := by decide +kernel
theorem eX7_readScene_26 : decode cX7_readScene 26 = .ok (.invokestatic 103, 3) := by decide +kernel
theorem eX7_readScene_29 : decode cX7_readScene 29 = .ok (.ifCond .ne 4, 3) := by decide +kernel
theorem eX7_readScene_32 : decode cX7_readScene 32 = .ok (.return_, 1) := by decide +kernel
theorem eX7_readScene_33 : decode cX7_readScene 33 = .ok (.aload_n 0, 1) := by decide +kernel
theorem eX7_readScene_34 : decode cX7_readScene 34 = .ok (.getfield 12, 3) := by decide +kernel
theorem eX7_readScene_37 : decode cX7_readScene 37 = .ok (.getfield 158, 3) := by decide +kernel
theorem eX7_readScene_40 : decode cX7_readScene 40 = .ok (.istore_n 2, 1) := by decide +kernel
theorem eX7_readScene_41 : decode cX7_readScene 41 = .ok (.aload_n 0, 1) := by decide +kernel
theorem eX7_readScene_42 : decode cX7_readScene 42 = .ok (.getfield 12, 3) := by decide +kernel
theorem eX7_readScene_45 : decode cX7_readScene 45 = .ok (.getfield 161, 3) := by decide +kernel
theorem eX7_readScene_48 : decode cX7_readScene 48 = .ok (.iload_n 2, 1) := by decide +kernel
theorem eX7_readScene_49 : decode cX7_readScene 49 = .ok (.aload_n 0, 1) := by decide +kernel
theorem eX7_readScene_50 : decode cX7_readScene 50 = .ok (.getfield 12, 3) := by decide +kernel
theorem eX7_readScene_53 : decode cX7_readScene 53 = .ok (.getfield 155, 3) := by decide +kernel
theorem eX7_readScene_56 : decode cX7_readScene 56 = .ok (.iconst 1, 1) := by decide +kernel
theorem eX7_readScene_57 : decode cX7_readScene 57 = .ok (.isub, 1) := by decide +kernel
theorem eX7_readScene_58 : decode cX7_readScene 58 = .ok (.iastore, 1) := by decide +kernel
theorem eX7_readScene_59 : decode cX7_readScene 59 = .ok (.aload_n 0, 1) := by decide +kernel
theorem eX7_readScene_60 : decode cX7_readScene 60 = .ok (.getfield 12, 3) := by decide +kernel
theorem eX7_readScene_63 : decode cX7_readScene 63 = .ok (.dup, 1) := by decide +kernel
theorem eX7_readScene_64 : decode cX7_readScene 64 = .ok (.getfield 158, 3) := by decide +kernel
theorem eX7_readScene_67 : decode cX7_readScene 67 = .ok (.iconst 1, 1) := by decide +kernel
theorem eX7_readScene_68 : decode cX7_readScene 68 = .ok (.iadd, 1) := by decide +kernel
theorem eX7_readScene_69 : decode cX7_readScene 69 = .ok (.putfield 158, 3) := by decide +kernel
theorem eX7_readScene_72 : decode cX7_readScene 72 = .ok (.iconst 0, 1) := by decide +kernel
theorem eX7_readScene_73 : decode cX7_readScene 73 = .ok (.istore_n 3, 1) := by decide +kernel
theorem eX7_readScene_74 : decode cX7_readScene 74 = .ok (.iload_n 3, 1) := by decide +kernel
theorem eX7_readScene_75 : decode cX7_readScene 75 = .ok (.bipush 6, 2) := by decide +kernel
theorem eX7_readScene_77 : decode cX7_readScene 77 = .ok (.if_icmp .gt 80, 3) := by decide +kernel
theorem eX7_readScene_80 : decode cX7_readScene 80 = .ok (.aload_n 1, 1) := by decide +kernel
theorem eX7_readScene_81 : decode cX7_readScene 81 = .ok (.invokevirtual 31, 3) := by decide +kernel
theorem eX7_readScene_84 : decode cX7_readScene 84 = .ok (.ifCond .eq 73, 3) := by decide +kernel
theorem eX7_readScene_87 : decode cX7_readScene 87 = .ok (.iload_n 3, 1) := by decide +kernel
theorem eX7_readScene_88 : decode cX7_readScene 88 = .ok (.ifCond .le 13, 3) := by decide +kernel
theorem eX7_readScene_91 : decode cX7_readScene 91 = .ok (.aload_n 1, 1) := by decide +kernel
theorem eX7_readScene_92 : decode cX7_readScene 92 = .ok (.bipush 59, 2) := by decide +kernel
theorem eX7_readScene_94 : decode cX7_readScene 94 = .ok (.invokevirtual 164, 3) := by decide +kernel
theorem eX7_readScene_97 : decode cX7_readScene 97 = .ok (.ifCond .eq 4, 3) := by decide +kernel
theorem eX7_readScene_100 : decode cX7_readScene 100 = .ok (.return_, 1) := by decide +kernel
theorem eX7_readScene_101 : decode cX7_readScene 101 = .ok (.aload_n 1, 1) := by decide +kernel
theorem eX7_readScene_102 : decode cX7_readScene 102 = .ok (.aload_n 0, 1) := by decide +kernel
theorem eX7_readScene_103 : decode cX7_readScene 103 = .ok (.getfield 12, 3) := by decide +kernel
theorem eX7_readScene_106 : decode cX7_readScene 106 = .ok (.getfield 107, 3) := by decide +kernel
theorem eX7_readScene_109 : decode cX7_readScene 109 = .ok (.aload_n 0, 1) := by decide +kernel
theorem eX7_readScene_110 : decode cX7_readScene 110 = .ok (.getfield 12, 3) := by decide +kernel
theorem eX7_readScene_113 : decode cX7_readScene 113 = .ok (.getfield 100, 3) := by decide +kernel
theorem eX7_readScene_116 : decode cX7_readScene 116 = .ok (.invokevirtual 133, 3) := by decide +kernel
theorem eX7_readScene_119 : decode cX7_readScene 119 = .ok (.istore 4, 2) := by decide +kernel
theorem eX7_readScene_121 : decode cX7_readScene 121 = .ok (.iload 4, 2) := by decide +kernel
theorem eX7_readScene_123 : decode cX7_readScene 123 = .ok (.iconst (-1), 1) := by decide +kernel
theorem eX7_readScene_124 : decode cX7_readScene 124 = .ok (.if_icmp .eq 27, 3) := by decide +kernel
theorem eX7_readScene_127 : decode cX7_readScene 127 = .ok (.aload_n 0, 1) := by decide +kernel
theorem eX7_readScene_128 : decode cX7_readScene 128 = .ok (.getfield 12, 3) := by decide +kernel
theorem eX7_readScene_131 : decode cX7_readScene 131 = .ok (.getfield 168, 3) := by decide +kernel
theorem eX7_readScene_134 : decode cX7_readScene 134 = .ok (.iload_n 2, 1) := by decide +kernel
theorem eX7_readScene_135 : decode cX7_readScene 135 = .ok (.aload_n 1, 1) := by decide +kernel
theorem eX7_readScene_136 : decode cX7_readScene 136 = .ok (.aload_n 0, 1) := by decide +kernel
theorem eX7_readScene_137 : decode cX7_readScene 137 = .ok (.getfield 12, 3) := by decide +kernel
theorem eX7_readScene_140 : decode cX7_readScene 140 = .ok (.getfield 168, 3) := by decide +kernel
theorem eX7_readScene_143 : decode cX7_readScene 143 = .ok (.iload_n 2, 1) := by decide +kernel
theorem eX7_readScene_144 : decode cX7_readScene 144 = .ok (.iaload, 1) := by decide +kernel
theorem eX7_readScene_145 : decode cX7_readScene 145 = .ok (.iload 4, 2) := by decide +kernel
theorem eX7_readScene_147 : decode cX7_readScene 147 = .ok (.invokestatic 139, 3) := by decide +kernel
theorem eX7_readScene_150 : decode cX7_readScene 150 = .ok (.iastore, 1) := by decide +kernel
theorem eX7_readScene_151 : decode cX7_readScene 151 = .ok (.iinc 3 1, 3) := by decide +kernel
theorem eX7_readScene_154 : decode cX7_readScene 154 = .ok (.goto (-80), 3) := by decide +kernel
theorem eX7_readScene_157 : decode cX7_readScene 157 = .ok (.return_, 1) := by decide +kernel
set_option maxRecDepth 100000 in
theorem m_7_readScene_8_J151 (hU : ev_uq ty ev_TR) {C' : ev_C} {K74 : ev_C → Int → Int → Option ev_C} (hK74 : ∀ {C : ev_C} {y2 y3 : Int}, K74 C y2 y3 = some C' → ev_W l D cys ty ck_tags ev_TR kc_117 74 [(0, .inr (.inl 7)), (1, .inr (.inl 8)), (2, .inl y2), (3, .inl y3)] [] C (fun r0 C0 => r0 = none ∧ C0 = C')) {C : ev_C} {y2 y3 y4 : Int} (h : f_7_readScene_8_J151 K74 C y2 y3 y4 = some C') : ev_W l D cys ty ck_tags ev_TR kc_117 151 [(0, .inr (.inl 7)), (1, .inr (.inl 8)), (2, .inl y2), (3, .inl y3), (4, .inl y4)] [] C (fun r0 C0 => r0 = none ∧ C0 = C') := by
  unfold f_7_readScene_8_J151 at h
  refine ev_inc (L' := [(3, .inl (ev_w (y3 + 1))), (0, .inr (.inl 7)), (1, .inr (.inl 8)), (2, .inl y2), (4, .inl y4)]) eX7_readScene_151 (by decide) (by decide) rfl rfl ?_
  refine ev_goto (tgt := 74) eX7_readScene_154 (by decide) ?_
  refine ev_loc (L' := [(0, .inr (.inl 7)), (1, .inr (.inl 8)), (2, .inl y2), (3, .inl (ev_w (y3 + 1)))]) rfl ?_
  exact hK74 h
set_option maxRecDepth 100000 in
theorem m_7_readScene_8_J101 (hU : ev_uq ty ev_TR) {C' : ev_C} {K74 : ev_C → Int → Int → Option ev_C} (hK74 : ∀ {C : ev_C} {y2 y3 : Int}, K74 C y2 y3 = some C' → ev_W l D cys ty ck_tags ev_TR kc_117 74 [(0, .inr (.inl 7)), (1, .inr (.inl 8)), (2, .inl y2), (3, .inl y3)] [] C (fun r0 C0 => r0 = none ∧ C0 = C')) {C : ev_C} {y2 y3 : Int} (h : f_7_readScene_8_J101 K74 C y2 y3 = some C') : ev_W l D cys ty ck_tags ev_TR kc_117 101 [(0, .inr (.inl 7)), (1, .inr (.inl 8)), (2, .inl y2), (3, .inl y3)] [] C (fun r0 C0 => r0 = none ∧ C0 = C') := by
  unfold f_7_readScene_8_J101 at h
  refine ev_al eX7_readScene_101 rfl ?_
  refine ev_al eX7_readScene_102 rfl ?_
  refine ev_getR lk_f (ci := 7) (j := 0) (cd := 3) eX7_readScene_103 (isF (by decide +kernel)) rfl rfl ?_
  refine ev_getR lk_f (ci := 6) (j := 6) (cd := 3) eX7_readScene_106 (isF (by decide +kernel)) rfl rfl ?_
  refine ev_al eX7_readScene_109 rfl ?_
  refine ev_getR lk_f (ci := 7) (j := 0) (cd := 3) eX7_readScene_110 (isF (by decide +kernel)) rfl rfl ?_
  refine ev_getI lk_f (ci := 6) (j := 0) (cd := 0) eX7_readScene_113 (isF (by decide +kernel)) rfl rfl rfl ?_
  obtain ⟨r9, C9, hq9, h⟩ := ev_bd_some h
  refine ev_callV (kc := kc_44) (A := [.inr (.inl 53), .inl ((C 13 0))]) (T := []) (lk_m.1 _ _ 0 [44, 45, 46, 47, 48, 49] (isM (by decide +kernel)) 44 (by decide)) eX7_readScene_116 (m_8_nameHere_53 hU hq9) rfl rfl rfl (by decide) (by decide) (Nat.le_of_ble_eq_true rfl) ?_
  rintro _ C9 ⟨rfl, rfl⟩
  show ev_W l D cys ty ck_tags ev_TR kc_117 119 [(0, .inr (.inl 7)), (1, .inr (.inl 8)), (2, .inl y2), (3, .inl y3)] [.inl r9] C9 _
  refine ev_isw (L' := [(4, .inl r9), (0, .inr (.inl 7)), (1, .inr (.inl 8)), (2, .inl y2), (3, .inl y3)]) eX7_readScene_119 (by decide) rfl ?_
  refine ev_ilw eX7_readScene_121 rfl ?_
  refine ev_ic eX7_readScene_123 (by decide) ?_
  refine ev_c_eq (tgt := 151) eX7_readScene_124 (by decide) (fun hc10 => ?_) (fun hc10 => ?_)
  · rw [if_pos (show r9 = -1 from hc10)] at h
    refine ev_loc (L' := [(0, .inr (.inl 7)), (1, .inr (.inl 8)), (2, .inl y2), (3, .inl y3), (4, .inl r9)]) rfl ?_
    exact m_7_readScene_8_J151 hU hK74 h
  · rw [if_neg (show ¬ (r9 = -1) from hc10)] at h
    refine ev_al eX7_readScene_127 rfl ?_
    refine ev_getR lk_f (ci := 7) (j := 0) (cd := 3) eX7_readScene_128 (isF (by decide +kernel)) rfl rfl ?_
    refine ev_getR lk_f (ci := 6) (j := 18) (cd := 3) eX7_readScene_131 (isF (by decide +kernel)) rfl rfl ?_
    refine ev_il eX7_readScene_134 rfl ?_
    refine ev_al eX7_readScene_135 rfl ?_
    refine ev_al eX7_readScene_136 rfl ?_
    refine ev_getR lk_f (ci := 7) (j := 0) (cd := 3) eX7_readScene_137 (isF (by decide +kernel)) rfl rfl ?_
    refine ev_getR lk_f (ci := 6) (j := 18) (cd := 3) eX7_readScene_140 (isF (by decide +kernel)) rfl rfl ?_
    refine ev_il eX7_readScene_143 rfl ?_
    obtain ⟨hb11, h⟩ := ev_gd h
    refine ev_iald eX7_readScene_144 rfl rfl hb11.1 hb11.2 ?_
    refine ev_ilw eX7_readScene_145 rfl ?_
    obtain ⟨r12, C12, hq12, h⟩ := ev_bd_some h
    refine ev_callS (kc := kc_103) (A := [.inr (.inl 8), .inl ((C9 65 (Int.toNat y2))), .inl r9]) (T := [.inl y2, .inr (.inl 65)]) (lk_m.1 _ _ 1 [103] (isM (by decide +kernel)) 103 (by decide)) eX7_readScene_147 (m_7_takeOnce_8 hU hq12) rfl rfl (by decide) (by decide) (Nat.le_of_ble_eq_true rfl) ?_
    rintro _ C12 ⟨rfl, rfl⟩
    show ev_W l D cys ty ck_tags ev_TR kc_117 150 [(4, .inl r9), (0, .inr (.inl 7)), (1, .inr (.inl 8)), (2, .inl y2), (3, .inl y3)] [.inl r12, .inl y2, .inr (.inl 65)] C12 _
    obtain ⟨hb13, h⟩ := ev_gd h
    refine ev_iast hU eX7_readScene_150 rfl rfl hb13.1 hb13.2 ?_
    refine ev_loc (L' := [(0, .inr (.inl 7)), (1, .inr (.inl 8)), (2, .inl y2), (3, .inl y3), (4, .inl r9)]) rfl ?_
    exact m_7_readScene_8_J151 hU hK74 h
set_option maxRecDepth 100000 in
theorem m_7_readScene_8_L74 (hU : ev_uq ty ev_TR) : ∀ (n : Nat) {C : ev_C} {y2 y3 : Int} {C' : ev_C}, f_7_readScene_8_L74 n C y2 y3 = some C' → ev_W l D cys ty ck_tags ev_TR kc_117 74 [(0, .inr (.inl 7)), (1, .inr (.inl 8)), (2, .inl y2), (3, .inl y3)] [] C (fun r0 C0 => r0 = none ∧ C0 = C')
  | 0, _, _, _, _, h => by cases h
  | n + 1, C, y2, y3, _, h => by
    unfold f_7_readScene_8_L74 at h
    refine ev_il eX7_readScene_74 rfl ?_
    refine ev_bp eX7_readScene_75 (by decide) (by decide) ?_
    refine ev_c_gt (tgt := 157) eX7_readScene_77 (by decide) (fun hc5 => ?_) (fun hc5 => ?_)
    · rw [if_pos (show 6 < y3 from hc5)] at h
      cases h
      exact ev_vret eX7_readScene_157 rfl ⟨rfl, rfl⟩
    · rw [if_neg (show ¬ (6 < y3) from hc5)] at h
      refine ev_al eX7_readScene_80 rfl ?_
      obtain ⟨r6, C6, hq6, h⟩ := ev_bd_some h
      refine ev_callV (kc := kc_36) (A := []) (T := []) (lk_m.1 _ _ 0 [36] (isM (by decide +kernel)) 36 (by decide)) eX7_readScene_81 (m_8_isFine hU hq6) rfl rfl rfl (by decide) (by decide) (Nat.le_of_ble_eq_true rfl) ?_
      rintro _ C6 ⟨rfl, rfl⟩
      show ev_W l D cys ty ck_tags ev_TR kc_117 84 [(0, .inr (.inl 7)), (1, .inr (.inl 8)), (2, .inl y2), (3, .inl y3)] [.inl r6] C6 _
      refine ev_z_eq (tgt := 157) eX7_readScene_84 (by decide) (fun hc7 => ?_) (fun hc7 => ?_)
      · rw [if_pos (show r6 = 0 from hc7)] at h
        cases h
        exact ev_vret eX7_readScene_157 rfl ⟨rfl, rfl⟩
      · rw [if_neg (show ¬ (r6 = 0) from hc7)] at h
        refine ev_il eX7_readScene_87 rfl ?_
        refine ev_z_le (tgt := 101) eX7_readScene_88 (by decide) (fun hc8 => ?_) (fun hc8 => ?_)
        · rw [if_pos (show y3 ≤ 0 from hc8)] at h
          refine ev_loc (L' := [(0, .inr (.inl 7)), (1, .inr (.inl 8)), (2, .inl y2), (3, .inl y3)]) rfl ?_
          exact m_7_readScene_8_J101 hU (fun h => m_7_readScene_8_L74 hU n h) h
        · rw [if_neg (show ¬ (y3 ≤ 0) from hc8)] at h
          refine ev_al eX7_readScene_91 rfl ?_
          refine ev_bp eX7_readScene_92 (by decide) (by decide) ?_
          obtain ⟨r14, C14, hq14, h⟩ := ev_bd_some h
          refine ev_callV (kc := kc_67) (A := [.inl 59]) (T := []) (lk_m.1 _ _ 0 [67] (isM (by decide +kernel)) 67 (by decide)) eX7_readScene_94 (m_8_isAtSign hU hq14) rfl rfl rfl (by decide) (by decide) (Nat.le_of_ble_eq_true rfl) ?_
          rintro _ C14 ⟨rfl, rfl⟩
          show ev_W l D cys ty ck_tags ev_TR kc_117 97 [(0, .inr (.inl 7)), (1, .inr (.inl 8)), (2, .inl y2), (3, .inl y3)] [.inl r14] C14 _
          refine ev_z_eq (tgt := 101) eX7_readScene_97 (by decide) (fun hc15 => ?_) (fun hc15 => ?_)
          · rw [if_pos (show r14 = 0 from hc15)] at h
            refine ev_loc (L' := [(0, .inr (.inl 7)), (1, .inr (.inl 8)), (2, .inl y2), (3, .inl y3)]) rfl ?_
            exact m_7_readScene_8_J101 hU (fun h => m_7_readScene_8_L74 hU n h) h
          · rw [if_neg (show ¬ (r14 = 0) from hc15)] at h
            cases h
            exact ev_vret eX7_readScene_100 rfl ⟨rfl, rfl⟩
set_option maxRecDepth 100000 in
theorem m_7_readScene_8 (hU : ev_uq ty ev_TR) {C : ev_C} {C' : ev_C} (h : f_7_readScene_8 C = some C') : ev_Met l D cys ty ck_tags ev_TR kc_117 [.inr (.inl 7), .inr (.inl 8)] C (fun r0 C0 => r0 = none ∧ C0 = C') := by
  unfold f_7_readScene_8 at h
  refine ev_enter (by decide +kernel) (by decide +kernel) (Nat.le_of_ble_eq_true rfl) ?_
  show ev_W l D cys ty ck_tags ev_TR kc_117 0 [(0, .inr (.inl 7)), (1, .inr (.inl 8))] [] C _
  refine ev_al eX7_readScene_0 rfl ?_
  refine ev_getR lk_f (ci := 7) (j := 0) (cd := 3) eX7_readScene_1 (isF (by decide +kernel)) rfl rfl ?_
  refine ev_getI lk_f (ci := 6) (j := 3) (cd := 0) eX7_readScene_4 (isF (by decide +kernel)) rfl rfl rfl ?_
  refine ev_z_ne (tgt := 16) eX7_readScene_7 (by decide) (fun hc1 => ?_) (fun hc1 => ?_)
  · rw [if_pos (show (C 13 3) ≠ 0 from hc1)] at h
    refine ev_al eX7_readScene_16 rfl ?_
    refine ev_al eX7_readScene_17 rfl ?_
    refine ev_getR lk_f (ci := 7) (j := 0) (cd := 3) eX7_readScene_18 (isF (by decide +kernel)) rfl rfl ?_
    refine ev_getI lk_f (ci := 6) (j := 4) (cd := 0) eX7_readScene_21 (isF (by decide +kernel)) rfl rfl rfl ?_
    refine ev_bp eX7_readScene_24 (by decide) (by decide) ?_
    obtain ⟨r2, C2, hq2, h⟩ := ev_bd_some h
    refine ev_callS (kc := kc_99) (A := [.inr (.inl 8), .inl ((C 13 4)), .inl 12]) (T := []) (lk_m.1 _ _ 1 [99, 100, 101] (isM (by decide +kernel)) 99 (by decide)) eX7_readScene_26 (m_7_takeOneOf_8 hU hq2) rfl rfl (by decide) (by decide) (Nat.le_of_ble_eq_true rfl) ?_
    rintro _ C2 ⟨rfl, rfl⟩
    show ev_W l D cys ty ck_tags ev_TR kc_117 29 [(0, .inr (.inl 7)), (1, .inr (.inl 8))] [.inl r2] C2 _
    refine ev_z_ne (tgt := 33) eX7_readScene_29 (by decide) (fun hc3 => ?_) (fun hc3 => ?_)
    · rw [if_pos (show r2 ≠ 0 from hc3)] at h
      refine ev_al eX7_readScene_33 rfl ?_
      refine ev_getR lk_f (ci := 7) (j := 0) (cd := 3) eX7_readScene_34 (isF (by decide +kernel)) rfl rfl ?_
      refine ev_getI lk_f (ci := 6) (j := 4) (cd := 0) eX7_readScene_37 (isF (by decide +kernel)) rfl rfl rfl ?_
      refine ev_is (L' := [(2, .inl ((C2 13 4))), (0, .inr (.inl 7)), (1, .inr (.inl 8))]) eX7_readScene_40 (by decide) rfl ?_
      refine ev_al eX7_readScene_41 rfl ?_
      refine ev_getR lk_f (ci := 7) (j := 0) (cd := 3) eX7_readScene_42 (isF (by decide +kernel)) rfl rfl ?_
      refine ev_getR lk_f (ci := 6) (j := 17) (cd := 3) eX7_readScene_45 (isF (by decide +kernel)) rfl rfl ?_
      refine ev_il eX7_readScene_48 rfl ?_
      refine ev_al eX7_readScene_49 rfl ?_
      refine ev_getR lk_f (ci := 7) (j := 0) (cd := 3) eX7_readScene_50 (isF (by decide +kernel)) rfl rfl ?_
      refine ev_getI lk_f (ci := 6) (j := 3) (cd := 0) eX7_readScene_53 (isF (by decide +kernel)) rfl rfl rfl ?_
      refine ev_ic eX7_readScene_56 (by decide) ?_
      refine ev_sub eX7_readScene_57 ?_
      obtain ⟨hb4, h⟩ := ev_gd h
      refine ev_iast hU eX7_readScene_58 rfl rfl hb4.1 hb4.2 ?_
      refine ev_al eX7_readScene_59 rfl ?_
      refine ev_getR lk_f (ci := 7) (j := 0) (cd := 3) eX7_readScene_60 (isF (by decide +kernel)) rfl rfl ?_
      refine ev_dup eX7_readScene_63 rfl ?_
      refine ev_getI lk_f (ci := 6) (j := 4) (cd := 0) eX7_readScene_64 (isF (by decide +kernel)) rfl rfl rfl ?_
      refine ev_ic eX7_readScene_67 (by decide) ?_
      refine ev_add eX7_readScene_68 ?_
      refine ev_putI lk_f hU (ci := 6) (j := 4) (cd := 0) eX7_readScene_69 (isF (by decide +kernel)) rfl rfl (Or.inl rfl) rfl ?_
      refine ev_ic eX7_readScene_72 (by decide) ?_
      refine ev_is (L' := [(3, .inl 0), (2, .inl ((C2 13 4))), (0, .inr (.inl 7)), (1, .inr (.inl 8))]) eX7_readScene_73 (by decide) rfl ?_
      refine ev_loc (L' := [(0, .inr (.inl 7)), (1, .inr (.inl 8)), (2, .inl ((C2 13 4))), (3, .inl 0)]) rfl ?_
      exact m_7_readScene_8_L74 hU 1000 h
    · rw [if_neg (show ¬ (r2 ≠ 0) from hc3)] at h
      cases h
      exact ev_vret eX7_readScene_32 rfl ⟨rfl, rfl⟩
  · rw [if_neg (show ¬ ((C 13 3) ≠ 0) from hc1)] at h
    refine ev_al eX7_readScene_10 rfl ?_
    refine ev_ic eX7_readScene_11 (by decide) ?_
    obtain ⟨C16, hq16, h⟩ := ev_bv_some h
    refine ev_callV (kc := kc_35) (A := [.inl 1]) (T := []) (lk_m.1 _ _ 0 [35] (isM (by decide +kernel)) 35 (by decide)) eX7_readScene_12 (m_8_fail hU hq16) rfl rfl rfl (by decide) (by decide) (Nat.le_of_ble_eq_true rfl) ?_
    rintro _ C16 ⟨rfl, rfl⟩
    show ev_W l D cys ty ck_tags ev_TR kc_117 15 [(0, .inr (.inl 7)), (1, .inr (.inl 8))] [] C16 _
    cases h
    exact ev_vret eX7_readScene_15 rfl ⟨rfl, rfl⟩
theorem eX7_readShows_0 : decode cX7_readShows 0 = .ok (.aload_n 0, 1) := by decide +kernel
theorem eX7_readShows_1 : decode cX7_readShows 1 = .ok (.getfield 12, 3) := by decide +kernel
theorem eX7_readShows_4 : decode cX7_readShows 4 = .ok (.getfield 158, 3) := by decide +kernel
theorem eX7_readShows_7 : decode cX7_readShows 7 = .ok (.iconst 1, 1) := by decide +kernel
theorem eX7_readShows_8 : decode cX7_readShows 8 = .ok (.isub, 1) := by decide +kernel
theorem eX7_readShows_9 : decode cX7_readShows 9 = .ok (.istore_n 2, 1) := by decide +kernel
theorem eX7_readShows_10 : decode cX7_readShows 10 = .ok (.iload_n 2, 1) := by decide +kernel
theorem eX7_readShows_11 : decode cX7_readShows 11 = .ok (.ifCond .lt 24, 3) := by decide +kernel
theorem eX7_readShows_14 : decode cX7_readShows 14 = .ok (.aload_n 0, 1) := by decide +kernel
theorem eX7_readShows_15 : decode cX7_readShows 15 = .ok (.getfield 12, 3) := by decide +kernel
theorem eX7_readShows_18 : decode cX7_readShows 18 = .ok (.getfield 161, 3) := by decide +kernel
theorem eX7_readShows_21 : decode cX7_readShows 21 = .ok (.iload_n 2, 1) := by decide +kernel
theorem eX7_readShows_22 : decode cX7_readShows 22 = .ok (.iaload, 1) := by decide +kernel
theorem eX7_readShows_23 : decode cX7_readShows 23 = .ok (.aload_n 0, 1) := by decide +kernel
theorem eX7_readShows_24 : decode cX7_readShows 24 = .ok (.getfield 12, 3) := by decide +kernel
theorem eX7_readShows_27 : decode cX7_readShows 27 = .ok (.getfield 155, 3) := by decide +kernel
theorem eX7_readShows_30 : decode cX7_readShows 30 = .ok (.iconst 1, 1) := by decide +kernel
theorem eX7_readShows_31 : decode cX7_readShows 31 = .ok (.isub, 1) := by decide +kernel
theorem eX7_readShows_32 : decode cX7_readShows 32 = .ok (.if_icmp .eq 9, 3) := by decide +kernel
theorem eX7_readShows_35 : decode cX7_readShows 35 = .ok (.aload_n 1, 1) := by decide +kernel
theorem eX7_readShows_36 : decode cX7_readShows 36 = .ok (.iconst 1, 1) := by decide +kernel
theorem eX7_readShows_37 : decode cX7_readShows 37 = .ok (.invokevirtual 79, 3) := by decide +kernel
theorem eX7_readShows_40 : decode cX7_readShows 40 = .ok (.return_, 1) := by decide +kernel
theorem eX7_readShows_41 : decode cX7_readShows 41 = .ok (.aload_n 1, 1) := by decide +kernel
theorem eX7_readShows_42 : decode cX7_readShows 42 = .ok (.invokevirtual 82, 3) := by decide +kernel
theorem eX7_readShows_45 : decode cX7_readShows 45 = .ok (.aload_n 1, 1) := by decide +kernel
theorem eX7_readShows_46 : decode cX7_readShows 46 = .ok (.aload_n 0, 1) := by decide +kernel
theorem eX7_readShows_47 : decode cX7_readShows 47 = .ok (.getfield 12, 3) := by decide +kernel
theorem eX7_readShows_50 : decode cX7_readShows 50 = .ok (.getfield 126, 3) := by decide +kernel
theorem eX7_readShows_53 : decode cX7_readShows 53 = .ok (.aload_n 0, 1) := by decide +kernel
theorem eX7_readShows_54 : decode cX7_readShows 54 = .ok (.getfield 12, 3) := by decide +kernel
theorem eX7_readShows_57 : decode cX7_readShows 57 = .ok (.getfield 123, 3) := by decide +kernel
theorem eX7_readShows_60 : decode cX7_readShows 60 = .ok (.invokevirtual 133, 3) := by decide +kernel
theorem eX7_readShows_63 : decode cX7_readShows 63 = .ok (.istore_n 3, 1) := by decide +kernel
theorem eX7_readShows_64 : decode cX7_readShows 64 = .ok (.iload_n 3, 1) := by decide +kernel
theorem eX7_readShows_65 : decode cX7_readShows 65 = .ok (.iconst (-1), 1) := by decide +kernel
theorem eX7_readShows_66 : decode cX7_readShows 66 = .ok (.if_icmp .eq 26, 3) := by decide +kernel
theorem eX7_readShows_69 : decode cX7_readShows 69 = .ok (.aload_n 0, 1) := by decide +kernel
theorem eX7_readShows_70 : decode cX7_readShows 70 = .ok (.getfield 12, 3) := by decide +kernel
theorem eX7_readShows_73 : decode cX7_readShows 73 = .ok (.getfield 171, 3) := by decide +kernel
theorem eX7_readShows_76 : decode cX7_readShows 76 = .ok (.iload_n 2, 1) := by decide +kernel
theorem eX7_readShows_77 : decode cX7_readShows 77 = .ok (.aload_n 1, 1) := by decide +kernel
theorem eX7_readShows_78 : decode cX7_readShows 78 = .ok (.aload_n 0, 1) := by decide +kernel
theorem eX7_readShows_79 : decode cX7_readShows 79 = .ok (.getfield 12, 3) := by decide +kernel
theorem eX7_readShows_82 : decode cX7_readShows 82 = .ok (.getfield 171, 3) := by decide +kernel
theorem eX7_readShows_85 : decode cX7_readShows 85 = .ok (.iload_n 2, 1) := by decide +kernel
theorem eX7_readShows_86 : decode cX7_readShows 86 = .ok (.iaload, 1) := by decide +kernel
theorem eX7_readShows_87 : decode cX7_readShows 87 = .ok (.iload_n 3, 1) := by decide +kernel
theorem eX7_readShows_88 : decode cX7_readShows 88 = .ok (.invokestatic 139, 3) := by decide +kernel
theorem eX7_readShows_91 : decode cX7_readShows 91 = .ok (.iastore, 1) := by decide +kernel
theorem eX7_readShows_92 : decode cX7_readShows 92 = .ok (.return_, 1) := by decide +kernel
set_option maxRecDepth 100000 in
theorem m_7_readShows_8 (hU : ev_uq ty ev_TR) {C : ev_C} {C' : ev_C} (h : f_7_readShows_8 C = some C') : ev_Met l D cys ty ck_tags ev_TR kc_118 [.inr (.inl 7), .inr (.inl 8)] C (fun r0 C0 => r0 = none ∧ C0 = C') := by
  unfold f_7_readShows_8 at h
  refine ev_enter (by decide +kernel) (by decide +kernel) (Nat.le_of_ble_eq_true rfl) ?_
  show ev_W l D cys ty ck_tags ev_TR kc_118 0 [(0, .inr (.inl 7)), (1, .inr (.inl 8))] [] C _
  refine ev_al eX7_readShows_0 rfl ?_
  refine ev_getR lk_f (ci := 7) (j := 0) (cd := 3) eX7_readShows_1 (isF (by decide +kernel)) rfl rfl ?_
  refine ev_getI lk_f (ci := 6) (j := 4) (cd := 0) eX7_readShows_4 (isF (by decide +kernel)) rfl rfl rfl ?_
  refine ev_ic eX7_readShows_7 (by decide) ?_
  refine ev_sub eX7_readShows_8 ?_
  refine ev_is (L' := [(2, .inl (ev_w (((C 13 4)) - (1 : Int)))), (0, .inr (.inl 7)), (1, .inr (.inl 8))]) eX7_readShows_9 (by decide) rfl ?_
  refine ev_il eX7_readShows_10 rfl ?_
  refine ev_z_lt (tgt := 35) eX7_readShows_11 (by decide) (fun hc1 => ?_) (fun hc1 => ?_)
  · rw [if_pos (show ev_w (((C 13 4)) - (1 : Int)) < 0 from hc1)] at h
    refine ev_al eX7_readShows_35 rfl ?_
    refine ev_ic eX7_readShows_36 (by decide) ?_
    obtain ⟨C2, hq2, h⟩ := ev_bv_some h
    refine ev_callV (kc := kc_35) (A := [.inl 1]) (T := []) (lk_m.1 _ _ 0 [35] (isM (by decide +kernel)) 35 (by decide)) eX7_readShows_37 (m_8_fail hU hq2) rfl rfl rfl (by decide) (by decide) (Nat.le_of_ble_eq_true rfl) ?_
    rintro _ C2 ⟨rfl, rfl⟩
    show ev_W l D cys ty ck_tags ev_TR kc_118 40 [(2, .inl (ev_w (((C 13 4)) - (1 : Int)))), (0, .inr (.inl 7)), (1, .inr (.inl 8))] [] C2 _
    cases h
    exact ev_vret eX7_readShows_40 rfl ⟨rfl, rfl⟩
  · rw [if_neg (show ¬ (ev_w (((C 13 4)) - (1 : Int)) < 0) from hc1)] at h
    refine ev_al eX7_readShows_14 rfl ?_
    refine ev_getR lk_f (ci := 7) (j := 0) (cd := 3) eX7_readShows_15 (isF (by decide +kernel)) rfl rfl ?_
    refine ev_getR lk_f (ci := 6) (j := 17) (cd := 3) eX7_readShows_18 (isF (by decide +kernel)) rfl rfl ?_
    refine ev_il eX7_readShows_21 rfl ?_
    obtain ⟨hb3, h⟩ := ev_gd h
    refine ev_iald eX7_readShows_22 rfl rfl hb3.1 hb3.2 ?_
    refine ev_al eX7_readShows_23 rfl ?_
    refine ev_getR lk_f (ci := 7) (j := 0) (cd := 3) eX7_readShows_24 (isF (by decide +kernel)) rfl rfl ?_
    refine ev_getI lk_f (ci := 6) (j := 3) (cd := 0) eX7_readShows_27 (isF (by decide +kernel)) rfl rfl rfl ?_
    refine ev_ic eX7_readShows_30 (by decide) ?_
    refine ev_sub eX7_readShows_31 ?_
    refine ev_c_eq (tgt := 41) eX7_readShows_32 (by decide) (fun hc4 => ?_) (fun hc4 => ?_)
    · rw [if_pos (show (C 64 (Int.toNat (ev_w (((C 13 4)) - (1 : Int))))) = ev_w (((C 13 3)) - (1 : Int)) from hc4)] at h
      refine ev_al eX7_readShows_41 rfl ?_
      obtain ⟨C5, hq5, h⟩ := ev_bv_some h
      refine ev_callV (kc := kc_57) (A := []) (T := []) (lk_m.1 _ _ 0 [57] (isM (by decide +kernel)) 57 (by decide)) eX7_readShows_42 (m_8_step hU hq5) rfl rfl rfl (by decide) (by decide) (Nat.le_of_ble_eq_true rfl) ?_
      rintro _ C5 ⟨rfl, rfl⟩
      show ev_W l D cys ty ck_tags ev_TR kc_118 45 [(2, .inl (ev_w (((C 13 4)) - (1 : Int)))), (0, .inr (.inl 7)), (1, .inr (.inl 8))] [] C5 _
      refine ev_al eX7_readShows_45 rfl ?_
      refine ev_al eX7_readShows_46 rfl ?_
      refine ev_getR lk_f (ci := 7) (j := 0) (cd := 3) eX7_readShows_47 (isF (by decide +kernel)) rfl rfl ?_
      refine ev_getR lk_f (ci := 6) (j := 7) (cd := 3) eX7_readShows_50 (isF (by decide +kernel)) rfl rfl ?_
      refine ev_al eX7_readShows_53 rfl ?_
      refine ev_getR lk_f (ci := 7) (j := 0) (cd := 3) eX7_readShows_54 (isF (by decide +kernel)) rfl rfl ?_
      refine ev_getI lk_f (ci := 6) (j := 1) (cd := 0) eX7_readShows_57 (isF (by decide +kernel)) rfl rfl rfl ?_
      obtain ⟨r6, C6, hq6, h⟩ := ev_bd_some h
      refine ev_callV (kc := kc_45) (A := [.inr (.inl 54), .inl ((C5 13 1))]) (T := []) (lk_m.1 _ _ 0 [44, 45, 46, 47, 48, 49] (isM (by decide +kernel)) 45 (by decide)) eX7_readShows_60 (m_8_nameHere_54 hU hq6) rfl rfl rfl (by decide) (by decide) (Nat.le_of_ble_eq_true rfl) ?_
      rintro _ C6 ⟨rfl, rfl⟩
      show ev_W l D cys ty ck_tags ev_TR kc_118 63 [(2, .inl (ev_w (((C 13 4)) - (1 : Int)))), (0, .inr (.inl 7)), (1, .inr (.inl 8))] [.inl r6] C6 _
      refine ev_is (L' := [(3, .inl r6), (2, .inl (ev_w (((C 13 4)) - (1 : Int)))), (0, .inr (.inl 7)), (1, .inr (.inl 8))]) eX7_readShows_63 (by decide) rfl ?_
      refine ev_il eX7_readShows_64 rfl ?_
      refine ev_ic eX7_readShows_65 (by decide) ?_
      refine ev_c_eq (tgt := 92) eX7_readShows_66 (by decide) (fun hc7 => ?_) (fun hc7 => ?_)
      · rw [if_pos (show r6 = -1 from hc7)] at h
        cases h
        exact ev_vret eX7_readShows_92 rfl ⟨rfl, rfl⟩
      · rw [if_neg (show ¬ (r6 = -1) from hc7)] at h
        refine ev_al eX7_readShows_69 rfl ?_
        refine ev_getR lk_f (ci := 7) (j := 0) (cd := 3) eX7_readShows_70 (isF (by decide +kernel)) rfl rfl ?_
        refine ev_getR lk_f (ci := 6) (j := 19) (cd := 3) eX7_readShows_73 (isF (by decide +kernel)) rfl rfl ?_
        refine ev_il eX7_readShows_76 rfl ?_
        refine ev_al eX7_readShows_77 rfl ?_
        refine ev_al eX7_readShows_78 rfl ?_
        refine ev_getR lk_f (ci := 7) (j := 0) (cd := 3) eX7_readShows_79 (isF (by decide +kernel)) rfl rfl ?_
        refine ev_getR lk_f (ci := 6) (j := 19) (cd := 3) eX7_readShows_82 (isF (by decide +kernel)) rfl rfl ?_
        refine ev_il eX7_readShows_85 rfl ?_
        obtain ⟨hb8, h⟩ := ev_gd h
        refine ev_iald eX7_readShows_86 rfl rfl hb8.1 hb8.2 ?_
        refine ev_il eX7_readShows_87 rfl ?_
        obtain ⟨r9, C9, hq9, h⟩ := ev_bd_some h
        refine ev_callS (kc := kc_103) (A := [.inr (.inl 8), .inl ((C6 66 (Int.toNat (ev_w (((C 13 4)) - (1 : Int)))))), .inl r6]) (T := [.inl (ev_w (((C 13 4)) - (1 : Int))), .inr (.inl 66)]) (lk_m.1 _ _ 1 [103] (isM (by decide +kernel)) 103 (by decide)) eX7_readShows_88 (m_7_takeOnce_8 hU hq9) rfl rfl (by decide) (by decide) (Nat.le_of_ble_eq_true rfl) ?_
        rintro _ C9 ⟨rfl, rfl⟩
        show ev_W l D cys ty ck_tags ev_TR kc_118 91 [(3, .inl r6), (2, .inl (ev_w (((C 13 4)) - (1 : Int)))), (0, .inr (.inl 7)), (1, .inr (.inl 8))] [.inl r9, .inl (ev_w (((C 13 4)) - (1 : Int))), .inr (.inl 66)] C9 _
        obtain ⟨hb10, h⟩ := ev_gd h
        refine ev_iast hU eX7_readShows_91 rfl rfl hb10.1 hb10.2 ?_
        cases h
        exact ev_vret eX7_readShows_92 rfl ⟨rfl, rfl⟩
    · rw [if_neg (show ¬ ((C 64 (Int.toNat (ev_w (((C 13 4)) - (1 : Int))))) = ev_w (((C 13 3)) - (1 : Int))) from hc4)] at h
      refine ev_al eX7_readShows_35 rfl ?_
      refine ev_ic eX7_readShows_36 (by decide) ?_
      obtain ⟨C11, hq11, h⟩ := ev_bv_some h
      refine ev_callV (kc := kc_35) (A := [.inl 1]) (T := []) (lk_m.1 _ _ 0 [35] (isM (by decide +kernel)) 35 (by decide)) eX7_readShows_37 (m_8_fail hU hq11) rfl rfl rfl (by decide) (by decide) (Nat.le_of_ble_eq_true rfl) ?_
      rintro _ C11 ⟨rfl, rfl⟩
      show ev_W l D cys ty ck_tags ev_TR kc_118 40 [(2, .inl (ev_w (((C 13 4)) - (1 : Int)))), (0, .inr (.inl 7)), (1, .inr (.inl 8))] [] C11 _
      cases h
      exact ev_vret eX7_readShows_40 rfl ⟨rfl, rfl⟩
set_option maxRecDepth 100000 in
theorem m_8_takeName_53 (hU : ev_uq ty ev_TR) {C : ev_C} {x2 : Int} {r : Int} {C' : ev_C} (h : f_8_takeName_53 C x2 = some (r, C')) : ev_Met l D cys ty ck_tags ev_TR kc_58 [.inr (.inl 8), .inr (.inl 53), .inl x2] C (fun r0 C0 => r0 = some (.inl r) ∧ C0 = C') := by
  unfold f_8_takeName_53 at h
  refine ev_enter (by decide +kernel) (by decide +kernel) (Nat.le_of_ble_eq_true rfl) ?_
  show ev_W l D cys ty ck_tags ev_TR kc_58 0 [(0, .inr (.inl 8)), (1, .inr (.inl 53)), (2, .inl x2)] [] C _
  refine ev_al eX8_takeName_0 rfl ?_
  refine ev_al eX8_takeName_1 rfl ?_
  refine ev_il eX8_takeName_2 rfl ?_
  obtain ⟨r1, C1, hq1, h⟩ := ev_bd_some h
  refine ev_callV (kc := kc_44) (A := [.inr (.inl 53), .inl x2]) (T := []) (lk_m.1 _ _ 0 [44, 45, 46, 47, 48, 49] (isM (by decide +kernel)) 44 (by decide)) eX8_takeName_3 (m_8_nameHere_53 hU hq1) rfl rfl rfl (by decide) (by decide) (Nat.le_of_ble_eq_true rfl) ?_
  rintro _ C1 ⟨rfl, rfl⟩
  show ev_W l D cys ty ck_tags ev_TR kc_58 6 [(0, .inr (.inl 8)), (1, .inr (.inl 53)), (2, .inl x2)] [.inl r1] C1 _
  refine ev_is (L' := [(3, .inl r1), (0, .inr (.inl 8)), (1, .inr (.inl 53)), (2, .inl x2)]) eX8_takeName_6 (by decide) rfl ?_
  refine ev_il eX8_takeName_7 rfl ?_
  refine ev_ic eX8_takeName_8 (by decide) ?_
  refine ev_c_eq (tgt := 16) eX8_takeName_9 (by decide) (fun hc2 => ?_) (fun hc2 => ?_)
  · rw [if_pos (show r1 = -1 from hc2)] at h
    refine ev_il eX8_takeName_16 rfl ?_
    cases h
    exact ev_iret eX8_takeName_17 rfl ⟨rfl, rfl⟩
  · rw [if_neg (show ¬ (r1 = -1) from hc2)] at h
    refine ev_al eX8_takeName_12 rfl ?_
    obtain ⟨C3, hq3, h⟩ := ev_bv_some h
    refine ev_callV (kc := kc_57) (A := []) (T := []) (lk_m.1 _ _ 0 [57] (isM (by decide +kernel)) 57 (by decide)) eX8_takeName_13 (m_8_step hU hq3) rfl rfl rfl (by decide) (by decide) (Nat.le_of_ble_eq_true rfl) ?_
    rintro _ C3 ⟨rfl, rfl⟩
    show ev_W l D cys ty ck_tags ev_TR kc_58 16 [(3, .inl r1), (0, .inr (.inl 8)), (1, .inr (.inl 53)), (2, .inl x2)] [] C3 _
    refine ev_il eX8_takeName_16 rfl ?_
    cases h
    exact ev_iret eX8_takeName_17 rfl ⟨rfl, rfl⟩
theorem eX7_readNeeds_0 : decode cX7_readNeeds 0 = .ok (.aload_n 1, 1) := by decide +kernel
theorem eX7_readNeeds_1 : decode cX7_readNeeds 1 = .ok (.invokevirtual 82, 3) := by decide +kernel
theorem eX7_readNeeds_4 : decode cX7_readNeeds 4 = .ok (.aload_n 1, 1) := by decide +kernel
theorem eX7_readNeeds_5 : decode cX7_readNeeds 5 = .ok (.aload_n 0, 1) := by decide +kernel
theorem eX7_readNeeds_6 : decode cX7_readNeeds 6 = .ok (.getfield 12, 3) := by decide +kernel
theorem eX7_readNeeds_9 : decode cX7_readNeeds 9 = .ok (.getfield 107, 3) := by decide +kernel
theorem eX7_readNeeds_12 : decode cX7_readNeeds 12 = .ok (.aload_n 0, 1) := by decide +kernel
theorem eX7_readNeeds_13 : decode cX7_readNeeds 13 = .ok (.getfield 12, 3) := by decide +kernel
theorem eX7_readNeeds_16 : decode cX7_readNeeds 16 = .ok (.getfield 100, 3) := by decide +kernel
theorem eX7_readNeeds_19 : decode cX7_readNeeds 19 = .ok (.invokevirtual 129, 3) := by decide +kernel
theorem eX7_readNeeds_22 : decode cX7_readNeeds 22 = .ok (.istore_n 2, 1) := by decide +kernel
theorem eX7_readNeeds_23 : decode cX7_readNeeds 23 = .ok (.iload_n 2, 1) := by decide +kernel
theorem eX7_readNeeds_24 : decode cX7_readNeeds 24 = .ok (.iconst (-1), 1) := by decide +kernel
theorem eX7_readNeeds_25 : decode cX7_readNeeds 25 = .ok (.if_icmp .ne 4, 3) := by decide +kernel
theorem eX7_readNeeds_28 : decode cX7_readNeeds 28 = .ok (.return_, 1) := by decide +kernel
theorem eX7_readNeeds_29 : decode cX7_readNeeds 29 = .ok (.aload_n 1, 1) := by decide +kernel
theorem eX7_readNeeds_30 : decode cX7_readNeeds 30 = .ok (.aload_n 0, 1) := by decide +kernel
theorem eX7_readNeeds_31 : decode cX7_readNeeds 31 = .ok (.getfield 12, 3) := by decide +kernel
theorem eX7_readNeeds_34 : decode cX7_readNeeds 34 = .ok (.getfield 126, 3) := by decide +kernel
theorem eX7_readNeeds_37 : decode cX7_readNeeds 37 = .ok (.aload_n 0, 1) := by decide +kernel
theorem eX7_readNeeds_38 : decode cX7_readNeeds 38 = .ok (.getfield 12, 3) := by decide +kernel
theorem eX7_readNeeds_41 : decode cX7_readNeeds 41 = .ok (.getfield 123, 3) := by decide +kernel
theorem eX7_readNeeds_44 : decode cX7_readNeeds 44 = .ok (.invokevirtual 133, 3) := by decide +kernel
theorem eX7_readNeeds_47 : decode cX7_readNeeds 47 = .ok (.istore_n 3, 1) := by decide +kernel
theorem eX7_readNeeds_48 : decode cX7_readNeeds 48 = .ok (.iload_n 3, 1) := by decide +kernel
theorem eX7_readNeeds_49 : decode cX7_readNeeds 49 = .ok (.iconst (-1), 1) := by decide +kernel
theorem eX7_readNeeds_50 : decode cX7_readNeeds 50 = .ok (.if_icmp .eq 26, 3) := by decide +kernel
theorem eX7_readNeeds_53 : decode cX7_readNeeds 53 = .ok (.aload_n 0, 1) := by decide +kernel
theorem eX7_readNeeds_54 : decode cX7_readNeeds 54 = .ok (.getfield 12, 3) := by decide +kernel
theorem eX7_readNeeds_57 : decode cX7_readNeeds 57 = .ok (.getfield 174, 3) := by decide +kernel
theorem eX7_readNeeds_60 : decode cX7_readNeeds 60 = .ok (.iload_n 2, 1) := by decide +kernel
theorem eX7_readNeeds_61 : decode cX7_readNeeds 61 = .ok (.aload_n 1, 1) := by decide +kernel
theorem eX7_readNeeds_62 : decode cX7_readNeeds 62 = .ok (.aload_n 0, 1) := by decide +kernel
theorem eX7_readNeeds_63 : decode cX7_readNeeds 63 = .ok (.getfield 12, 3) := by decide +kernel
theorem eX7_readNeeds_66 : decode cX7_readNeeds 66 = .ok (.getfield 174, 3) := by decide +kernel
theorem eX7_readNeeds_69 : decode cX7_readNeeds 69 = .ok (.iload_n 2, 1) := by decide +kernel
theorem eX7_readNeeds_70 : decode cX7_readNeeds 70 = .ok (.iaload, 1) := by decide +kernel
theorem eX7_readNeeds_71 : decode cX7_readNeeds 71 = .ok (.iload_n 3, 1) := by decide +kernel
theorem eX7_readNeeds_72 : decode cX7_readNeeds 72 = .ok (.invokestatic 139, 3) := by decide +kernel
theorem eX7_readNeeds_75 : decode cX7_readNeeds 75 = .ok (.iastore, 1) := by decide +kernel
theorem eX7_readNeeds_76 : decode cX7_readNeeds 76 = .ok (.return_, 1) := by decide +kernel
set_option maxRecDepth 100000 in
theorem m_7_readNeeds_8 (hU : ev_uq ty ev_TR) {C : ev_C} {C' : ev_C} (h : f_7_readNeeds_8 C = some C') : ev_Met l D cys ty ck_tags ev_TR kc_113 [.inr (.inl 7), .inr (.inl 8)] C (fun r0 C0 => r0 = none ∧ C0 = C') := by
  unfold f_7_readNeeds_8 at h
  refine ev_enter (by decide +kernel) (by decide +kernel) (Nat.le_of_ble_eq_true rfl) ?_
  show ev_W l D cys ty ck_tags ev_TR kc_113 0 [(0, .inr (.inl 7)), (1, .inr (.inl 8))] [] C _
  refine ev_al eX7_readNeeds_0 rfl ?_
  obtain ⟨C1, hq1, h⟩ := ev_bv_some h
  refine ev_callV (kc := kc_57) (A := []) (T := []) (lk_m.1 _ _ 0 [57] (isM (by decide +kernel)) 57 (by decide)) eX7_readNeeds_1 (m_8_step hU hq1) rfl rfl rfl (by decide) (by decide) (Nat.le_of_ble_eq_true rfl) ?_
  rintro _ C1 ⟨rfl, rfl⟩
  show ev_W l D cys ty ck_tags ev_TR kc_113 4 [(0, .inr (.inl 7)), (1, .inr (.inl 8))] [] C1 _
  refine ev_al eX7_readNeeds_4 rfl ?_
  refine ev_al eX7_readNeeds_5 rfl ?_
  refine ev_getR lk_f (ci := 7) (j := 0) (cd := 3) eX7_readNeeds_6 (isF (by decide +kernel)) rfl rfl ?_
  refine ev_getR lk_f (ci := 6) (j := 6) (cd := 3) eX7_readNeeds_9 (isF (by decide +kernel)) rfl rfl ?_
  refine ev_al eX7_readNeeds_12 rfl ?_
  refine ev_getR lk_f (ci := 7) (j := 0) (cd := 3) eX7_readNeeds_13 (isF (by decide +kernel)) rfl rfl ?_
  refine ev_getI lk_f (ci := 6) (j := 0) (cd := 0) eX7_readNeeds_16 (isF (by decide +kernel)) rfl rfl rfl ?_
  obtain ⟨r2, C2, hq2, h⟩ := ev_bd_some h
  refine ev_callV (kc := kc_58) (A := [.inr (.inl 53), .inl ((C1 13 0))]) (T := []) (lk_m.1 _ _ 0 [58, 59, 60, 61, 62, 63] (isM (by decide +kernel)) 58 (by decide)) eX7_readNeeds_19 (m_8_takeName_53 hU hq2) rfl rfl rfl (by decide) (by decide) (Nat.le_of_ble_eq_true rfl) ?_
  rintro _ C2 ⟨rfl, rfl⟩
  show ev_W l D cys ty ck_tags ev_TR kc_113 22 [(0, .inr (.inl 7)), (1, .inr (.inl 8))] [.inl r2] C2 _
  refine ev_is (L' := [(2, .inl r2), (0, .inr (.inl 7)), (1, .inr (.inl 8))]) eX7_readNeeds_22 (by decide) rfl ?_
  refine ev_il eX7_readNeeds_23 rfl ?_
  refine ev_ic eX7_readNeeds_24 (by decide) ?_
  refine ev_c_ne (tgt := 29) eX7_readNeeds_25 (by decide) (fun hc3 => ?_) (fun hc3 => ?_)
  · rw [if_pos (show r2 ≠ -1 from hc3)] at h
    refine ev_al eX7_readNeeds_29 rfl ?_
    refine ev_al eX7_readNeeds_30 rfl ?_
    refine ev_getR lk_f (ci := 7) (j := 0) (cd := 3) eX7_readNeeds_31 (isF (by decide +kernel)) rfl rfl ?_
    refine ev_getR lk_f (ci := 6) (j := 7) (cd := 3) eX7_readNeeds_34 (isF (by decide +kernel)) rfl rfl ?_
    refine ev_al eX7_readNeeds_37 rfl ?_
    refine ev_getR lk_f (ci := 7) (j := 0) (cd := 3) eX7_readNeeds_38 (isF (by decide +kernel)) rfl rfl ?_
    refine ev_getI lk_f (ci := 6) (j := 1) (cd := 0) eX7_readNeeds_41 (isF (by decide +kernel)) rfl rfl rfl ?_
    obtain ⟨r4, C4, hq4, h⟩ := ev_bd_some h
    refine ev_callV (kc := kc_45) (A := [.inr (.inl 54), .inl ((C2 13 1))]) (T := []) (lk_m.1 _ _ 0 [44, 45, 46, 47, 48, 49] (isM (by decide +kernel)) 45 (by decide)) eX7_readNeeds_44 (m_8_nameHere_54 hU hq4) rfl rfl rfl (by decide) (by decide) (Nat.le_of_ble_eq_true rfl) ?_
    rintro _ C4 ⟨rfl, rfl⟩
    show ev_W l D cys ty ck_tags ev_TR kc_113 47 [(2, .inl r2), (0, .inr (.inl 7)), (1, .inr (.inl 8))] [.inl r4] C4 _
    refine ev_is (L' := [(3, .inl r4), (2, .inl r2), (0, .inr (.inl 7)), (1, .inr (.inl 8))]) eX7_readNeeds_47 (by decide) rfl ?_
    refine ev_il eX7_readNeeds_48 rfl ?_
    refine ev_ic eX7_readNeeds_49 (by decide) ?_
    refine ev_c_eq (tgt := 76) eX7_readNeeds_50 (by decide) (fun hc5 => ?_) (fun hc5 => ?_)
    · rw [if_pos (show r4 = -1 from hc5)] at h
      cases h
      exact ev_vret eX7_readNeeds_76 rfl ⟨rfl, rfl⟩
    · rw [if_neg (show ¬ (r4 = -1) from hc5)] at h
      refine ev_al eX7_readNeeds_53 rfl ?_
      refine ev_getR lk_f (ci := 7) (j := 0) (cd := 3) eX7_readNeeds_54 (isF (by decide +kernel)) rfl rfl ?_
      refine ev_getR lk_f (ci := 6) (j := 10) (cd := 3) eX7_readNeeds_57 (isF (by decide +kernel)) rfl rfl ?_
      refine ev_il eX7_readNeeds_60 rfl ?_
      refine ev_al eX7_readNeeds_61 rfl ?_
      refine ev_al eX7_readNeeds_62 rfl ?_
      refine ev_getR lk_f (ci := 7) (j := 0) (cd := 3) eX7_readNeeds_63 (isF (by decide +kernel)) rfl rfl ?_
      refine ev_getR lk_f (ci := 6) (j := 10) (cd := 3) eX7_readNeeds_66 (isF (by decide +kernel)) rfl rfl ?_
      refine ev_il eX7_readNeeds_69 rfl ?_
      obtain ⟨hb6, h⟩ := ev_gd h
      refine ev_iald eX7_readNeeds_70 rfl rfl hb6.1 hb6.2 ?_
      refine ev_il eX7_readNeeds_71 rfl ?_
      obtain ⟨r7, C7, hq7, h⟩ := ev_bd_some h
      refine ev_callS (kc := kc_103) (A := [.inr (.inl 8), .inl ((C4 57 (Int.toNat r2))), .inl r4]) (T := [.inl r2, .inr (.inl 57)]) (lk_m.1 _ _ 1 [103] (isM (by decide +kernel)) 103 (by decide)) eX7_readNeeds_72 (m_7_takeOnce_8 hU hq7) rfl rfl (by decide) (by decide) (Nat.le_of_ble_eq_true rfl) ?_
      rintro _ C7 ⟨rfl, rfl⟩
      show ev_W l D cys ty ck_tags ev_TR kc_113 75 [(3, .inl r4), (2, .inl r2), (0, .inr (.inl 7)), (1, .inr (.inl 8))] [.inl r7, .inl r2, .inr (.inl 57)] C7 _
      obtain ⟨hb8, h⟩ := ev_gd h
      refine ev_iast hU eX7_readNeeds_75 rfl rfl hb8.1 hb8.2 ?_
      cases h
      exact ev_vret eX7_readNeeds_76 rfl ⟨rfl, rfl⟩
  · rw [if_neg (show ¬ (r2 ≠ -1) from hc3)] at h
    cases h
    exact ev_vret eX7_readNeeds_28 rfl ⟨rfl, rfl⟩
set_option maxRecDepth 100000 in
theorem m_8_nameHere_55 (hU : ev_uq ty ev_TR) {C : ev_C} {x2 : Int} {r : Int} {C' : ev_C} (h : f_8_nameHere_55 C x2 = some (r, C')) : ev_Met l D cys ty ck_tags ev_TR kc_46 [.inr (.inl 8), .inr (.inl 55), .inl x2] C (fun r0 C0 => r0 = some (.inl r) ∧ C0 = C') := by
  unfold f_8_nameHere_55 at h
  refine ev_enter (by decide +kernel) (by decide +kernel) (Nat.le_of_ble_eq_true rfl) ?_
  show ev_W l D cys ty ck_tags ev_TR kc_46 0 [(0, .inr (.inl 8)), (1, .inr (.inl 55)), (2, .inl x2)] [] C _
  refine ev_al eX8_nameHere_0 rfl ?_
  obtain ⟨r1, C1, hq1, h⟩ := ev_bd_some h
  refine ev_callV (kc := kc_0) (A := []) (T := []) (lk_m.1 _ _ 0 [0] (isM (by decide +kernel)) 0 (by decide)) eX8_nameHere_1 (m_8_isAtName hU hq1) rfl rfl rfl (by decide) (by decide) (Nat.le_of_ble_eq_true rfl) ?_
  rintro _ C1 ⟨rfl, rfl⟩
  show ev_W l D cys ty ck_tags ev_TR kc_46 4 [(0, .inr (.inl 8)), (1, .inr (.inl 55)), (2, .inl x2)] [.inl r1] C1 _
  refine ev_z_ne (tgt := 14) eX8_nameHere_4 (by decide) (fun hc2 => ?_) (fun hc2 => ?_)
  · rw [if_pos (show r1 ≠ 0 from hc2)] at h
    refine ev_al eX8_nameHere_14 rfl ?_
    refine ev_il eX8_nameHere_15 rfl ?_
    refine ev_al eX8_nameHere_16 rfl ?_
    refine ev_getL lk_f (ci := 8) (j := 8) (cd := 2) eX8_nameHere_17 (isF (by decide +kernel)) rfl rfl rfl ?_
    obtain ⟨r3, C3, hq3, h⟩ := ev_bd_some h
    refine ev_callS (kc := kc_39) (A := [.inr (.inl 55), .inl x2, .inr (.inr ((C1 8 8)))]) (T := []) (lk_m.1 _ _ 1 [37, 38, 39, 40, 41, 42, 43] (isM (by decide +kernel)) 39 (by decide)) eX8_nameHere_20 (m_8_indexOf_55 hU hq3) rfl rfl (by decide) (by decide) (Nat.le_of_ble_eq_true rfl) ?_
    rintro _ C3 ⟨rfl, rfl⟩
    show ev_W l D cys ty ck_tags ev_TR kc_46 23 [(0, .inr (.inl 8)), (1, .inr (.inl 55)), (2, .inl x2)] [.inl r3] C3 _
    refine ev_is (L' := [(3, .inl r3), (0, .inr (.inl 8)), (1, .inr (.inl 55)), (2, .inl x2)]) eX8_nameHere_23 (by decide) rfl ?_
    refine ev_il eX8_nameHere_24 rfl ?_
    refine ev_ic eX8_nameHere_25 (by decide) ?_
    refine ev_c_ne (tgt := 34) eX8_nameHere_26 (by decide) (fun hc4 => ?_) (fun hc4 => ?_)
    · rw [if_pos (show r3 ≠ -1 from hc4)] at h
      refine ev_il eX8_nameHere_34 rfl ?_
      cases h
      exact ev_iret eX8_nameHere_35 rfl ⟨rfl, rfl⟩
    · rw [if_neg (show ¬ (r3 ≠ -1) from hc4)] at h
      refine ev_al eX8_nameHere_29 rfl ?_
      refine ev_ic eX8_nameHere_30 (by decide) ?_
      obtain ⟨C5, hq5, h⟩ := ev_bv_some h
      refine ev_callV (kc := kc_35) (A := [.inl 3]) (T := []) (lk_m.1 _ _ 0 [35] (isM (by decide +kernel)) 35 (by decide)) eX8_nameHere_31 (m_8_fail hU hq5) rfl rfl rfl (by decide) (by decide) (Nat.le_of_ble_eq_true rfl) ?_
      rintro _ C5 ⟨rfl, rfl⟩
      show ev_W l D cys ty ck_tags ev_TR kc_46 34 [(3, .inl r3), (0, .inr (.inl 8)), (1, .inr (.inl 55)), (2, .inl x2)] [] C5 _
      refine ev_il eX8_nameHere_34 rfl ?_
      cases h
      exact ev_iret eX8_nameHere_35 rfl ⟨rfl, rfl⟩
  · rw [if_neg (show ¬ (r1 ≠ 0) from hc2)] at h
    refine ev_al eX8_nameHere_7 rfl ?_
    refine ev_ic eX8_nameHere_8 (by decide) ?_
    obtain ⟨C6, hq6, h⟩ := ev_bv_some h
    refine ev_callV (kc := kc_35) (A := [.inl 1]) (T := []) (lk_m.1 _ _ 0 [35] (isM (by decide +kernel)) 35 (by decide)) eX8_nameHere_9 (m_8_fail hU hq6) rfl rfl rfl (by decide) (by decide) (Nat.le_of_ble_eq_true rfl) ?_
    rintro _ C6 ⟨rfl, rfl⟩
    show ev_W l D cys ty ck_tags ev_TR kc_46 12 [(0, .inr (.inl 8)), (1, .inr (.inl 55)), (2, .inl x2)] [] C6 _
    refine ev_ic eX8_nameHere_12 (by decide) ?_
    cases h
    exact ev_iret eX8_nameHere_13 rfl ⟨rfl, rfl⟩
set_option maxRecDepth 100000 in
theorem m_8_takeName_55 (hU : ev_uq ty ev_TR) {C : ev_C} {x2 : Int} {r : Int} {C' : ev_C} (h : f_8_takeName_55 C x2 = some (r, C')) : ev_Met l D cys ty ck_tags ev_TR kc_60 [.inr (.inl 8), .inr (.inl 55), .inl x2] C (fun r0 C0 => r0 = some (.inl r) ∧ C0 = C') := by
  unfold f_8_takeName_55 at h
  refine ev_enter (by decide +kernel) (by decide +kernel) (Nat.le_of_ble_eq_true rfl) ?_
  show ev_W l D cys ty ck_tags ev_TR kc_60 0 [(0, .inr (.inl 8)), (1, .inr (.inl 55)), (2, .inl x2)] [] C _
  refine ev_al eX8_takeName_0 rfl ?_
  refine ev_al eX8_takeName_1 rfl ?_
  refine ev_il eX8_takeName_2 rfl ?_
  obtain ⟨r1, C1, hq1, h⟩ := ev_bd_some h
  refine ev_callV (kc := kc_46) (A := [.inr (.inl 55), .inl x2]) (T := []) (lk_m.1 _ _ 0 [44, 45, 46, 47, 48, 49] (isM (by decide +kernel)) 46 (by decide)) eX8_takeName_3 (m_8_nameHere_55 hU hq1) rfl rfl rfl (by decide) (by decide) (Nat.le_of_ble_eq_true rfl) ?_
  rintro _ C1 ⟨rfl, rfl⟩
  show ev_W l D cys ty ck_tags ev_TR kc_60 6 [(0, .inr (.inl 8)), (1, .inr (.inl 55)), (2, .inl x2)] [.inl r1] C1 _
  refine ev_is (L' := [(3, .inl r1), (0, .inr (.inl 8)), (1, .inr (.inl 55)), (2, .inl x2)]) eX8_takeName_6 (by decide) rfl ?_
  refine ev_il eX8_takeName_7 rfl ?_
  refine ev_ic eX8_takeName_8 (by decide) ?_
  refine ev_c_eq (tgt := 16) eX8_takeName_9 (by decide) (fun hc2 => ?_) (fun hc2 => ?_)
  · rw [if_pos (show r1 = -1 from hc2)] at h
    refine ev_il eX8_takeName_16 rfl ?_
    cases h
    exact ev_iret eX8_takeName_17 rfl ⟨rfl, rfl⟩
  · rw [if_neg (show ¬ (r1 = -1) from hc2)] at h
    refine ev_al eX8_takeName_12 rfl ?_
    obtain ⟨C3, hq3, h⟩ := ev_bv_some h
    refine ev_callV (kc := kc_57) (A := []) (T := []) (lk_m.1 _ _ 0 [57] (isM (by decide +kernel)) 57 (by decide)) eX8_takeName_13 (m_8_step hU hq3) rfl rfl rfl (by decide) (by decide) (Nat.le_of_ble_eq_true rfl) ?_
    rintro _ C3 ⟨rfl, rfl⟩
    show ev_W l D cys ty ck_tags ev_TR kc_60 16 [(3, .inl r1), (0, .inr (.inl 8)), (1, .inr (.inl 55)), (2, .inl x2)] [] C3 _
    refine ev_il eX8_takeName_16 rfl ?_
    cases h
    exact ev_iret eX8_takeName_17 rfl ⟨rfl, rfl⟩
theorem eX6_liking_0 : decode cX6_liking 0 = .ok (.aload_n 0, 1) := by decide +kernel
theorem eX6_liking_1 : decode cX6_liking 1 = .ok (.getfield 63, 3) := by decide +kernel
theorem eX6_liking_4 : decode cX6_liking 4 = .ok (.iload_n 1, 1) := by decide +kernel
theorem eX6_liking_5 : decode cX6_liking 5 = .ok (.bipush 6, 2) := by decide +kernel
theorem eX6_liking_7 : decode cX6_liking 7 = .ok (.imul, 1) := by decide +kernel
theorem eX6_liking_8 : decode cX6_liking 8 = .ok (.iload_n 2, 1) := by decide +kernel
theorem eX6_liking_9 : decode cX6_liking 9 = .ok (.iadd, 1) := by decide +kernel
theorem eX6_liking_10 : decode cX6_liking 10 = .ok (.iaload, 1) := by decide +kernel
theorem eX6_liking_11 : decode cX6_liking 11 = .ok (.ireturn, 1) := by decide +kernel
set_option maxRecDepth 100000 in
theorem m_6_liking_13 (hU : ev_uq ty ev_TR) {C : ev_C} {x1 x2 : Int} {r : Int} {C' : ev_C} (h : f_6_liking_13 C x1 x2 = some (r, C')) : ev_Met l D cys ty ck_tags ev_TR kc_22 [.inr (.inl 13), .inl x1, .inl x2] C (fun r0 C0 => r0 = some (.inl r) ∧ C0 = C') := by
  unfold f_6_liking_13 at h
  refine ev_enter (by decide +kernel) (by decide +kernel) (Nat.le_of_ble_eq_true rfl) ?_
  show ev_W l D cys ty ck_tags ev_TR kc_22 0 [(0, .inr (.inl 13)), (1, .inl x1), (2, .inl x2)] [] C _
  refine ev_al eX6_liking_0 rfl ?_
  refine ev_getR lk_f (ci := 6) (j := 16) (cd := 3) eX6_liking_1 (isF (by decide +kernel)) rfl rfl ?_
  refine ev_il eX6_liking_4 rfl ?_
  refine ev_bp eX6_liking_5 (by decide) (by decide) ?_
  refine ev_mul eX6_liking_7 ?_
  refine ev_il eX6_liking_8 rfl ?_
  refine ev_add eX6_liking_9 ?_
  obtain ⟨hb1, h⟩ := ev_gd h
  refine ev_iald eX6_liking_10 rfl rfl hb1.1 hb1.2 ?_
  cases h
  exact ev_iret eX6_liking_11 rfl ⟨rfl, rfl⟩
theorem eX7_readLikes_0 : decode cX7_readLikes 0 = .ok (.aload_n 1, 1) := by decide +kernel
theorem eX7_readLikes_1 : decode cX7_readLikes 1 = .ok (.invokevirtual 82, 3) := by decide +kernel
theorem eX7_readLikes_4 : decode cX7_readLikes 4 = .ok (.aload_n 1, 1) := by decide +kernel
theorem eX7_readLikes_5 : decode cX7_readLikes 5 = .ok (.aload_n 0, 1) := by decide +kernel
theorem eX7_readLikes_6 : decode cX7_readLikes 6 = .ok (.getfield 12, 3) := by decide +kernel
theorem eX7_readLikes_9 : decode cX7_readLikes 9 = .ok (.getfield 146, 3) := by decide +kernel
theorem eX7_readLikes_12 : decode cX7_readLikes 12 = .ok (.aload_n 0, 1) := by decide +kernel
theorem eX7_readLikes_13 : decode cX7_readLikes 13 = .ok (.getfield 12, 3) := by decide +kernel
theorem eX7_readLikes_16 : decode cX7_readLikes 16 = .ok (.getfield 143, 3) := by decide +kernel
theorem eX7_readLikes_19 : decode cX7_readLikes 19 = .ok (.invokevirtual 129, 3) := by decide +kernel
theorem eX7_readLikes_22 : decode cX7_readLikes 22 = .ok (.istore_n 2, 1) := by decide +kernel
theorem eX7_readLikes_23 : decode cX7_readLikes 23 = .ok (.iload_n 2, 1) := by decide +kernel
theorem eX7_readLikes_24 : decode cX7_readLikes 24 = .ok (.iconst (-1), 1) := by decide +kernel
theorem eX7_readLikes_25 : decode cX7_readLikes 25 = .ok (.if_icmp .ne 4, 3) := by decide +kernel
theorem eX7_readLikes_28 : decode cX7_readLikes 28 = .ok (.return_, 1) := by decide +kernel
theorem eX7_readLikes_29 : decode cX7_readLikes 29 = .ok (.aload_n 1, 1) := by decide +kernel
theorem eX7_readLikes_30 : decode cX7_readLikes 30 = .ok (.aload_n 0, 1) := by decide +kernel
theorem eX7_readLikes_31 : decode cX7_readLikes 31 = .ok (.getfield 12, 3) := by decide +kernel
theorem eX7_readLikes_34 : decode cX7_readLikes 34 = .ok (.getfield 107, 3) := by decide +kernel
theorem eX7_readLikes_37 : decode cX7_readLikes 37 = .ok (.aload_n 0, 1) := by decide +kernel
theorem eX7_readLikes_38 : decode cX7_readLikes 38 = .ok (.getfield 12, 3) := by decide +kernel
theorem eX7_readLikes_41 : decode cX7_readLikes 41 = .ok (.getfield 100, 3) := by decide +kernel
theorem eX7_readLikes_44 : decode cX7_readLikes 44 = .ok (.invokevirtual 133, 3) := by decide +kernel
theorem eX7_readLikes_47 : decode cX7_readLikes 47 = .ok (.istore_n 3, 1) := by decide +kernel
theorem eX7_readLikes_48 : decode cX7_readLikes 48 = .ok (.iload_n 3, 1) := by decide +kernel
theorem eX7_readLikes_49 : decode cX7_readLikes 49 = .ok (.iconst (-1), 1) := by decide +kernel
theorem eX7_readLikes_50 : decode cX7_readLikes 50 = .ok (.if_icmp .ne 4, 3) := by decide +kernel
theorem eX7_readLikes_53 : decode cX7_readLikes 53 = .ok (.return_, 1) := by decide +kernel
theorem eX7_readLikes_54 : decode cX7_readLikes 54 = .ok (.aload_n 0, 1) := by decide +kernel
theorem eX7_readLikes_55 : decode cX7_readLikes 55 = .ok (.getfield 12, 3) := by decide +kernel
theorem eX7_readLikes_58 : decode cX7_readLikes 58 = .ok (.iload_n 2, 1) := by decide +kernel
theorem eX7_readLikes_59 : decode cX7_readLikes 59 = .ok (.iload_n 3, 1) := by decide +kernel
theorem eX7_readLikes_60 : decode cX7_readLikes 60 = .ok (.invokevirtual 177, 3) := by decide +kernel
theorem eX7_readLikes_63 : decode cX7_readLikes 63 = .ok (.ifCond .eq 9, 3) := by decide +kernel
theorem eX7_readLikes_66 : decode cX7_readLikes 66 = .ok (.aload_n 1, 1) := by decide +kernel
theorem eX7_readLikes_67 : decode cX7_readLikes 67 = .ok (.iconst 3, 1) := by decide +kernel
theorem eX7_readLikes_68 : decode cX7_readLikes 68 = .ok (.invokevirtual 79, 3) := by decide +kernel
theorem eX7_readLikes_71 : decode cX7_readLikes 71 = .ok (.return_, 1) := by decide +kernel
theorem eX7_readLikes_72 : decode cX7_readLikes 72 = .ok (.aload_n 1, 1) := by decide +kernel
theorem eX7_readLikes_73 : decode cX7_readLikes 73 = .ok (.invokevirtual 82, 3) := by decide +kernel
theorem eX7_readLikes_76 : decode cX7_readLikes 76 = .ok (.aload_n 0, 1) := by decide +kernel
theorem eX7_readLikes_77 : decode cX7_readLikes 77 = .ok (.getfield 12, 3) := by decide +kernel
theorem eX7_readLikes_80 : decode cX7_readLikes 80 = .ok (.getfield 180, 3) := by decide +kernel
theorem eX7_readLikes_83 : decode cX7_readLikes 83 = .ok (.iload_n 2, 1) := by decide +kernel
theorem eX7_readLikes_84 : decode cX7_readLikes 84 = .ok (.bipush 6, 2) := by decide +kernel
theorem eX7_readLikes_86 : decode cX7_readLikes 86 = .ok (.imul, 1) := by decide +kernel
theorem eX7_readLikes_87 : decode cX7_readLikes 87 = .ok (.iload_n 3, 1) := by decide +kernel
theorem eX7_readLikes_88 : decode cX7_readLikes 88 = .ok (.iadd, 1) := by decide +kernel
theorem eX7_readLikes_89 : decode cX7_readLikes 89 = .ok (.aload_n 1, 1) := by decide +kernel
theorem eX7_readLikes_90 : decode cX7_readLikes 90 = .ok (.iconst 1, 1) := by decide +kernel
theorem eX7_readLikes_91 : decode cX7_readLikes 91 = .ok (.bipush 9, 2) := by decide +kernel
theorem eX7_readLikes_93 : decode cX7_readLikes 93 = .ok (.invokevirtual 119, 3) := by decide +kernel
theorem eX7_readLikes_96 : decode cX7_readLikes 96 = .ok (.iastore, 1) := by decide +kernel
theorem eX7_readLikes_97 : decode cX7_readLikes 97 = .ok (.return_, 1) := by decide +kernel
set_option maxRecDepth 100000 in
theorem m_7_readLikes_8 (hU : ev_uq ty ev_TR) {C : ev_C} {C' : ev_C} (h : f_7_readLikes_8 C = some C') : ev_Met l D cys ty ck_tags ev_TR kc_111 [.inr (.inl 7), .inr (.inl 8)] C (fun r0 C0 => r0 = none ∧ C0 = C') := by
  unfold f_7_readLikes_8 at h
  refine ev_enter (by decide +kernel) (by decide +kernel) (Nat.le_of_ble_eq_true rfl) ?_
  show ev_W l D cys ty ck_tags ev_TR kc_111 0 [(0, .inr (.inl 7)), (1, .inr (.inl 8))] [] C _
  refine ev_al eX7_readLikes_0 rfl ?_
  obtain ⟨C1, hq1, h⟩ := ev_bv_some h
  refine ev_callV (kc := kc_57) (A := []) (T := []) (lk_m.1 _ _ 0 [57] (isM (by decide +kernel)) 57 (by decide)) eX7_readLikes_1 (m_8_step hU hq1) rfl rfl rfl (by decide) (by decide) (Nat.le_of_ble_eq_true rfl) ?_
  rintro _ C1 ⟨rfl, rfl⟩
  show ev_W l D cys ty ck_tags ev_TR kc_111 4 [(0, .inr (.inl 7)), (1, .inr (.inl 8))] [] C1 _
  refine ev_al eX7_readLikes_4 rfl ?_
  refine ev_al eX7_readLikes_5 rfl ?_
  refine ev_getR lk_f (ci := 7) (j := 0) (cd := 3) eX7_readLikes_6 (isF (by decide +kernel)) rfl rfl ?_
  refine ev_getR lk_f (ci := 6) (j := 8) (cd := 3) eX7_readLikes_9 (isF (by decide +kernel)) rfl rfl ?_
  refine ev_al eX7_readLikes_12 rfl ?_
  refine ev_getR lk_f (ci := 7) (j := 0) (cd := 3) eX7_readLikes_13 (isF (by decide +kernel)) rfl rfl ?_
  refine ev_getI lk_f (ci := 6) (j := 2) (cd := 0) eX7_readLikes_16 (isF (by decide +kernel)) rfl rfl rfl ?_
  obtain ⟨r2, C2, hq2, h⟩ := ev_bd_some h
  refine ev_callV (kc := kc_60) (A := [.inr (.inl 55), .inl ((C1 13 2))]) (T := []) (lk_m.1 _ _ 0 [58, 59, 60, 61, 62, 63] (isM (by decide +kernel)) 60 (by decide)) eX7_readLikes_19 (m_8_takeName_55 hU hq2) rfl rfl rfl (by decide) (by decide) (Nat.le_of_ble_eq_true rfl) ?_
  rintro _ C2 ⟨rfl, rfl⟩
  show ev_W l D cys ty ck_tags ev_TR kc_111 22 [(0, .inr (.inl 7)), (1, .inr (.inl 8))] [.inl r2] C2 _
  refine ev_is (L' := [(2, .inl r2), (0, .inr (.inl 7)), (1, .inr (.inl 8))]) eX7_readLikes_22 (by decide) rfl ?_
  refine ev_il eX7_readLikes_23 rfl ?_
  refine ev_ic eX7_readLikes_24 (by decide) ?_
  refine ev_c_ne (tgt := 29) eX7_readLikes_25 (by decide) (fun hc3 => ?_) (fun hc3 => ?_)
  · rw [if_pos (show r2 ≠ -1 from hc3)] at h
    refine ev_al eX7_readLikes_29 rfl ?_
    refine ev_al eX7_readLikes_30 rfl ?_
    refine ev_getR lk_f (ci := 7) (j := 0) (cd := 3) eX7_readLikes_31 (isF (by decide +kernel)) rfl rfl ?_
    refine ev_getR lk_f (ci := 6) (j := 6) (cd := 3) eX7_readLikes_34 (isF (by decide +kernel)) rfl rfl ?_
    refine ev_al eX7_readLikes_37 rfl ?_
    refine ev_getR lk_f (ci := 7) (j := 0) (cd := 3) eX7_readLikes_38 (isF (by decide +kernel)) rfl rfl ?_
    refine ev_getI lk_f (ci := 6) (j := 0) (cd := 0) eX7_readLikes_41 (isF (by decide +kernel)) rfl rfl rfl ?_
    obtain ⟨r4, C4, hq4, h⟩ := ev_bd_some h
    refine ev_callV (kc := kc_44) (A := [.inr (.inl 53), .inl ((C2 13 0))]) (T := []) (lk_m.1 _ _ 0 [44, 45, 46, 47, 48, 49] (isM (by decide +kernel)) 44 (by decide)) eX7_readLikes_44 (m_8_nameHere_53 hU hq4) rfl rfl rfl (by decide) (by decide) (Nat.le_of_ble_eq_true rfl) ?_
    rintro _ C4 ⟨rfl, rfl⟩
    show ev_W l D cys ty ck_tags ev_TR kc_111 47 [(2, .inl r2), (0, .inr (.inl 7)), (1, .inr (.inl 8))] [.inl r4] C4 _
    refine ev_is (L' := [(3, .inl r4), (2, .inl r2), (0, .inr (.inl 7)), (1, .inr (.inl 8))]) eX7_readLikes_47 (by decide) rfl ?_
    refine ev_il eX7_readLikes_48 rfl ?_
    refine ev_ic eX7_readLikes_49 (by decide) ?_
    refine ev_c_ne (tgt := 54) eX7_readLikes_50 (by decide) (fun hc5 => ?_) (fun hc5 => ?_)
    · rw [if_pos (show r4 ≠ -1 from hc5)] at h
      refine ev_al eX7_readLikes_54 rfl ?_
      refine ev_getR lk_f (ci := 7) (j := 0) (cd := 3) eX7_readLikes_55 (isF (by decide +kernel)) rfl rfl ?_
      refine ev_il eX7_readLikes_58 rfl ?_
      refine ev_il eX7_readLikes_59 rfl ?_
      obtain ⟨r6, C6, hq6, h⟩ := ev_bd_some h
      refine ev_callV (kc := kc_22) (A := [.inl r2, .inl r4]) (T := []) (lk_m.1 _ _ 0 [21, 22] (isM (by decide +kernel)) 22 (by decide)) eX7_readLikes_60 (m_6_liking_13 hU hq6) rfl rfl rfl (by decide) (by decide) (Nat.le_of_ble_eq_true rfl) ?_
      rintro _ C6 ⟨rfl, rfl⟩
      show ev_W l D cys ty ck_tags ev_TR kc_111 63 [(3, .inl r4), (2, .inl r2), (0, .inr (.inl 7)), (1, .inr (.inl 8))] [.inl r6] C6 _
      refine ev_z_eq (tgt := 72) eX7_readLikes_63 (by decide) (fun hc7 => ?_) (fun hc7 => ?_)
      · rw [if_pos (show r6 = 0 from hc7)] at h
        refine ev_al eX7_readLikes_72 rfl ?_
        obtain ⟨C8, hq8, h⟩ := ev_bv_some h
        refine ev_callV (kc := kc_57) (A := []) (T := []) (lk_m.1 _ _ 0 [57] (isM (by decide +kernel)) 57 (by decide)) eX7_readLikes_73 (m_8_step hU hq8) rfl rfl rfl (by decide) (by decide) (Nat.le_of_ble_eq_true rfl) ?_
        rintro _ C8 ⟨rfl, rfl⟩
        show ev_W l D cys ty ck_tags ev_TR kc_111 76 [(3, .inl r4), (2, .inl r2), (0, .inr (.inl 7)), (1, .inr (.inl 8))] [] C8 _
        refine ev_al eX7_readLikes_76 rfl ?_
        refine ev_getR lk_f (ci := 7) (j := 0) (cd := 3) eX7_readLikes_77 (isF (by decide +kernel)) rfl rfl ?_
        refine ev_getR lk_f (ci := 6) (j := 16) (cd := 3) eX7_readLikes_80 (isF (by decide +kernel)) rfl rfl ?_
        refine ev_il eX7_readLikes_83 rfl ?_
        refine ev_bp eX7_readLikes_84 (by decide) (by decide) ?_
        refine ev_mul eX7_readLikes_86 ?_
        refine ev_il eX7_readLikes_87 rfl ?_
        refine ev_add eX7_readLikes_88 ?_
        refine ev_al eX7_readLikes_89 rfl ?_
        refine ev_ic eX7_readLikes_90 (by decide) ?_
        refine ev_bp eX7_readLikes_91 (by decide) (by decide) ?_
        obtain ⟨r9, C9, hq9, h⟩ := ev_bd_some h
        refine ev_callV (kc := kc_110) (A := [.inl 1, .inl 9]) (T := [.inl (ev_w ((ev_w (r2 * (6 : Int))) + r4)), .inr (.inl 63)]) (lk_m.1 _ _ 0 [110] (isM (by decide +kernel)) 110 (by decide)) eX7_readLikes_93 (m_8_takeNumber hU hq9) rfl rfl rfl (by decide) (by decide) (Nat.le_of_ble_eq_true rfl) ?_
        rintro _ C9 ⟨rfl, rfl⟩
        show ev_W l D cys ty ck_tags ev_TR kc_111 96 [(3, .inl r4), (2, .inl r2), (0, .inr (.inl 7)), (1, .inr (.inl 8))] [.inl r9, .inl (ev_w ((ev_w (r2 * (6 : Int))) + r4)), .inr (.inl 63)] C9 _
        obtain ⟨hb10, h⟩ := ev_gd h
        refine ev_iast hU eX7_readLikes_96 rfl rfl hb10.1 hb10.2 ?_
        cases h
        exact ev_vret eX7_readLikes_97 rfl ⟨rfl, rfl⟩
      · rw [if_neg (show ¬ (r6 = 0) from hc7)] at h
        refine ev_al eX7_readLikes_66 rfl ?_
        refine ev_ic eX7_readLikes_67 (by decide) ?_
        obtain ⟨C11, hq11, h⟩ := ev_bv_some h
        refine ev_callV (kc := kc_35) (A := [.inl 3]) (T := []) (lk_m.1 _ _ 0 [35] (isM (by decide +kernel)) 35 (by decide)) eX7_readLikes_68 (m_8_fail hU hq11) rfl rfl rfl (by decide) (by decide) (Nat.le_of_ble_eq_true rfl) ?_
        rintro _ C11 ⟨rfl, rfl⟩
        show ev_W l D cys ty ck_tags ev_TR kc_111 71 [(3, .inl r4), (2, .inl r2), (0, .inr (.inl 7)), (1, .inr (.inl 8))] [] C11 _
        cases h
        exact ev_vret eX7_readLikes_71 rfl ⟨rfl, rfl⟩
    · rw [if_neg (show ¬ (r4 ≠ -1) from hc5)] at h
      cases h
      exact ev_vret eX7_readLikes_53 rfl ⟨rfl, rfl⟩
  · rw [if_neg (show ¬ (r2 ≠ -1) from hc3)] at h
    cases h
    exact ev_vret eX7_readLikes_28 rfl ⟨rfl, rfl⟩
theorem eX7_readNever_0 : decode cX7_readNever 0 = .ok (.aload_n 1, 1) := by decide +kernel
theorem eX7_readNever_1 : decode cX7_readNever 1 = .ok (.invokevirtual 82, 3) := by decide +kernel
theorem eX7_readNever_4 : decode cX7_readNever 4 = .ok (.aload_n 1, 1) := by decide +kernel
theorem eX7_readNever_5 : decode cX7_readNever 5 = .ok (.aload_n 0, 1) := by decide +kernel
theorem eX7_readNever_6 : decode cX7_readNever 6 = .ok (.getfield 12, 3) := by decide +kernel
theorem eX7_readNever_9 : decode cX7_readNever 9 = .ok (.getfield 146, 3) := by decide +kernel
theorem eX7_readNever_12 : decode cX7_readNever 12 = .ok (.aload_n 0, 1) := by decide +kernel
theorem eX7_readNever_13 : decode cX7_readNever 13 = .ok (.getfield 12, 3) := by decide +kernel
theorem eX7_readNever_16 : decode cX7_readNever 16 = .ok (.getfield 143, 3) := by decide +kernel
theorem eX7_readNever_19 : decode cX7_readNever 19 = .ok (.invokevirtual 129, 3) := by decide +kernel
theorem eX7_readNever_22 : decode cX7_readNever 22 = .ok (.istore_n 2, 1) := by decide +kernel
theorem eX7_readNever_23 : decode cX7_readNever 23 = .ok (.iload_n 2, 1) := by decide +kernel
theorem eX7_readNever_24 : decode cX7_readNever 24 = .ok (.iconst (-1), 1) := by decide +kernel
theorem eX7_readNever_25 : decode cX7_readNever 25 = .ok (.if_icmp .ne 4, 3) := by decide +kernel
theorem eX7_readNever_28 : decode cX7_readNever 28 = .ok (.return_, 1) := by decide +kernel
theorem eX7_readNever_29 : decode cX7_readNever 29 = .ok (.aload_n 1, 1) := by decide +kernel
theorem eX7_readNever_30 : decode cX7_readNever 30 = .ok (.aload_n 0, 1) := by decide +kernel
theorem eX7_readNever_31 : decode cX7_readNever 31 = .ok (.getfield 12, 3) := by decide +kernel
theorem eX7_readNever_34 : decode cX7_readNever 34 = .ok (.getfield 107, 3) := by decide +kernel
theorem eX7_readNever_37 : decode cX7_readNever 37 = .ok (.aload_n 0, 1) := by decide +kernel
theorem eX7_readNever_38 : decode cX7_readNever 38 = .ok (.getfield 12, 3) := by decide +kernel
theorem eX7_readNever_41 : decode cX7_readNever 41 = .ok (.getfield 100, 3) := by decide +kernel
theorem eX7_readNever_44 : decode cX7_readNever 44 = .ok (.invokevirtual 133, 3) := by decide +kernel
theorem eX7_readNever_47 : decode cX7_readNever 47 = .ok (.istore_n 3, 1) := by decide +kernel
theorem eX7_readNever_48 : decode cX7_readNever 48 = .ok (.iload_n 3, 1) := by decide +kernel
theorem eX7_readNever_49 : decode cX7_readNever 49 = .ok (.iconst (-1), 1) := by decide +kernel
theorem eX7_readNever_50 : decode cX7_readNever 50 = .ok (.if_icmp .eq 26, 3) := by decide +kernel
theorem eX7_readNever_53 : decode cX7_readNever 53 = .ok (.aload_n 0, 1) := by decide +kernel
theorem eX7_readNever_54 : decode cX7_readNever 54 = .ok (.getfield 12, 3) := by decide +kernel
theorem eX7_readNever_57 : decode cX7_readNever 57 = .ok (.getfield 183, 3) := by decide +kernel
theorem eX7_readNever_60 : decode cX7_readNever 60 = .ok (.iload_n 2, 1) := by decide +kernel
theorem eX7_readNever_61 : decode cX7_readNever 61 = .ok (.aload_n 1, 1) := by decide +kernel
theorem eX7_readNever_62 : decode cX7_readNever 62 = .ok (.aload_n 0, 1) := by decide +kernel
theorem eX7_readNever_63 : decode cX7_readNever 63 = .ok (.getfield 12, 3) := by decide +kernel
theorem eX7_readNever_66 : decode cX7_readNever 66 = .ok (.getfield 183, 3) := by decide +kernel
theorem eX7_readNever_69 : decode cX7_readNever 69 = .ok (.iload_n 2, 1) := by decide +kernel
theorem eX7_readNever_70 : decode cX7_readNever 70 = .ok (.iaload, 1) := by decide +kernel
theorem eX7_readNever_71 : decode cX7_readNever 71 = .ok (.iload_n 3, 1) := by decide +kernel
theorem eX7_readNever_72 : decode cX7_readNever 72 = .ok (.invokestatic 139, 3) := by decide +kernel
theorem eX7_readNever_75 : decode cX7_readNever 75 = .ok (.iastore, 1) := by decide +kernel
theorem eX7_readNever_76 : decode cX7_readNever 76 = .ok (.return_, 1) := by decide +kernel
set_option maxRecDepth 100000 in
theorem m_7_readNever_8 (hU : ev_uq ty ev_TR) {C : ev_C} {C' : ev_C} (h : f_7_readNever_8 C = some C') : ev_Met l D cys ty ck_tags ev_TR kc_114 [.inr (.inl 7), .inr (.inl 8)] C (fun r0 C0 => r0 = none ∧ C0 = C') := by
  unfold f_7_readNever_8 at h
  refine ev_enter (by decide +kernel) (by decide +kernel) (Nat.le_of_ble_eq_true rfl) ?_
  show ev_W l D cys ty ck_tags ev_TR kc_114 0 [(0, .inr (.inl 7)), (1, .inr (.inl 8))] [] C _
  refine ev_al eX7_readNever_0 rfl ?_
  obtain ⟨C1, hq1, h⟩ := ev_bv_some h
  refine ev_callV (kc := kc_57) (A := []) (T := []) (lk_m.1 _ _ 0 [57] (isM (by decide +kernel)) 57 (by decide)) eX7_readNever_1 (m_8_step hU hq1) rfl rfl rfl (by decide) (by decide) (Nat.le_of_ble_eq_true rfl) ?_
  rintro _ C1 ⟨rfl, rfl⟩
  show ev_W l D cys ty ck_tags ev_TR kc_114 4 [(0, .inr (.inl 7)), (1, .inr (.inl 8))] [] C1 _
  refine ev_al eX7_readNever_4 rfl ?_
  refine ev_al eX7_readNever_5 rfl ?_
  refine ev_getR lk_f (ci := 7) (j := 0) (cd := 3) eX7_readNever_6 (isF (by decide +kernel)) rfl rfl ?_
  refine ev_getR lk_f (ci := 6) (j := 8) (cd := 3) eX7_readNever_9 (isF (by decide +kernel)) rfl rfl ?_
  refine ev_al eX7_readNever_12 rfl ?_
  refine ev_getR lk_f (ci := 7) (j := 0) (cd := 3) eX7_readNever_13 (isF (by decide +kernel)) rfl rfl ?_
  refine ev_getI lk_f (ci := 6) (j := 2) (cd := 0) eX7_readNever_16 (isF (by decide +kernel)) rfl rfl rfl ?_
  obtain ⟨r2, C2, hq2, h⟩ := ev_bd_some h
  refine ev_callV (kc := kc_60) (A := [.inr (.inl 55), .inl ((C1 13 2))]) (T := []) (lk_m.1 _ _ 0 [58, 59, 60, 61, 62, 63] (isM (by decide +kernel)) 60 (by decide)) eX7_readNever_19 (m_8_takeName_55 hU hq2) rfl rfl rfl (by decide) (by decide) (Nat.le_of_ble_eq_true rfl) ?_
  rintro _ C2 ⟨rfl, rfl⟩
  show ev_W l D cys ty ck_tags ev_TR kc_114 22 [(0, .inr (.inl 7)), (1, .inr (.inl 8))] [.inl r2] C2 _
  refine ev_is (L' := [(2, .inl r2), (0, .inr (.inl 7)), (1, .inr (.inl 8))]) eX7_readNever_22 (by decide) rfl ?_
  refine ev_il eX7_readNever_23 rfl ?_
  refine ev_ic eX7_readNever_24 (by decide) ?_
  refine ev_c_ne (tgt := 29) eX7_readNever_25 (by decide) (fun hc3 => ?_) (fun hc3 => ?_)
  · rw [if_pos (show r2 ≠ -1 from hc3)] at h
    refine ev_al eX7_readNever_29 rfl ?_
    refine ev_al eX7_readNever_30 rfl ?_
    refine ev_getR lk_f (ci := 7) (j := 0) (cd := 3) eX7_readNever_31 (isF (by decide +kernel)) rfl rfl ?_
    refine ev_getR lk_f (ci := 6) (j := 6) (cd := 3) eX7_readNever_34 (isF (by decide +kernel)) rfl rfl ?_
    refine ev_al eX7_readNever_37 rfl ?_
    refine ev_getR lk_f (ci := 7) (j := 0) (cd := 3) eX7_readNever_38 (isF (by decide +kernel)) rfl rfl ?_
    refine ev_getI lk_f (ci := 6) (j := 0) (cd := 0) eX7_readNever_41 (isF (by decide +kernel)) rfl rfl rfl ?_
    obtain ⟨r4, C4, hq4, h⟩ := ev_bd_some h
    refine ev_callV (kc := kc_44) (A := [.inr (.inl 53), .inl ((C2 13 0))]) (T := []) (lk_m.1 _ _ 0 [44, 45, 46, 47, 48, 49] (isM (by decide +kernel)) 44 (by decide)) eX7_readNever_44 (m_8_nameHere_53 hU hq4) rfl rfl rfl (by decide) (by decide) (Nat.le_of_ble_eq_true rfl) ?_
    rintro _ C4 ⟨rfl, rfl⟩
    show ev_W l D cys ty ck_tags ev_TR kc_114 47 [(2, .inl r2), (0, .inr (.inl 7)), (1, .inr (.inl 8))] [.inl r4] C4 _
    refine ev_is (L' := [(3, .inl r4), (2, .inl r2), (0, .inr (.inl 7)), (1, .inr (.inl 8))]) eX7_readNever_47 (by decide) rfl ?_
    refine ev_il eX7_readNever_48 rfl ?_
    refine ev_ic eX7_readNever_49 (by decide) ?_
    refine ev_c_eq (tgt := 76) eX7_readNever_50 (by decide) (fun hc5 => ?_) (fun hc5 => ?_)
    · rw [if_pos (show r4 = -1 from hc5)] at h
      cases h
      exact ev_vret eX7_readNever_76 rfl ⟨rfl, rfl⟩
    · rw [if_neg (show ¬ (r4 = -1) from hc5)] at h
      refine ev_al eX7_readNever_53 rfl ?_
      refine ev_getR lk_f (ci := 7) (j := 0) (cd := 3) eX7_readNever_54 (isF (by decide +kernel)) rfl rfl ?_
      refine ev_getR lk_f (ci := 6) (j := 14) (cd := 3) eX7_readNever_57 (isF (by decide +kernel)) rfl rfl ?_
      refine ev_il eX7_readNever_60 rfl ?_
      refine ev_al eX7_readNever_61 rfl ?_
      refine ev_al eX7_readNever_62 rfl ?_
      refine ev_getR lk_f (ci := 7) (j := 0) (cd := 3) eX7_readNever_63 (isF (by decide +kernel)) rfl rfl ?_
      refine ev_getR lk_f (ci := 6) (j := 14) (cd := 3) eX7_readNever_66 (isF (by decide +kernel)) rfl rfl ?_
      refine ev_il eX7_readNever_69 rfl ?_
      obtain ⟨hb6, h⟩ := ev_gd h
      refine ev_iald eX7_readNever_70 rfl rfl hb6.1 hb6.2 ?_
      refine ev_il eX7_readNever_71 rfl ?_
      obtain ⟨r7, C7, hq7, h⟩ := ev_bd_some h
      refine ev_callS (kc := kc_103) (A := [.inr (.inl 8), .inl ((C4 61 (Int.toNat r2))), .inl r4]) (T := [.inl r2, .inr (.inl 61)]) (lk_m.1 _ _ 1 [103] (isM (by decide +kernel)) 103 (by decide)) eX7_readNever_72 (m_7_takeOnce_8 hU hq7) rfl rfl (by decide) (by decide) (Nat.le_of_ble_eq_true rfl) ?_
      rintro _ C7 ⟨rfl, rfl⟩
      show ev_W l D cys ty ck_tags ev_TR kc_114 75 [(3, .inl r4), (2, .inl r2), (0, .inr (.inl 7)), (1, .inr (.inl 8))] [.inl r7, .inl r2, .inr (.inl 61)] C7 _
      obtain ⟨hb8, h⟩ := ev_gd h
      refine ev_iast hU eX7_readNever_75 rfl rfl hb8.1 hb8.2 ?_
      cases h
      exact ev_vret eX7_readNever_76 rfl ⟨rfl, rfl⟩
  · rw [if_neg (show ¬ (r2 ≠ -1) from hc3)] at h
    cases h
    exact ev_vret eX7_readNever_28 rfl ⟨rfl, rfl⟩
theorem eX7_readFoes_0 : decode cX7_readFoes 0 = .ok (.aload_n 1, 1) := by decide +kernel
theorem eX7_readFoes_1 : decode cX7_readFoes 1 = .ok (.invokevirtual 82, 3) := by decide +kernel
theorem eX7_readFoes_4 : decode cX7_readFoes 4 = .ok (.aload_n 1, 1) := by decide +kernel
theorem eX7_readFoes_5 : decode cX7_readFoes 5 = .ok (.aload_n 0, 1) := by decide +kernel
theorem eX7_readFoes_6 : decode cX7_readFoes 6 = .ok (.getfield 12, 3) := by decide +kernel
theorem eX7_readFoes_9 : decode cX7_readFoes 9 = .ok (.getfield 146, 3) := by decide +kernel
theorem eX7_readFoes_12 : decode cX7_readFoes 12 = .ok (.aload_n 0, 1) := by decide +kernel
theorem eX7_readFoes_13 : decode cX7_readFoes 13 = .ok (.getfield 12, 3) := by decide +kernel
theorem eX7_readFoes_16 : decode cX7_readFoes 16 = .ok (.getfield 143, 3) := by decide +kernel
theorem eX7_readFoes_19 : decode cX7_readFoes 19 = .ok (.invokevirtual 129, 3) := by decide +kernel
theorem eX7_readFoes_22 : decode cX7_readFoes 22 = .ok (.istore_n 2, 1) := by decide +kernel
theorem eX7_readFoes_23 : decode cX7_readFoes 23 = .ok (.iload_n 2, 1) := by decide +kernel
theorem eX7_readFoes_24 : decode cX7_readFoes 24 = .ok (.iconst (-1), 1) := by decide +kernel
theorem eX7_readFoes_25 : decode cX7_readFoes 25 = .ok (.if_icmp .ne 4, 3) := by decide +kernel
theorem eX7_readFoes_28 : decode cX7_readFoes 28 = .ok (.return_, 1) := by decide +kernel
theorem eX7_readFoes_29 : decode cX7_readFoes 29 = .ok (.aload_n 1, 1) := by decide +kernel
theorem eX7_readFoes_30 : decode cX7_readFoes 30 = .ok (.aload_n 0, 1) := by decide +kernel
theorem eX7_readFoes_31 : decode cX7_readFoes 31 = .ok (.getfield 12, 3) := by decide +kernel
theorem eX7_readFoes_34 : decode cX7_readFoes 34 = .ok (.getfield 146, 3) := by decide +kernel
theorem eX7_readFoes_37 : decode cX7_readFoes 37 = .ok (.aload_n 0, 1) := by decide +kernel
theorem eX7_readFoes_38 : decode cX7_readFoes 38 = .ok (.getfield 12, 3) := by decide +kernel
theorem eX7_readFoes_41 : decode cX7_readFoes 41 = .ok (.getfield 143, 3) := by decide +kernel
theorem eX7_readFoes_44 : decode cX7_readFoes 44 = .ok (.invokevirtual 133, 3) := by decide +kernel
theorem eX7_readFoes_47 : decode cX7_readFoes 47 = .ok (.istore_n 3, 1) := by decide +kernel
theorem eX7_readFoes_48 : decode cX7_readFoes 48 = .ok (.iload_n 3, 1) := by decide +kernel
theorem eX7_readFoes_49 : decode cX7_readFoes 49 = .ok (.iconst (-1), 1) := by decide +kernel
theorem eX7_readFoes_50 : decode cX7_readFoes 50 = .ok (.if_icmp .ne 4, 3) := by decide +kernel
theorem eX7_readFoes_53 : decode cX7_readFoes 53 = .ok (.return_, 1) := by decide +kernel
theorem eX7_readFoes_54 : decode cX7_readFoes 54 = .ok (.iload_n 3, 1) := by decide +kernel
theorem eX7_readFoes_55 : decode cX7_readFoes 55 = .ok (.iload_n 2, 1) := by decide +kernel
theorem eX7_readFoes_56 : decode cX7_readFoes 56 = .ok (.if_icmp .ne 9, 3) := by decide +kernel
theorem eX7_readFoes_59 : decode cX7_readFoes 59 = .ok (.aload_n 1, 1) := by decide +kernel
theorem eX7_readFoes_60 : decode cX7_readFoes 60 = .ok (.iconst 3, 1) := by decide +kernel
theorem eX7_readFoes_61 : decode cX7_readFoes 61 = .ok (.invokevirtual 79, 3) := by decide +kernel
theorem eX7_readFoes_64 : decode cX7_readFoes 64 = .ok (.return_, 1) := by decide +kernel
theorem eX7_readFoes_65 : decode cX7_readFoes 65 = .ok (.aload_n 0, 1) := by decide +kernel
theorem eX7_readFoes_66 : decode cX7_readFoes 66 = .ok (.getfield 12, 3) := by decide +kernel
theorem eX7_readFoes_69 : decode cX7_readFoes 69 = .ok (.getfield 186, 3) := by decide +kernel
theorem eX7_readFoes_72 : decode cX7_readFoes 72 = .ok (.iload_n 2, 1) := by decide +kernel
theorem eX7_readFoes_73 : decode cX7_readFoes 73 = .ok (.aload_n 1, 1) := by decide +kernel
theorem eX7_readFoes_74 : decode cX7_readFoes 74 = .ok (.aload_n 0, 1) := by decide +kernel
theorem eX7_readFoes_75 : decode cX7_readFoes 75 = .ok (.getfield 12, 3) := by decide +kernel
theorem eX7_readFoes_78 : decode cX7_readFoes 78 = .ok (.getfield 186, 3) := by decide +kernel
theorem eX7_readFoes_81 : decode cX7_readFoes 81 = .ok (.iload_n 2, 1) := by decide +kernel
theorem eX7_readFoes_82 : decode cX7_readFoes 82 = .ok (.iaload, 1) := by decide +kernel
theorem eX7_readFoes_83 : decode cX7_readFoes 83 = .ok (.iload_n 3, 1) := by decide +kernel
theorem eX7_readFoes_84 : decode cX7_readFoes 84 = .ok (.invokestatic 139, 3) := by decide +kernel
theorem eX7_readFoes_87 : decode cX7_readFoes 87 = .ok (.iastore, 1) := by decide +kernel
theorem eX7_readFoes_88 : decode cX7_readFoes 88 = .ok (.aload_n 0, 1) := by decide +kernel
theorem eX7_readFoes_89 : decode cX7_readFoes 89 = .ok (.getfield 12, 3) := by decide +kernel
theorem eX7_readFoes_92 : decode cX7_readFoes 92 = .ok (.getfield 186, 3) := by decide +kernel
theorem eX7_readFoes_95 : decode cX7_readFoes 95 = .ok (.iload_n 3, 1) := by decide +kernel
theorem eX7_readFoes_96 : decode cX7_readFoes 96 = .ok (.dup2, 1) := by decide +kernel
theorem eX7_readFoes_97 : decode cX7_readFoes 97 = .ok (.iaload, 1) := by decide +kernel
theorem eX7_readFoes_98 : decode cX7_readFoes 98 = .ok (.iconst 1, 1) := by decide +kernel
theorem eX7_readFoes_99 : decode cX7_readFoes 99 = .ok (.iload_n 2, 1) := by decide +kernel
theorem eX7_readFoes_100 : decode cX7_readFoes 100 = .ok (.ishl, 1) := by decide +kernel
theorem eX7_readFoes_101 : decode cX7_readFoes 101 = .ok (.ior, 1) := by decide +kernel
theorem eX7_readFoes_102 : decode cX7_readFoes 102 = .ok (.iastore, 1) := by decide +kernel
theorem eX7_readFoes_103 : decode cX7_readFoes 103 = .ok (.return_, 1) := by decide +kernel
set_option maxRecDepth 100000 in
theorem m_7_readFoes_8 (hU : ev_uq ty ev_TR) {C : ev_C} {C' : ev_C} (h : f_7_readFoes_8 C = some C') : ev_Met l D cys ty ck_tags ev_TR kc_109 [.inr (.inl 7), .inr (.inl 8)] C (fun r0 C0 => r0 = none ∧ C0 = C') := by
  unfold f_7_readFoes_8 at h
  refine ev_enter (by decide +kernel) (by decide +kernel) (Nat.le_of_ble_eq_true rfl) ?_
  show ev_W l D cys ty ck_tags ev_TR kc_109 0 [(0, .inr (.inl 7)), (1, .inr (.inl 8))] [] C _
  refine ev_al eX7_readFoes_0 rfl ?_
  obtain ⟨C1, hq1, h⟩ := ev_bv_some h
  refine ev_callV (kc := kc_57) (A := []) (T := []) (lk_m.1 _ _ 0 [57] (isM (by decide +kernel)) 57 (by decide)) eX7_readFoes_1 (m_8_step hU hq1) rfl rfl rfl (by decide) (by decide) (Nat.le_of_ble_eq_true rfl) ?_
  rintro _ C1 ⟨rfl, rfl⟩
  show ev_W l D cys ty ck_tags ev_TR kc_109 4 [(0, .inr (.inl 7)), (1, .inr (.inl 8))] [] C1 _
  refine ev_al eX7_readFoes_4 rfl ?_
  refine ev_al eX7_readFoes_5 rfl ?_
  refine ev_getR lk_f (ci := 7) (j := 0) (cd := 3) eX7_readFoes_6 (isF (by decide +kernel)) rfl rfl ?_
  refine ev_getR lk_f (ci := 6) (j := 8) (cd := 3) eX7_readFoes_9 (isF (by decide +kernel)) rfl rfl ?_
  refine ev_al eX7_readFoes_12 rfl ?_
  refine ev_getR lk_f (ci := 7) (j := 0) (cd := 3) eX7_readFoes_13 (isF (by decide +kernel)) rfl rfl ?_
  refine ev_getI lk_f (ci := 6) (j := 2) (cd := 0) eX7_readFoes_16 (isF (by decide +kernel)) rfl rfl rfl ?_
  obtain ⟨r2, C2, hq2, h⟩ := ev_bd_some h
  refine ev_callV (kc := kc_60) (A := [.inr (.inl 55), .inl ((C1 13 2))]) (T := []) (lk_m.1 _ _ 0 [58, 59, 60, 61, 62, 63] (isM (by decide +kernel)) 60 (by decide)) eX7_readFoes_19 (m_8_takeName_55 hU hq2) rfl rfl rfl (by decide) (by decide) (Nat.le_of_ble_eq_true rfl) ?_
  rintro _ C2 ⟨rfl, rfl⟩
  show ev_W l D cys ty ck_tags ev_TR kc_109 22 [(0, .inr (.inl 7)), (1, .inr (.inl 8))] [.inl r2] C2 _
  refine ev_is (L' := [(2, .inl r2), (0, .inr (.inl 7)), (1, .inr (.inl 8))]) eX7_readFoes_22 (by decide) rfl ?_
  refine ev_il eX7_readFoes_23 rfl ?_
  refine ev_ic eX7_readFoes_24 (by decide) ?_
  refine ev_c_ne (tgt := 29) eX7_readFoes_25 (by decide) (fun hc3 => ?_) (fun hc3 => ?_)
  · rw [if_pos (show r2 ≠ -1 from hc3)] at h
    refine ev_al eX7_readFoes_29 rfl ?_
    refine ev_al eX7_readFoes_30 rfl ?_
    refine ev_getR lk_f (ci := 7) (j := 0) (cd := 3) eX7_readFoes_31 (isF (by decide +kernel)) rfl rfl ?_
    refine ev_getR lk_f (ci := 6) (j := 8) (cd := 3) eX7_readFoes_34 (isF (by decide +kernel)) rfl rfl ?_
    refine ev_al eX7_readFoes_37 rfl ?_
    refine ev_getR lk_f (ci := 7) (j := 0) (cd := 3) eX7_readFoes_38 (isF (by decide +kernel)) rfl rfl ?_
    refine ev_getI lk_f (ci := 6) (j := 2) (cd := 0) eX7_readFoes_41 (isF (by decide +kernel)) rfl rfl rfl ?_
    obtain ⟨r4, C4, hq4, h⟩ := ev_bd_some h
    refine ev_callV (kc := kc_46) (A := [.inr (.inl 55), .inl ((C2 13 2))]) (T := []) (lk_m.1 _ _ 0 [44, 45, 46, 47, 48, 49] (isM (by decide +kernel)) 46 (by decide)) eX7_readFoes_44 (m_8_nameHere_55 hU hq4) rfl rfl rfl (by decide) (by decide) (Nat.le_of_ble_eq_true rfl) ?_
    rintro _ C4 ⟨rfl, rfl⟩
    show ev_W l D cys ty ck_tags ev_TR kc_109 47 [(2, .inl r2), (0, .inr (.inl 7)), (1, .inr (.inl 8))] [.inl r4] C4 _
    refine ev_is (L' := [(3, .inl r4), (2, .inl r2), (0, .inr (.inl 7)), (1, .inr (.inl 8))]) eX7_readFoes_47 (by decide) rfl ?_
    refine ev_il eX7_readFoes_48 rfl ?_
    refine ev_ic eX7_readFoes_49 (by decide) ?_
    refine ev_c_ne (tgt := 54) eX7_readFoes_50 (by decide) (fun hc5 => ?_) (fun hc5 => ?_)
    · rw [if_pos (show r4 ≠ -1 from hc5)] at h
      refine ev_il eX7_readFoes_54 rfl ?_
      refine ev_il eX7_readFoes_55 rfl ?_
      refine ev_c_ne (tgt := 65) eX7_readFoes_56 (by decide) (fun hc6 => ?_) (fun hc6 => ?_)
      · rw [if_pos (show r4 ≠ r2 from hc6)] at h
        refine ev_al eX7_readFoes_65 rfl ?_
        refine ev_getR lk_f (ci := 7) (j := 0) (cd := 3) eX7_readFoes_66 (isF (by decide +kernel)) rfl rfl ?_
        refine ev_getR lk_f (ci := 6) (j := 15) (cd := 3) eX7_readFoes_69 (isF (by decide +kernel)) rfl rfl ?_
        refine ev_il eX7_readFoes_72 rfl ?_
        refine ev_al eX7_readFoes_73 rfl ?_
        refine ev_al eX7_readFoes_74 rfl ?_
        refine ev_getR lk_f (ci := 7) (j := 0) (cd := 3) eX7_readFoes_75 (isF (by decide +kernel)) rfl rfl ?_
        refine ev_getR lk_f (ci := 6) (j := 15) (cd := 3) eX7_readFoes_78 (isF (by decide +kernel)) rfl rfl ?_
        refine ev_il eX7_readFoes_81 rfl ?_
        obtain ⟨hb7, h⟩ := ev_gd h
        refine ev_iald eX7_readFoes_82 rfl rfl hb7.1 hb7.2 ?_
        refine ev_il eX7_readFoes_83 rfl ?_
        obtain ⟨r8, C8, hq8, h⟩ := ev_bd_some h
        refine ev_callS (kc := kc_103) (A := [.inr (.inl 8), .inl ((C4 62 (Int.toNat r2))), .inl r4]) (T := [.inl r2, .inr (.inl 62)]) (lk_m.1 _ _ 1 [103] (isM (by decide +kernel)) 103 (by decide)) eX7_readFoes_84 (m_7_takeOnce_8 hU hq8) rfl rfl (by decide) (by decide) (Nat.le_of_ble_eq_true rfl) ?_
        rintro _ C8 ⟨rfl, rfl⟩
        show ev_W l D cys ty ck_tags ev_TR kc_109 87 [(3, .inl r4), (2, .inl r2), (0, .inr (.inl 7)), (1, .inr (.inl 8))] [.inl r8, .inl r2, .inr (.inl 62)] C8 _
        obtain ⟨hb9, h⟩ := ev_gd h
        refine ev_iast hU eX7_readFoes_87 rfl rfl hb9.1 hb9.2 ?_
        refine ev_al eX7_readFoes_88 rfl ?_
        refine ev_getR lk_f (ci := 7) (j := 0) (cd := 3) eX7_readFoes_89 (isF (by decide +kernel)) rfl rfl ?_
        refine ev_getR lk_f (ci := 6) (j := 15) (cd := 3) eX7_readFoes_92 (isF (by decide +kernel)) rfl rfl ?_
        refine ev_il eX7_readFoes_95 rfl ?_
        refine ev_dup2 eX7_readFoes_96 rfl rfl ?_
        obtain ⟨hb10, h⟩ := ev_gd h
        refine ev_iald eX7_readFoes_97 rfl rfl hb10.1 hb10.2 ?_
        refine ev_ic eX7_readFoes_98 (by decide) ?_
        refine ev_il eX7_readFoes_99 rfl ?_
        refine ev_ishl eX7_readFoes_100 ?_
        refine ev_ior eX7_readFoes_101 ?_
        obtain ⟨hb11, h⟩ := ev_gd h
        refine ev_iast hU eX7_readFoes_102 rfl rfl hb11.1 hb11.2 ?_
        cases h
        exact ev_vret eX7_readFoes_103 rfl ⟨rfl, rfl⟩
      · rw [if_neg (show ¬ (r4 ≠ r2) from hc6)] at h
        refine ev_al eX7_readFoes_59 rfl ?_
        refine ev_ic eX7_readFoes_60 (by decide) ?_
        obtain ⟨C12, hq12, h⟩ := ev_bv_some h
        refine ev_callV (kc := kc_35) (A := [.inl 3]) (T := []) (lk_m.1 _ _ 0 [35] (isM (by decide +kernel)) 35 (by decide)) eX7_readFoes_61 (m_8_fail hU hq12) rfl rfl rfl (by decide) (by decide) (Nat.le_of_ble_eq_true rfl) ?_
        rintro _ C12 ⟨rfl, rfl⟩
        show ev_W l D cys ty ck_tags ev_TR kc_109 64 [(3, .inl r4), (2, .inl r2), (0, .inr (.inl 7)), (1, .inr (.inl 8))] [] C12 _
        cases h
        exact ev_vret eX7_readFoes_64 rfl ⟨rfl, rfl⟩
    · rw [if_neg (show ¬ (r4 ≠ -1) from hc5)] at h
      cases h
      exact ev_vret eX7_readFoes_53 rfl ⟨rfl, rfl⟩
  · rw [if_neg (show ¬ (r2 ≠ -1) from hc3)] at h
    cases h
    exact ev_vret eX7_readFoes_28 rfl ⟨rfl, rfl⟩
theorem eX7_readRest_0 : decode cX7_readRest 0 = .ok (.aload_n 0, 1) := by decide +kernel
theorem eX7_readRest_1 : decode cX7_readRest 1 = .ok (.getfield 12, 3) := by decide +kernel
theorem eX7_readRest_4 : decode cX7_readRest 4 = .ok (.getfield 189, 3) := by decide +kernel
theorem eX7_readRest_7 : decode cX7_readRest 7 = .ok (.ifCond .eq 9, 3) := by decide +kernel
theorem eX7_readRest_10 : decode cX7_readRest 10 = .ok (.aload_n 1, 1) := by decide +kernel
theorem eX7_readRest_11 : decode cX7_readRest 11 = .ok (.iconst 3, 1) := by decide +kernel
theorem eX7_readRest_12 : decode cX7_readRest 12 = .ok (.invokevirtual 79, 3) := by decide +kernel
theorem eX7_readRest_15 : decode cX7_readRest 15 = .ok (.return_, 1) := by decide +kernel
theorem eX7_readRest_16 : decode cX7_readRest 16 = .ok (.aload_n 0, 1) := by decide +kernel
theorem eX7_readRest_17 : decode cX7_readRest 17 = .ok (.getfield 12, 3) := by decide +kernel
theorem eX7_readRest_20 : decode cX7_readRest 20 = .ok (.iconst 1, 1) := by decide +kernel
theorem eX7_readRest_21 : decode cX7_readRest 21 = .ok (.putfield 189, 3) := by decide +kernel
theorem eX7_readRest_24 : decode cX7_readRest 24 = .ok (.aload_n 1, 1) := by decide +kernel
theorem eX7_readRest_25 : decode cX7_readRest 25 = .ok (.invokevirtual 82, 3) := by decide +kernel
theorem eX7_readRest_28 : decode cX7_readRest 28 = .ok (.return_, 1) := by decide +kernel
set_option maxRecDepth 100000 in
theorem m_7_readRest_8 (hU : ev_uq ty ev_TR) {C : ev_C} {C' : ev_C} (h : f_7_readRest_8 C = some C') : ev_Met l D cys ty ck_tags ev_TR kc_116 [.inr (.inl 7), .inr (.inl 8)] C (fun r0 C0 => r0 = none ∧ C0 = C') := by
  unfold f_7_readRest_8 at h
  refine ev_enter (by decide +kernel) (by decide +kernel) (Nat.le_of_ble_eq_true rfl) ?_
  show ev_W l D cys ty ck_tags ev_TR kc_116 0 [(0, .inr (.inl 7)), (1, .inr (.inl 8))] [] C _
  refine ev_al eX7_readRest_0 rfl ?_
  refine ev_getR lk_f (ci := 7) (j := 0) (cd := 3) eX7_readRest_1 (isF (by decide +kernel)) rfl rfl ?_
  refine ev_getI lk_f (ci := 6) (j := 5) (cd := 1) eX7_readRest_4 (isF (by decide +kernel)) rfl rfl rfl ?_
  refine ev_z_eq (tgt := 16) eX7_readRest_7 (by decide) (fun hc1 => ?_) (fun hc1 => ?_)
  · rw [if_pos (show (C 13 5) = 0 from hc1)] at h
    refine ev_al eX7_readRest_16 rfl ?_
    refine ev_getR lk_f (ci := 7) (j := 0) (cd := 3) eX7_readRest_17 (isF (by decide +kernel)) rfl rfl ?_
    refine ev_ic eX7_readRest_20 (by decide) ?_
    refine ev_putI lk_f hU (ci := 6) (j := 5) (cd := 1) eX7_readRest_21 (isF (by decide +kernel)) rfl rfl (Or.inr ⟨rfl, by decide, by decide⟩) rfl ?_
    refine ev_al eX7_readRest_24 rfl ?_
    obtain ⟨C2, hq2, h⟩ := ev_bv_some h
    refine ev_callV (kc := kc_57) (A := []) (T := []) (lk_m.1 _ _ 0 [57] (isM (by decide +kernel)) 57 (by decide)) eX7_readRest_25 (m_8_step hU hq2) rfl rfl rfl (by decide) (by decide) (Nat.le_of_ble_eq_true rfl) ?_
    rintro _ C2 ⟨rfl, rfl⟩
    show ev_W l D cys ty ck_tags ev_TR kc_116 28 [(0, .inr (.inl 7)), (1, .inr (.inl 8))] [] C2 _
    cases h
    exact ev_vret eX7_readRest_28 rfl ⟨rfl, rfl⟩
  · rw [if_neg (show ¬ ((C 13 5) = 0) from hc1)] at h
    refine ev_al eX7_readRest_10 rfl ?_
    refine ev_ic eX7_readRest_11 (by decide) ?_
    obtain ⟨C3, hq3, h⟩ := ev_bv_some h
    refine ev_callV (kc := kc_35) (A := [.inl 3]) (T := []) (lk_m.1 _ _ 0 [35] (isM (by decide +kernel)) 35 (by decide)) eX7_readRest_12 (m_8_fail hU hq3) rfl rfl rfl (by decide) (by decide) (Nat.le_of_ble_eq_true rfl) ?_
    rintro _ C3 ⟨rfl, rfl⟩
    show ev_W l D cys ty ck_tags ev_TR kc_116 15 [(0, .inr (.inl 7)), (1, .inr (.inl 8))] [] C3 _
    cases h
    exact ev_vret eX7_readRest_15 rfl ⟨rfl, rfl⟩
theorem eX7_readLine_0 : decode cX7_readLine 0 = .ok (.aload_n 1, 1) := by decide +kernel
theorem eX7_readLine_1 : decode cX7_readLine 1 = .ok (.invokevirtual 39, 3) := by decide +kernel
theorem eX7_readLine_4 : decode cX7_readLine 4 = .ok (.tableswitch 160 0 11 #[64, 72, 80, 88, 96, 104, 112, 120, 128, 136, 144, 152], 64) := by decide +kernel
theorem eX7_readLine_68 : decode cX7_readLine 68 = .ok (.aload_n 0, 1) := by decide +kernel
theorem eX7_readLine_69 : decode cX7_readLine 69 = .ok (.aload_n 1, 1) := by decide +kernel
theorem eX7_readLine_70 : decode cX7_readLine 70 = .ok (.invokevirtual 43, 3) := by decide +kernel
theorem eX7_readLine_73 : decode cX7_readLine 73 = .ok (.goto 96, 3) := by decide +kernel
theorem eX7_readLine_76 : decode cX7_readLine 76 = .ok (.aload_n 0, 1) := by decide +kernel
theorem eX7_readLine_77 : decode cX7_readLine 77 = .ok (.aload_n 1, 1) := by decide +kernel
theorem eX7_readLine_78 : decode cX7_readLine 78 = .ok (.invokevirtual 46, 3) := by decide +kernel
theorem eX7_readLine_81 : decode cX7_readLine 81 = .ok (.goto 88, 3) := by decide +kernel
theorem eX7_readLine_84 : decode cX7_readLine 84 = .ok (.aload_n 0, 1) := by decide +kernel
theorem eX7_readLine_85 : decode cX7_readLine 85 = .ok (.aload_n 1, 1) := by decide +kernel
theorem eX7_readLine_86 : decode cX7_readLine 86 = .ok (.invokevirtual 49, 3) := by decide +kernel
theorem eX7_readLine_89 : decode cX7_readLine 89 = .ok (.goto 80, 3) := by decide +kernel
theorem eX7_readLine_92 : decode cX7_readLine 92 = .ok (.aload_n 0, 1) := by decide +kernel
theorem eX7_readLine_93 : decode cX7_readLine 93 = .ok (.aload_n 1, 1) := by decide +kernel
theorem eX7_readLine_94 : decode cX7_readLine 94 = .ok (.invokevirtual 52, 3) := by decide +kernel
theorem eX7_readLine_97 : decode cX7_readLine 97 = .ok (.goto 72, 3) := by decide +kernel
theorem eX7_readLine_100 : decode cX7_readLine 100 = .ok (.aload_n 0, 1) := by decide +kernel
theorem eX7_readLine_101 : decode cX7_readLine 101 = .ok (.aload_n 1, 1) := by decide +kernel
theorem eX7_readLine_102 : decode cX7_readLine 102 = .ok (.invokevirtual 55, 3) := by decide +kernel
theorem eX7_readLine_105 : decode cX7_readLine 105 = .ok (.goto 64, 3) := by decide +kernel
theorem eX7_readLine_108 : decode cX7_readLine 108 = .ok (.aload_n 0, 1) := by decide +kernel
theorem eX7_readLine_109 : decode cX7_readLine 109 = .ok (.aload_n 1, 1) := by decide +kernel
theorem eX7_readLine_110 : decode cX7_readLine 110 = .ok (.invokevirtual 58, 3) := by decide +kernel
theorem eX7_readLine_113 : decode cX7_readLine 113 = .ok (.goto 56, 3) := by decide +kernel
theorem eX7_readLine_116 : decode cX7_readLine 116 = .ok (.aload_n 0, 1) := by decide +kernel
theorem eX7_readLine_117 : decode cX7_readLine 117 = .ok (.aload_n 1, 1) := by decide +kernel
theorem eX7_readLine_118 : decode cX7_readLine 118 = .ok (.invokevirtual 61, 3) := by decide +kernel
theorem eX7_readLine_121 : decode cX7_readLine 121 = .ok (.goto 48, 3) := by decide +kernel
theorem eX7_readLine_124 : decode cX7_readLine 124 = .ok (.aload_n 0, 1) := by decide +kernel
theorem eX7_readLine_125 : decode cX7_readLine 125 = .ok (.aload_n 1, 1) := by decide +kernel
theorem eX7_readLine_126 : decode cX7_readLine 126 = .ok (.invokevirtual 64, 3) := by decide +kernel
theorem eX7_readLine_129 : decode cX7_readLine 129 = .ok (.goto 40, 3) := by decide +kernel
theorem eX7_readLine_132 : decode cX7_readLine 132 = .ok (.aload_n 0, 1) := by decide +kernel
theorem eX7_readLine_133 : decode cX7_readLine 133 = .ok (.aload_n 1, 1) := by decide +kernel
theorem eX7_readLine_134 : decode cX7_readLine 134 = .ok (.invokevirtual 67, 3) := by decide +kernel
theorem eX7_readLine_137 : decode cX7_readLine 137 = .ok (.goto 32, 3) := by decide +kernel
theorem eX7_readLine_140 : decode cX7_readLine 140 = .ok (.aload_n 0, 1) := by decide +kernel
theorem eX7_readLine_141 : decode cX7_readLine 141 = .ok (.aload_n 1, 1) := by decide +kernel
theorem eX7_readLine_142 : decode cX7_readLine 142 = .ok (.invokevirtual 70, 3) := by decide +kernel
theorem eX7_readLine_145 : decode cX7_readLine 145 = .ok (.goto 24, 3) := by decide +kernel
theorem eX7_readLine_148 : decode cX7_readLine 148 = .ok (.aload_n 0, 1) := by decide +kernel
theorem eX7_readLine_149 : decode cX7_readLine 149 = .ok (.aload_n 1, 1) := by decide +kernel
theorem eX7_readLine_150 : decode cX7_readLine 150 = .ok (.invokevirtual 73, 3) := by decide +kernel
theorem eX7_readLine_153 : decode cX7_readLine 153 = .ok (.goto 16, 3) := by decide +kernel
theorem eX7_readLine_156 : decode cX7_readLine 156 = .ok (.aload_n 0, 1) := by decide +kernel
theorem eX7_readLine_157 : decode cX7_readLine 157 = .ok (.aload_n 1, 1) := by decide +kernel
theorem eX7_readLine_158 : decode cX7_readLine 158 = .ok (.invokevirtual 76, 3) := by decide +kernel
theorem eX7_readLine_161 : decode cX7_readLine 161 = .ok (.goto 8, 3) := by decide +kernel
theorem eX7_readLine_164 : decode cX7_readLine 164 = .ok (.aload_n 1, 1) := by decide +kernel
theorem eX7_readLine_165 : decode cX7_readLine 165 = .ok (.iconst 1, 1) := by decide +kernel
theorem eX7_readLine_166 : decode cX7_readLine 166 = .ok (.invokevirtual 79, 3) := by decide +kernel
theorem eX7_readLine_169 : decode cX7_readLine 169 = .ok (.return_, 1) := by decide +kernel
set_option maxRecDepth 100000 in
theorem m_7_readLine_8 (hU : ev_uq ty ev_TR) {C : ev_C} {C' : ev_C} (h : f_7_readLine_8 C = some C') : ev_Met l D cys ty ck_tags ev_TR kc_119 [.inr (.inl 7), .inr (.inl 8)] C (fun r0 C0 => r0 = none ∧ C0 = C') := by
  unfold f_7_readLine_8 at h
  refine ev_enter (by decide +kernel) (by decide +kernel) (Nat.le_of_ble_eq_true rfl) ?_
  show ev_W l D cys ty ck_tags ev_TR kc_119 0 [(0, .inr (.inl 7)), (1, .inr (.inl 8))] [] C _
  refine ev_al eX7_readLine_0 rfl ?_
  obtain ⟨r1, C1, hq1, h⟩ := ev_bd_some h
  refine ev_callV (kc := kc_66) (A := []) (T := []) (lk_m.1 _ _ 0 [66] (isM (by decide +kernel)) 66 (by decide)) eX7_readLine_1 (m_8_wordHere hU hq1) rfl rfl rfl (by decide) (by decide) (Nat.le_of_ble_eq_true rfl) ?_
  rintro _ C1 ⟨rfl, rfl⟩
  show ev_W l D cys ty ck_tags ev_TR kc_119 4 [(0, .inr (.inl 7)), (1, .inr (.inl 8))] [.inl r1] C1 _
  by_cases hc2 : r1 = 0
  · rw [if_pos hc2] at h
    refine ev_tin (j := 0) (tgt := 68) eX7_readLine_4 hc2 (by decide) rfl (by decide) ?_
    refine ev_al eX7_readLine_68 rfl ?_
    refine ev_al eX7_readLine_69 rfl ?_
    obtain ⟨C3, hq3, h⟩ := ev_bv_some h
    refine ev_callV (kc := kc_115) (A := [.inr (.inl 8)]) (T := []) (lk_m.1 _ _ 0 [115] (isM (by decide +kernel)) 115 (by decide)) eX7_readLine_70 (m_7_readPart_8 hU hq3) rfl rfl rfl (by decide) (by decide) (Nat.le_of_ble_eq_true rfl) ?_
    rintro _ C3 ⟨rfl, rfl⟩
    show ev_W l D cys ty ck_tags ev_TR kc_119 73 [(0, .inr (.inl 7)), (1, .inr (.inl 8))] [] C3 _
    refine ev_goto (tgt := 169) eX7_readLine_73 (by decide) ?_
    cases h
    exact ev_vret eX7_readLine_169 rfl ⟨rfl, rfl⟩
  rw [if_neg hc2] at h
  by_cases hc4 : r1 = 1
  · rw [if_pos hc4] at h
    refine ev_tin (j := 1) (tgt := 76) eX7_readLine_4 hc4 (by decide) rfl (by decide) ?_
    refine ev_al eX7_readLine_76 rfl ?_
    refine ev_al eX7_readLine_77 rfl ?_
    obtain ⟨C5, hq5, h⟩ := ev_bv_some h
    refine ev_callV (kc := kc_108) (A := [.inr (.inl 8)]) (T := []) (lk_m.1 _ _ 0 [108] (isM (by decide +kernel)) 108 (by decide)) eX7_readLine_78 (m_7_readFact_8 hU hq5) rfl rfl rfl (by decide) (by decide) (Nat.le_of_ble_eq_true rfl) ?_
    rintro _ C5 ⟨rfl, rfl⟩
    show ev_W l D cys ty ck_tags ev_TR kc_119 81 [(0, .inr (.inl 7)), (1, .inr (.inl 8))] [] C5 _
    refine ev_goto (tgt := 169) eX7_readLine_81 (by decide) ?_
    cases h
    exact ev_vret eX7_readLine_169 rfl ⟨rfl, rfl⟩
  rw [if_neg hc4] at h
  by_cases hc6 : r1 = 2
  · rw [if_pos hc6] at h
    refine ev_tin (j := 2) (tgt := 84) eX7_readLine_4 hc6 (by decide) rfl (by decide) ?_
    refine ev_al eX7_readLine_84 rfl ?_
    refine ev_al eX7_readLine_85 rfl ?_
    obtain ⟨C7, hq7, h⟩ := ev_bv_some h
    refine ev_callV (kc := kc_104) (A := [.inr (.inl 8)]) (T := []) (lk_m.1 _ _ 0 [104] (isM (by decide +kernel)) 104 (by decide)) eX7_readLine_86 (m_7_readClears_8 hU hq7) rfl rfl rfl (by decide) (by decide) (Nat.le_of_ble_eq_true rfl) ?_
    rintro _ C7 ⟨rfl, rfl⟩
    show ev_W l D cys ty ck_tags ev_TR kc_119 89 [(0, .inr (.inl 7)), (1, .inr (.inl 8))] [] C7 _
    refine ev_goto (tgt := 169) eX7_readLine_89 (by decide) ?_
    cases h
    exact ev_vret eX7_readLine_169 rfl ⟨rfl, rfl⟩
  rw [if_neg hc6] at h
  by_cases hc8 : r1 = 3
  · rw [if_pos hc8] at h
    refine ev_tin (j := 3) (tgt := 92) eX7_readLine_4 hc8 (by decide) rfl (by decide) ?_
    refine ev_al eX7_readLine_92 rfl ?_
    refine ev_al eX7_readLine_93 rfl ?_
    obtain ⟨C9, hq9, h⟩ := ev_bv_some h
    refine ev_callV (kc := kc_112) (A := [.inr (.inl 8)]) (T := []) (lk_m.1 _ _ 0 [112] (isM (by decide +kernel)) 112 (by decide)) eX7_readLine_94 (m_7_readMan_8 hU hq9) rfl rfl rfl (by decide) (by decide) (Nat.le_of_ble_eq_true rfl) ?_
    rintro _ C9 ⟨rfl, rfl⟩
    show ev_W l D cys ty ck_tags ev_TR kc_119 97 [(0, .inr (.inl 7)), (1, .inr (.inl 8))] [] C9 _
    refine ev_goto (tgt := 169) eX7_readLine_97 (by decide) ?_
    cases h
    exact ev_vret eX7_readLine_169 rfl ⟨rfl, rfl⟩
  rw [if_neg hc8] at h
  by_cases hc10 : r1 = 4
  · rw [if_pos hc10] at h
    refine ev_tin (j := 4) (tgt := 100) eX7_readLine_4 hc10 (by decide) rfl (by decide) ?_
    refine ev_al eX7_readLine_100 rfl ?_
    refine ev_al eX7_readLine_101 rfl ?_
    obtain ⟨C11, hq11, h⟩ := ev_bv_some h
    refine ev_callV (kc := kc_102) (A := [.inr (.inl 8)]) (T := []) (lk_m.1 _ _ 0 [102] (isM (by decide +kernel)) 102 (by decide)) eX7_readLine_102 (m_7_readAct_8 hU hq11) rfl rfl rfl (by decide) (by decide) (Nat.le_of_ble_eq_true rfl) ?_
    rintro _ C11 ⟨rfl, rfl⟩
    show ev_W l D cys ty ck_tags ev_TR kc_119 105 [(0, .inr (.inl 7)), (1, .inr (.inl 8))] [] C11 _
    refine ev_goto (tgt := 169) eX7_readLine_105 (by decide) ?_
    cases h
    exact ev_vret eX7_readLine_169 rfl ⟨rfl, rfl⟩
  rw [if_neg hc10] at h
  by_cases hc12 : r1 = 5
  · rw [if_pos hc12] at h
    refine ev_tin (j := 5) (tgt := 108) eX7_readLine_4 hc12 (by decide) rfl (by decide) ?_
    refine ev_al eX7_readLine_108 rfl ?_
    refine ev_al eX7_readLine_109 rfl ?_
    obtain ⟨C13, hq13, h⟩ := ev_bv_some h
    refine ev_callV (kc := kc_117) (A := [.inr (.inl 8)]) (T := []) (lk_m.1 _ _ 0 [117] (isM (by decide +kernel)) 117 (by decide)) eX7_readLine_110 (m_7_readScene_8 hU hq13) rfl rfl rfl (by decide) (by decide) (Nat.le_of_ble_eq_true rfl) ?_
    rintro _ C13 ⟨rfl, rfl⟩
    show ev_W l D cys ty ck_tags ev_TR kc_119 113 [(0, .inr (.inl 7)), (1, .inr (.inl 8))] [] C13 _
    refine ev_goto (tgt := 169) eX7_readLine_113 (by decide) ?_
    cases h
    exact ev_vret eX7_readLine_169 rfl ⟨rfl, rfl⟩
  rw [if_neg hc12] at h
  by_cases hc14 : r1 = 6
  · rw [if_pos hc14] at h
    refine ev_tin (j := 6) (tgt := 116) eX7_readLine_4 hc14 (by decide) rfl (by decide) ?_
    refine ev_al eX7_readLine_116 rfl ?_
    refine ev_al eX7_readLine_117 rfl ?_
    obtain ⟨C15, hq15, h⟩ := ev_bv_some h
    refine ev_callV (kc := kc_118) (A := [.inr (.inl 8)]) (T := []) (lk_m.1 _ _ 0 [118] (isM (by decide +kernel)) 118 (by decide)) eX7_readLine_118 (m_7_readShows_8 hU hq15) rfl rfl rfl (by decide) (by decide) (Nat.le_of_ble_eq_true rfl) ?_
    rintro _ C15 ⟨rfl, rfl⟩
    show ev_W l D cys ty ck_tags ev_TR kc_119 121 [(0, .inr (.inl 7)), (1, .inr (.inl 8))] [] C15 _
    refine ev_goto (tgt := 169) eX7_readLine_121 (by decide) ?_
    cases h
    exact ev_vret eX7_readLine_169 rfl ⟨rfl, rfl⟩
  rw [if_neg hc14] at h
  by_cases hc16 : r1 = 7
  · rw [if_pos hc16] at h
    refine ev_tin (j := 7) (tgt := 124) eX7_readLine_4 hc16 (by decide) rfl (by decide) ?_
    refine ev_al eX7_readLine_124 rfl ?_
    refine ev_al eX7_readLine_125 rfl ?_
    obtain ⟨C17, hq17, h⟩ := ev_bv_some h
    refine ev_callV (kc := kc_113) (A := [.inr (.inl 8)]) (T := []) (lk_m.1 _ _ 0 [113] (isM (by decide +kernel)) 113 (by decide)) eX7_readLine_126 (m_7_readNeeds_8 hU hq17) rfl rfl rfl (by decide) (by decide) (Nat.le_of_ble_eq_true rfl) ?_
    rintro _ C17 ⟨rfl, rfl⟩
    show ev_W l D cys ty ck_tags ev_TR kc_119 129 [(0, .inr (.inl 7)), (1, .inr (.inl 8))] [] C17 _
    refine ev_goto (tgt := 169) eX7_readLine_129 (by decide) ?_
    cases h
    exact ev_vret eX7_readLine_169 rfl ⟨rfl, rfl⟩
  rw [if_neg hc16] at h
  by_cases hc18 : r1 = 8
  · rw [if_pos hc18] at h
    refine ev_tin (j := 8) (tgt := 132) eX7_readLine_4 hc18 (by decide) rfl (by decide) ?_
    refine ev_al eX7_readLine_132 rfl ?_
    refine ev_al eX7_readLine_133 rfl ?_
    obtain ⟨C19, hq19, h⟩ := ev_bv_some h
    refine ev_callV (kc := kc_111) (A := [.inr (.inl 8)]) (T := []) (lk_m.1 _ _ 0 [111] (isM (by decide +kernel)) 111 (by decide)) eX7_readLine_134 (m_7_readLikes_8 hU hq19) rfl rfl rfl (by decide) (by decide) (Nat.le_of_ble_eq_true rfl) ?_
    rintro _ C19 ⟨rfl, rfl⟩
    show ev_W l D cys ty ck_tags ev_TR kc_119 137 [(0, .inr (.inl 7)), (1, .inr (.inl 8))] [] C19 _
    refine ev_goto (tgt := 169) eX7_readLine_137 (by decide) ?_
    cases h
    exact ev_vret eX7_readLine_169 rfl ⟨rfl, rfl⟩
  rw [if_neg hc18] at h
  by_cases hc20 : r1 = 9
  · rw [if_pos hc20] at h
    refine ev_tin (j := 9) (tgt := 140) eX7_readLine_4 hc20 (by decide) rfl (by decide) ?_
    refine ev_al eX7_readLine_140 rfl ?_
    refine ev_al eX7_readLine_141 rfl ?_
    obtain ⟨C21, hq21, h⟩ := ev_bv_some h
    refine ev_callV (kc := kc_114) (A := [.inr (.inl 8)]) (T := []) (lk_m.1 _ _ 0 [114] (isM (by decide +kernel)) 114 (by decide)) eX7_readLine_142 (m_7_readNever_8 hU hq21) rfl rfl rfl (by decide) (by decide) (Nat.le_of_ble_eq_true rfl) ?_
    rintro _ C21 ⟨rfl, rfl⟩
    show ev_W l D cys ty ck_tags ev_TR kc_119 145 [(0, .inr (.inl 7)), (1, .inr (.inl 8))] [] C21 _
    refine ev_goto (tgt := 169) eX7_readLine_145 (by decide) ?_
    cases h
    exact ev_vret eX7_readLine_169 rfl ⟨rfl, rfl⟩
  rw [if_neg hc20] at h
  by_cases hc22 : r1 = 10
  · rw [if_pos hc22] at h
    refine ev_tin (j := 10) (tgt := 148) eX7_readLine_4 hc22 (by decide) rfl (by decide) ?_
    refine ev_al eX7_readLine_148 rfl ?_
    refine ev_al eX7_readLine_149 rfl ?_
    obtain ⟨C23, hq23, h⟩ := ev_bv_some h
    refine ev_callV (kc := kc_109) (A := [.inr (.inl 8)]) (T := []) (lk_m.1 _ _ 0 [109] (isM (by decide +kernel)) 109 (by decide)) eX7_readLine_150 (m_7_readFoes_8 hU hq23) rfl rfl rfl (by decide) (by decide) (Nat.le_of_ble_eq_true rfl) ?_
    rintro _ C23 ⟨rfl, rfl⟩
    show ev_W l D cys ty ck_tags ev_TR kc_119 153 [(0, .inr (.inl 7)), (1, .inr (.inl 8))] [] C23 _
    refine ev_goto (tgt := 169) eX7_readLine_153 (by decide) ?_
    cases h
    exact ev_vret eX7_readLine_169 rfl ⟨rfl, rfl⟩
  rw [if_neg hc22] at h
  by_cases hc24 : r1 = 11
  · rw [if_pos hc24] at h
    refine ev_tin (j := 11) (tgt := 156) eX7_readLine_4 hc24 (by decide) rfl (by decide) ?_
    refine ev_al eX7_readLine_156 rfl ?_
    refine ev_al eX7_readLine_157 rfl ?_
    obtain ⟨C25, hq25, h⟩ := ev_bv_some h
    refine ev_callV (kc := kc_116) (A := [.inr (.inl 8)]) (T := []) (lk_m.1 _ _ 0 [116] (isM (by decide +kernel)) 116 (by decide)) eX7_readLine_158 (m_7_readRest_8 hU hq25) rfl rfl rfl (by decide) (by decide) (Nat.le_of_ble_eq_true rfl) ?_
    rintro _ C25 ⟨rfl, rfl⟩
    show ev_W l D cys ty ck_tags ev_TR kc_119 161 [(0, .inr (.inl 7)), (1, .inr (.inl 8))] [] C25 _
    refine ev_goto (tgt := 169) eX7_readLine_161 (by decide) ?_
    cases h
    exact ev_vret eX7_readLine_169 rfl ⟨rfl, rfl⟩
  rw [if_neg hc24] at h
  refine ev_tout (tgt := 164) eX7_readLine_4 (by omega) (by decide) ?_
  refine ev_al eX7_readLine_164 rfl ?_
  refine ev_ic eX7_readLine_165 (by decide) ?_
  obtain ⟨C26, hq26, h⟩ := ev_bv_some h
  refine ev_callV (kc := kc_35) (A := [.inl 1]) (T := []) (lk_m.1 _ _ 0 [35] (isM (by decide +kernel)) 35 (by decide)) eX7_readLine_166 (m_8_fail hU hq26) rfl rfl rfl (by decide) (by decide) (Nat.le_of_ble_eq_true rfl) ?_
  rintro _ C26 ⟨rfl, rfl⟩
  show ev_W l D cys ty ck_tags ev_TR kc_119 169 [(0, .inr (.inl 7)), (1, .inr (.inl 8))] [] C26 _
  cases h
  exact ev_vret eX7_readLine_169 rfl ⟨rfl, rfl⟩
theorem eX8_takeSign_0 : decode cX8_takeSign 0 = .ok (.aload_n 0, 1) := by decide +kernel
theorem eX8_takeSign_1 : decode cX8_takeSign 1 = .ok (.iload_n 1, 1) := by decide +kernel
theorem eX8_takeSign_2 : decode cX8_takeSign 2 = .ok (.invokevirtual 114, 3) := by decide +kernel
theorem eX8_takeSign_5 : decode cX8_takeSign 5 = .ok (.ifCond .eq 10, 3) := by decide +kernel
theorem eX8_takeSign_8 : decode cX8_takeSign 8 = .ok (.aload_n 0, 1) := by decide +kernel
theorem eX8_takeSign_9 : decode cX8_takeSign 9 = .ok (.invokevirtual 73, 3) := by decide +kernel
theorem eX8_takeSign_12 : decode cX8_takeSign 12 = .ok (.goto 8, 3) := by decide +kernel
theorem eX8_takeSign_15 : decode cX8_takeSign 15 = .ok (.aload_n 0, 1) := by decide +kernel
theorem eX8_takeSign_16 : decode cX8_takeSign 16 = .ok (.iconst 1, 1) := by decide +kernel
theorem eX8_takeSign_17 : decode cX8_takeSign 17 = .ok (.invokevirtual 106, 3) := by decide +kernel
theorem eX8_takeSign_20 : decode cX8_takeSign 20 = .ok (.return_, 1) := by decide +kernel
set_option maxRecDepth 100000 in
theorem m_8_takeSign (hU : ev_uq ty ev_TR) {C : ev_C} {x1 : Int} {C' : ev_C} (h : f_8_takeSign C x1 = some C') : ev_Met l D cys ty ck_tags ev_TR kc_68 [.inr (.inl 8), .inl x1] C (fun r0 C0 => r0 = none ∧ C0 = C') := by
  unfold f_8_takeSign at h
  refine ev_enter (by decide +kernel) (by decide +kernel) (Nat.le_of_ble_eq_true rfl) ?_
  show ev_W l D cys ty ck_tags ev_TR kc_68 0 [(0, .inr (.inl 8)), (1, .inl x1)] [] C _
  refine ev_al eX8_takeSign_0 rfl ?_
  refine ev_il eX8_takeSign_1 rfl ?_
  obtain ⟨r1, C1, hq1, h⟩ := ev_bd_some h
  refine ev_callV (kc := kc_67) (A := [.inl x1]) (T := []) (lk_m.1 _ _ 0 [67] (isM (by decide +kernel)) 67 (by decide)) eX8_takeSign_2 (m_8_isAtSign hU hq1) rfl rfl rfl (by decide) (by decide) (Nat.le_of_ble_eq_true rfl) ?_
  rintro _ C1 ⟨rfl, rfl⟩
  show ev_W l D cys ty ck_tags ev_TR kc_68 5 [(0, .inr (.inl 8)), (1, .inl x1)] [.inl r1] C1 _
  refine ev_z_eq (tgt := 15) eX8_takeSign_5 (by decide) (fun hc2 => ?_) (fun hc2 => ?_)
  · rw [if_pos (show r1 = 0 from hc2)] at h
    refine ev_al eX8_takeSign_15 rfl ?_
    refine ev_ic eX8_takeSign_16 (by decide) ?_
    obtain ⟨C3, hq3, h⟩ := ev_bv_some h
    refine ev_callV (kc := kc_35) (A := [.inl 1]) (T := []) (lk_m.1 _ _ 0 [35] (isM (by decide +kernel)) 35 (by decide)) eX8_takeSign_17 (m_8_fail hU hq3) rfl rfl rfl (by decide) (by decide) (Nat.le_of_ble_eq_true rfl) ?_
    rintro _ C3 ⟨rfl, rfl⟩
    show ev_W l D cys ty ck_tags ev_TR kc_68 20 [(0, .inr (.inl 8)), (1, .inl x1)] [] C3 _
    cases h
    exact ev_vret eX8_takeSign_20 rfl ⟨rfl, rfl⟩
  · rw [if_neg (show ¬ (r1 = 0) from hc2)] at h
    refine ev_al eX8_takeSign_8 rfl ?_
    obtain ⟨C4, hq4, h⟩ := ev_bv_some h
    refine ev_callV (kc := kc_57) (A := []) (T := []) (lk_m.1 _ _ 0 [57] (isM (by decide +kernel)) 57 (by decide)) eX8_takeSign_9 (m_8_step hU hq4) rfl rfl rfl (by decide) (by decide) (Nat.le_of_ble_eq_true rfl) ?_
    rintro _ C4 ⟨rfl, rfl⟩
    show ev_W l D cys ty ck_tags ev_TR kc_68 12 [(0, .inr (.inl 8)), (1, .inl x1)] [] C4 _
    refine ev_goto (tgt := 20) eX8_takeSign_12 (by decide) ?_
    cases h
    exact ev_vret eX8_takeSign_20 rfl ⟨rfl, rfl⟩
theorem eX7_read_0 : decode cX7_read 0 = .ok (.aload_n 0, 1) := by decide +kernel
theorem eX7_read_1 : decode cX7_read 1 = .ok (.getfield 12, 3) := by decide +kernel
theorem eX7_read_4 : decode cX7_read 4 = .ok (.invokevirtual 18, 3) := by decide +kernel
theorem eX7_read_7 : decode cX7_read 7 = .ok (.iconst 0, 1) := by decide +kernel
theorem eX7_read_8 : decode cX7_read 8 = .ok (.istore_n 2, 1) := by decide +kernel
theorem eX7_read_9 : decode cX7_read 9 = .ok (.iconst 0, 1) := by decide +kernel
theorem eX7_read_10 : decode cX7_read 10 = .ok (.istore_n 3, 1) := by decide +kernel
theorem eX7_read_11 : decode cX7_read 11 = .ok (.iload_n 3, 1) := by decide +kernel
theorem eX7_read_12 : decode cX7_read 12 = .ok (.sipush 900, 3) := by decide +kernel
theorem eX7_read_15 : decode cX7_read 15 = .ok (.if_icmp .gt 46, 3) := by decide +kernel
theorem eX7_read_18 : decode cX7_read 18 = .ok (.aload_n 1, 1) := by decide +kernel
theorem eX7_read_19 : decode cX7_read 19 = .ok (.getfield 21, 3) := by decide +kernel
theorem eX7_read_22 : decode cX7_read 22 = .ok (.ifCond .eq 39, 3) := by decide +kernel
theorem eX7_read_25 : decode cX7_read 25 = .ok (.aload_n 0, 1) := by decide +kernel
theorem eX7_read_26 : decode cX7_read 26 = .ok (.aload_n 1, 1) := by decide +kernel
theorem eX7_read_27 : decode cX7_read 27 = .ok (.invokevirtual 27, 3) := by decide +kernel
theorem eX7_read_30 : decode cX7_read 30 = .ok (.aload_n 1, 1) := by decide +kernel
theorem eX7_read_31 : decode cX7_read 31 = .ok (.invokevirtual 31, 3) := by decide +kernel
theorem eX7_read_34 : decode cX7_read 34 = .ok (.ifCond .eq 9, 3) := by decide +kernel
theorem eX7_read_37 : decode cX7_read 37 = .ok (.aload_n 1, 1) := by decide +kernel
theorem eX7_read_38 : decode cX7_read 38 = .ok (.bipush 59, 2) := by decide +kernel
theorem eX7_read_40 : decode cX7_read 40 = .ok (.invokevirtual 35, 3) := by decide +kernel
theorem eX7_read_43 : decode cX7_read 43 = .ok (.aload_n 1, 1) := by decide +kernel
theorem eX7_read_44 : decode cX7_read 44 = .ok (.invokevirtual 31, 3) := by decide +kernel
theorem eX7_read_47 : decode cX7_read 47 = .ok (.ifCond .ne 5, 3) := by decide +kernel
theorem eX7_read_50 : decode cX7_read 50 = .ok (.iload_n 2, 1) := by decide +kernel
theorem eX7_read_51 : decode cX7_read 51 = .ok (.ireturn, 1) := by decide +kernel
theorem eX7_read_52 : decode cX7_read 52 = .ok (.iinc 2 1, 3) := by decide +kernel
theorem eX7_read_55 : decode cX7_read 55 = .ok (.iinc 3 1, 3) := by decide +kernel
theorem eX7_read_58 : decode cX7_read 58 = .ok (.goto (-47), 3) := by decide +kernel
theorem eX7_read_61 : decode cX7_read 61 = .ok (.iload_n 2, 1) := by decide +kernel
theorem eX7_read_62 : decode cX7_read 62 = .ok (.ireturn, 1) := by decide +kernel
set_option maxRecDepth 100000 in
theorem m_7_read_8_J43 (hU : ev_uq ty ev_TR) {r : Int} {C' : ev_C} {K11 : ev_C → Int → Int → Option (Int × ev_C)} (hK11 : ∀ {C : ev_C} {y2 y3 : Int}, K11 C y2 y3 = some (r, C') → ev_W l D cys ty ck_tags ev_TR kc_295 11 [(0, .inr (.inl 7)), (1, .inr (.inl 8)), (2, .inl y2), (3, .inl y3)] [] C (fun r0 C0 => r0 = some (.inl r) ∧ C0 = C')) {C : ev_C} {y2 y3 : Int} (h : f_7_read_8_J43 K11 C y2 y3 = some (r, C')) : ev_W l D cys ty ck_tags ev_TR kc_295 43 [(0, .inr (.inl 7)), (1, .inr (.inl 8)), (2, .inl y2), (3, .inl y3)] [] C (fun r0 C0 => r0 = some (.inl r) ∧ C0 = C') := by
  unfold f_7_read_8_J43 at h
  refine ev_al eX7_read_43 rfl ?_
  obtain ⟨r7, C7, hq7, h⟩ := ev_bd_some h
  refine ev_callV (kc := kc_36) (A := []) (T := []) (lk_m.1 _ _ 0 [36] (isM (by decide +kernel)) 36 (by decide)) eX7_read_44 (m_8_isFine hU hq7) rfl rfl rfl (by decide) (by decide) (Nat.le_of_ble_eq_true rfl) ?_
  rintro _ C7 ⟨rfl, rfl⟩
  show ev_W l D cys ty ck_tags ev_TR kc_295 47 [(0, .inr (.inl 7)), (1, .inr (.inl 8)), (2, .inl y2), (3, .inl y3)] [.inl r7] C7 _
  refine ev_z_ne (tgt := 52) eX7_read_47 (by decide) (fun hc8 => ?_) (fun hc8 => ?_)
  · rw [if_pos (show r7 ≠ 0 from hc8)] at h
    refine ev_inc (L' := [(2, .inl (ev_w (y2 + 1))), (0, .inr (.inl 7)), (1, .inr (.inl 8)), (3, .inl y3)]) eX7_read_52 (by decide) (by decide) rfl rfl ?_
    refine ev_inc (L' := [(3, .inl (ev_w (y3 + 1))), (2, .inl (ev_w (y2 + 1))), (0, .inr (.inl 7)), (1, .inr (.inl 8))]) eX7_read_55 (by decide) (by decide) rfl rfl ?_
    refine ev_goto (tgt := 11) eX7_read_58 (by decide) ?_
    refine ev_loc (L' := [(0, .inr (.inl 7)), (1, .inr (.inl 8)), (2, .inl (ev_w (y2 + 1))), (3, .inl (ev_w (y3 + 1)))]) rfl ?_
    exact hK11 h
  · rw [if_neg (show ¬ (r7 ≠ 0) from hc8)] at h
    refine ev_il eX7_read_50 rfl ?_
    cases h
    exact ev_iret eX7_read_51 rfl ⟨rfl, rfl⟩
set_option maxRecDepth 100000 in
theorem m_7_read_8_L11 (hU : ev_uq ty ev_TR) : ∀ (n : Nat) {C : ev_C} {y2 y3 : Int} {r : Int} {C' : ev_C}, f_7_read_8_L11 n C y2 y3 = some (r, C') → ev_W l D cys ty ck_tags ev_TR kc_295 11 [(0, .inr (.inl 7)), (1, .inr (.inl 8)), (2, .inl y2), (3, .inl y3)] [] C (fun r0 C0 => r0 = some (.inl r) ∧ C0 = C')
  | 0, _, _, _, _, _, h => by cases h
  | n + 1, C, y2, y3, _, _, h => by
    unfold f_7_read_8_L11 at h
    refine ev_il eX7_read_11 rfl ?_
    refine ev_sp eX7_read_12 (by decide) (by decide) ?_
    refine ev_c_gt (tgt := 61) eX7_read_15 (by decide) (fun hc2 => ?_) (fun hc2 => ?_)
    · rw [if_pos (show 900 < y3 from hc2)] at h
      refine ev_il eX7_read_61 rfl ?_
      cases h
      exact ev_iret eX7_read_62 rfl ⟨rfl, rfl⟩
    · rw [if_neg (show ¬ (900 < y3) from hc2)] at h
      refine ev_al eX7_read_18 rfl ?_
      refine ev_getI lk_f (ci := 8) (j := 4) (cd := 0) eX7_read_19 (isF (by decide +kernel)) rfl rfl rfl ?_
      refine ev_z_eq (tgt := 61) eX7_read_22 (by decide) (fun hc3 => ?_) (fun hc3 => ?_)
      · rw [if_pos (show (C 8 4) = 0 from hc3)] at h
        refine ev_il eX7_read_61 rfl ?_
        cases h
        exact ev_iret eX7_read_62 rfl ⟨rfl, rfl⟩
      · rw [if_neg (show ¬ ((C 8 4) = 0) from hc3)] at h
        refine ev_al eX7_read_25 rfl ?_
        refine ev_al eX7_read_26 rfl ?_
        obtain ⟨C4, hq4, h⟩ := ev_bv_some h
        refine ev_callV (kc := kc_119) (A := [.inr (.inl 8)]) (T := []) (lk_m.1 _ _ 0 [119] (isM (by decide +kernel)) 119 (by decide)) eX7_read_27 (m_7_readLine_8 hU hq4) rfl rfl rfl (by decide) (by decide) (Nat.le_of_ble_eq_true rfl) ?_
        rintro _ C4 ⟨rfl, rfl⟩
        show ev_W l D cys ty ck_tags ev_TR kc_295 30 [(0, .inr (.inl 7)), (1, .inr (.inl 8)), (2, .inl y2), (3, .inl y3)] [] C4 _
        refine ev_al eX7_read_30 rfl ?_
        obtain ⟨r5, C5, hq5, h⟩ := ev_bd_some h
        refine ev_callV (kc := kc_36) (A := []) (T := []) (lk_m.1 _ _ 0 [36] (isM (by decide +kernel)) 36 (by decide)) eX7_read_31 (m_8_isFine hU hq5) rfl rfl rfl (by decide) (by decide) (Nat.le_of_ble_eq_true rfl) ?_
        rintro _ C5 ⟨rfl, rfl⟩
        show ev_W l D cys ty ck_tags ev_TR kc_295 34 [(0, .inr (.inl 7)), (1, .inr (.inl 8)), (2, .inl y2), (3, .inl y3)] [.inl r5] C5 _
        refine ev_z_eq (tgt := 43) eX7_read_34 (by decide) (fun hc6 => ?_) (fun hc6 => ?_)
        · rw [if_pos (show r5 = 0 from hc6)] at h
          refine ev_loc (L' := [(0, .inr (.inl 7)), (1, .inr (.inl 8)), (2, .inl y2), (3, .inl y3)]) rfl ?_
          exact m_7_read_8_J43 hU (fun h => m_7_read_8_L11 hU n h) h
        · rw [if_neg (show ¬ (r5 = 0) from hc6)] at h
          refine ev_al eX7_read_37 rfl ?_
          refine ev_bp eX7_read_38 (by decide) (by decide) ?_
          obtain ⟨C9, hq9, h⟩ := ev_bv_some h
          refine ev_callV (kc := kc_68) (A := [.inl 59]) (T := []) (lk_m.1 _ _ 0 [68] (isM (by decide +kernel)) 68 (by decide)) eX7_read_40 (m_8_takeSign hU hq9) rfl rfl rfl (by decide) (by decide) (Nat.le_of_ble_eq_true rfl) ?_
          rintro _ C9 ⟨rfl, rfl⟩
          show ev_W l D cys ty ck_tags ev_TR kc_295 43 [(0, .inr (.inl 7)), (1, .inr (.inl 8)), (2, .inl y2), (3, .inl y3)] [] C9 _
          refine ev_loc (L' := [(0, .inr (.inl 7)), (1, .inr (.inl 8)), (2, .inl y2), (3, .inl y3)]) rfl ?_
          exact m_7_read_8_J43 hU (fun h => m_7_read_8_L11 hU n h) h
set_option maxRecDepth 100000 in
theorem m_7_read_8 (hU : ev_uq ty ev_TR) {C : ev_C} {r : Int} {C' : ev_C} (h : f_7_read_8 C = some (r, C')) : ev_Met l D cys ty ck_tags ev_TR kc_295 [.inr (.inl 7), .inr (.inl 8)] C (fun r0 C0 => r0 = some (.inl r) ∧ C0 = C') := by
  unfold f_7_read_8 at h
  refine ev_enter (by decide +kernel) (by decide +kernel) (Nat.le_of_ble_eq_true rfl) ?_
  show ev_W l D cys ty ck_tags ev_TR kc_295 0 [(0, .inr (.inl 7)), (1, .inr (.inl 8))] [] C _
  refine ev_al eX7_read_0 rfl ?_
  refine ev_getR lk_f (ci := 7) (j := 0) (cd := 3) eX7_read_1 (isF (by decide +kernel)) rfl rfl ?_
  obtain ⟨C1, hq1, h⟩ := ev_bv_some h
  refine ev_callV (kc := kc_294) (A := []) (T := []) (lk_m.1 _ _ 0 [294] (isM (by decide +kernel)) 294 (by decide)) eX7_read_4 (m_6_clear_13 hU hq1) rfl rfl rfl (by decide) (by decide) (Nat.le_of_ble_eq_true rfl) ?_
  rintro _ C1 ⟨rfl, rfl⟩
  show ev_W l D cys ty ck_tags ev_TR kc_295 7 [(0, .inr (.inl 7)), (1, .inr (.inl 8))] [] C1 _
  refine ev_ic eX7_read_7 (by decide) ?_
  refine ev_is (L' := [(2, .inl 0), (0, .inr (.inl 7)), (1, .inr (.inl 8))]) eX7_read_8 (by decide) rfl ?_
  refine ev_ic eX7_read_9 (by decide) ?_
  refine ev_is (L' := [(3, .inl 0), (2, .inl 0), (0, .inr (.inl 7)), (1, .inr (.inl 8))]) eX7_read_10 (by decide) rfl ?_
  refine ev_loc (L' := [(0, .inr (.inl 7)), (1, .inr (.inl 8)), (2, .inl 0), (3, .inl 0)]) rfl ?_
  exact m_7_read_8_L11 hU 1000 h
theorem eX6_copyFrom_0 : decode cX6_copyFrom 0 = .ok (.aload_n 0, 1) := by decide +kernel
theorem eX6_copyFrom_1 : decode cX6_copyFrom 1 = .ok (.aload_n 1, 1) := by decide +kernel
theorem eX6_copyFrom_2 : decode cX6_copyFrom 2 = .ok (.getfield 9, 3) := by decide +kernel
theorem eX6_copyFrom_5 : decode cX6_copyFrom 5 = .ok (.putfield 9, 3) := by decide +kernel
theorem eX6_copyFrom_8 : decode cX6_copyFrom 8 = .ok (.aload_n 0, 1) := by decide +kernel
theorem eX6_copyFrom_9 : decode cX6_copyFrom 9 = .ok (.aload_n 1, 1) := by decide +kernel
theorem eX6_copyFrom_10 : decode cX6_copyFrom 10 = .ok (.getfield 15, 3) := by decide +kernel
theorem eX6_copyFrom_13 : decode cX6_copyFrom 13 = .ok (.putfield 15, 3) := by decide +kernel
theorem eX6_copyFrom_16 : decode cX6_copyFrom 16 = .ok (.aload_n 0, 1) := by decide +kernel
theorem eX6_copyFrom_17 : decode cX6_copyFrom 17 = .ok (.aload_n 1, 1) := by decide +kernel
theorem eX6_copyFrom_18 : decode cX6_copyFrom 18 = .ok (.getfield 18, 3) := by decide +kernel
theorem eX6_copyFrom_21 : decode cX6_copyFrom 21 = .ok (.putfield 18, 3) := by decide +kernel
theorem eX6_copyFrom_24 : decode cX6_copyFrom 24 = .ok (.aload_n 0, 1) := by decide +kernel
theorem eX6_copyFrom_25 : decode cX6_copyFrom 25 = .ok (.aload_n 1, 1) := by decide +kernel
theorem eX6_copyFrom_26 : decode cX6_copyFrom 26 = .ok (.getfield 21, 3) := by decide +kernel
theorem eX6_copyFrom_29 : decode cX6_copyFrom 29 = .ok (.putfield 21, 3) := by decide +kernel
theorem eX6_copyFrom_32 : decode cX6_copyFrom 32 = .ok (.aload_n 0, 1) := by decide +kernel
theorem eX6_copyFrom_33 : decode cX6_copyFrom 33 = .ok (.aload_n 1, 1) := by decide +kernel
theorem eX6_copyFrom_34 : decode cX6_copyFrom 34 = .ok (.getfield 24, 3) := by decide +kernel
theorem eX6_copyFrom_37 : decode cX6_copyFrom 37 = .ok (.putfield 24, 3) := by decide +kernel
theorem eX6_copyFrom_40 : decode cX6_copyFrom 40 = .ok (.aload_n 0, 1) := by decide +kernel
theorem eX6_copyFrom_41 : decode cX6_copyFrom 41 = .ok (.aload_n 1, 1) := by decide +kernel
theorem eX6_copyFrom_42 : decode cX6_copyFrom 42 = .ok (.getfield 27, 3) := by decide +kernel
theorem eX6_copyFrom_45 : decode cX6_copyFrom 45 = .ok (.putfield 27, 3) := by decide +kernel
theorem eX6_copyFrom_48 : decode cX6_copyFrom 48 = .ok (.aload_n 1, 1) := by decide +kernel
theorem eX6_copyFrom_49 : decode cX6_copyFrom 49 = .ok (.getfield 31, 3) := by decide +kernel
theorem eX6_copyFrom_52 : decode cX6_copyFrom 52 = .ok (.iconst 0, 1) := by decide +kernel
theorem eX6_copyFrom_53 : decode cX6_copyFrom 53 = .ok (.aload_n 0, 1) := by decide +kernel
theorem eX6_copyFrom_54 : decode cX6_copyFrom 54 = .ok (.getfield 31, 3) := by decide +kernel
theorem eX6_copyFrom_57 : decode cX6_copyFrom 57 = .ok (.iconst 0, 1) := by decide +kernel
theorem eX6_copyFrom_58 : decode cX6_copyFrom 58 = .ok (.bipush 6, 2) := by decide +kernel
theorem eX6_copyFrom_60 : decode cX6_copyFrom 60 = .ok (.invokestatic 81, 3) := by decide +kernel
theorem eX6_copyFrom_63 : decode cX6_copyFrom 63 = .ok (.aload_n 1, 1) := by decide +kernel
theorem eX6_copyFrom_64 : decode cX6_copyFrom 64 = .ok (.getfield 35, 3) := by decide +kernel
theorem eX6_copyFrom_67 : decode cX6_copyFrom 67 = .ok (.iconst 0, 1) := by decide +kernel
theorem eX6_copyFrom_68 : decode cX6_copyFrom 68 = .ok (.aload_n 0, 1) := by decide +kernel
theorem eX6_copyFrom_69 : decode cX6_copyFrom 69 = .ok (.getfield 35, 3) := by decide +kernel
theorem eX6_copyFrom_72 : decode cX6_copyFrom 72 = .ok (.iconst 0, 1) := by decide +kernel
theorem eX6_copyFrom_73 : decode cX6_copyFrom 73 = .ok (.bipush 6, 2) := by decide +kernel
theorem eX6_copyFrom_75 : decode cX6_copyFrom 75 = .ok (.invokestatic 81, 3) := by decide +kernel
theorem eX6_copyFrom_78 : decode cX6_copyFrom 78 = .ok (.aload_n 1, 1) := by decide +kernel
theorem eX6_copyFrom_79 : decode cX6_copyFrom 79 = .ok (.getfield 38, 3) := by decide +kernel
theorem eX6_copyFrom_82 : decode cX6_copyFrom 82 = .ok (.iconst 0, 1) := by decide +kernel
theorem eX6_copyFrom_83 : decode cX6_copyFrom 83 = .ok (.aload_n 0, 1) := by decide +kernel
theorem eX6_copyFrom_84 : decode cX6_copyFrom 84 = .ok (.getfield 38, 3) := by decide +kernel
theorem eX6_copyFrom_87 : decode cX6_copyFrom 87 = .ok (.iconst 0, 1) := by decide +kernel
theorem eX6_copyFrom_88 : decode cX6_copyFrom 88 = .ok (.bipush 8, 2) := by decide +kernel
theorem eX6_copyFrom_90 : decode cX6_copyFrom 90 = .ok (.invokestatic 81, 3) := by decide +kernel
theorem eX6_copyFrom_93 : decode cX6_copyFrom 93 = .ok (.aload_n 1, 1) := by decide +kernel
theorem eX6_copyFrom_94 : decode cX6_copyFrom 94 = .ok (.getfield 41, 3) := by decide +kernel
theorem eX6_copyFrom_97 : decode cX6_copyFrom 97 = .ok (.iconst 0, 1) := by decide +kernel
theorem eX6_copyFrom_98 : decode cX6_copyFrom 98 = .ok (.aload_n 0, 1) := by decide +kernel
theorem eX6_copyFrom_99 : decode cX6_copyFrom 99 = .ok (.getfield 41, 3) := by decide +kernel
theorem eX6_copyFrom_102 : decode cX6_copyFrom 102 = .ok (.iconst 0, 1) := by decide +kernel
theorem eX6_copyFrom_103 : decode cX6_copyFrom 103 = .ok (.bipush 6, 2) := by decide +kernel
theorem eX6_copyFrom_105 : decode cX6_copyFrom 105 = .ok (.invokestatic 81, 3) := by decide +kernel
theorem eX6_copyFrom_108 : decode cX6_copyFrom 108 = .ok (.aload_n 1, 1) := by decide +kernel
theorem eX6_copyFrom_109 : decode cX6_copyFrom 109 = .ok (.getfield 45, 3) := by decide +kernel
theorem eX6_copyFrom_112 : decode cX6_copyFrom 112 = .ok (.iconst 0, 1) := by decide +kernel
theorem eX6_copyFrom_113 : decode cX6_copyFrom 113 = .ok (.aload_n 0, 1) := by decide +kernel
theorem eX6_copyFrom_114 : decode cX6_copyFrom 114 = .ok (.getfield 45, 3) := by decide +kernel
theorem eX6_copyFrom_117 : decode cX6_copyFrom 117 = .ok (.iconst 0, 1) := by decide +kernel
theorem eX6_copyFrom_118 : decode cX6_copyFrom 118 = .ok (.bipush 6, 2) := by decide +kernel
theorem eX6_copyFrom_120 : decode cX6_copyFrom 120 = .ok (.invokestatic 81, 3) := by decide +kernel
theorem eX6_copyFrom_123 : decode cX6_copyFrom 123 = .ok (.aload_n 1, 1) := by decide +kernel
theorem eX6_copyFrom_124 : decode cX6_copyFrom 124 = .ok (.getfield 48, 3) := by decide +kernel
theorem eX6_copyFrom_127 : decode cX6_copyFrom 127 = .ok (.iconst 0, 1) := by decide +kernel
theorem eX6_copyFrom_128 : decode cX6_copyFrom 128 = .ok (.aload_n 0, 1) := by decide +kernel
theorem eX6_copyFrom_129 : decode cX6_copyFrom 129 = .ok (.getfield 48, 3) := by decide +kernel
theorem eX6_copyFrom_132 : decode cX6_copyFrom 132 = .ok (.iconst 0, 1) := by decide +kernel
theorem eX6_copyFrom_133 : decode cX6_copyFrom 133 = .ok (.bipush 6, 2) := by decide +kernel
theorem eX6_copyFrom_135 : decode cX6_copyFrom 135 = .ok (.invokestatic 81, 3) := by decide +kernel
theorem eX6_copyFrom_138 : decode cX6_copyFrom 138 = .ok (.aload_n 1, 1) := by decide +kernel
theorem eX6_copyFrom_139 : decode cX6_copyFrom 139 = .ok (.getfield 51, 3) := by decide +kernel
theorem eX6_copyFrom_142 : decode cX6_copyFrom 142 = .ok (.iconst 0, 1) := by decide +kernel
theorem eX6_copyFrom_143 : decode cX6_copyFrom 143 = .ok (.aload_n 0, 1) := by decide +kernel
theorem eX6_copyFrom_144 : decode cX6_copyFrom 144 = .ok (.getfield 51, 3) := by decide +kernel
theorem eX6_copyFrom_147 : decode cX6_copyFrom 147 = .ok (.iconst 0, 1) := by decide +kernel
theorem eX6_copyFrom_148 : decode cX6_copyFrom 148 = .ok (.bipush 8, 2) := by decide +kernel
theorem eX6_copyFrom_150 : decode cX6_copyFrom 150 = .ok (.invokestatic 81, 3) := by decide +kernel
theorem eX6_copyFrom_153 : decode cX6_copyFrom 153 = .ok (.aload_n 1, 1) := by decide +kernel
theorem eX6_copyFrom_154 : decode cX6_copyFrom 154 = .ok (.getfield 54, 3) := by decide +kernel
theorem eX6_copyFrom_157 : decode cX6_copyFrom 157 = .ok (.iconst 0, 1) := by decide +kernel
theorem eX6_copyFrom_158 : decode cX6_copyFrom 158 = .ok (.aload_n 0, 1) := by decide +kernel
theorem eX6_copyFrom_159 : decode cX6_copyFrom 159 = .ok (.getfield 54, 3) := by decide +kernel
theorem eX6_copyFrom_162 : decode cX6_copyFrom 162 = .ok (.iconst 0, 1) := by decide +kernel
theorem eX6_copyFrom_163 : decode cX6_copyFrom 163 = .ok (.bipush 8, 2) := by decide +kernel
theorem eX6_copyFrom_165 : decode cX6_copyFrom 165 = .ok (.invokestatic 81, 3) := by decide +kernel
theorem eX6_copyFrom_168 : decode cX6_copyFrom 168 = .ok (.aload_n 1, 1) := by decide +kernel
theorem eX6_copyFrom_169 : decode cX6_copyFrom 169 = .ok (.getfield 57, 3) := by decide +kernel
theorem eX6_copyFrom_172 : decode cX6_copyFrom 172 = .ok (.iconst 0, 1) := by decide +kernel
theorem eX6_copyFrom_173 : decode cX6_copyFrom 173 = .ok (.aload_n 0, 1) := by decide +kernel
theorem eX6_copyFrom_174 : decode cX6_copyFrom 174 = .ok (.getfield 57, 3) := by decide +kernel
theorem eX6_copyFrom_177 : decode cX6_copyFrom 177 = .ok (.iconst 0, 1) := by decide +kernel
theorem eX6_copyFrom_178 : decode cX6_copyFrom 178 = .ok (.bipush 8, 2) := by decide +kernel
theorem eX6_copyFrom_180 : decode cX6_copyFrom 180 = .ok (.invokestatic 81, 3) := by decide +kernel
theorem eX6_copyFrom_183 : decode cX6_copyFrom 183 = .ok (.aload_n 1, 1) := by decide +kernel
theorem eX6_copyFrom_184 : decode cX6_copyFrom 184 = .ok (.getfield 60, 3) := by decide +kernel
theorem eX6_copyFrom_187 : decode cX6_copyFrom 187 = .ok (.iconst 0, 1) := by decide +kernel
theorem eX6_copyFrom_188 : decode cX6_copyFrom 188 = .ok (.aload_n 0, 1) := by decide +kernel
theorem eX6_copyFrom_189 : decode cX6_copyFrom 189 = .ok (.getfield 60, 3) := by decide +kernel
theorem eX6_copyFrom_192 : decode cX6_copyFrom 192 = .ok (.iconst 0, 1) := by decide +kernel
theorem eX6_copyFrom_193 : decode cX6_copyFrom 193 = .ok (.bipush 8, 2) := by decide +kernel
theorem eX6_copyFrom_195 : decode cX6_copyFrom 195 = .ok (.invokestatic 81, 3) := by decide +kernel
theorem eX6_copyFrom_198 : decode cX6_copyFrom 198 = .ok (.aload_n 1, 1) := by decide +kernel
theorem eX6_copyFrom_199 : decode cX6_copyFrom 199 = .ok (.getfield 63, 3) := by decide +kernel
theorem eX6_copyFrom_202 : decode cX6_copyFrom 202 = .ok (.iconst 0, 1) := by decide +kernel
theorem eX6_copyFrom_203 : decode cX6_copyFrom 203 = .ok (.aload_n 0, 1) := by decide +kernel
theorem eX6_copyFrom_204 : decode cX6_copyFrom 204 = .ok (.getfield 63, 3) := by decide +kernel
theorem eX6_copyFrom_207 : decode cX6_copyFrom 207 = .ok (.iconst 0, 1) := by decide +kernel
theorem eX6_copyFrom_208 : decode cX6_copyFrom 208 = .ok (.bipush 48, 2) := by decide +kernel
theorem eX6_copyFrom_210 : decode cX6_copyFrom 210 = .ok (.invokestatic 81, 3) := by decide +kernel
theorem eX6_copyFrom_213 : decode cX6_copyFrom 213 = .ok (.aload_n 1, 1) := by decide +kernel
theorem eX6_copyFrom_214 : decode cX6_copyFrom 214 = .ok (.getfield 66, 3) := by decide +kernel
theorem eX6_copyFrom_217 : decode cX6_copyFrom 217 = .ok (.iconst 0, 1) := by decide +kernel
theorem eX6_copyFrom_218 : decode cX6_copyFrom 218 = .ok (.aload_n 0, 1) := by decide +kernel
theorem eX6_copyFrom_219 : decode cX6_copyFrom 219 = .ok (.getfield 66, 3) := by decide +kernel
theorem eX6_copyFrom_222 : decode cX6_copyFrom 222 = .ok (.iconst 0, 1) := by decide +kernel
theorem eX6_copyFrom_223 : decode cX6_copyFrom 223 = .ok (.bipush 12, 2) := by decide +kernel
theorem eX6_copyFrom_225 : decode cX6_copyFrom 225 = .ok (.invokestatic 81, 3) := by decide +kernel
theorem eX6_copyFrom_228 : decode cX6_copyFrom 228 = .ok (.aload_n 1, 1) := by decide +kernel
theorem eX6_copyFrom_229 : decode cX6_copyFrom 229 = .ok (.getfield 69, 3) := by decide +kernel
theorem eX6_copyFrom_232 : decode cX6_copyFrom 232 = .ok (.iconst 0, 1) := by decide +kernel
theorem eX6_copyFrom_233 : decode cX6_copyFrom 233 = .ok (.aload_n 0, 1) := by decide +kernel
theorem eX6_copyFrom_234 : decode cX6_copyFrom 234 = .ok (.getfield 69, 3) := by decide +kernel
theorem eX6_copyFrom_237 : decode cX6_copyFrom 237 = .ok (.iconst 0, 1) := by decide +kernel
theorem eX6_copyFrom_238 : decode cX6_copyFrom 238 = .ok (.bipush 12, 2) := by decide +kernel
theorem eX6_copyFrom_240 : decode cX6_copyFrom 240 = .ok (.invokestatic 81, 3) := by decide +kernel
theorem eX6_copyFrom_243 : decode cX6_copyFrom 243 = .ok (.aload_n 1, 1) := by decide +kernel
theorem eX6_copyFrom_244 : decode cX6_copyFrom 244 = .ok (.getfield 72, 3) := by decide +kernel
theorem eX6_copyFrom_247 : decode cX6_copyFrom 247 = .ok (.iconst 0, 1) := by decide +kernel
theorem eX6_copyFrom_248 : decode cX6_copyFrom 248 = .ok (.aload_n 0, 1) := by decide +kernel
theorem eX6_copyFrom_249 : decode cX6_copyFrom 249 = .ok (.getfield 72, 3) := by decide +kernel
theorem eX6_copyFrom_252 : decode cX6_copyFrom 252 = .ok (.iconst 0, 1) := by decide +kernel
theorem eX6_copyFrom_253 : decode cX6_copyFrom 253 = .ok (.bipush 12, 2) := by decide +kernel
theorem eX6_copyFrom_255 : decode cX6_copyFrom 255 = .ok (.invokestatic 81, 3) := by decide +kernel
theorem eX6_copyFrom_258 : decode cX6_copyFrom 258 = .ok (.return_, 1) := by decide +kernel
set_option maxRecDepth 100000 in
theorem m_6_copyFrom_13 (hU : ev_uq ty ev_TR) {C : ev_C} {C' : ev_C} (h : f_6_copyFrom_13 C = some C') : ev_Met l D cys ty ck_tags ev_TR kh_6_copyFrom_pt [.inr (.inl 6), .inr (.inl 13)] C (fun r0 C0 => r0 = none ∧ C0 = C') := by
  unfold f_6_copyFrom_13 at h
  refine ev_enter (by decide +kernel) (by decide +kernel) (Nat.le_of_ble_eq_true rfl) ?_
  show ev_W l D cys ty ck_tags ev_TR kh_6_copyFrom_pt 0 [(0, .inr (.inl 6)), (1, .inr (.inl 13))] [] C _
  refine ev_al eX6_copyFrom_0 rfl ?_
  refine ev_al eX6_copyFrom_1 rfl ?_
  refine ev_getI lk_f (ci := 6) (j := 0) (cd := 0) eX6_copyFrom_2 (isF (by decide +kernel)) rfl rfl rfl ?_
  refine ev_putI lk_f hU (ci := 6) (j := 0) (cd := 0) eX6_copyFrom_5 (isF (by decide +kernel)) rfl rfl (Or.inl rfl) rfl ?_
  refine ev_al eX6_copyFrom_8 rfl ?_
  refine ev_al eX6_copyFrom_9 rfl ?_
  refine ev_getI lk_f (ci := 6) (j := 1) (cd := 0) eX6_copyFrom_10 (isF (by decide +kernel)) rfl rfl rfl ?_
  refine ev_putI lk_f hU (ci := 6) (j := 1) (cd := 0) eX6_copyFrom_13 (isF (by decide +kernel)) rfl rfl (Or.inl rfl) rfl ?_
  refine ev_al eX6_copyFrom_16 rfl ?_
  refine ev_al eX6_copyFrom_17 rfl ?_
  refine ev_getI lk_f (ci := 6) (j := 2) (cd := 0) eX6_copyFrom_18 (isF (by decide +kernel)) rfl rfl rfl ?_
  refine ev_putI lk_f hU (ci := 6) (j := 2) (cd := 0) eX6_copyFrom_21 (isF (by decide +kernel)) rfl rfl (Or.inl rfl) rfl ?_
  refine ev_al eX6_copyFrom_24 rfl ?_
  refine ev_al eX6_copyFrom_25 rfl ?_
  refine ev_getI lk_f (ci := 6) (j := 3) (cd := 0) eX6_copyFrom_26 (isF (by decide +kernel)) rfl rfl rfl ?_
  refine ev_putI lk_f hU (ci := 6) (j := 3) (cd := 0) eX6_copyFrom_29 (isF (by decide +kernel)) rfl rfl (Or.inl rfl) rfl ?_
  refine ev_al eX6_copyFrom_32 rfl ?_
  refine ev_al eX6_copyFrom_33 rfl ?_
  refine ev_getI lk_f (ci := 6) (j := 4) (cd := 0) eX6_copyFrom_34 (isF (by decide +kernel)) rfl rfl rfl ?_
  refine ev_putI lk_f hU (ci := 6) (j := 4) (cd := 0) eX6_copyFrom_37 (isF (by decide +kernel)) rfl rfl (Or.inl rfl) rfl ?_
  refine ev_al eX6_copyFrom_40 rfl ?_
  refine ev_al eX6_copyFrom_41 rfl ?_
  refine ev_getI lk_f (ci := 6) (j := 5) (cd := 1) eX6_copyFrom_42 (isF (by decide +kernel)) rfl rfl rfl ?_
  obtain ⟨hb1, h⟩ := ev_gd h
  refine ev_putI lk_f hU (ci := 6) (j := 5) (cd := 1) eX6_copyFrom_45 (isF (by decide +kernel)) rfl rfl (Or.inr ⟨rfl, hb1⟩) rfl ?_
  refine ev_al eX6_copyFrom_48 rfl ?_
  refine ev_getR lk_f (ci := 6) (j := 6) (cd := 3) eX6_copyFrom_49 (isF (by decide +kernel)) rfl rfl ?_
  refine ev_ic eX6_copyFrom_52 (by decide) ?_
  refine ev_al eX6_copyFrom_53 rfl ?_
  refine ev_getR lk_f (ci := 6) (j := 6) (cd := 3) eX6_copyFrom_54 (isF (by decide +kernel)) rfl rfl ?_
  refine ev_ic eX6_copyFrom_57 (by decide) ?_
  refine ev_bp eX6_copyFrom_58 (by decide) (by decide) ?_
  refine ev_copyl hU lk_m eX6_copyFrom_60 (u := ()) (isC (by decide +kernel)) rfl rfl rfl rfl (by decide) (Nat.le_of_ble_eq_true rfl) ?_
  refine ev_al eX6_copyFrom_63 rfl ?_
  refine ev_getR lk_f (ci := 6) (j := 7) (cd := 3) eX6_copyFrom_64 (isF (by decide +kernel)) rfl rfl ?_
  refine ev_ic eX6_copyFrom_67 (by decide) ?_
  refine ev_al eX6_copyFrom_68 rfl ?_
  refine ev_getR lk_f (ci := 6) (j := 7) (cd := 3) eX6_copyFrom_69 (isF (by decide +kernel)) rfl rfl ?_
  refine ev_ic eX6_copyFrom_72 (by decide) ?_
  refine ev_bp eX6_copyFrom_73 (by decide) (by decide) ?_
  refine ev_copyl hU lk_m eX6_copyFrom_75 (u := ()) (isC (by decide +kernel)) rfl rfl rfl rfl (by decide) (Nat.le_of_ble_eq_true rfl) ?_
  refine ev_al eX6_copyFrom_78 rfl ?_
  refine ev_getR lk_f (ci := 6) (j := 8) (cd := 3) eX6_copyFrom_79 (isF (by decide +kernel)) rfl rfl ?_
  refine ev_ic eX6_copyFrom_82 (by decide) ?_
  refine ev_al eX6_copyFrom_83 rfl ?_
  refine ev_getR lk_f (ci := 6) (j := 8) (cd := 3) eX6_copyFrom_84 (isF (by decide +kernel)) rfl rfl ?_
  refine ev_ic eX6_copyFrom_87 (by decide) ?_
  refine ev_bp eX6_copyFrom_88 (by decide) (by decide) ?_
  refine ev_copyl hU lk_m eX6_copyFrom_90 (u := ()) (isC (by decide +kernel)) rfl rfl rfl rfl (by decide) (Nat.le_of_ble_eq_true rfl) ?_
  refine ev_al eX6_copyFrom_93 rfl ?_
  refine ev_getR lk_f (ci := 6) (j := 9) (cd := 3) eX6_copyFrom_94 (isF (by decide +kernel)) rfl rfl ?_
  refine ev_ic eX6_copyFrom_97 (by decide) ?_
  refine ev_al eX6_copyFrom_98 rfl ?_
  refine ev_getR lk_f (ci := 6) (j := 9) (cd := 3) eX6_copyFrom_99 (isF (by decide +kernel)) rfl rfl ?_
  refine ev_ic eX6_copyFrom_102 (by decide) ?_
  refine ev_bp eX6_copyFrom_103 (by decide) (by decide) ?_
  refine ev_copyi hU lk_m eX6_copyFrom_105 (u := ()) (isC (by decide +kernel)) rfl rfl rfl rfl (by decide) (Nat.le_of_ble_eq_true rfl) ?_
  refine ev_al eX6_copyFrom_108 rfl ?_
  refine ev_getR lk_f (ci := 6) (j := 10) (cd := 3) eX6_copyFrom_109 (isF (by decide +kernel)) rfl rfl ?_
  refine ev_ic eX6_copyFrom_112 (by decide) ?_
  refine ev_al eX6_copyFrom_113 rfl ?_
  refine ev_getR lk_f (ci := 6) (j := 10) (cd := 3) eX6_copyFrom_114 (isF (by decide +kernel)) rfl rfl ?_
  refine ev_ic eX6_copyFrom_117 (by decide) ?_
  refine ev_bp eX6_copyFrom_118 (by decide) (by decide) ?_
  refine ev_copyi hU lk_m eX6_copyFrom_120 (u := ()) (isC (by decide +kernel)) rfl rfl rfl rfl (by decide) (Nat.le_of_ble_eq_true rfl) ?_
  refine ev_al eX6_copyFrom_123 rfl ?_
  refine ev_getR lk_f (ci := 6) (j := 11) (cd := 3) eX6_copyFrom_124 (isF (by decide +kernel)) rfl rfl ?_
  refine ev_ic eX6_copyFrom_127 (by decide) ?_
  refine ev_al eX6_copyFrom_128 rfl ?_
  refine ev_getR lk_f (ci := 6) (j := 11) (cd := 3) eX6_copyFrom_129 (isF (by decide +kernel)) rfl rfl ?_
  refine ev_ic eX6_copyFrom_132 (by decide) ?_
  refine ev_bp eX6_copyFrom_133 (by decide) (by decide) ?_
  refine ev_copyi hU lk_m eX6_copyFrom_135 (u := ()) (isC (by decide +kernel)) rfl rfl rfl rfl (by decide) (Nat.le_of_ble_eq_true rfl) ?_
  refine ev_al eX6_copyFrom_138 rfl ?_
  refine ev_getR lk_f (ci := 6) (j := 12) (cd := 3) eX6_copyFrom_139 (isF (by decide +kernel)) rfl rfl ?_
  refine ev_ic eX6_copyFrom_142 (by decide) ?_
  refine ev_al eX6_copyFrom_143 rfl ?_
  refine ev_getR lk_f (ci := 6) (j := 12) (cd := 3) eX6_copyFrom_144 (isF (by decide +kernel)) rfl rfl ?_
  refine ev_ic eX6_copyFrom_147 (by decide) ?_
  refine ev_bp eX6_copyFrom_148 (by decide) (by decide) ?_
  refine ev_copyi hU lk_m eX6_copyFrom_150 (u := ()) (isC (by decide +kernel)) rfl rfl rfl rfl (by decide) (Nat.le_of_ble_eq_true rfl) ?_
  refine ev_al eX6_copyFrom_153 rfl ?_
  refine ev_getR lk_f (ci := 6) (j := 13) (cd := 3) eX6_copyFrom_154 (isF (by decide +kernel)) rfl rfl ?_
  refine ev_ic eX6_copyFrom_157 (by decide) ?_
  refine ev_al eX6_copyFrom_158 rfl ?_
  refine ev_getR lk_f (ci := 6) (j := 13) (cd := 3) eX6_copyFrom_159 (isF (by decide +kernel)) rfl rfl ?_
  refine ev_ic eX6_copyFrom_162 (by decide) ?_
  refine ev_bp eX6_copyFrom_163 (by decide) (by decide) ?_
  refine ev_copyi hU lk_m eX6_copyFrom_165 (u := ()) (isC (by decide +kernel)) rfl rfl rfl rfl (by decide) (Nat.le_of_ble_eq_true rfl) ?_
  refine ev_al eX6_copyFrom_168 rfl ?_
  refine ev_getR lk_f (ci := 6) (j := 14) (cd := 3) eX6_copyFrom_169 (isF (by decide +kernel)) rfl rfl ?_
  refine ev_ic eX6_copyFrom_172 (by decide) ?_
  refine ev_al eX6_copyFrom_173 rfl ?_
  refine ev_getR lk_f (ci := 6) (j := 14) (cd := 3) eX6_copyFrom_174 (isF (by decide +kernel)) rfl rfl ?_
  refine ev_ic eX6_copyFrom_177 (by decide) ?_
  refine ev_bp eX6_copyFrom_178 (by decide) (by decide) ?_
  refine ev_copyi hU lk_m eX6_copyFrom_180 (u := ()) (isC (by decide +kernel)) rfl rfl rfl rfl (by decide) (Nat.le_of_ble_eq_true rfl) ?_
  refine ev_al eX6_copyFrom_183 rfl ?_
  refine ev_getR lk_f (ci := 6) (j := 15) (cd := 3) eX6_copyFrom_184 (isF (by decide +kernel)) rfl rfl ?_
  refine ev_ic eX6_copyFrom_187 (by decide) ?_
  refine ev_al eX6_copyFrom_188 rfl ?_
  refine ev_getR lk_f (ci := 6) (j := 15) (cd := 3) eX6_copyFrom_189 (isF (by decide +kernel)) rfl rfl ?_
  refine ev_ic eX6_copyFrom_192 (by decide) ?_
  refine ev_bp eX6_copyFrom_193 (by decide) (by decide) ?_
  refine ev_copyi hU lk_m eX6_copyFrom_195 (u := ()) (isC (by decide +kernel)) rfl rfl rfl rfl (by decide) (Nat.le_of_ble_eq_true rfl) ?_
  refine ev_al eX6_copyFrom_198 rfl ?_
  refine ev_getR lk_f (ci := 6) (j := 16) (cd := 3) eX6_copyFrom_199 (isF (by decide +kernel)) rfl rfl ?_
  refine ev_ic eX6_copyFrom_202 (by decide) ?_
  refine ev_al eX6_copyFrom_203 rfl ?_
  refine ev_getR lk_f (ci := 6) (j := 16) (cd := 3) eX6_copyFrom_204 (isF (by decide +kernel)) rfl rfl ?_
  refine ev_ic eX6_copyFrom_207 (by decide) ?_
  refine ev_bp eX6_copyFrom_208 (by decide) (by decide) ?_
  refine ev_copyi hU lk_m eX6_copyFrom_210 (u := ()) (isC (by decide +kernel)) rfl rfl rfl rfl (by decide) (Nat.le_of_ble_eq_true rfl) ?_
  refine ev_al eX6_copyFrom_213 rfl ?_
  refine ev_getR lk_f (ci := 6) (j := 17) (cd := 3) eX6_copyFrom_214 (isF (by decide +kernel)) rfl rfl ?_
  refine ev_ic eX6_copyFrom_217 (by decide) ?_
  refine ev_al eX6_copyFrom_218 rfl ?_
  refine ev_getR lk_f (ci := 6) (j := 17) (cd := 3) eX6_copyFrom_219 (isF (by decide +kernel)) rfl rfl ?_
  refine ev_ic eX6_copyFrom_222 (by decide) ?_
  refine ev_bp eX6_copyFrom_223 (by decide) (by decide) ?_
  refine ev_copyi hU lk_m eX6_copyFrom_225 (u := ()) (isC (by decide +kernel)) rfl rfl rfl rfl (by decide) (Nat.le_of_ble_eq_true rfl) ?_
  refine ev_al eX6_copyFrom_228 rfl ?_
  refine ev_getR lk_f (ci := 6) (j := 18) (cd := 3) eX6_copyFrom_229 (isF (by decide +kernel)) rfl rfl ?_
  refine ev_ic eX6_copyFrom_232 (by decide) ?_
  refine ev_al eX6_copyFrom_233 rfl ?_
  refine ev_getR lk_f (ci := 6) (j := 18) (cd := 3) eX6_copyFrom_234 (isF (by decide +kernel)) rfl rfl ?_
  refine ev_ic eX6_copyFrom_237 (by decide) ?_
  refine ev_bp eX6_copyFrom_238 (by decide) (by decide) ?_
  refine ev_copyi hU lk_m eX6_copyFrom_240 (u := ()) (isC (by decide +kernel)) rfl rfl rfl rfl (by decide) (Nat.le_of_ble_eq_true rfl) ?_
  refine ev_al eX6_copyFrom_243 rfl ?_
  refine ev_getR lk_f (ci := 6) (j := 19) (cd := 3) eX6_copyFrom_244 (isF (by decide +kernel)) rfl rfl ?_
  refine ev_ic eX6_copyFrom_247 (by decide) ?_
  refine ev_al eX6_copyFrom_248 rfl ?_
  refine ev_getR lk_f (ci := 6) (j := 19) (cd := 3) eX6_copyFrom_249 (isF (by decide +kernel)) rfl rfl ?_
  refine ev_ic eX6_copyFrom_252 (by decide) ?_
  refine ev_bp eX6_copyFrom_253 (by decide) (by decide) ?_
  refine ev_copyi hU lk_m eX6_copyFrom_255 (u := ()) (isC (by decide +kernel)) rfl rfl rfl rfl (by decide) (Nat.le_of_ble_eq_true rfl) ?_
  cases h
  exact ev_vret eX6_copyFrom_258 rfl ⟨rfl, rfl⟩
set_option maxRecDepth 100000 in
theorem m_15_fill_26_L5 (hU : ev_uq ty ev_TR) : ∀ (n : Nat) {C : ev_C} {y1 y2 y3 : Int} {C' : ev_C}, f_15_fill_26_L5 n C y1 y2 y3 = some C' → ev_W l D cys ty ck_tags ev_TR kc_280 5 [(0, .inr (.inl 26)), (1, .inl y1), (2, .inl y2), (3, .inl y3)] [] C (fun r0 C0 => r0 = none ∧ C0 = C')
  | 0, _, _, _, _, _, h => by cases h
  | n + 1, C, y1, y2, y3, _, h => by
    unfold f_15_fill_26_L5 at h
    refine ev_il eJ7_fill_53178_5 rfl ?_
    refine ev_il eJ7_fill_53178_6 rfl ?_
    refine ev_c_ge (tgt := 20) eJ7_fill_53178_7 (by decide) (fun hc1 => ?_) (fun hc1 => ?_)
    · rw [if_pos (show y3 ≤ y2 from hc1)] at h
      cases h
      exact ev_vret eJ7_fill_53178_20 rfl ⟨rfl, rfl⟩
    · rw [if_neg (show ¬ (y3 ≤ y2) from hc1)] at h
      refine ev_al eJ7_fill_53178_10 rfl ?_
      refine ev_il eJ7_fill_53178_11 rfl ?_
      refine ev_il eJ7_fill_53178_12 rfl ?_
      obtain ⟨hb2, h⟩ := ev_gd h
      refine ev_iastU hU eJ7_fill_53178_13 rfl rfl hb2.1 hb2.2 ?_
      refine ev_inc (L' := [(2, .inl (ev_w (y2 + 1))), (0, .inr (.inl 26)), (1, .inl y1), (3, .inl y3)]) eJ7_fill_53178_14 (by decide) (by decide) rfl rfl ?_
      refine ev_goto (tgt := 5) eJ7_fill_53178_17 (by decide) ?_
      refine ev_loc (L' := [(0, .inr (.inl 26)), (1, .inl y1), (2, .inl (ev_w (y2 + 1))), (3, .inl y3)]) rfl ?_
      exact m_15_fill_26_L5 hU n h
set_option maxRecDepth 100000 in
theorem m_15_fill_26 (hU : ev_uq ty ev_TR) {C : ev_C} {x1 : Int} {C' : ev_C} (h : f_15_fill_26 C x1 = some C') : ev_Met l D cys ty ck_tags ev_TR kc_280 [.inr (.inl 26), .inl x1] C (fun r0 C0 => r0 = none ∧ C0 = C') := by
  unfold f_15_fill_26 at h
  refine ev_enter (by decide +kernel) (by decide +kernel) (Nat.le_of_ble_eq_true rfl) ?_
  show ev_W l D cys ty ck_tags ev_TR kc_280 0 [(0, .inr (.inl 26)), (1, .inl x1)] [] C _
  refine ev_ic eJ7_fill_53178_0 (by decide) ?_
  refine ev_is (L' := [(2, .inl 0), (0, .inr (.inl 26)), (1, .inl x1)]) eJ7_fill_53178_1 (by decide) rfl ?_
  refine ev_al eJ7_fill_53178_2 rfl ?_
  refine ev_alen (v := 6) eJ7_fill_53178_3 rfl (by decide) rfl ?_
  refine ev_is (L' := [(3, .inl 6), (2, .inl 0), (0, .inr (.inl 26)), (1, .inl x1)]) eJ7_fill_53178_4 (by decide) rfl ?_
  refine ev_loc (L' := [(0, .inr (.inl 26)), (1, .inl x1), (2, .inl 0), (3, .inl 6)]) rfl ?_
  exact m_15_fill_26_L5 hU 1000 h
set_option maxRecDepth 100000 in
theorem m_15_fill_21_L5 (hU : ev_uq ty ev_TR) : ∀ (n : Nat) {C : ev_C} {y1 y2 y3 : Int} {C' : ev_C}, f_15_fill_21_L5 n C y1 y2 y3 = some C' → ev_W l D cys ty ck_tags ev_TR kc_282 5 [(0, .inr (.inl 21)), (1, .inl y1), (2, .inl y2), (3, .inl y3)] [] C (fun r0 C0 => r0 = none ∧ C0 = C')
  | 0, _, _, _, _, _, h => by cases h
  | n + 1, C, y1, y2, y3, _, h => by
    unfold f_15_fill_21_L5 at h
    refine ev_il eJ7_fill_53178_5 rfl ?_
    refine ev_il eJ7_fill_53178_6 rfl ?_
    refine ev_c_ge (tgt := 20) eJ7_fill_53178_7 (by decide) (fun hc1 => ?_) (fun hc1 => ?_)
    · rw [if_pos (show y3 ≤ y2 from hc1)] at h
      cases h
      exact ev_vret eJ7_fill_53178_20 rfl ⟨rfl, rfl⟩
    · rw [if_neg (show ¬ (y3 ≤ y2) from hc1)] at h
      refine ev_al eJ7_fill_53178_10 rfl ?_
      refine ev_il eJ7_fill_53178_11 rfl ?_
      refine ev_il eJ7_fill_53178_12 rfl ?_
      obtain ⟨hb2, h⟩ := ev_gd h
      refine ev_iastU hU eJ7_fill_53178_13 rfl rfl hb2.1 hb2.2 ?_
      refine ev_inc (L' := [(2, .inl (ev_w (y2 + 1))), (0, .inr (.inl 21)), (1, .inl y1), (3, .inl y3)]) eJ7_fill_53178_14 (by decide) (by decide) rfl rfl ?_
      refine ev_goto (tgt := 5) eJ7_fill_53178_17 (by decide) ?_
      refine ev_loc (L' := [(0, .inr (.inl 21)), (1, .inl y1), (2, .inl (ev_w (y2 + 1))), (3, .inl y3)]) rfl ?_
      exact m_15_fill_21_L5 hU n h
set_option maxRecDepth 100000 in
theorem m_15_fill_21 (hU : ev_uq ty ev_TR) {C : ev_C} {x1 : Int} {C' : ev_C} (h : f_15_fill_21 C x1 = some C') : ev_Met l D cys ty ck_tags ev_TR kc_282 [.inr (.inl 21), .inl x1] C (fun r0 C0 => r0 = none ∧ C0 = C') := by
  unfold f_15_fill_21 at h
  refine ev_enter (by decide +kernel) (by decide +kernel) (Nat.le_of_ble_eq_true rfl) ?_
  show ev_W l D cys ty ck_tags ev_TR kc_282 0 [(0, .inr (.inl 21)), (1, .inl x1)] [] C _
  refine ev_ic eJ7_fill_53178_0 (by decide) ?_
  refine ev_is (L' := [(2, .inl 0), (0, .inr (.inl 21)), (1, .inl x1)]) eJ7_fill_53178_1 (by decide) rfl ?_
  refine ev_al eJ7_fill_53178_2 rfl ?_
  refine ev_alen (v := 8) eJ7_fill_53178_3 rfl (by decide) rfl ?_
  refine ev_is (L' := [(3, .inl 8), (2, .inl 0), (0, .inr (.inl 21)), (1, .inl x1)]) eJ7_fill_53178_4 (by decide) rfl ?_
  refine ev_loc (L' := [(0, .inr (.inl 21)), (1, .inl x1), (2, .inl 0), (3, .inl 8)]) rfl ?_
  exact m_15_fill_21_L5 hU 1000 h
theorem eX2_begin_0 : decode cX2_begin 0 = .ok (.aload_n 0, 1) := by decide +kernel
theorem eX2_begin_1 : decode cX2_begin 1 = .ok (.iconst 0, 1) := by decide +kernel
theorem eX2_begin_2 : decode cX2_begin 2 = .ok (.putfield 9, 3) := by decide +kernel
theorem eX2_begin_5 : decode cX2_begin 5 = .ok (.aload_n 0, 1) := by decide +kernel
theorem eX2_begin_6 : decode cX2_begin 6 = .ok (.iconst 0, 1) := by decide +kernel
theorem eX2_begin_7 : decode cX2_begin 7 = .ok (.putfield 15, 3) := by decide +kernel
theorem eX2_begin_10 : decode cX2_begin 10 = .ok (.aload_n 0, 1) := by decide +kernel
theorem eX2_begin_11 : decode cX2_begin 11 = .ok (.iconst 0, 1) := by decide +kernel
theorem eX2_begin_12 : decode cX2_begin 12 = .ok (.putfield 18, 3) := by decide +kernel
theorem eX2_begin_15 : decode cX2_begin 15 = .ok (.aload_n 0, 1) := by decide +kernel
theorem eX2_begin_16 : decode cX2_begin 16 = .ok (.iconst 0, 1) := by decide +kernel
theorem eX2_begin_17 : decode cX2_begin 17 = .ok (.putfield 21, 3) := by decide +kernel
theorem eX2_begin_20 : decode cX2_begin 20 = .ok (.aload_n 0, 1) := by decide +kernel
theorem eX2_begin_21 : decode cX2_begin 21 = .ok (.iconst 0, 1) := by decide +kernel
theorem eX2_begin_22 : decode cX2_begin 22 = .ok (.putfield 24, 3) := by decide +kernel
theorem eX2_begin_25 : decode cX2_begin 25 = .ok (.aload_n 0, 1) := by decide +kernel
theorem eX2_begin_26 : decode cX2_begin 26 = .ok (.iconst 0, 1) := by decide +kernel
theorem eX2_begin_27 : decode cX2_begin 27 = .ok (.putfield 27, 3) := by decide +kernel
theorem eX2_begin_30 : decode cX2_begin 30 = .ok (.aload_n 0, 1) := by decide +kernel
theorem eX2_begin_31 : decode cX2_begin 31 = .ok (.iconst 0, 1) := by decide +kernel
theorem eX2_begin_32 : decode cX2_begin 32 = .ok (.putfield 30, 3) := by decide +kernel
theorem eX2_begin_35 : decode cX2_begin 35 = .ok (.aload_n 0, 1) := by decide +kernel
theorem eX2_begin_36 : decode cX2_begin 36 = .ok (.iconst 0, 1) := by decide +kernel
theorem eX2_begin_37 : decode cX2_begin 37 = .ok (.putfield 33, 3) := by decide +kernel
theorem eX2_begin_40 : decode cX2_begin 40 = .ok (.aload_n 0, 1) := by decide +kernel
theorem eX2_begin_41 : decode cX2_begin 41 = .ok (.getfield 36, 3) := by decide +kernel
theorem eX2_begin_44 : decode cX2_begin 44 = .ok (.iconst (-1), 1) := by decide +kernel
theorem eX2_begin_45 : decode cX2_begin 45 = .ok (.invokestatic 52, 3) := by decide +kernel
theorem eX2_begin_48 : decode cX2_begin 48 = .ok (.aload_n 0, 1) := by decide +kernel
theorem eX2_begin_49 : decode cX2_begin 49 = .ok (.getfield 40, 3) := by decide +kernel
theorem eX2_begin_52 : decode cX2_begin 52 = .ok (.iconst (-1), 1) := by decide +kernel
theorem eX2_begin_53 : decode cX2_begin 53 = .ok (.invokestatic 52, 3) := by decide +kernel
theorem eX2_begin_56 : decode cX2_begin 56 = .ok (.aload_n 0, 1) := by decide +kernel
theorem eX2_begin_57 : decode cX2_begin 57 = .ok (.getfield 43, 3) := by decide +kernel
theorem eX2_begin_60 : decode cX2_begin 60 = .ok (.iconst 0, 1) := by decide +kernel
theorem eX2_begin_61 : decode cX2_begin 61 = .ok (.invokestatic 52, 3) := by decide +kernel
theorem eX2_begin_64 : decode cX2_begin 64 = .ok (.aload_n 0, 1) := by decide +kernel
theorem eX2_begin_65 : decode cX2_begin 65 = .ok (.getfield 46, 3) := by decide +kernel
theorem eX2_begin_68 : decode cX2_begin 68 = .ok (.iconst 0, 1) := by decide +kernel
theorem eX2_begin_69 : decode cX2_begin 69 = .ok (.invokestatic 52, 3) := by decide +kernel
theorem eX2_begin_72 : decode cX2_begin 72 = .ok (.aload_n 0, 1) := by decide +kernel
theorem eX2_begin_73 : decode cX2_begin 73 = .ok (.getfield 49, 3) := by decide +kernel
theorem eX2_begin_76 : decode cX2_begin 76 = .ok (.iconst 0, 1) := by decide +kernel
theorem eX2_begin_77 : decode cX2_begin 77 = .ok (.invokestatic 52, 3) := by decide +kernel
theorem eX2_begin_80 : decode cX2_begin 80 = .ok (.return_, 1) := by decide +kernel
set_option maxRecDepth 100000 in
theorem m_2_begin (hU : ev_uq ty ev_TR) {C : ev_C} {C' : ev_C} (h : f_2_begin C = some C') : ev_Met l D cys ty ck_tags ev_TR kc_289 [.inr (.inl 2)] C (fun r0 C0 => r0 = none ∧ C0 = C') := by
  unfold f_2_begin at h
  refine ev_enter (by decide +kernel) (by decide +kernel) (Nat.le_of_ble_eq_true rfl) ?_
  show ev_W l D cys ty ck_tags ev_TR kc_289 0 [(0, .inr (.inl 2))] [] C _
  refine ev_al eX2_begin_0 rfl ?_
  refine ev_ic eX2_begin_1 (by decide) ?_
  refine ev_putU lk_f hU (ci := 2) (j := 0) (cd := 0) eX2_begin_2 (isF (by decide +kernel)) rfl rfl (Or.inl rfl) rfl ?_
  refine ev_al eX2_begin_5 rfl ?_
  refine ev_ic eX2_begin_6 (by decide) ?_
  refine ev_putU lk_f hU (ci := 2) (j := 1) (cd := 0) eX2_begin_7 (isF (by decide +kernel)) rfl rfl (Or.inl rfl) rfl ?_
  refine ev_al eX2_begin_10 rfl ?_
  refine ev_ic eX2_begin_11 (by decide) ?_
  refine ev_putU lk_f hU (ci := 2) (j := 2) (cd := 0) eX2_begin_12 (isF (by decide +kernel)) rfl rfl (Or.inl rfl) rfl ?_
  refine ev_al eX2_begin_15 rfl ?_
  refine ev_ic eX2_begin_16 (by decide) ?_
  refine ev_putU lk_f hU (ci := 2) (j := 3) (cd := 0) eX2_begin_17 (isF (by decide +kernel)) rfl rfl (Or.inl rfl) rfl ?_
  refine ev_al eX2_begin_20 rfl ?_
  refine ev_ic eX2_begin_21 (by decide) ?_
  refine ev_putU lk_f hU (ci := 2) (j := 4) (cd := 0) eX2_begin_22 (isF (by decide +kernel)) rfl rfl (Or.inl rfl) rfl ?_
  refine ev_al eX2_begin_25 rfl ?_
  refine ev_ic eX2_begin_26 (by decide) ?_
  refine ev_putU lk_f hU (ci := 2) (j := 5) (cd := 0) eX2_begin_27 (isF (by decide +kernel)) rfl rfl (Or.inl rfl) rfl ?_
  refine ev_al eX2_begin_30 rfl ?_
  refine ev_ic eX2_begin_31 (by decide) ?_
  refine ev_putU lk_f hU (ci := 2) (j := 6) (cd := 0) eX2_begin_32 (isF (by decide +kernel)) rfl rfl (Or.inl rfl) rfl ?_
  refine ev_al eX2_begin_35 rfl ?_
  refine ev_ic eX2_begin_36 (by decide) ?_
  refine ev_putU lk_f hU (ci := 2) (j := 7) (cd := 0) eX2_begin_37 (isF (by decide +kernel)) rfl rfl (Or.inl rfl) rfl ?_
  refine ev_al eX2_begin_40 rfl ?_
  refine ev_getR lk_f (ci := 2) (j := 8) (cd := 3) eX2_begin_41 (isF (by decide +kernel)) rfl rfl ?_
  refine ev_ic eX2_begin_44 (by decide) ?_
  obtain ⟨C1, hq1, h⟩ := ev_bv_some h
  refine ev_callS (kc := kc_280) (A := [.inr (.inl 26), .inl (-1)]) (T := []) (lk_m.1 _ _ 1 [273, 274, 275, 276, 277, 278, 279, 280, 281, 282, 283, 284] (isM (by decide +kernel)) 280 (by decide)) eX2_begin_45 (m_15_fill_26 hU hq1) rfl rfl (by decide) (by decide) (Nat.le_of_ble_eq_true rfl) ?_
  rintro _ C1 ⟨rfl, rfl⟩
  show ev_W l D cys ty ck_tags ev_TR kc_289 48 [(0, .inr (.inl 2))] [] C1 _
  refine ev_al eX2_begin_48 rfl ?_
  refine ev_getR lk_f (ci := 2) (j := 9) (cd := 3) eX2_begin_49 (isF (by decide +kernel)) rfl rfl ?_
  refine ev_ic eX2_begin_52 (by decide) ?_
  obtain ⟨C2, hq2, h⟩ := ev_bv_some h
  refine ev_callS (kc := kc_280) (A := [.inr (.inl 26), .inl (-1)]) (T := []) (lk_m.1 _ _ 1 [273, 274, 275, 276, 277, 278, 279, 280, 281, 282, 283, 284] (isM (by decide +kernel)) 280 (by decide)) eX2_begin_53 (m_15_fill_26 hU hq2) rfl rfl (by decide) (by decide) (Nat.le_of_ble_eq_true rfl) ?_
  rintro _ C2 ⟨rfl, rfl⟩
  show ev_W l D cys ty ck_tags ev_TR kc_289 56 [(0, .inr (.inl 2))] [] C2 _
  refine ev_al eX2_begin_56 rfl ?_
  refine ev_getR lk_f (ci := 2) (j := 10) (cd := 3) eX2_begin_57 (isF (by decide +kernel)) rfl rfl ?_
  refine ev_ic eX2_begin_60 (by decide) ?_
  obtain ⟨C3, hq3, h⟩ := ev_bv_some h
  refine ev_callS (kc := kc_282) (A := [.inr (.inl 21), .inl 0]) (T := []) (lk_m.1 _ _ 1 [273, 274, 275, 276, 277, 278, 279, 280, 281, 282, 283, 284] (isM (by decide +kernel)) 282 (by decide)) eX2_begin_61 (m_15_fill_21 hU hq3) rfl rfl (by decide) (by decide) (Nat.le_of_ble_eq_true rfl) ?_
  rintro _ C3 ⟨rfl, rfl⟩
  show ev_W l D cys ty ck_tags ev_TR kc_289 64 [(0, .inr (.inl 2))] [] C3 _
  refine ev_al eX2_begin_64 rfl ?_
  refine ev_getR lk_f (ci := 2) (j := 11) (cd := 3) eX2_begin_65 (isF (by decide +kernel)) rfl rfl ?_
  refine ev_ic eX2_begin_68 (by decide) ?_
  obtain ⟨C4, hq4, h⟩ := ev_bv_some h
  refine ev_callS (kc := kc_282) (A := [.inr (.inl 21), .inl 0]) (T := []) (lk_m.1 _ _ 1 [273, 274, 275, 276, 277, 278, 279, 280, 281, 282, 283, 284] (isM (by decide +kernel)) 282 (by decide)) eX2_begin_69 (m_15_fill_21 hU hq4) rfl rfl (by decide) (by decide) (Nat.le_of_ble_eq_true rfl) ?_
  rintro _ C4 ⟨rfl, rfl⟩
  show ev_W l D cys ty ck_tags ev_TR kc_289 72 [(0, .inr (.inl 2))] [] C4 _
  refine ev_al eX2_begin_72 rfl ?_
  refine ev_getR lk_f (ci := 2) (j := 12) (cd := 3) eX2_begin_73 (isF (by decide +kernel)) rfl rfl ?_
  refine ev_ic eX2_begin_76 (by decide) ?_
  obtain ⟨C5, hq5, h⟩ := ev_bv_some h
  refine ev_callS (kc := kc_282) (A := [.inr (.inl 21), .inl 0]) (T := []) (lk_m.1 _ _ 1 [273, 274, 275, 276, 277, 278, 279, 280, 281, 282, 283, 284] (isM (by decide +kernel)) 282 (by decide)) eX2_begin_77 (m_15_fill_21 hU hq5) rfl rfl (by decide) (by decide) (Nat.le_of_ble_eq_true rfl) ?_
  rintro _ C5 ⟨rfl, rfl⟩
  show ev_W l D cys ty ck_tags ev_TR kc_289 80 [(0, .inr (.inl 2))] [] C5 _
  cases h
  exact ev_vret eX2_begin_80 rfl ⟨rfl, rfl⟩
theorem eX9_clear_0 : decode cX9_clear 0 = .ok (.aload_n 0, 1) := by decide +kernel
theorem eX9_clear_1 : decode cX9_clear 1 = .ok (.iconst 0, 1) := by decide +kernel
theorem eX9_clear_2 : decode cX9_clear 2 = .ok (.putfield 9, 3) := by decide +kernel
theorem eX9_clear_5 : decode cX9_clear 5 = .ok (.aload_n 0, 1) := by decide +kernel
theorem eX9_clear_6 : decode cX9_clear 6 = .ok (.iconst 0, 1) := by decide +kernel
theorem eX9_clear_7 : decode cX9_clear 7 = .ok (.putfield 15, 3) := by decide +kernel
theorem eX9_clear_10 : decode cX9_clear 10 = .ok (.return_, 1) := by decide +kernel
set_option maxRecDepth 100000 in
theorem m_9_clear (hU : ev_uq ty ev_TR) {C : ev_C} {C' : ev_C} (h : f_9_clear C = some C') : ev_Met l D cys ty ck_tags ev_TR kc_122 [.inr (.inl 9)] C (fun r0 C0 => r0 = none ∧ C0 = C') := by
  unfold f_9_clear at h
  refine ev_enter (by decide +kernel) (by decide +kernel) (Nat.le_of_ble_eq_true rfl) ?_
  show ev_W l D cys ty ck_tags ev_TR kc_122 0 [(0, .inr (.inl 9))] [] C _
  refine ev_al eX9_clear_0 rfl ?_
  refine ev_ic eX9_clear_1 (by decide) ?_
  refine ev_putI lk_f hU (ci := 9) (j := 0) (cd := 0) eX9_clear_2 (isF (by decide +kernel)) rfl rfl (Or.inl rfl) rfl ?_
  refine ev_al eX9_clear_5 rfl ?_
  refine ev_ic eX9_clear_6 (by decide) ?_
  refine ev_putI lk_f hU (ci := 9) (j := 1) (cd := 0) eX9_clear_7 (isF (by decide +kernel)) rfl rfl (Or.inl rfl) rfl ?_
  cases h
  exact ev_vret eX9_clear_10 rfl ⟨rfl, rfl⟩
theorem eX3_forget_0 : decode cX3_forget 0 = .ok (.aload_n 0, 1) := by decide +kernel
theorem eX3_forget_1 : decode cX3_forget 1 = .ok (.iconst 0, 1) := by decide +kernel
theorem eX3_forget_2 : decode cX3_forget 2 = .ok (.putfield 21, 3) := by decide +kernel
theorem eX3_forget_5 : decode cX3_forget 5 = .ok (.return_, 1) := by decide +kernel
set_option maxRecDepth 100000 in
theorem m_3_forget (hU : ev_uq ty ev_TR) {C : ev_C} {C' : ev_C} (h : f_3_forget C = some C') : ev_Met l D cys ty ck_tags ev_TR kc_89 [.inr (.inl 3)] C (fun r0 C0 => r0 = none ∧ C0 = C') := by
  unfold f_3_forget at h
  refine ev_enter (by decide +kernel) (by decide +kernel) (Nat.le_of_ble_eq_true rfl) ?_
  show ev_W l D cys ty ck_tags ev_TR kc_89 0 [(0, .inr (.inl 3))] [] C _
  refine ev_al eX3_forget_0 rfl ?_
  refine ev_ic eX3_forget_1 (by decide) ?_
  refine ev_putU lk_f hU (ci := 3) (j := 2) (cd := 0) eX3_forget_2 (isF (by decide +kernel)) rfl rfl (Or.inl rfl) rfl ?_
  cases h
  exact ev_vret eX3_forget_5 rfl ⟨rfl, rfl⟩
theorem eX11_play_0 : decode cX11_play 0 = .ok (.aload_n 0, 1) := by decide +kernel
theorem eX11_play_1 : decode cX11_play 1 = .ok (.getfield 10, 3) := by decide +kernel
theorem eX11_play_4 : decode cX11_play 4 = .ok (.sipush 900, 3) := by decide +kernel
theorem eX11_play_7 : decode cX11_play 7 = .ok (.invokevirtual 116, 3) := by decide +kernel
theorem eX11_play_10 : decode cX11_play 10 = .ok (.aload_n 0, 1) := by decide +kernel
theorem eX11_play_11 : decode cX11_play 11 = .ok (.getfield 19, 3) := by decide +kernel
theorem eX11_play_14 : decode cX11_play 14 = .ok (.aload_n 0, 1) := by decide +kernel
theorem eX11_play_15 : decode cX11_play 15 = .ok (.getfield 10, 3) := by decide +kernel
theorem eX11_play_18 : decode cX11_play 18 = .ok (.invokevirtual 119, 3) := by decide +kernel
theorem eX11_play_21 : decode cX11_play 21 = .ok (.istore_n 1, 1) := by decide +kernel
theorem eX11_play_22 : decode cX11_play 22 = .ok (.aload_n 0, 1) := by decide +kernel
theorem eX11_play_23 : decode cX11_play 23 = .ok (.getfield 10, 3) := by decide +kernel
theorem eX11_play_26 : decode cX11_play 26 = .ok (.getfield 99, 3) := by decide +kernel
theorem eX11_play_29 : decode cX11_play 29 = .ok (.iconst 0, 1) := by decide +kernel
theorem eX11_play_30 : decode cX11_play 30 = .ok (.putfield 113, 3) := by decide +kernel
theorem eX11_play_33 : decode cX11_play 33 = .ok (.aload_n 0, 1) := by decide +kernel
theorem eX11_play_34 : decode cX11_play 34 = .ok (.aload_n 0, 1) := by decide +kernel
theorem eX11_play_35 : decode cX11_play 35 = .ok (.getfield 10, 3) := by decide +kernel
theorem eX11_play_38 : decode cX11_play 38 = .ok (.getfield 123, 3) := by decide +kernel
theorem eX11_play_41 : decode cX11_play 41 = .ok (.putfield 88, 3) := by decide +kernel
theorem eX11_play_44 : decode cX11_play 44 = .ok (.aload_n 0, 1) := by decide +kernel
theorem eX11_play_45 : decode cX11_play 45 = .ok (.getfield 10, 3) := by decide +kernel
theorem eX11_play_48 : decode cX11_play 48 = .ok (.getfield 123, 3) := by decide +kernel
theorem eX11_play_51 : decode cX11_play 51 = .ok (.ifCond .eq 13, 3) := by decide +kernel
theorem eX11_play_54 : decode cX11_play 54 = .ok (.iconst (-1), 1) := by decide +kernel
theorem eX11_play_55 : decode cX11_play 55 = .ok (.aload_n 0, 1) := by decide +kernel
theorem eX11_play_56 : decode cX11_play 56 = .ok (.getfield 10, 3) := by decide +kernel
theorem eX11_play_59 : decode cX11_play 59 = .ok (.getfield 126, 3) := by decide +kernel
theorem eX11_play_62 : decode cX11_play 62 = .ok (.isub, 1) := by decide +kernel
theorem eX11_play_63 : decode cX11_play 63 = .ok (.ireturn, 1) := by decide +kernel
theorem eX11_play_64 : decode cX11_play 64 = .ok (.aload_n 0, 1) := by decide +kernel
theorem eX11_play_65 : decode cX11_play 65 = .ok (.getfield 26, 3) := by decide +kernel
theorem eX11_play_68 : decode cX11_play 68 = .ok (.aload_n 0, 1) := by decide +kernel
theorem eX11_play_69 : decode cX11_play 69 = .ok (.getfield 19, 3) := by decide +kernel
theorem eX11_play_72 : decode cX11_play 72 = .ok (.getfield 129, 3) := by decide +kernel
theorem eX11_play_75 : decode cX11_play 75 = .ok (.invokevirtual 132, 3) := by decide +kernel
theorem eX11_play_78 : decode cX11_play 78 = .ok (.aload_n 0, 1) := by decide +kernel
theorem eX11_play_79 : decode cX11_play 79 = .ok (.getfield 33, 3) := by decide +kernel
theorem eX11_play_82 : decode cX11_play 82 = .ok (.invokevirtual 136, 3) := by decide +kernel
theorem eX11_play_85 : decode cX11_play 85 = .ok (.aload_n 0, 1) := by decide +kernel
theorem eX11_play_86 : decode cX11_play 86 = .ok (.getfield 50, 3) := by decide +kernel
theorem eX11_play_89 : decode cX11_play 89 = .ok (.invokevirtual 139, 3) := by decide +kernel
theorem eX11_play_92 : decode cX11_play 92 = .ok (.aload_n 0, 1) := by decide +kernel
theorem eX11_play_93 : decode cX11_play 93 = .ok (.getfield 43, 3) := by decide +kernel
theorem eX11_play_96 : decode cX11_play 96 = .ok (.invokevirtual 142, 3) := by decide +kernel
theorem eX11_play_99 : decode cX11_play 99 = .ok (.iload_n 1, 1) := by decide +kernel
theorem eX11_play_100 : decode cX11_play 100 = .ok (.ireturn, 1) := by decide +kernel
set_option maxRecDepth 100000 in
theorem m_11_play (hU : ev_uq ty ev_TR) {C : ev_C} {r : Int} {C' : ev_C} (h : f_11_play C = some (r, C')) : ev_Met l D cys ty ck_tags ev_TR kh_11_play [.inr (.inl 11)] C (fun r0 C0 => r0 = some (.inl r) ∧ C0 = C') := by
  unfold f_11_play at h
  refine ev_enter (by decide +kernel) (by decide +kernel) (Nat.le_of_ble_eq_true rfl) ?_
  show ev_W l D cys ty ck_tags ev_TR kh_11_play 0 [(0, .inr (.inl 11))] [] C _
  refine ev_al eX11_play_0 rfl ?_
  refine ev_getR lk_f (ci := 11) (j := 0) (cd := 3) eX11_play_1 (isF (by decide +kernel)) rfl rfl ?_
  refine ev_sp eX11_play_4 (by decide) (by decide) ?_
  obtain ⟨C1, hq1, h⟩ := ev_bv_some h
  refine ev_callV (kc := kc_120) (A := [.inl 900]) (T := []) (lk_m.1 _ _ 0 [120] (isM (by decide +kernel)) 120 (by decide)) eX11_play_7 (m_8_open hU hq1) rfl rfl rfl (by decide) (by decide) (Nat.le_of_ble_eq_true rfl) ?_
  rintro _ C1 ⟨rfl, rfl⟩
  show ev_W l D cys ty ck_tags ev_TR kh_11_play 10 [(0, .inr (.inl 11))] [] C1 _
  refine ev_al eX11_play_10 rfl ?_
  refine ev_getR lk_f (ci := 11) (j := 1) (cd := 3) eX11_play_11 (isF (by decide +kernel)) rfl rfl ?_
  refine ev_al eX11_play_14 rfl ?_
  refine ev_getR lk_f (ci := 11) (j := 0) (cd := 3) eX11_play_15 (isF (by decide +kernel)) rfl rfl ?_
  obtain ⟨r2, C2, hq2, h⟩ := ev_bd_some h
  refine ev_callV (kc := kc_295) (A := [.inr (.inl 8)]) (T := []) (lk_m.1 _ _ 0 [295] (isM (by decide +kernel)) 295 (by decide)) eX11_play_18 (m_7_read_8 hU hq2) rfl rfl rfl (by decide) (by decide) (Nat.le_of_ble_eq_true rfl) ?_
  rintro _ C2 ⟨rfl, rfl⟩
  show ev_W l D cys ty ck_tags ev_TR kh_11_play 21 [(0, .inr (.inl 11))] [.inl r2] C2 _
  refine ev_is (L' := [(1, .inl r2), (0, .inr (.inl 11))]) eX11_play_21 (by decide) rfl ?_
  refine ev_al eX11_play_22 rfl ?_
  refine ev_getR lk_f (ci := 11) (j := 0) (cd := 3) eX11_play_23 (isF (by decide +kernel)) rfl rfl ?_
  refine ev_getR lk_f (ci := 8) (j := 1) (cd := 3) eX11_play_26 (isF (by decide +kernel)) rfl rfl ?_
  refine ev_ic eX11_play_29 (by decide) ?_
  refine ev_putI lk_f hU (ci := 10) (j := 1) (cd := 0) eX11_play_30 (isF (by decide +kernel)) rfl rfl (Or.inl rfl) rfl ?_
  refine ev_al eX11_play_33 rfl ?_
  refine ev_al eX11_play_34 rfl ?_
  refine ev_getR lk_f (ci := 11) (j := 0) (cd := 3) eX11_play_35 (isF (by decide +kernel)) rfl rfl ?_
  refine ev_getI lk_f (ci := 8) (j := 9) (cd := 0) eX11_play_38 (isF (by decide +kernel)) rfl rfl rfl ?_
  refine ev_putI lk_f hU (ci := 11) (j := 13) (cd := 0) eX11_play_41 (isF (by decide +kernel)) rfl rfl (Or.inl rfl) rfl ?_
  refine ev_al eX11_play_44 rfl ?_
  refine ev_getR lk_f (ci := 11) (j := 0) (cd := 3) eX11_play_45 (isF (by decide +kernel)) rfl rfl ?_
  refine ev_getI lk_f (ci := 8) (j := 9) (cd := 0) eX11_play_48 (isF (by decide +kernel)) rfl rfl rfl ?_
  refine ev_z_eq (tgt := 64) eX11_play_51 (by decide) (fun hc3 => ?_) (fun hc3 => ?_)
  · rw [if_pos (show (C2 8 9) = 0 from hc3)] at h
    refine ev_al eX11_play_64 rfl ?_
    refine ev_getR lk_f (ci := 11) (j := 2) (cd := 3) eX11_play_65 (isF (by decide +kernel)) rfl rfl ?_
    refine ev_al eX11_play_68 rfl ?_
    refine ev_getR lk_f (ci := 11) (j := 1) (cd := 3) eX11_play_69 (isF (by decide +kernel)) rfl rfl ?_
    refine ev_getR lk_f (ci := 7) (j := 0) (cd := 3) eX11_play_72 (isF (by decide +kernel)) rfl rfl ?_
    obtain ⟨C4, hq4, h⟩ := ev_bv_some h
    refine ev_callV (kc := kh_6_copyFrom_pt) (A := [.inr (.inl 13)]) (T := []) (lk_h (11, 132, 0, kh_6_copyFrom_pt) (List.mem_of_getElem? (i := 7) rfl)) eX11_play_75 (m_6_copyFrom_13 hU hq4) rfl rfl rfl (by decide) (by decide) (Nat.le_of_ble_eq_true rfl) ?_
    rintro _ C4 ⟨rfl, rfl⟩
    show ev_W l D cys ty ck_tags ev_TR kh_11_play 78 [(1, .inl r2), (0, .inr (.inl 11))] [] C4 _
    refine ev_al eX11_play_78 rfl ?_
    refine ev_getR lk_f (ci := 11) (j := 3) (cd := 3) eX11_play_79 (isF (by decide +kernel)) rfl rfl ?_
    obtain ⟨C5, hq5, h⟩ := ev_bv_some h
    refine ev_callV (kc := kc_289) (A := []) (T := []) (lk_m.1 _ _ 0 [289] (isM (by decide +kernel)) 289 (by decide)) eX11_play_82 (m_2_begin hU hq5) rfl rfl rfl (by decide) (by decide) (Nat.le_of_ble_eq_true rfl) ?_
    rintro _ C5 ⟨rfl, rfl⟩
    show ev_W l D cys ty ck_tags ev_TR kh_11_play 85 [(1, .inl r2), (0, .inr (.inl 11))] [] C5 _
    refine ev_al eX11_play_85 rfl ?_
    refine ev_getR lk_f (ci := 11) (j := 6) (cd := 3) eX11_play_86 (isF (by decide +kernel)) rfl rfl ?_
    obtain ⟨C6, hq6, h⟩ := ev_bv_some h
    refine ev_callV (kc := kc_122) (A := []) (T := []) (lk_m.1 _ _ 0 [122, 123] (isM (by decide +kernel)) 122 (by decide)) eX11_play_89 (m_9_clear hU hq6) rfl rfl rfl (by decide) (by decide) (Nat.le_of_ble_eq_true rfl) ?_
    rintro _ C6 ⟨rfl, rfl⟩
    show ev_W l D cys ty ck_tags ev_TR kh_11_play 92 [(1, .inl r2), (0, .inr (.inl 11))] [] C6 _
    refine ev_al eX11_play_92 rfl ?_
    refine ev_getR lk_f (ci := 11) (j := 5) (cd := 3) eX11_play_93 (isF (by decide +kernel)) rfl rfl ?_
    obtain ⟨C7, hq7, h⟩ := ev_bv_some h
    refine ev_callV (kc := kc_89) (A := []) (T := []) (lk_m.1 _ _ 0 [89] (isM (by decide +kernel)) 89 (by decide)) eX11_play_96 (m_3_forget hU hq7) rfl rfl rfl (by decide) (by decide) (Nat.le_of_ble_eq_true rfl) ?_
    rintro _ C7 ⟨rfl, rfl⟩
    show ev_W l D cys ty ck_tags ev_TR kh_11_play 99 [(1, .inl r2), (0, .inr (.inl 11))] [] C7 _
    refine ev_il eX11_play_99 rfl ?_
    cases h
    exact ev_iret eX11_play_100 rfl ⟨rfl, rfl⟩
  · rw [if_neg (show ¬ ((C2 8 9) = 0) from hc3)] at h
    refine ev_ic eX11_play_54 (by decide) ?_
    refine ev_al eX11_play_55 rfl ?_
    refine ev_getR lk_f (ci := 11) (j := 0) (cd := 3) eX11_play_56 (isF (by decide +kernel)) rfl rfl ?_
    refine ev_getI lk_f (ci := 8) (j := 10) (cd := 0) eX11_play_59 (isF (by decide +kernel)) rfl rfl rfl ?_
    refine ev_sub eX11_play_62 ?_
    cases h
    exact ev_iret eX11_play_63 rfl ⟨rfl, rfl⟩
end GX
