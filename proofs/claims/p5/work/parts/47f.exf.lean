/-! THE EXACT LOGIC: feed() of both (printed by a program of ours). -/
section GX
variable {l : Launch} {D : va_G} {cys : Nat → ClassId} {ty : Nat → Option Nat}
theorem eX10_hasRoom_0 : decode cX10_hasRoom 0 = .ok (.aload_n 0, 1) := by decide +kernel
theorem eX10_hasRoom_1 : decode cX10_hasRoom 1 = .ok (.getfield 15, 3) := by decide +kernel
theorem eX10_hasRoom_4 : decode cX10_hasRoom 4 = .ok (.iload_n 1, 1) := by decide +kernel
theorem eX10_hasRoom_5 : decode cX10_hasRoom 5 = .ok (.iadd, 1) := by decide +kernel
theorem eX10_hasRoom_6 : decode cX10_hasRoom 6 = .ok (.aload_n 0, 1) := by decide +kernel
theorem eX10_hasRoom_7 : decode cX10_hasRoom 7 = .ok (.getfield 9, 3) := by decide +kernel
theorem eX10_hasRoom_10 : decode cX10_hasRoom 10 = .ok (.arraylength, 1) := by decide +kernel
theorem eX10_hasRoom_11 : decode cX10_hasRoom 11 = .ok (.if_icmp .gt 7, 3) := by decide +kernel
theorem eX10_hasRoom_14 : decode cX10_hasRoom 14 = .ok (.iconst 1, 1) := by decide +kernel
theorem eX10_hasRoom_15 : decode cX10_hasRoom 15 = .ok (.goto 4, 3) := by decide +kernel
theorem eX10_hasRoom_18 : decode cX10_hasRoom 18 = .ok (.iconst 0, 1) := by decide +kernel
theorem eX10_hasRoom_19 : decode cX10_hasRoom 19 = .ok (.ireturn, 1) := by decide +kernel
set_option maxRecDepth 100000 in
theorem m_10_hasRoom (hU : ev_uq ty ev_TR) {C : ev_C} {x1 : Int} {r : Int} {C' : ev_C} (h : f_10_hasRoom C x1 = some (r, C')) : ev_Met l D cys ty ck_tags ev_TR kc_162 [.inr (.inl 10), .inl x1] C (fun r0 C0 => r0 = some (.inl r) ∧ C0 = C') := by
  unfold f_10_hasRoom at h
  refine ev_enter (by decide +kernel) (by decide +kernel) (Nat.le_of_ble_eq_true rfl) ?_
  show ev_W l D cys ty ck_tags ev_TR kc_162 0 [(0, .inr (.inl 10)), (1, .inl x1)] [] C _
  refine ev_al eX10_hasRoom_0 rfl ?_
  refine ev_getI lk_f (ci := 10) (j := 1) (cd := 0) eX10_hasRoom_1 (isF (by decide +kernel)) rfl rfl rfl ?_
  refine ev_il eX10_hasRoom_4 rfl ?_
  refine ev_add eX10_hasRoom_5 ?_
  refine ev_al eX10_hasRoom_6 rfl ?_
  refine ev_getR lk_f (ci := 10) (j := 0) (cd := 3) eX10_hasRoom_7 (isF (by decide +kernel)) rfl rfl ?_
  refine ev_alen (v := 940) eX10_hasRoom_10 rfl (by decide) rfl ?_
  refine ev_c_gt (tgt := 18) eX10_hasRoom_11 (by decide) (fun hc1 => ?_) (fun hc1 => ?_)
  · rw [if_pos (show 940 < ev_w (((C 10 1)) + x1) from hc1)] at h
    refine ev_ic eX10_hasRoom_18 (by decide) ?_
    cases h
    exact ev_zret eX10_hasRoom_19 rfl (by decide) ⟨rfl, rfl⟩
  · rw [if_neg (show ¬ (940 < ev_w (((C 10 1)) + x1)) from hc1)] at h
    refine ev_ic eX10_hasRoom_14 (by decide) ?_
    refine ev_goto (tgt := 19) eX10_hasRoom_15 (by decide) ?_
    cases h
    exact ev_zret eX10_hasRoom_19 rfl (by decide) ⟨rfl, rfl⟩
theorem eX10_append_0 : decode cX10_append 0 = .ok (.aload_n 0, 1) := by decide +kernel
theorem eX10_append_1 : decode cX10_append 1 = .ok (.iconst 4, 1) := by decide +kernel
theorem eX10_append_2 : decode cX10_append 2 = .ok (.invokevirtual 19, 3) := by decide +kernel
theorem eX10_append_5 : decode cX10_append 5 = .ok (.ifCond .ne 4, 3) := by decide +kernel
theorem eX10_append_8 : decode cX10_append 8 = .ok (.return_, 1) := by decide +kernel
theorem eX10_append_9 : decode cX10_append 9 = .ok (.aload_n 0, 1) := by decide +kernel
theorem eX10_append_10 : decode cX10_append 10 = .ok (.getfield 9, 3) := by decide +kernel
theorem eX10_append_13 : decode cX10_append 13 = .ok (.aload_n 0, 1) := by decide +kernel
theorem eX10_append_14 : decode cX10_append 14 = .ok (.getfield 15, 3) := by decide +kernel
theorem eX10_append_17 : decode cX10_append 17 = .ok (.iload_n 1, 1) := by decide +kernel
theorem eX10_append_18 : decode cX10_append 18 = .ok (.bipush 24, 2) := by decide +kernel
theorem eX10_append_20 : decode cX10_append 20 = .ok (.ishr, 1) := by decide +kernel
theorem eX10_append_21 : decode cX10_append 21 = .ok (.i2b, 1) := by decide +kernel
theorem eX10_append_22 : decode cX10_append 22 = .ok (.bastore, 1) := by decide +kernel
theorem eX10_append_23 : decode cX10_append 23 = .ok (.aload_n 0, 1) := by decide +kernel
theorem eX10_append_24 : decode cX10_append 24 = .ok (.getfield 9, 3) := by decide +kernel
theorem eX10_append_27 : decode cX10_append 27 = .ok (.aload_n 0, 1) := by decide +kernel
theorem eX10_append_28 : decode cX10_append 28 = .ok (.getfield 15, 3) := by decide +kernel
theorem eX10_append_31 : decode cX10_append 31 = .ok (.iconst 1, 1) := by decide +kernel
theorem eX10_append_32 : decode cX10_append 32 = .ok (.iadd, 1) := by decide +kernel
theorem eX10_append_33 : decode cX10_append 33 = .ok (.iload_n 1, 1) := by decide +kernel
theorem eX10_append_34 : decode cX10_append 34 = .ok (.bipush 16, 2) := by decide +kernel
theorem eX10_append_36 : decode cX10_append 36 = .ok (.ishr, 1) := by decide +kernel
theorem eX10_append_37 : decode cX10_append 37 = .ok (.i2b, 1) := by decide +kernel
theorem eX10_append_38 : decode cX10_append 38 = .ok (.bastore, 1) := by decide +kernel
theorem eX10_append_39 : decode cX10_append 39 = .ok (.aload_n 0, 1) := by decide +kernel
theorem eX10_append_40 : decode cX10_append 40 = .ok (.getfield 9, 3) := by decide +kernel
theorem eX10_append_43 : decode cX10_append 43 = .ok (.aload_n 0, 1) := by decide +kernel
theorem eX10_append_44 : decode cX10_append 44 = .ok (.getfield 15, 3) := by decide +kernel
theorem eX10_append_47 : decode cX10_append 47 = .ok (.iconst 2, 1) := by decide +kernel
theorem eX10_append_48 : decode cX10_append 48 = .ok (.iadd, 1) := by decide +kernel
theorem eX10_append_49 : decode cX10_append 49 = .ok (.iload_n 1, 1) := by decide +kernel
theorem eX10_append_50 : decode cX10_append 50 = .ok (.bipush 8, 2) := by decide +kernel
theorem eX10_append_52 : decode cX10_append 52 = .ok (.ishr, 1) := by decide +kernel
theorem eX10_append_53 : decode cX10_append 53 = .ok (.i2b, 1) := by decide +kernel
theorem eX10_append_54 : decode cX10_append 54 = .ok (.bastore, 1) := by decide +kernel
theorem eX10_append_55 : decode cX10_append 55 = .ok (.aload_n 0, 1) := by decide +kernel
theorem eX10_append_56 : decode cX10_append 56 = .ok (.getfield 9, 3) := by decide +kernel
theorem eX10_append_59 : decode cX10_append 59 = .ok (.aload_n 0, 1) := by decide +kernel
theorem eX10_append_60 : decode cX10_append 60 = .ok (.getfield 15, 3) := by decide +kernel
theorem eX10_append_63 : decode cX10_append 63 = .ok (.iconst 3, 1) := by decide +kernel
theorem eX10_append_64 : decode cX10_append 64 = .ok (.iadd, 1) := by decide +kernel
theorem eX10_append_65 : decode cX10_append 65 = .ok (.iload_n 1, 1) := by decide +kernel
theorem eX10_append_66 : decode cX10_append 66 = .ok (.i2b, 1) := by decide +kernel
theorem eX10_append_67 : decode cX10_append 67 = .ok (.bastore, 1) := by decide +kernel
theorem eX10_append_68 : decode cX10_append 68 = .ok (.aload_n 0, 1) := by decide +kernel
theorem eX10_append_69 : decode cX10_append 69 = .ok (.dup, 1) := by decide +kernel
theorem eX10_append_70 : decode cX10_append 70 = .ok (.getfield 15, 3) := by decide +kernel
theorem eX10_append_73 : decode cX10_append 73 = .ok (.iconst 4, 1) := by decide +kernel
theorem eX10_append_74 : decode cX10_append 74 = .ok (.iadd, 1) := by decide +kernel
theorem eX10_append_75 : decode cX10_append 75 = .ok (.putfield 15, 3) := by decide +kernel
theorem eX10_append_78 : decode cX10_append 78 = .ok (.return_, 1) := by decide +kernel
set_option maxRecDepth 100000 in
theorem m_10_append (hU : ev_uq ty ev_TR) {C : ev_C} {x1 : Int} {C' : ev_C} (h : f_10_append C x1 = some C') : ev_Met l D cys ty ck_tags ev_TR kh_10_append [.inr (.inl 10), .inl x1] C (fun r0 C0 => r0 = none ∧ C0 = C') := by
  unfold f_10_append at h
  refine ev_enter (by decide +kernel) (by decide +kernel) (Nat.le_of_ble_eq_true rfl) ?_
  show ev_W l D cys ty ck_tags ev_TR kh_10_append 0 [(0, .inr (.inl 10)), (1, .inl x1)] [] C _
  refine ev_al eX10_append_0 rfl ?_
  refine ev_ic eX10_append_1 (by decide) ?_
  obtain ⟨r1, C1, hq1, h⟩ := ev_bd_some h
  refine ev_callV (kc := kc_162) (A := [.inl 4]) (T := []) (lk_m.1 _ _ 0 [162, 163] (isM (by decide +kernel)) 162 (by decide)) eX10_append_2 (m_10_hasRoom hU hq1) rfl rfl rfl (by decide) (by decide) (Nat.le_of_ble_eq_true rfl) ?_
  rintro _ C1 ⟨rfl, rfl⟩
  show ev_W l D cys ty ck_tags ev_TR kh_10_append 5 [(0, .inr (.inl 10)), (1, .inl x1)] [.inl r1] C1 _
  refine ev_z_ne (tgt := 9) eX10_append_5 (by decide) (fun hc2 => ?_) (fun hc2 => ?_)
  · rw [if_pos (show r1 ≠ 0 from hc2)] at h
    refine ev_al eX10_append_9 rfl ?_
    refine ev_getR lk_f (ci := 10) (j := 0) (cd := 3) eX10_append_10 (isF (by decide +kernel)) rfl rfl ?_
    refine ev_al eX10_append_13 rfl ?_
    refine ev_getI lk_f (ci := 10) (j := 1) (cd := 0) eX10_append_14 (isF (by decide +kernel)) rfl rfl rfl ?_
    refine ev_il eX10_append_17 rfl ?_
    refine ev_bp eX10_append_18 (by decide) (by decide) ?_
    refine ev_ishr eX10_append_20 ?_
    refine ev_i2b eX10_append_21 ?_
    obtain ⟨hb3, h⟩ := ev_gd h
    refine ev_bast hU eX10_append_22 rfl rfl hb3.1 hb3.2 ?_
    refine ev_al eX10_append_23 rfl ?_
    refine ev_getR lk_f (ci := 10) (j := 0) (cd := 3) eX10_append_24 (isF (by decide +kernel)) rfl rfl ?_
    refine ev_al eX10_append_27 rfl ?_
    refine ev_getI lk_f (ci := 10) (j := 1) (cd := 0) eX10_append_28 (isF (by decide +kernel)) rfl rfl rfl ?_
    refine ev_ic eX10_append_31 (by decide) ?_
    refine ev_add eX10_append_32 ?_
    refine ev_il eX10_append_33 rfl ?_
    refine ev_bp eX10_append_34 (by decide) (by decide) ?_
    refine ev_ishr eX10_append_36 ?_
    refine ev_i2b eX10_append_37 ?_
    obtain ⟨hb4, h⟩ := ev_gd h
    refine ev_bast hU eX10_append_38 rfl rfl hb4.1 hb4.2 ?_
    refine ev_al eX10_append_39 rfl ?_
    refine ev_getR lk_f (ci := 10) (j := 0) (cd := 3) eX10_append_40 (isF (by decide +kernel)) rfl rfl ?_
    refine ev_al eX10_append_43 rfl ?_
    refine ev_getI lk_f (ci := 10) (j := 1) (cd := 0) eX10_append_44 (isF (by decide +kernel)) rfl rfl rfl ?_
    refine ev_ic eX10_append_47 (by decide) ?_
    refine ev_add eX10_append_48 ?_
    refine ev_il eX10_append_49 rfl ?_
    refine ev_bp eX10_append_50 (by decide) (by decide) ?_
    refine ev_ishr eX10_append_52 ?_
    refine ev_i2b eX10_append_53 ?_
    obtain ⟨hb5, h⟩ := ev_gd h
    refine ev_bast hU eX10_append_54 rfl rfl hb5.1 hb5.2 ?_
    refine ev_al eX10_append_55 rfl ?_
    refine ev_getR lk_f (ci := 10) (j := 0) (cd := 3) eX10_append_56 (isF (by decide +kernel)) rfl rfl ?_
    refine ev_al eX10_append_59 rfl ?_
    refine ev_getI lk_f (ci := 10) (j := 1) (cd := 0) eX10_append_60 (isF (by decide +kernel)) rfl rfl rfl ?_
    refine ev_ic eX10_append_63 (by decide) ?_
    refine ev_add eX10_append_64 ?_
    refine ev_il eX10_append_65 rfl ?_
    refine ev_i2b eX10_append_66 ?_
    obtain ⟨hb6, h⟩ := ev_gd h
    refine ev_bast hU eX10_append_67 rfl rfl hb6.1 hb6.2 ?_
    refine ev_al eX10_append_68 rfl ?_
    refine ev_dup eX10_append_69 rfl ?_
    refine ev_getI lk_f (ci := 10) (j := 1) (cd := 0) eX10_append_70 (isF (by decide +kernel)) rfl rfl rfl ?_
    refine ev_ic eX10_append_73 (by decide) ?_
    refine ev_add eX10_append_74 ?_
    refine ev_putI lk_f hU (ci := 10) (j := 1) (cd := 0) eX10_append_75 (isF (by decide +kernel)) rfl rfl (Or.inl rfl) rfl ?_
    cases h
    exact ev_vret eX10_append_78 rfl ⟨rfl, rfl⟩
  · rw [if_neg (show ¬ (r1 ≠ 0) from hc2)] at h
    cases h
    exact ev_vret eX10_append_8 rfl ⟨rfl, rfl⟩
theorem eX11_feed_0 : decode cX11_feed 0 = .ok (.aload_n 0, 1) := by decide +kernel
theorem eX11_feed_1 : decode cX11_feed 1 = .ok (.getfield 10, 3) := by decide +kernel
theorem eX11_feed_4 : decode cX11_feed 4 = .ok (.getfield 99, 3) := by decide +kernel
theorem eX11_feed_7 : decode cX11_feed 7 = .ok (.bipush 20, 2) := by decide +kernel
theorem eX11_feed_9 : decode cX11_feed 9 = .ok (.invokevirtual 103, 3) := by decide +kernel
theorem eX11_feed_12 : decode cX11_feed 12 = .ok (.ifCond .ne 5, 3) := by decide +kernel
theorem eX11_feed_15 : decode cX11_feed 15 = .ok (.iconst (-1), 1) := by decide +kernel
theorem eX11_feed_16 : decode cX11_feed 16 = .ok (.ireturn, 1) := by decide +kernel
theorem eX11_feed_17 : decode cX11_feed 17 = .ok (.aload_n 0, 1) := by decide +kernel
theorem eX11_feed_18 : decode cX11_feed 18 = .ok (.getfield 10, 3) := by decide +kernel
theorem eX11_feed_21 : decode cX11_feed 21 = .ok (.getfield 99, 3) := by decide +kernel
theorem eX11_feed_24 : decode cX11_feed 24 = .ok (.iload_n 1, 1) := by decide +kernel
theorem eX11_feed_25 : decode cX11_feed 25 = .ok (.invokevirtual 109, 3) := by decide +kernel
theorem eX11_feed_28 : decode cX11_feed 28 = .ok (.aload_n 0, 1) := by decide +kernel
theorem eX11_feed_29 : decode cX11_feed 29 = .ok (.getfield 10, 3) := by decide +kernel
theorem eX11_feed_32 : decode cX11_feed 32 = .ok (.getfield 99, 3) := by decide +kernel
theorem eX11_feed_35 : decode cX11_feed 35 = .ok (.iload_n 2, 1) := by decide +kernel
theorem eX11_feed_36 : decode cX11_feed 36 = .ok (.invokevirtual 109, 3) := by decide +kernel
theorem eX11_feed_39 : decode cX11_feed 39 = .ok (.aload_n 0, 1) := by decide +kernel
theorem eX11_feed_40 : decode cX11_feed 40 = .ok (.getfield 10, 3) := by decide +kernel
theorem eX11_feed_43 : decode cX11_feed 43 = .ok (.getfield 99, 3) := by decide +kernel
theorem eX11_feed_46 : decode cX11_feed 46 = .ok (.iload_n 3, 1) := by decide +kernel
theorem eX11_feed_47 : decode cX11_feed 47 = .ok (.invokevirtual 109, 3) := by decide +kernel
theorem eX11_feed_50 : decode cX11_feed 50 = .ok (.aload_n 0, 1) := by decide +kernel
theorem eX11_feed_51 : decode cX11_feed 51 = .ok (.getfield 10, 3) := by decide +kernel
theorem eX11_feed_54 : decode cX11_feed 54 = .ok (.getfield 99, 3) := by decide +kernel
theorem eX11_feed_57 : decode cX11_feed 57 = .ok (.iload 4, 2) := by decide +kernel
theorem eX11_feed_59 : decode cX11_feed 59 = .ok (.invokevirtual 109, 3) := by decide +kernel
theorem eX11_feed_62 : decode cX11_feed 62 = .ok (.aload_n 0, 1) := by decide +kernel
theorem eX11_feed_63 : decode cX11_feed 63 = .ok (.getfield 10, 3) := by decide +kernel
theorem eX11_feed_66 : decode cX11_feed 66 = .ok (.getfield 99, 3) := by decide +kernel
theorem eX11_feed_69 : decode cX11_feed 69 = .ok (.iload 5, 2) := by decide +kernel
theorem eX11_feed_71 : decode cX11_feed 71 = .ok (.invokevirtual 109, 3) := by decide +kernel
theorem eX11_feed_74 : decode cX11_feed 74 = .ok (.aload_n 0, 1) := by decide +kernel
theorem eX11_feed_75 : decode cX11_feed 75 = .ok (.getfield 10, 3) := by decide +kernel
theorem eX11_feed_78 : decode cX11_feed 78 = .ok (.getfield 99, 3) := by decide +kernel
theorem eX11_feed_81 : decode cX11_feed 81 = .ok (.getfield 113, 3) := by decide +kernel
theorem eX11_feed_84 : decode cX11_feed 84 = .ok (.ireturn, 1) := by decide +kernel
set_option maxRecDepth 100000 in
theorem m_11_feed (hU : ev_uq ty ev_TR) {C : ev_C} {x1 x2 x3 x4 x5 : Int} {r : Int} {C' : ev_C} (h : f_11_feed C x1 x2 x3 x4 x5 = some (r, C')) : ev_Met l D cys ty ck_tags ev_TR kh_11_feed [.inr (.inl 11), .inl x1, .inl x2, .inl x3, .inl x4, .inl x5] C (fun r0 C0 => r0 = some (.inl r) ∧ C0 = C') := by
  unfold f_11_feed at h
  refine ev_enter (by decide +kernel) (by decide +kernel) (Nat.le_of_ble_eq_true rfl) ?_
  show ev_W l D cys ty ck_tags ev_TR kh_11_feed 0 [(0, .inr (.inl 11)), (1, .inl x1), (2, .inl x2), (3, .inl x3), (4, .inl x4), (5, .inl x5)] [] C _
  refine ev_al eX11_feed_0 rfl ?_
  refine ev_getR lk_f (ci := 11) (j := 0) (cd := 3) eX11_feed_1 (isF (by decide +kernel)) rfl rfl ?_
  refine ev_getR lk_f (ci := 8) (j := 1) (cd := 3) eX11_feed_4 (isF (by decide +kernel)) rfl rfl ?_
  refine ev_bp eX11_feed_7 (by decide) (by decide) ?_
  obtain ⟨r1, C1, hq1, h⟩ := ev_bd_some h
  refine ev_callV (kc := kc_162) (A := [.inl 20]) (T := []) (lk_m.1 _ _ 0 [162, 163] (isM (by decide +kernel)) 162 (by decide)) eX11_feed_9 (m_10_hasRoom hU hq1) rfl rfl rfl (by decide) (by decide) (Nat.le_of_ble_eq_true rfl) ?_
  rintro _ C1 ⟨rfl, rfl⟩
  show ev_W l D cys ty ck_tags ev_TR kh_11_feed 12 [(0, .inr (.inl 11)), (1, .inl x1), (2, .inl x2), (3, .inl x3), (4, .inl x4), (5, .inl x5)] [.inl r1] C1 _
  refine ev_z_ne (tgt := 17) eX11_feed_12 (by decide) (fun hc2 => ?_) (fun hc2 => ?_)
  · rw [if_pos (show r1 ≠ 0 from hc2)] at h
    refine ev_al eX11_feed_17 rfl ?_
    refine ev_getR lk_f (ci := 11) (j := 0) (cd := 3) eX11_feed_18 (isF (by decide +kernel)) rfl rfl ?_
    refine ev_getR lk_f (ci := 8) (j := 1) (cd := 3) eX11_feed_21 (isF (by decide +kernel)) rfl rfl ?_
    refine ev_il eX11_feed_24 rfl ?_
    obtain ⟨C3, hq3, h⟩ := ev_bv_some h
    refine ev_callV (kc := kh_10_append) (A := [.inl x1]) (T := []) (lk_h (11, 109, 0, kh_10_append) (List.mem_of_getElem? (i := 2) rfl)) eX11_feed_25 (m_10_append hU hq3) rfl rfl rfl (by decide) (by decide) (Nat.le_of_ble_eq_true rfl) ?_
    rintro _ C3 ⟨rfl, rfl⟩
    show ev_W l D cys ty ck_tags ev_TR kh_11_feed 28 [(0, .inr (.inl 11)), (1, .inl x1), (2, .inl x2), (3, .inl x3), (4, .inl x4), (5, .inl x5)] [] C3 _
    refine ev_al eX11_feed_28 rfl ?_
    refine ev_getR lk_f (ci := 11) (j := 0) (cd := 3) eX11_feed_29 (isF (by decide +kernel)) rfl rfl ?_
    refine ev_getR lk_f (ci := 8) (j := 1) (cd := 3) eX11_feed_32 (isF (by decide +kernel)) rfl rfl ?_
    refine ev_il eX11_feed_35 rfl ?_
    obtain ⟨C4, hq4, h⟩ := ev_bv_some h
    refine ev_callV (kc := kh_10_append) (A := [.inl x2]) (T := []) (lk_h (11, 109, 0, kh_10_append) (List.mem_of_getElem? (i := 2) rfl)) eX11_feed_36 (m_10_append hU hq4) rfl rfl rfl (by decide) (by decide) (Nat.le_of_ble_eq_true rfl) ?_
    rintro _ C4 ⟨rfl, rfl⟩
    show ev_W l D cys ty ck_tags ev_TR kh_11_feed 39 [(0, .inr (.inl 11)), (1, .inl x1), (2, .inl x2), (3, .inl x3), (4, .inl x4), (5, .inl x5)] [] C4 _
    refine ev_al eX11_feed_39 rfl ?_
    refine ev_getR lk_f (ci := 11) (j := 0) (cd := 3) eX11_feed_40 (isF (by decide +kernel)) rfl rfl ?_
    refine ev_getR lk_f (ci := 8) (j := 1) (cd := 3) eX11_feed_43 (isF (by decide +kernel)) rfl rfl ?_
    refine ev_il eX11_feed_46 rfl ?_
    obtain ⟨C5, hq5, h⟩ := ev_bv_some h
    refine ev_callV (kc := kh_10_append) (A := [.inl x3]) (T := []) (lk_h (11, 109, 0, kh_10_append) (List.mem_of_getElem? (i := 2) rfl)) eX11_feed_47 (m_10_append hU hq5) rfl rfl rfl (by decide) (by decide) (Nat.le_of_ble_eq_true rfl) ?_
    rintro _ C5 ⟨rfl, rfl⟩
    show ev_W l D cys ty ck_tags ev_TR kh_11_feed 50 [(0, .inr (.inl 11)), (1, .inl x1), (2, .inl x2), (3, .inl x3), (4, .inl x4), (5, .inl x5)] [] C5 _
    refine ev_al eX11_feed_50 rfl ?_
    refine ev_getR lk_f (ci := 11) (j := 0) (cd := 3) eX11_feed_51 (isF (by decide +kernel)) rfl rfl ?_
    refine ev_getR lk_f (ci := 8) (j := 1) (cd := 3) eX11_feed_54 (isF (by decide +kernel)) rfl rfl ?_
    refine ev_ilw eX11_feed_57 rfl ?_
    obtain ⟨C6, hq6, h⟩ := ev_bv_some h
    refine ev_callV (kc := kh_10_append) (A := [.inl x4]) (T := []) (lk_h (11, 109, 0, kh_10_append) (List.mem_of_getElem? (i := 2) rfl)) eX11_feed_59 (m_10_append hU hq6) rfl rfl rfl (by decide) (by decide) (Nat.le_of_ble_eq_true rfl) ?_
    rintro _ C6 ⟨rfl, rfl⟩
    show ev_W l D cys ty ck_tags ev_TR kh_11_feed 62 [(0, .inr (.inl 11)), (1, .inl x1), (2, .inl x2), (3, .inl x3), (4, .inl x4), (5, .inl x5)] [] C6 _
    refine ev_al eX11_feed_62 rfl ?_
    refine ev_getR lk_f (ci := 11) (j := 0) (cd := 3) eX11_feed_63 (isF (by decide +kernel)) rfl rfl ?_
    refine ev_getR lk_f (ci := 8) (j := 1) (cd := 3) eX11_feed_66 (isF (by decide +kernel)) rfl rfl ?_
    refine ev_ilw eX11_feed_69 rfl ?_
    obtain ⟨C7, hq7, h⟩ := ev_bv_some h
    refine ev_callV (kc := kh_10_append) (A := [.inl x5]) (T := []) (lk_h (11, 109, 0, kh_10_append) (List.mem_of_getElem? (i := 2) rfl)) eX11_feed_71 (m_10_append hU hq7) rfl rfl rfl (by decide) (by decide) (Nat.le_of_ble_eq_true rfl) ?_
    rintro _ C7 ⟨rfl, rfl⟩
    show ev_W l D cys ty ck_tags ev_TR kh_11_feed 74 [(0, .inr (.inl 11)), (1, .inl x1), (2, .inl x2), (3, .inl x3), (4, .inl x4), (5, .inl x5)] [] C7 _
    refine ev_al eX11_feed_74 rfl ?_
    refine ev_getR lk_f (ci := 11) (j := 0) (cd := 3) eX11_feed_75 (isF (by decide +kernel)) rfl rfl ?_
    refine ev_getR lk_f (ci := 8) (j := 1) (cd := 3) eX11_feed_78 (isF (by decide +kernel)) rfl rfl ?_
    refine ev_getI lk_f (ci := 10) (j := 1) (cd := 0) eX11_feed_81 (isF (by decide +kernel)) rfl rfl rfl ?_
    cases h
    exact ev_iret eX11_feed_84 rfl ⟨rfl, rfl⟩
  · rw [if_neg (show ¬ (r1 ≠ 0) from hc2)] at h
    refine ev_ic eX11_feed_15 (by decide) ?_
    cases h
    exact ev_iret eX11_feed_16 rfl ⟨rfl, rfl⟩
theorem eX12_four_0 : decode cX12_four 0 = .ok (.bipush 24, 2) := by decide +kernel
theorem eX12_four_2 : decode cX12_four 2 = .ok (.istore_n 2, 1) := by decide +kernel
theorem eX12_four_3 : decode cX12_four 3 = .ok (.iload_n 2, 1) := by decide +kernel
theorem eX12_four_4 : decode cX12_four 4 = .ok (.ifCond .lt 32, 3) := by decide +kernel
theorem eX12_four_7 : decode cX12_four 7 = .ok (.aload_n 0, 1) := by decide +kernel
theorem eX12_four_8 : decode cX12_four 8 = .ok (.getfield 14, 3) := by decide +kernel
theorem eX12_four_11 : decode cX12_four 11 = .ok (.aload_n 0, 1) := by decide +kernel
theorem eX12_four_12 : decode cX12_four 12 = .ok (.getfield 7, 3) := by decide +kernel
theorem eX12_four_15 : decode cX12_four 15 = .ok (.iload_n 1, 1) := by decide +kernel
theorem eX12_four_16 : decode cX12_four 16 = .ok (.iload_n 2, 1) := by decide +kernel
theorem eX12_four_17 : decode cX12_four 17 = .ok (.ishr, 1) := by decide +kernel
theorem eX12_four_18 : decode cX12_four 18 = .ok (.i2b, 1) := by decide +kernel
theorem eX12_four_19 : decode cX12_four 19 = .ok (.bastore, 1) := by decide +kernel
theorem eX12_four_20 : decode cX12_four 20 = .ok (.aload_n 0, 1) := by decide +kernel
theorem eX12_four_21 : decode cX12_four 21 = .ok (.dup, 1) := by decide +kernel
theorem eX12_four_22 : decode cX12_four 22 = .ok (.getfield 7, 3) := by decide +kernel
theorem eX12_four_25 : decode cX12_four 25 = .ok (.iconst 1, 1) := by decide +kernel
theorem eX12_four_26 : decode cX12_four 26 = .ok (.iadd, 1) := by decide +kernel
theorem eX12_four_27 : decode cX12_four 27 = .ok (.putfield 7, 3) := by decide +kernel
theorem eX12_four_30 : decode cX12_four 30 = .ok (.iinc 2 (-8), 3) := by decide +kernel
theorem eX12_four_33 : decode cX12_four 33 = .ok (.goto (-30), 3) := by decide +kernel
theorem eX12_four_36 : decode cX12_four 36 = .ok (.return_, 1) := by decide +kernel
set_option maxRecDepth 100000 in
theorem m_12_four_L3 (hU : ev_uq ty ev_TR) : ∀ (n : Nat) {C : ev_C} {y1 y2 : Int} {C' : ev_C}, f_12_four_L3 n C y1 y2 = some C' → ev_W l D cys ty ck_tags ev_TR kh_12_four 3 [(0, .inr (.inl 12)), (1, .inl y1), (2, .inl y2)] [] C (fun r0 C0 => r0 = none ∧ C0 = C')
  | 0, _, _, _, _, h => by cases h
  | n + 1, C, y1, y2, _, h => by
    unfold f_12_four_L3 at h
    refine ev_il eX12_four_3 rfl ?_
    refine ev_z_lt (tgt := 36) eX12_four_4 (by decide) (fun hc1 => ?_) (fun hc1 => ?_)
    · rw [if_pos (show y2 < 0 from hc1)] at h
      cases h
      exact ev_vret eX12_four_36 rfl ⟨rfl, rfl⟩
    · rw [if_neg (show ¬ (y2 < 0) from hc1)] at h
      refine ev_al eX12_four_7 rfl ?_
      refine ev_getR lk_f (ci := 12) (j := 1) (cd := 3) eX12_four_8 (isF (by decide +kernel)) rfl rfl ?_
      refine ev_al eX12_four_11 rfl ?_
      refine ev_getI lk_f (ci := 12) (j := 2) (cd := 0) eX12_four_12 (isF (by decide +kernel)) rfl rfl rfl ?_
      refine ev_il eX12_four_15 rfl ?_
      refine ev_il eX12_four_16 rfl ?_
      refine ev_ishr eX12_four_17 ?_
      refine ev_i2b eX12_four_18 ?_
      obtain ⟨hb2, h⟩ := ev_gd h
      refine ev_bast hU eX12_four_19 rfl rfl hb2.1 hb2.2 ?_
      refine ev_al eX12_four_20 rfl ?_
      refine ev_dup eX12_four_21 rfl ?_
      refine ev_getI lk_f (ci := 12) (j := 2) (cd := 0) eX12_four_22 (isF (by decide +kernel)) rfl rfl rfl ?_
      refine ev_ic eX12_four_25 (by decide) ?_
      refine ev_add eX12_four_26 ?_
      refine ev_putI lk_f hU (ci := 12) (j := 2) (cd := 0) eX12_four_27 (isF (by decide +kernel)) rfl rfl (Or.inl rfl) rfl ?_
      refine ev_inc (L' := [(2, .inl (ev_w (y2 + (-8)))), (0, .inr (.inl 12)), (1, .inl y1)]) eX12_four_30 (by decide) (by decide) rfl rfl ?_
      refine ev_goto (tgt := 3) eX12_four_33 (by decide) ?_
      refine ev_loc (L' := [(0, .inr (.inl 12)), (1, .inl y1), (2, .inl (ev_w (y2 + (-8))))]) rfl ?_
      exact m_12_four_L3 hU n h
set_option maxRecDepth 100000 in
theorem m_12_four (hU : ev_uq ty ev_TR) {C : ev_C} {x1 : Int} {C' : ev_C} (h : f_12_four C x1 = some C') : ev_Met l D cys ty ck_tags ev_TR kh_12_four [.inr (.inl 12), .inl x1] C (fun r0 C0 => r0 = none ∧ C0 = C') := by
  unfold f_12_four at h
  refine ev_enter (by decide +kernel) (by decide +kernel) (Nat.le_of_ble_eq_true rfl) ?_
  show ev_W l D cys ty ck_tags ev_TR kh_12_four 0 [(0, .inr (.inl 12)), (1, .inl x1)] [] C _
  refine ev_bp eX12_four_0 (by decide) (by decide) ?_
  refine ev_is (L' := [(2, .inl 24), (0, .inr (.inl 12)), (1, .inl x1)]) eX12_four_2 (by decide) rfl ?_
  refine ev_loc (L' := [(0, .inr (.inl 12)), (1, .inl x1), (2, .inl 24)]) rfl ?_
  exact m_12_four_L3 hU 1000 h
theorem eX12_feed_0 : decode cX12_feed 0 = .ok (.aload_n 0, 1) := by decide +kernel
theorem eX12_feed_1 : decode cX12_feed 1 = .ok (.iconst 0, 1) := by decide +kernel
theorem eX12_feed_2 : decode cX12_feed 2 = .ok (.putfield 1, 3) := by decide +kernel
theorem eX12_feed_5 : decode cX12_feed 5 = .ok (.aload_n 0, 1) := by decide +kernel
theorem eX12_feed_6 : decode cX12_feed 6 = .ok (.getfield 7, 3) := by decide +kernel
theorem eX12_feed_9 : decode cX12_feed 9 = .ok (.bipush 20, 2) := by decide +kernel
theorem eX12_feed_11 : decode cX12_feed 11 = .ok (.iadd, 1) := by decide +kernel
theorem eX12_feed_12 : decode cX12_feed 12 = .ok (.sipush 940, 3) := by decide +kernel
theorem eX12_feed_15 : decode cX12_feed 15 = .ok (.if_icmp .le 5, 3) := by decide +kernel
theorem eX12_feed_18 : decode cX12_feed 18 = .ok (.iconst (-1), 1) := by decide +kernel
theorem eX12_feed_19 : decode cX12_feed 19 = .ok (.ireturn, 1) := by decide +kernel
theorem eX12_feed_20 : decode cX12_feed 20 = .ok (.aload_n 0, 1) := by decide +kernel
theorem eX12_feed_21 : decode cX12_feed 21 = .ok (.iload_n 1, 1) := by decide +kernel
theorem eX12_feed_22 : decode cX12_feed 22 = .ok (.invokevirtual 10, 3) := by decide +kernel
theorem eX12_feed_25 : decode cX12_feed 25 = .ok (.aload_n 0, 1) := by decide +kernel
theorem eX12_feed_26 : decode cX12_feed 26 = .ok (.iload_n 2, 1) := by decide +kernel
theorem eX12_feed_27 : decode cX12_feed 27 = .ok (.invokevirtual 10, 3) := by decide +kernel
theorem eX12_feed_30 : decode cX12_feed 30 = .ok (.aload_n 0, 1) := by decide +kernel
theorem eX12_feed_31 : decode cX12_feed 31 = .ok (.iload_n 3, 1) := by decide +kernel
theorem eX12_feed_32 : decode cX12_feed 32 = .ok (.invokevirtual 10, 3) := by decide +kernel
theorem eX12_feed_35 : decode cX12_feed 35 = .ok (.aload_n 0, 1) := by decide +kernel
theorem eX12_feed_36 : decode cX12_feed 36 = .ok (.iload 4, 2) := by decide +kernel
theorem eX12_feed_38 : decode cX12_feed 38 = .ok (.invokevirtual 10, 3) := by decide +kernel
theorem eX12_feed_41 : decode cX12_feed 41 = .ok (.aload_n 0, 1) := by decide +kernel
theorem eX12_feed_42 : decode cX12_feed 42 = .ok (.iload 5, 2) := by decide +kernel
theorem eX12_feed_44 : decode cX12_feed 44 = .ok (.invokevirtual 10, 3) := by decide +kernel
theorem eX12_feed_47 : decode cX12_feed 47 = .ok (.aload_n 0, 1) := by decide +kernel
theorem eX12_feed_48 : decode cX12_feed 48 = .ok (.getfield 7, 3) := by decide +kernel
theorem eX12_feed_51 : decode cX12_feed 51 = .ok (.ireturn, 1) := by decide +kernel
set_option maxRecDepth 100000 in
theorem m_12_feed (hU : ev_uq ty ev_TR) {C : ev_C} {x1 x2 x3 x4 x5 : Int} {r : Int} {C' : ev_C} (h : f_12_feed C x1 x2 x3 x4 x5 = some (r, C')) : ev_Met l D cys ty ck_tags ev_TR kh_12_feed [.inr (.inl 12), .inl x1, .inl x2, .inl x3, .inl x4, .inl x5] C (fun r0 C0 => r0 = some (.inl r) ∧ C0 = C') := by
  unfold f_12_feed at h
  refine ev_enter (by decide +kernel) (by decide +kernel) (Nat.le_of_ble_eq_true rfl) ?_
  show ev_W l D cys ty ck_tags ev_TR kh_12_feed 0 [(0, .inr (.inl 12)), (1, .inl x1), (2, .inl x2), (3, .inl x3), (4, .inl x4), (5, .inl x5)] [] C _
  refine ev_al eX12_feed_0 rfl ?_
  refine ev_ic eX12_feed_1 (by decide) ?_
  refine ev_putI lk_f hU (ci := 12) (j := 0) (cd := 0) eX12_feed_2 (isF (by decide +kernel)) rfl rfl (Or.inl rfl) rfl ?_
  refine ev_al eX12_feed_5 rfl ?_
  refine ev_getI lk_f (ci := 12) (j := 2) (cd := 0) eX12_feed_6 (isF (by decide +kernel)) rfl rfl rfl ?_
  refine ev_bp eX12_feed_9 (by decide) (by decide) ?_
  refine ev_add eX12_feed_11 ?_
  refine ev_sp eX12_feed_12 (by decide) (by decide) ?_
  refine ev_c_le (tgt := 20) eX12_feed_15 (by decide) (fun hc1 => ?_) (fun hc1 => ?_)
  · rw [if_pos (show ev_w (((C 12 2)) + (20 : Int)) ≤ 940 from hc1)] at h
    refine ev_al eX12_feed_20 rfl ?_
    refine ev_il eX12_feed_21 rfl ?_
    obtain ⟨C2, hq2, h⟩ := ev_bv_some h
    refine ev_callV (kc := kh_12_four) (A := [.inl x1]) (T := []) (lk_h (12, 10, 0, kh_12_four) (List.mem_of_getElem? (i := 8) rfl)) eX12_feed_22 (m_12_four hU hq2) rfl rfl rfl (by decide) (by decide) (Nat.le_of_ble_eq_true rfl) ?_
    rintro _ C2 ⟨rfl, rfl⟩
    show ev_W l D cys ty ck_tags ev_TR kh_12_feed 25 [(0, .inr (.inl 12)), (1, .inl x1), (2, .inl x2), (3, .inl x3), (4, .inl x4), (5, .inl x5)] [] C2 _
    refine ev_al eX12_feed_25 rfl ?_
    refine ev_il eX12_feed_26 rfl ?_
    obtain ⟨C3, hq3, h⟩ := ev_bv_some h
    refine ev_callV (kc := kh_12_four) (A := [.inl x2]) (T := []) (lk_h (12, 10, 0, kh_12_four) (List.mem_of_getElem? (i := 8) rfl)) eX12_feed_27 (m_12_four hU hq3) rfl rfl rfl (by decide) (by decide) (Nat.le_of_ble_eq_true rfl) ?_
    rintro _ C3 ⟨rfl, rfl⟩
    show ev_W l D cys ty ck_tags ev_TR kh_12_feed 30 [(0, .inr (.inl 12)), (1, .inl x1), (2, .inl x2), (3, .inl x3), (4, .inl x4), (5, .inl x5)] [] C3 _
    refine ev_al eX12_feed_30 rfl ?_
    refine ev_il eX12_feed_31 rfl ?_
    obtain ⟨C4, hq4, h⟩ := ev_bv_some h
    refine ev_callV (kc := kh_12_four) (A := [.inl x3]) (T := []) (lk_h (12, 10, 0, kh_12_four) (List.mem_of_getElem? (i := 8) rfl)) eX12_feed_32 (m_12_four hU hq4) rfl rfl rfl (by decide) (by decide) (Nat.le_of_ble_eq_true rfl) ?_
    rintro _ C4 ⟨rfl, rfl⟩
    show ev_W l D cys ty ck_tags ev_TR kh_12_feed 35 [(0, .inr (.inl 12)), (1, .inl x1), (2, .inl x2), (3, .inl x3), (4, .inl x4), (5, .inl x5)] [] C4 _
    refine ev_al eX12_feed_35 rfl ?_
    refine ev_ilw eX12_feed_36 rfl ?_
    obtain ⟨C5, hq5, h⟩ := ev_bv_some h
    refine ev_callV (kc := kh_12_four) (A := [.inl x4]) (T := []) (lk_h (12, 10, 0, kh_12_four) (List.mem_of_getElem? (i := 8) rfl)) eX12_feed_38 (m_12_four hU hq5) rfl rfl rfl (by decide) (by decide) (Nat.le_of_ble_eq_true rfl) ?_
    rintro _ C5 ⟨rfl, rfl⟩
    show ev_W l D cys ty ck_tags ev_TR kh_12_feed 41 [(0, .inr (.inl 12)), (1, .inl x1), (2, .inl x2), (3, .inl x3), (4, .inl x4), (5, .inl x5)] [] C5 _
    refine ev_al eX12_feed_41 rfl ?_
    refine ev_ilw eX12_feed_42 rfl ?_
    obtain ⟨C6, hq6, h⟩ := ev_bv_some h
    refine ev_callV (kc := kh_12_four) (A := [.inl x5]) (T := []) (lk_h (12, 10, 0, kh_12_four) (List.mem_of_getElem? (i := 8) rfl)) eX12_feed_44 (m_12_four hU hq6) rfl rfl rfl (by decide) (by decide) (Nat.le_of_ble_eq_true rfl) ?_
    rintro _ C6 ⟨rfl, rfl⟩
    show ev_W l D cys ty ck_tags ev_TR kh_12_feed 47 [(0, .inr (.inl 12)), (1, .inl x1), (2, .inl x2), (3, .inl x3), (4, .inl x4), (5, .inl x5)] [] C6 _
    refine ev_al eX12_feed_47 rfl ?_
    refine ev_getI lk_f (ci := 12) (j := 2) (cd := 0) eX12_feed_48 (isF (by decide +kernel)) rfl rfl rfl ?_
    cases h
    exact ev_iret eX12_feed_51 rfl ⟨rfl, rfl⟩
  · rw [if_neg (show ¬ (ev_w (((C 12 2)) + (20 : Int)) ≤ 940) from hc1)] at h
    refine ev_ic eX12_feed_18 (by decide) ?_
    cases h
    exact ev_iret eX12_feed_19 rfl ⟨rfl, rfl⟩
end GX
