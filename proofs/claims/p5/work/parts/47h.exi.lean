/-! THE EXACT LOGIC: image() and restore() of the reference (printed by a program of ours). -/
section GX
variable {l : Launch} {D : va_G} {cys : Nat → ClassId} {ty : Nat → Option Nat}
theorem eX12_image_0 : decode cX12_image 0 = .ok (.aload_n 0, 1) := by decide +kernel
theorem eX12_image_1 : decode cX12_image 1 = .ok (.iconst 0, 1) := by decide +kernel
theorem eX12_image_2 : decode cX12_image 2 = .ok (.putfield 1, 3) := by decide +kernel
theorem eX12_image_5 : decode cX12_image 5 = .ok (.iload_n 1, 1) := by decide +kernel
theorem eX12_image_6 : decode cX12_image 6 = .ok (.iconst 0, 1) := by decide +kernel
theorem eX12_image_7 : decode cX12_image 7 = .ok (.iconst 1, 1) := by decide +kernel
theorem eX12_image_8 : decode cX12_image 8 = .ok (.invokestatic 198, 3) := by decide +kernel
theorem eX12_image_11 : decode cX12_image 11 = .ok (.ifCond .ne 5, 3) := by decide +kernel
theorem eX12_image_14 : decode cX12_image 14 = .ok (.iconst 0, 1) := by decide +kernel
theorem eX12_image_15 : decode cX12_image 15 = .ok (.ireturn, 1) := by decide +kernel
theorem eX12_image_16 : decode cX12_image 16 = .ok (.iconst 0, 1) := by decide +kernel
theorem eX12_image_17 : decode cX12_image 17 = .ok (.istore_n 2, 1) := by decide +kernel
theorem eX12_image_18 : decode cX12_image 18 = .ok (.iload_n 2, 1) := by decide +kernel
theorem eX12_image_19 : decode cX12_image 19 = .ok (.sipush 367, 3) := by decide +kernel
theorem eX12_image_22 : decode cX12_image 22 = .ok (.if_icmp .ge 27, 3) := by decide +kernel
theorem eX12_image_25 : decode cX12_image 25 = .ok (.aload_n 0, 1) := by decide +kernel
theorem eX12_image_26 : decode cX12_image 26 = .ok (.getfield 93, 3) := by decide +kernel
theorem eX12_image_29 : decode cX12_image 29 = .ok (.sipush 367, 3) := by decide +kernel
theorem eX12_image_32 : decode cX12_image 32 = .ok (.iload_n 1, 1) := by decide +kernel
theorem eX12_image_33 : decode cX12_image 33 = .ok (.imul, 1) := by decide +kernel
theorem eX12_image_34 : decode cX12_image 34 = .ok (.iload_n 2, 1) := by decide +kernel
theorem eX12_image_35 : decode cX12_image 35 = .ok (.iadd, 1) := by decide +kernel
theorem eX12_image_36 : decode cX12_image 36 = .ok (.aload_n 0, 1) := by decide +kernel
theorem eX12_image_37 : decode cX12_image 37 = .ok (.getfield 33, 3) := by decide +kernel
theorem eX12_image_40 : decode cX12_image 40 = .ok (.iload_n 2, 1) := by decide +kernel
theorem eX12_image_41 : decode cX12_image 41 = .ok (.iaload, 1) := by decide +kernel
theorem eX12_image_42 : decode cX12_image 42 = .ok (.iastore, 1) := by decide +kernel
theorem eX12_image_43 : decode cX12_image 43 = .ok (.iinc 2 1, 3) := by decide +kernel
theorem eX12_image_46 : decode cX12_image 46 = .ok (.goto (-28), 3) := by decide +kernel
theorem eX12_image_49 : decode cX12_image 49 = .ok (.iconst 0, 1) := by decide +kernel
theorem eX12_image_50 : decode cX12_image 50 = .ok (.istore_n 2, 1) := by decide +kernel
theorem eX12_image_51 : decode cX12_image 51 = .ok (.iload_n 2, 1) := by decide +kernel
theorem eX12_image_52 : decode cX12_image 52 = .ok (.bipush 20, 2) := by decide +kernel
theorem eX12_image_54 : decode cX12_image 54 = .ok (.if_icmp .ge 26, 3) := by decide +kernel
theorem eX12_image_57 : decode cX12_image 57 = .ok (.aload_n 0, 1) := by decide +kernel
theorem eX12_image_58 : decode cX12_image 58 = .ok (.getfield 96, 3) := by decide +kernel
theorem eX12_image_61 : decode cX12_image 61 = .ok (.bipush 20, 2) := by decide +kernel
theorem eX12_image_63 : decode cX12_image 63 = .ok (.iload_n 1, 1) := by decide +kernel
theorem eX12_image_64 : decode cX12_image 64 = .ok (.imul, 1) := by decide +kernel
theorem eX12_image_65 : decode cX12_image 65 = .ok (.iload_n 2, 1) := by decide +kernel
theorem eX12_image_66 : decode cX12_image 66 = .ok (.iadd, 1) := by decide +kernel
theorem eX12_image_67 : decode cX12_image 67 = .ok (.aload_n 0, 1) := by decide +kernel
theorem eX12_image_68 : decode cX12_image 68 = .ok (.getfield 43, 3) := by decide +kernel
theorem eX12_image_71 : decode cX12_image 71 = .ok (.iload_n 2, 1) := by decide +kernel
theorem eX12_image_72 : decode cX12_image 72 = .ok (.laload, 1) := by decide +kernel
theorem eX12_image_73 : decode cX12_image 73 = .ok (.lastore, 1) := by decide +kernel
theorem eX12_image_74 : decode cX12_image 74 = .ok (.iinc 2 1, 3) := by decide +kernel
theorem eX12_image_77 : decode cX12_image 77 = .ok (.goto (-26), 3) := by decide +kernel
theorem eX12_image_80 : decode cX12_image 80 = .ok (.aload_n 0, 1) := by decide +kernel
theorem eX12_image_81 : decode cX12_image 81 = .ok (.getfield 99, 3) := by decide +kernel
theorem eX12_image_84 : decode cX12_image 84 = .ok (.iload_n 1, 1) := by decide +kernel
theorem eX12_image_85 : decode cX12_image 85 = .ok (.iconst 1, 1) := by decide +kernel
theorem eX12_image_86 : decode cX12_image 86 = .ok (.bastore, 1) := by decide +kernel
theorem eX12_image_87 : decode cX12_image 87 = .ok (.iconst 1, 1) := by decide +kernel
theorem eX12_image_88 : decode cX12_image 88 = .ok (.ireturn, 1) := by decide +kernel
set_option maxRecDepth 100000 in
theorem m_12_image_k0_L51 (hU : ev_uq ty ev_TR) : ∀ (n : Nat) {C : ev_C} {y1 y2 : Int} {r : Int} {C' : ev_C}, f_12_image_k0_L51 n C y1 y2 = some (r, C') → ev_W l D cys ty ck_tags ev_TR kh_12_image_0 51 [(0, .inr (.inl 12)), (1, .inl y1), (2, .inl y2)] [] C (fun r0 C0 => r0 = some (.inl r) ∧ C0 = C')
  | 0, _, _, _, _, _, h => by cases h
  | n + 1, C, y1, y2, _, _, h => by
    unfold f_12_image_k0_L51 at h
    refine ev_il eX12_image_51 rfl ?_
    refine ev_bp eX12_image_52 (by decide) (by decide) ?_
    refine ev_c_ge (tgt := 80) eX12_image_54 (by decide) (fun hc4 => ?_) (fun hc4 => ?_)
    · rw [if_pos (show 20 ≤ y2 from hc4)] at h
      refine ev_al eX12_image_80 rfl ?_
      refine ev_getR lk_f (ci := 12) (j := 53) (cd := 3) eX12_image_81 (isF (by decide +kernel)) rfl rfl ?_
      refine ev_il eX12_image_84 rfl ?_
      refine ev_ic eX12_image_85 (by decide) ?_
      obtain ⟨hb5, h⟩ := ev_gd h
      refine ev_zast hU eX12_image_86 rfl rfl hb5.1 hb5.2 ⟨by decide, by decide⟩ ?_
      refine ev_ic eX12_image_87 (by decide) ?_
      cases h
      exact ev_zret eX12_image_88 rfl (by decide) ⟨rfl, rfl⟩
    · rw [if_neg (show ¬ (20 ≤ y2) from hc4)] at h
      refine ev_al eX12_image_57 rfl ?_
      refine ev_getR lk_f (ci := 12) (j := 52) (cd := 3) eX12_image_58 (isF (by decide +kernel)) rfl rfl ?_
      refine ev_bp eX12_image_61 (by decide) (by decide) ?_
      refine ev_il eX12_image_63 rfl ?_
      refine ev_mul eX12_image_64 ?_
      refine ev_il eX12_image_65 rfl ?_
      refine ev_add eX12_image_66 ?_
      refine ev_al eX12_image_67 rfl ?_
      refine ev_getR lk_f (ci := 12) (j := 9) (cd := 3) eX12_image_68 (isF (by decide +kernel)) rfl rfl ?_
      refine ev_il eX12_image_71 rfl ?_
      obtain ⟨hb6, h⟩ := ev_gd h
      refine ev_lald eX12_image_72 rfl rfl hb6.1 hb6.2 ?_
      obtain ⟨hb7, h⟩ := ev_gd h
      refine ev_last hU eX12_image_73 rfl rfl hb7.1 hb7.2 ?_
      refine ev_inc (L' := [(2, .inl (ev_w (y2 + 1))), (0, .inr (.inl 12)), (1, .inl y1)]) eX12_image_74 (by decide) (by decide) rfl rfl ?_
      refine ev_goto (tgt := 51) eX12_image_77 (by decide) ?_
      refine ev_loc (L' := [(0, .inr (.inl 12)), (1, .inl y1), (2, .inl (ev_w (y2 + 1)))]) rfl ?_
      exact m_12_image_k0_L51 hU n h
set_option maxRecDepth 100000 in
theorem m_12_image_k0_L18 (hU : ev_uq ty ev_TR) : ∀ (n : Nat) {C : ev_C} {y1 y2 : Int} {r : Int} {C' : ev_C}, f_12_image_k0_L18 n C y1 y2 = some (r, C') → ev_W l D cys ty ck_tags ev_TR kh_12_image_0 18 [(0, .inr (.inl 12)), (1, .inl y1), (2, .inl y2)] [] C (fun r0 C0 => r0 = some (.inl r) ∧ C0 = C')
  | 0, _, _, _, _, _, h => by cases h
  | n + 1, C, y1, y2, _, _, h => by
    unfold f_12_image_k0_L18 at h
    refine ev_il eX12_image_18 rfl ?_
    refine ev_sp eX12_image_19 (by decide) (by decide) ?_
    refine ev_c_ge (tgt := 49) eX12_image_22 (by decide) (fun hc3 => ?_) (fun hc3 => ?_)
    · rw [if_pos (show 367 ≤ y2 from hc3)] at h
      refine ev_ic eX12_image_49 (by decide) ?_
      refine ev_is (L' := [(2, .inl 0), (0, .inr (.inl 12)), (1, .inl y1)]) eX12_image_50 (by decide) rfl ?_
      refine ev_loc (L' := [(0, .inr (.inl 12)), (1, .inl y1), (2, .inl 0)]) rfl ?_
      exact m_12_image_k0_L51 hU 1000 h
    · rw [if_neg (show ¬ (367 ≤ y2) from hc3)] at h
      refine ev_al eX12_image_25 rfl ?_
      refine ev_getR lk_f (ci := 12) (j := 51) (cd := 3) eX12_image_26 (isF (by decide +kernel)) rfl rfl ?_
      refine ev_sp eX12_image_29 (by decide) (by decide) ?_
      refine ev_il eX12_image_32 rfl ?_
      refine ev_mul eX12_image_33 ?_
      refine ev_il eX12_image_34 rfl ?_
      refine ev_add eX12_image_35 ?_
      refine ev_al eX12_image_36 rfl ?_
      refine ev_getR lk_f (ci := 12) (j := 6) (cd := 3) eX12_image_37 (isF (by decide +kernel)) rfl rfl ?_
      refine ev_il eX12_image_40 rfl ?_
      obtain ⟨hb8, h⟩ := ev_gd h
      refine ev_iald eX12_image_41 rfl rfl hb8.1 hb8.2 ?_
      obtain ⟨hb9, h⟩ := ev_gd h
      refine ev_iast hU eX12_image_42 rfl rfl hb9.1 hb9.2 ?_
      refine ev_inc (L' := [(2, .inl (ev_w (y2 + 1))), (0, .inr (.inl 12)), (1, .inl y1)]) eX12_image_43 (by decide) (by decide) rfl rfl ?_
      refine ev_goto (tgt := 18) eX12_image_46 (by decide) ?_
      refine ev_loc (L' := [(0, .inr (.inl 12)), (1, .inl y1), (2, .inl (ev_w (y2 + 1)))]) rfl ?_
      exact m_12_image_k0_L18 hU n h
set_option maxRecDepth 100000 in
theorem m_12_image_k0 (hU : ev_uq ty ev_TR) {C : ev_C} {r : Int} {C' : ev_C} (h : f_12_image_k0 C = some (r, C')) : ev_Met l D cys ty ck_tags ev_TR kh_12_image_0 [.inr (.inl 12), .inl 0] C (fun r0 C0 => r0 = some (.inl r) ∧ C0 = C') := by
  unfold f_12_image_k0 at h
  refine ev_enter (by decide +kernel) (by decide +kernel) (Nat.le_of_ble_eq_true rfl) ?_
  show ev_W l D cys ty ck_tags ev_TR kh_12_image_0 0 [(0, .inr (.inl 12)), (1, .inl 0)] [] C _
  refine ev_al eX12_image_0 rfl ?_
  refine ev_ic eX12_image_1 (by decide) ?_
  refine ev_putI lk_f hU (ci := 12) (j := 0) (cd := 0) eX12_image_2 (isF (by decide +kernel)) rfl rfl (Or.inl rfl) rfl ?_
  refine ev_il eX12_image_5 rfl ?_
  refine ev_ic eX12_image_6 (by decide) ?_
  refine ev_ic eX12_image_7 (by decide) ?_
  obtain ⟨r1, C1, hq1, h⟩ := ev_bd_some h
  refine ev_callS (kc := kc_190) (A := [.inl 0, .inl 0, .inl 1]) (T := []) (lk_m.1 _ _ 1 [190, 191, 192, 193, 194, 195, 196, 197, 198, 199] (isM (by decide +kernel)) 190 (by decide)) eX12_image_8 (m_12_isIn hU hq1) rfl rfl (by decide) (by decide) (Nat.le_of_ble_eq_true rfl) ?_
  rintro _ C1 ⟨rfl, rfl⟩
  show ev_W l D cys ty ck_tags ev_TR kh_12_image_0 11 [(0, .inr (.inl 12)), (1, .inl 0)] [.inl r1] C1 _
  refine ev_z_ne (tgt := 16) eX12_image_11 (by decide) (fun hc2 => ?_) (fun hc2 => ?_)
  · rw [if_pos (show r1 ≠ 0 from hc2)] at h
    refine ev_ic eX12_image_16 (by decide) ?_
    refine ev_is (L' := [(2, .inl 0), (0, .inr (.inl 12)), (1, .inl 0)]) eX12_image_17 (by decide) rfl ?_
    refine ev_loc (L' := [(0, .inr (.inl 12)), (1, .inl 0), (2, .inl 0)]) rfl ?_
    exact m_12_image_k0_L18 hU 1000 h
  · rw [if_neg (show ¬ (r1 ≠ 0) from hc2)] at h
    refine ev_ic eX12_image_14 (by decide) ?_
    cases h
    exact ev_zret eX12_image_15 rfl (by decide) ⟨rfl, rfl⟩
theorem eX12_restore_0 : decode cX12_restore 0 = .ok (.aload_n 0, 1) := by decide +kernel
theorem eX12_restore_1 : decode cX12_restore 1 = .ok (.iconst 0, 1) := by decide +kernel
theorem eX12_restore_2 : decode cX12_restore 2 = .ok (.putfield 1, 3) := by decide +kernel
theorem eX12_restore_5 : decode cX12_restore 5 = .ok (.iload_n 1, 1) := by decide +kernel
theorem eX12_restore_6 : decode cX12_restore 6 = .ok (.iconst 0, 1) := by decide +kernel
theorem eX12_restore_7 : decode cX12_restore 7 = .ok (.iconst 1, 1) := by decide +kernel
theorem eX12_restore_8 : decode cX12_restore 8 = .ok (.invokestatic 198, 3) := by decide +kernel
theorem eX12_restore_11 : decode cX12_restore 11 = .ok (.ifCond .eq 12, 3) := by decide +kernel
theorem eX12_restore_14 : decode cX12_restore 14 = .ok (.aload_n 0, 1) := by decide +kernel
theorem eX12_restore_15 : decode cX12_restore 15 = .ok (.getfield 99, 3) := by decide +kernel
theorem eX12_restore_18 : decode cX12_restore 18 = .ok (.iload_n 1, 1) := by decide +kernel
theorem eX12_restore_19 : decode cX12_restore 19 = .ok (.baload, 1) := by decide +kernel
theorem eX12_restore_20 : decode cX12_restore 20 = .ok (.ifCond .ne 5, 3) := by decide +kernel
theorem eX12_restore_23 : decode cX12_restore 23 = .ok (.iconst 0, 1) := by decide +kernel
theorem eX12_restore_24 : decode cX12_restore 24 = .ok (.ireturn, 1) := by decide +kernel
theorem eX12_restore_25 : decode cX12_restore 25 = .ok (.iconst 0, 1) := by decide +kernel
theorem eX12_restore_26 : decode cX12_restore 26 = .ok (.istore_n 2, 1) := by decide +kernel
theorem eX12_restore_27 : decode cX12_restore 27 = .ok (.iload_n 2, 1) := by decide +kernel
theorem eX12_restore_28 : decode cX12_restore 28 = .ok (.sipush 367, 3) := by decide +kernel
theorem eX12_restore_31 : decode cX12_restore 31 = .ok (.if_icmp .ge 27, 3) := by decide +kernel
theorem eX12_restore_34 : decode cX12_restore 34 = .ok (.aload_n 0, 1) := by decide +kernel
theorem eX12_restore_35 : decode cX12_restore 35 = .ok (.getfield 33, 3) := by decide +kernel
theorem eX12_restore_38 : decode cX12_restore 38 = .ok (.iload_n 2, 1) := by decide +kernel
theorem eX12_restore_39 : decode cX12_restore 39 = .ok (.aload_n 0, 1) := by decide +kernel
theorem eX12_restore_40 : decode cX12_restore 40 = .ok (.getfield 93, 3) := by decide +kernel
theorem eX12_restore_43 : decode cX12_restore 43 = .ok (.sipush 367, 3) := by decide +kernel
theorem eX12_restore_46 : decode cX12_restore 46 = .ok (.iload_n 1, 1) := by decide +kernel
theorem eX12_restore_47 : decode cX12_restore 47 = .ok (.imul, 1) := by decide +kernel
theorem eX12_restore_48 : decode cX12_restore 48 = .ok (.iload_n 2, 1) := by decide +kernel
theorem eX12_restore_49 : decode cX12_restore 49 = .ok (.iadd, 1) := by decide +kernel
theorem eX12_restore_50 : decode cX12_restore 50 = .ok (.iaload, 1) := by decide +kernel
theorem eX12_restore_51 : decode cX12_restore 51 = .ok (.iastore, 1) := by decide +kernel
theorem eX12_restore_52 : decode cX12_restore 52 = .ok (.iinc 2 1, 3) := by decide +kernel
theorem eX12_restore_55 : decode cX12_restore 55 = .ok (.goto (-28), 3) := by decide +kernel
theorem eX12_restore_58 : decode cX12_restore 58 = .ok (.iconst 0, 1) := by decide +kernel
theorem eX12_restore_59 : decode cX12_restore 59 = .ok (.istore_n 2, 1) := by decide +kernel
theorem eX12_restore_60 : decode cX12_restore 60 = .ok (.iload_n 2, 1) := by decide +kernel
theorem eX12_restore_61 : decode cX12_restore 61 = .ok (.bipush 20, 2) := by decide +kernel
theorem eX12_restore_63 : decode cX12_restore 63 = .ok (.if_icmp .ge 26, 3) := by decide +kernel
theorem eX12_restore_66 : decode cX12_restore 66 = .ok (.aload_n 0, 1) := by decide +kernel
theorem eX12_restore_67 : decode cX12_restore 67 = .ok (.getfield 43, 3) := by decide +kernel
theorem eX12_restore_70 : decode cX12_restore 70 = .ok (.iload_n 2, 1) := by decide +kernel
theorem eX12_restore_71 : decode cX12_restore 71 = .ok (.aload_n 0, 1) := by decide +kernel
theorem eX12_restore_72 : decode cX12_restore 72 = .ok (.getfield 96, 3) := by decide +kernel
theorem eX12_restore_75 : decode cX12_restore 75 = .ok (.bipush 20, 2) := by decide +kernel
theorem eX12_restore_77 : decode cX12_restore 77 = .ok (.iload_n 1, 1) := by decide +kernel
theorem eX12_restore_78 : decode cX12_restore 78 = .ok (.imul, 1) := by decide +kernel
theorem eX12_restore_79 : decode cX12_restore 79 = .ok (.iload_n 2, 1) := by decide +kernel
theorem eX12_restore_80 : decode cX12_restore 80 = .ok (.iadd, 1) := by decide +kernel
theorem eX12_restore_81 : decode cX12_restore 81 = .ok (.laload, 1) := by decide +kernel
theorem eX12_restore_82 : decode cX12_restore 82 = .ok (.lastore, 1) := by decide +kernel
theorem eX12_restore_83 : decode cX12_restore 83 = .ok (.iinc 2 1, 3) := by decide +kernel
theorem eX12_restore_86 : decode cX12_restore 86 = .ok (.goto (-26), 3) := by decide +kernel
theorem eX12_restore_89 : decode cX12_restore 89 = .ok (.aload_n 0, 1) := by decide +kernel
theorem eX12_restore_90 : decode cX12_restore 90 = .ok (.iconst 0, 1) := by decide +kernel
theorem eX12_restore_91 : decode cX12_restore 91 = .ok (.putfield 254, 3) := by decide +kernel
theorem eX12_restore_94 : decode cX12_restore 94 = .ok (.iconst 1, 1) := by decide +kernel
theorem eX12_restore_95 : decode cX12_restore 95 = .ok (.ireturn, 1) := by decide +kernel
set_option maxRecDepth 100000 in
theorem m_12_restore_k0_L60 (hU : ev_uq ty ev_TR) : ∀ (n : Nat) {C : ev_C} {y1 y2 : Int} {r : Int} {C' : ev_C}, f_12_restore_k0_L60 n C y1 y2 = some (r, C') → ev_W l D cys ty ck_tags ev_TR kh_12_restore_0 60 [(0, .inr (.inl 12)), (1, .inl y1), (2, .inl y2)] [] C (fun r0 C0 => r0 = some (.inl r) ∧ C0 = C')
  | 0, _, _, _, _, _, h => by cases h
  | n + 1, C, y1, y2, _, _, h => by
    unfold f_12_restore_k0_L60 at h
    refine ev_il eX12_restore_60 rfl ?_
    refine ev_bp eX12_restore_61 (by decide) (by decide) ?_
    refine ev_c_ge (tgt := 89) eX12_restore_63 (by decide) (fun hc5 => ?_) (fun hc5 => ?_)
    · rw [if_pos (show 20 ≤ y2 from hc5)] at h
      refine ev_al eX12_restore_89 rfl ?_
      refine ev_ic eX12_restore_90 (by decide) ?_
      refine ev_putI lk_f hU (ci := 12) (j := 22) (cd := 0) eX12_restore_91 (isF (by decide +kernel)) rfl rfl (Or.inl rfl) rfl ?_
      refine ev_ic eX12_restore_94 (by decide) ?_
      cases h
      exact ev_zret eX12_restore_95 rfl (by decide) ⟨rfl, rfl⟩
    · rw [if_neg (show ¬ (20 ≤ y2) from hc5)] at h
      refine ev_al eX12_restore_66 rfl ?_
      refine ev_getR lk_f (ci := 12) (j := 9) (cd := 3) eX12_restore_67 (isF (by decide +kernel)) rfl rfl ?_
      refine ev_il eX12_restore_70 rfl ?_
      refine ev_al eX12_restore_71 rfl ?_
      refine ev_getR lk_f (ci := 12) (j := 52) (cd := 3) eX12_restore_72 (isF (by decide +kernel)) rfl rfl ?_
      refine ev_bp eX12_restore_75 (by decide) (by decide) ?_
      refine ev_il eX12_restore_77 rfl ?_
      refine ev_mul eX12_restore_78 ?_
      refine ev_il eX12_restore_79 rfl ?_
      refine ev_add eX12_restore_80 ?_
      obtain ⟨hb6, h⟩ := ev_gd h
      refine ev_lald eX12_restore_81 rfl rfl hb6.1 hb6.2 ?_
      obtain ⟨hb7, h⟩ := ev_gd h
      refine ev_last hU eX12_restore_82 rfl rfl hb7.1 hb7.2 ?_
      refine ev_inc (L' := [(2, .inl (ev_w (y2 + 1))), (0, .inr (.inl 12)), (1, .inl y1)]) eX12_restore_83 (by decide) (by decide) rfl rfl ?_
      refine ev_goto (tgt := 60) eX12_restore_86 (by decide) ?_
      refine ev_loc (L' := [(0, .inr (.inl 12)), (1, .inl y1), (2, .inl (ev_w (y2 + 1)))]) rfl ?_
      exact m_12_restore_k0_L60 hU n h
set_option maxRecDepth 100000 in
theorem m_12_restore_k0_L27 (hU : ev_uq ty ev_TR) : ∀ (n : Nat) {C : ev_C} {y1 y2 : Int} {r : Int} {C' : ev_C}, f_12_restore_k0_L27 n C y1 y2 = some (r, C') → ev_W l D cys ty ck_tags ev_TR kh_12_restore_0 27 [(0, .inr (.inl 12)), (1, .inl y1), (2, .inl y2)] [] C (fun r0 C0 => r0 = some (.inl r) ∧ C0 = C')
  | 0, _, _, _, _, _, h => by cases h
  | n + 1, C, y1, y2, _, _, h => by
    unfold f_12_restore_k0_L27 at h
    refine ev_il eX12_restore_27 rfl ?_
    refine ev_sp eX12_restore_28 (by decide) (by decide) ?_
    refine ev_c_ge (tgt := 58) eX12_restore_31 (by decide) (fun hc4 => ?_) (fun hc4 => ?_)
    · rw [if_pos (show 367 ≤ y2 from hc4)] at h
      refine ev_ic eX12_restore_58 (by decide) ?_
      refine ev_is (L' := [(2, .inl 0), (0, .inr (.inl 12)), (1, .inl y1)]) eX12_restore_59 (by decide) rfl ?_
      refine ev_loc (L' := [(0, .inr (.inl 12)), (1, .inl y1), (2, .inl 0)]) rfl ?_
      exact m_12_restore_k0_L60 hU 1000 h
    · rw [if_neg (show ¬ (367 ≤ y2) from hc4)] at h
      refine ev_al eX12_restore_34 rfl ?_
      refine ev_getR lk_f (ci := 12) (j := 6) (cd := 3) eX12_restore_35 (isF (by decide +kernel)) rfl rfl ?_
      refine ev_il eX12_restore_38 rfl ?_
      refine ev_al eX12_restore_39 rfl ?_
      refine ev_getR lk_f (ci := 12) (j := 51) (cd := 3) eX12_restore_40 (isF (by decide +kernel)) rfl rfl ?_
      refine ev_sp eX12_restore_43 (by decide) (by decide) ?_
      refine ev_il eX12_restore_46 rfl ?_
      refine ev_mul eX12_restore_47 ?_
      refine ev_il eX12_restore_48 rfl ?_
      refine ev_add eX12_restore_49 ?_
      obtain ⟨hb8, h⟩ := ev_gd h
      refine ev_iald eX12_restore_50 rfl rfl hb8.1 hb8.2 ?_
      obtain ⟨hb9, h⟩ := ev_gd h
      refine ev_iast hU eX12_restore_51 rfl rfl hb9.1 hb9.2 ?_
      refine ev_inc (L' := [(2, .inl (ev_w (y2 + 1))), (0, .inr (.inl 12)), (1, .inl y1)]) eX12_restore_52 (by decide) (by decide) rfl rfl ?_
      refine ev_goto (tgt := 27) eX12_restore_55 (by decide) ?_
      refine ev_loc (L' := [(0, .inr (.inl 12)), (1, .inl y1), (2, .inl (ev_w (y2 + 1)))]) rfl ?_
      exact m_12_restore_k0_L27 hU n h
set_option maxRecDepth 100000 in
theorem m_12_restore_k0 (hU : ev_uq ty ev_TR) {C : ev_C} {r : Int} {C' : ev_C} (h : f_12_restore_k0 C = some (r, C')) : ev_Met l D cys ty ck_tags ev_TR kh_12_restore_0 [.inr (.inl 12), .inl 0] C (fun r0 C0 => r0 = some (.inl r) ∧ C0 = C') := by
  unfold f_12_restore_k0 at h
  refine ev_enter (by decide +kernel) (by decide +kernel) (Nat.le_of_ble_eq_true rfl) ?_
  show ev_W l D cys ty ck_tags ev_TR kh_12_restore_0 0 [(0, .inr (.inl 12)), (1, .inl 0)] [] C _
  refine ev_al eX12_restore_0 rfl ?_
  refine ev_ic eX12_restore_1 (by decide) ?_
  refine ev_putI lk_f hU (ci := 12) (j := 0) (cd := 0) eX12_restore_2 (isF (by decide +kernel)) rfl rfl (Or.inl rfl) rfl ?_
  refine ev_il eX12_restore_5 rfl ?_
  refine ev_ic eX12_restore_6 (by decide) ?_
  refine ev_ic eX12_restore_7 (by decide) ?_
  obtain ⟨r1, C1, hq1, h⟩ := ev_bd_some h
  refine ev_callS (kc := kc_190) (A := [.inl 0, .inl 0, .inl 1]) (T := []) (lk_m.1 _ _ 1 [190, 191, 192, 193, 194, 195, 196, 197, 198, 199] (isM (by decide +kernel)) 190 (by decide)) eX12_restore_8 (m_12_isIn hU hq1) rfl rfl (by decide) (by decide) (Nat.le_of_ble_eq_true rfl) ?_
  rintro _ C1 ⟨rfl, rfl⟩
  show ev_W l D cys ty ck_tags ev_TR kh_12_restore_0 11 [(0, .inr (.inl 12)), (1, .inl 0)] [.inl r1] C1 _
  refine ev_z_eq (tgt := 23) eX12_restore_11 (by decide) (fun hc2 => ?_) (fun hc2 => ?_)
  · rw [if_pos (show r1 = 0 from hc2)] at h
    refine ev_ic eX12_restore_23 (by decide) ?_
    cases h
    exact ev_zret eX12_restore_24 rfl (by decide) ⟨rfl, rfl⟩
  · rw [if_neg (show ¬ (r1 = 0) from hc2)] at h
    refine ev_al eX12_restore_14 rfl ?_
    refine ev_getR lk_f (ci := 12) (j := 53) (cd := 3) eX12_restore_15 (isF (by decide +kernel)) rfl rfl ?_
    refine ev_il eX12_restore_18 rfl ?_
    refine ev_zald eX12_restore_19 rfl rfl (by decide) (by decide) ?_
    refine ev_z_ne (tgt := 25) eX12_restore_20 (by decide) (fun hc3 => ?_) (fun hc3 => ?_)
    · rw [if_pos (show (C1 46 0) ≠ 0 from hc3)] at h
      refine ev_ic eX12_restore_25 (by decide) ?_
      refine ev_is (L' := [(2, .inl 0), (0, .inr (.inl 12)), (1, .inl 0)]) eX12_restore_26 (by decide) rfl ?_
      refine ev_loc (L' := [(0, .inr (.inl 12)), (1, .inl 0), (2, .inl 0)]) rfl ?_
      exact m_12_restore_k0_L27 hU 1000 h
    · rw [if_neg (show ¬ ((C1 46 0) ≠ 0) from hc3)] at h
      refine ev_ic eX12_restore_23 (by decide) ?_
      cases h
      exact ev_zret eX12_restore_24 rfl (by decide) ⟨rfl, rfl⟩
set_option maxRecDepth 100000 in
theorem m_12_image_k1_L51 (hU : ev_uq ty ev_TR) : ∀ (n : Nat) {C : ev_C} {y1 y2 : Int} {r : Int} {C' : ev_C}, f_12_image_k1_L51 n C y1 y2 = some (r, C') → ev_W l D cys ty ck_tags ev_TR kh_12_image_1 51 [(0, .inr (.inl 12)), (1, .inl y1), (2, .inl y2)] [] C (fun r0 C0 => r0 = some (.inl r) ∧ C0 = C')
  | 0, _, _, _, _, _, h => by cases h
  | n + 1, C, y1, y2, _, _, h => by
    unfold f_12_image_k1_L51 at h
    refine ev_il eX12_image_51 rfl ?_
    refine ev_bp eX12_image_52 (by decide) (by decide) ?_
    refine ev_c_ge (tgt := 80) eX12_image_54 (by decide) (fun hc4 => ?_) (fun hc4 => ?_)
    · rw [if_pos (show 20 ≤ y2 from hc4)] at h
      refine ev_al eX12_image_80 rfl ?_
      refine ev_getR lk_f (ci := 12) (j := 53) (cd := 3) eX12_image_81 (isF (by decide +kernel)) rfl rfl ?_
      refine ev_il eX12_image_84 rfl ?_
      refine ev_ic eX12_image_85 (by decide) ?_
      obtain ⟨hb5, h⟩ := ev_gd h
      refine ev_zast hU eX12_image_86 rfl rfl hb5.1 hb5.2 ⟨by decide, by decide⟩ ?_
      refine ev_ic eX12_image_87 (by decide) ?_
      cases h
      exact ev_zret eX12_image_88 rfl (by decide) ⟨rfl, rfl⟩
    · rw [if_neg (show ¬ (20 ≤ y2) from hc4)] at h
      refine ev_al eX12_image_57 rfl ?_
      refine ev_getR lk_f (ci := 12) (j := 52) (cd := 3) eX12_image_58 (isF (by decide +kernel)) rfl rfl ?_
      refine ev_bp eX12_image_61 (by decide) (by decide) ?_
      refine ev_il eX12_image_63 rfl ?_
      refine ev_mul eX12_image_64 ?_
      refine ev_il eX12_image_65 rfl ?_
      refine ev_add eX12_image_66 ?_
      refine ev_al eX12_image_67 rfl ?_
      refine ev_getR lk_f (ci := 12) (j := 9) (cd := 3) eX12_image_68 (isF (by decide +kernel)) rfl rfl ?_
      refine ev_il eX12_image_71 rfl ?_
      obtain ⟨hb6, h⟩ := ev_gd h
      refine ev_lald eX12_image_72 rfl rfl hb6.1 hb6.2 ?_
      obtain ⟨hb7, h⟩ := ev_gd h
      refine ev_last hU eX12_image_73 rfl rfl hb7.1 hb7.2 ?_
      refine ev_inc (L' := [(2, .inl (ev_w (y2 + 1))), (0, .inr (.inl 12)), (1, .inl y1)]) eX12_image_74 (by decide) (by decide) rfl rfl ?_
      refine ev_goto (tgt := 51) eX12_image_77 (by decide) ?_
      refine ev_loc (L' := [(0, .inr (.inl 12)), (1, .inl y1), (2, .inl (ev_w (y2 + 1)))]) rfl ?_
      exact m_12_image_k1_L51 hU n h
set_option maxRecDepth 100000 in
theorem m_12_image_k1_L18 (hU : ev_uq ty ev_TR) : ∀ (n : Nat) {C : ev_C} {y1 y2 : Int} {r : Int} {C' : ev_C}, f_12_image_k1_L18 n C y1 y2 = some (r, C') → ev_W l D cys ty ck_tags ev_TR kh_12_image_1 18 [(0, .inr (.inl 12)), (1, .inl y1), (2, .inl y2)] [] C (fun r0 C0 => r0 = some (.inl r) ∧ C0 = C')
  | 0, _, _, _, _, _, h => by cases h
  | n + 1, C, y1, y2, _, _, h => by
    unfold f_12_image_k1_L18 at h
    refine ev_il eX12_image_18 rfl ?_
    refine ev_sp eX12_image_19 (by decide) (by decide) ?_
    refine ev_c_ge (tgt := 49) eX12_image_22 (by decide) (fun hc3 => ?_) (fun hc3 => ?_)
    · rw [if_pos (show 367 ≤ y2 from hc3)] at h
      refine ev_ic eX12_image_49 (by decide) ?_
      refine ev_is (L' := [(2, .inl 0), (0, .inr (.inl 12)), (1, .inl y1)]) eX12_image_50 (by decide) rfl ?_
      refine ev_loc (L' := [(0, .inr (.inl 12)), (1, .inl y1), (2, .inl 0)]) rfl ?_
      exact m_12_image_k1_L51 hU 1000 h
    · rw [if_neg (show ¬ (367 ≤ y2) from hc3)] at h
      refine ev_al eX12_image_25 rfl ?_
      refine ev_getR lk_f (ci := 12) (j := 51) (cd := 3) eX12_image_26 (isF (by decide +kernel)) rfl rfl ?_
      refine ev_sp eX12_image_29 (by decide) (by decide) ?_
      refine ev_il eX12_image_32 rfl ?_
      refine ev_mul eX12_image_33 ?_
      refine ev_il eX12_image_34 rfl ?_
      refine ev_add eX12_image_35 ?_
      refine ev_al eX12_image_36 rfl ?_
      refine ev_getR lk_f (ci := 12) (j := 6) (cd := 3) eX12_image_37 (isF (by decide +kernel)) rfl rfl ?_
      refine ev_il eX12_image_40 rfl ?_
      obtain ⟨hb8, h⟩ := ev_gd h
      refine ev_iald eX12_image_41 rfl rfl hb8.1 hb8.2 ?_
      obtain ⟨hb9, h⟩ := ev_gd h
      refine ev_iast hU eX12_image_42 rfl rfl hb9.1 hb9.2 ?_
      refine ev_inc (L' := [(2, .inl (ev_w (y2 + 1))), (0, .inr (.inl 12)), (1, .inl y1)]) eX12_image_43 (by decide) (by decide) rfl rfl ?_
      refine ev_goto (tgt := 18) eX12_image_46 (by decide) ?_
      refine ev_loc (L' := [(0, .inr (.inl 12)), (1, .inl y1), (2, .inl (ev_w (y2 + 1)))]) rfl ?_
      exact m_12_image_k1_L18 hU n h
set_option maxRecDepth 100000 in
theorem m_12_image_k1 (hU : ev_uq ty ev_TR) {C : ev_C} {r : Int} {C' : ev_C} (h : f_12_image_k1 C = some (r, C')) : ev_Met l D cys ty ck_tags ev_TR kh_12_image_1 [.inr (.inl 12), .inl 1] C (fun r0 C0 => r0 = some (.inl r) ∧ C0 = C') := by
  unfold f_12_image_k1 at h
  refine ev_enter (by decide +kernel) (by decide +kernel) (Nat.le_of_ble_eq_true rfl) ?_
  show ev_W l D cys ty ck_tags ev_TR kh_12_image_1 0 [(0, .inr (.inl 12)), (1, .inl 1)] [] C _
  refine ev_al eX12_image_0 rfl ?_
  refine ev_ic eX12_image_1 (by decide) ?_
  refine ev_putI lk_f hU (ci := 12) (j := 0) (cd := 0) eX12_image_2 (isF (by decide +kernel)) rfl rfl (Or.inl rfl) rfl ?_
  refine ev_il eX12_image_5 rfl ?_
  refine ev_ic eX12_image_6 (by decide) ?_
  refine ev_ic eX12_image_7 (by decide) ?_
  obtain ⟨r1, C1, hq1, h⟩ := ev_bd_some h
  refine ev_callS (kc := kc_190) (A := [.inl 1, .inl 0, .inl 1]) (T := []) (lk_m.1 _ _ 1 [190, 191, 192, 193, 194, 195, 196, 197, 198, 199] (isM (by decide +kernel)) 190 (by decide)) eX12_image_8 (m_12_isIn hU hq1) rfl rfl (by decide) (by decide) (Nat.le_of_ble_eq_true rfl) ?_
  rintro _ C1 ⟨rfl, rfl⟩
  show ev_W l D cys ty ck_tags ev_TR kh_12_image_1 11 [(0, .inr (.inl 12)), (1, .inl 1)] [.inl r1] C1 _
  refine ev_z_ne (tgt := 16) eX12_image_11 (by decide) (fun hc2 => ?_) (fun hc2 => ?_)
  · rw [if_pos (show r1 ≠ 0 from hc2)] at h
    refine ev_ic eX12_image_16 (by decide) ?_
    refine ev_is (L' := [(2, .inl 0), (0, .inr (.inl 12)), (1, .inl 1)]) eX12_image_17 (by decide) rfl ?_
    refine ev_loc (L' := [(0, .inr (.inl 12)), (1, .inl 1), (2, .inl 0)]) rfl ?_
    exact m_12_image_k1_L18 hU 1000 h
  · rw [if_neg (show ¬ (r1 ≠ 0) from hc2)] at h
    refine ev_ic eX12_image_14 (by decide) ?_
    cases h
    exact ev_zret eX12_image_15 rfl (by decide) ⟨rfl, rfl⟩
set_option maxRecDepth 100000 in
theorem m_12_restore_k1_L60 (hU : ev_uq ty ev_TR) : ∀ (n : Nat) {C : ev_C} {y1 y2 : Int} {r : Int} {C' : ev_C}, f_12_restore_k1_L60 n C y1 y2 = some (r, C') → ev_W l D cys ty ck_tags ev_TR kh_12_restore_1 60 [(0, .inr (.inl 12)), (1, .inl y1), (2, .inl y2)] [] C (fun r0 C0 => r0 = some (.inl r) ∧ C0 = C')
  | 0, _, _, _, _, _, h => by cases h
  | n + 1, C, y1, y2, _, _, h => by
    unfold f_12_restore_k1_L60 at h
    refine ev_il eX12_restore_60 rfl ?_
    refine ev_bp eX12_restore_61 (by decide) (by decide) ?_
    refine ev_c_ge (tgt := 89) eX12_restore_63 (by decide) (fun hc5 => ?_) (fun hc5 => ?_)
    · rw [if_pos (show 20 ≤ y2 from hc5)] at h
      refine ev_al eX12_restore_89 rfl ?_
      refine ev_ic eX12_restore_90 (by decide) ?_
      refine ev_putI lk_f hU (ci := 12) (j := 22) (cd := 0) eX12_restore_91 (isF (by decide +kernel)) rfl rfl (Or.inl rfl) rfl ?_
      refine ev_ic eX12_restore_94 (by decide) ?_
      cases h
      exact ev_zret eX12_restore_95 rfl (by decide) ⟨rfl, rfl⟩
    · rw [if_neg (show ¬ (20 ≤ y2) from hc5)] at h
      refine ev_al eX12_restore_66 rfl ?_
      refine ev_getR lk_f (ci := 12) (j := 9) (cd := 3) eX12_restore_67 (isF (by decide +kernel)) rfl rfl ?_
      refine ev_il eX12_restore_70 rfl ?_
      refine ev_al eX12_restore_71 rfl ?_
      refine ev_getR lk_f (ci := 12) (j := 52) (cd := 3) eX12_restore_72 (isF (by decide +kernel)) rfl rfl ?_
      refine ev_bp eX12_restore_75 (by decide) (by decide) ?_
      refine ev_il eX12_restore_77 rfl ?_
      refine ev_mul eX12_restore_78 ?_
      refine ev_il eX12_restore_79 rfl ?_
      refine ev_add eX12_restore_80 ?_
      obtain ⟨hb6, h⟩ := ev_gd h
      refine ev_lald eX12_restore_81 rfl rfl hb6.1 hb6.2 ?_
      obtain ⟨hb7, h⟩ := ev_gd h
      refine ev_last hU eX12_restore_82 rfl rfl hb7.1 hb7.2 ?_
      refine ev_inc (L' := [(2, .inl (ev_w (y2 + 1))), (0, .inr (.inl 12)), (1, .inl y1)]) eX12_restore_83 (by decide) (by decide) rfl rfl ?_
      refine ev_goto (tgt := 60) eX12_restore_86 (by decide) ?_
      refine ev_loc (L' := [(0, .inr (.inl 12)), (1, .inl y1), (2, .inl (ev_w (y2 + 1)))]) rfl ?_
      exact m_12_restore_k1_L60 hU n h
set_option maxRecDepth 100000 in
theorem m_12_restore_k1_L27 (hU : ev_uq ty ev_TR) : ∀ (n : Nat) {C : ev_C} {y1 y2 : Int} {r : Int} {C' : ev_C}, f_12_restore_k1_L27 n C y1 y2 = some (r, C') → ev_W l D cys ty ck_tags ev_TR kh_12_restore_1 27 [(0, .inr (.inl 12)), (1, .inl y1), (2, .inl y2)] [] C (fun r0 C0 => r0 = some (.inl r) ∧ C0 = C')
  | 0, _, _, _, _, _, h => by cases h
  | n + 1, C, y1, y2, _, _, h => by
    unfold f_12_restore_k1_L27 at h
    refine ev_il eX12_restore_27 rfl ?_
    refine ev_sp eX12_restore_28 (by decide) (by decide) ?_
    refine ev_c_ge (tgt := 58) eX12_restore_31 (by decide) (fun hc4 => ?_) (fun hc4 => ?_)
    · rw [if_pos (show 367 ≤ y2 from hc4)] at h
      refine ev_ic eX12_restore_58 (by decide) ?_
      refine ev_is (L' := [(2, .inl 0), (0, .inr (.inl 12)), (1, .inl y1)]) eX12_restore_59 (by decide) rfl ?_
      refine ev_loc (L' := [(0, .inr (.inl 12)), (1, .inl y1), (2, .inl 0)]) rfl ?_
      exact m_12_restore_k1_L60 hU 1000 h
    · rw [if_neg (show ¬ (367 ≤ y2) from hc4)] at h
      refine ev_al eX12_restore_34 rfl ?_
      refine ev_getR lk_f (ci := 12) (j := 6) (cd := 3) eX12_restore_35 (isF (by decide +kernel)) rfl rfl ?_
      refine ev_il eX12_restore_38 rfl ?_
      refine ev_al eX12_restore_39 rfl ?_
      refine ev_getR lk_f (ci := 12) (j := 51) (cd := 3) eX12_restore_40 (isF (by decide +kernel)) rfl rfl ?_
      refine ev_sp eX12_restore_43 (by decide) (by decide) ?_
      refine ev_il eX12_restore_46 rfl ?_
      refine ev_mul eX12_restore_47 ?_
      refine ev_il eX12_restore_48 rfl ?_
      refine ev_add eX12_restore_49 ?_
      obtain ⟨hb8, h⟩ := ev_gd h
      refine ev_iald eX12_restore_50 rfl rfl hb8.1 hb8.2 ?_
      obtain ⟨hb9, h⟩ := ev_gd h
      refine ev_iast hU eX12_restore_51 rfl rfl hb9.1 hb9.2 ?_
      refine ev_inc (L' := [(2, .inl (ev_w (y2 + 1))), (0, .inr (.inl 12)), (1, .inl y1)]) eX12_restore_52 (by decide) (by decide) rfl rfl ?_
      refine ev_goto (tgt := 27) eX12_restore_55 (by decide) ?_
      refine ev_loc (L' := [(0, .inr (.inl 12)), (1, .inl y1), (2, .inl (ev_w (y2 + 1)))]) rfl ?_
      exact m_12_restore_k1_L27 hU n h
set_option maxRecDepth 100000 in
theorem m_12_restore_k1 (hU : ev_uq ty ev_TR) {C : ev_C} {r : Int} {C' : ev_C} (h : f_12_restore_k1 C = some (r, C')) : ev_Met l D cys ty ck_tags ev_TR kh_12_restore_1 [.inr (.inl 12), .inl 1] C (fun r0 C0 => r0 = some (.inl r) ∧ C0 = C') := by
  unfold f_12_restore_k1 at h
  refine ev_enter (by decide +kernel) (by decide +kernel) (Nat.le_of_ble_eq_true rfl) ?_
  show ev_W l D cys ty ck_tags ev_TR kh_12_restore_1 0 [(0, .inr (.inl 12)), (1, .inl 1)] [] C _
  refine ev_al eX12_restore_0 rfl ?_
  refine ev_ic eX12_restore_1 (by decide) ?_
  refine ev_putI lk_f hU (ci := 12) (j := 0) (cd := 0) eX12_restore_2 (isF (by decide +kernel)) rfl rfl (Or.inl rfl) rfl ?_
  refine ev_il eX12_restore_5 rfl ?_
  refine ev_ic eX12_restore_6 (by decide) ?_
  refine ev_ic eX12_restore_7 (by decide) ?_
  obtain ⟨r1, C1, hq1, h⟩ := ev_bd_some h
  refine ev_callS (kc := kc_190) (A := [.inl 1, .inl 0, .inl 1]) (T := []) (lk_m.1 _ _ 1 [190, 191, 192, 193, 194, 195, 196, 197, 198, 199] (isM (by decide +kernel)) 190 (by decide)) eX12_restore_8 (m_12_isIn hU hq1) rfl rfl (by decide) (by decide) (Nat.le_of_ble_eq_true rfl) ?_
  rintro _ C1 ⟨rfl, rfl⟩
  show ev_W l D cys ty ck_tags ev_TR kh_12_restore_1 11 [(0, .inr (.inl 12)), (1, .inl 1)] [.inl r1] C1 _
  refine ev_z_eq (tgt := 23) eX12_restore_11 (by decide) (fun hc2 => ?_) (fun hc2 => ?_)
  · rw [if_pos (show r1 = 0 from hc2)] at h
    refine ev_ic eX12_restore_23 (by decide) ?_
    cases h
    exact ev_zret eX12_restore_24 rfl (by decide) ⟨rfl, rfl⟩
  · rw [if_neg (show ¬ (r1 = 0) from hc2)] at h
    refine ev_al eX12_restore_14 rfl ?_
    refine ev_getR lk_f (ci := 12) (j := 53) (cd := 3) eX12_restore_15 (isF (by decide +kernel)) rfl rfl ?_
    refine ev_il eX12_restore_18 rfl ?_
    refine ev_zald eX12_restore_19 rfl rfl (by decide) (by decide) ?_
    refine ev_z_ne (tgt := 25) eX12_restore_20 (by decide) (fun hc3 => ?_) (fun hc3 => ?_)
    · rw [if_pos (show (C1 46 1) ≠ 0 from hc3)] at h
      refine ev_ic eX12_restore_25 (by decide) ?_
      refine ev_is (L' := [(2, .inl 0), (0, .inr (.inl 12)), (1, .inl 1)]) eX12_restore_26 (by decide) rfl ?_
      refine ev_loc (L' := [(0, .inr (.inl 12)), (1, .inl 1), (2, .inl 0)]) rfl ?_
      exact m_12_restore_k1_L27 hU 1000 h
    · rw [if_neg (show ¬ ((C1 46 1) ≠ 0) from hc3)] at h
      refine ev_ic eX12_restore_23 (by decide) ?_
      cases h
      exact ev_zret eX12_restore_24 rfl (by decide) ⟨rfl, rfl⟩
end GX
