/-! THE EXACT LOGIC: the class's sentence(), 2 (printed by a program of ours). -/
section GX
variable {l : Launch} {D : va_G} {cys : Nat → ClassId} {ty : Nat → Option Nat}
set_option maxRecDepth 100000 in
theorem m_9_readCond_14_8_6_k5_L10 (hU : ev_uq ty ev_TR) : ∀ (n : Nat) {C : ev_C} {y4 : Int} {C' : ev_C}, f_9_readCond_14_8_6_k5_L10 n C y4 = some C' → ev_W l D cys ty ck_tags ev_TR kc_145 10 [(0, .inr (.inl 14)), (1, .inr (.inl 8)), (2, .inr (.inl 6)), (3, .inl 5), (4, .inl y4)] [] C (fun r0 C0 => r0 = none ∧ C0 = C')
  | 0, _, _, _, h => by cases h
  | n + 1, C, y4, _, h => by
    unfold f_9_readCond_14_8_6_k5_L10 at h
    refine ev_ilw eX9_readCond_10 rfl ?_
    refine ev_bp eX9_readCond_12 (by decide) (by decide) ?_
    refine ev_c_ge (tgt := 58) eX9_readCond_14 (by decide) (fun hc2 => ?_) (fun hc2 => ?_)
    · rw [if_pos (show 20 ≤ y4 from hc2)] at h
      cases h
      exact ev_vret eX9_readCond_58 rfl ⟨rfl, rfl⟩
    · rw [if_neg (show ¬ (20 ≤ y4) from hc2)] at h
      refine ev_al eX9_readCond_17 rfl ?_
      obtain ⟨r3, C3, hq3, h⟩ := ev_bd_some h
      refine ev_callV (kc := kc_36) (A := []) (T := []) (lk_m.1 _ _ 0 [36] (isM (by decide +kernel)) 36 (by decide)) eX9_readCond_18 (m_8_isFine hU hq3) rfl rfl rfl (by decide) (by decide) (Nat.le_of_ble_eq_true rfl) ?_
      rintro _ C3 ⟨rfl, rfl⟩
      show ev_W l D cys ty ck_tags ev_TR kc_145 21 [(0, .inr (.inl 14)), (1, .inr (.inl 8)), (2, .inr (.inl 6)), (3, .inl 5), (4, .inl y4)] [.inl r3] C3 _
      refine ev_z_eq (tgt := 58) eX9_readCond_21 (by decide) (fun hc4 => ?_) (fun hc4 => ?_)
      · rw [if_pos (show r3 = 0 from hc4)] at h
        cases h
        exact ev_vret eX9_readCond_58 rfl ⟨rfl, rfl⟩
      · rw [if_neg (show ¬ (r3 = 0) from hc4)] at h
        refine ev_al eX9_readCond_24 rfl ?_
        refine ev_bp eX9_readCond_25 (by decide) (by decide) ?_
        obtain ⟨r5, C5, hq5, h⟩ := ev_bd_some h
        refine ev_callV (kc := kc_64) (A := [.inl 16]) (T := []) (lk_m.1 _ _ 0 [64] (isM (by decide +kernel)) 64 (by decide)) eX9_readCond_27 (m_8_isAtWord hU hq5) rfl rfl rfl (by decide) (by decide) (Nat.le_of_ble_eq_true rfl) ?_
        rintro _ C5 ⟨rfl, rfl⟩
        show ev_W l D cys ty ck_tags ev_TR kc_145 30 [(0, .inr (.inl 14)), (1, .inr (.inl 8)), (2, .inr (.inl 6)), (3, .inl 5), (4, .inl y4)] [.inl r5] C5 _
        refine ev_z_eq (tgt := 58) eX9_readCond_30 (by decide) (fun hc6 => ?_) (fun hc6 => ?_)
        · rw [if_pos (show r5 = 0 from hc6)] at h
          cases h
          exact ev_vret eX9_readCond_58 rfl ⟨rfl, rfl⟩
        · rw [if_neg (show ¬ (r5 = 0) from hc6)] at h
          refine ev_al eX9_readCond_33 rfl ?_
          obtain ⟨C7, hq7, h⟩ := ev_bv_some h
          refine ev_callV (kc := kc_57) (A := []) (T := []) (lk_m.1 _ _ 0 [57] (isM (by decide +kernel)) 57 (by decide)) eX9_readCond_34 (m_8_step hU hq7) rfl rfl rfl (by decide) (by decide) (Nat.le_of_ble_eq_true rfl) ?_
          rintro _ C7 ⟨rfl, rfl⟩
          show ev_W l D cys ty ck_tags ev_TR kc_145 37 [(0, .inr (.inl 14)), (1, .inr (.inl 8)), (2, .inr (.inl 6)), (3, .inl 5), (4, .inl y4)] [] C7 _
          refine ev_al eX9_readCond_37 rfl ?_
          refine ev_al eX9_readCond_38 rfl ?_
          refine ev_al eX9_readCond_39 rfl ?_
          refine ev_il eX9_readCond_40 rfl ?_
          obtain ⟨C8, hq8, h⟩ := ev_bv_some h
          refine ev_callV (kc := kc_144) (A := [.inr (.inl 8), .inr (.inl 6), .inl 5]) (T := []) (lk_m.1 _ _ 0 [135, 138, 141, 144, 147, 150, 153, 156, 159] (isM (by decide +kernel)) 144 (by decide)) eX9_readCond_41 (m_9_readAll_14_8_6_k5 hU hq8) rfl rfl rfl (by decide) (by decide) (Nat.le_of_ble_eq_true rfl) ?_
          rintro _ C8 ⟨rfl, rfl⟩
          show ev_W l D cys ty ck_tags ev_TR kc_145 44 [(0, .inr (.inl 14)), (1, .inr (.inl 8)), (2, .inr (.inl 6)), (3, .inl 5), (4, .inl y4)] [] C8 _
          refine ev_al eX9_readCond_44 rfl ?_
          refine ev_bp eX9_readCond_45 (by decide) (by decide) ?_
          refine ev_ic eX9_readCond_47 (by decide) ?_
          refine ev_ic eX9_readCond_48 (by decide) ?_
          obtain ⟨C9, hq9, h⟩ := ev_bv_some h
          refine ev_callV (kc := kc_121) (A := [.inl 16, .inl 0, .inl 0]) (T := []) (lk_m.1 _ _ 0 [121] (isM (by decide +kernel)) 121 (by decide)) eX9_readCond_49 (m_9_addStep_14 hU hq9) rfl rfl rfl (by decide) (by decide) (Nat.le_of_ble_eq_true rfl) ?_
          rintro _ C9 ⟨rfl, rfl⟩
          show ev_W l D cys ty ck_tags ev_TR kc_145 52 [(0, .inr (.inl 14)), (1, .inr (.inl 8)), (2, .inr (.inl 6)), (3, .inl 5), (4, .inl y4)] [] C9 _
          refine ev_inc (L' := [(4, .inl (ev_w (y4 + 1))), (0, .inr (.inl 14)), (1, .inr (.inl 8)), (2, .inr (.inl 6)), (3, .inl 5)]) eX9_readCond_52 (by decide) (by decide) rfl rfl ?_
          refine ev_goto (tgt := 10) eX9_readCond_55 (by decide) ?_
          refine ev_loc (L' := [(0, .inr (.inl 14)), (1, .inr (.inl 8)), (2, .inr (.inl 6)), (3, .inl 5), (4, .inl (ev_w (y4 + 1)))]) rfl ?_
          exact m_9_readCond_14_8_6_k5_L10 hU n h
set_option maxRecDepth 100000 in
theorem m_9_readCond_14_8_6_k5 (hU : ev_uq ty ev_TR) {C : ev_C} {C' : ev_C} (h : f_9_readCond_14_8_6_k5 C = some C') : ev_Met l D cys ty ck_tags ev_TR kc_145 [.inr (.inl 14), .inr (.inl 8), .inr (.inl 6), .inl 5] C (fun r0 C0 => r0 = none ∧ C0 = C') := by
  unfold f_9_readCond_14_8_6_k5 at h
  refine ev_enter (by decide +kernel) (by decide +kernel) (Nat.le_of_ble_eq_true rfl) ?_
  show ev_W l D cys ty ck_tags ev_TR kc_145 0 [(0, .inr (.inl 14)), (1, .inr (.inl 8)), (2, .inr (.inl 6)), (3, .inl 5)] [] C _
  refine ev_al eX9_readCond_0 rfl ?_
  refine ev_al eX9_readCond_1 rfl ?_
  refine ev_al eX9_readCond_2 rfl ?_
  refine ev_il eX9_readCond_3 rfl ?_
  obtain ⟨C1, hq1, h⟩ := ev_bv_some h
  refine ev_callV (kc := kc_144) (A := [.inr (.inl 8), .inr (.inl 6), .inl 5]) (T := []) (lk_m.1 _ _ 0 [135, 138, 141, 144, 147, 150, 153, 156, 159] (isM (by decide +kernel)) 144 (by decide)) eX9_readCond_4 (m_9_readAll_14_8_6_k5 hU hq1) rfl rfl rfl (by decide) (by decide) (Nat.le_of_ble_eq_true rfl) ?_
  rintro _ C1 ⟨rfl, rfl⟩
  show ev_W l D cys ty ck_tags ev_TR kc_145 7 [(0, .inr (.inl 14)), (1, .inr (.inl 8)), (2, .inr (.inl 6)), (3, .inl 5)] [] C1 _
  refine ev_ic eX9_readCond_7 (by decide) ?_
  refine ev_isw (L' := [(4, .inl 0), (0, .inr (.inl 14)), (1, .inr (.inl 8)), (2, .inr (.inl 6)), (3, .inl 5)]) eX9_readCond_8 (by decide) rfl ?_
  refine ev_loc (L' := [(0, .inr (.inl 14)), (1, .inr (.inl 8)), (2, .inr (.inl 6)), (3, .inl 5), (4, .inl 0)]) rfl ?_
  exact m_9_readCond_14_8_6_k5_L10 hU 1000 h
set_option maxRecDepth 100000 in
theorem m_9_readOne_14_8_6_k5_J39 (hU : ev_uq ty ev_TR) {C' : ev_C} {C : ev_C} {y4 y5 : Int} (h : f_9_readOne_14_8_6_k5_J39 C y4 y5 = some C') : ev_W l D cys ty ck_tags ev_TR kc_146 39 [(0, .inr (.inl 14)), (1, .inr (.inl 8)), (2, .inr (.inl 6)), (3, .inl 5), (4, .inl y4), (5, .inl y5)] [] C (fun r0 C0 => r0 = none ∧ C0 = C') := by
  unfold f_9_readOne_14_8_6_k5_J39 at h
  refine ev_al eX9_readOne_39 rfl ?_
  refine ev_getI lk_f (ci := 9) (j := 0) (cd := 0) eX9_readOne_40 (isF (by decide +kernel)) rfl rfl rfl ?_
  refine ev_bp eX9_readOne_43 (by decide) (by decide) ?_
  refine ev_c_ge (tgt := 54) eX9_readOne_45 (by decide) (fun hc4 => ?_) (fun hc4 => ?_)
  · rw [if_pos (show 20 ≤ (C 14 0) from hc4)] at h
    refine ev_al eX9_readOne_54 rfl ?_
    refine ev_ic eX9_readOne_55 (by decide) ?_
    obtain ⟨C5, hq5, h⟩ := ev_bv_some h
    refine ev_callV (kc := kc_35) (A := [.inl 4]) (T := []) (lk_m.1 _ _ 0 [35] (isM (by decide +kernel)) 35 (by decide)) eX9_readOne_56 (m_8_fail hU hq5) rfl rfl rfl (by decide) (by decide) (Nat.le_of_ble_eq_true rfl) ?_
    rintro _ C5 ⟨rfl, rfl⟩
    show ev_W l D cys ty ck_tags ev_TR kc_146 59 [(0, .inr (.inl 14)), (1, .inr (.inl 8)), (2, .inr (.inl 6)), (3, .inl 5), (4, .inl y4), (5, .inl y5)] [] C5 _
    cases h
    exact ev_vret eX9_readOne_59 rfl ⟨rfl, rfl⟩
  · rw [if_neg (show ¬ (20 ≤ (C 14 0)) from hc4)] at h
    refine ev_il eX9_readOne_48 rfl ?_
    refine ev_bp eX9_readOne_49 (by decide) (by decide) ?_
    refine ev_c_le (tgt := 60) eX9_readOne_51 (by decide) (fun _ => ?_) (fun hc => absurd (show (5 : Int) ≤ 8 by decide) hc)
    refine ev_al eX9_readOne_60 rfl ?_
    refine ev_dup eX9_readOne_61 rfl ?_
    refine ev_getI lk_f (ci := 9) (j := 0) (cd := 0) eX9_readOne_62 (isF (by decide +kernel)) rfl rfl rfl ?_
    refine ev_ic eX9_readOne_65 (by decide) ?_
    refine ev_add eX9_readOne_66 ?_
    refine ev_putI lk_f hU (ci := 9) (j := 0) (cd := 0) eX9_readOne_67 (isF (by decide +kernel)) rfl rfl (Or.inl rfl) rfl ?_
    refine ev_al eX9_readOne_70 rfl ?_
    obtain ⟨C6, hq6, h⟩ := ev_bv_some h
    refine ev_callV (kc := kc_57) (A := []) (T := []) (lk_m.1 _ _ 0 [57] (isM (by decide +kernel)) 57 (by decide)) eX9_readOne_71 (m_8_step hU hq6) rfl rfl rfl (by decide) (by decide) (Nat.le_of_ble_eq_true rfl) ?_
    rintro _ C6 ⟨rfl, rfl⟩
    show ev_W l D cys ty ck_tags ev_TR kc_146 74 [(0, .inr (.inl 14)), (1, .inr (.inl 8)), (2, .inr (.inl 6)), (3, .inl 5), (4, .inl y4), (5, .inl y5)] [] C6 _
    refine ev_ilw eX9_readOne_74 rfl ?_
    refine ev_z_eq (tgt := 102) eX9_readOne_76 (by decide) (fun hc7 => ?_) (fun hc7 => ?_)
    · rw [if_pos (show y5 = 0 from hc7)] at h
      refine ev_ilw eX9_readOne_102 rfl ?_
      refine ev_bp eX9_readOne_104 (by decide) (by decide) ?_
      refine ev_c_ne (tgt := 129) eX9_readOne_106 (by decide) (fun hc8 => ?_) (fun hc8 => ?_)
      · rw [if_pos (show y4 ≠ 18 from hc8)] at h
        refine ev_al eX9_readOne_129 rfl ?_
        refine ev_al eX9_readOne_130 rfl ?_
        refine ev_al eX9_readOne_131 rfl ?_
        refine ev_ilw eX9_readOne_132 rfl ?_
        obtain ⟨C9, hq9, h⟩ := ev_bv_some h
        refine ev_callV (kc := kc_133) (A := [.inr (.inl 8), .inr (.inl 6), .inl y4]) (T := []) (lk_m.1 _ _ 0 [133] (isM (by decide +kernel)) 133 (by decide)) eX9_readOne_134 (m_9_readPlainOne_14_8_6 hU hq9) rfl rfl rfl (by decide) (by decide) (Nat.le_of_ble_eq_true rfl) ?_
        rintro _ C9 ⟨rfl, rfl⟩
        show ev_W l D cys ty ck_tags ev_TR kc_146 137 [(0, .inr (.inl 14)), (1, .inr (.inl 8)), (2, .inr (.inl 6)), (3, .inl 5), (4, .inl y4), (5, .inl y5)] [] C9 _
        cases h
        exact ev_vret eX9_readOne_137 rfl ⟨rfl, rfl⟩
      · rw [if_neg (show ¬ (y4 ≠ 18) from hc8)] at h
        refine ev_al eX9_readOne_109 rfl ?_
        refine ev_al eX9_readOne_110 rfl ?_
        refine ev_al eX9_readOne_111 rfl ?_
        refine ev_il eX9_readOne_112 rfl ?_
        refine ev_ic eX9_readOne_113 (by decide) ?_
        refine ev_add eX9_readOne_114 ?_
        show ev_W l D cys ty ck_tags ev_TR kc_146 115 [(0, .inr (.inl 14)), (1, .inr (.inl 8)), (2, .inr (.inl 6)), (3, .inl 5), (4, .inl y4), (5, .inl y5)] [.inl 6, .inr (.inl 6), .inr (.inl 8), .inr (.inl 14)] C6 _
        obtain ⟨C10, hq10, h⟩ := ev_bv_some h
        refine ev_callV (kc := kc_143) (A := [.inr (.inl 8), .inr (.inl 6), .inl 6]) (T := []) (lk_m.1 _ _ 0 [134, 137, 140, 143, 146, 149, 152, 155, 158] (isM (by decide +kernel)) 143 (by decide)) eX9_readOne_115 (m_9_readOne_14_8_6_k6 hU hq10) rfl rfl rfl (by decide) (by decide) (Nat.le_of_ble_eq_true rfl) ?_
        rintro _ C10 ⟨rfl, rfl⟩
        show ev_W l D cys ty ck_tags ev_TR kc_146 118 [(0, .inr (.inl 14)), (1, .inr (.inl 8)), (2, .inr (.inl 6)), (3, .inl 5), (4, .inl y4), (5, .inl y5)] [] C10 _
        refine ev_al eX9_readOne_118 rfl ?_
        refine ev_bp eX9_readOne_119 (by decide) (by decide) ?_
        refine ev_ic eX9_readOne_121 (by decide) ?_
        refine ev_ic eX9_readOne_122 (by decide) ?_
        obtain ⟨C11, hq11, h⟩ := ev_bv_some h
        refine ev_callV (kc := kc_121) (A := [.inl 18, .inl 0, .inl 0]) (T := []) (lk_m.1 _ _ 0 [121] (isM (by decide +kernel)) 121 (by decide)) eX9_readOne_123 (m_9_addStep_14 hU hq11) rfl rfl rfl (by decide) (by decide) (Nat.le_of_ble_eq_true rfl) ?_
        rintro _ C11 ⟨rfl, rfl⟩
        show ev_W l D cys ty ck_tags ev_TR kc_146 126 [(0, .inr (.inl 14)), (1, .inr (.inl 8)), (2, .inr (.inl 6)), (3, .inl 5), (4, .inl y4), (5, .inl y5)] [] C11 _
        refine ev_goto (tgt := 137) eX9_readOne_126 (by decide) ?_
        cases h
        exact ev_vret eX9_readOne_137 rfl ⟨rfl, rfl⟩
    · rw [if_neg (show ¬ (y5 = 0) from hc7)] at h
      refine ev_al eX9_readOne_79 rfl ?_
      refine ev_al eX9_readOne_80 rfl ?_
      refine ev_al eX9_readOne_81 rfl ?_
      refine ev_il eX9_readOne_82 rfl ?_
      obtain ⟨C12, hq12, h⟩ := ev_bv_some h
      refine ev_callV (kc := kc_145) (A := [.inr (.inl 8), .inr (.inl 6), .inl 5]) (T := []) (lk_m.1 _ _ 0 [136, 139, 142, 145, 148, 151, 154, 157, 160] (isM (by decide +kernel)) 145 (by decide)) eX9_readOne_83 (m_9_readCond_14_8_6_k5 hU hq12) rfl rfl rfl (by decide) (by decide) (Nat.le_of_ble_eq_true rfl) ?_
      rintro _ C12 ⟨rfl, rfl⟩
      show ev_W l D cys ty ck_tags ev_TR kc_146 86 [(0, .inr (.inl 14)), (1, .inr (.inl 8)), (2, .inr (.inl 6)), (3, .inl 5), (4, .inl y4), (5, .inl y5)] [] C12 _
      refine ev_al eX9_readOne_86 rfl ?_
      obtain ⟨r13, C13, hq13, h⟩ := ev_bd_some h
      refine ev_callV (kc := kc_36) (A := []) (T := []) (lk_m.1 _ _ 0 [36] (isM (by decide +kernel)) 36 (by decide)) eX9_readOne_87 (m_8_isFine hU hq13) rfl rfl rfl (by decide) (by decide) (Nat.le_of_ble_eq_true rfl) ?_
      rintro _ C13 ⟨rfl, rfl⟩
      show ev_W l D cys ty ck_tags ev_TR kc_146 90 [(0, .inr (.inl 14)), (1, .inr (.inl 8)), (2, .inr (.inl 6)), (3, .inl 5), (4, .inl y4), (5, .inl y5)] [.inl r13] C13 _
      refine ev_z_eq (tgt := 137) eX9_readOne_90 (by decide) (fun hc14 => ?_) (fun hc14 => ?_)
      · rw [if_pos (show r13 = 0 from hc14)] at h
        cases h
        exact ev_vret eX9_readOne_137 rfl ⟨rfl, rfl⟩
      · rw [if_neg (show ¬ (r13 = 0) from hc14)] at h
        refine ev_al eX9_readOne_93 rfl ?_
        refine ev_bp eX9_readOne_94 (by decide) (by decide) ?_
        obtain ⟨C15, hq15, h⟩ := ev_bv_some h
        refine ev_callV (kc := kc_68) (A := [.inl 41]) (T := []) (lk_m.1 _ _ 0 [68] (isM (by decide +kernel)) 68 (by decide)) eX9_readOne_96 (m_8_takeSign hU hq15) rfl rfl rfl (by decide) (by decide) (Nat.le_of_ble_eq_true rfl) ?_
        rintro _ C15 ⟨rfl, rfl⟩
        show ev_W l D cys ty ck_tags ev_TR kc_146 99 [(0, .inr (.inl 14)), (1, .inr (.inl 8)), (2, .inr (.inl 6)), (3, .inl 5), (4, .inl y4), (5, .inl y5)] [] C15 _
        refine ev_goto (tgt := 137) eX9_readOne_99 (by decide) ?_
        cases h
        exact ev_vret eX9_readOne_137 rfl ⟨rfl, rfl⟩
set_option maxRecDepth 100000 in
theorem m_9_readOne_14_8_6_k5 (hU : ev_uq ty ev_TR) {C : ev_C} {C' : ev_C} (h : f_9_readOne_14_8_6_k5 C = some C') : ev_Met l D cys ty ck_tags ev_TR kc_146 [.inr (.inl 14), .inr (.inl 8), .inr (.inl 6), .inl 5] C (fun r0 C0 => r0 = none ∧ C0 = C') := by
  unfold f_9_readOne_14_8_6_k5 at h
  refine ev_enter (by decide +kernel) (by decide +kernel) (Nat.le_of_ble_eq_true rfl) ?_
  show ev_W l D cys ty ck_tags ev_TR kc_146 0 [(0, .inr (.inl 14)), (1, .inr (.inl 8)), (2, .inr (.inl 6)), (3, .inl 5)] [] C _
  refine ev_al eX9_readOne_0 rfl ?_
  obtain ⟨r1, C1, hq1, h⟩ := ev_bd_some h
  refine ev_callV (kc := kc_66) (A := []) (T := []) (lk_m.1 _ _ 0 [66] (isM (by decide +kernel)) 66 (by decide)) eX9_readOne_1 (m_8_wordHere hU hq1) rfl rfl rfl (by decide) (by decide) (Nat.le_of_ble_eq_true rfl) ?_
  rintro _ C1 ⟨rfl, rfl⟩
  show ev_W l D cys ty ck_tags ev_TR kc_146 4 [(0, .inr (.inl 14)), (1, .inr (.inl 8)), (2, .inr (.inl 6)), (3, .inl 5)] [.inl r1] C1 _
  refine ev_isw (L' := [(4, .inl r1), (0, .inr (.inl 14)), (1, .inr (.inl 8)), (2, .inr (.inl 6)), (3, .inl 5)]) eX9_readOne_4 (by decide) rfl ?_
  refine ev_al eX9_readOne_6 rfl ?_
  refine ev_bp eX9_readOne_7 (by decide) (by decide) ?_
  obtain ⟨r2, C2, hq2, h⟩ := ev_bd_some h
  refine ev_callV (kc := kc_67) (A := [.inl 40]) (T := []) (lk_m.1 _ _ 0 [67] (isM (by decide +kernel)) 67 (by decide)) eX9_readOne_9 (m_8_isAtSign hU hq2) rfl rfl rfl (by decide) (by decide) (Nat.le_of_ble_eq_true rfl) ?_
  rintro _ C2 ⟨rfl, rfl⟩
  show ev_W l D cys ty ck_tags ev_TR kc_146 12 [(4, .inl r1), (0, .inr (.inl 14)), (1, .inr (.inl 8)), (2, .inr (.inl 6)), (3, .inl 5)] [.inl r2] C2 _
  refine ev_isw (L' := [(5, .inl r2), (4, .inl r1), (0, .inr (.inl 14)), (1, .inr (.inl 8)), (2, .inr (.inl 6)), (3, .inl 5)]) eX9_readOne_12 (by decide) rfl ?_
  refine ev_ilw eX9_readOne_14 rfl ?_
  refine ev_z_ne (tgt := 39) eX9_readOne_16 (by decide) (fun hc3 => ?_) (fun hc3 => ?_)
  · rw [if_pos (show r2 ≠ 0 from hc3)] at h
    refine ev_loc (L' := [(0, .inr (.inl 14)), (1, .inr (.inl 8)), (2, .inr (.inl 6)), (3, .inl 5), (4, .inl r1), (5, .inl r2)]) rfl ?_
    exact m_9_readOne_14_8_6_k5_J39 hU h
  · rw [if_neg (show ¬ (r2 ≠ 0) from hc3)] at h
    refine ev_ilw eX9_readOne_19 rfl ?_
    refine ev_bp eX9_readOne_21 (by decide) (by decide) ?_
    refine ev_c_lt (tgt := 33) eX9_readOne_23 (by decide) (fun hc16 => ?_) (fun hc16 => ?_)
    · rw [if_pos (show r1 < 18 from hc16)] at h
      refine ev_al eX9_readOne_33 rfl ?_
      refine ev_ic eX9_readOne_34 (by decide) ?_
      obtain ⟨C17, hq17, h⟩ := ev_bv_some h
      refine ev_callV (kc := kc_35) (A := [.inl 1]) (T := []) (lk_m.1 _ _ 0 [35] (isM (by decide +kernel)) 35 (by decide)) eX9_readOne_35 (m_8_fail hU hq17) rfl rfl rfl (by decide) (by decide) (Nat.le_of_ble_eq_true rfl) ?_
      rintro _ C17 ⟨rfl, rfl⟩
      show ev_W l D cys ty ck_tags ev_TR kc_146 38 [(5, .inl r2), (4, .inl r1), (0, .inr (.inl 14)), (1, .inr (.inl 8)), (2, .inr (.inl 6)), (3, .inl 5)] [] C17 _
      cases h
      exact ev_vret eX9_readOne_38 rfl ⟨rfl, rfl⟩
    · rw [if_neg (show ¬ (r1 < 18) from hc16)] at h
      refine ev_ilw eX9_readOne_26 rfl ?_
      refine ev_bp eX9_readOne_28 (by decide) (by decide) ?_
      refine ev_c_le (tgt := 39) eX9_readOne_30 (by decide) (fun hc18 => ?_) (fun hc18 => ?_)
      · rw [if_pos (show r1 ≤ 26 from hc18)] at h
        refine ev_loc (L' := [(0, .inr (.inl 14)), (1, .inr (.inl 8)), (2, .inr (.inl 6)), (3, .inl 5), (4, .inl r1), (5, .inl r2)]) rfl ?_
        exact m_9_readOne_14_8_6_k5_J39 hU h
      · rw [if_neg (show ¬ (r1 ≤ 26) from hc18)] at h
        refine ev_al eX9_readOne_33 rfl ?_
        refine ev_ic eX9_readOne_34 (by decide) ?_
        obtain ⟨C19, hq19, h⟩ := ev_bv_some h
        refine ev_callV (kc := kc_35) (A := [.inl 1]) (T := []) (lk_m.1 _ _ 0 [35] (isM (by decide +kernel)) 35 (by decide)) eX9_readOne_35 (m_8_fail hU hq19) rfl rfl rfl (by decide) (by decide) (Nat.le_of_ble_eq_true rfl) ?_
        rintro _ C19 ⟨rfl, rfl⟩
        show ev_W l D cys ty ck_tags ev_TR kc_146 38 [(5, .inl r2), (4, .inl r1), (0, .inr (.inl 14)), (1, .inr (.inl 8)), (2, .inr (.inl 6)), (3, .inl 5)] [] C19 _
        cases h
        exact ev_vret eX9_readOne_38 rfl ⟨rfl, rfl⟩
set_option maxRecDepth 100000 in
theorem m_9_readAll_14_8_6_k4_L12 (hU : ev_uq ty ev_TR) : ∀ (n : Nat) {C : ev_C} {y4 : Int} {C' : ev_C}, f_9_readAll_14_8_6_k4_L12 n C y4 = some C' → ev_W l D cys ty ck_tags ev_TR kc_147 12 [(0, .inr (.inl 14)), (1, .inr (.inl 8)), (2, .inr (.inl 6)), (3, .inl 4), (4, .inl y4)] [] C (fun r0 C0 => r0 = none ∧ C0 = C')
  | 0, _, _, _, h => by cases h
  | n + 1, C, y4, _, h => by
    unfold f_9_readAll_14_8_6_k4_L12 at h
    refine ev_ilw eX9_readAll_12 rfl ?_
    refine ev_bp eX9_readAll_14 (by decide) (by decide) ?_
    refine ev_c_ge (tgt := 62) eX9_readAll_16 (by decide) (fun hc2 => ?_) (fun hc2 => ?_)
    · rw [if_pos (show 20 ≤ y4 from hc2)] at h
      cases h
      exact ev_vret eX9_readAll_62 rfl ⟨rfl, rfl⟩
    · rw [if_neg (show ¬ (20 ≤ y4) from hc2)] at h
      refine ev_al eX9_readAll_19 rfl ?_
      obtain ⟨r3, C3, hq3, h⟩ := ev_bd_some h
      refine ev_callV (kc := kc_36) (A := []) (T := []) (lk_m.1 _ _ 0 [36] (isM (by decide +kernel)) 36 (by decide)) eX9_readAll_20 (m_8_isFine hU hq3) rfl rfl rfl (by decide) (by decide) (Nat.le_of_ble_eq_true rfl) ?_
      rintro _ C3 ⟨rfl, rfl⟩
      show ev_W l D cys ty ck_tags ev_TR kc_147 23 [(0, .inr (.inl 14)), (1, .inr (.inl 8)), (2, .inr (.inl 6)), (3, .inl 4), (4, .inl y4)] [.inl r3] C3 _
      refine ev_z_eq (tgt := 62) eX9_readAll_23 (by decide) (fun hc4 => ?_) (fun hc4 => ?_)
      · rw [if_pos (show r3 = 0 from hc4)] at h
        cases h
        exact ev_vret eX9_readAll_62 rfl ⟨rfl, rfl⟩
      · rw [if_neg (show ¬ (r3 = 0) from hc4)] at h
        refine ev_al eX9_readAll_26 rfl ?_
        refine ev_bp eX9_readAll_27 (by decide) (by decide) ?_
        obtain ⟨r5, C5, hq5, h⟩ := ev_bd_some h
        refine ev_callV (kc := kc_64) (A := [.inl 17]) (T := []) (lk_m.1 _ _ 0 [64] (isM (by decide +kernel)) 64 (by decide)) eX9_readAll_29 (m_8_isAtWord hU hq5) rfl rfl rfl (by decide) (by decide) (Nat.le_of_ble_eq_true rfl) ?_
        rintro _ C5 ⟨rfl, rfl⟩
        show ev_W l D cys ty ck_tags ev_TR kc_147 32 [(0, .inr (.inl 14)), (1, .inr (.inl 8)), (2, .inr (.inl 6)), (3, .inl 4), (4, .inl y4)] [.inl r5] C5 _
        refine ev_z_eq (tgt := 62) eX9_readAll_32 (by decide) (fun hc6 => ?_) (fun hc6 => ?_)
        · rw [if_pos (show r5 = 0 from hc6)] at h
          cases h
          exact ev_vret eX9_readAll_62 rfl ⟨rfl, rfl⟩
        · rw [if_neg (show ¬ (r5 = 0) from hc6)] at h
          refine ev_al eX9_readAll_35 rfl ?_
          obtain ⟨C7, hq7, h⟩ := ev_bv_some h
          refine ev_callV (kc := kc_57) (A := []) (T := []) (lk_m.1 _ _ 0 [57] (isM (by decide +kernel)) 57 (by decide)) eX9_readAll_36 (m_8_step hU hq7) rfl rfl rfl (by decide) (by decide) (Nat.le_of_ble_eq_true rfl) ?_
          rintro _ C7 ⟨rfl, rfl⟩
          show ev_W l D cys ty ck_tags ev_TR kc_147 39 [(0, .inr (.inl 14)), (1, .inr (.inl 8)), (2, .inr (.inl 6)), (3, .inl 4), (4, .inl y4)] [] C7 _
          refine ev_al eX9_readAll_39 rfl ?_
          refine ev_al eX9_readAll_40 rfl ?_
          refine ev_al eX9_readAll_41 rfl ?_
          refine ev_il eX9_readAll_42 rfl ?_
          refine ev_ic eX9_readAll_43 (by decide) ?_
          refine ev_add eX9_readAll_44 ?_
          show ev_W l D cys ty ck_tags ev_TR kc_147 45 [(0, .inr (.inl 14)), (1, .inr (.inl 8)), (2, .inr (.inl 6)), (3, .inl 4), (4, .inl y4)] [.inl 5, .inr (.inl 6), .inr (.inl 8), .inr (.inl 14)] C7 _
          obtain ⟨C8, hq8, h⟩ := ev_bv_some h
          refine ev_callV (kc := kc_146) (A := [.inr (.inl 8), .inr (.inl 6), .inl 5]) (T := []) (lk_m.1 _ _ 0 [134, 137, 140, 143, 146, 149, 152, 155, 158] (isM (by decide +kernel)) 146 (by decide)) eX9_readAll_45 (m_9_readOne_14_8_6_k5 hU hq8) rfl rfl rfl (by decide) (by decide) (Nat.le_of_ble_eq_true rfl) ?_
          rintro _ C8 ⟨rfl, rfl⟩
          show ev_W l D cys ty ck_tags ev_TR kc_147 48 [(0, .inr (.inl 14)), (1, .inr (.inl 8)), (2, .inr (.inl 6)), (3, .inl 4), (4, .inl y4)] [] C8 _
          refine ev_al eX9_readAll_48 rfl ?_
          refine ev_bp eX9_readAll_49 (by decide) (by decide) ?_
          refine ev_ic eX9_readAll_51 (by decide) ?_
          refine ev_ic eX9_readAll_52 (by decide) ?_
          obtain ⟨C9, hq9, h⟩ := ev_bv_some h
          refine ev_callV (kc := kc_121) (A := [.inl 17, .inl 0, .inl 0]) (T := []) (lk_m.1 _ _ 0 [121] (isM (by decide +kernel)) 121 (by decide)) eX9_readAll_53 (m_9_addStep_14 hU hq9) rfl rfl rfl (by decide) (by decide) (Nat.le_of_ble_eq_true rfl) ?_
          rintro _ C9 ⟨rfl, rfl⟩
          show ev_W l D cys ty ck_tags ev_TR kc_147 56 [(0, .inr (.inl 14)), (1, .inr (.inl 8)), (2, .inr (.inl 6)), (3, .inl 4), (4, .inl y4)] [] C9 _
          refine ev_inc (L' := [(4, .inl (ev_w (y4 + 1))), (0, .inr (.inl 14)), (1, .inr (.inl 8)), (2, .inr (.inl 6)), (3, .inl 4)]) eX9_readAll_56 (by decide) (by decide) rfl rfl ?_
          refine ev_goto (tgt := 12) eX9_readAll_59 (by decide) ?_
          refine ev_loc (L' := [(0, .inr (.inl 14)), (1, .inr (.inl 8)), (2, .inr (.inl 6)), (3, .inl 4), (4, .inl (ev_w (y4 + 1)))]) rfl ?_
          exact m_9_readAll_14_8_6_k4_L12 hU n h
set_option maxRecDepth 100000 in
theorem m_9_readAll_14_8_6_k4 (hU : ev_uq ty ev_TR) {C : ev_C} {C' : ev_C} (h : f_9_readAll_14_8_6_k4 C = some C') : ev_Met l D cys ty ck_tags ev_TR kc_147 [.inr (.inl 14), .inr (.inl 8), .inr (.inl 6), .inl 4] C (fun r0 C0 => r0 = none ∧ C0 = C') := by
  unfold f_9_readAll_14_8_6_k4 at h
  refine ev_enter (by decide +kernel) (by decide +kernel) (Nat.le_of_ble_eq_true rfl) ?_
  show ev_W l D cys ty ck_tags ev_TR kc_147 0 [(0, .inr (.inl 14)), (1, .inr (.inl 8)), (2, .inr (.inl 6)), (3, .inl 4)] [] C _
  refine ev_al eX9_readAll_0 rfl ?_
  refine ev_al eX9_readAll_1 rfl ?_
  refine ev_al eX9_readAll_2 rfl ?_
  refine ev_il eX9_readAll_3 rfl ?_
  refine ev_ic eX9_readAll_4 (by decide) ?_
  refine ev_add eX9_readAll_5 ?_
  show ev_W l D cys ty ck_tags ev_TR kc_147 6 [(0, .inr (.inl 14)), (1, .inr (.inl 8)), (2, .inr (.inl 6)), (3, .inl 4)] [.inl 5, .inr (.inl 6), .inr (.inl 8), .inr (.inl 14)] C _
  obtain ⟨C1, hq1, h⟩ := ev_bv_some h
  refine ev_callV (kc := kc_146) (A := [.inr (.inl 8), .inr (.inl 6), .inl 5]) (T := []) (lk_m.1 _ _ 0 [134, 137, 140, 143, 146, 149, 152, 155, 158] (isM (by decide +kernel)) 146 (by decide)) eX9_readAll_6 (m_9_readOne_14_8_6_k5 hU hq1) rfl rfl rfl (by decide) (by decide) (Nat.le_of_ble_eq_true rfl) ?_
  rintro _ C1 ⟨rfl, rfl⟩
  show ev_W l D cys ty ck_tags ev_TR kc_147 9 [(0, .inr (.inl 14)), (1, .inr (.inl 8)), (2, .inr (.inl 6)), (3, .inl 4)] [] C1 _
  refine ev_ic eX9_readAll_9 (by decide) ?_
  refine ev_isw (L' := [(4, .inl 0), (0, .inr (.inl 14)), (1, .inr (.inl 8)), (2, .inr (.inl 6)), (3, .inl 4)]) eX9_readAll_10 (by decide) rfl ?_
  refine ev_loc (L' := [(0, .inr (.inl 14)), (1, .inr (.inl 8)), (2, .inr (.inl 6)), (3, .inl 4), (4, .inl 0)]) rfl ?_
  exact m_9_readAll_14_8_6_k4_L12 hU 1000 h
set_option maxRecDepth 100000 in
theorem m_9_readCond_14_8_6_k4_L10 (hU : ev_uq ty ev_TR) : ∀ (n : Nat) {C : ev_C} {y4 : Int} {C' : ev_C}, f_9_readCond_14_8_6_k4_L10 n C y4 = some C' → ev_W l D cys ty ck_tags ev_TR kc_148 10 [(0, .inr (.inl 14)), (1, .inr (.inl 8)), (2, .inr (.inl 6)), (3, .inl 4), (4, .inl y4)] [] C (fun r0 C0 => r0 = none ∧ C0 = C')
  | 0, _, _, _, h => by cases h
  | n + 1, C, y4, _, h => by
    unfold f_9_readCond_14_8_6_k4_L10 at h
    refine ev_ilw eX9_readCond_10 rfl ?_
    refine ev_bp eX9_readCond_12 (by decide) (by decide) ?_
    refine ev_c_ge (tgt := 58) eX9_readCond_14 (by decide) (fun hc2 => ?_) (fun hc2 => ?_)
    · rw [if_pos (show 20 ≤ y4 from hc2)] at h
      cases h
      exact ev_vret eX9_readCond_58 rfl ⟨rfl, rfl⟩
    · rw [if_neg (show ¬ (20 ≤ y4) from hc2)] at h
      refine ev_al eX9_readCond_17 rfl ?_
      obtain ⟨r3, C3, hq3, h⟩ := ev_bd_some h
      refine ev_callV (kc := kc_36) (A := []) (T := []) (lk_m.1 _ _ 0 [36] (isM (by decide +kernel)) 36 (by decide)) eX9_readCond_18 (m_8_isFine hU hq3) rfl rfl rfl (by decide) (by decide) (Nat.le_of_ble_eq_true rfl) ?_
      rintro _ C3 ⟨rfl, rfl⟩
      show ev_W l D cys ty ck_tags ev_TR kc_148 21 [(0, .inr (.inl 14)), (1, .inr (.inl 8)), (2, .inr (.inl 6)), (3, .inl 4), (4, .inl y4)] [.inl r3] C3 _
      refine ev_z_eq (tgt := 58) eX9_readCond_21 (by decide) (fun hc4 => ?_) (fun hc4 => ?_)
      · rw [if_pos (show r3 = 0 from hc4)] at h
        cases h
        exact ev_vret eX9_readCond_58 rfl ⟨rfl, rfl⟩
      · rw [if_neg (show ¬ (r3 = 0) from hc4)] at h
        refine ev_al eX9_readCond_24 rfl ?_
        refine ev_bp eX9_readCond_25 (by decide) (by decide) ?_
        obtain ⟨r5, C5, hq5, h⟩ := ev_bd_some h
        refine ev_callV (kc := kc_64) (A := [.inl 16]) (T := []) (lk_m.1 _ _ 0 [64] (isM (by decide +kernel)) 64 (by decide)) eX9_readCond_27 (m_8_isAtWord hU hq5) rfl rfl rfl (by decide) (by decide) (Nat.le_of_ble_eq_true rfl) ?_
        rintro _ C5 ⟨rfl, rfl⟩
        show ev_W l D cys ty ck_tags ev_TR kc_148 30 [(0, .inr (.inl 14)), (1, .inr (.inl 8)), (2, .inr (.inl 6)), (3, .inl 4), (4, .inl y4)] [.inl r5] C5 _
        refine ev_z_eq (tgt := 58) eX9_readCond_30 (by decide) (fun hc6 => ?_) (fun hc6 => ?_)
        · rw [if_pos (show r5 = 0 from hc6)] at h
          cases h
          exact ev_vret eX9_readCond_58 rfl ⟨rfl, rfl⟩
        · rw [if_neg (show ¬ (r5 = 0) from hc6)] at h
          refine ev_al eX9_readCond_33 rfl ?_
          obtain ⟨C7, hq7, h⟩ := ev_bv_some h
          refine ev_callV (kc := kc_57) (A := []) (T := []) (lk_m.1 _ _ 0 [57] (isM (by decide +kernel)) 57 (by decide)) eX9_readCond_34 (m_8_step hU hq7) rfl rfl rfl (by decide) (by decide) (Nat.le_of_ble_eq_true rfl) ?_
          rintro _ C7 ⟨rfl, rfl⟩
          show ev_W l D cys ty ck_tags ev_TR kc_148 37 [(0, .inr (.inl 14)), (1, .inr (.inl 8)), (2, .inr (.inl 6)), (3, .inl 4), (4, .inl y4)] [] C7 _
          refine ev_al eX9_readCond_37 rfl ?_
          refine ev_al eX9_readCond_38 rfl ?_
          refine ev_al eX9_readCond_39 rfl ?_
          refine ev_il eX9_readCond_40 rfl ?_
          obtain ⟨C8, hq8, h⟩ := ev_bv_some h
          refine ev_callV (kc := kc_147) (A := [.inr (.inl 8), .inr (.inl 6), .inl 4]) (T := []) (lk_m.1 _ _ 0 [135, 138, 141, 144, 147, 150, 153, 156, 159] (isM (by decide +kernel)) 147 (by decide)) eX9_readCond_41 (m_9_readAll_14_8_6_k4 hU hq8) rfl rfl rfl (by decide) (by decide) (Nat.le_of_ble_eq_true rfl) ?_
          rintro _ C8 ⟨rfl, rfl⟩
          show ev_W l D cys ty ck_tags ev_TR kc_148 44 [(0, .inr (.inl 14)), (1, .inr (.inl 8)), (2, .inr (.inl 6)), (3, .inl 4), (4, .inl y4)] [] C8 _
          refine ev_al eX9_readCond_44 rfl ?_
          refine ev_bp eX9_readCond_45 (by decide) (by decide) ?_
          refine ev_ic eX9_readCond_47 (by decide) ?_
          refine ev_ic eX9_readCond_48 (by decide) ?_
          obtain ⟨C9, hq9, h⟩ := ev_bv_some h
          refine ev_callV (kc := kc_121) (A := [.inl 16, .inl 0, .inl 0]) (T := []) (lk_m.1 _ _ 0 [121] (isM (by decide +kernel)) 121 (by decide)) eX9_readCond_49 (m_9_addStep_14 hU hq9) rfl rfl rfl (by decide) (by decide) (Nat.le_of_ble_eq_true rfl) ?_
          rintro _ C9 ⟨rfl, rfl⟩
          show ev_W l D cys ty ck_tags ev_TR kc_148 52 [(0, .inr (.inl 14)), (1, .inr (.inl 8)), (2, .inr (.inl 6)), (3, .inl 4), (4, .inl y4)] [] C9 _
          refine ev_inc (L' := [(4, .inl (ev_w (y4 + 1))), (0, .inr (.inl 14)), (1, .inr (.inl 8)), (2, .inr (.inl 6)), (3, .inl 4)]) eX9_readCond_52 (by decide) (by decide) rfl rfl ?_
          refine ev_goto (tgt := 10) eX9_readCond_55 (by decide) ?_
          refine ev_loc (L' := [(0, .inr (.inl 14)), (1, .inr (.inl 8)), (2, .inr (.inl 6)), (3, .inl 4), (4, .inl (ev_w (y4 + 1)))]) rfl ?_
          exact m_9_readCond_14_8_6_k4_L10 hU n h
set_option maxRecDepth 100000 in
theorem m_9_readCond_14_8_6_k4 (hU : ev_uq ty ev_TR) {C : ev_C} {C' : ev_C} (h : f_9_readCond_14_8_6_k4 C = some C') : ev_Met l D cys ty ck_tags ev_TR kc_148 [.inr (.inl 14), .inr (.inl 8), .inr (.inl 6), .inl 4] C (fun r0 C0 => r0 = none ∧ C0 = C') := by
  unfold f_9_readCond_14_8_6_k4 at h
  refine ev_enter (by decide +kernel) (by decide +kernel) (Nat.le_of_ble_eq_true rfl) ?_
  show ev_W l D cys ty ck_tags ev_TR kc_148 0 [(0, .inr (.inl 14)), (1, .inr (.inl 8)), (2, .inr (.inl 6)), (3, .inl 4)] [] C _
  refine ev_al eX9_readCond_0 rfl ?_
  refine ev_al eX9_readCond_1 rfl ?_
  refine ev_al eX9_readCond_2 rfl ?_
  refine ev_il eX9_readCond_3 rfl ?_
  obtain ⟨C1, hq1, h⟩ := ev_bv_some h
  refine ev_callV (kc := kc_147) (A := [.inr (.inl 8), .inr (.inl 6), .inl 4]) (T := []) (lk_m.1 _ _ 0 [135, 138, 141, 144, 147, 150, 153, 156, 159] (isM (by decide +kernel)) 147 (by decide)) eX9_readCond_4 (m_9_readAll_14_8_6_k4 hU hq1) rfl rfl rfl (by decide) (by decide) (Nat.le_of_ble_eq_true rfl) ?_
  rintro _ C1 ⟨rfl, rfl⟩
  show ev_W l D cys ty ck_tags ev_TR kc_148 7 [(0, .inr (.inl 14)), (1, .inr (.inl 8)), (2, .inr (.inl 6)), (3, .inl 4)] [] C1 _
  refine ev_ic eX9_readCond_7 (by decide) ?_
  refine ev_isw (L' := [(4, .inl 0), (0, .inr (.inl 14)), (1, .inr (.inl 8)), (2, .inr (.inl 6)), (3, .inl 4)]) eX9_readCond_8 (by decide) rfl ?_
  refine ev_loc (L' := [(0, .inr (.inl 14)), (1, .inr (.inl 8)), (2, .inr (.inl 6)), (3, .inl 4), (4, .inl 0)]) rfl ?_
  exact m_9_readCond_14_8_6_k4_L10 hU 1000 h
set_option maxRecDepth 100000 in
theorem m_9_readOne_14_8_6_k4_J39 (hU : ev_uq ty ev_TR) {C' : ev_C} {C : ev_C} {y4 y5 : Int} (h : f_9_readOne_14_8_6_k4_J39 C y4 y5 = some C') : ev_W l D cys ty ck_tags ev_TR kc_149 39 [(0, .inr (.inl 14)), (1, .inr (.inl 8)), (2, .inr (.inl 6)), (3, .inl 4), (4, .inl y4), (5, .inl y5)] [] C (fun r0 C0 => r0 = none ∧ C0 = C') := by
  unfold f_9_readOne_14_8_6_k4_J39 at h
  refine ev_al eX9_readOne_39 rfl ?_
  refine ev_getI lk_f (ci := 9) (j := 0) (cd := 0) eX9_readOne_40 (isF (by decide +kernel)) rfl rfl rfl ?_
  refine ev_bp eX9_readOne_43 (by decide) (by decide) ?_
  refine ev_c_ge (tgt := 54) eX9_readOne_45 (by decide) (fun hc4 => ?_) (fun hc4 => ?_)
  · rw [if_pos (show 20 ≤ (C 14 0) from hc4)] at h
    refine ev_al eX9_readOne_54 rfl ?_
    refine ev_ic eX9_readOne_55 (by decide) ?_
    obtain ⟨C5, hq5, h⟩ := ev_bv_some h
    refine ev_callV (kc := kc_35) (A := [.inl 4]) (T := []) (lk_m.1 _ _ 0 [35] (isM (by decide +kernel)) 35 (by decide)) eX9_readOne_56 (m_8_fail hU hq5) rfl rfl rfl (by decide) (by decide) (Nat.le_of_ble_eq_true rfl) ?_
    rintro _ C5 ⟨rfl, rfl⟩
    show ev_W l D cys ty ck_tags ev_TR kc_149 59 [(0, .inr (.inl 14)), (1, .inr (.inl 8)), (2, .inr (.inl 6)), (3, .inl 4), (4, .inl y4), (5, .inl y5)] [] C5 _
    cases h
    exact ev_vret eX9_readOne_59 rfl ⟨rfl, rfl⟩
  · rw [if_neg (show ¬ (20 ≤ (C 14 0)) from hc4)] at h
    refine ev_il eX9_readOne_48 rfl ?_
    refine ev_bp eX9_readOne_49 (by decide) (by decide) ?_
    refine ev_c_le (tgt := 60) eX9_readOne_51 (by decide) (fun _ => ?_) (fun hc => absurd (show (4 : Int) ≤ 8 by decide) hc)
    refine ev_al eX9_readOne_60 rfl ?_
    refine ev_dup eX9_readOne_61 rfl ?_
    refine ev_getI lk_f (ci := 9) (j := 0) (cd := 0) eX9_readOne_62 (isF (by decide +kernel)) rfl rfl rfl ?_
    refine ev_ic eX9_readOne_65 (by decide) ?_
    refine ev_add eX9_readOne_66 ?_
    refine ev_putI lk_f hU (ci := 9) (j := 0) (cd := 0) eX9_readOne_67 (isF (by decide +kernel)) rfl rfl (Or.inl rfl) rfl ?_
    refine ev_al eX9_readOne_70 rfl ?_
    obtain ⟨C6, hq6, h⟩ := ev_bv_some h
    refine ev_callV (kc := kc_57) (A := []) (T := []) (lk_m.1 _ _ 0 [57] (isM (by decide +kernel)) 57 (by decide)) eX9_readOne_71 (m_8_step hU hq6) rfl rfl rfl (by decide) (by decide) (Nat.le_of_ble_eq_true rfl) ?_
    rintro _ C6 ⟨rfl, rfl⟩
    show ev_W l D cys ty ck_tags ev_TR kc_149 74 [(0, .inr (.inl 14)), (1, .inr (.inl 8)), (2, .inr (.inl 6)), (3, .inl 4), (4, .inl y4), (5, .inl y5)] [] C6 _
    refine ev_ilw eX9_readOne_74 rfl ?_
    refine ev_z_eq (tgt := 102) eX9_readOne_76 (by decide) (fun hc7 => ?_) (fun hc7 => ?_)
    · rw [if_pos (show y5 = 0 from hc7)] at h
      refine ev_ilw eX9_readOne_102 rfl ?_
      refine ev_bp eX9_readOne_104 (by decide) (by decide) ?_
      refine ev_c_ne (tgt := 129) eX9_readOne_106 (by decide) (fun hc8 => ?_) (fun hc8 => ?_)
      · rw [if_pos (show y4 ≠ 18 from hc8)] at h
        refine ev_al eX9_readOne_129 rfl ?_
        refine ev_al eX9_readOne_130 rfl ?_
        refine ev_al eX9_readOne_131 rfl ?_
        refine ev_ilw eX9_readOne_132 rfl ?_
        obtain ⟨C9, hq9, h⟩ := ev_bv_some h
        refine ev_callV (kc := kc_133) (A := [.inr (.inl 8), .inr (.inl 6), .inl y4]) (T := []) (lk_m.1 _ _ 0 [133] (isM (by decide +kernel)) 133 (by decide)) eX9_readOne_134 (m_9_readPlainOne_14_8_6 hU hq9) rfl rfl rfl (by decide) (by decide) (Nat.le_of_ble_eq_true rfl) ?_
        rintro _ C9 ⟨rfl, rfl⟩
        show ev_W l D cys ty ck_tags ev_TR kc_149 137 [(0, .inr (.inl 14)), (1, .inr (.inl 8)), (2, .inr (.inl 6)), (3, .inl 4), (4, .inl y4), (5, .inl y5)] [] C9 _
        cases h
        exact ev_vret eX9_readOne_137 rfl ⟨rfl, rfl⟩
      · rw [if_neg (show ¬ (y4 ≠ 18) from hc8)] at h
        refine ev_al eX9_readOne_109 rfl ?_
        refine ev_al eX9_readOne_110 rfl ?_
        refine ev_al eX9_readOne_111 rfl ?_
        refine ev_il eX9_readOne_112 rfl ?_
        refine ev_ic eX9_readOne_113 (by decide) ?_
        refine ev_add eX9_readOne_114 ?_
        show ev_W l D cys ty ck_tags ev_TR kc_149 115 [(0, .inr (.inl 14)), (1, .inr (.inl 8)), (2, .inr (.inl 6)), (3, .inl 4), (4, .inl y4), (5, .inl y5)] [.inl 5, .inr (.inl 6), .inr (.inl 8), .inr (.inl 14)] C6 _
        obtain ⟨C10, hq10, h⟩ := ev_bv_some h
        refine ev_callV (kc := kc_146) (A := [.inr (.inl 8), .inr (.inl 6), .inl 5]) (T := []) (lk_m.1 _ _ 0 [134, 137, 140, 143, 146, 149, 152, 155, 158] (isM (by decide +kernel)) 146 (by decide)) eX9_readOne_115 (m_9_readOne_14_8_6_k5 hU hq10) rfl rfl rfl (by decide) (by decide) (Nat.le_of_ble_eq_true rfl) ?_
        rintro _ C10 ⟨rfl, rfl⟩
        show ev_W l D cys ty ck_tags ev_TR kc_149 118 [(0, .inr (.inl 14)), (1, .inr (.inl 8)), (2, .inr (.inl 6)), (3, .inl 4), (4, .inl y4), (5, .inl y5)] [] C10 _
        refine ev_al eX9_readOne_118 rfl ?_
        refine ev_bp eX9_readOne_119 (by decide) (by decide) ?_
        refine ev_ic eX9_readOne_121 (by decide) ?_
        refine ev_ic eX9_readOne_122 (by decide) ?_
        obtain ⟨C11, hq11, h⟩ := ev_bv_some h
        refine ev_callV (kc := kc_121) (A := [.inl 18, .inl 0, .inl 0]) (T := []) (lk_m.1 _ _ 0 [121] (isM (by decide +kernel)) 121 (by decide)) eX9_readOne_123 (m_9_addStep_14 hU hq11) rfl rfl rfl (by decide) (by decide) (Nat.le_of_ble_eq_true rfl) ?_
        rintro _ C11 ⟨rfl, rfl⟩
        show ev_W l D cys ty ck_tags ev_TR kc_149 126 [(0, .inr (.inl 14)), (1, .inr (.inl 8)), (2, .inr (.inl 6)), (3, .inl 4), (4, .inl y4), (5, .inl y5)] [] C11 _
        refine ev_goto (tgt := 137) eX9_readOne_126 (by decide) ?_
        cases h
        exact ev_vret eX9_readOne_137 rfl ⟨rfl, rfl⟩
    · rw [if_neg (show ¬ (y5 = 0) from hc7)] at h
      refine ev_al eX9_readOne_79 rfl ?_
      refine ev_al eX9_readOne_80 rfl ?_
      refine ev_al eX9_readOne_81 rfl ?_
      refine ev_il eX9_readOne_82 rfl ?_
      obtain ⟨C12, hq12, h⟩ := ev_bv_some h
      refine ev_callV (kc := kc_148) (A := [.inr (.inl 8), .inr (.inl 6), .inl 4]) (T := []) (lk_m.1 _ _ 0 [136, 139, 142, 145, 148, 151, 154, 157, 160] (isM (by decide +kernel)) 148 (by decide)) eX9_readOne_83 (m_9_readCond_14_8_6_k4 hU hq12) rfl rfl rfl (by decide) (by decide) (Nat.le_of_ble_eq_true rfl) ?_
      rintro _ C12 ⟨rfl, rfl⟩
      show ev_W l D cys ty ck_tags ev_TR kc_149 86 [(0, .inr (.inl 14)), (1, .inr (.inl 8)), (2, .inr (.inl 6)), (3, .inl 4), (4, .inl y4), (5, .inl y5)] [] C12 _
      refine ev_al eX9_readOne_86 rfl ?_
      obtain ⟨r13, C13, hq13, h⟩ := ev_bd_some h
      refine ev_callV (kc := kc_36) (A := []) (T := []) (lk_m.1 _ _ 0 [36] (isM (by decide +kernel)) 36 (by decide)) eX9_readOne_87 (m_8_isFine hU hq13) rfl rfl rfl (by decide) (by decide) (Nat.le_of_ble_eq_true rfl) ?_
      rintro _ C13 ⟨rfl, rfl⟩
      show ev_W l D cys ty ck_tags ev_TR kc_149 90 [(0, .inr (.inl 14)), (1, .inr (.inl 8)), (2, .inr (.inl 6)), (3, .inl 4), (4, .inl y4), (5, .inl y5)] [.inl r13] C13 _
      refine ev_z_eq (tgt := 137) eX9_readOne_90 (by decide) (fun hc14 => ?_) (fun hc14 => ?_)
      · rw [if_pos (show r13 = 0 from hc14)] at h
        cases h
        exact ev_vret eX9_readOne_137 rfl ⟨rfl, rfl⟩
      · rw [if_neg (show ¬ (r13 = 0) from hc14)] at h
        refine ev_al eX9_readOne_93 rfl ?_
        refine ev_bp eX9_readOne_94 (by decide) (by decide) ?_
        obtain ⟨C15, hq15, h⟩ := ev_bv_some h
        refine ev_callV (kc := kc_68) (A := [.inl 41]) (T := []) (lk_m.1 _ _ 0 [68] (isM (by decide +kernel)) 68 (by decide)) eX9_readOne_96 (m_8_takeSign hU hq15) rfl rfl rfl (by decide) (by decide) (Nat.le_of_ble_eq_true rfl) ?_
        rintro _ C15 ⟨rfl, rfl⟩
        show ev_W l D cys ty ck_tags ev_TR kc_149 99 [(0, .inr (.inl 14)), (1, .inr (.inl 8)), (2, .inr (.inl 6)), (3, .inl 4), (4, .inl y4), (5, .inl y5)] [] C15 _
        refine ev_goto (tgt := 137) eX9_readOne_99 (by decide) ?_
        cases h
        exact ev_vret eX9_readOne_137 rfl ⟨rfl, rfl⟩
set_option maxRecDepth 100000 in
theorem m_9_readOne_14_8_6_k4 (hU : ev_uq ty ev_TR) {C : ev_C} {C' : ev_C} (h : f_9_readOne_14_8_6_k4 C = some C') : ev_Met l D cys ty ck_tags ev_TR kc_149 [.inr (.inl 14), .inr (.inl 8), .inr (.inl 6), .inl 4] C (fun r0 C0 => r0 = none ∧ C0 = C') := by
  unfold f_9_readOne_14_8_6_k4 at h
  refine ev_enter (by decide +kernel) (by decide +kernel) (Nat.le_of_ble_eq_true rfl) ?_
  show ev_W l D cys ty ck_tags ev_TR kc_149 0 [(0, .inr (.inl 14)), (1, .inr (.inl 8)), (2, .inr (.inl 6)), (3, .inl 4)] [] C _
  refine ev_al eX9_readOne_0 rfl ?_
  obtain ⟨r1, C1, hq1, h⟩ := ev_bd_some h
  refine ev_callV (kc := kc_66) (A := []) (T := []) (lk_m.1 _ _ 0 [66] (isM (by decide +kernel)) 66 (by decide)) eX9_readOne_1 (m_8_wordHere hU hq1) rfl rfl rfl (by decide) (by decide) (Nat.le_of_ble_eq_true rfl) ?_
  rintro _ C1 ⟨rfl, rfl⟩
  show ev_W l D cys ty ck_tags ev_TR kc_149 4 [(0, .inr (.inl 14)), (1, .inr (.inl 8)), (2, .inr (.inl 6)), (3, .inl 4)] [.inl r1] C1 _
  refine ev_isw (L' := [(4, .inl r1), (0, .inr (.inl 14)), (1, .inr (.inl 8)), (2, .inr (.inl 6)), (3, .inl 4)]) eX9_readOne_4 (by decide) rfl ?_
  refine ev_al eX9_readOne_6 rfl ?_
  refine ev_bp eX9_readOne_7 (by decide) (by decide) ?_
  obtain ⟨r2, C2, hq2, h⟩ := ev_bd_some h
  refine ev_callV (kc := kc_67) (A := [.inl 40]) (T := []) (lk_m.1 _ _ 0 [67] (isM (by decide +kernel)) 67 (by decide)) eX9_readOne_9 (m_8_isAtSign hU hq2) rfl rfl rfl (by decide) (by decide) (Nat.le_of_ble_eq_true rfl) ?_
  rintro _ C2 ⟨rfl, rfl⟩
  show ev_W l D cys ty ck_tags ev_TR kc_149 12 [(4, .inl r1), (0, .inr (.inl 14)), (1, .inr (.inl 8)), (2, .inr (.inl 6)), (3, .inl 4)] [.inl r2] C2 _
  refine ev_isw (L' := [(5, .inl r2), (4, .inl r1), (0, .inr (.inl 14)), (1, .inr (.inl 8)), (2, .inr (.inl 6)), (3, .inl 4)]) eX9_readOne_12 (by decide) rfl ?_
  refine ev_ilw eX9_readOne_14 rfl ?_
  refine ev_z_ne (tgt := 39) eX9_readOne_16 (by decide) (fun hc3 => ?_) (fun hc3 => ?_)
  · rw [if_pos (show r2 ≠ 0 from hc3)] at h
    refine ev_loc (L' := [(0, .inr (.inl 14)), (1, .inr (.inl 8)), (2, .inr (.inl 6)), (3, .inl 4), (4, .inl r1), (5, .inl r2)]) rfl ?_
    exact m_9_readOne_14_8_6_k4_J39 hU h
  · rw [if_neg (show ¬ (r2 ≠ 0) from hc3)] at h
    refine ev_ilw eX9_readOne_19 rfl ?_
    refine ev_bp eX9_readOne_21 (by decide) (by decide) ?_
    refine ev_c_lt (tgt := 33) eX9_readOne_23 (by decide) (fun hc16 => ?_) (fun hc16 => ?_)
    · rw [if_pos (show r1 < 18 from hc16)] at h
      refine ev_al eX9_readOne_33 rfl ?_
      refine ev_ic eX9_readOne_34 (by decide) ?_
      obtain ⟨C17, hq17, h⟩ := ev_bv_some h
      refine ev_callV (kc := kc_35) (A := [.inl 1]) (T := []) (lk_m.1 _ _ 0 [35] (isM (by decide +kernel)) 35 (by decide)) eX9_readOne_35 (m_8_fail hU hq17) rfl rfl rfl (by decide) (by decide) (Nat.le_of_ble_eq_true rfl) ?_
      rintro _ C17 ⟨rfl, rfl⟩
      show ev_W l D cys ty ck_tags ev_TR kc_149 38 [(5, .inl r2), (4, .inl r1), (0, .inr (.inl 14)), (1, .inr (.inl 8)), (2, .inr (.inl 6)), (3, .inl 4)] [] C17 _
      cases h
      exact ev_vret eX9_readOne_38 rfl ⟨rfl, rfl⟩
    · rw [if_neg (show ¬ (r1 < 18) from hc16)] at h
      refine ev_ilw eX9_readOne_26 rfl ?_
      refine ev_bp eX9_readOne_28 (by decide) (by decide) ?_
      refine ev_c_le (tgt := 39) eX9_readOne_30 (by decide) (fun hc18 => ?_) (fun hc18 => ?_)
      · rw [if_pos (show r1 ≤ 26 from hc18)] at h
        refine ev_loc (L' := [(0, .inr (.inl 14)), (1, .inr (.inl 8)), (2, .inr (.inl 6)), (3, .inl 4), (4, .inl r1), (5, .inl r2)]) rfl ?_
        exact m_9_readOne_14_8_6_k4_J39 hU h
      · rw [if_neg (show ¬ (r1 ≤ 26) from hc18)] at h
        refine ev_al eX9_readOne_33 rfl ?_
        refine ev_ic eX9_readOne_34 (by decide) ?_
        obtain ⟨C19, hq19, h⟩ := ev_bv_some h
        refine ev_callV (kc := kc_35) (A := [.inl 1]) (T := []) (lk_m.1 _ _ 0 [35] (isM (by decide +kernel)) 35 (by decide)) eX9_readOne_35 (m_8_fail hU hq19) rfl rfl rfl (by decide) (by decide) (Nat.le_of_ble_eq_true rfl) ?_
        rintro _ C19 ⟨rfl, rfl⟩
        show ev_W l D cys ty ck_tags ev_TR kc_149 38 [(5, .inl r2), (4, .inl r1), (0, .inr (.inl 14)), (1, .inr (.inl 8)), (2, .inr (.inl 6)), (3, .inl 4)] [] C19 _
        cases h
        exact ev_vret eX9_readOne_38 rfl ⟨rfl, rfl⟩
set_option maxRecDepth 100000 in
theorem m_9_readAll_14_8_6_k3_L12 (hU : ev_uq ty ev_TR) : ∀ (n : Nat) {C : ev_C} {y4 : Int} {C' : ev_C}, f_9_readAll_14_8_6_k3_L12 n C y4 = some C' → ev_W l D cys ty ck_tags ev_TR kc_150 12 [(0, .inr (.inl 14)), (1, .inr (.inl 8)), (2, .inr (.inl 6)), (3, .inl 3), (4, .inl y4)] [] C (fun r0 C0 => r0 = none ∧ C0 = C')
  | 0, _, _, _, h => by cases h
  | n + 1, C, y4, _, h => by
    unfold f_9_readAll_14_8_6_k3_L12 at h
    refine ev_ilw eX9_readAll_12 rfl ?_
    refine ev_bp eX9_readAll_14 (by decide) (by decide) ?_
    refine ev_c_ge (tgt := 62) eX9_readAll_16 (by decide) (fun hc2 => ?_) (fun hc2 => ?_)
    · rw [if_pos (show 20 ≤ y4 from hc2)] at h
      cases h
      exact ev_vret eX9_readAll_62 rfl ⟨rfl, rfl⟩
    · rw [if_neg (show ¬ (20 ≤ y4) from hc2)] at h
      refine ev_al eX9_readAll_19 rfl ?_
      obtain ⟨r3, C3, hq3, h⟩ := ev_bd_some h
      refine ev_callV (kc := kc_36) (A := []) (T := []) (lk_m.1 _ _ 0 [36] (isM (by decide +kernel)) 36 (by decide)) eX9_readAll_20 (m_8_isFine hU hq3) rfl rfl rfl (by decide) (by decide) (Nat.le_of_ble_eq_true rfl) ?_
      rintro _ C3 ⟨rfl, rfl⟩
      show ev_W l D cys ty ck_tags ev_TR kc_150 23 [(0, .inr (.inl 14)), (1, .inr (.inl 8)), (2, .inr (.inl 6)), (3, .inl 3), (4, .inl y4)] [.inl r3] C3 _
      refine ev_z_eq (tgt := 62) eX9_readAll_23 (by decide) (fun hc4 => ?_) (fun hc4 => ?_)
      · rw [if_pos (show r3 = 0 from hc4)] at h
        cases h
        exact ev_vret eX9_readAll_62 rfl ⟨rfl, rfl⟩
      · rw [if_neg (show ¬ (r3 = 0) from hc4)] at h
        refine ev_al eX9_readAll_26 rfl ?_
        refine ev_bp eX9_readAll_27 (by decide) (by decide) ?_
        obtain ⟨r5, C5, hq5, h⟩ := ev_bd_some h
        refine ev_callV (kc := kc_64) (A := [.inl 17]) (T := []) (lk_m.1 _ _ 0 [64] (isM (by decide +kernel)) 64 (by decide)) eX9_readAll_29 (m_8_isAtWord hU hq5) rfl rfl rfl (by decide) (by decide) (Nat.le_of_ble_eq_true rfl) ?_
        rintro _ C5 ⟨rfl, rfl⟩
        show ev_W l D cys ty ck_tags ev_TR kc_150 32 [(0, .inr (.inl 14)), (1, .inr (.inl 8)), (2, .inr (.inl 6)), (3, .inl 3), (4, .inl y4)] [.inl r5] C5 _
        refine ev_z_eq (tgt := 62) eX9_readAll_32 (by decide) (fun hc6 => ?_) (fun hc6 => ?_)
        · rw [if_pos (show r5 = 0 from hc6)] at h
          cases h
          exact ev_vret eX9_readAll_62 rfl ⟨rfl, rfl⟩
        · rw [if_neg (show ¬ (r5 = 0) from hc6)] at h
          refine ev_al eX9_readAll_35 rfl ?_
          obtain ⟨C7, hq7, h⟩ := ev_bv_some h
          refine ev_callV (kc := kc_57) (A := []) (T := []) (lk_m.1 _ _ 0 [57] (isM (by decide +kernel)) 57 (by decide)) eX9_readAll_36 (m_8_step hU hq7) rfl rfl rfl (by decide) (by decide) (Nat.le_of_ble_eq_true rfl) ?_
          rintro _ C7 ⟨rfl, rfl⟩
          show ev_W l D cys ty ck_tags ev_TR kc_150 39 [(0, .inr (.inl 14)), (1, .inr (.inl 8)), (2, .inr (.inl 6)), (3, .inl 3), (4, .inl y4)] [] C7 _
          refine ev_al eX9_readAll_39 rfl ?_
          refine ev_al eX9_readAll_40 rfl ?_
          refine ev_al eX9_readAll_41 rfl ?_
          refine ev_il eX9_readAll_42 rfl ?_
          refine ev_ic eX9_readAll_43 (by decide) ?_
          refine ev_add eX9_readAll_44 ?_
          show ev_W l D cys ty ck_tags ev_TR kc_150 45 [(0, .inr (.inl 14)), (1, .inr (.inl 8)), (2, .inr (.inl 6)), (3, .inl 3), (4, .inl y4)] [.inl 4, .inr (.inl 6), .inr (.inl 8), .inr (.inl 14)] C7 _
          obtain ⟨C8, hq8, h⟩ := ev_bv_some h
          refine ev_callV (kc := kc_149) (A := [.inr (.inl 8), .inr (.inl 6), .inl 4]) (T := []) (lk_m.1 _ _ 0 [134, 137, 140, 143, 146, 149, 152, 155, 158] (isM (by decide +kernel)) 149 (by decide)) eX9_readAll_45 (m_9_readOne_14_8_6_k4 hU hq8) rfl rfl rfl (by decide) (by decide) (Nat.le_of_ble_eq_true rfl) ?_
          rintro _ C8 ⟨rfl, rfl⟩
          show ev_W l D cys ty ck_tags ev_TR kc_150 48 [(0, .inr (.inl 14)), (1, .inr (.inl 8)), (2, .inr (.inl 6)), (3, .inl 3), (4, .inl y4)] [] C8 _
          refine ev_al eX9_readAll_48 rfl ?_
          refine ev_bp eX9_readAll_49 (by decide) (by decide) ?_
          refine ev_ic eX9_readAll_51 (by decide) ?_
          refine ev_ic eX9_readAll_52 (by decide) ?_
          obtain ⟨C9, hq9, h⟩ := ev_bv_some h
          refine ev_callV (kc := kc_121) (A := [.inl 17, .inl 0, .inl 0]) (T := []) (lk_m.1 _ _ 0 [121] (isM (by decide +kernel)) 121 (by decide)) eX9_readAll_53 (m_9_addStep_14 hU hq9) rfl rfl rfl (by decide) (by decide) (Nat.le_of_ble_eq_true rfl) ?_
          rintro _ C9 ⟨rfl, rfl⟩
          show ev_W l D cys ty ck_tags ev_TR kc_150 56 [(0, .inr (.inl 14)), (1, .inr (.inl 8)), (2, .inr (.inl 6)), (3, .inl 3), (4, .inl y4)] [] C9 _
          refine ev_inc (L' := [(4, .inl (ev_w (y4 + 1))), (0, .inr (.inl 14)), (1, .inr (.inl 8)), (2, .inr (.inl 6)), (3, .inl 3)]) eX9_readAll_56 (by decide) (by decide) rfl rfl ?_
          refine ev_goto (tgt := 12) eX9_readAll_59 (by decide) ?_
          refine ev_loc (L' := [(0, .inr (.inl 14)), (1, .inr (.inl 8)), (2, .inr (.inl 6)), (3, .inl 3), (4, .inl (ev_w (y4 + 1)))]) rfl ?_
          exact m_9_readAll_14_8_6_k3_L12 hU n h
set_option maxRecDepth 100000 in
theorem m_9_readAll_14_8_6_k3 (hU : ev_uq ty ev_TR) {C : ev_C} {C' : ev_C} (h : f_9_readAll_14_8_6_k3 C = some C') : ev_Met l D cys ty ck_tags ev_TR kc_150 [.inr (.inl 14), .inr (.inl 8), .inr (.inl 6), .inl 3] C (fun r0 C0 => r0 = none ∧ C0 = C') := by
  unfold f_9_readAll_14_8_6_k3 at h
  refine ev_enter (by decide +kernel) (by decide +kernel) (Nat.le_of_ble_eq_true rfl) ?_
  show ev_W l D cys ty ck_tags ev_TR kc_150 0 [(0, .inr (.inl 14)), (1, .inr (.inl 8)), (2, .inr (.inl 6)), (3, .inl 3)] [] C _
  refine ev_al eX9_readAll_0 rfl ?_
  refine ev_al eX9_readAll_1 rfl ?_
  refine ev_al eX9_readAll_2 rfl ?_
  refine ev_il eX9_readAll_3 rfl ?_
  refine ev_ic eX9_readAll_4 (by decide) ?_
  refine ev_add eX9_readAll_5 ?_
  show ev_W l D cys ty ck_tags ev_TR kc_150 6 [(0, .inr (.inl 14)), (1, .inr (.inl 8)), (2, .inr (.inl 6)), (3, .inl 3)] [.inl 4, .inr (.inl 6), .inr (.inl 8), .inr (.inl 14)] C _
  obtain ⟨C1, hq1, h⟩ := ev_bv_some h
  refine ev_callV (kc := kc_149) (A := [.inr (.inl 8), .inr (.inl 6), .inl 4]) (T := []) (lk_m.1 _ _ 0 [134, 137, 140, 143, 146, 149, 152, 155, 158] (isM (by decide +kernel)) 149 (by decide)) eX9_readAll_6 (m_9_readOne_14_8_6_k4 hU hq1) rfl rfl rfl (by decide) (by decide) (Nat.le_of_ble_eq_true rfl) ?_
  rintro _ C1 ⟨rfl, rfl⟩
  show ev_W l D cys ty ck_tags ev_TR kc_150 9 [(0, .inr (.inl 14)), (1, .inr (.inl 8)), (2, .inr (.inl 6)), (3, .inl 3)] [] C1 _
  refine ev_ic eX9_readAll_9 (by decide) ?_
  refine ev_isw (L' := [(4, .inl 0), (0, .inr (.inl 14)), (1, .inr (.inl 8)), (2, .inr (.inl 6)), (3, .inl 3)]) eX9_readAll_10 (by decide) rfl ?_
  refine ev_loc (L' := [(0, .inr (.inl 14)), (1, .inr (.inl 8)), (2, .inr (.inl 6)), (3, .inl 3), (4, .inl 0)]) rfl ?_
  exact m_9_readAll_14_8_6_k3_L12 hU 1000 h
set_option maxRecDepth 100000 in
theorem m_9_readCond_14_8_6_k3_L10 (hU : ev_uq ty ev_TR) : ∀ (n : Nat) {C : ev_C} {y4 : Int} {C' : ev_C}, f_9_readCond_14_8_6_k3_L10 n C y4 = some C' → ev_W l D cys ty ck_tags ev_TR kc_151 10 [(0, .inr (.inl 14)), (1, .inr (.inl 8)), (2, .inr (.inl 6)), (3, .inl 3), (4, .inl y4)] [] C (fun r0 C0 => r0 = none ∧ C0 = C')
  | 0, _, _, _, h => by cases h
  | n + 1, C, y4, _, h => by
    unfold f_9_readCond_14_8_6_k3_L10 at h
    refine ev_ilw eX9_readCond_10 rfl ?_
    refine ev_bp eX9_readCond_12 (by decide) (by decide) ?_
    refine ev_c_ge (tgt := 58) eX9_readCond_14 (by decide) (fun hc2 => ?_) (fun hc2 => ?_)
    · rw [if_pos (show 20 ≤ y4 from hc2)] at h
      cases h
      exact ev_vret eX9_readCond_58 rfl ⟨rfl, rfl⟩
    · rw [if_neg (show ¬ (20 ≤ y4) from hc2)] at h
      refine ev_al eX9_readCond_17 rfl ?_
      obtain ⟨r3, C3, hq3, h⟩ := ev_bd_some h
      refine ev_callV (kc := kc_36) (A := []) (T := []) (lk_m.1 _ _ 0 [36] (isM (by decide +kernel)) 36 (by decide)) eX9_readCond_18 (m_8_isFine hU hq3) rfl rfl rfl (by decide) (by decide) (Nat.le_of_ble_eq_true rfl) ?_
      rintro _ C3 ⟨rfl, rfl⟩
      show ev_W l D cys ty ck_tags ev_TR kc_151 21 [(0, .inr (.inl 14)), (1, .inr (.inl 8)), (2, .inr (.inl 6)), (3, .inl 3), (4, .inl y4)] [.inl r3] C3 _
      refine ev_z_eq (tgt := 58) eX9_readCond_21 (by decide) (fun hc4 => ?_) (fun hc4 => ?_)
      · rw [if_pos (show r3 = 0 from hc4)] at h
        cases h
        exact ev_vret eX9_readCond_58 rfl ⟨rfl, rfl⟩
      · rw [if_neg (show ¬ (r3 = 0) from hc4)] at h
        refine ev_al eX9_readCond_24 rfl ?_
        refine ev_bp eX9_readCond_25 (by decide) (by decide) ?_
        obtain ⟨r5, C5, hq5, h⟩ := ev_bd_some h
        refine ev_callV (kc := kc_64) (A := [.inl 16]) (T := []) (lk_m.1 _ _ 0 [64] (isM (by decide +kernel)) 64 (by decide)) eX9_readCond_27 (m_8_isAtWord hU hq5) rfl rfl rfl (by decide) (by decide) (Nat.le_of_ble_eq_true rfl) ?_
        rintro _ C5 ⟨rfl, rfl⟩
        show ev_W l D cys ty ck_tags ev_TR kc_151 30 [(0, .inr (.inl 14)), (1, .inr (.inl 8)), (2, .inr (.inl 6)), (3, .inl 3), (4, .inl y4)] [.inl r5] C5 _
        refine ev_z_eq (tgt := 58) eX9_readCond_30 (by decide) (fun hc6 => ?_) (fun hc6 => ?_)
        · rw [if_pos (show r5 = 0 from hc6)] at h
          cases h
          exact ev_vret eX9_readCond_58 rfl ⟨rfl, rfl⟩
        · rw [if_neg (show ¬ (r5 = 0) from hc6)] at h
          refine ev_al eX9_readCond_33 rfl ?_
          obtain ⟨C7, hq7, h⟩ := ev_bv_some h
          refine ev_callV (kc := kc_57) (A := []) (T := []) (lk_m.1 _ _ 0 [57] (isM (by decide +kernel)) 57 (by decide)) eX9_readCond_34 (m_8_step hU hq7) rfl rfl rfl (by decide) (by decide) (Nat.le_of_ble_eq_true rfl) ?_
          rintro _ C7 ⟨rfl, rfl⟩
          show ev_W l D cys ty ck_tags ev_TR kc_151 37 [(0, .inr (.inl 14)), (1, .inr (.inl 8)), (2, .inr (.inl 6)), (3, .inl 3), (4, .inl y4)] [] C7 _
          refine ev_al eX9_readCond_37 rfl ?_
          refine ev_al eX9_readCond_38 rfl ?_
          refine ev_al eX9_readCond_39 rfl ?_
          refine ev_il eX9_readCond_40 rfl ?_
          obtain ⟨C8, hq8, h⟩ := ev_bv_some h
          refine ev_callV (kc := kc_150) (A := [.inr (.inl 8), .inr (.inl 6), .inl 3]) (T := []) (lk_m.1 _ _ 0 [135, 138, 141, 144, 147, 150, 153, 156, 159] (isM (by decide +kernel)) 150 (by decide)) eX9_readCond_41 (m_9_readAll_14_8_6_k3 hU hq8) rfl rfl rfl (by decide) (by decide) (Nat.le_of_ble_eq_true rfl) ?_
          rintro _ C8 ⟨rfl, rfl⟩
          show ev_W l D cys ty ck_tags ev_TR kc_151 44 [(0, .inr (.inl 14)), (1, .inr (.inl 8)), (2, .inr (.inl 6)), (3, .inl 3), (4, .inl y4)] [] C8 _
          refine ev_al eX9_readCond_44 rfl ?_
          refine ev_bp eX9_readCond_45 (by decide) (by decide) ?_
          refine ev_ic eX9_readCond_47 (by decide) ?_
          refine ev_ic eX9_readCond_48 (by decide) ?_
          obtain ⟨C9, hq9, h⟩ := ev_bv_some h
          refine ev_callV (kc := kc_121) (A := [.inl 16, .inl 0, .inl 0]) (T := []) (lk_m.1 _ _ 0 [121] (isM (by decide +kernel)) 121 (by decide)) eX9_readCond_49 (m_9_addStep_14 hU hq9) rfl rfl rfl (by decide) (by decide) (Nat.le_of_ble_eq_true rfl) ?_
          rintro _ C9 ⟨rfl, rfl⟩
          show ev_W l D cys ty ck_tags ev_TR kc_151 52 [(0, .inr (.inl 14)), (1, .inr (.inl 8)), (2, .inr (.inl 6)), (3, .inl 3), (4, .inl y4)] [] C9 _
          refine ev_inc (L' := [(4, .inl (ev_w (y4 + 1))), (0, .inr (.inl 14)), (1, .inr (.inl 8)), (2, .inr (.inl 6)), (3, .inl 3)]) eX9_readCond_52 (by decide) (by decide) rfl rfl ?_
          refine ev_goto (tgt := 10) eX9_readCond_55 (by decide) ?_
          refine ev_loc (L' := [(0, .inr (.inl 14)), (1, .inr (.inl 8)), (2, .inr (.inl 6)), (3, .inl 3), (4, .inl (ev_w (y4 + 1)))]) rfl ?_
          exact m_9_readCond_14_8_6_k3_L10 hU n h
set_option maxRecDepth 100000 in
theorem m_9_readCond_14_8_6_k3 (hU : ev_uq ty ev_TR) {C : ev_C} {C' : ev_C} (h : f_9_readCond_14_8_6_k3 C = some C') : ev_Met l D cys ty ck_tags ev_TR kc_151 [.inr (.inl 14), .inr (.inl 8), .inr (.inl 6), .inl 3] C (fun r0 C0 => r0 = none ∧ C0 = C') := by
  unfold f_9_readCond_14_8_6_k3 at h
  refine ev_enter (by decide +kernel) (by decide +kernel) (Nat.le_of_ble_eq_true rfl) ?_
  show ev_W l D cys ty ck_tags ev_TR kc_151 0 [(0, .inr (.inl 14)), (1, .inr (.inl 8)), (2, .inr (.inl 6)), (3, .inl 3)] [] C _
  refine ev_al eX9_readCond_0 rfl ?_
  refine ev_al eX9_readCond_1 rfl ?_
  refine ev_al eX9_readCond_2 rfl ?_
  refine ev_il eX9_readCond_3 rfl ?_
  obtain ⟨C1, hq1, h⟩ := ev_bv_some h
  refine ev_callV (kc := kc_150) (A := [.inr (.inl 8), .inr (.inl 6), .inl 3]) (T := []) (lk_m.1 _ _ 0 [135, 138, 141, 144, 147, 150, 153, 156, 159] (isM (by decide +kernel)) 150 (by decide)) eX9_readCond_4 (m_9_readAll_14_8_6_k3 hU hq1) rfl rfl rfl (by decide) (by decide) (Nat.le_of_ble_eq_true rfl) ?_
  rintro _ C1 ⟨rfl, rfl⟩
  show ev_W l D cys ty ck_tags ev_TR kc_151 7 [(0, .inr (.inl 14)), (1, .inr (.inl 8)), (2, .inr (.inl 6)), (3, .inl 3)] [] C1 _
  refine ev_ic eX9_readCond_7 (by decide) ?_
  refine ev_isw (L' := [(4, .inl 0), (0, .inr (.inl 14)), (1, .inr (.inl 8)), (2, .inr (.inl 6)), (3, .inl 3)]) eX9_readCond_8 (by decide) rfl ?_
  refine ev_loc (L' := [(0, .inr (.inl 14)), (1, .inr (.inl 8)), (2, .inr (.inl 6)), (3, .inl 3), (4, .inl 0)]) rfl ?_
  exact m_9_readCond_14_8_6_k3_L10 hU 1000 h
set_option maxRecDepth 100000 in
theorem m_9_readOne_14_8_6_k3_J39 (hU : ev_uq ty ev_TR) {C' : ev_C} {C : ev_C} {y4 y5 : Int} (h : f_9_readOne_14_8_6_k3_J39 C y4 y5 = some C') : ev_W l D cys ty ck_tags ev_TR kc_152 39 [(0, .inr (.inl 14)), (1, .inr (.inl 8)), (2, .inr (.inl 6)), (3, .inl 3), (4, .inl y4), (5, .inl y5)] [] C (fun r0 C0 => r0 = none ∧ C0 = C') := by
  unfold f_9_readOne_14_8_6_k3_J39 at h
  refine ev_al eX9_readOne_39 rfl ?_
  refine ev_getI lk_f (ci := 9) (j := 0) (cd := 0) eX9_readOne_40 (isF (by decide +kernel)) rfl rfl rfl ?_
  refine ev_bp eX9_readOne_43 (by decide) (by decide) ?_
  refine ev_c_ge (tgt := 54) eX9_readOne_45 (by decide) (fun hc4 => ?_) (fun hc4 => ?_)
  · rw [if_pos (show 20 ≤ (C 14 0) from hc4)] at h
    refine ev_al eX9_readOne_54 rfl ?_
    refine ev_ic eX9_readOne_55 (by decide) ?_
    obtain ⟨C5, hq5, h⟩ := ev_bv_some h
    refine ev_callV (kc := kc_35) (A := [.inl 4]) (T := []) (lk_m.1 _ _ 0 [35] (isM (by decide +kernel)) 35 (by decide)) eX9_readOne_56 (m_8_fail hU hq5) rfl rfl rfl (by decide) (by decide) (Nat.le_of_ble_eq_true rfl) ?_
    rintro _ C5 ⟨rfl, rfl⟩
    show ev_W l D cys ty ck_tags ev_TR kc_152 59 [(0, .inr (.inl 14)), (1, .inr (.inl 8)), (2, .inr (.inl 6)), (3, .inl 3), (4, .inl y4), (5, .inl y5)] [] C5 _
    cases h
    exact ev_vret eX9_readOne_59 rfl ⟨rfl, rfl⟩
  · rw [if_neg (show ¬ (20 ≤ (C 14 0)) from hc4)] at h
    refine ev_il eX9_readOne_48 rfl ?_
    refine ev_bp eX9_readOne_49 (by decide) (by decide) ?_
    refine ev_c_le (tgt := 60) eX9_readOne_51 (by decide) (fun _ => ?_) (fun hc => absurd (show (3 : Int) ≤ 8 by decide) hc)
    refine ev_al eX9_readOne_60 rfl ?_
    refine ev_dup eX9_readOne_61 rfl ?_
    refine ev_getI lk_f (ci := 9) (j := 0) (cd := 0) eX9_readOne_62 (isF (by decide +kernel)) rfl rfl rfl ?_
    refine ev_ic eX9_readOne_65 (by decide) ?_
    refine ev_add eX9_readOne_66 ?_
    refine ev_putI lk_f hU (ci := 9) (j := 0) (cd := 0) eX9_readOne_67 (isF (by decide +kernel)) rfl rfl (Or.inl rfl) rfl ?_
    refine ev_al eX9_readOne_70 rfl ?_
    obtain ⟨C6, hq6, h⟩ := ev_bv_some h
    refine ev_callV (kc := kc_57) (A := []) (T := []) (lk_m.1 _ _ 0 [57] (isM (by decide +kernel)) 57 (by decide)) eX9_readOne_71 (m_8_step hU hq6) rfl rfl rfl (by decide) (by decide) (Nat.le_of_ble_eq_true rfl) ?_
    rintro _ C6 ⟨rfl, rfl⟩
    show ev_W l D cys ty ck_tags ev_TR kc_152 74 [(0, .inr (.inl 14)), (1, .inr (.inl 8)), (2, .inr (.inl 6)), (3, .inl 3), (4, .inl y4), (5, .inl y5)] [] C6 _
    refine ev_ilw eX9_readOne_74 rfl ?_
    refine ev_z_eq (tgt := 102) eX9_readOne_76 (by decide) (fun hc7 => ?_) (fun hc7 => ?_)
    · rw [if_pos (show y5 = 0 from hc7)] at h
      refine ev_ilw eX9_readOne_102 rfl ?_
      refine ev_bp eX9_readOne_104 (by decide) (by decide) ?_
      refine ev_c_ne (tgt := 129) eX9_readOne_106 (by decide) (fun hc8 => ?_) (fun hc8 => ?_)
      · rw [if_pos (show y4 ≠ 18 from hc8)] at h
        refine ev_al eX9_readOne_129 rfl ?_
        refine ev_al eX9_readOne_130 rfl ?_
        refine ev_al eX9_readOne_131 rfl ?_
        refine ev_ilw eX9_readOne_132 rfl ?_
        obtain ⟨C9, hq9, h⟩ := ev_bv_some h
        refine ev_callV (kc := kc_133) (A := [.inr (.inl 8), .inr (.inl 6), .inl y4]) (T := []) (lk_m.1 _ _ 0 [133] (isM (by decide +kernel)) 133 (by decide)) eX9_readOne_134 (m_9_readPlainOne_14_8_6 hU hq9) rfl rfl rfl (by decide) (by decide) (Nat.le_of_ble_eq_true rfl) ?_
        rintro _ C9 ⟨rfl, rfl⟩
        show ev_W l D cys ty ck_tags ev_TR kc_152 137 [(0, .inr (.inl 14)), (1, .inr (.inl 8)), (2, .inr (.inl 6)), (3, .inl 3), (4, .inl y4), (5, .inl y5)] [] C9 _
        cases h
        exact ev_vret eX9_readOne_137 rfl ⟨rfl, rfl⟩
      · rw [if_neg (show ¬ (y4 ≠ 18) from hc8)] at h
        refine ev_al eX9_readOne_109 rfl ?_
        refine ev_al eX9_readOne_110 rfl ?_
        refine ev_al eX9_readOne_111 rfl ?_
        refine ev_il eX9_readOne_112 rfl ?_
        refine ev_ic eX9_readOne_113 (by decide) ?_
        refine ev_add eX9_readOne_114 ?_
        show ev_W l D cys ty ck_tags ev_TR kc_152 115 [(0, .inr (.inl 14)), (1, .inr (.inl 8)), (2, .inr (.inl 6)), (3, .inl 3), (4, .inl y4), (5, .inl y5)] [.inl 4, .inr (.inl 6), .inr (.inl 8), .inr (.inl 14)] C6 _
        obtain ⟨C10, hq10, h⟩ := ev_bv_some h
        refine ev_callV (kc := kc_149) (A := [.inr (.inl 8), .inr (.inl 6), .inl 4]) (T := []) (lk_m.1 _ _ 0 [134, 137, 140, 143, 146, 149, 152, 155, 158] (isM (by decide +kernel)) 149 (by decide)) eX9_readOne_115 (m_9_readOne_14_8_6_k4 hU hq10) rfl rfl rfl (by decide) (by decide) (Nat.le_of_ble_eq_true rfl) ?_
        rintro _ C10 ⟨rfl, rfl⟩
        show ev_W l D cys ty ck_tags ev_TR kc_152 118 [(0, .inr (.inl 14)), (1, .inr (.inl 8)), (2, .inr (.inl 6)), (3, .inl 3), (4, .inl y4), (5, .inl y5)] [] C10 _
        refine ev_al eX9_readOne_118 rfl ?_
        refine ev_bp eX9_readOne_119 (by decide) (by decide) ?_
        refine ev_ic eX9_readOne_121 (by decide) ?_
        refine ev_ic eX9_readOne_122 (by decide) ?_
        obtain ⟨C11, hq11, h⟩ := ev_bv_some h
        refine ev_callV (kc := kc_121) (A := [.inl 18, .inl 0, .inl 0]) (T := []) (lk_m.1 _ _ 0 [121] (isM (by decide +kernel)) 121 (by decide)) eX9_readOne_123 (m_9_addStep_14 hU hq11) rfl rfl rfl (by decide) (by decide) (Nat.le_of_ble_eq_true rfl) ?_
        rintro _ C11 ⟨rfl, rfl⟩
        show ev_W l D cys ty ck_tags ev_TR kc_152 126 [(0, .inr (.inl 14)), (1, .inr (.inl 8)), (2, .inr (.inl 6)), (3, .inl 3), (4, .inl y4), (5, .inl y5)] [] C11 _
        refine ev_goto (tgt := 137) eX9_readOne_126 (by decide) ?_
        cases h
        exact ev_vret eX9_readOne_137 rfl ⟨rfl, rfl⟩
    · rw [if_neg (show ¬ (y5 = 0) from hc7)] at h
      refine ev_al eX9_readOne_79 rfl ?_
      refine ev_al eX9_readOne_80 rfl ?_
      refine ev_al eX9_readOne_81 rfl ?_
      refine ev_il eX9_readOne_82 rfl ?_
      obtain ⟨C12, hq12, h⟩ := ev_bv_some h
      refine ev_callV (kc := kc_151) (A := [.inr (.inl 8), .inr (.inl 6), .inl 3]) (T := []) (lk_m.1 _ _ 0 [136, 139, 142, 145, 148, 151, 154, 157, 160] (isM (by decide +kernel)) 151 (by decide)) eX9_readOne_83 (m_9_readCond_14_8_6_k3 hU hq12) rfl rfl rfl (by decide) (by decide) (Nat.le_of_ble_eq_true rfl) ?_
      rintro _ C12 ⟨rfl, rfl⟩
      show ev_W l D cys ty ck_tags ev_TR kc_152 86 [(0, .inr (.inl 14)), (1, .inr (.inl 8)), (2, .inr (.inl 6)), (3, .inl 3), (4, .inl y4), (5, .inl y5)] [] C12 _
      refine ev_al eX9_readOne_86 rfl ?_
      obtain ⟨r13, C13, hq13, h⟩ := ev_bd_some h
      refine ev_callV (kc := kc_36) (A := []) (T := []) (lk_m.1 _ _ 0 [36] (isM (by decide +kernel)) 36 (by decide)) eX9_readOne_87 (m_8_isFine hU hq13) rfl rfl rfl (by decide) (by decide) (Nat.le_of_ble_eq_true rfl) ?_
      rintro _ C13 ⟨rfl, rfl⟩
      show ev_W l D cys ty ck_tags ev_TR kc_152 90 [(0, .inr (.inl 14)), (1, .inr (.inl 8)), (2, .inr (.inl 6)), (3, .inl 3), (4, .inl y4), (5, .inl y5)] [.inl r13] C13 _
      refine ev_z_eq (tgt := 137) eX9_readOne_90 (by decide) (fun hc14 => ?_) (fun hc14 => ?_)
      · rw [if_pos (show r13 = 0 from hc14)] at h
        cases h
        exact ev_vret eX9_readOne_137 rfl ⟨rfl, rfl⟩
      · rw [if_neg (show ¬ (r13 = 0) from hc14)] at h
        refine ev_al eX9_readOne_93 rfl ?_
        refine ev_bp eX9_readOne_94 (by decide) (by decide) ?_
        obtain ⟨C15, hq15, h⟩ := ev_bv_some h
        refine ev_callV (kc := kc_68) (A := [.inl 41]) (T := []) (lk_m.1 _ _ 0 [68] (isM (by decide +kernel)) 68 (by decide)) eX9_readOne_96 (m_8_takeSign hU hq15) rfl rfl rfl (by decide) (by decide) (Nat.le_of_ble_eq_true rfl) ?_
        rintro _ C15 ⟨rfl, rfl⟩
        show ev_W l D cys ty ck_tags ev_TR kc_152 99 [(0, .inr (.inl 14)), (1, .inr (.inl 8)), (2, .inr (.inl 6)), (3, .inl 3), (4, .inl y4), (5, .inl y5)] [] C15 _
        refine ev_goto (tgt := 137) eX9_readOne_99 (by decide) ?_
        cases h
        exact ev_vret eX9_readOne_137 rfl ⟨rfl, rfl⟩
set_option maxRecDepth 100000 in
theorem m_9_readOne_14_8_6_k3 (hU : ev_uq ty ev_TR) {C : ev_C} {C' : ev_C} (h : f_9_readOne_14_8_6_k3 C = some C') : ev_Met l D cys ty ck_tags ev_TR kc_152 [.inr (.inl 14), .inr (.inl 8), .inr (.inl 6), .inl 3] C (fun r0 C0 => r0 = none ∧ C0 = C') := by
  unfold f_9_readOne_14_8_6_k3 at h
  refine ev_enter (by decide +kernel) (by decide +kernel) (Nat.le_of_ble_eq_true rfl) ?_
  show ev_W l D cys ty ck_tags ev_TR kc_152 0 [(0, .inr (.inl 14)), (1, .inr (.inl 8)), (2, .inr (.inl 6)), (3, .inl 3)] [] C _
  refine ev_al eX9_readOne_0 rfl ?_
  obtain ⟨r1, C1, hq1, h⟩ := ev_bd_some h
  refine ev_callV (kc := kc_66) (A := []) (T := []) (lk_m.1 _ _ 0 [66] (isM (by decide +kernel)) 66 (by decide)) eX9_readOne_1 (m_8_wordHere hU hq1) rfl rfl rfl (by decide) (by decide) (Nat.le_of_ble_eq_true rfl) ?_
  rintro _ C1 ⟨rfl, rfl⟩
  show ev_W l D cys ty ck_tags ev_TR kc_152 4 [(0, .inr (.inl 14)), (1, .inr (.inl 8)), (2, .inr (.inl 6)), (3, .inl 3)] [.inl r1] C1 _
  refine ev_isw (L' := [(4, .inl r1), (0, .inr (.inl 14)), (1, .inr (.inl 8)), (2, .inr (.inl 6)), (3, .inl 3)]) eX9_readOne_4 (by decide) rfl ?_
  refine ev_al eX9_readOne_6 rfl ?_
  refine ev_bp eX9_readOne_7 (by decide) (by decide) ?_
  obtain ⟨r2, C2, hq2, h⟩ := ev_bd_some h
  refine ev_callV (kc := kc_67) (A := [.inl 40]) (T := []) (lk_m.1 _ _ 0 [67] (isM (by decide +kernel)) 67 (by decide)) eX9_readOne_9 (m_8_isAtSign hU hq2) rfl rfl rfl (by decide) (by decide) (Nat.le_of_ble_eq_true rfl) ?_
  rintro _ C2 ⟨rfl, rfl⟩
  show ev_W l D cys ty ck_tags ev_TR kc_152 12 [(4, .inl r1), (0, .inr (.inl 14)), (1, .inr (.inl 8)), (2, .inr (.inl 6)), (3, .inl 3)] [.inl r2] C2 _
  refine ev_isw (L' := [(5, .inl r2), (4, .inl r1), (0, .inr (.inl 14)), (1, .inr (.inl 8)), (2, .inr (.inl 6)), (3, .inl 3)]) eX9_readOne_12 (by decide) rfl ?_
  refine ev_ilw eX9_readOne_14 rfl ?_
  refine ev_z_ne (tgt := 39) eX9_readOne_16 (by decide) (fun hc3 => ?_) (fun hc3 => ?_)
  · rw [if_pos (show r2 ≠ 0 from hc3)] at h
    refine ev_loc (L' := [(0, .inr (.inl 14)), (1, .inr (.inl 8)), (2, .inr (.inl 6)), (3, .inl 3), (4, .inl r1), (5, .inl r2)]) rfl ?_
    exact m_9_readOne_14_8_6_k3_J39 hU h
  · rw [if_neg (show ¬ (r2 ≠ 0) from hc3)] at h
    refine ev_ilw eX9_readOne_19 rfl ?_
    refine ev_bp eX9_readOne_21 (by decide) (by decide) ?_
    refine ev_c_lt (tgt := 33) eX9_readOne_23 (by decide) (fun hc16 => ?_) (fun hc16 => ?_)
    · rw [if_pos (show r1 < 18 from hc16)] at h
      refine ev_al eX9_readOne_33 rfl ?_
      refine ev_ic eX9_readOne_34 (by decide) ?_
      obtain ⟨C17, hq17, h⟩ := ev_bv_some h
      refine ev_callV (kc := kc_35) (A := [.inl 1]) (T := []) (lk_m.1 _ _ 0 [35] (isM (by decide +kernel)) 35 (by decide)) eX9_readOne_35 (m_8_fail hU hq17) rfl rfl rfl (by decide) (by decide) (Nat.le_of_ble_eq_true rfl) ?_
      rintro _ C17 ⟨rfl, rfl⟩
      show ev_W l D cys ty ck_tags ev_TR kc_152 38 [(5, .inl r2), (4, .inl r1), (0, .inr (.inl 14)), (1, .inr (.inl 8)), (2, .inr (.inl 6)), (3, .inl 3)] [] C17 _
      cases h
      exact ev_vret eX9_readOne_38 rfl ⟨rfl, rfl⟩
    · rw [if_neg (show ¬ (r1 < 18) from hc16)] at h
      refine ev_ilw eX9_readOne_26 rfl ?_
      refine ev_bp eX9_readOne_28 (by decide) (by decide) ?_
      refine ev_c_le (tgt := 39) eX9_readOne_30 (by decide) (fun hc18 => ?_) (fun hc18 => ?_)
      · rw [if_pos (show r1 ≤ 26 from hc18)] at h
        refine ev_loc (L' := [(0, .inr (.inl 14)), (1, .inr (.inl 8)), (2, .inr (.inl 6)), (3, .inl 3), (4, .inl r1), (5, .inl r2)]) rfl ?_
        exact m_9_readOne_14_8_6_k3_J39 hU h
      · rw [if_neg (show ¬ (r1 ≤ 26) from hc18)] at h
        refine ev_al eX9_readOne_33 rfl ?_
        refine ev_ic eX9_readOne_34 (by decide) ?_
        obtain ⟨C19, hq19, h⟩ := ev_bv_some h
        refine ev_callV (kc := kc_35) (A := [.inl 1]) (T := []) (lk_m.1 _ _ 0 [35] (isM (by decide +kernel)) 35 (by decide)) eX9_readOne_35 (m_8_fail hU hq19) rfl rfl rfl (by decide) (by decide) (Nat.le_of_ble_eq_true rfl) ?_
        rintro _ C19 ⟨rfl, rfl⟩
        show ev_W l D cys ty ck_tags ev_TR kc_152 38 [(5, .inl r2), (4, .inl r1), (0, .inr (.inl 14)), (1, .inr (.inl 8)), (2, .inr (.inl 6)), (3, .inl 3)] [] C19 _
        cases h
        exact ev_vret eX9_readOne_38 rfl ⟨rfl, rfl⟩
set_option maxRecDepth 100000 in
theorem m_9_readAll_14_8_6_k2_L12 (hU : ev_uq ty ev_TR) : ∀ (n : Nat) {C : ev_C} {y4 : Int} {C' : ev_C}, f_9_readAll_14_8_6_k2_L12 n C y4 = some C' → ev_W l D cys ty ck_tags ev_TR kc_153 12 [(0, .inr (.inl 14)), (1, .inr (.inl 8)), (2, .inr (.inl 6)), (3, .inl 2), (4, .inl y4)] [] C (fun r0 C0 => r0 = none ∧ C0 = C')
  | 0, _, _, _, h => by cases h
  | n + 1, C, y4, _, h => by
    unfold f_9_readAll_14_8_6_k2_L12 at h
    refine ev_ilw eX9_readAll_12 rfl ?_
    refine ev_bp eX9_readAll_14 (by decide) (by decide) ?_
    refine ev_c_ge (tgt := 62) eX9_readAll_16 (by decide) (fun hc2 => ?_) (fun hc2 => ?_)
    · rw [if_pos (show 20 ≤ y4 from hc2)] at h
      cases h
      exact ev_vret eX9_readAll_62 rfl ⟨rfl, rfl⟩
    · rw [if_neg (show ¬ (20 ≤ y4) from hc2)] at h
      refine ev_al eX9_readAll_19 rfl ?_
      obtain ⟨r3, C3, hq3, h⟩ := ev_bd_some h
      refine ev_callV (kc := kc_36) (A := []) (T := []) (lk_m.1 _ _ 0 [36] (isM (by decide +kernel)) 36 (by decide)) eX9_readAll_20 (m_8_isFine hU hq3) rfl rfl rfl (by decide) (by decide) (Nat.le_of_ble_eq_true rfl) ?_
      rintro _ C3 ⟨rfl, rfl⟩
      show ev_W l D cys ty ck_tags ev_TR kc_153 23 [(0, .inr (.inl 14)), (1, .inr (.inl 8)), (2, .inr (.inl 6)), (3, .inl 2), (4, .inl y4)] [.inl r3] C3 _
      refine ev_z_eq (tgt := 62) eX9_readAll_23 (by decide) (fun hc4 => ?_) (fun hc4 => ?_)
      · rw [if_pos (show r3 = 0 from hc4)] at h
        cases h
        exact ev_vret eX9_readAll_62 rfl ⟨rfl, rfl⟩
      · rw [if_neg (show ¬ (r3 = 0) from hc4)] at h
        refine ev_al eX9_readAll_26 rfl ?_
        refine ev_bp eX9_readAll_27 (by decide) (by decide) ?_
        obtain ⟨r5, C5, hq5, h⟩ := ev_bd_some h
        refine ev_callV (kc := kc_64) (A := [.inl 17]) (T := []) (lk_m.1 _ _ 0 [64] (isM (by decide +kernel)) 64 (by decide)) eX9_readAll_29 (m_8_isAtWord hU hq5) rfl rfl rfl (by decide) (by decide) (Nat.le_of_ble_eq_true rfl) ?_
        rintro _ C5 ⟨rfl, rfl⟩
        show ev_W l D cys ty ck_tags ev_TR kc_153 32 [(0, .inr (.inl 14)), (1, .inr (.inl 8)), (2, .inr (.inl 6)), (3, .inl 2), (4, .inl y4)] [.inl r5] C5 _
        refine ev_z_eq (tgt := 62) eX9_readAll_32 (by decide) (fun hc6 => ?_) (fun hc6 => ?_)
        · rw [if_pos (show r5 = 0 from hc6)] at h
          cases h
          exact ev_vret eX9_readAll_62 rfl ⟨rfl, rfl⟩
        · rw [if_neg (show ¬ (r5 = 0) from hc6)] at h
          refine ev_al eX9_readAll_35 rfl ?_
          obtain ⟨C7, hq7, h⟩ := ev_bv_some h
          refine ev_callV (kc := kc_57) (A := []) (T := []) (lk_m.1 _ _ 0 [57] (isM (by decide +kernel)) 57 (by decide)) eX9_readAll_36 (m_8_step hU hq7) rfl rfl rfl (by decide) (by decide) (Nat.le_of_ble_eq_true rfl) ?_
          rintro _ C7 ⟨rfl, rfl⟩
          show ev_W l D cys ty ck_tags ev_TR kc_153 39 [(0, .inr (.inl 14)), (1, .inr (.inl 8)), (2, .inr (.inl 6)), (3, .inl 2), (4, .inl y4)] [] C7 _
          refine ev_al eX9_readAll_39 rfl ?_
          refine ev_al eX9_readAll_40 rfl ?_
          refine ev_al eX9_readAll_41 rfl ?_
          refine ev_il eX9_readAll_42 rfl ?_
          refine ev_ic eX9_readAll_43 (by decide) ?_
          refine ev_add eX9_readAll_44 ?_
          show ev_W l D cys ty ck_tags ev_TR kc_153 45 [(0, .inr (.inl 14)), (1, .inr (.inl 8)), (2, .inr (.inl 6)), (3, .inl 2), (4, .inl y4)] [.inl 3, .inr (.inl 6), .inr (.inl 8), .inr (.inl 14)] C7 _
          obtain ⟨C8, hq8, h⟩ := ev_bv_some h
          refine ev_callV (kc := kc_152) (A := [.inr (.inl 8), .inr (.inl 6), .inl 3]) (T := []) (lk_m.1 _ _ 0 [134, 137, 140, 143, 146, 149, 152, 155, 158] (isM (by decide +kernel)) 152 (by decide)) eX9_readAll_45 (m_9_readOne_14_8_6_k3 hU hq8) rfl rfl rfl (by decide) (by decide) (Nat.le_of_ble_eq_true rfl) ?_
          rintro _ C8 ⟨rfl, rfl⟩
          show ev_W l D cys ty ck_tags ev_TR kc_153 48 [(0, .inr (.inl 14)), (1, .inr (.inl 8)), (2, .inr (.inl 6)), (3, .inl 2), (4, .inl y4)] [] C8 _
          refine ev_al eX9_readAll_48 rfl ?_
          refine ev_bp eX9_readAll_49 (by decide) (by decide) ?_
          refine ev_ic eX9_readAll_51 (by decide) ?_
          refine ev_ic eX9_readAll_52 (by decide) ?_
          obtain ⟨C9, hq9, h⟩ := ev_bv_some h
          refine ev_callV (kc := kc_121) (A := [.inl 17, .inl 0, .inl 0]) (T := []) (lk_m.1 _ _ 0 [121] (isM (by decide +kernel)) 121 (by decide)) eX9_readAll_53 (m_9_addStep_14 hU hq9) rfl rfl rfl (by decide) (by decide) (Nat.le_of_ble_eq_true rfl) ?_
          rintro _ C9 ⟨rfl, rfl⟩
          show ev_W l D cys ty ck_tags ev_TR kc_153 56 [(0, .inr (.inl 14)), (1, .inr (.inl 8)), (2, .inr (.inl 6)), (3, .inl 2), (4, .inl y4)] [] C9 _
          refine ev_inc (L' := [(4, .inl (ev_w (y4 + 1))), (0, .inr (.inl 14)), (1, .inr (.inl 8)), (2, .inr (.inl 6)), (3, .inl 2)]) eX9_readAll_56 (by decide) (by decide) rfl rfl ?_
          refine ev_goto (tgt := 12) eX9_readAll_59 (by decide) ?_
          refine ev_loc (L' := [(0, .inr (.inl 14)), (1, .inr (.inl 8)), (2, .inr (.inl 6)), (3, .inl 2), (4, .inl (ev_w (y4 + 1)))]) rfl ?_
          exact m_9_readAll_14_8_6_k2_L12 hU n h
set_option maxRecDepth 100000 in
theorem m_9_readAll_14_8_6_k2 (hU : ev_uq ty ev_TR) {C : ev_C} {C' : ev_C} (h : f_9_readAll_14_8_6_k2 C = some C') : ev_Met l D cys ty ck_tags ev_TR kc_153 [.inr (.inl 14), .inr (.inl 8), .inr (.inl 6), .inl 2] C (fun r0 C0 => r0 = none ∧ C0 = C') := by
  unfold f_9_readAll_14_8_6_k2 at h
  refine ev_enter (by decide +kernel) (by decide +kernel) (Nat.le_of_ble_eq_true rfl) ?_
  show ev_W l D cys ty ck_tags ev_TR kc_153 0 [(0, .inr (.inl 14)), (1, .inr (.inl 8)), (2, .inr (.inl 6)), (3, .inl 2)] [] C _
  refine ev_al eX9_readAll_0 rfl ?_
  refine ev_al eX9_readAll_1 rfl ?_
  refine ev_al eX9_readAll_2 rfl ?_
  refine ev_il eX9_readAll_3 rfl ?_
  refine ev_ic eX9_readAll_4 (by decide) ?_
  refine ev_add eX9_readAll_5 ?_
  show ev_W l D cys ty ck_tags ev_TR kc_153 6 [(0, .inr (.inl 14)), (1, .inr (.inl 8)), (2, .inr (.inl 6)), (3, .inl 2)] [.inl 3, .inr (.inl 6), .inr (.inl 8), .inr (.inl 14)] C _
  obtain ⟨C1, hq1, h⟩ := ev_bv_some h
  refine ev_callV (kc := kc_152) (A := [.inr (.inl 8), .inr (.inl 6), .inl 3]) (T := []) (lk_m.1 _ _ 0 [134, 137, 140, 143, 146, 149, 152, 155, 158] (isM (by decide +kernel)) 152 (by decide)) eX9_readAll_6 (m_9_readOne_14_8_6_k3 hU hq1) rfl rfl rfl (by decide) (by decide) (Nat.le_of_ble_eq_true rfl) ?_
  rintro _ C1 ⟨rfl, rfl⟩
  show ev_W l D cys ty ck_tags ev_TR kc_153 9 [(0, .inr (.inl 14)), (1, .inr (.inl 8)), (2, .inr (.inl 6)), (3, .inl 2)] [] C1 _
  refine ev_ic eX9_readAll_9 (by decide) ?_
  refine ev_isw (L' := [(4, .inl 0), (0, .inr (.inl 14)), (1, .inr (.inl 8)), (2, .inr (.inl 6)), (3, .inl 2)]) eX9_readAll_10 (by decide) rfl ?_
  refine ev_loc (L' := [(0, .inr (.inl 14)), (1, .inr (.inl 8)), (2, .inr (.inl 6)), (3, .inl 2), (4, .inl 0)]) rfl ?_
  exact m_9_readAll_14_8_6_k2_L12 hU 1000 h
set_option maxRecDepth 100000 in
theorem m_9_readCond_14_8_6_k2_L10 (hU : ev_uq ty ev_TR) : ∀ (n : Nat) {C : ev_C} {y4 : Int} {C' : ev_C}, f_9_readCond_14_8_6_k2_L10 n C y4 = some C' → ev_W l D cys ty ck_tags ev_TR kc_154 10 [(0, .inr (.inl 14)), (1, .inr (.inl 8)), (2, .inr (.inl 6)), (3, .inl 2), (4, .inl y4)] [] C (fun r0 C0 => r0 = none ∧ C0 = C')
  | 0, _, _, _, h => by cases h
  | n + 1, C, y4, _, h => by
    unfold f_9_readCond_14_8_6_k2_L10 at h
    refine ev_ilw eX9_readCond_10 rfl ?_
    refine ev_bp eX9_readCond_12 (by decide) (by decide) ?_
    refine ev_c_ge (tgt := 58) eX9_readCond_14 (by decide) (fun hc2 => ?_) (fun hc2 => ?_)
    · rw [if_pos (show 20 ≤ y4 from hc2)] at h
      cases h
      exact ev_vret eX9_readCond_58 rfl ⟨rfl, rfl⟩
    · rw [if_neg (show ¬ (20 ≤ y4) from hc2)] at h
      refine ev_al eX9_readCond_17 rfl ?_
      obtain ⟨r3, C3, hq3, h⟩ := ev_bd_some h
      refine ev_callV (kc := kc_36) (A := []) (T := []) (lk_m.1 _ _ 0 [36] (isM (by decide +kernel)) 36 (by decide)) eX9_readCond_18 (m_8_isFine hU hq3) rfl rfl rfl (by decide) (by decide) (Nat.le_of_ble_eq_true rfl) ?_
      rintro _ C3 ⟨rfl, rfl⟩
      show ev_W l D cys ty ck_tags ev_TR kc_154 21 [(0, .inr (.inl 14)), (1, .inr (.inl 8)), (2, .inr (.inl 6)), (3, .inl 2), (4, .inl y4)] [.inl r3] C3 _
      refine ev_z_eq (tgt := 58) eX9_readCond_21 (by decide) (fun hc4 => ?_) (fun hc4 => ?_)
      · rw [if_pos (show r3 = 0 from hc4)] at h
        cases h
        exact ev_vret eX9_readCond_58 rfl ⟨rfl, rfl⟩
      · rw [if_neg (show ¬ (r3 = 0) from hc4)] at h
        refine ev_al eX9_readCond_24 rfl ?_
        refine ev_bp eX9_readCond_25 (by decide) (by decide) ?_
        obtain ⟨r5, C5, hq5, h⟩ := ev_bd_some h
        refine ev_callV (kc := kc_64) (A := [.inl 16]) (T := []) (lk_m.1 _ _ 0 [64] (isM (by decide +kernel)) 64 (by decide)) eX9_readCond_27 (m_8_isAtWord hU hq5) rfl rfl rfl (by decide) (by decide) (Nat.le_of_ble_eq_true rfl) ?_
        rintro _ C5 ⟨rfl, rfl⟩
        show ev_W l D cys ty ck_tags ev_TR kc_154 30 [(0, .inr (.inl 14)), (1, .inr (.inl 8)), (2, .inr (.inl 6)), (3, .inl 2), (4, .inl y4)] [.inl r5] C5 _
        refine ev_z_eq (tgt := 58) eX9_readCond_30 (by decide) (fun hc6 => ?_) (fun hc6 => ?_)
        · rw [if_pos (show r5 = 0 from hc6)] at h
          cases h
          exact ev_vret eX9_readCond_58 rfl ⟨rfl, rfl⟩
        · rw [if_neg (show ¬ (r5 = 0) from hc6)] at h
          refine ev_al eX9_readCond_33 rfl ?_
          obtain ⟨C7, hq7, h⟩ := ev_bv_some h
          refine ev_callV (kc := kc_57) (A := []) (T := []) (lk_m.1 _ _ 0 [57] (isM (by decide +kernel)) 57 (by decide)) eX9_readCond_34 (m_8_step hU hq7) rfl rfl rfl (by decide) (by decide) (Nat.le_of_ble_eq_true rfl) ?_
          rintro _ C7 ⟨rfl, rfl⟩
          show ev_W l D cys ty ck_tags ev_TR kc_154 37 [(0, .inr (.inl 14)), (1, .inr (.inl 8)), (2, .inr (.inl 6)), (3, .inl 2), (4, .inl y4)] [] C7 _
          refine ev_al eX9_readCond_37 rfl ?_
          refine ev_al eX9_readCond_38 rfl ?_
          refine ev_al eX9_readCond_39 rfl ?_
          refine ev_il eX9_readCond_40 rfl ?_
          obtain ⟨C8, hq8, h⟩ := ev_bv_some h
          refine ev_callV (kc := kc_153) (A := [.inr (.inl 8), .inr (.inl 6), .inl 2]) (T := []) (lk_m.1 _ _ 0 [135, 138, 141, 144, 147, 150, 153, 156, 159] (isM (by decide +kernel)) 153 (by decide)) eX9_readCond_41 (m_9_readAll_14_8_6_k2 hU hq8) rfl rfl rfl (by decide) (by decide) (Nat.le_of_ble_eq_true rfl) ?_
          rintro _ C8 ⟨rfl, rfl⟩
          show ev_W l D cys ty ck_tags ev_TR kc_154 44 [(0, .inr (.inl 14)), (1, .inr (.inl 8)), (2, .inr (.inl 6)), (3, .inl 2), (4, .inl y4)] [] C8 _
          refine ev_al eX9_readCond_44 rfl ?_
          refine ev_bp eX9_readCond_45 (by decide) (by decide) ?_
          refine ev_ic eX9_readCond_47 (by decide) ?_
          refine ev_ic eX9_readCond_48 (by decide) ?_
          obtain ⟨C9, hq9, h⟩ := ev_bv_some h
          refine ev_callV (kc := kc_121) (A := [.inl 16, .inl 0, .inl 0]) (T := []) (lk_m.1 _ _ 0 [121] (isM (by decide +kernel)) 121 (by decide)) eX9_readCond_49 (m_9_addStep_14 hU hq9) rfl rfl rfl (by decide) (by decide) (Nat.le_of_ble_eq_true rfl) ?_
          rintro _ C9 ⟨rfl, rfl⟩
          show ev_W l D cys ty ck_tags ev_TR kc_154 52 [(0, .inr (.inl 14)), (1, .inr (.inl 8)), (2, .inr (.inl 6)), (3, .inl 2), (4, .inl y4)] [] C9 _
          refine ev_inc (L' := [(4, .inl (ev_w (y4 + 1))), (0, .inr (.inl 14)), (1, .inr (.inl 8)), (2, .inr (.inl 6)), (3, .inl 2)]) eX9_readCond_52 (by decide) (by decide) rfl rfl ?_
          refine ev_goto (tgt := 10) eX9_readCond_55 (by decide) ?_
          refine ev_loc (L' := [(0, .inr (.inl 14)), (1, .inr (.inl 8)), (2, .inr (.inl 6)), (3, .inl 2), (4, .inl (ev_w (y4 + 1)))]) rfl ?_
          exact m_9_readCond_14_8_6_k2_L10 hU n h
set_option maxRecDepth 100000 in
theorem m_9_readCond_14_8_6_k2 (hU : ev_uq ty ev_TR) {C : ev_C} {C' : ev_C} (h : f_9_readCond_14_8_6_k2 C = some C') : ev_Met l D cys ty ck_tags ev_TR kc_154 [.inr (.inl 14), .inr (.inl 8), .inr (.inl 6), .inl 2] C (fun r0 C0 => r0 = none ∧ C0 = C') := by
  unfold f_9_readCond_14_8_6_k2 at h
  refine ev_enter (by decide +kernel) (by decide +kernel) (Nat.le_of_ble_eq_true rfl) ?_
  show ev_W l D cys ty ck_tags ev_TR kc_154 0 [(0, .inr (.inl 14)), (1, .inr (.inl 8)), (2, .inr (.inl 6)), (3, .inl 2)] [] C _
  refine ev_al eX9_readCond_0 rfl ?_
  refine ev_al eX9_readCond_1 rfl ?_
  refine ev_al eX9_readCond_2 rfl ?_
  refine ev_il eX9_readCond_3 rfl ?_
  obtain ⟨C1, hq1, h⟩ := ev_bv_some h
  refine ev_callV (kc := kc_153) (A := [.inr (.inl 8), .inr (.inl 6), .inl 2]) (T := []) (lk_m.1 _ _ 0 [135, 138, 141, 144, 147, 150, 153, 156, 159] (isM (by decide +kernel)) 153 (by decide)) eX9_readCond_4 (m_9_readAll_14_8_6_k2 hU hq1) rfl rfl rfl (by decide) (by decide) (Nat.le_of_ble_eq_true rfl) ?_
  rintro _ C1 ⟨rfl, rfl⟩
  show ev_W l D cys ty ck_tags ev_TR kc_154 7 [(0, .inr (.inl 14)), (1, .inr (.inl 8)), (2, .inr (.inl 6)), (3, .inl 2)] [] C1 _
  refine ev_ic eX9_readCond_7 (by decide) ?_
  refine ev_isw (L' := [(4, .inl 0), (0, .inr (.inl 14)), (1, .inr (.inl 8)), (2, .inr (.inl 6)), (3, .inl 2)]) eX9_readCond_8 (by decide) rfl ?_
  refine ev_loc (L' := [(0, .inr (.inl 14)), (1, .inr (.inl 8)), (2, .inr (.inl 6)), (3, .inl 2), (4, .inl 0)]) rfl ?_
  exact m_9_readCond_14_8_6_k2_L10 hU 1000 h
set_option maxRecDepth 100000 in
theorem m_9_readOne_14_8_6_k2_J39 (hU : ev_uq ty ev_TR) {C' : ev_C} {C : ev_C} {y4 y5 : Int} (h : f_9_readOne_14_8_6_k2_J39 C y4 y5 = some C') : ev_W l D cys ty ck_tags ev_TR kc_155 39 [(0, .inr (.inl 14)), (1, .inr (.inl 8)), (2, .inr (.inl 6)), (3, .inl 2), (4, .inl y4), (5, .inl y5)] [] C (fun r0 C0 => r0 = none ∧ C0 = C') := by
  unfold f_9_readOne_14_8_6_k2_J39 at h
  refine ev_al eX9_readOne_39 rfl ?_
  refine ev_getI lk_f (ci := 9) (j := 0) (cd := 0) eX9_readOne_40 (isF (by decide +kernel)) rfl rfl rfl ?_
  refine ev_bp eX9_readOne_43 (by decide) (by decide) ?_
  refine ev_c_ge (tgt := 54) eX9_readOne_45 (by decide) (fun hc4 => ?_) (fun hc4 => ?_)
  · rw [if_pos (show 20 ≤ (C 14 0) from hc4)] at h
    refine ev_al eX9_readOne_54 rfl ?_
    refine ev_ic eX9_readOne_55 (by decide) ?_
    obtain ⟨C5, hq5, h⟩ := ev_bv_some h
    refine ev_callV (kc := kc_35) (A := [.inl 4]) (T := []) (lk_m.1 _ _ 0 [35] (isM (by decide +kernel)) 35 (by decide)) eX9_readOne_56 (m_8_fail hU hq5) rfl rfl rfl (by decide) (by decide) (Nat.le_of_ble_eq_true rfl) ?_
    rintro _ C5 ⟨rfl, rfl⟩
    show ev_W l D cys ty ck_tags ev_TR kc_155 59 [(0, .inr (.inl 14)), (1, .inr (.inl 8)), (2, .inr (.inl 6)), (3, .inl 2), (4, .inl y4), (5, .inl y5)] [] C5 _
    cases h
    exact ev_vret eX9_readOne_59 rfl ⟨rfl, rfl⟩
  · rw [if_neg (show ¬ (20 ≤ (C 14 0)) from hc4)] at h
    refine ev_il eX9_readOne_48 rfl ?_
    refine ev_bp eX9_readOne_49 (by decide) (by decide) ?_
    refine ev_c_le (tgt := 60) eX9_readOne_51 (by decide) (fun _ => ?_) (fun hc => absurd (show (2 : Int) ≤ 8 by decide) hc)
    refine ev_al eX9_readOne_60 rfl ?_
    refine ev_dup eX9_readOne_61 rfl ?_
    refine ev_getI lk_f (ci := 9) (j := 0) (cd := 0) eX9_readOne_62 (isF (by decide +kernel)) rfl rfl rfl ?_
    refine ev_ic eX9_readOne_65 (by decide) ?_
    refine ev_add eX9_readOne_66 ?_
    refine ev_putI lk_f hU (ci := 9) (j := 0) (cd := 0) eX9_readOne_67 (isF (by decide +kernel)) rfl rfl (Or.inl rfl) rfl ?_
    refine ev_al eX9_readOne_70 rfl ?_
    obtain ⟨C6, hq6, h⟩ := ev_bv_some h
    refine ev_callV (kc := kc_57) (A := []) (T := []) (lk_m.1 _ _ 0 [57] (isM (by decide +kernel)) 57 (by decide)) eX9_readOne_71 (m_8_step hU hq6) rfl rfl rfl (by decide) (by decide) (Nat.le_of_ble_eq_true rfl) ?_
    rintro _ C6 ⟨rfl, rfl⟩
    show ev_W l D cys ty ck_tags ev_TR kc_155 74 [(0, .inr (.inl 14)), (1, .inr (.inl 8)), (2, .inr (.inl 6)), (3, .inl 2), (4, .inl y4), (5, .inl y5)] [] C6 _
    refine ev_ilw eX9_readOne_74 rfl ?_
    refine ev_z_eq (tgt := 102) eX9_readOne_76 (by decide) (fun hc7 => ?_) (fun hc7 => ?_)
    · rw [if_pos (show y5 = 0 from hc7)] at h
      refine ev_ilw eX9_readOne_102 rfl ?_
      refine ev_bp eX9_readOne_104 (by decide) (by decide) ?_
      refine ev_c_ne (tgt := 129) eX9_readOne_106 (by decide) (fun hc8 => ?_) (fun hc8 => ?_)
      · rw [if_pos (show y4 ≠ 18 from hc8)] at h
        refine ev_al eX9_readOne_129 rfl ?_
        refine ev_al eX9_readOne_130 rfl ?_
        refine ev_al eX9_readOne_131 rfl ?_
        refine ev_ilw eX9_readOne_132 rfl ?_
        obtain ⟨C9, hq9, h⟩ := ev_bv_some h
        refine ev_callV (kc := kc_133) (A := [.inr (.inl 8), .inr (.inl 6), .inl y4]) (T := []) (lk_m.1 _ _ 0 [133] (isM (by decide +kernel)) 133 (by decide)) eX9_readOne_134 (m_9_readPlainOne_14_8_6 hU hq9) rfl rfl rfl (by decide) (by decide) (Nat.le_of_ble_eq_true rfl) ?_
        rintro _ C9 ⟨rfl, rfl⟩
        show ev_W l D cys ty ck_tags ev_TR kc_155 137 [(0, .inr (.inl 14)), (1, .inr (.inl 8)), (2, .inr (.inl 6)), (3, .inl 2), (4, .inl y4), (5, .inl y5)] [] C9 _
        cases h
        exact ev_vret eX9_readOne_137 rfl ⟨rfl, rfl⟩
      · rw [if_neg (show ¬ (y4 ≠ 18) from hc8)] at h
        refine ev_al eX9_readOne_109 rfl ?_
        refine ev_al eX9_readOne_110 rfl ?_
        refine ev_al eX9_readOne_111 rfl ?_
        refine ev_il eX9_readOne_112 rfl ?_
        refine ev_ic eX9_readOne_113 (by decide) ?_
        refine ev_add eX9_readOne_114 ?_
        show ev_W l D cys ty ck_tags ev_TR kc_155 115 [(0, .inr (.inl 14)), (1, .inr (.inl 8)), (2, .inr (.inl 6)), (3, .inl 2), (4, .inl y4), (5, .inl y5)] [.inl 3, .inr (.inl 6), .inr (.inl 8), .inr (.inl 14)] C6 _
        obtain ⟨C10, hq10, h⟩ := ev_bv_some h
        refine ev_callV (kc := kc_152) (A := [.inr (.inl 8), .inr (.inl 6), .inl 3]) (T := []) (lk_m.1 _ _ 0 [134, 137, 140, 143, 146, 149, 152, 155, 158] (isM (by decide +kernel)) 152 (by decide)) eX9_readOne_115 (m_9_readOne_14_8_6_k3 hU hq10) rfl rfl rfl (by decide) (by decide) (Nat.le_of_ble_eq_true rfl) ?_
        rintro _ C10 ⟨rfl, rfl⟩
        show ev_W l D cys ty ck_tags ev_TR kc_155 118 [(0, .inr (.inl 14)), (1, .inr (.inl 8)), (2, .inr (.inl 6)), (3, .inl 2), (4, .inl y4), (5, .inl y5)] [] C10 _
        refine ev_al eX9_readOne_118 rfl ?_
        refine ev_bp eX9_readOne_119 (by decide) (by decide) ?_
        refine ev_ic eX9_readOne_121 (by decide) ?_
        refine ev_ic eX9_readOne_122 (by decide) ?_
        obtain ⟨C11, hq11, h⟩ := ev_bv_some h
        refine ev_callV (kc := kc_121) (A := [.inl 18, .inl 0, .inl 0]) (T := []) (lk_m.1 _ _ 0 [121] (isM (by decide +kernel)) 121 (by decide)) eX9_readOne_123 (m_9_addStep_14 hU hq11) rfl rfl rfl (by decide) (by decide) (Nat.le_of_ble_eq_true rfl) ?_
        rintro _ C11 ⟨rfl, rfl⟩
        show ev_W l D cys ty ck_tags ev_TR kc_155 126 [(0, .inr (.inl 14)), (1, .inr (.inl 8)), (2, .inr (.inl 6)), (3, .inl 2), (4, .inl y4), (5, .inl y5)] [] C11 _
        refine ev_goto (tgt := 137) eX9_readOne_126 (by decide) ?_
        cases h
        exact ev_vret eX9_readOne_137 rfl ⟨rfl, rfl⟩
    · rw [if_neg (show ¬ (y5 = 0) from hc7)] at h
      refine ev_al eX9_readOne_79 rfl ?_
      refine ev_al eX9_readOne_80 rfl ?_
      refine ev_al eX9_readOne_81 rfl ?_
      refine ev_il eX9_readOne_82 rfl ?_
      obtain ⟨C12, hq12, h⟩ := ev_bv_some h
      refine ev_callV (kc := kc_154) (A := [.inr (.inl 8), .inr (.inl 6), .inl 2]) (T := []) (lk_m.1 _ _ 0 [136, 139, 142, 145, 148, 151, 154, 157, 160] (isM (by decide +kernel)) 154 (by decide)) eX9_readOne_83 (m_9_readCond_14_8_6_k2 hU hq12) rfl rfl rfl (by decide) (by decide) (Nat.le_of_ble_eq_true rfl) ?_
      rintro _ C12 ⟨rfl, rfl⟩
      show ev_W l D cys ty ck_tags ev_TR kc_155 86 [(0, .inr (.inl 14)), (1, .inr (.inl 8)), (2, .inr (.inl 6)), (3, .inl 2), (4, .inl y4), (5, .inl y5)] [] C12 _
      refine ev_al eX9_readOne_86 rfl ?_
      obtain ⟨r13, C13, hq13, h⟩ := ev_bd_some h
      refine ev_callV (kc := kc_36) (A := []) (T := []) (lk_m.1 _ _ 0 [36] (isM (by decide +kernel)) 36 (by decide)) eX9_readOne_87 (m_8_isFine hU hq13) rfl rfl rfl (by decide) (by decide) (Nat.le_of_ble_eq_true rfl) ?_
      rintro _ C13 ⟨rfl, rfl⟩
      show ev_W l D cys ty ck_tags ev_TR kc_155 90 [(0, .inr (.inl 14)), (1, .inr (.inl 8)), (2, .inr (.inl 6)), (3, .inl 2), (4, .inl y4), (5, .inl y5)] [.inl r13] C13 _
      refine ev_z_eq (tgt := 137) eX9_readOne_90 (by decide) (fun hc14 => ?_) (fun hc14 => ?_)
      · rw [if_pos (show r13 = 0 from hc14)] at h
        cases h
        exact ev_vret eX9_readOne_137 rfl ⟨rfl, rfl⟩
      · rw [if_neg (show ¬ (r13 = 0) from hc14)] at h
        refine ev_al eX9_readOne_93 rfl ?_
        refine ev_bp eX9_readOne_94 (by decide) (by decide) ?_
        obtain ⟨C15, hq15, h⟩ := ev_bv_some h
        refine ev_callV (kc := kc_68) (A := [.inl 41]) (T := []) (lk_m.1 _ _ 0 [68] (isM (by decide +kernel)) 68 (by decide)) eX9_readOne_96 (m_8_takeSign hU hq15) rfl rfl rfl (by decide) (by decide) (Nat.le_of_ble_eq_true rfl) ?_
        rintro _ C15 ⟨rfl, rfl⟩
        show ev_W l D cys ty ck_tags ev_TR kc_155 99 [(0, .inr (.inl 14)), (1, .inr (.inl 8)), (2, .inr (.inl 6)), (3, .inl 2), (4, .inl y4), (5, .inl y5)] [] C15 _
        refine ev_goto (tgt := 137) eX9_readOne_99 (by decide) ?_
        cases h
        exact ev_vret eX9_readOne_137 rfl ⟨rfl, rfl⟩
set_option maxRecDepth 100000 in
theorem m_9_readOne_14_8_6_k2 (hU : ev_uq ty ev_TR) {C : ev_C} {C' : ev_C} (h : f_9_readOne_14_8_6_k2 C = some C') : ev_Met l D cys ty ck_tags ev_TR kc_155 [.inr (.inl 14), .inr (.inl 8), .inr (.inl 6), .inl 2] C (fun r0 C0 => r0 = none ∧ C0 = C') := by
  unfold f_9_readOne_14_8_6_k2 at h
  refine ev_enter (by decide +kernel) (by decide +kernel) (Nat.le_of_ble_eq_true rfl) ?_
  show ev_W l D cys ty ck_tags ev_TR kc_155 0 [(0, .inr (.inl 14)), (1, .inr (.inl 8)), (2, .inr (.inl 6)), (3, .inl 2)] [] C _
  refine ev_al eX9_readOne_0 rfl ?_
  obtain ⟨r1, C1, hq1, h⟩ := ev_bd_some h
  refine ev_callV (kc := kc_66) (A := []) (T := []) (lk_m.1 _ _ 0 [66] (isM (by decide +kernel)) 66 (by decide)) eX9_readOne_1 (m_8_wordHere hU hq1) rfl rfl rfl (by decide) (by decide) (Nat.le_of_ble_eq_true rfl) ?_
  rintro _ C1 ⟨rfl, rfl⟩
  show ev_W l D cys ty ck_tags ev_TR kc_155 4 [(0, .inr (.inl 14)), (1, .inr (.inl 8)), (2, .inr (.inl 6)), (3, .inl 2)] [.inl r1] C1 _
  refine ev_isw (L' := [(4, .inl r1), (0, .inr (.inl 14)), (1, .inr (.inl 8)), (2, .inr (.inl 6)), (3, .inl 2)]) eX9_readOne_4 (by decide) rfl ?_
  refine ev_al eX9_readOne_6 rfl ?_
  refine ev_bp eX9_readOne_7 (by decide) (by decide) ?_
  obtain ⟨r2, C2, hq2, h⟩ := ev_bd_some h
  refine ev_callV (kc := kc_67) (A := [.inl 40]) (T := []) (lk_m.1 _ _ 0 [67] (isM (by decide +kernel)) 67 (by decide)) eX9_readOne_9 (m_8_isAtSign hU hq2) rfl rfl rfl (by decide) (by decide) (Nat.le_of_ble_eq_true rfl) ?_
  rintro _ C2 ⟨rfl, rfl⟩
  show ev_W l D cys ty ck_tags ev_TR kc_155 12 [(4, .inl r1), (0, .inr (.inl 14)), (1, .inr (.inl 8)), (2, .inr (.inl 6)), (3, .inl 2)] [.inl r2] C2 _
  refine ev_isw (L' := [(5, .inl r2), (4, .inl r1), (0, .inr (.inl 14)), (1, .inr (.inl 8)), (2, .inr (.inl 6)), (3, .inl 2)]) eX9_readOne_12 (by decide) rfl ?_
  refine ev_ilw eX9_readOne_14 rfl ?_
  refine ev_z_ne (tgt := 39) eX9_readOne_16 (by decide) (fun hc3 => ?_) (fun hc3 => ?_)
  · rw [if_pos (show r2 ≠ 0 from hc3)] at h
    refine ev_loc (L' := [(0, .inr (.inl 14)), (1, .inr (.inl 8)), (2, .inr (.inl 6)), (3, .inl 2), (4, .inl r1), (5, .inl r2)]) rfl ?_
    exact m_9_readOne_14_8_6_k2_J39 hU h
  · rw [if_neg (show ¬ (r2 ≠ 0) from hc3)] at h
    refine ev_ilw eX9_readOne_19 rfl ?_
    refine ev_bp eX9_readOne_21 (by decide) (by decide) ?_
    refine ev_c_lt (tgt := 33) eX9_readOne_23 (by decide) (fun hc16 => ?_) (fun hc16 => ?_)
    · rw [if_pos (show r1 < 18 from hc16)] at h
      refine ev_al eX9_readOne_33 rfl ?_
      refine ev_ic eX9_readOne_34 (by decide) ?_
      obtain ⟨C17, hq17, h⟩ := ev_bv_some h
      refine ev_callV (kc := kc_35) (A := [.inl 1]) (T := []) (lk_m.1 _ _ 0 [35] (isM (by decide +kernel)) 35 (by decide)) eX9_readOne_35 (m_8_fail hU hq17) rfl rfl rfl (by decide) (by decide) (Nat.le_of_ble_eq_true rfl) ?_
      rintro _ C17 ⟨rfl, rfl⟩
      show ev_W l D cys ty ck_tags ev_TR kc_155 38 [(5, .inl r2), (4, .inl r1), (0, .inr (.inl 14)), (1, .inr (.inl 8)), (2, .inr (.inl 6)), (3, .inl 2)] [] C17 _
      cases h
      exact ev_vret eX9_readOne_38 rfl ⟨rfl, rfl⟩
    · rw [if_neg (show ¬ (r1 < 18) from hc16)] at h
      refine ev_ilw eX9_readOne_26 rfl ?_
      refine ev_bp eX9_readOne_28 (by decide) (by decide) ?_
      refine ev_c_le (tgt := 39) eX9_readOne_30 (by decide) (fun hc18 => ?_) (fun hc18 => ?_)
      · rw [if_pos (show r1 ≤ 26 from hc18)] at h
        refine ev_loc (L' := [(0, .inr (.inl 14)), (1, .inr (.inl 8)), (2, .inr (.inl 6)), (3, .inl 2), (4, .inl r1), (5, .inl r2)]) rfl ?_
        exact m_9_readOne_14_8_6_k2_J39 hU h
      · rw [if_neg (show ¬ (r1 ≤ 26) from hc18)] at h
        refine ev_al eX9_readOne_33 rfl ?_
        refine ev_ic eX9_readOne_34 (by decide) ?_
        obtain ⟨C19, hq19, h⟩ := ev_bv_some h
        refine ev_callV (kc := kc_35) (A := [.inl 1]) (T := []) (lk_m.1 _ _ 0 [35] (isM (by decide +kernel)) 35 (by decide)) eX9_readOne_35 (m_8_fail hU hq19) rfl rfl rfl (by decide) (by decide) (Nat.le_of_ble_eq_true rfl) ?_
        rintro _ C19 ⟨rfl, rfl⟩
        show ev_W l D cys ty ck_tags ev_TR kc_155 38 [(5, .inl r2), (4, .inl r1), (0, .inr (.inl 14)), (1, .inr (.inl 8)), (2, .inr (.inl 6)), (3, .inl 2)] [] C19 _
        cases h
        exact ev_vret eX9_readOne_38 rfl ⟨rfl, rfl⟩
set_option maxRecDepth 100000 in
theorem m_9_readAll_14_8_6_k1_L12 (hU : ev_uq ty ev_TR) : ∀ (n : Nat) {C : ev_C} {y4 : Int} {C' : ev_C}, f_9_readAll_14_8_6_k1_L12 n C y4 = some C' → ev_W l D cys ty ck_tags ev_TR kc_156 12 [(0, .inr (.inl 14)), (1, .inr (.inl 8)), (2, .inr (.inl 6)), (3, .inl 1), (4, .inl y4)] [] C (fun r0 C0 => r0 = none ∧ C0 = C')
  | 0, _, _, _, h => by cases h
  | n + 1, C, y4, _, h => by
    unfold f_9_readAll_14_8_6_k1_L12 at h
    refine ev_ilw eX9_readAll_12 rfl ?_
    refine ev_bp eX9_readAll_14 (by decide) (by decide) ?_
    refine ev_c_ge (tgt := 62) eX9_readAll_16 (by decide) (fun hc2 => ?_) (fun hc2 => ?_)
    · rw [if_pos (show 20 ≤ y4 from hc2)] at h
      cases h
      exact ev_vret eX9_readAll_62 rfl ⟨rfl, rfl⟩
    · rw [if_neg (show ¬ (20 ≤ y4) from hc2)] at h
      refine ev_al eX9_readAll_19 rfl ?_
      obtain ⟨r3, C3, hq3, h⟩ := ev_bd_some h
      refine ev_callV (kc := kc_36) (A := []) (T := []) (lk_m.1 _ _ 0 [36] (isM (by decide +kernel)) 36 (by decide)) eX9_readAll_20 (m_8_isFine hU hq3) rfl rfl rfl (by decide) (by decide) (Nat.le_of_ble_eq_true rfl) ?_
      rintro _ C3 ⟨rfl, rfl⟩
      show ev_W l D cys ty ck_tags ev_TR kc_156 23 [(0, .inr (.inl 14)), (1, .inr (.inl 8)), (2, .inr (.inl 6)), (3, .inl 1), (4, .inl y4)] [.inl r3] C3 _
      refine ev_z_eq (tgt := 62) eX9_readAll_23 (by decide) (fun hc4 => ?_) (fun hc4 => ?_)
      · rw [if_pos (show r3 = 0 from hc4)] at h
        cases h
        exact ev_vret eX9_readAll_62 rfl ⟨rfl, rfl⟩
      · rw [if_neg (show ¬ (r3 = 0) from hc4)] at h
        refine ev_al eX9_readAll_26 rfl ?_
        refine ev_bp eX9_readAll_27 (by decide) (by decide) ?_
        obtain ⟨r5, C5, hq5, h⟩ := ev_bd_some h
        refine ev_callV (kc := kc_64) (A := [.inl 17]) (T := []) (lk_m.1 _ _ 0 [64] (isM (by decide +kernel)) 64 (by decide)) eX9_readAll_29 (m_8_isAtWord hU hq5) rfl rfl rfl (by decide) (by decide) (Nat.le_of_ble_eq_true rfl) ?_
        rintro _ C5 ⟨rfl, rfl⟩
        show ev_W l D cys ty ck_tags ev_TR kc_156 32 [(0, .inr (.inl 14)), (1, .inr (.inl 8)), (2, .inr (.inl 6)), (3, .inl 1), (4, .inl y4)] [.inl r5] C5 _
        refine ev_z_eq (tgt := 62) eX9_readAll_32 (by decide) (fun hc6 => ?_) (fun hc6 => ?_)
        · rw [if_pos (show r5 = 0 from hc6)] at h
          cases h
          exact ev_vret eX9_readAll_62 rfl ⟨rfl, rfl⟩
        · rw [if_neg (show ¬ (r5 = 0) from hc6)] at h
          refine ev_al eX9_readAll_35 rfl ?_
          obtain ⟨C7, hq7, h⟩ := ev_bv_some h
          refine ev_callV (kc := kc_57) (A := []) (T := []) (lk_m.1 _ _ 0 [57] (isM (by decide +kernel)) 57 (by decide)) eX9_readAll_36 (m_8_step hU hq7) rfl rfl rfl (by decide) (by decide) (Nat.le_of_ble_eq_true rfl) ?_
          rintro _ C7 ⟨rfl, rfl⟩
          show ev_W l D cys ty ck_tags ev_TR kc_156 39 [(0, .inr (.inl 14)), (1, .inr (.inl 8)), (2, .inr (.inl 6)), (3, .inl 1), (4, .inl y4)] [] C7 _
          refine ev_al eX9_readAll_39 rfl ?_
          refine ev_al eX9_readAll_40 rfl ?_
          refine ev_al eX9_readAll_41 rfl ?_
          refine ev_il eX9_readAll_42 rfl ?_
          refine ev_ic eX9_readAll_43 (by decide) ?_
          refine ev_add eX9_readAll_44 ?_
          show ev_W l D cys ty ck_tags ev_TR kc_156 45 [(0, .inr (.inl 14)), (1, .inr (.inl 8)), (2, .inr (.inl 6)), (3, .inl 1), (4, .inl y4)] [.inl 2, .inr (.inl 6), .inr (.inl 8), .inr (.inl 14)] C7 _
          obtain ⟨C8, hq8, h⟩ := ev_bv_some h
          refine ev_callV (kc := kc_155) (A := [.inr (.inl 8), .inr (.inl 6), .inl 2]) (T := []) (lk_m.1 _ _ 0 [134, 137, 140, 143, 146, 149, 152, 155, 158] (isM (by decide +kernel)) 155 (by decide)) eX9_readAll_45 (m_9_readOne_14_8_6_k2 hU hq8) rfl rfl rfl (by decide) (by decide) (Nat.le_of_ble_eq_true rfl) ?_
          rintro _ C8 ⟨rfl, rfl⟩
          show ev_W l D cys ty ck_tags ev_TR kc_156 48 [(0, .inr (.inl 14)), (1, .inr (.inl 8)), (2, .inr (.inl 6)), (3, .inl 1), (4, .inl y4)] [] C8 _
          refine ev_al eX9_readAll_48 rfl ?_
          refine ev_bp eX9_readAll_49 (by decide) (by decide) ?_
          refine ev_ic eX9_readAll_51 (by decide) ?_
          refine ev_ic eX9_readAll_52 (by decide) ?_
          obtain ⟨C9, hq9, h⟩ := ev_bv_some h
          refine ev_callV (kc := kc_121) (A := [.inl 17, .inl 0, .inl 0]) (T := []) (lk_m.1 _ _ 0 [121] (isM (by decide +kernel)) 121 (by decide)) eX9_readAll_53 (m_9_addStep_14 hU hq9) rfl rfl rfl (by decide) (by decide) (Nat.le_of_ble_eq_true rfl) ?_
          rintro _ C9 ⟨rfl, rfl⟩
          show ev_W l D cys ty ck_tags ev_TR kc_156 56 [(0, .inr (.inl 14)), (1, .inr (.inl 8)), (2, .inr (.inl 6)), (3, .inl 1), (4, .inl y4)] [] C9 _
          refine ev_inc (L' := [(4, .inl (ev_w (y4 + 1))), (0, .inr (.inl 14)), (1, .inr (.inl 8)), (2, .inr (.inl 6)), (3, .inl 1)]) eX9_readAll_56 (by decide) (by decide) rfl rfl ?_
          refine ev_goto (tgt := 12) eX9_readAll_59 (by decide) ?_
          refine ev_loc (L' := [(0, .inr (.inl 14)), (1, .inr (.inl 8)), (2, .inr (.inl 6)), (3, .inl 1), (4, .inl (ev_w (y4 + 1)))]) rfl ?_
          exact m_9_readAll_14_8_6_k1_L12 hU n h
set_option maxRecDepth 100000 in
theorem m_9_readAll_14_8_6_k1 (hU : ev_uq ty ev_TR) {C : ev_C} {C' : ev_C} (h : f_9_readAll_14_8_6_k1 C = some C') : ev_Met l D cys ty ck_tags ev_TR kc_156 [.inr (.inl 14), .inr (.inl 8), .inr (.inl 6), .inl 1] C (fun r0 C0 => r0 = none ∧ C0 = C') := by
  unfold f_9_readAll_14_8_6_k1 at h
  refine ev_enter (by decide +kernel) (by decide +kernel) (Nat.le_of_ble_eq_true rfl) ?_
  show ev_W l D cys ty ck_tags ev_TR kc_156 0 [(0, .inr (.inl 14)), (1, .inr (.inl 8)), (2, .inr (.inl 6)), (3, .inl 1)] [] C _
  refine ev_al eX9_readAll_0 rfl ?_
  refine ev_al eX9_readAll_1 rfl ?_
  refine ev_al eX9_readAll_2 rfl ?_
  refine ev_il eX9_readAll_3 rfl ?_
  refine ev_ic eX9_readAll_4 (by decide) ?_
  refine ev_add eX9_readAll_5 ?_
  show ev_W l D cys ty ck_tags ev_TR kc_156 6 [(0, .inr (.inl 14)), (1, .inr (.inl 8)), (2, .inr (.inl 6)), (3, .inl 1)] [.inl 2, .inr (.inl 6), .inr (.inl 8), .inr (.inl 14)] C _
  obtain ⟨C1, hq1, h⟩ := ev_bv_some h
  refine ev_callV (kc := kc_155) (A := [.inr (.inl 8), .inr (.inl 6), .inl 2]) (T := []) (lk_m.1 _ _ 0 [134, 137, 140, 143, 146, 149, 152, 155, 158] (isM (by decide +kernel)) 155 (by decide)) eX9_readAll_6 (m_9_readOne_14_8_6_k2 hU hq1) rfl rfl rfl (by decide) (by decide) (Nat.le_of_ble_eq_true rfl) ?_
  rintro _ C1 ⟨rfl, rfl⟩
  show ev_W l D cys ty ck_tags ev_TR kc_156 9 [(0, .inr (.inl 14)), (1, .inr (.inl 8)), (2, .inr (.inl 6)), (3, .inl 1)] [] C1 _
  refine ev_ic eX9_readAll_9 (by decide) ?_
  refine ev_isw (L' := [(4, .inl 0), (0, .inr (.inl 14)), (1, .inr (.inl 8)), (2, .inr (.inl 6)), (3, .inl 1)]) eX9_readAll_10 (by decide) rfl ?_
  refine ev_loc (L' := [(0, .inr (.inl 14)), (1, .inr (.inl 8)), (2, .inr (.inl 6)), (3, .inl 1), (4, .inl 0)]) rfl ?_
  exact m_9_readAll_14_8_6_k1_L12 hU 1000 h
set_option maxRecDepth 100000 in
theorem m_9_readCond_14_8_6_k1_L10 (hU : ev_uq ty ev_TR) : ∀ (n : Nat) {C : ev_C} {y4 : Int} {C' : ev_C}, f_9_readCond_14_8_6_k1_L10 n C y4 = some C' → ev_W l D cys ty ck_tags ev_TR kc_157 10 [(0, .inr (.inl 14)), (1, .inr (.inl 8)), (2, .inr (.inl 6)), (3, .inl 1), (4, .inl y4)] [] C (fun r0 C0 => r0 = none ∧ C0 = C')
  | 0, _, _, _, h => by cases h
  | n + 1, C, y4, _, h => by
    unfold f_9_readCond_14_8_6_k1_L10 at h
    refine ev_ilw eX9_readCond_10 rfl ?_
    refine ev_bp eX9_readCond_12 (by decide) (by decide) ?_
    refine ev_c_ge (tgt := 58) eX9_readCond_14 (by decide) (fun hc2 => ?_) (fun hc2 => ?_)
    · rw [if_pos (show 20 ≤ y4 from hc2)] at h
      cases h
      exact ev_vret eX9_readCond_58 rfl ⟨rfl, rfl⟩
    · rw [if_neg (show ¬ (20 ≤ y4) from hc2)] at h
      refine ev_al eX9_readCond_17 rfl ?_
      obtain ⟨r3, C3, hq3, h⟩ := ev_bd_some h
      refine ev_callV (kc := kc_36) (A := []) (T := []) (lk_m.1 _ _ 0 [36] (isM (by decide +kernel)) 36 (by decide)) eX9_readCond_18 (m_8_isFine hU hq3) rfl rfl rfl (by decide) (by decide) (Nat.le_of_ble_eq_true rfl) ?_
      rintro _ C3 ⟨rfl, rfl⟩
      show ev_W l D cys ty ck_tags ev_TR kc_157 21 [(0, .inr (.inl 14)), (1, .inr (.inl 8)), (2, .inr (.inl 6)), (3, .inl 1), (4, .inl y4)] [.inl r3] C3 _
      refine ev_z_eq (tgt := 58) eX9_readCond_21 (by decide) (fun hc4 => ?_) (fun hc4 => ?_)
      · rw [if_pos (show r3 = 0 from hc4)] at h
        cases h
        exact ev_vret eX9_readCond_58 rfl ⟨rfl, rfl⟩
      · rw [if_neg (show ¬ (r3 = 0) from hc4)] at h
        refine ev_al eX9_readCond_24 rfl ?_
        refine ev_bp eX9_readCond_25 (by decide) (by decide) ?_
        obtain ⟨r5, C5, hq5, h⟩ := ev_bd_some h
        refine ev_callV (kc := kc_64) (A := [.inl 16]) (T := []) (lk_m.1 _ _ 0 [64] (isM (by decide +kernel)) 64 (by decide)) eX9_readCond_27 (m_8_isAtWord hU hq5) rfl rfl rfl (by decide) (by decide) (Nat.le_of_ble_eq_true rfl) ?_
        rintro _ C5 ⟨rfl, rfl⟩
        show ev_W l D cys ty ck_tags ev_TR kc_157 30 [(0, .inr (.inl 14)), (1, .inr (.inl 8)), (2, .inr (.inl 6)), (3, .inl 1), (4, .inl y4)] [.inl r5] C5 _
        refine ev_z_eq (tgt := 58) eX9_readCond_30 (by decide) (fun hc6 => ?_) (fun hc6 => ?_)
        · rw [if_pos (show r5 = 0 from hc6)] at h
          cases h
          exact ev_vret eX9_readCond_58 rfl ⟨rfl, rfl⟩
        · rw [if_neg (show ¬ (r5 = 0) from hc6)] at h
          refine ev_al eX9_readCond_33 rfl ?_
          obtain ⟨C7, hq7, h⟩ := ev_bv_some h
          refine ev_callV (kc := kc_57) (A := []) (T := []) (lk_m.1 _ _ 0 [57] (isM (by decide +kernel)) 57 (by decide)) eX9_readCond_34 (m_8_step hU hq7) rfl rfl rfl (by decide) (by decide) (Nat.le_of_ble_eq_true rfl) ?_
          rintro _ C7 ⟨rfl, rfl⟩
          show ev_W l D cys ty ck_tags ev_TR kc_157 37 [(0, .inr (.inl 14)), (1, .inr (.inl 8)), (2, .inr (.inl 6)), (3, .inl 1), (4, .inl y4)] [] C7 _
          refine ev_al eX9_readCond_37 rfl ?_
          refine ev_al eX9_readCond_38 rfl ?_
          refine ev_al eX9_readCond_39 rfl ?_
          refine ev_il eX9_readCond_40 rfl ?_
          obtain ⟨C8, hq8, h⟩ := ev_bv_some h
          refine ev_callV (kc := kc_156) (A := [.inr (.inl 8), .inr (.inl 6), .inl 1]) (T := []) (lk_m.1 _ _ 0 [135, 138, 141, 144, 147, 150, 153, 156, 159] (isM (by decide +kernel)) 156 (by decide)) eX9_readCond_41 (m_9_readAll_14_8_6_k1 hU hq8) rfl rfl rfl (by decide) (by decide) (Nat.le_of_ble_eq_true rfl) ?_
          rintro _ C8 ⟨rfl, rfl⟩
          show ev_W l D cys ty ck_tags ev_TR kc_157 44 [(0, .inr (.inl 14)), (1, .inr (.inl 8)), (2, .inr (.inl 6)), (3, .inl 1), (4, .inl y4)] [] C8 _
          refine ev_al eX9_readCond_44 rfl ?_
          refine ev_bp eX9_readCond_45 (by decide) (by decide) ?_
          refine ev_ic eX9_readCond_47 (by decide) ?_
          refine ev_ic eX9_readCond_48 (by decide) ?_
          obtain ⟨C9, hq9, h⟩ := ev_bv_some h
          refine ev_callV (kc := kc_121) (A := [.inl 16, .inl 0, .inl 0]) (T := []) (lk_m.1 _ _ 0 [121] (isM (by decide +kernel)) 121 (by decide)) eX9_readCond_49 (m_9_addStep_14 hU hq9) rfl rfl rfl (by decide) (by decide) (Nat.le_of_ble_eq_true rfl) ?_
          rintro _ C9 ⟨rfl, rfl⟩
          show ev_W l D cys ty ck_tags ev_TR kc_157 52 [(0, .inr (.inl 14)), (1, .inr (.inl 8)), (2, .inr (.inl 6)), (3, .inl 1), (4, .inl y4)] [] C9 _
          refine ev_inc (L' := [(4, .inl (ev_w (y4 + 1))), (0, .inr (.inl 14)), (1, .inr (.inl 8)), (2, .inr (.inl 6)), (3, .inl 1)]) eX9_readCond_52 (by decide) (by decide) rfl rfl ?_
          refine ev_goto (tgt := 10) eX9_readCond_55 (by decide) ?_
          refine ev_loc (L' := [(0, .inr (.inl 14)), (1, .inr (.inl 8)), (2, .inr (.inl 6)), (3, .inl 1), (4, .inl (ev_w (y4 + 1)))]) rfl ?_
          exact m_9_readCond_14_8_6_k1_L10 hU n h
set_option maxRecDepth 100000 in
theorem m_9_readCond_14_8_6_k1 (hU : ev_uq ty ev_TR) {C : ev_C} {C' : ev_C} (h : f_9_readCond_14_8_6_k1 C = some C') : ev_Met l D cys ty ck_tags ev_TR kc_157 [.inr (.inl 14), .inr (.inl 8), .inr (.inl 6), .inl 1] C (fun r0 C0 => r0 = none ∧ C0 = C') := by
  unfold f_9_readCond_14_8_6_k1 at h
  refine ev_enter (by decide +kernel) (by decide +kernel) (Nat.le_of_ble_eq_true rfl) ?_
  show ev_W l D cys ty ck_tags ev_TR kc_157 0 [(0, .inr (.inl 14)), (1, .inr (.inl 8)), (2, .inr (.inl 6)), (3, .inl 1)] [] C _
  refine ev_al eX9_readCond_0 rfl ?_
  refine ev_al eX9_readCond_1 rfl ?_
  refine ev_al eX9_readCond_2 rfl ?_
  refine ev_il eX9_readCond_3 rfl ?_
  obtain ⟨C1, hq1, h⟩ := ev_bv_some h
  refine ev_callV (kc := kc_156) (A := [.inr (.inl 8), .inr (.inl 6), .inl 1]) (T := []) (lk_m.1 _ _ 0 [135, 138, 141, 144, 147, 150, 153, 156, 159] (isM (by decide +kernel)) 156 (by decide)) eX9_readCond_4 (m_9_readAll_14_8_6_k1 hU hq1) rfl rfl rfl (by decide) (by decide) (Nat.le_of_ble_eq_true rfl) ?_
  rintro _ C1 ⟨rfl, rfl⟩
  show ev_W l D cys ty ck_tags ev_TR kc_157 7 [(0, .inr (.inl 14)), (1, .inr (.inl 8)), (2, .inr (.inl 6)), (3, .inl 1)] [] C1 _
  refine ev_ic eX9_readCond_7 (by decide) ?_
  refine ev_isw (L' := [(4, .inl 0), (0, .inr (.inl 14)), (1, .inr (.inl 8)), (2, .inr (.inl 6)), (3, .inl 1)]) eX9_readCond_8 (by decide) rfl ?_
  refine ev_loc (L' := [(0, .inr (.inl 14)), (1, .inr (.inl 8)), (2, .inr (.inl 6)), (3, .inl 1), (4, .inl 0)]) rfl ?_
  exact m_9_readCond_14_8_6_k1_L10 hU 1000 h
set_option maxRecDepth 100000 in
theorem m_9_readOne_14_8_6_k1_J39 (hU : ev_uq ty ev_TR) {C' : ev_C} {C : ev_C} {y4 y5 : Int} (h : f_9_readOne_14_8_6_k1_J39 C y4 y5 = some C') : ev_W l D cys ty ck_tags ev_TR kc_158 39 [(0, .inr (.inl 14)), (1, .inr (.inl 8)), (2, .inr (.inl 6)), (3, .inl 1), (4, .inl y4), (5, .inl y5)] [] C (fun r0 C0 => r0 = none ∧ C0 = C') := by
  unfold f_9_readOne_14_8_6_k1_J39 at h
  refine ev_al eX9_readOne_39 rfl ?_
  refine ev_getI lk_f (ci := 9) (j := 0) (cd := 0) eX9_readOne_40 (isF (by decide +kernel)) rfl rfl rfl ?_
  refine ev_bp eX9_readOne_43 (by decide) (by decide) ?_
  refine ev_c_ge (tgt := 54) eX9_readOne_45 (by decide) (fun hc4 => ?_) (fun hc4 => ?_)
  · rw [if_pos (show 20 ≤ (C 14 0) from hc4)] at h
    refine ev_al eX9_readOne_54 rfl ?_
    refine ev_ic eX9_readOne_55 (by decide) ?_
    obtain ⟨C5, hq5, h⟩ := ev_bv_some h
    refine ev_callV (kc := kc_35) (A := [.inl 4]) (T := []) (lk_m.1 _ _ 0 [35] (isM (by decide +kernel)) 35 (by decide)) eX9_readOne_56 (m_8_fail hU hq5) rfl rfl rfl (by decide) (by decide) (Nat.le_of_ble_eq_true rfl) ?_
    rintro _ C5 ⟨rfl, rfl⟩
    show ev_W l D cys ty ck_tags ev_TR kc_158 59 [(0, .inr (.inl 14)), (1, .inr (.inl 8)), (2, .inr (.inl 6)), (3, .inl 1), (4, .inl y4), (5, .inl y5)] [] C5 _
    cases h
    exact ev_vret eX9_readOne_59 rfl ⟨rfl, rfl⟩
  · rw [if_neg (show ¬ (20 ≤ (C 14 0)) from hc4)] at h
    refine ev_il eX9_readOne_48 rfl ?_
    refine ev_bp eX9_readOne_49 (by decide) (by decide) ?_
    refine ev_c_le (tgt := 60) eX9_readOne_51 (by decide) (fun _ => ?_) (fun hc => absurd (show (1 : Int) ≤ 8 by decide) hc)
    refine ev_al eX9_readOne_60 rfl ?_
    refine ev_dup eX9_readOne_61 rfl ?_
    refine ev_getI lk_f (ci := 9) (j := 0) (cd := 0) eX9_readOne_62 (isF (by decide +kernel)) rfl rfl rfl ?_
    refine ev_ic eX9_readOne_65 (by decide) ?_
    refine ev_add eX9_readOne_66 ?_
    refine ev_putI lk_f hU (ci := 9) (j := 0) (cd := 0) eX9_readOne_67 (isF (by decide +kernel)) rfl rfl (Or.inl rfl) rfl ?_
    refine ev_al eX9_readOne_70 rfl ?_
    obtain ⟨C6, hq6, h⟩ := ev_bv_some h
    refine ev_callV (kc := kc_57) (A := []) (T := []) (lk_m.1 _ _ 0 [57] (isM (by decide +kernel)) 57 (by decide)) eX9_readOne_71 (m_8_step hU hq6) rfl rfl rfl (by decide) (by decide) (Nat.le_of_ble_eq_true rfl) ?_
    rintro _ C6 ⟨rfl, rfl⟩
    show ev_W l D cys ty ck_tags ev_TR kc_158 74 [(0, .inr (.inl 14)), (1, .inr (.inl 8)), (2, .inr (.inl 6)), (3, .inl 1), (4, .inl y4), (5, .inl y5)] [] C6 _
    refine ev_ilw eX9_readOne_74 rfl ?_
    refine ev_z_eq (tgt := 102) eX9_readOne_76 (by decide) (fun hc7 => ?_) (fun hc7 => ?_)
    · rw [if_pos (show y5 = 0 from hc7)] at h
      refine ev_ilw eX9_readOne_102 rfl ?_
      refine ev_bp eX9_readOne_104 (by decide) (by decide) ?_
      refine ev_c_ne (tgt := 129) eX9_readOne_106 (by decide) (fun hc8 => ?_) (fun hc8 => ?_)
      · rw [if_pos (show y4 ≠ 18 from hc8)] at h
        refine ev_al eX9_readOne_129 rfl ?_
        refine ev_al eX9_readOne_130 rfl ?_
        refine ev_al eX9_readOne_131 rfl ?_
        refine ev_ilw eX9_readOne_132 rfl ?_
        obtain ⟨C9, hq9, h⟩ := ev_bv_some h
        refine ev_callV (kc := kc_133) (A := [.inr (.inl 8), .inr (.inl 6), .inl y4]) (T := []) (lk_m.1 _ _ 0 [133] (isM (by decide +kernel)) 133 (by decide)) eX9_readOne_134 (m_9_readPlainOne_14_8_6 hU hq9) rfl rfl rfl (by decide) (by decide) (Nat.le_of_ble_eq_true rfl) ?_
        rintro _ C9 ⟨rfl, rfl⟩
        show ev_W l D cys ty ck_tags ev_TR kc_158 137 [(0, .inr (.inl 14)), (1, .inr (.inl 8)), (2, .inr (.inl 6)), (3, .inl 1), (4, .inl y4), (5, .inl y5)] [] C9 _
        cases h
        exact ev_vret eX9_readOne_137 rfl ⟨rfl, rfl⟩
      · rw [if_neg (show ¬ (y4 ≠ 18) from hc8)] at h
        refine ev_al eX9_readOne_109 rfl ?_
        refine ev_al eX9_readOne_110 rfl ?_
        refine ev_al eX9_readOne_111 rfl ?_
        refine ev_il eX9_readOne_112 rfl ?_
        refine ev_ic eX9_readOne_113 (by decide) ?_
        refine ev_add eX9_readOne_114 ?_
        show ev_W l D cys ty ck_tags ev_TR kc_158 115 [(0, .inr (.inl 14)), (1, .inr (.inl 8)), (2, .inr (.inl 6)), (3, .inl 1), (4, .inl y4), (5, .inl y5)] [.inl 2, .inr (.inl 6), .inr (.inl 8), .inr (.inl 14)] C6 _
        obtain ⟨C10, hq10, h⟩ := ev_bv_some h
        refine ev_callV (kc := kc_155) (A := [.inr (.inl 8), .inr (.inl 6), .inl 2]) (T := []) (lk_m.1 _ _ 0 [134, 137, 140, 143, 146, 149, 152, 155, 158] (isM (by decide +kernel)) 155 (by decide)) eX9_readOne_115 (m_9_readOne_14_8_6_k2 hU hq10) rfl rfl rfl (by decide) (by decide) (Nat.le_of_ble_eq_true rfl) ?_
        rintro _ C10 ⟨rfl, rfl⟩
        show ev_W l D cys ty ck_tags ev_TR kc_158 118 [(0, .inr (.inl 14)), (1, .inr (.inl 8)), (2, .inr (.inl 6)), (3, .inl 1), (4, .inl y4), (5, .inl y5)] [] C10 _
        refine ev_al eX9_readOne_118 rfl ?_
        refine ev_bp eX9_readOne_119 (by decide) (by decide) ?_
        refine ev_ic eX9_readOne_121 (by decide) ?_
        refine ev_ic eX9_readOne_122 (by decide) ?_
        obtain ⟨C11, hq11, h⟩ := ev_bv_some h
        refine ev_callV (kc := kc_121) (A := [.inl 18, .inl 0, .inl 0]) (T := []) (lk_m.1 _ _ 0 [121] (isM (by decide +kernel)) 121 (by decide)) eX9_readOne_123 (m_9_addStep_14 hU hq11) rfl rfl rfl (by decide) (by decide) (Nat.le_of_ble_eq_true rfl) ?_
        rintro _ C11 ⟨rfl, rfl⟩
        show ev_W l D cys ty ck_tags ev_TR kc_158 126 [(0, .inr (.inl 14)), (1, .inr (.inl 8)), (2, .inr (.inl 6)), (3, .inl 1), (4, .inl y4), (5, .inl y5)] [] C11 _
        refine ev_goto (tgt := 137) eX9_readOne_126 (by decide) ?_
        cases h
        exact ev_vret eX9_readOne_137 rfl ⟨rfl, rfl⟩
    · rw [if_neg (show ¬ (y5 = 0) from hc7)] at h
      refine ev_al eX9_readOne_79 rfl ?_
      refine ev_al eX9_readOne_80 rfl ?_
      refine ev_al eX9_readOne_81 rfl ?_
      refine ev_il eX9_readOne_82 rfl ?_
      obtain ⟨C12, hq12, h⟩ := ev_bv_some h
      refine ev_callV (kc := kc_157) (A := [.inr (.inl 8), .inr (.inl 6), .inl 1]) (T := []) (lk_m.1 _ _ 0 [136, 139, 142, 145, 148, 151, 154, 157, 160] (isM (by decide +kernel)) 157 (by decide)) eX9_readOne_83 (m_9_readCond_14_8_6_k1 hU hq12) rfl rfl rfl (by decide) (by decide) (Nat.le_of_ble_eq_true rfl) ?_
      rintro _ C12 ⟨rfl, rfl⟩
      show ev_W l D cys ty ck_tags ev_TR kc_158 86 [(0, .inr (.inl 14)), (1, .inr (.inl 8)), (2, .inr (.inl 6)), (3, .inl 1), (4, .inl y4), (5, .inl y5)] [] C12 _
      refine ev_al eX9_readOne_86 rfl ?_
      obtain ⟨r13, C13, hq13, h⟩ := ev_bd_some h
      refine ev_callV (kc := kc_36) (A := []) (T := []) (lk_m.1 _ _ 0 [36] (isM (by decide +kernel)) 36 (by decide)) eX9_readOne_87 (m_8_isFine hU hq13) rfl rfl rfl (by decide) (by decide) (Nat.le_of_ble_eq_true rfl) ?_
      rintro _ C13 ⟨rfl, rfl⟩
      show ev_W l D cys ty ck_tags ev_TR kc_158 90 [(0, .inr (.inl 14)), (1, .inr (.inl 8)), (2, .inr (.inl 6)), (3, .inl 1), (4, .inl y4), (5, .inl y5)] [.inl r13] C13 _
      refine ev_z_eq (tgt := 137) eX9_readOne_90 (by decide) (fun hc14 => ?_) (fun hc14 => ?_)
      · rw [if_pos (show r13 = 0 from hc14)] at h
        cases h
        exact ev_vret eX9_readOne_137 rfl ⟨rfl, rfl⟩
      · rw [if_neg (show ¬ (r13 = 0) from hc14)] at h
        refine ev_al eX9_readOne_93 rfl ?_
        refine ev_bp eX9_readOne_94 (by decide) (by decide) ?_
        obtain ⟨C15, hq15, h⟩ := ev_bv_some h
        refine ev_callV (kc := kc_68) (A := [.inl 41]) (T := []) (lk_m.1 _ _ 0 [68] (isM (by decide +kernel)) 68 (by decide)) eX9_readOne_96 (m_8_takeSign hU hq15) rfl rfl rfl (by decide) (by decide) (Nat.le_of_ble_eq_true rfl) ?_
        rintro _ C15 ⟨rfl, rfl⟩
        show ev_W l D cys ty ck_tags ev_TR kc_158 99 [(0, .inr (.inl 14)), (1, .inr (.inl 8)), (2, .inr (.inl 6)), (3, .inl 1), (4, .inl y4), (5, .inl y5)] [] C15 _
        refine ev_goto (tgt := 137) eX9_readOne_99 (by decide) ?_
        cases h
        exact ev_vret eX9_readOne_137 rfl ⟨rfl, rfl⟩
set_option maxRecDepth 100000 in
theorem m_9_readOne_14_8_6_k1 (hU : ev_uq ty ev_TR) {C : ev_C} {C' : ev_C} (h : f_9_readOne_14_8_6_k1 C = some C') : ev_Met l D cys ty ck_tags ev_TR kc_158 [.inr (.inl 14), .inr (.inl 8), .inr (.inl 6), .inl 1] C (fun r0 C0 => r0 = none ∧ C0 = C') := by
  unfold f_9_readOne_14_8_6_k1 at h
  refine ev_enter (by decide +kernel) (by decide +kernel) (Nat.le_of_ble_eq_true rfl) ?_
  show ev_W l D cys ty ck_tags ev_TR kc_158 0 [(0, .inr (.inl 14)), (1, .inr (.inl 8)), (2, .inr (.inl 6)), (3, .inl 1)] [] C _
  refine ev_al eX9_readOne_0 rfl ?_
  obtain ⟨r1, C1, hq1, h⟩ := ev_bd_some h
  refine ev_callV (kc := kc_66) (A := []) (T := []) (lk_m.1 _ _ 0 [66] (isM (by decide +kernel)) 66 (by decide)) eX9_readOne_1 (m_8_wordHere hU hq1) rfl rfl rfl (by decide) (by decide) (Nat.le_of_ble_eq_true rfl) ?_
  rintro _ C1 ⟨rfl, rfl⟩
  show ev_W l D cys ty ck_tags ev_TR kc_158 4 [(0, .inr (.inl 14)), (1, .inr (.inl 8)), (2, .inr (.inl 6)), (3, .inl 1)] [.inl r1] C1 _
  refine ev_isw (L' := [(4, .inl r1), (0, .inr (.inl 14)), (1, .inr (.inl 8)), (2, .inr (.inl 6)), (3, .inl 1)]) eX9_readOne_4 (by decide) rfl ?_
  refine ev_al eX9_readOne_6 rfl ?_
  refine ev_bp eX9_readOne_7 (by decide) (by decide) ?_
  obtain ⟨r2, C2, hq2, h⟩ := ev_bd_some h
  refine ev_callV (kc := kc_67) (A := [.inl 40]) (T := []) (lk_m.1 _ _ 0 [67] (isM (by decide +kernel)) 67 (by decide)) eX9_readOne_9 (m_8_isAtSign hU hq2) rfl rfl rfl (by decide) (by decide) (Nat.le_of_ble_eq_true rfl) ?_
  rintro _ C2 ⟨rfl, rfl⟩
  show ev_W l D cys ty ck_tags ev_TR kc_158 12 [(4, .inl r1), (0, .inr (.inl 14)), (1, .inr (.inl 8)), (2, .inr (.inl 6)), (3, .inl 1)] [.inl r2] C2 _
  refine ev_isw (L' := [(5, .inl r2), (4, .inl r1), (0, .inr (.inl 14)), (1, .inr (.inl 8)), (2, .inr (.inl 6)), (3, .inl 1)]) eX9_readOne_12 (by decide) rfl ?_
  refine ev_ilw eX9_readOne_14 rfl ?_
  refine ev_z_ne (tgt := 39) eX9_readOne_16 (by decide) (fun hc3 => ?_) (fun hc3 => ?_)
  · rw [if_pos (show r2 ≠ 0 from hc3)] at h
    refine ev_loc (L' := [(0, .inr (.inl 14)), (1, .inr (.inl 8)), (2, .inr (.inl 6)), (3, .inl 1), (4, .inl r1), (5, .inl r2)]) rfl ?_
    exact m_9_readOne_14_8_6_k1_J39 hU h
  · rw [if_neg (show ¬ (r2 ≠ 0) from hc3)] at h
    refine ev_ilw eX9_readOne_19 rfl ?_
    refine ev_bp eX9_readOne_21 (by decide) (by decide) ?_
    refine ev_c_lt (tgt := 33) eX9_readOne_23 (by decide) (fun hc16 => ?_) (fun hc16 => ?_)
    · rw [if_pos (show r1 < 18 from hc16)] at h
      refine ev_al eX9_readOne_33 rfl ?_
      refine ev_ic eX9_readOne_34 (by decide) ?_
      obtain ⟨C17, hq17, h⟩ := ev_bv_some h
      refine ev_callV (kc := kc_35) (A := [.inl 1]) (T := []) (lk_m.1 _ _ 0 [35] (isM (by decide +kernel)) 35 (by decide)) eX9_readOne_35 (m_8_fail hU hq17) rfl rfl rfl (by decide) (by decide) (Nat.le_of_ble_eq_true rfl) ?_
      rintro _ C17 ⟨rfl, rfl⟩
      show ev_W l D cys ty ck_tags ev_TR kc_158 38 [(5, .inl r2), (4, .inl r1), (0, .inr (.inl 14)), (1, .inr (.inl 8)), (2, .inr (.inl 6)), (3, .inl 1)] [] C17 _
      cases h
      exact ev_vret eX9_readOne_38 rfl ⟨rfl, rfl⟩
    · rw [if_neg (show ¬ (r1 < 18) from hc16)] at h
      refine ev_ilw eX9_readOne_26 rfl ?_
      refine ev_bp eX9_readOne_28 (by decide) (by decide) ?_
      refine ev_c_le (tgt := 39) eX9_readOne_30 (by decide) (fun hc18 => ?_) (fun hc18 => ?_)
      · rw [if_pos (show r1 ≤ 26 from hc18)] at h
        refine ev_loc (L' := [(0, .inr (.inl 14)), (1, .inr (.inl 8)), (2, .inr (.inl 6)), (3, .inl 1), (4, .inl r1), (5, .inl r2)]) rfl ?_
        exact m_9_readOne_14_8_6_k1_J39 hU h
      · rw [if_neg (show ¬ (r1 ≤ 26) from hc18)] at h
        refine ev_al eX9_readOne_33 rfl ?_
        refine ev_ic eX9_readOne_34 (by decide) ?_
        obtain ⟨C19, hq19, h⟩ := ev_bv_some h
        refine ev_callV (kc := kc_35) (A := [.inl 1]) (T := []) (lk_m.1 _ _ 0 [35] (isM (by decide +kernel)) 35 (by decide)) eX9_readOne_35 (m_8_fail hU hq19) rfl rfl rfl (by decide) (by decide) (Nat.le_of_ble_eq_true rfl) ?_
        rintro _ C19 ⟨rfl, rfl⟩
        show ev_W l D cys ty ck_tags ev_TR kc_158 38 [(5, .inl r2), (4, .inl r1), (0, .inr (.inl 14)), (1, .inr (.inl 8)), (2, .inr (.inl 6)), (3, .inl 1)] [] C19 _
        cases h
        exact ev_vret eX9_readOne_38 rfl ⟨rfl, rfl⟩
set_option maxRecDepth 100000 in
theorem m_9_readAll_14_8_6_k0_L12 (hU : ev_uq ty ev_TR) : ∀ (n : Nat) {C : ev_C} {y4 : Int} {C' : ev_C}, f_9_readAll_14_8_6_k0_L12 n C y4 = some C' → ev_W l D cys ty ck_tags ev_TR kc_159 12 [(0, .inr (.inl 14)), (1, .inr (.inl 8)), (2, .inr (.inl 6)), (3, .inl 0), (4, .inl y4)] [] C (fun r0 C0 => r0 = none ∧ C0 = C')
  | 0, _, _, _, h => by cases h
  | n + 1, C, y4, _, h => by
    unfold f_9_readAll_14_8_6_k0_L12 at h
    refine ev_ilw eX9_readAll_12 rfl ?_
    refine ev_bp eX9_readAll_14 (by decide) (by decide) ?_
    refine ev_c_ge (tgt := 62) eX9_readAll_16 (by decide) (fun hc2 => ?_) (fun hc2 => ?_)
    · rw [if_pos (show 20 ≤ y4 from hc2)] at h
      cases h
      exact ev_vret eX9_readAll_62 rfl ⟨rfl, rfl⟩
    · rw [if_neg (show ¬ (20 ≤ y4) from hc2)] at h
      refine ev_al eX9_readAll_19 rfl ?_
      obtain ⟨r3, C3, hq3, h⟩ := ev_bd_some h
      refine ev_callV (kc := kc_36) (A := []) (T := []) (lk_m.1 _ _ 0 [36] (isM (by decide +kernel)) 36 (by decide)) eX9_readAll_20 (m_8_isFine hU hq3) rfl rfl rfl (by decide) (by decide) (Nat.le_of_ble_eq_true rfl) ?_
      rintro _ C3 ⟨rfl, rfl⟩
      show ev_W l D cys ty ck_tags ev_TR kc_159 23 [(0, .inr (.inl 14)), (1, .inr (.inl 8)), (2, .inr (.inl 6)), (3, .inl 0), (4, .inl y4)] [.inl r3] C3 _
      refine ev_z_eq (tgt := 62) eX9_readAll_23 (by decide) (fun hc4 => ?_) (fun hc4 => ?_)
      · rw [if_pos (show r3 = 0 from hc4)] at h
        cases h
        exact ev_vret eX9_readAll_62 rfl ⟨rfl, rfl⟩
      · rw [if_neg (show ¬ (r3 = 0) from hc4)] at h
        refine ev_al eX9_readAll_26 rfl ?_
        refine ev_bp eX9_readAll_27 (by decide) (by decide) ?_
        obtain ⟨r5, C5, hq5, h⟩ := ev_bd_some h
        refine ev_callV (kc := kc_64) (A := [.inl 17]) (T := []) (lk_m.1 _ _ 0 [64] (isM (by decide +kernel)) 64 (by decide)) eX9_readAll_29 (m_8_isAtWord hU hq5) rfl rfl rfl (by decide) (by decide) (Nat.le_of_ble_eq_true rfl) ?_
        rintro _ C5 ⟨rfl, rfl⟩
        show ev_W l D cys ty ck_tags ev_TR kc_159 32 [(0, .inr (.inl 14)), (1, .inr (.inl 8)), (2, .inr (.inl 6)), (3, .inl 0), (4, .inl y4)] [.inl r5] C5 _
        refine ev_z_eq (tgt := 62) eX9_readAll_32 (by decide) (fun hc6 => ?_) (fun hc6 => ?_)
        · rw [if_pos (show r5 = 0 from hc6)] at h
          cases h
          exact ev_vret eX9_readAll_62 rfl ⟨rfl, rfl⟩
        · rw [if_neg (show ¬ (r5 = 0) from hc6)] at h
          refine ev_al eX9_readAll_35 rfl ?_
          obtain ⟨C7, hq7, h⟩ := ev_bv_some h
          refine ev_callV (kc := kc_57) (A := []) (T := []) (lk_m.1 _ _ 0 [57] (isM (by decide +kernel)) 57 (by decide)) eX9_readAll_36 (m_8_step hU hq7) rfl rfl rfl (by decide) (by decide) (Nat.le_of_ble_eq_true rfl) ?_
          rintro _ C7 ⟨rfl, rfl⟩
          show ev_W l D cys ty ck_tags ev_TR kc_159 39 [(0, .inr (.inl 14)), (1, .inr (.inl 8)), (2, .inr (.inl 6)), (3, .inl 0), (4, .inl y4)] [] C7 _
          refine ev_al eX9_readAll_39 rfl ?_
          refine ev_al eX9_readAll_40 rfl ?_
          refine ev_al eX9_readAll_41 rfl ?_
          refine ev_il eX9_readAll_42 rfl ?_
          refine ev_ic eX9_readAll_43 (by decide) ?_
          refine ev_add eX9_readAll_44 ?_
          show ev_W l D cys ty ck_tags ev_TR kc_159 45 [(0, .inr (.inl 14)), (1, .inr (.inl 8)), (2, .inr (.inl 6)), (3, .inl 0), (4, .inl y4)] [.inl 1, .inr (.inl 6), .inr (.inl 8), .inr (.inl 14)] C7 _
          obtain ⟨C8, hq8, h⟩ := ev_bv_some h
          refine ev_callV (kc := kc_158) (A := [.inr (.inl 8), .inr (.inl 6), .inl 1]) (T := []) (lk_m.1 _ _ 0 [134, 137, 140, 143, 146, 149, 152, 155, 158] (isM (by decide +kernel)) 158 (by decide)) eX9_readAll_45 (m_9_readOne_14_8_6_k1 hU hq8) rfl rfl rfl (by decide) (by decide) (Nat.le_of_ble_eq_true rfl) ?_
          rintro _ C8 ⟨rfl, rfl⟩
          show ev_W l D cys ty ck_tags ev_TR kc_159 48 [(0, .inr (.inl 14)), (1, .inr (.inl 8)), (2, .inr (.inl 6)), (3, .inl 0), (4, .inl y4)] [] C8 _
          refine ev_al eX9_readAll_48 rfl ?_
          refine ev_bp eX9_readAll_49 (by decide) (by decide) ?_
          refine ev_ic eX9_readAll_51 (by decide) ?_
          refine ev_ic eX9_readAll_52 (by decide) ?_
          obtain ⟨C9, hq9, h⟩ := ev_bv_some h
          refine ev_callV (kc := kc_121) (A := [.inl 17, .inl 0, .inl 0]) (T := []) (lk_m.1 _ _ 0 [121] (isM (by decide +kernel)) 121 (by decide)) eX9_readAll_53 (m_9_addStep_14 hU hq9) rfl rfl rfl (by decide) (by decide) (Nat.le_of_ble_eq_true rfl) ?_
          rintro _ C9 ⟨rfl, rfl⟩
          show ev_W l D cys ty ck_tags ev_TR kc_159 56 [(0, .inr (.inl 14)), (1, .inr (.inl 8)), (2, .inr (.inl 6)), (3, .inl 0), (4, .inl y4)] [] C9 _
          refine ev_inc (L' := [(4, .inl (ev_w (y4 + 1))), (0, .inr (.inl 14)), (1, .inr (.inl 8)), (2, .inr (.inl 6)), (3, .inl 0)]) eX9_readAll_56 (by decide) (by decide) rfl rfl ?_
          refine ev_goto (tgt := 12) eX9_readAll_59 (by decide) ?_
          refine ev_loc (L' := [(0, .inr (.inl 14)), (1, .inr (.inl 8)), (2, .inr (.inl 6)), (3, .inl 0), (4, .inl (ev_w (y4 + 1)))]) rfl ?_
          exact m_9_readAll_14_8_6_k0_L12 hU n h
set_option maxRecDepth 100000 in
theorem m_9_readAll_14_8_6_k0 (hU : ev_uq ty ev_TR) {C : ev_C} {C' : ev_C} (h : f_9_readAll_14_8_6_k0 C = some C') : ev_Met l D cys ty ck_tags ev_TR kc_159 [.inr (.inl 14), .inr (.inl 8), .inr (.inl 6), .inl 0] C (fun r0 C0 => r0 = none ∧ C0 = C') := by
  unfold f_9_readAll_14_8_6_k0 at h
  refine ev_enter (by decide +kernel) (by decide +kernel) (Nat.le_of_ble_eq_true rfl) ?_
  show ev_W l D cys ty ck_tags ev_TR kc_159 0 [(0, .inr (.inl 14)), (1, .inr (.inl 8)), (2, .inr (.inl 6)), (3, .inl 0)] [] C _
  refine ev_al eX9_readAll_0 rfl ?_
  refine ev_al eX9_readAll_1 rfl ?_
  refine ev_al eX9_readAll_2 rfl ?_
  refine ev_il eX9_readAll_3 rfl ?_
  refine ev_ic eX9_readAll_4 (by decide) ?_
  refine ev_add eX9_readAll_5 ?_
  show ev_W l D cys ty ck_tags ev_TR kc_159 6 [(0, .inr (.inl 14)), (1, .inr (.inl 8)), (2, .inr (.inl 6)), (3, .inl 0)] [.inl 1, .inr (.inl 6), .inr (.inl 8), .inr (.inl 14)] C _
  obtain ⟨C1, hq1, h⟩ := ev_bv_some h
  refine ev_callV (kc := kc_158) (A := [.inr (.inl 8), .inr (.inl 6), .inl 1]) (T := []) (lk_m.1 _ _ 0 [134, 137, 140, 143, 146, 149, 152, 155, 158] (isM (by decide +kernel)) 158 (by decide)) eX9_readAll_6 (m_9_readOne_14_8_6_k1 hU hq1) rfl rfl rfl (by decide) (by decide) (Nat.le_of_ble_eq_true rfl) ?_
  rintro _ C1 ⟨rfl, rfl⟩
  show ev_W l D cys ty ck_tags ev_TR kc_159 9 [(0, .inr (.inl 14)), (1, .inr (.inl 8)), (2, .inr (.inl 6)), (3, .inl 0)] [] C1 _
  refine ev_ic eX9_readAll_9 (by decide) ?_
  refine ev_isw (L' := [(4, .inl 0), (0, .inr (.inl 14)), (1, .inr (.inl 8)), (2, .inr (.inl 6)), (3, .inl 0)]) eX9_readAll_10 (by decide) rfl ?_
  refine ev_loc (L' := [(0, .inr (.inl 14)), (1, .inr (.inl 8)), (2, .inr (.inl 6)), (3, .inl 0), (4, .inl 0)]) rfl ?_
  exact m_9_readAll_14_8_6_k0_L12 hU 1000 h
set_option maxRecDepth 100000 in
theorem m_9_readCond_14_8_6_k0_L10 (hU : ev_uq ty ev_TR) : ∀ (n : Nat) {C : ev_C} {y4 : Int} {C' : ev_C}, f_9_readCond_14_8_6_k0_L10 n C y4 = some C' → ev_W l D cys ty ck_tags ev_TR kc_160 10 [(0, .inr (.inl 14)), (1, .inr (.inl 8)), (2, .inr (.inl 6)), (3, .inl 0), (4, .inl y4)] [] C (fun r0 C0 => r0 = none ∧ C0 = C')
  | 0, _, _, _, h => by cases h
  | n + 1, C, y4, _, h => by
    unfold f_9_readCond_14_8_6_k0_L10 at h
    refine ev_ilw eX9_readCond_10 rfl ?_
    refine ev_bp eX9_readCond_12 (by decide) (by decide) ?_
    refine ev_c_ge (tgt := 58) eX9_readCond_14 (by decide) (fun hc2 => ?_) (fun hc2 => ?_)
    · rw [if_pos (show 20 ≤ y4 from hc2)] at h
      cases h
      exact ev_vret eX9_readCond_58 rfl ⟨rfl, rfl⟩
    · rw [if_neg (show ¬ (20 ≤ y4) from hc2)] at h
      refine ev_al eX9_readCond_17 rfl ?_
      obtain ⟨r3, C3, hq3, h⟩ := ev_bd_some h
      refine ev_callV (kc := kc_36) (A := []) (T := []) (lk_m.1 _ _ 0 [36] (isM (by decide +kernel)) 36 (by decide)) eX9_readCond_18 (m_8_isFine hU hq3) rfl rfl rfl (by decide) (by decide) (Nat.le_of_ble_eq_true rfl) ?_
      rintro _ C3 ⟨rfl, rfl⟩
      show ev_W l D cys ty ck_tags ev_TR kc_160 21 [(0, .inr (.inl 14)), (1, .inr (.inl 8)), (2, .inr (.inl 6)), (3, .inl 0), (4, .inl y4)] [.inl r3] C3 _
      refine ev_z_eq (tgt := 58) eX9_readCond_21 (by decide) (fun hc4 => ?_) (fun hc4 => ?_)
      · rw [if_pos (show r3 = 0 from hc4)] at h
        cases h
        exact ev_vret eX9_readCond_58 rfl ⟨rfl, rfl⟩
      · rw [if_neg (show ¬ (r3 = 0) from hc4)] at h
        refine ev_al eX9_readCond_24 rfl ?_
        refine ev_bp eX9_readCond_25 (by decide) (by decide) ?_
        obtain ⟨r5, C5, hq5, h⟩ := ev_bd_some h
        refine ev_callV (kc := kc_64) (A := [.inl 16]) (T := []) (lk_m.1 _ _ 0 [64] (isM (by decide +kernel)) 64 (by decide)) eX9_readCond_27 (m_8_isAtWord hU hq5) rfl rfl rfl (by decide) (by decide) (Nat.le_of_ble_eq_true rfl) ?_
        rintro _ C5 ⟨rfl, rfl⟩
        show ev_W l D cys ty ck_tags ev_TR kc_160 30 [(0, .inr (.inl 14)), (1, .inr (.inl 8)), (2, .inr (.inl 6)), (3, .inl 0), (4, .inl y4)] [.inl r5] C5 _
        refine ev_z_eq (tgt := 58) eX9_readCond_30 (by decide) (fun hc6 => ?_) (fun hc6 => ?_)
        · rw [if_pos (show r5 = 0 from hc6)] at h
          cases h
          exact ev_vret eX9_readCond_58 rfl ⟨rfl, rfl⟩
        · rw [if_neg (show ¬ (r5 = 0) from hc6)] at h
          refine ev_al eX9_readCond_33 rfl ?_
          obtain ⟨C7, hq7, h⟩ := ev_bv_some h
          refine ev_callV (kc := kc_57) (A := []) (T := []) (lk_m.1 _ _ 0 [57] (isM (by decide +kernel)) 57 (by decide)) eX9_readCond_34 (m_8_step hU hq7) rfl rfl rfl (by decide) (by decide) (Nat.le_of_ble_eq_true rfl) ?_
          rintro _ C7 ⟨rfl, rfl⟩
          show ev_W l D cys ty ck_tags ev_TR kc_160 37 [(0, .inr (.inl 14)), (1, .inr (.inl 8)), (2, .inr (.inl 6)), (3, .inl 0), (4, .inl y4)] [] C7 _
          refine ev_al eX9_readCond_37 rfl ?_
          refine ev_al eX9_readCond_38 rfl ?_
          refine ev_al eX9_readCond_39 rfl ?_
          refine ev_il eX9_readCond_40 rfl ?_
          obtain ⟨C8, hq8, h⟩ := ev_bv_some h
          refine ev_callV (kc := kc_159) (A := [.inr (.inl 8), .inr (.inl 6), .inl 0]) (T := []) (lk_m.1 _ _ 0 [135, 138, 141, 144, 147, 150, 153, 156, 159] (isM (by decide +kernel)) 159 (by decide)) eX9_readCond_41 (m_9_readAll_14_8_6_k0 hU hq8) rfl rfl rfl (by decide) (by decide) (Nat.le_of_ble_eq_true rfl) ?_
          rintro _ C8 ⟨rfl, rfl⟩
          show ev_W l D cys ty ck_tags ev_TR kc_160 44 [(0, .inr (.inl 14)), (1, .inr (.inl 8)), (2, .inr (.inl 6)), (3, .inl 0), (4, .inl y4)] [] C8 _
          refine ev_al eX9_readCond_44 rfl ?_
          refine ev_bp eX9_readCond_45 (by decide) (by decide) ?_
          refine ev_ic eX9_readCond_47 (by decide) ?_
          refine ev_ic eX9_readCond_48 (by decide) ?_
          obtain ⟨C9, hq9, h⟩ := ev_bv_some h
          refine ev_callV (kc := kc_121) (A := [.inl 16, .inl 0, .inl 0]) (T := []) (lk_m.1 _ _ 0 [121] (isM (by decide +kernel)) 121 (by decide)) eX9_readCond_49 (m_9_addStep_14 hU hq9) rfl rfl rfl (by decide) (by decide) (Nat.le_of_ble_eq_true rfl) ?_
          rintro _ C9 ⟨rfl, rfl⟩
          show ev_W l D cys ty ck_tags ev_TR kc_160 52 [(0, .inr (.inl 14)), (1, .inr (.inl 8)), (2, .inr (.inl 6)), (3, .inl 0), (4, .inl y4)] [] C9 _
          refine ev_inc (L' := [(4, .inl (ev_w (y4 + 1))), (0, .inr (.inl 14)), (1, .inr (.inl 8)), (2, .inr (.inl 6)), (3, .inl 0)]) eX9_readCond_52 (by decide) (by decide) rfl rfl ?_
          refine ev_goto (tgt := 10) eX9_readCond_55 (by decide) ?_
          refine ev_loc (L' := [(0, .inr (.inl 14)), (1, .inr (.inl 8)), (2, .inr (.inl 6)), (3, .inl 0), (4, .inl (ev_w (y4 + 1)))]) rfl ?_
          exact m_9_readCond_14_8_6_k0_L10 hU n h
set_option maxRecDepth 100000 in
theorem m_9_readCond_14_8_6_k0 (hU : ev_uq ty ev_TR) {C : ev_C} {C' : ev_C} (h : f_9_readCond_14_8_6_k0 C = some C') : ev_Met l D cys ty ck_tags ev_TR kc_160 [.inr (.inl 14), .inr (.inl 8), .inr (.inl 6), .inl 0] C (fun r0 C0 => r0 = none ∧ C0 = C') := by
  unfold f_9_readCond_14_8_6_k0 at h
  refine ev_enter (by decide +kernel) (by decide +kernel) (Nat.le_of_ble_eq_true rfl) ?_
  show ev_W l D cys ty ck_tags ev_TR kc_160 0 [(0, .inr (.inl 14)), (1, .inr (.inl 8)), (2, .inr (.inl 6)), (3, .inl 0)] [] C _
  refine ev_al eX9_readCond_0 rfl ?_
  refine ev_al eX9_readCond_1 rfl ?_
  refine ev_al eX9_readCond_2 rfl ?_
  refine ev_il eX9_readCond_3 rfl ?_
  obtain ⟨C1, hq1, h⟩ := ev_bv_some h
  refine ev_callV (kc := kc_159) (A := [.inr (.inl 8), .inr (.inl 6), .inl 0]) (T := []) (lk_m.1 _ _ 0 [135, 138, 141, 144, 147, 150, 153, 156, 159] (isM (by decide +kernel)) 159 (by decide)) eX9_readCond_4 (m_9_readAll_14_8_6_k0 hU hq1) rfl rfl rfl (by decide) (by decide) (Nat.le_of_ble_eq_true rfl) ?_
  rintro _ C1 ⟨rfl, rfl⟩
  show ev_W l D cys ty ck_tags ev_TR kc_160 7 [(0, .inr (.inl 14)), (1, .inr (.inl 8)), (2, .inr (.inl 6)), (3, .inl 0)] [] C1 _
  refine ev_ic eX9_readCond_7 (by decide) ?_
  refine ev_isw (L' := [(4, .inl 0), (0, .inr (.inl 14)), (1, .inr (.inl 8)), (2, .inr (.inl 6)), (3, .inl 0)]) eX9_readCond_8 (by decide) rfl ?_
  refine ev_loc (L' := [(0, .inr (.inl 14)), (1, .inr (.inl 8)), (2, .inr (.inl 6)), (3, .inl 0), (4, .inl 0)]) rfl ?_
  exact m_9_readCond_14_8_6_k0_L10 hU 1000 h
theorem eX9_read_0 : decode cX9_read 0 = .ok (.aload_n 0, 1) := by decide +kernel
theorem eX9_read_1 : decode cX9_read 1 = .ok (.invokevirtual 37, 3) := by decide +kernel
theorem eX9_read_4 : decode cX9_read 4 = .ok (.aload_n 0, 1) := by decide +kernel
theorem eX9_read_5 : decode cX9_read 5 = .ok (.aload_n 1, 1) := by decide +kernel
theorem eX9_read_6 : decode cX9_read 6 = .ok (.aload_n 2, 1) := by decide +kernel
theorem eX9_read_7 : decode cX9_read 7 = .ok (.iconst 0, 1) := by decide +kernel
theorem eX9_read_8 : decode cX9_read 8 = .ok (.invokevirtual 40, 3) := by decide +kernel
theorem eX9_read_11 : decode cX9_read 11 = .ok (.aload_n 1, 1) := by decide +kernel
theorem eX9_read_12 : decode cX9_read 12 = .ok (.invokevirtual 44, 3) := by decide +kernel
theorem eX9_read_15 : decode cX9_read 15 = .ok (.ifCond .eq 15, 3) := by decide +kernel
theorem eX9_read_18 : decode cX9_read 18 = .ok (.aload_n 1, 1) := by decide +kernel
theorem eX9_read_19 : decode cX9_read 19 = .ok (.getfield 50, 3) := by decide +kernel
theorem eX9_read_22 : decode cX9_read 22 = .ok (.ifCond .eq 8, 3) := by decide +kernel
theorem eX9_read_25 : decode cX9_read 25 = .ok (.aload_n 1, 1) := by decide +kernel
theorem eX9_read_26 : decode cX9_read 26 = .ok (.iconst 1, 1) := by decide +kernel
theorem eX9_read_27 : decode cX9_read 27 = .ok (.invokevirtual 53, 3) := by decide +kernel
theorem eX9_read_30 : decode cX9_read 30 = .ok (.return_, 1) := by decide +kernel
set_option maxRecDepth 100000 in
theorem m_9_read_14_8_6 (hU : ev_uq ty ev_TR) {C : ev_C} {C' : ev_C} (h : f_9_read_14_8_6 C = some C') : ev_Met l D cys ty ck_tags ev_TR kc_161 [.inr (.inl 14), .inr (.inl 8), .inr (.inl 6)] C (fun r0 C0 => r0 = none ∧ C0 = C') := by
  unfold f_9_read_14_8_6 at h
  refine ev_enter (by decide +kernel) (by decide +kernel) (Nat.le_of_ble_eq_true rfl) ?_
  show ev_W l D cys ty ck_tags ev_TR kc_161 0 [(0, .inr (.inl 14)), (1, .inr (.inl 8)), (2, .inr (.inl 6))] [] C _
  refine ev_al eX9_read_0 rfl ?_
  obtain ⟨C1, hq1, h⟩ := ev_bv_some h
  refine ev_callV (kc := kc_123) (A := []) (T := []) (lk_m.1 _ _ 0 [122, 123] (isM (by decide +kernel)) 123 (by decide)) eX9_read_1 (m_9_clear_14 hU hq1) rfl rfl rfl (by decide) (by decide) (Nat.le_of_ble_eq_true rfl) ?_
  rintro _ C1 ⟨rfl, rfl⟩
  show ev_W l D cys ty ck_tags ev_TR kc_161 4 [(0, .inr (.inl 14)), (1, .inr (.inl 8)), (2, .inr (.inl 6))] [] C1 _
  refine ev_al eX9_read_4 rfl ?_
  refine ev_al eX9_read_5 rfl ?_
  refine ev_al eX9_read_6 rfl ?_
  refine ev_ic eX9_read_7 (by decide) ?_
  obtain ⟨C2, hq2, h⟩ := ev_bv_some h
  refine ev_callV (kc := kc_160) (A := [.inr (.inl 8), .inr (.inl 6), .inl 0]) (T := []) (lk_m.1 _ _ 0 [136, 139, 142, 145, 148, 151, 154, 157, 160] (isM (by decide +kernel)) 160 (by decide)) eX9_read_8 (m_9_readCond_14_8_6_k0 hU hq2) rfl rfl rfl (by decide) (by decide) (Nat.le_of_ble_eq_true rfl) ?_
  rintro _ C2 ⟨rfl, rfl⟩
  show ev_W l D cys ty ck_tags ev_TR kc_161 11 [(0, .inr (.inl 14)), (1, .inr (.inl 8)), (2, .inr (.inl 6))] [] C2 _
  refine ev_al eX9_read_11 rfl ?_
  obtain ⟨r3, C3, hq3, h⟩ := ev_bd_some h
  refine ev_callV (kc := kc_36) (A := []) (T := []) (lk_m.1 _ _ 0 [36] (isM (by decide +kernel)) 36 (by decide)) eX9_read_12 (m_8_isFine hU hq3) rfl rfl rfl (by decide) (by decide) (Nat.le_of_ble_eq_true rfl) ?_
  rintro _ C3 ⟨rfl, rfl⟩
  show ev_W l D cys ty ck_tags ev_TR kc_161 15 [(0, .inr (.inl 14)), (1, .inr (.inl 8)), (2, .inr (.inl 6))] [.inl r3] C3 _
  refine ev_z_eq (tgt := 30) eX9_read_15 (by decide) (fun hc4 => ?_) (fun hc4 => ?_)
  · rw [if_pos (show r3 = 0 from hc4)] at h
    cases h
    exact ev_vret eX9_read_30 rfl ⟨rfl, rfl⟩
  · rw [if_neg (show ¬ (r3 = 0) from hc4)] at h
    refine ev_al eX9_read_18 rfl ?_
    refine ev_getI lk_f (ci := 8) (j := 4) (cd := 0) eX9_read_19 (isF (by decide +kernel)) rfl rfl rfl ?_
    refine ev_z_eq (tgt := 30) eX9_read_22 (by decide) (fun hc5 => ?_) (fun hc5 => ?_)
    · rw [if_pos (show (C3 8 4) = 0 from hc5)] at h
      cases h
      exact ev_vret eX9_read_30 rfl ⟨rfl, rfl⟩
    · rw [if_neg (show ¬ ((C3 8 4) = 0) from hc5)] at h
      refine ev_al eX9_read_25 rfl ?_
      refine ev_ic eX9_read_26 (by decide) ?_
      obtain ⟨C6, hq6, h⟩ := ev_bv_some h
      refine ev_callV (kc := kc_35) (A := [.inl 1]) (T := []) (lk_m.1 _ _ 0 [35] (isM (by decide +kernel)) 35 (by decide)) eX9_read_27 (m_8_fail hU hq6) rfl rfl rfl (by decide) (by decide) (Nat.le_of_ble_eq_true rfl) ?_
      rintro _ C6 ⟨rfl, rfl⟩
      show ev_W l D cys ty ck_tags ev_TR kc_161 30 [(0, .inr (.inl 14)), (1, .inr (.inl 8)), (2, .inr (.inl 6))] [] C6 _
      cases h
      exact ev_vret eX9_read_30 rfl ⟨rfl, rfl⟩
set_option maxRecDepth 100000 in
theorem m_9_copyFrom_14 (hU : ev_uq ty ev_TR) {C : ev_C} {C' : ev_C} (h : f_9_copyFrom_14 C = some C') : ev_Met l D cys ty ck_tags ev_TR kc_126 [.inr (.inl 9), .inr (.inl 14)] C (fun r0 C0 => r0 = none ∧ C0 = C') := by
  unfold f_9_copyFrom_14 at h
  refine ev_enter (by decide +kernel) (by decide +kernel) (Nat.le_of_ble_eq_true rfl) ?_
  show ev_W l D cys ty ck_tags ev_TR kc_126 0 [(0, .inr (.inl 9)), (1, .inr (.inl 14))] [] C _
  refine ev_al eX9_copyFrom_0 rfl ?_
  refine ev_al eX9_copyFrom_1 rfl ?_
  refine ev_getI lk_f (ci := 9) (j := 0) (cd := 0) eX9_copyFrom_2 (isF (by decide +kernel)) rfl rfl rfl ?_
  refine ev_putI lk_f hU (ci := 9) (j := 0) (cd := 0) eX9_copyFrom_5 (isF (by decide +kernel)) rfl rfl (Or.inl rfl) rfl ?_
  refine ev_al eX9_copyFrom_8 rfl ?_
  refine ev_al eX9_copyFrom_9 rfl ?_
  refine ev_getI lk_f (ci := 9) (j := 1) (cd := 0) eX9_copyFrom_10 (isF (by decide +kernel)) rfl rfl rfl ?_
  refine ev_putI lk_f hU (ci := 9) (j := 1) (cd := 0) eX9_copyFrom_13 (isF (by decide +kernel)) rfl rfl (Or.inl rfl) rfl ?_
  refine ev_al eX9_copyFrom_16 rfl ?_
  refine ev_getR lk_f (ci := 9) (j := 2) (cd := 3) eX9_copyFrom_17 (isF (by decide +kernel)) rfl rfl ?_
  refine ev_ic eX9_copyFrom_20 (by decide) ?_
  refine ev_al eX9_copyFrom_21 rfl ?_
  refine ev_getR lk_f (ci := 9) (j := 2) (cd := 3) eX9_copyFrom_22 (isF (by decide +kernel)) rfl rfl ?_
  refine ev_ic eX9_copyFrom_25 (by decide) ?_
  refine ev_bp eX9_copyFrom_26 (by decide) (by decide) ?_
  refine ev_copyiU hU lk_m eX9_copyFrom_28 (u := ()) (isC (by decide +kernel)) rfl rfl rfl (by decide) (Nat.le_of_ble_eq_true rfl) ?_
  refine ev_al eX9_copyFrom_31 rfl ?_
  refine ev_getR lk_f (ci := 9) (j := 3) (cd := 3) eX9_copyFrom_32 (isF (by decide +kernel)) rfl rfl ?_
  refine ev_ic eX9_copyFrom_35 (by decide) ?_
  refine ev_al eX9_copyFrom_36 rfl ?_
  refine ev_getR lk_f (ci := 9) (j := 3) (cd := 3) eX9_copyFrom_37 (isF (by decide +kernel)) rfl rfl ?_
  refine ev_ic eX9_copyFrom_40 (by decide) ?_
  refine ev_bp eX9_copyFrom_41 (by decide) (by decide) ?_
  refine ev_copyiU hU lk_m eX9_copyFrom_43 (u := ()) (isC (by decide +kernel)) rfl rfl rfl (by decide) (Nat.le_of_ble_eq_true rfl) ?_
  refine ev_al eX9_copyFrom_46 rfl ?_
  refine ev_getR lk_f (ci := 9) (j := 4) (cd := 3) eX9_copyFrom_47 (isF (by decide +kernel)) rfl rfl ?_
  refine ev_ic eX9_copyFrom_50 (by decide) ?_
  refine ev_al eX9_copyFrom_51 rfl ?_
  refine ev_getR lk_f (ci := 9) (j := 4) (cd := 3) eX9_copyFrom_52 (isF (by decide +kernel)) rfl rfl ?_
  refine ev_ic eX9_copyFrom_55 (by decide) ?_
  refine ev_bp eX9_copyFrom_56 (by decide) (by decide) ?_
  refine ev_copyiU hU lk_m eX9_copyFrom_58 (u := ()) (isC (by decide +kernel)) rfl rfl rfl (by decide) (Nat.le_of_ble_eq_true rfl) ?_
  cases h
  exact ev_vret eX9_copyFrom_61 rfl ⟨rfl, rfl⟩
theorem eX11_sentence_0 : decode cX11_sentence 0 = .ok (.aload_n 0, 1) := by decide +kernel
theorem eX11_sentence_1 : decode cX11_sentence 1 = .ok (.getfield 10, 3) := by decide +kernel
theorem eX11_sentence_4 : decode cX11_sentence 4 = .ok (.sipush 200, 3) := by decide +kernel
theorem eX11_sentence_7 : decode cX11_sentence 7 = .ok (.invokevirtual 116, 3) := by decide +kernel
theorem eX11_sentence_10 : decode cX11_sentence 10 = .ok (.aload_n 0, 1) := by decide +kernel
theorem eX11_sentence_11 : decode cX11_sentence 11 = .ok (.getfield 54, 3) := by decide +kernel
theorem eX11_sentence_14 : decode cX11_sentence 14 = .ok (.aload_n 0, 1) := by decide +kernel
theorem eX11_sentence_15 : decode cX11_sentence 15 = .ok (.getfield 10, 3) := by decide +kernel
theorem eX11_sentence_18 : decode cX11_sentence 18 = .ok (.aload_n 0, 1) := by decide +kernel
theorem eX11_sentence_19 : decode cX11_sentence 19 = .ok (.getfield 26, 3) := by decide +kernel
theorem eX11_sentence_22 : decode cX11_sentence 22 = .ok (.invokevirtual 376, 3) := by decide +kernel
theorem eX11_sentence_25 : decode cX11_sentence 25 = .ok (.aload_n 0, 1) := by decide +kernel
theorem eX11_sentence_26 : decode cX11_sentence 26 = .ok (.getfield 10, 3) := by decide +kernel
theorem eX11_sentence_29 : decode cX11_sentence 29 = .ok (.getfield 99, 3) := by decide +kernel
theorem eX11_sentence_32 : decode cX11_sentence 32 = .ok (.iconst 0, 1) := by decide +kernel
theorem eX11_sentence_33 : decode cX11_sentence 33 = .ok (.putfield 113, 3) := by decide +kernel
theorem eX11_sentence_36 : decode cX11_sentence 36 = .ok (.aload_n 0, 1) := by decide +kernel
theorem eX11_sentence_37 : decode cX11_sentence 37 = .ok (.aload_n 0, 1) := by decide +kernel
theorem eX11_sentence_38 : decode cX11_sentence 38 = .ok (.getfield 10, 3) := by decide +kernel
theorem eX11_sentence_41 : decode cX11_sentence 41 = .ok (.getfield 123, 3) := by decide +kernel
theorem eX11_sentence_44 : decode cX11_sentence 44 = .ok (.putfield 88, 3) := by decide +kernel
theorem eX11_sentence_47 : decode cX11_sentence 47 = .ok (.aload_n 0, 1) := by decide +kernel
theorem eX11_sentence_48 : decode cX11_sentence 48 = .ok (.getfield 10, 3) := by decide +kernel
theorem eX11_sentence_51 : decode cX11_sentence 51 = .ok (.getfield 123, 3) := by decide +kernel
theorem eX11_sentence_54 : decode cX11_sentence 54 = .ok (.ifCond .eq 13, 3) := by decide +kernel
theorem eX11_sentence_57 : decode cX11_sentence 57 = .ok (.iconst (-1), 1) := by decide +kernel
theorem eX11_sentence_58 : decode cX11_sentence 58 = .ok (.aload_n 0, 1) := by decide +kernel
theorem eX11_sentence_59 : decode cX11_sentence 59 = .ok (.getfield 10, 3) := by decide +kernel
theorem eX11_sentence_62 : decode cX11_sentence 62 = .ok (.getfield 126, 3) := by decide +kernel
theorem eX11_sentence_65 : decode cX11_sentence 65 = .ok (.isub, 1) := by decide +kernel
theorem eX11_sentence_66 : decode cX11_sentence 66 = .ok (.ireturn, 1) := by decide +kernel
theorem eX11_sentence_67 : decode cX11_sentence 67 = .ok (.aload_n 0, 1) := by decide +kernel
theorem eX11_sentence_68 : decode cX11_sentence 68 = .ok (.getfield 50, 3) := by decide +kernel
theorem eX11_sentence_71 : decode cX11_sentence 71 = .ok (.aload_n 0, 1) := by decide +kernel
theorem eX11_sentence_72 : decode cX11_sentence 72 = .ok (.getfield 54, 3) := by decide +kernel
theorem eX11_sentence_75 : decode cX11_sentence 75 = .ok (.invokevirtual 377, 3) := by decide +kernel
theorem eX11_sentence_78 : decode cX11_sentence 78 = .ok (.aload_n 0, 1) := by decide +kernel
theorem eX11_sentence_79 : decode cX11_sentence 79 = .ok (.getfield 50, 3) := by decide +kernel
theorem eX11_sentence_82 : decode cX11_sentence 82 = .ok (.getfield 380, 3) := by decide +kernel
theorem eX11_sentence_85 : decode cX11_sentence 85 = .ok (.ireturn, 1) := by decide +kernel
set_option maxRecDepth 100000 in
theorem m_11_sentence (hU : ev_uq ty ev_TR) {C : ev_C} {r : Int} {C' : ev_C} (h : f_11_sentence C = some (r, C')) : ev_Met l D cys ty ck_tags ev_TR kc_181 [.inr (.inl 11)] C (fun r0 C0 => r0 = some (.inl r) ∧ C0 = C') := by
  unfold f_11_sentence at h
  refine ev_enter (by decide +kernel) (by decide +kernel) (Nat.le_of_ble_eq_true rfl) ?_
  show ev_W l D cys ty ck_tags ev_TR kc_181 0 [(0, .inr (.inl 11))] [] C _
  refine ev_al eX11_sentence_0 rfl ?_
  refine ev_getR lk_f (ci := 11) (j := 0) (cd := 3) eX11_sentence_1 (isF (by decide +kernel)) rfl rfl ?_
  refine ev_sp eX11_sentence_4 (by decide) (by decide) ?_
  obtain ⟨C1, hq1, h⟩ := ev_bv_some h
  refine ev_callV (kc := kc_120) (A := [.inl 200]) (T := []) (lk_m.1 _ _ 0 [120] (isM (by decide +kernel)) 120 (by decide)) eX11_sentence_7 (m_8_open hU hq1) rfl rfl rfl (by decide) (by decide) (Nat.le_of_ble_eq_true rfl) ?_
  rintro _ C1 ⟨rfl, rfl⟩
  show ev_W l D cys ty ck_tags ev_TR kc_181 10 [(0, .inr (.inl 11))] [] C1 _
  refine ev_al eX11_sentence_10 rfl ?_
  refine ev_getR lk_f (ci := 11) (j := 7) (cd := 3) eX11_sentence_11 (isF (by decide +kernel)) rfl rfl ?_
  refine ev_al eX11_sentence_14 rfl ?_
  refine ev_getR lk_f (ci := 11) (j := 0) (cd := 3) eX11_sentence_15 (isF (by decide +kernel)) rfl rfl ?_
  refine ev_al eX11_sentence_18 rfl ?_
  refine ev_getR lk_f (ci := 11) (j := 2) (cd := 3) eX11_sentence_19 (isF (by decide +kernel)) rfl rfl ?_
  obtain ⟨C2, hq2, h⟩ := ev_bv_some h
  refine ev_callV (kc := kc_161) (A := [.inr (.inl 8), .inr (.inl 6)]) (T := []) (lk_m.1 _ _ 0 [161] (isM (by decide +kernel)) 161 (by decide)) eX11_sentence_22 (m_9_read_14_8_6 hU hq2) rfl rfl rfl (by decide) (by decide) (Nat.le_of_ble_eq_true rfl) ?_
  rintro _ C2 ⟨rfl, rfl⟩
  show ev_W l D cys ty ck_tags ev_TR kc_181 25 [(0, .inr (.inl 11))] [] C2 _
  refine ev_al eX11_sentence_25 rfl ?_
  refine ev_getR lk_f (ci := 11) (j := 0) (cd := 3) eX11_sentence_26 (isF (by decide +kernel)) rfl rfl ?_
  refine ev_getR lk_f (ci := 8) (j := 1) (cd := 3) eX11_sentence_29 (isF (by decide +kernel)) rfl rfl ?_
  refine ev_ic eX11_sentence_32 (by decide) ?_
  refine ev_putI lk_f hU (ci := 10) (j := 1) (cd := 0) eX11_sentence_33 (isF (by decide +kernel)) rfl rfl (Or.inl rfl) rfl ?_
  refine ev_al eX11_sentence_36 rfl ?_
  refine ev_al eX11_sentence_37 rfl ?_
  refine ev_getR lk_f (ci := 11) (j := 0) (cd := 3) eX11_sentence_38 (isF (by decide +kernel)) rfl rfl ?_
  refine ev_getI lk_f (ci := 8) (j := 9) (cd := 0) eX11_sentence_41 (isF (by decide +kernel)) rfl rfl rfl ?_
  refine ev_putI lk_f hU (ci := 11) (j := 13) (cd := 0) eX11_sentence_44 (isF (by decide +kernel)) rfl rfl (Or.inl rfl) rfl ?_
  refine ev_al eX11_sentence_47 rfl ?_
  refine ev_getR lk_f (ci := 11) (j := 0) (cd := 3) eX11_sentence_48 (isF (by decide +kernel)) rfl rfl ?_
  refine ev_getI lk_f (ci := 8) (j := 9) (cd := 0) eX11_sentence_51 (isF (by decide +kernel)) rfl rfl rfl ?_
  refine ev_z_eq (tgt := 67) eX11_sentence_54 (by decide) (fun hc3 => ?_) (fun hc3 => ?_)
  · rw [if_pos (show (C2 8 9) = 0 from hc3)] at h
    refine ev_al eX11_sentence_67 rfl ?_
    refine ev_getR lk_f (ci := 11) (j := 6) (cd := 3) eX11_sentence_68 (isF (by decide +kernel)) rfl rfl ?_
    refine ev_al eX11_sentence_71 rfl ?_
    refine ev_getR lk_f (ci := 11) (j := 7) (cd := 3) eX11_sentence_72 (isF (by decide +kernel)) rfl rfl ?_
    obtain ⟨C4, hq4, h⟩ := ev_bv_some h
    refine ev_callV (kc := kc_126) (A := [.inr (.inl 14)]) (T := []) (lk_m.1 _ _ 0 [125, 126, 127, 128, 129] (isM (by decide +kernel)) 126 (by decide)) eX11_sentence_75 (m_9_copyFrom_14 hU hq4) rfl rfl rfl (by decide) (by decide) (Nat.le_of_ble_eq_true rfl) ?_
    rintro _ C4 ⟨rfl, rfl⟩
    show ev_W l D cys ty ck_tags ev_TR kc_181 78 [(0, .inr (.inl 11))] [] C4 _
    refine ev_al eX11_sentence_78 rfl ?_
    refine ev_getR lk_f (ci := 11) (j := 6) (cd := 3) eX11_sentence_79 (isF (by decide +kernel)) rfl rfl ?_
    refine ev_getI lk_f (ci := 9) (j := 0) (cd := 0) eX11_sentence_82 (isF (by decide +kernel)) rfl rfl rfl ?_
    cases h
    exact ev_iret eX11_sentence_85 rfl ⟨rfl, rfl⟩
  · rw [if_neg (show ¬ ((C2 8 9) = 0) from hc3)] at h
    refine ev_ic eX11_sentence_57 (by decide) ?_
    refine ev_al eX11_sentence_58 rfl ?_
    refine ev_getR lk_f (ci := 11) (j := 0) (cd := 3) eX11_sentence_59 (isF (by decide +kernel)) rfl rfl ?_
    refine ev_getI lk_f (ci := 8) (j := 10) (cd := 0) eX11_sentence_62 (isF (by decide +kernel)) rfl rfl rfl ?_
    refine ev_sub eX11_sentence_65 ?_
    cases h
    exact ev_iret eX11_sentence_66 rfl ⟨rfl, rfl⟩
end GX
