/-! THE EXACT LOGIC: the reference's sentence() (printed by a program of ours). -/
section GX
variable {l : Launch} {D : va_G} {cys : Nat → ClassId} {ty : Nat → Option Nat}
theorem eX12_leafOf_0 : decode cX12_leafOf 0 = .ok (.aload_n 0, 1) := by decide +kernel
theorem eX12_leafOf_1 : decode cX12_leafOf 1 = .ok (.ldc2_w 140, 3) := by decide +kernel
theorem eX12_leafOf_4 : decode cX12_leafOf 4 = .ok (.invokevirtual 220, 3) := by decide +kernel
theorem eX12_leafOf_7 : decode cX12_leafOf 7 = .ok (.ifCond .eq 7, 3) := by decide +kernel
theorem eX12_leafOf_10 : decode cX12_leafOf 10 = .ok (.iconst 0, 1) := by decide +kernel
theorem eX12_leafOf_11 : decode cX12_leafOf 11 = .ok (.goto 104, 3) := by decide +kernel
theorem eX12_leafOf_14 : decode cX12_leafOf 14 = .ok (.aload_n 0, 1) := by decide +kernel
theorem eX12_leafOf_15 : decode cX12_leafOf 15 = .ok (.ldc2_w 142, 3) := by decide +kernel
theorem eX12_leafOf_18 : decode cX12_leafOf 18 = .ok (.invokevirtual 220, 3) := by decide +kernel
theorem eX12_leafOf_21 : decode cX12_leafOf 21 = .ok (.ifCond .eq 7, 3) := by decide +kernel
theorem eX12_leafOf_24 : decode cX12_leafOf 24 = .ok (.iconst 1, 1) := by decide +kernel
theorem eX12_leafOf_25 : decode cX12_leafOf 25 = .ok (.goto 90, 3) := by decide +kernel
theorem eX12_leafOf_28 : decode cX12_leafOf 28 = .ok (.aload_n 0, 1) := by decide +kernel
theorem eX12_leafOf_29 : decode cX12_leafOf 29 = .ok (.ldc2_w 146, 3) := by decide +kernel
theorem eX12_leafOf_32 : decode cX12_leafOf 32 = .ok (.invokevirtual 220, 3) := by decide +kernel
theorem eX12_leafOf_35 : decode cX12_leafOf 35 = .ok (.ifCond .eq 7, 3) := by decide +kernel
theorem eX12_leafOf_38 : decode cX12_leafOf 38 = .ok (.iconst 2, 1) := by decide +kernel
theorem eX12_leafOf_39 : decode cX12_leafOf 39 = .ok (.goto 76, 3) := by decide +kernel
theorem eX12_leafOf_42 : decode cX12_leafOf 42 = .ok (.aload_n 0, 1) := by decide +kernel
theorem eX12_leafOf_43 : decode cX12_leafOf 43 = .ok (.ldc2_w 144, 3) := by decide +kernel
theorem eX12_leafOf_46 : decode cX12_leafOf 46 = .ok (.invokevirtual 220, 3) := by decide +kernel
theorem eX12_leafOf_49 : decode cX12_leafOf 49 = .ok (.ifCond .eq 7, 3) := by decide +kernel
theorem eX12_leafOf_52 : decode cX12_leafOf 52 = .ok (.iconst 3, 1) := by decide +kernel
theorem eX12_leafOf_53 : decode cX12_leafOf 53 = .ok (.goto 62, 3) := by decide +kernel
theorem eX12_leafOf_56 : decode cX12_leafOf 56 = .ok (.aload_n 0, 1) := by decide +kernel
theorem eX12_leafOf_57 : decode cX12_leafOf 57 = .ok (.ldc2_w 148, 3) := by decide +kernel
theorem eX12_leafOf_60 : decode cX12_leafOf 60 = .ok (.invokevirtual 220, 3) := by decide +kernel
theorem eX12_leafOf_63 : decode cX12_leafOf 63 = .ok (.ifCond .eq 7, 3) := by decide +kernel
theorem eX12_leafOf_66 : decode cX12_leafOf 66 = .ok (.iconst 4, 1) := by decide +kernel
theorem eX12_leafOf_67 : decode cX12_leafOf 67 = .ok (.goto 48, 3) := by decide +kernel
theorem eX12_leafOf_70 : decode cX12_leafOf 70 = .ok (.aload_n 0, 1) := by decide +kernel
theorem eX12_leafOf_71 : decode cX12_leafOf 71 = .ok (.ldc2_w 150, 3) := by decide +kernel
theorem eX12_leafOf_74 : decode cX12_leafOf 74 = .ok (.invokevirtual 220, 3) := by decide +kernel
theorem eX12_leafOf_77 : decode cX12_leafOf 77 = .ok (.ifCond .eq 7, 3) := by decide +kernel
theorem eX12_leafOf_80 : decode cX12_leafOf 80 = .ok (.iconst 5, 1) := by decide +kernel
theorem eX12_leafOf_81 : decode cX12_leafOf 81 = .ok (.goto 34, 3) := by decide +kernel
theorem eX12_leafOf_84 : decode cX12_leafOf 84 = .ok (.aload_n 0, 1) := by decide +kernel
theorem eX12_leafOf_85 : decode cX12_leafOf 85 = .ok (.ldc2_w 152, 3) := by decide +kernel
theorem eX12_leafOf_88 : decode cX12_leafOf 88 = .ok (.invokevirtual 220, 3) := by decide +kernel
theorem eX12_leafOf_91 : decode cX12_leafOf 91 = .ok (.ifCond .eq 8, 3) := by decide +kernel
theorem eX12_leafOf_94 : decode cX12_leafOf 94 = .ok (.bipush 6, 2) := by decide +kernel
theorem eX12_leafOf_96 : decode cX12_leafOf 96 = .ok (.goto 19, 3) := by decide +kernel
theorem eX12_leafOf_99 : decode cX12_leafOf 99 = .ok (.aload_n 0, 1) := by decide +kernel
theorem eX12_leafOf_100 : decode cX12_leafOf 100 = .ok (.ldc2_w 154, 3) := by decide +kernel
theorem eX12_leafOf_103 : decode cX12_leafOf 103 = .ok (.invokevirtual 220, 3) := by decide +kernel
theorem eX12_leafOf_106 : decode cX12_leafOf 106 = .ok (.ifCond .eq 8, 3) := by decide +kernel
theorem eX12_leafOf_109 : decode cX12_leafOf 109 = .ok (.bipush 7, 2) := by decide +kernel
theorem eX12_leafOf_111 : decode cX12_leafOf 111 = .ok (.goto 4, 3) := by decide +kernel
theorem eX12_leafOf_114 : decode cX12_leafOf 114 = .ok (.iconst (-1), 1) := by decide +kernel
theorem eX12_leafOf_115 : decode cX12_leafOf 115 = .ok (.ireturn, 1) := by decide +kernel
set_option maxRecDepth 100000 in
theorem m_12_leafOf (hU : ev_uq ty ev_TR) {C : ev_C} {r : Int} {C' : ev_C} (h : f_12_leafOf C = some (r, C')) : ev_Met l D cys ty ck_tags ev_TR kc_256 [.inr (.inl 12)] C (fun r0 C0 => r0 = some (.inl r) ∧ C0 = C') := by
  unfold f_12_leafOf at h
  refine ev_enter (by decide +kernel) (by decide +kernel) (Nat.le_of_ble_eq_true rfl) ?_
  show ev_W l D cys ty ck_tags ev_TR kc_256 0 [(0, .inr (.inl 12))] [] C _
  refine ev_al eX12_leafOf_0 rfl ?_
  refine ev_ldc2 (x := 482854664563) (v := 482854664563) eX12_leafOf_1 (in_r13 _ (List.mem_of_getElem? (i := 11) rfl)) (by decide +kernel) ?_
  obtain ⟨r1, C1, hq1, h⟩ := ev_bd_some h
  refine ev_callV (kc := kc_211) (A := [.inr (.inr 482854664563)]) (T := []) (lk_m.1 _ _ 0 [211] (isM (by decide +kernel)) 211 (by decide)) eX12_leafOf_4 (m_12_isWord hU hq1) rfl rfl rfl (by decide) (by decide) (Nat.le_of_ble_eq_true rfl) ?_
  rintro _ C1 ⟨rfl, rfl⟩
  show ev_W l D cys ty ck_tags ev_TR kc_256 7 [(0, .inr (.inl 12))] [.inl r1] C1 _
  refine ev_z_eq (tgt := 14) eX12_leafOf_7 (by decide) (fun hc2 => ?_) (fun hc2 => ?_)
  · rw [if_pos (show r1 = 0 from hc2)] at h
    refine ev_al eX12_leafOf_14 rfl ?_
    refine ev_ldc2 (x := 125780054271332) (v := 125780054271332) eX12_leafOf_15 (in_r13 _ (List.mem_of_getElem? (i := 12) rfl)) (by decide +kernel) ?_
    obtain ⟨r3, C3, hq3, h⟩ := ev_bd_some h
    refine ev_callV (kc := kc_211) (A := [.inr (.inr 125780054271332)]) (T := []) (lk_m.1 _ _ 0 [211] (isM (by decide +kernel)) 211 (by decide)) eX12_leafOf_18 (m_12_isWord hU hq3) rfl rfl rfl (by decide) (by decide) (Nat.le_of_ble_eq_true rfl) ?_
    rintro _ C3 ⟨rfl, rfl⟩
    show ev_W l D cys ty ck_tags ev_TR kc_256 21 [(0, .inr (.inl 12))] [.inl r3] C3 _
    refine ev_z_eq (tgt := 28) eX12_leafOf_21 (by decide) (fun hc4 => ?_) (fun hc4 => ?_)
    · rw [if_pos (show r3 = 0 from hc4)] at h
      refine ev_al eX12_leafOf_28 rfl ?_
      refine ev_ldc2 (x := 1937076837) (v := 1937076837) eX12_leafOf_29 (in_r13 _ (List.mem_of_getElem? (i := 14) rfl)) (by decide +kernel) ?_
      obtain ⟨r5, C5, hq5, h⟩ := ev_bd_some h
      refine ev_callV (kc := kc_211) (A := [.inr (.inr 1937076837)]) (T := []) (lk_m.1 _ _ 0 [211] (isM (by decide +kernel)) 211 (by decide)) eX12_leafOf_32 (m_12_isWord hU hq5) rfl rfl rfl (by decide) (by decide) (Nat.le_of_ble_eq_true rfl) ?_
      rintro _ C5 ⟨rfl, rfl⟩
      show ev_W l D cys ty ck_tags ev_TR kc_256 35 [(0, .inr (.inl 12))] [.inl r5] C5 _
      refine ev_z_eq (tgt := 42) eX12_leafOf_35 (by decide) (fun hc6 => ?_) (fun hc6 => ?_)
      · rw [if_pos (show r5 = 0 from hc6)] at h
        refine ev_al eX12_leafOf_42 rfl ?_
        refine ev_ldc2 (x := 461414299507) (v := 461414299507) eX12_leafOf_43 (in_r13 _ (List.mem_of_getElem? (i := 13) rfl)) (by decide +kernel) ?_
        obtain ⟨r7, C7, hq7, h⟩ := ev_bd_some h
        refine ev_callV (kc := kc_211) (A := [.inr (.inr 461414299507)]) (T := []) (lk_m.1 _ _ 0 [211] (isM (by decide +kernel)) 211 (by decide)) eX12_leafOf_46 (m_12_isWord hU hq7) rfl rfl rfl (by decide) (by decide) (Nat.le_of_ble_eq_true rfl) ?_
        rintro _ C7 ⟨rfl, rfl⟩
        show ev_W l D cys ty ck_tags ev_TR kc_256 49 [(0, .inr (.inl 12))] [.inl r7] C7 _
        refine ev_z_eq (tgt := 56) eX12_leafOf_49 (by decide) (fun hc8 => ?_) (fun hc8 => ?_)
        · rw [if_pos (show r7 = 0 from hc8)] at h
          refine ev_al eX12_leafOf_56 rfl ?_
          refine ev_ldc2 (x := 495723310188) (v := 495723310188) eX12_leafOf_57 (in_r13 _ (List.mem_of_getElem? (i := 15) rfl)) (by decide +kernel) ?_
          obtain ⟨r9, C9, hq9, h⟩ := ev_bd_some h
          refine ev_callV (kc := kc_211) (A := [.inr (.inr 495723310188)]) (T := []) (lk_m.1 _ _ 0 [211] (isM (by decide +kernel)) 211 (by decide)) eX12_leafOf_60 (m_12_isWord hU hq9) rfl rfl rfl (by decide) (by decide) (Nat.le_of_ble_eq_true rfl) ?_
          rintro _ C9 ⟨rfl, rfl⟩
          show ev_W l D cys ty ck_tags ev_TR kc_256 63 [(0, .inr (.inl 12))] [.inl r9] C9 _
          refine ev_z_eq (tgt := 70) eX12_leafOf_63 (by decide) (fun hc10 => ?_) (fun hc10 => ?_)
          · rw [if_pos (show r9 = 0 from hc10)] at h
            refine ev_al eX12_leafOf_70 rfl ?_
            refine ev_ldc2 (x := 499984983411) (v := 499984983411) eX12_leafOf_71 (in_r13 _ (List.mem_of_getElem? (i := 16) rfl)) (by decide +kernel) ?_
            obtain ⟨r11, C11, hq11, h⟩ := ev_bd_some h
            refine ev_callV (kc := kc_211) (A := [.inr (.inr 499984983411)]) (T := []) (lk_m.1 _ _ 0 [211] (isM (by decide +kernel)) 211 (by decide)) eX12_leafOf_74 (m_12_isWord hU hq11) rfl rfl rfl (by decide) (by decide) (Nat.le_of_ble_eq_true rfl) ?_
            rintro _ C11 ⟨rfl, rfl⟩
            show ev_W l D cys ty ck_tags ev_TR kc_256 77 [(0, .inr (.inl 12))] [.inl r11] C11 _
            refine ev_z_eq (tgt := 84) eX12_leafOf_77 (by decide) (fun hc12 => ?_) (fun hc12 => ?_)
            · rw [if_pos (show r11 = 0 from hc12)] at h
              refine ev_al eX12_leafOf_84 rfl ?_
              refine ev_ldc2 (x := 427020087411) (v := 427020087411) eX12_leafOf_85 (in_r13 _ (List.mem_of_getElem? (i := 17) rfl)) (by decide +kernel) ?_
              obtain ⟨r13, C13, hq13, h⟩ := ev_bd_some h
              refine ev_callV (kc := kc_211) (A := [.inr (.inr 427020087411)]) (T := []) (lk_m.1 _ _ 0 [211] (isM (by decide +kernel)) 211 (by decide)) eX12_leafOf_88 (m_12_isWord hU hq13) rfl rfl rfl (by decide) (by decide) (Nat.le_of_ble_eq_true rfl) ?_
              rintro _ C13 ⟨rfl, rfl⟩
              show ev_W l D cys ty ck_tags ev_TR kc_256 91 [(0, .inr (.inl 12))] [.inl r13] C13 _
              refine ev_z_eq (tgt := 99) eX12_leafOf_91 (by decide) (fun hc14 => ?_) (fun hc14 => ?_)
              · rw [if_pos (show r13 = 0 from hc14)] at h
                refine ev_al eX12_leafOf_99 rfl ?_
                refine ev_ldc2 (x := 121450625394034) (v := 121450625394034) eX12_leafOf_100 (in_r13 _ (List.mem_of_getElem? (i := 18) rfl)) (by decide +kernel) ?_
                obtain ⟨r15, C15, hq15, h⟩ := ev_bd_some h
                refine ev_callV (kc := kc_211) (A := [.inr (.inr 121450625394034)]) (T := []) (lk_m.1 _ _ 0 [211] (isM (by decide +kernel)) 211 (by decide)) eX12_leafOf_103 (m_12_isWord hU hq15) rfl rfl rfl (by decide) (by decide) (Nat.le_of_ble_eq_true rfl) ?_
                rintro _ C15 ⟨rfl, rfl⟩
                show ev_W l D cys ty ck_tags ev_TR kc_256 106 [(0, .inr (.inl 12))] [.inl r15] C15 _
                refine ev_z_eq (tgt := 114) eX12_leafOf_106 (by decide) (fun hc16 => ?_) (fun hc16 => ?_)
                · rw [if_pos (show r15 = 0 from hc16)] at h
                  refine ev_ic eX12_leafOf_114 (by decide) ?_
                  cases h
                  exact ev_iret eX12_leafOf_115 rfl ⟨rfl, rfl⟩
                · rw [if_neg (show ¬ (r15 = 0) from hc16)] at h
                  refine ev_bp eX12_leafOf_109 (by decide) (by decide) ?_
                  refine ev_goto (tgt := 115) eX12_leafOf_111 (by decide) ?_
                  cases h
                  exact ev_iret eX12_leafOf_115 rfl ⟨rfl, rfl⟩
              · rw [if_neg (show ¬ (r13 = 0) from hc14)] at h
                refine ev_bp eX12_leafOf_94 (by decide) (by decide) ?_
                refine ev_goto (tgt := 115) eX12_leafOf_96 (by decide) ?_
                cases h
                exact ev_iret eX12_leafOf_115 rfl ⟨rfl, rfl⟩
            · rw [if_neg (show ¬ (r11 = 0) from hc12)] at h
              refine ev_ic eX12_leafOf_80 (by decide) ?_
              refine ev_goto (tgt := 115) eX12_leafOf_81 (by decide) ?_
              cases h
              exact ev_iret eX12_leafOf_115 rfl ⟨rfl, rfl⟩
          · rw [if_neg (show ¬ (r9 = 0) from hc10)] at h
            refine ev_ic eX12_leafOf_66 (by decide) ?_
            refine ev_goto (tgt := 115) eX12_leafOf_67 (by decide) ?_
            cases h
            exact ev_iret eX12_leafOf_115 rfl ⟨rfl, rfl⟩
        · rw [if_neg (show ¬ (r7 = 0) from hc8)] at h
          refine ev_ic eX12_leafOf_52 (by decide) ?_
          refine ev_goto (tgt := 115) eX12_leafOf_53 (by decide) ?_
          cases h
          exact ev_iret eX12_leafOf_115 rfl ⟨rfl, rfl⟩
      · rw [if_neg (show ¬ (r5 = 0) from hc6)] at h
        refine ev_ic eX12_leafOf_38 (by decide) ?_
        refine ev_goto (tgt := 115) eX12_leafOf_39 (by decide) ?_
        cases h
        exact ev_iret eX12_leafOf_115 rfl ⟨rfl, rfl⟩
    · rw [if_neg (show ¬ (r3 = 0) from hc4)] at h
      refine ev_ic eX12_leafOf_24 (by decide) ?_
      refine ev_goto (tgt := 115) eX12_leafOf_25 (by decide) ?_
      cases h
      exact ev_iret eX12_leafOf_115 rfl ⟨rfl, rfl⟩
  · rw [if_neg (show ¬ (r1 = 0) from hc2)] at h
    refine ev_ic eX12_leafOf_10 (by decide) ?_
    refine ev_goto (tgt := 115) eX12_leafOf_11 (by decide) ?_
    cases h
    exact ev_iret eX12_leafOf_115 rfl ⟨rfl, rfl⟩
theorem eX12_code_0 : decode cX12_code 0 = .ok (.aload_n 0, 1) := by decide +kernel
theorem eX12_code_1 : decode cX12_code 1 = .ok (.getfield 40, 3) := by decide +kernel
theorem eX12_code_4 : decode cX12_code 4 = .ok (.iconst 3, 1) := by decide +kernel
theorem eX12_code_5 : decode cX12_code 5 = .ok (.aload_n 0, 1) := by decide +kernel
theorem eX12_code_6 : decode cX12_code 6 = .ok (.getfield 411, 3) := by decide +kernel
theorem eX12_code_9 : decode cX12_code 9 = .ok (.imul, 1) := by decide +kernel
theorem eX12_code_10 : decode cX12_code 10 = .ok (.iload_n 1, 1) := by decide +kernel
theorem eX12_code_11 : decode cX12_code 11 = .ok (.iastore, 1) := by decide +kernel
theorem eX12_code_12 : decode cX12_code 12 = .ok (.aload_n 0, 1) := by decide +kernel
theorem eX12_code_13 : decode cX12_code 13 = .ok (.getfield 40, 3) := by decide +kernel
theorem eX12_code_16 : decode cX12_code 16 = .ok (.iconst 3, 1) := by decide +kernel
theorem eX12_code_17 : decode cX12_code 17 = .ok (.aload_n 0, 1) := by decide +kernel
theorem eX12_code_18 : decode cX12_code 18 = .ok (.getfield 411, 3) := by decide +kernel
theorem eX12_code_21 : decode cX12_code 21 = .ok (.imul, 1) := by decide +kernel
theorem eX12_code_22 : decode cX12_code 22 = .ok (.iconst 1, 1) := by decide +kernel
theorem eX12_code_23 : decode cX12_code 23 = .ok (.iadd, 1) := by decide +kernel
theorem eX12_code_24 : decode cX12_code 24 = .ok (.iload_n 2, 1) := by decide +kernel
theorem eX12_code_25 : decode cX12_code 25 = .ok (.iastore, 1) := by decide +kernel
theorem eX12_code_26 : decode cX12_code 26 = .ok (.aload_n 0, 1) := by decide +kernel
theorem eX12_code_27 : decode cX12_code 27 = .ok (.getfield 40, 3) := by decide +kernel
theorem eX12_code_30 : decode cX12_code 30 = .ok (.iconst 3, 1) := by decide +kernel
theorem eX12_code_31 : decode cX12_code 31 = .ok (.aload_n 0, 1) := by decide +kernel
theorem eX12_code_32 : decode cX12_code 32 = .ok (.getfield 411, 3) := by decide +kernel
theorem eX12_code_35 : decode cX12_code 35 = .ok (.imul, 1) := by decide +kernel
theorem eX12_code_36 : decode cX12_code 36 = .ok (.iconst 2, 1) := by decide +kernel
theorem eX12_code_37 : decode cX12_code 37 = .ok (.iadd, 1) := by decide +kernel
theorem eX12_code_38 : decode cX12_code 38 = .ok (.iload_n 3, 1) := by decide +kernel
theorem eX12_code_39 : decode cX12_code 39 = .ok (.iastore, 1) := by decide +kernel
theorem eX12_code_40 : decode cX12_code 40 = .ok (.aload_n 0, 1) := by decide +kernel
theorem eX12_code_41 : decode cX12_code 41 = .ok (.dup, 1) := by decide +kernel
theorem eX12_code_42 : decode cX12_code 42 = .ok (.getfield 411, 3) := by decide +kernel
theorem eX12_code_45 : decode cX12_code 45 = .ok (.iconst 1, 1) := by decide +kernel
theorem eX12_code_46 : decode cX12_code 46 = .ok (.iadd, 1) := by decide +kernel
theorem eX12_code_47 : decode cX12_code 47 = .ok (.putfield 411, 3) := by decide +kernel
theorem eX12_code_50 : decode cX12_code 50 = .ok (.return_, 1) := by decide +kernel
set_option maxRecDepth 100000 in
theorem m_12_code (hU : ev_uq ty ev_TR) {C : ev_C} {x1 x2 x3 : Int} {C' : ev_C} (h : f_12_code C x1 x2 x3 = some C') : ev_Met l D cys ty ck_tags ev_TR kh_12_code [.inr (.inl 12), .inl x1, .inl x2, .inl x3] C (fun r0 C0 => r0 = none ∧ C0 = C') := by
  unfold f_12_code at h
  refine ev_enter (by decide +kernel) (by decide +kernel) (Nat.le_of_ble_eq_true rfl) ?_
  show ev_W l D cys ty ck_tags ev_TR kh_12_code 0 [(0, .inr (.inl 12)), (1, .inl x1), (2, .inl x2), (3, .inl x3)] [] C _
  refine ev_al eX12_code_0 rfl ?_
  refine ev_getR lk_f (ci := 12) (j := 8) (cd := 3) eX12_code_1 (isF (by decide +kernel)) rfl rfl ?_
  refine ev_ic eX12_code_4 (by decide) ?_
  refine ev_al eX12_code_5 rfl ?_
  refine ev_getI lk_f (ci := 12) (j := 45) (cd := 0) eX12_code_6 (isF (by decide +kernel)) rfl rfl rfl ?_
  refine ev_mul eX12_code_9 ?_
  refine ev_il eX12_code_10 rfl ?_
  obtain ⟨hb1, h⟩ := ev_gd h
  refine ev_iast hU eX12_code_11 rfl rfl hb1.1 hb1.2 ?_
  refine ev_al eX12_code_12 rfl ?_
  refine ev_getR lk_f (ci := 12) (j := 8) (cd := 3) eX12_code_13 (isF (by decide +kernel)) rfl rfl ?_
  refine ev_ic eX12_code_16 (by decide) ?_
  refine ev_al eX12_code_17 rfl ?_
  refine ev_getI lk_f (ci := 12) (j := 45) (cd := 0) eX12_code_18 (isF (by decide +kernel)) rfl rfl rfl ?_
  refine ev_mul eX12_code_21 ?_
  refine ev_ic eX12_code_22 (by decide) ?_
  refine ev_add eX12_code_23 ?_
  refine ev_il eX12_code_24 rfl ?_
  obtain ⟨hb2, h⟩ := ev_gd h
  refine ev_iast hU eX12_code_25 rfl rfl hb2.1 hb2.2 ?_
  refine ev_al eX12_code_26 rfl ?_
  refine ev_getR lk_f (ci := 12) (j := 8) (cd := 3) eX12_code_27 (isF (by decide +kernel)) rfl rfl ?_
  refine ev_ic eX12_code_30 (by decide) ?_
  refine ev_al eX12_code_31 rfl ?_
  refine ev_getI lk_f (ci := 12) (j := 45) (cd := 0) eX12_code_32 (isF (by decide +kernel)) rfl rfl rfl ?_
  refine ev_mul eX12_code_35 ?_
  refine ev_ic eX12_code_36 (by decide) ?_
  refine ev_add eX12_code_37 ?_
  refine ev_il eX12_code_38 rfl ?_
  obtain ⟨hb3, h⟩ := ev_gd h
  refine ev_iast hU eX12_code_39 rfl rfl hb3.1 hb3.2 ?_
  refine ev_al eX12_code_40 rfl ?_
  refine ev_dup eX12_code_41 rfl ?_
  refine ev_getI lk_f (ci := 12) (j := 45) (cd := 0) eX12_code_42 (isF (by decide +kernel)) rfl rfl rfl ?_
  refine ev_ic eX12_code_45 (by decide) ?_
  refine ev_add eX12_code_46 ?_
  refine ev_putI lk_f hU (ci := 12) (j := 45) (cd := 0) eX12_code_47 (isF (by decide +kernel)) rfl rfl (Or.inl rfl) rfl ?_
  cases h
  exact ev_vret eX12_code_50 rfl ⟨rfl, rfl⟩
theorem eX12_operand_0 : decode cX12_operand 0 = .ok (.aload_n 0, 1) := by decide +kernel
theorem eX12_operand_1 : decode cX12_operand 1 = .ok (.ldc2_w 138, 3) := by decide +kernel
theorem eX12_operand_4 : decode cX12_operand 4 = .ok (.invokevirtual 220, 3) := by decide +kernel
theorem eX12_operand_7 : decode cX12_operand 7 = .ok (.istore_n 1, 1) := by decide +kernel
theorem eX12_operand_8 : decode cX12_operand 8 = .ok (.aload_n 0, 1) := by decide +kernel
theorem eX12_operand_9 : decode cX12_operand 9 = .ok (.bipush 40, 2) := by decide +kernel
theorem eX12_operand_11 : decode cX12_operand 11 = .ok (.invokevirtual 189, 3) := by decide +kernel
theorem eX12_operand_14 : decode cX12_operand 14 = .ok (.istore_n 2, 1) := by decide +kernel
theorem eX12_operand_15 : decode cX12_operand 15 = .ok (.aload_n 0, 1) := by decide +kernel
theorem eX12_operand_16 : decode cX12_operand 16 = .ok (.invokevirtual 424, 3) := by decide +kernel
theorem eX12_operand_19 : decode cX12_operand 19 = .ok (.istore_n 3, 1) := by decide +kernel
theorem eX12_operand_20 : decode cX12_operand 20 = .ok (.iload_n 1, 1) := by decide +kernel
theorem eX12_operand_21 : decode cX12_operand 21 = .ok (.ifCond .ne 17, 3) := by decide +kernel
theorem eX12_operand_24 : decode cX12_operand 24 = .ok (.iload_n 2, 1) := by decide +kernel
theorem eX12_operand_25 : decode cX12_operand 25 = .ok (.ifCond .ne 13, 3) := by decide +kernel
theorem eX12_operand_28 : decode cX12_operand 28 = .ok (.iload_n 3, 1) := by decide +kernel
theorem eX12_operand_29 : decode cX12_operand 29 = .ok (.ifCond .ge 9, 3) := by decide +kernel
theorem eX12_operand_32 : decode cX12_operand 32 = .ok (.aload_n 0, 1) := by decide +kernel
theorem eX12_operand_33 : decode cX12_operand 33 = .ok (.iconst 1, 1) := by decide +kernel
theorem eX12_operand_34 : decode cX12_operand 34 = .ok (.invokevirtual 192, 3) := by decide +kernel
theorem eX12_operand_37 : decode cX12_operand 37 = .ok (.ireturn, 1) := by decide +kernel
theorem eX12_operand_38 : decode cX12_operand 38 = .ok (.aload_n 0, 1) := by decide +kernel
theorem eX12_operand_39 : decode cX12_operand 39 = .ok (.getfield 427, 3) := by decide +kernel
theorem eX12_operand_42 : decode cX12_operand 42 = .ok (.bipush 20, 2) := by decide +kernel
theorem eX12_operand_44 : decode cX12_operand 44 = .ok (.if_icmp .eq 12, 3) := by decide +kernel
theorem eX12_operand_47 : decode cX12_operand 47 = .ok (.aload_n 0, 1) := by decide +kernel
theorem eX12_operand_48 : decode cX12_operand 48 = .ok (.getfield 421, 3) := by decide +kernel
theorem eX12_operand_51 : decode cX12_operand 51 = .ok (.bipush 8, 2) := by decide +kernel
theorem eX12_operand_53 : decode cX12_operand 53 = .ok (.if_icmp .le 9, 3) := by decide +kernel
theorem eX12_operand_56 : decode cX12_operand 56 = .ok (.aload_n 0, 1) := by decide +kernel
theorem eX12_operand_57 : decode cX12_operand 57 = .ok (.iconst 4, 1) := by decide +kernel
theorem eX12_operand_58 : decode cX12_operand 58 = .ok (.invokevirtual 192, 3) := by decide +kernel
theorem eX12_operand_61 : decode cX12_operand 61 = .ok (.ireturn, 1) := by decide +kernel
theorem eX12_operand_62 : decode cX12_operand 62 = .ok (.aload_n 0, 1) := by decide +kernel
theorem eX12_operand_63 : decode cX12_operand 63 = .ok (.dup, 1) := by decide +kernel
theorem eX12_operand_64 : decode cX12_operand 64 = .ok (.getfield 427, 3) := by decide +kernel
theorem eX12_operand_67 : decode cX12_operand 67 = .ok (.iconst 1, 1) := by decide +kernel
theorem eX12_operand_68 : decode cX12_operand 68 = .ok (.iadd, 1) := by decide +kernel
theorem eX12_operand_69 : decode cX12_operand 69 = .ok (.putfield 427, 3) := by decide +kernel
theorem eX12_operand_72 : decode cX12_operand 72 = .ok (.aload_n 0, 1) := by decide +kernel
theorem eX12_operand_73 : decode cX12_operand 73 = .ok (.invokevirtual 195, 3) := by decide +kernel
theorem eX12_operand_76 : decode cX12_operand 76 = .ok (.iload_n 1, 1) := by decide +kernel
theorem eX12_operand_77 : decode cX12_operand 77 = .ok (.ifCond .ne 7, 3) := by decide +kernel
theorem eX12_operand_80 : decode cX12_operand 80 = .ok (.iload_n 2, 1) := by decide +kernel
theorem eX12_operand_81 : decode cX12_operand 81 = .ok (.ifCond .eq 45, 3) := by decide +kernel
theorem eX12_operand_84 : decode cX12_operand 84 = .ok (.aload_n 0, 1) := by decide +kernel
theorem eX12_operand_85 : decode cX12_operand 85 = .ok (.getfield 86, 3) := by decide +kernel
theorem eX12_operand_88 : decode cX12_operand 88 = .ok (.aload_n 0, 1) := by decide +kernel
theorem eX12_operand_89 : decode cX12_operand 89 = .ok (.getfield 414, 3) := by decide +kernel
theorem eX12_operand_92 : decode cX12_operand 92 = .ok (.iload_n 1, 1) := by decide +kernel
theorem eX12_operand_93 : decode cX12_operand 93 = .ok (.ifCond .eq 8, 3) := by decide +kernel
theorem eX12_operand_96 : decode cX12_operand 96 = .ok (.bipush 20, 2) := by decide +kernel
theorem eX12_operand_98 : decode cX12_operand 98 = .ok (.goto 5, 3) := by decide +kernel
theorem eX12_operand_101 : decode cX12_operand 101 = .ok (.bipush 23, 2) := by decide +kernel
theorem eX12_operand_103 : decode cX12_operand 103 = .ok (.iastore, 1) := by decide +kernel
theorem eX12_operand_104 : decode cX12_operand 104 = .ok (.aload_n 0, 1) := by decide +kernel
theorem eX12_operand_105 : decode cX12_operand 105 = .ok (.dup, 1) := by decide +kernel
theorem eX12_operand_106 : decode cX12_operand 106 = .ok (.getfield 414, 3) := by decide +kernel
theorem eX12_operand_109 : decode cX12_operand 109 = .ok (.iconst 1, 1) := by decide +kernel
theorem eX12_operand_110 : decode cX12_operand 110 = .ok (.iadd, 1) := by decide +kernel
theorem eX12_operand_111 : decode cX12_operand 111 = .ok (.putfield 414, 3) := by decide +kernel
theorem eX12_operand_114 : decode cX12_operand 114 = .ok (.aload_n 0, 1) := by decide +kernel
theorem eX12_operand_115 : decode cX12_operand 115 = .ok (.dup, 1) := by decide +kernel
theorem eX12_operand_116 : decode cX12_operand 116 = .ok (.getfield 421, 3) := by decide +kernel
theorem eX12_operand_119 : decode cX12_operand 119 = .ok (.iconst 1, 1) := by decide +kernel
theorem eX12_operand_120 : decode cX12_operand 120 = .ok (.iadd, 1) := by decide +kernel
theorem eX12_operand_121 : decode cX12_operand 121 = .ok (.putfield 421, 3) := by decide +kernel
theorem eX12_operand_124 : decode cX12_operand 124 = .ok (.iconst 1, 1) := by decide +kernel
theorem eX12_operand_125 : decode cX12_operand 125 = .ok (.ireturn, 1) := by decide +kernel
theorem eX12_operand_126 : decode cX12_operand 126 = .ok (.aload_n 0, 1) := by decide +kernel
theorem eX12_operand_127 : decode cX12_operand 127 = .ok (.iconst 1, 1) := by decide +kernel
theorem eX12_operand_128 : decode cX12_operand 128 = .ok (.putfield 430, 3) := by decide +kernel
theorem eX12_operand_131 : decode cX12_operand 131 = .ok (.iload_n 3, 1) := by decide +kernel
theorem eX12_operand_132 : decode cX12_operand 132 = .ok (.iconst 3, 1) := by decide +kernel
theorem eX12_operand_133 : decode cX12_operand 133 = .ok (.if_icmp .ge 12, 3) := by decide +kernel
theorem eX12_operand_136 : decode cX12_operand 136 = .ok (.aload_n 0, 1) := by decide +kernel
theorem eX12_operand_137 : decode cX12_operand 137 = .ok (.iload_n 3, 1) := by decide +kernel
theorem eX12_operand_138 : decode cX12_operand 138 = .ok (.iconst 0, 1) := by decide +kernel
theorem eX12_operand_139 : decode cX12_operand 139 = .ok (.iconst 0, 1) := by decide +kernel
theorem eX12_operand_140 : decode cX12_operand 140 = .ok (.invokevirtual 417, 3) := by decide +kernel
theorem eX12_operand_143 : decode cX12_operand 143 = .ok (.iconst 1, 1) := by decide +kernel
theorem eX12_operand_144 : decode cX12_operand 144 = .ok (.ireturn, 1) := by decide +kernel
theorem eX12_operand_145 : decode cX12_operand 145 = .ok (.iload_n 3, 1) := by decide +kernel
theorem eX12_operand_146 : decode cX12_operand 146 = .ok (.iconst 3, 1) := by decide +kernel
theorem eX12_operand_147 : decode cX12_operand 147 = .ok (.if_icmp .ne 55, 3) := by decide +kernel
theorem eX12_operand_150 : decode cX12_operand 150 = .ok (.aload_n 0, 1) := by decide +kernel
theorem eX12_operand_151 : decode cX12_operand 151 = .ok (.invokevirtual 205, 3) := by decide +kernel
theorem eX12_operand_154 : decode cX12_operand 154 = .ok (.ifCond .ne 9, 3) := by decide +kernel
theorem eX12_operand_157 : decode cX12_operand 157 = .ok (.aload_n 0, 1) := by decide +kernel
theorem eX12_operand_158 : decode cX12_operand 158 = .ok (.iconst 1, 1) := by decide +kernel
theorem eX12_operand_159 : decode cX12_operand 159 = .ok (.invokevirtual 192, 3) := by decide +kernel
theorem eX12_operand_162 : decode cX12_operand 162 = .ok (.ireturn, 1) := by decide +kernel
theorem eX12_operand_163 : decode cX12_operand 163 = .ok (.aload_n 0, 1) := by decide +kernel
theorem eX12_operand_164 : decode cX12_operand 164 = .ok (.bipush 6, 2) := by decide +kernel
theorem eX12_operand_166 : decode cX12_operand 166 = .ok (.aload_n 0, 1) := by decide +kernel
theorem eX12_operand_167 : decode cX12_operand 167 = .ok (.getfield 33, 3) := by decide +kernel
theorem eX12_operand_170 : decode cX12_operand 170 = .ok (.iconst 1, 1) := by decide +kernel
theorem eX12_operand_171 : decode cX12_operand 171 = .ok (.iaload, 1) := by decide +kernel
theorem eX12_operand_172 : decode cX12_operand 172 = .ok (.invokevirtual 209, 3) := by decide +kernel
theorem eX12_operand_175 : decode cX12_operand 175 = .ok (.istore 4, 2) := by decide +kernel
theorem eX12_operand_177 : decode cX12_operand 177 = .ok (.iload 4, 2) := by decide +kernel
theorem eX12_operand_179 : decode cX12_operand 179 = .ok (.ifCond .ge 9, 3) := by decide +kernel
theorem eX12_operand_182 : decode cX12_operand 182 = .ok (.aload_n 0, 1) := by decide +kernel
theorem eX12_operand_183 : decode cX12_operand 183 = .ok (.iconst 3, 1) := by decide +kernel
theorem eX12_operand_184 : decode cX12_operand 184 = .ok (.invokevirtual 192, 3) := by decide +kernel
theorem eX12_operand_187 : decode cX12_operand 187 = .ok (.ireturn, 1) := by decide +kernel
theorem eX12_operand_188 : decode cX12_operand 188 = .ok (.aload_n 0, 1) := by decide +kernel
theorem eX12_operand_189 : decode cX12_operand 189 = .ok (.iload_n 3, 1) := by decide +kernel
theorem eX12_operand_190 : decode cX12_operand 190 = .ok (.iconst 0, 1) := by decide +kernel
theorem eX12_operand_191 : decode cX12_operand 191 = .ok (.iload 4, 2) := by decide +kernel
theorem eX12_operand_193 : decode cX12_operand 193 = .ok (.invokevirtual 417, 3) := by decide +kernel
theorem eX12_operand_196 : decode cX12_operand 196 = .ok (.aload_n 0, 1) := by decide +kernel
theorem eX12_operand_197 : decode cX12_operand 197 = .ok (.invokevirtual 195, 3) := by decide +kernel
theorem eX12_operand_200 : decode cX12_operand 200 = .ok (.iconst 1, 1) := by decide +kernel
theorem eX12_operand_201 : decode cX12_operand 201 = .ok (.ireturn, 1) := by decide +kernel
theorem eX12_operand_202 : decode cX12_operand 202 = .ok (.aload_n 0, 1) := by decide +kernel
theorem eX12_operand_203 : decode cX12_operand 203 = .ok (.getfield 166, 3) := by decide +kernel
theorem eX12_operand_206 : decode cX12_operand 206 = .ok (.iconst 3, 1) := by decide +kernel
theorem eX12_operand_207 : decode cX12_operand 207 = .ok (.if_icmp .ne 21, 3) := by decide +kernel
theorem eX12_operand_210 : decode cX12_operand 210 = .ok (.aload_n 0, 1) := by decide +kernel
theorem eX12_operand_211 : decode cX12_operand 211 = .ok (.getfield 176, 3) := by decide +kernel
theorem eX12_operand_214 : decode cX12_operand 214 = .ok (.bipush 60, 2) := by decide +kernel
theorem eX12_operand_216 : decode cX12_operand 216 = .ok (.if_icmp .lt 12, 3) := by decide +kernel
theorem eX12_operand_219 : decode cX12_operand 219 = .ok (.aload_n 0, 1) := by decide +kernel
theorem eX12_operand_220 : decode cX12_operand 220 = .ok (.getfield 176, 3) := by decide +kernel
theorem eX12_operand_223 : decode cX12_operand 223 = .ok (.bipush 62, 2) := by decide +kernel
theorem eX12_operand_225 : decode cX12_operand 225 = .ok (.if_icmp .le 9, 3) := by decide +kernel
theorem eX12_operand_228 : decode cX12_operand 228 = .ok (.aload_n 0, 1) := by decide +kernel
theorem eX12_operand_229 : decode cX12_operand 229 = .ok (.iconst 1, 1) := by decide +kernel
theorem eX12_operand_230 : decode cX12_operand 230 = .ok (.invokevirtual 192, 3) := by decide +kernel
theorem eX12_operand_233 : decode cX12_operand 233 = .ok (.ireturn, 1) := by decide +kernel
theorem eX12_operand_234 : decode cX12_operand 234 = .ok (.aload_n 0, 1) := by decide +kernel
theorem eX12_operand_235 : decode cX12_operand 235 = .ok (.getfield 176, 3) := by decide +kernel
theorem eX12_operand_238 : decode cX12_operand 238 = .ok (.istore 4, 2) := by decide +kernel
theorem eX12_operand_240 : decode cX12_operand 240 = .ok (.aload_n 0, 1) := by decide +kernel
theorem eX12_operand_241 : decode cX12_operand 241 = .ok (.invokevirtual 195, 3) := by decide +kernel
theorem eX12_operand_244 : decode cX12_operand 244 = .ok (.aload_n 0, 1) := by decide +kernel
theorem eX12_operand_245 : decode cX12_operand 245 = .ok (.getfield 166, 3) := by decide +kernel
theorem eX12_operand_248 : decode cX12_operand 248 = .ok (.iconst 2, 1) := by decide +kernel
theorem eX12_operand_249 : decode cX12_operand 249 = .ok (.if_icmp .eq 9, 3) := by decide +kernel
theorem eX12_operand_252 : decode cX12_operand 252 = .ok (.aload_n 0, 1) := by decide +kernel
theorem eX12_operand_253 : decode cX12_operand 253 = .ok (.iconst 1, 1) := by decide +kernel
theorem eX12_operand_254 : decode cX12_operand 254 = .ok (.invokevirtual 192, 3) := by decide +kernel
theorem eX12_operand_257 : decode cX12_operand 257 = .ok (.ireturn, 1) := by decide +kernel
theorem eX12_operand_258 : decode cX12_operand 258 = .ok (.aload_n 0, 1) := by decide +kernel
theorem eX12_operand_259 : decode cX12_operand 259 = .ok (.iload_n 3, 1) := by decide +kernel
theorem eX12_operand_260 : decode cX12_operand 260 = .ok (.iload 4, 2) := by decide +kernel
theorem eX12_operand_262 : decode cX12_operand 262 = .ok (.aload_n 0, 1) := by decide +kernel
theorem eX12_operand_263 : decode cX12_operand 263 = .ok (.getfield 176, 3) := by decide +kernel
theorem eX12_operand_266 : decode cX12_operand 266 = .ok (.invokevirtual 417, 3) := by decide +kernel
theorem eX12_operand_269 : decode cX12_operand 269 = .ok (.aload_n 0, 1) := by decide +kernel
theorem eX12_operand_270 : decode cX12_operand 270 = .ok (.invokevirtual 195, 3) := by decide +kernel
theorem eX12_operand_273 : decode cX12_operand 273 = .ok (.iconst 1, 1) := by decide +kernel
theorem eX12_operand_274 : decode cX12_operand 274 = .ok (.ireturn, 1) := by decide +kernel
set_option maxRecDepth 100000 in
theorem m_12_operand_J103 (hU : ev_uq ty ev_TR) {r : Int} {C' : ev_C} {C : ev_C} {y1 y2 y3 w0 w1 : Int} (h : f_12_operand_J103 C y1 y2 y3 w0 w1 = some (r, C')) : ev_W l D cys ty ck_tags ev_TR kh_12_operand 103 [(0, .inr (.inl 12)), (1, .inl y1), (2, .inl y2), (3, .inl y3)] [.inl w0, .inl w1, .inr (.inl 43)] C (fun r0 C0 => r0 = some (.inl r) ∧ C0 = C') := by
  unfold f_12_operand_J103 at h
  obtain ⟨hb12, h⟩ := ev_gd h
  refine ev_iast hU eX12_operand_103 rfl rfl hb12.1 hb12.2 ?_
  refine ev_al eX12_operand_104 rfl ?_
  refine ev_dup eX12_operand_105 rfl ?_
  refine ev_getI lk_f (ci := 12) (j := 47) (cd := 0) eX12_operand_106 (isF (by decide +kernel)) rfl rfl rfl ?_
  refine ev_ic eX12_operand_109 (by decide) ?_
  refine ev_add eX12_operand_110 ?_
  refine ev_putI lk_f hU (ci := 12) (j := 47) (cd := 0) eX12_operand_111 (isF (by decide +kernel)) rfl rfl (Or.inl rfl) rfl ?_
  refine ev_al eX12_operand_114 rfl ?_
  refine ev_dup eX12_operand_115 rfl ?_
  refine ev_getI lk_f (ci := 12) (j := 48) (cd := 0) eX12_operand_116 (isF (by decide +kernel)) rfl rfl rfl ?_
  refine ev_ic eX12_operand_119 (by decide) ?_
  refine ev_add eX12_operand_120 ?_
  refine ev_putI lk_f hU (ci := 12) (j := 48) (cd := 0) eX12_operand_121 (isF (by decide +kernel)) rfl rfl (Or.inl rfl) rfl ?_
  refine ev_ic eX12_operand_124 (by decide) ?_
  cases h
  exact ev_zret eX12_operand_125 rfl (by decide) ⟨rfl, rfl⟩
set_option maxRecDepth 100000 in
theorem m_12_operand_J84 (hU : ev_uq ty ev_TR) {r : Int} {C' : ev_C} {C : ev_C} {y1 y2 y3 : Int} (h : f_12_operand_J84 C y1 y2 y3 = some (r, C')) : ev_W l D cys ty ck_tags ev_TR kh_12_operand 84 [(0, .inr (.inl 12)), (1, .inl y1), (2, .inl y2), (3, .inl y3)] [] C (fun r0 C0 => r0 = some (.inl r) ∧ C0 = C') := by
  unfold f_12_operand_J84 at h
  refine ev_al eX12_operand_84 rfl ?_
  refine ev_getR lk_f (ci := 12) (j := 44) (cd := 3) eX12_operand_85 (isF (by decide +kernel)) rfl rfl ?_
  refine ev_al eX12_operand_88 rfl ?_
  refine ev_getI lk_f (ci := 12) (j := 47) (cd := 0) eX12_operand_89 (isF (by decide +kernel)) rfl rfl rfl ?_
  refine ev_il eX12_operand_92 rfl ?_
  refine ev_z_eq (tgt := 101) eX12_operand_93 (by decide) (fun hc11 => ?_) (fun hc11 => ?_)
  · rw [if_pos (show y1 = 0 from hc11)] at h
    refine ev_bp eX12_operand_101 (by decide) (by decide) ?_
    refine ev_loc (L' := [(0, .inr (.inl 12)), (1, .inl y1), (2, .inl y2), (3, .inl y3)]) rfl ?_
    exact m_12_operand_J103 hU h
  · rw [if_neg (show ¬ (y1 = 0) from hc11)] at h
    refine ev_bp eX12_operand_96 (by decide) (by decide) ?_
    refine ev_goto (tgt := 103) eX12_operand_98 (by decide) ?_
    refine ev_loc (L' := [(0, .inr (.inl 12)), (1, .inl y1), (2, .inl y2), (3, .inl y3)]) rfl ?_
    exact m_12_operand_J103 hU h
set_option maxRecDepth 100000 in
theorem m_12_operand_J38 (hU : ev_uq ty ev_TR) {r : Int} {C' : ev_C} {C : ev_C} {y1 y2 y3 : Int} (h : f_12_operand_J38 C y1 y2 y3 = some (r, C')) : ev_W l D cys ty ck_tags ev_TR kh_12_operand 38 [(0, .inr (.inl 12)), (1, .inl y1), (2, .inl y2), (3, .inl y3)] [] C (fun r0 C0 => r0 = some (.inl r) ∧ C0 = C') := by
  unfold f_12_operand_J38 at h
  refine ev_al eX12_operand_38 rfl ?_
  refine ev_getI lk_f (ci := 12) (j := 46) (cd := 0) eX12_operand_39 (isF (by decide +kernel)) rfl rfl rfl ?_
  refine ev_bp eX12_operand_42 (by decide) (by decide) ?_
  refine ev_c_eq (tgt := 56) eX12_operand_44 (by decide) (fun hc5 => ?_) (fun hc5 => ?_)
  · rw [if_pos (show (C 12 46) = 20 from hc5)] at h
    refine ev_al eX12_operand_56 rfl ?_
    refine ev_ic eX12_operand_57 (by decide) ?_
    obtain ⟨r6, C6, hq6, h⟩ := ev_bd_some h
    refine ev_callV (kc := kc_205) (A := [.inl 4]) (T := []) (lk_m.1 _ _ 0 [205] (isM (by decide +kernel)) 205 (by decide)) eX12_operand_58 (m_12_bad hU hq6) rfl rfl rfl (by decide) (by decide) (Nat.le_of_ble_eq_true rfl) ?_
    rintro _ C6 ⟨rfl, rfl⟩
    show ev_W l D cys ty ck_tags ev_TR kh_12_operand 61 [(0, .inr (.inl 12)), (1, .inl y1), (2, .inl y2), (3, .inl y3)] [.inl r6] C6 _
    obtain ⟨hb7, h⟩ := ev_gd h
    cases h
    exact ev_zret eX12_operand_61 rfl hb7 ⟨rfl, rfl⟩
  · rw [if_neg (show ¬ ((C 12 46) = 20) from hc5)] at h
    refine ev_al eX12_operand_47 rfl ?_
    refine ev_getI lk_f (ci := 12) (j := 48) (cd := 0) eX12_operand_48 (isF (by decide +kernel)) rfl rfl rfl ?_
    refine ev_bp eX12_operand_51 (by decide) (by decide) ?_
    refine ev_c_le (tgt := 62) eX12_operand_53 (by decide) (fun hc8 => ?_) (fun hc8 => ?_)
    · rw [if_pos (show (C 12 48) ≤ 8 from hc8)] at h
      refine ev_al eX12_operand_62 rfl ?_
      refine ev_dup eX12_operand_63 rfl ?_
      refine ev_getI lk_f (ci := 12) (j := 46) (cd := 0) eX12_operand_64 (isF (by decide +kernel)) rfl rfl rfl ?_
      refine ev_ic eX12_operand_67 (by decide) ?_
      refine ev_add eX12_operand_68 ?_
      refine ev_putI lk_f hU (ci := 12) (j := 46) (cd := 0) eX12_operand_69 (isF (by decide +kernel)) rfl rfl (Or.inl rfl) rfl ?_
      refine ev_al eX12_operand_72 rfl ?_
      obtain ⟨C9, hq9, h⟩ := ev_bv_some h
      refine ev_callV (kc := kc_209) (A := []) (T := []) (lk_m.1 _ _ 0 [209] (isM (by decide +kernel)) 209 (by decide)) eX12_operand_73 (m_12_go hU hq9) rfl rfl rfl (by decide) (by decide) (Nat.le_of_ble_eq_true rfl) ?_
      rintro _ C9 ⟨rfl, rfl⟩
      show ev_W l D cys ty ck_tags ev_TR kh_12_operand 76 [(0, .inr (.inl 12)), (1, .inl y1), (2, .inl y2), (3, .inl y3)] [] C9 _
      refine ev_il eX12_operand_76 rfl ?_
      refine ev_z_ne (tgt := 84) eX12_operand_77 (by decide) (fun hc10 => ?_) (fun hc10 => ?_)
      · rw [if_pos (show y1 ≠ 0 from hc10)] at h
        refine ev_loc (L' := [(0, .inr (.inl 12)), (1, .inl y1), (2, .inl y2), (3, .inl y3)]) rfl ?_
        exact m_12_operand_J84 hU h
      · rw [if_neg (show ¬ (y1 ≠ 0) from hc10)] at h
        refine ev_il eX12_operand_80 rfl ?_
        refine ev_z_eq (tgt := 126) eX12_operand_81 (by decide) (fun hc13 => ?_) (fun hc13 => ?_)
        · rw [if_pos (show y2 = 0 from hc13)] at h
          refine ev_al eX12_operand_126 rfl ?_
          refine ev_ic eX12_operand_127 (by decide) ?_
          refine ev_putI lk_f hU (ci := 12) (j := 49) (cd := 1) eX12_operand_128 (isF (by decide +kernel)) rfl rfl (Or.inr ⟨rfl, by decide, by decide⟩) rfl ?_
          refine ev_il eX12_operand_131 rfl ?_
          refine ev_ic eX12_operand_132 (by decide) ?_
          refine ev_c_ge (tgt := 145) eX12_operand_133 (by decide) (fun hc14 => ?_) (fun hc14 => ?_)
          · rw [if_pos (show 3 ≤ y3 from hc14)] at h
            refine ev_il eX12_operand_145 rfl ?_
            refine ev_ic eX12_operand_146 (by decide) ?_
            refine ev_c_ne (tgt := 202) eX12_operand_147 (by decide) (fun hc15 => ?_) (fun hc15 => ?_)
            · rw [if_pos (show y3 ≠ 3 from hc15)] at h
              refine ev_al eX12_operand_202 rfl ?_
              refine ev_getI lk_f (ci := 12) (j := 11) (cd := 0) eX12_operand_203 (isF (by decide +kernel)) rfl rfl rfl ?_
              refine ev_ic eX12_operand_206 (by decide) ?_
              refine ev_c_ne (tgt := 228) eX12_operand_207 (by decide) (fun hc16 => ?_) (fun hc16 => ?_)
              · rw [if_pos (show (C9 12 11) ≠ 3 from hc16)] at h
                refine ev_al eX12_operand_228 rfl ?_
                refine ev_ic eX12_operand_229 (by decide) ?_
                obtain ⟨r17, C17, hq17, h⟩ := ev_bd_some h
                refine ev_callV (kc := kc_205) (A := [.inl 1]) (T := []) (lk_m.1 _ _ 0 [205] (isM (by decide +kernel)) 205 (by decide)) eX12_operand_230 (m_12_bad hU hq17) rfl rfl rfl (by decide) (by decide) (Nat.le_of_ble_eq_true rfl) ?_
                rintro _ C17 ⟨rfl, rfl⟩
                show ev_W l D cys ty ck_tags ev_TR kh_12_operand 233 [(0, .inr (.inl 12)), (1, .inl y1), (2, .inl y2), (3, .inl y3)] [.inl r17] C17 _
                obtain ⟨hb18, h⟩ := ev_gd h
                cases h
                exact ev_zret eX12_operand_233 rfl hb18 ⟨rfl, rfl⟩
              · rw [if_neg (show ¬ ((C9 12 11) ≠ 3) from hc16)] at h
                refine ev_al eX12_operand_210 rfl ?_
                refine ev_getI lk_f (ci := 12) (j := 14) (cd := 0) eX12_operand_211 (isF (by decide +kernel)) rfl rfl rfl ?_
                refine ev_bp eX12_operand_214 (by decide) (by decide) ?_
                refine ev_c_lt (tgt := 228) eX12_operand_216 (by decide) (fun hc19 => ?_) (fun hc19 => ?_)
                · rw [if_pos (show (C9 12 14) < 60 from hc19)] at h
                  refine ev_al eX12_operand_228 rfl ?_
                  refine ev_ic eX12_operand_229 (by decide) ?_
                  obtain ⟨r20, C20, hq20, h⟩ := ev_bd_some h
                  refine ev_callV (kc := kc_205) (A := [.inl 1]) (T := []) (lk_m.1 _ _ 0 [205] (isM (by decide +kernel)) 205 (by decide)) eX12_operand_230 (m_12_bad hU hq20) rfl rfl rfl (by decide) (by decide) (Nat.le_of_ble_eq_true rfl) ?_
                  rintro _ C20 ⟨rfl, rfl⟩
                  show ev_W l D cys ty ck_tags ev_TR kh_12_operand 233 [(0, .inr (.inl 12)), (1, .inl y1), (2, .inl y2), (3, .inl y3)] [.inl r20] C20 _
                  obtain ⟨hb21, h⟩ := ev_gd h
                  cases h
                  exact ev_zret eX12_operand_233 rfl hb21 ⟨rfl, rfl⟩
                · rw [if_neg (show ¬ ((C9 12 14) < 60) from hc19)] at h
                  refine ev_al eX12_operand_219 rfl ?_
                  refine ev_getI lk_f (ci := 12) (j := 14) (cd := 0) eX12_operand_220 (isF (by decide +kernel)) rfl rfl rfl ?_
                  refine ev_bp eX12_operand_223 (by decide) (by decide) ?_
                  refine ev_c_le (tgt := 234) eX12_operand_225 (by decide) (fun hc22 => ?_) (fun hc22 => ?_)
                  · rw [if_pos (show (C9 12 14) ≤ 62 from hc22)] at h
                    refine ev_al eX12_operand_234 rfl ?_
                    refine ev_getI lk_f (ci := 12) (j := 14) (cd := 0) eX12_operand_235 (isF (by decide +kernel)) rfl rfl rfl ?_
                    refine ev_isw (L' := [(4, .inl ((C9 12 14))), (0, .inr (.inl 12)), (1, .inl y1), (2, .inl y2), (3, .inl y3)]) eX12_operand_238 (by decide) rfl ?_
                    refine ev_al eX12_operand_240 rfl ?_
                    obtain ⟨C23, hq23, h⟩ := ev_bv_some h
                    refine ev_callV (kc := kc_209) (A := []) (T := []) (lk_m.1 _ _ 0 [209] (isM (by decide +kernel)) 209 (by decide)) eX12_operand_241 (m_12_go hU hq23) rfl rfl rfl (by decide) (by decide) (Nat.le_of_ble_eq_true rfl) ?_
                    rintro _ C23 ⟨rfl, rfl⟩
                    show ev_W l D cys ty ck_tags ev_TR kh_12_operand 244 [(4, .inl ((C9 12 14))), (0, .inr (.inl 12)), (1, .inl y1), (2, .inl y2), (3, .inl y3)] [] C23 _
                    refine ev_al eX12_operand_244 rfl ?_
                    refine ev_getI lk_f (ci := 12) (j := 11) (cd := 0) eX12_operand_245 (isF (by decide +kernel)) rfl rfl rfl ?_
                    refine ev_ic eX12_operand_248 (by decide) ?_
                    refine ev_c_eq (tgt := 258) eX12_operand_249 (by decide) (fun hc24 => ?_) (fun hc24 => ?_)
                    · rw [if_pos (show (C23 12 11) = 2 from hc24)] at h
                      refine ev_al eX12_operand_258 rfl ?_
                      refine ev_il eX12_operand_259 rfl ?_
                      refine ev_ilw eX12_operand_260 rfl ?_
                      refine ev_al eX12_operand_262 rfl ?_
                      refine ev_getI lk_f (ci := 12) (j := 14) (cd := 0) eX12_operand_263 (isF (by decide +kernel)) rfl rfl rfl ?_
                      obtain ⟨C25, hq25, h⟩ := ev_bv_some h
                      refine ev_callV (kc := kh_12_code) (A := [.inl y3, .inl ((C9 12 14)), .inl ((C23 12 14))]) (T := []) (lk_h (12, 417, 0, kh_12_code) (List.mem_of_getElem? (i := 11) rfl)) eX12_operand_266 (m_12_code hU hq25) rfl rfl rfl (by decide) (by decide) (Nat.le_of_ble_eq_true rfl) ?_
                      rintro _ C25 ⟨rfl, rfl⟩
                      show ev_W l D cys ty ck_tags ev_TR kh_12_operand 269 [(4, .inl ((C9 12 14))), (0, .inr (.inl 12)), (1, .inl y1), (2, .inl y2), (3, .inl y3)] [] C25 _
                      refine ev_al eX12_operand_269 rfl ?_
                      obtain ⟨C26, hq26, h⟩ := ev_bv_some h
                      refine ev_callV (kc := kc_209) (A := []) (T := []) (lk_m.1 _ _ 0 [209] (isM (by decide +kernel)) 209 (by decide)) eX12_operand_270 (m_12_go hU hq26) rfl rfl rfl (by decide) (by decide) (Nat.le_of_ble_eq_true rfl) ?_
                      rintro _ C26 ⟨rfl, rfl⟩
                      show ev_W l D cys ty ck_tags ev_TR kh_12_operand 273 [(4, .inl ((C9 12 14))), (0, .inr (.inl 12)), (1, .inl y1), (2, .inl y2), (3, .inl y3)] [] C26 _
                      refine ev_ic eX12_operand_273 (by decide) ?_
                      cases h
                      exact ev_zret eX12_operand_274 rfl (by decide) ⟨rfl, rfl⟩
                    · rw [if_neg (show ¬ ((C23 12 11) = 2) from hc24)] at h
                      refine ev_al eX12_operand_252 rfl ?_
                      refine ev_ic eX12_operand_253 (by decide) ?_
                      obtain ⟨r27, C27, hq27, h⟩ := ev_bd_some h
                      refine ev_callV (kc := kc_205) (A := [.inl 1]) (T := []) (lk_m.1 _ _ 0 [205] (isM (by decide +kernel)) 205 (by decide)) eX12_operand_254 (m_12_bad hU hq27) rfl rfl rfl (by decide) (by decide) (Nat.le_of_ble_eq_true rfl) ?_
                      rintro _ C27 ⟨rfl, rfl⟩
                      show ev_W l D cys ty ck_tags ev_TR kh_12_operand 257 [(4, .inl ((C9 12 14))), (0, .inr (.inl 12)), (1, .inl y1), (2, .inl y2), (3, .inl y3)] [.inl r27] C27 _
                      obtain ⟨hb28, h⟩ := ev_gd h
                      cases h
                      exact ev_zret eX12_operand_257 rfl hb28 ⟨rfl, rfl⟩
                  · rw [if_neg (show ¬ ((C9 12 14) ≤ 62) from hc22)] at h
                    refine ev_al eX12_operand_228 rfl ?_
                    refine ev_ic eX12_operand_229 (by decide) ?_
                    obtain ⟨r29, C29, hq29, h⟩ := ev_bd_some h
                    refine ev_callV (kc := kc_205) (A := [.inl 1]) (T := []) (lk_m.1 _ _ 0 [205] (isM (by decide +kernel)) 205 (by decide)) eX12_operand_230 (m_12_bad hU hq29) rfl rfl rfl (by decide) (by decide) (Nat.le_of_ble_eq_true rfl) ?_
                    rintro _ C29 ⟨rfl, rfl⟩
                    show ev_W l D cys ty ck_tags ev_TR kh_12_operand 233 [(0, .inr (.inl 12)), (1, .inl y1), (2, .inl y2), (3, .inl y3)] [.inl r29] C29 _
                    obtain ⟨hb30, h⟩ := ev_gd h
                    cases h
                    exact ev_zret eX12_operand_233 rfl hb30 ⟨rfl, rfl⟩
            · rw [if_neg (show ¬ (y3 ≠ 3) from hc15)] at h
              refine ev_al eX12_operand_150 rfl ?_
              obtain ⟨r31, C31, hq31, h⟩ := ev_bd_some h
              refine ev_callV (kc := kc_223) (A := []) (T := []) (lk_m.1 _ _ 0 [223] (isM (by decide +kernel)) 223 (by decide)) eX12_operand_151 (m_12_isName hU hq31) rfl rfl rfl (by decide) (by decide) (Nat.le_of_ble_eq_true rfl) ?_
              rintro _ C31 ⟨rfl, rfl⟩
              show ev_W l D cys ty ck_tags ev_TR kh_12_operand 154 [(0, .inr (.inl 12)), (1, .inl y1), (2, .inl y2), (3, .inl y3)] [.inl r31] C31 _
              refine ev_z_ne (tgt := 163) eX12_operand_154 (by decide) (fun hc32 => ?_) (fun hc32 => ?_)
              · rw [if_pos (show r31 ≠ 0 from hc32)] at h
                refine ev_al eX12_operand_163 rfl ?_
                refine ev_bp eX12_operand_164 (by decide) (by decide) ?_
                refine ev_al eX12_operand_166 rfl ?_
                refine ev_getR lk_f (ci := 12) (j := 6) (cd := 3) eX12_operand_167 (isF (by decide +kernel)) rfl rfl ?_
                refine ev_ic eX12_operand_170 (by decide) ?_
                refine ev_iald eX12_operand_171 rfl rfl (by decide) (by decide) ?_
                obtain ⟨r33, C33, hq33, h⟩ := ev_bd_some h
                refine ev_callV (kc := kc_221) (A := [.inl 6, .inl ((C31 34 1))]) (T := []) (lk_m.1 _ _ 0 [221, 222] (isM (by decide +kernel)) 221 (by decide)) eX12_operand_172 (m_12_find hU hq33) rfl rfl rfl (by decide) (by decide) (Nat.le_of_ble_eq_true rfl) ?_
                rintro _ C33 ⟨rfl, rfl⟩
                show ev_W l D cys ty ck_tags ev_TR kh_12_operand 175 [(0, .inr (.inl 12)), (1, .inl y1), (2, .inl y2), (3, .inl y3)] [.inl r33] C33 _
                refine ev_isw (L' := [(4, .inl r33), (0, .inr (.inl 12)), (1, .inl y1), (2, .inl y2), (3, .inl y3)]) eX12_operand_175 (by decide) rfl ?_
                refine ev_ilw eX12_operand_177 rfl ?_
                refine ev_z_ge (tgt := 188) eX12_operand_179 (by decide) (fun hc34 => ?_) (fun hc34 => ?_)
                · rw [if_pos (show 0 ≤ r33 from hc34)] at h
                  refine ev_al eX12_operand_188 rfl ?_
                  refine ev_il eX12_operand_189 rfl ?_
                  refine ev_ic eX12_operand_190 (by decide) ?_
                  refine ev_ilw eX12_operand_191 rfl ?_
                  obtain ⟨C35, hq35, h⟩ := ev_bv_some h
                  refine ev_callV (kc := kh_12_code) (A := [.inl y3, .inl 0, .inl r33]) (T := []) (lk_h (12, 417, 0, kh_12_code) (List.mem_of_getElem? (i := 11) rfl)) eX12_operand_193 (m_12_code hU hq35) rfl rfl rfl (by decide) (by decide) (Nat.le_of_ble_eq_true rfl) ?_
                  rintro _ C35 ⟨rfl, rfl⟩
                  show ev_W l D cys ty ck_tags ev_TR kh_12_operand 196 [(4, .inl r33), (0, .inr (.inl 12)), (1, .inl y1), (2, .inl y2), (3, .inl y3)] [] C35 _
                  refine ev_al eX12_operand_196 rfl ?_
                  obtain ⟨C36, hq36, h⟩ := ev_bv_some h
                  refine ev_callV (kc := kc_209) (A := []) (T := []) (lk_m.1 _ _ 0 [209] (isM (by decide +kernel)) 209 (by decide)) eX12_operand_197 (m_12_go hU hq36) rfl rfl rfl (by decide) (by decide) (Nat.le_of_ble_eq_true rfl) ?_
                  rintro _ C36 ⟨rfl, rfl⟩
                  show ev_W l D cys ty ck_tags ev_TR kh_12_operand 200 [(4, .inl r33), (0, .inr (.inl 12)), (1, .inl y1), (2, .inl y2), (3, .inl y3)] [] C36 _
                  refine ev_ic eX12_operand_200 (by decide) ?_
                  cases h
                  exact ev_zret eX12_operand_201 rfl (by decide) ⟨rfl, rfl⟩
                · rw [if_neg (show ¬ (0 ≤ r33) from hc34)] at h
                  refine ev_al eX12_operand_182 rfl ?_
                  refine ev_ic eX12_operand_183 (by decide) ?_
                  obtain ⟨r37, C37, hq37, h⟩ := ev_bd_some h
                  refine ev_callV (kc := kc_205) (A := [.inl 3]) (T := []) (lk_m.1 _ _ 0 [205] (isM (by decide +kernel)) 205 (by decide)) eX12_operand_184 (m_12_bad hU hq37) rfl rfl rfl (by decide) (by decide) (Nat.le_of_ble_eq_true rfl) ?_
                  rintro _ C37 ⟨rfl, rfl⟩
                  show ev_W l D cys ty ck_tags ev_TR kh_12_operand 187 [(4, .inl r33), (0, .inr (.inl 12)), (1, .inl y1), (2, .inl y2), (3, .inl y3)] [.inl r37] C37 _
                  obtain ⟨hb38, h⟩ := ev_gd h
                  cases h
                  exact ev_zret eX12_operand_187 rfl hb38 ⟨rfl, rfl⟩
              · rw [if_neg (show ¬ (r31 ≠ 0) from hc32)] at h
                refine ev_al eX12_operand_157 rfl ?_
                refine ev_ic eX12_operand_158 (by decide) ?_
                obtain ⟨r39, C39, hq39, h⟩ := ev_bd_some h
                refine ev_callV (kc := kc_205) (A := [.inl 1]) (T := []) (lk_m.1 _ _ 0 [205] (isM (by decide +kernel)) 205 (by decide)) eX12_operand_159 (m_12_bad hU hq39) rfl rfl rfl (by decide) (by decide) (Nat.le_of_ble_eq_true rfl) ?_
                rintro _ C39 ⟨rfl, rfl⟩
                show ev_W l D cys ty ck_tags ev_TR kh_12_operand 162 [(0, .inr (.inl 12)), (1, .inl y1), (2, .inl y2), (3, .inl y3)] [.inl r39] C39 _
                obtain ⟨hb40, h⟩ := ev_gd h
                cases h
                exact ev_zret eX12_operand_162 rfl hb40 ⟨rfl, rfl⟩
          · rw [if_neg (show ¬ (3 ≤ y3) from hc14)] at h
            refine ev_al eX12_operand_136 rfl ?_
            refine ev_il eX12_operand_137 rfl ?_
            refine ev_ic eX12_operand_138 (by decide) ?_
            refine ev_ic eX12_operand_139 (by decide) ?_
            obtain ⟨C41, hq41, h⟩ := ev_bv_some h
            refine ev_callV (kc := kh_12_code) (A := [.inl y3, .inl 0, .inl 0]) (T := []) (lk_h (12, 417, 0, kh_12_code) (List.mem_of_getElem? (i := 11) rfl)) eX12_operand_140 (m_12_code hU hq41) rfl rfl rfl (by decide) (by decide) (Nat.le_of_ble_eq_true rfl) ?_
            rintro _ C41 ⟨rfl, rfl⟩
            show ev_W l D cys ty ck_tags ev_TR kh_12_operand 143 [(0, .inr (.inl 12)), (1, .inl y1), (2, .inl y2), (3, .inl y3)] [] C41 _
            refine ev_ic eX12_operand_143 (by decide) ?_
            cases h
            exact ev_zret eX12_operand_144 rfl (by decide) ⟨rfl, rfl⟩
        · rw [if_neg (show ¬ (y2 = 0) from hc13)] at h
          refine ev_loc (L' := [(0, .inr (.inl 12)), (1, .inl y1), (2, .inl y2), (3, .inl y3)]) rfl ?_
          exact m_12_operand_J84 hU h
    · rw [if_neg (show ¬ ((C 12 48) ≤ 8) from hc8)] at h
      refine ev_al eX12_operand_56 rfl ?_
      refine ev_ic eX12_operand_57 (by decide) ?_
      obtain ⟨r42, C42, hq42, h⟩ := ev_bd_some h
      refine ev_callV (kc := kc_205) (A := [.inl 4]) (T := []) (lk_m.1 _ _ 0 [205] (isM (by decide +kernel)) 205 (by decide)) eX12_operand_58 (m_12_bad hU hq42) rfl rfl rfl (by decide) (by decide) (Nat.le_of_ble_eq_true rfl) ?_
      rintro _ C42 ⟨rfl, rfl⟩
      show ev_W l D cys ty ck_tags ev_TR kh_12_operand 61 [(0, .inr (.inl 12)), (1, .inl y1), (2, .inl y2), (3, .inl y3)] [.inl r42] C42 _
      obtain ⟨hb43, h⟩ := ev_gd h
      cases h
      exact ev_zret eX12_operand_61 rfl hb43 ⟨rfl, rfl⟩
set_option maxRecDepth 100000 in
theorem m_12_operand (hU : ev_uq ty ev_TR) {C : ev_C} {r : Int} {C' : ev_C} (h : f_12_operand C = some (r, C')) : ev_Met l D cys ty ck_tags ev_TR kh_12_operand [.inr (.inl 12)] C (fun r0 C0 => r0 = some (.inl r) ∧ C0 = C') := by
  unfold f_12_operand at h
  refine ev_enter (by decide +kernel) (by decide +kernel) (Nat.le_of_ble_eq_true rfl) ?_
  show ev_W l D cys ty ck_tags ev_TR kh_12_operand 0 [(0, .inr (.inl 12))] [] C _
  refine ev_al eX12_operand_0 rfl ?_
  refine ev_ldc2 (x := 7237492) (v := 7237492) eX12_operand_1 (in_r13 _ (List.mem_of_getElem? (i := 10) rfl)) (by decide +kernel) ?_
  obtain ⟨r1, C1, hq1, h⟩ := ev_bd_some h
  refine ev_callV (kc := kc_211) (A := [.inr (.inr 7237492)]) (T := []) (lk_m.1 _ _ 0 [211] (isM (by decide +kernel)) 211 (by decide)) eX12_operand_4 (m_12_isWord hU hq1) rfl rfl rfl (by decide) (by decide) (Nat.le_of_ble_eq_true rfl) ?_
  rintro _ C1 ⟨rfl, rfl⟩
  show ev_W l D cys ty ck_tags ev_TR kh_12_operand 7 [(0, .inr (.inl 12))] [.inl r1] C1 _
  refine ev_is (L' := [(1, .inl r1), (0, .inr (.inl 12))]) eX12_operand_7 (by decide) rfl ?_
  refine ev_al eX12_operand_8 rfl ?_
  refine ev_bp eX12_operand_9 (by decide) (by decide) ?_
  obtain ⟨r2, C2, hq2, h⟩ := ev_bd_some h
  refine ev_callV (kc := kc_210) (A := [.inl 40]) (T := []) (lk_m.1 _ _ 0 [210] (isM (by decide +kernel)) 210 (by decide)) eX12_operand_11 (m_12_isSign hU hq2) rfl rfl rfl (by decide) (by decide) (Nat.le_of_ble_eq_true rfl) ?_
  rintro _ C2 ⟨rfl, rfl⟩
  show ev_W l D cys ty ck_tags ev_TR kh_12_operand 14 [(1, .inl r1), (0, .inr (.inl 12))] [.inl r2] C2 _
  refine ev_is (L' := [(2, .inl r2), (1, .inl r1), (0, .inr (.inl 12))]) eX12_operand_14 (by decide) rfl ?_
  refine ev_al eX12_operand_15 rfl ?_
  obtain ⟨r3, C3, hq3, h⟩ := ev_bd_some h
  refine ev_callV (kc := kc_256) (A := []) (T := []) (lk_m.1 _ _ 0 [256] (isM (by decide +kernel)) 256 (by decide)) eX12_operand_16 (m_12_leafOf hU hq3) rfl rfl rfl (by decide) (by decide) (Nat.le_of_ble_eq_true rfl) ?_
  rintro _ C3 ⟨rfl, rfl⟩
  show ev_W l D cys ty ck_tags ev_TR kh_12_operand 19 [(2, .inl r2), (1, .inl r1), (0, .inr (.inl 12))] [.inl r3] C3 _
  refine ev_is (L' := [(3, .inl r3), (2, .inl r2), (1, .inl r1), (0, .inr (.inl 12))]) eX12_operand_19 (by decide) rfl ?_
  refine ev_il eX12_operand_20 rfl ?_
  refine ev_z_ne (tgt := 38) eX12_operand_21 (by decide) (fun hc4 => ?_) (fun hc4 => ?_)
  · rw [if_pos (show r1 ≠ 0 from hc4)] at h
    refine ev_loc (L' := [(0, .inr (.inl 12)), (1, .inl r1), (2, .inl r2), (3, .inl r3)]) rfl ?_
    exact m_12_operand_J38 hU h
  · rw [if_neg (show ¬ (r1 ≠ 0) from hc4)] at h
    refine ev_il eX12_operand_24 rfl ?_
    refine ev_z_ne (tgt := 38) eX12_operand_25 (by decide) (fun hc44 => ?_) (fun hc44 => ?_)
    · rw [if_pos (show r2 ≠ 0 from hc44)] at h
      refine ev_loc (L' := [(0, .inr (.inl 12)), (1, .inl r1), (2, .inl r2), (3, .inl r3)]) rfl ?_
      exact m_12_operand_J38 hU h
    · rw [if_neg (show ¬ (r2 ≠ 0) from hc44)] at h
      refine ev_il eX12_operand_28 rfl ?_
      refine ev_z_ge (tgt := 38) eX12_operand_29 (by decide) (fun hc45 => ?_) (fun hc45 => ?_)
      · rw [if_pos (show 0 ≤ r3 from hc45)] at h
        refine ev_loc (L' := [(0, .inr (.inl 12)), (1, .inl r1), (2, .inl r2), (3, .inl r3)]) rfl ?_
        exact m_12_operand_J38 hU h
      · rw [if_neg (show ¬ (0 ≤ r3) from hc45)] at h
        refine ev_al eX12_operand_32 rfl ?_
        refine ev_ic eX12_operand_33 (by decide) ?_
        obtain ⟨r46, C46, hq46, h⟩ := ev_bd_some h
        refine ev_callV (kc := kc_205) (A := [.inl 1]) (T := []) (lk_m.1 _ _ 0 [205] (isM (by decide +kernel)) 205 (by decide)) eX12_operand_34 (m_12_bad hU hq46) rfl rfl rfl (by decide) (by decide) (Nat.le_of_ble_eq_true rfl) ?_
        rintro _ C46 ⟨rfl, rfl⟩
        show ev_W l D cys ty ck_tags ev_TR kh_12_operand 37 [(3, .inl r3), (2, .inl r2), (1, .inl r1), (0, .inr (.inl 12))] [.inl r46] C46 _
        obtain ⟨hb47, h⟩ := ev_gd h
        cases h
        exact ev_zret eX12_operand_37 rfl hb47 ⟨rfl, rfl⟩
theorem eX12_nots_0 : decode cX12_nots 0 = .ok (.aload_n 0, 1) := by decide +kernel
theorem eX12_nots_1 : decode cX12_nots 1 = .ok (.getfield 414, 3) := by decide +kernel
theorem eX12_nots_4 : decode cX12_nots 4 = .ok (.ifCond .le 50, 3) := by decide +kernel
theorem eX12_nots_7 : decode cX12_nots 7 = .ok (.aload_n 0, 1) := by decide +kernel
theorem eX12_nots_8 : decode cX12_nots 8 = .ok (.getfield 86, 3) := by decide +kernel
theorem eX12_nots_11 : decode cX12_nots 11 = .ok (.aload_n 0, 1) := by decide +kernel
theorem eX12_nots_12 : decode cX12_nots 12 = .ok (.getfield 414, 3) := by decide +kernel
theorem eX12_nots_15 : decode cX12_nots 15 = .ok (.iconst 1, 1) := by decide +kernel
theorem eX12_nots_16 : decode cX12_nots 16 = .ok (.isub, 1) := by decide +kernel
theorem eX12_nots_17 : decode cX12_nots 17 = .ok (.iaload, 1) := by decide +kernel
theorem eX12_nots_18 : decode cX12_nots 18 = .ok (.bipush 20, 2) := by decide +kernel
theorem eX12_nots_20 : decode cX12_nots 20 = .ok (.if_icmp .ne 34, 3) := by decide +kernel
theorem eX12_nots_23 : decode cX12_nots 23 = .ok (.aload_n 0, 1) := by decide +kernel
theorem eX12_nots_24 : decode cX12_nots 24 = .ok (.dup, 1) := by decide +kernel
theorem eX12_nots_25 : decode cX12_nots 25 = .ok (.getfield 414, 3) := by decide +kernel
theorem eX12_nots_28 : decode cX12_nots 28 = .ok (.iconst 1, 1) := by decide +kernel
theorem eX12_nots_29 : decode cX12_nots 29 = .ok (.isub, 1) := by decide +kernel
theorem eX12_nots_30 : decode cX12_nots 30 = .ok (.putfield 414, 3) := by decide +kernel
theorem eX12_nots_33 : decode cX12_nots 33 = .ok (.aload_n 0, 1) := by decide +kernel
theorem eX12_nots_34 : decode cX12_nots 34 = .ok (.dup, 1) := by decide +kernel
theorem eX12_nots_35 : decode cX12_nots 35 = .ok (.getfield 421, 3) := by decide +kernel
theorem eX12_nots_38 : decode cX12_nots 38 = .ok (.iconst 1, 1) := by decide +kernel
theorem eX12_nots_39 : decode cX12_nots 39 = .ok (.isub, 1) := by decide +kernel
theorem eX12_nots_40 : decode cX12_nots 40 = .ok (.putfield 421, 3) := by decide +kernel
theorem eX12_nots_43 : decode cX12_nots 43 = .ok (.aload_n 0, 1) := by decide +kernel
theorem eX12_nots_44 : decode cX12_nots 44 = .ok (.bipush 20, 2) := by decide +kernel
theorem eX12_nots_46 : decode cX12_nots 46 = .ok (.iconst 0, 1) := by decide +kernel
theorem eX12_nots_47 : decode cX12_nots 47 = .ok (.iconst 0, 1) := by decide +kernel
theorem eX12_nots_48 : decode cX12_nots 48 = .ok (.invokevirtual 417, 3) := by decide +kernel
theorem eX12_nots_51 : decode cX12_nots 51 = .ok (.goto (-51), 3) := by decide +kernel
theorem eX12_nots_54 : decode cX12_nots 54 = .ok (.return_, 1) := by decide +kernel
set_option maxRecDepth 100000 in
theorem m_12_nots_L0 (hU : ev_uq ty ev_TR) : ∀ (n : Nat) {C : ev_C} {C' : ev_C}, f_12_nots_L0 n C = some C' → ev_W l D cys ty ck_tags ev_TR kh_12_nots 0 [(0, .inr (.inl 12))] [] C (fun r0 C0 => r0 = none ∧ C0 = C')
  | 0, _, _, h => by cases h
  | n + 1, C, _, h => by
    unfold f_12_nots_L0 at h
    refine ev_al eX12_nots_0 rfl ?_
    refine ev_getI lk_f (ci := 12) (j := 47) (cd := 0) eX12_nots_1 (isF (by decide +kernel)) rfl rfl rfl ?_
    refine ev_z_le (tgt := 54) eX12_nots_4 (by decide) (fun hc1 => ?_) (fun hc1 => ?_)
    · rw [if_pos (show (C 12 47) ≤ 0 from hc1)] at h
      cases h
      exact ev_vret eX12_nots_54 rfl ⟨rfl, rfl⟩
    · rw [if_neg (show ¬ ((C 12 47) ≤ 0) from hc1)] at h
      refine ev_al eX12_nots_7 rfl ?_
      refine ev_getR lk_f (ci := 12) (j := 44) (cd := 3) eX12_nots_8 (isF (by decide +kernel)) rfl rfl ?_
      refine ev_al eX12_nots_11 rfl ?_
      refine ev_getI lk_f (ci := 12) (j := 47) (cd := 0) eX12_nots_12 (isF (by decide +kernel)) rfl rfl rfl ?_
      refine ev_ic eX12_nots_15 (by decide) ?_
      refine ev_sub eX12_nots_16 ?_
      obtain ⟨hb2, h⟩ := ev_gd h
      refine ev_iald eX12_nots_17 rfl rfl hb2.1 hb2.2 ?_
      refine ev_bp eX12_nots_18 (by decide) (by decide) ?_
      refine ev_c_ne (tgt := 54) eX12_nots_20 (by decide) (fun hc3 => ?_) (fun hc3 => ?_)
      · rw [if_pos (show (C 43 (Int.toNat (ev_w (((C 12 47)) - (1 : Int))))) ≠ 20 from hc3)] at h
        cases h
        exact ev_vret eX12_nots_54 rfl ⟨rfl, rfl⟩
      · rw [if_neg (show ¬ ((C 43 (Int.toNat (ev_w (((C 12 47)) - (1 : Int))))) ≠ 20) from hc3)] at h
        refine ev_al eX12_nots_23 rfl ?_
        refine ev_dup eX12_nots_24 rfl ?_
        refine ev_getI lk_f (ci := 12) (j := 47) (cd := 0) eX12_nots_25 (isF (by decide +kernel)) rfl rfl rfl ?_
        refine ev_ic eX12_nots_28 (by decide) ?_
        refine ev_sub eX12_nots_29 ?_
        refine ev_putI lk_f hU (ci := 12) (j := 47) (cd := 0) eX12_nots_30 (isF (by decide +kernel)) rfl rfl (Or.inl rfl) rfl ?_
        refine ev_al eX12_nots_33 rfl ?_
        refine ev_dup eX12_nots_34 rfl ?_
        refine ev_getI lk_f (ci := 12) (j := 48) (cd := 0) eX12_nots_35 (isF (by decide +kernel)) rfl rfl rfl ?_
        refine ev_ic eX12_nots_38 (by decide) ?_
        refine ev_sub eX12_nots_39 ?_
        refine ev_putI lk_f hU (ci := 12) (j := 48) (cd := 0) eX12_nots_40 (isF (by decide +kernel)) rfl rfl (Or.inl rfl) rfl ?_
        refine ev_al eX12_nots_43 rfl ?_
        refine ev_bp eX12_nots_44 (by decide) (by decide) ?_
        refine ev_ic eX12_nots_46 (by decide) ?_
        refine ev_ic eX12_nots_47 (by decide) ?_
        obtain ⟨C4, hq4, h⟩ := ev_bv_some h
        refine ev_callV (kc := kh_12_code) (A := [.inl 20, .inl 0, .inl 0]) (T := []) (lk_h (12, 417, 0, kh_12_code) (List.mem_of_getElem? (i := 11) rfl)) eX12_nots_48 (m_12_code hU hq4) rfl rfl rfl (by decide) (by decide) (Nat.le_of_ble_eq_true rfl) ?_
        rintro _ C4 ⟨rfl, rfl⟩
        show ev_W l D cys ty ck_tags ev_TR kh_12_nots 51 [(0, .inr (.inl 12))] [] C4 _
        refine ev_goto (tgt := 0) eX12_nots_51 (by decide) ?_
        refine ev_loc (L' := [(0, .inr (.inl 12))]) rfl ?_
        exact m_12_nots_L0 hU n h
set_option maxRecDepth 100000 in
theorem m_12_nots (hU : ev_uq ty ev_TR) {C : ev_C} {C' : ev_C} (h : f_12_nots C = some C') : ev_Met l D cys ty ck_tags ev_TR kh_12_nots [.inr (.inl 12)] C (fun r0 C0 => r0 = none ∧ C0 = C') := by
  unfold f_12_nots at h
  refine ev_enter (by decide +kernel) (by decide +kernel) (Nat.le_of_ble_eq_true rfl) ?_
  show ev_W l D cys ty ck_tags ev_TR kh_12_nots 0 [(0, .inr (.inl 12))] [] C _
  refine ev_loc (L' := [(0, .inr (.inl 12))]) rfl ?_
  exact m_12_nots_L0 hU 1000 h
theorem eX12_joins_0 : decode cX12_joins 0 = .ok (.aload_n 0, 1) := by decide +kernel
theorem eX12_joins_1 : decode cX12_joins 1 = .ok (.getfield 414, 3) := by decide +kernel
theorem eX12_joins_4 : decode cX12_joins 4 = .ok (.ifCond .le 69, 3) := by decide +kernel
theorem eX12_joins_7 : decode cX12_joins 7 = .ok (.aload_n 0, 1) := by decide +kernel
theorem eX12_joins_8 : decode cX12_joins 8 = .ok (.getfield 86, 3) := by decide +kernel
theorem eX12_joins_11 : decode cX12_joins 11 = .ok (.aload_n 0, 1) := by decide +kernel
theorem eX12_joins_12 : decode cX12_joins 12 = .ok (.getfield 414, 3) := by decide +kernel
theorem eX12_joins_15 : decode cX12_joins 15 = .ok (.iconst 1, 1) := by decide +kernel
theorem eX12_joins_16 : decode cX12_joins 16 = .ok (.isub, 1) := by decide +kernel
theorem eX12_joins_17 : decode cX12_joins 17 = .ok (.iaload, 1) := by decide +kernel
theorem eX12_joins_18 : decode cX12_joins 18 = .ok (.bipush 21, 2) := by decide +kernel
theorem eX12_joins_20 : decode cX12_joins 20 = .ok (.if_icmp .eq 25, 3) := by decide +kernel
theorem eX12_joins_23 : decode cX12_joins 23 = .ok (.aload_n 0, 1) := by decide +kernel
theorem eX12_joins_24 : decode cX12_joins 24 = .ok (.getfield 86, 3) := by decide +kernel
theorem eX12_joins_27 : decode cX12_joins 27 = .ok (.aload_n 0, 1) := by decide +kernel
theorem eX12_joins_28 : decode cX12_joins 28 = .ok (.getfield 414, 3) := by decide +kernel
theorem eX12_joins_31 : decode cX12_joins 31 = .ok (.iconst 1, 1) := by decide +kernel
theorem eX12_joins_32 : decode cX12_joins 32 = .ok (.isub, 1) := by decide +kernel
theorem eX12_joins_33 : decode cX12_joins 33 = .ok (.iaload, 1) := by decide +kernel
theorem eX12_joins_34 : decode cX12_joins 34 = .ok (.bipush 22, 2) := by decide +kernel
theorem eX12_joins_36 : decode cX12_joins 36 = .ok (.if_icmp .ne 37, 3) := by decide +kernel
theorem eX12_joins_39 : decode cX12_joins 39 = .ok (.iload_n 1, 1) := by decide +kernel
theorem eX12_joins_40 : decode cX12_joins 40 = .ok (.bipush 22, 2) := by decide +kernel
theorem eX12_joins_42 : decode cX12_joins 42 = .ok (.if_icmp .ne 31, 3) := by decide +kernel
theorem eX12_joins_45 : decode cX12_joins 45 = .ok (.aload_n 0, 1) := by decide +kernel
theorem eX12_joins_46 : decode cX12_joins 46 = .ok (.dup, 1) := by decide +kernel
theorem eX12_joins_47 : decode cX12_joins 47 = .ok (.getfield 414, 3) := by decide +kernel
theorem eX12_joins_50 : decode cX12_joins 50 = .ok (.iconst 1, 1) := by decide +kernel
theorem eX12_joins_51 : decode cX12_joins 51 = .ok (.isub, 1) := by decide +kernel
theorem eX12_joins_52 : decode cX12_joins 52 = .ok (.putfield 414, 3) := by decide +kernel
theorem eX12_joins_55 : decode cX12_joins 55 = .ok (.aload_n 0, 1) := by decide +kernel
theorem eX12_joins_56 : decode cX12_joins 56 = .ok (.aload_n 0, 1) := by decide +kernel
theorem eX12_joins_57 : decode cX12_joins 57 = .ok (.getfield 86, 3) := by decide +kernel
theorem eX12_joins_60 : decode cX12_joins 60 = .ok (.aload_n 0, 1) := by decide +kernel
theorem eX12_joins_61 : decode cX12_joins 61 = .ok (.getfield 414, 3) := by decide +kernel
theorem eX12_joins_64 : decode cX12_joins 64 = .ok (.iaload, 1) := by decide +kernel
theorem eX12_joins_65 : decode cX12_joins 65 = .ok (.iconst 0, 1) := by decide +kernel
theorem eX12_joins_66 : decode cX12_joins 66 = .ok (.iconst 0, 1) := by decide +kernel
theorem eX12_joins_67 : decode cX12_joins 67 = .ok (.invokevirtual 417, 3) := by decide +kernel
theorem eX12_joins_70 : decode cX12_joins 70 = .ok (.goto (-70), 3) := by decide +kernel
theorem eX12_joins_73 : decode cX12_joins 73 = .ok (.return_, 1) := by decide +kernel
set_option maxRecDepth 100000 in
theorem m_12_joins_J45 (hU : ev_uq ty ev_TR) {C' : ev_C} {K0 : ev_C → Int → Option ev_C} (hK0 : ∀ {C : ev_C} {y1 : Int}, K0 C y1 = some C' → ev_W l D cys ty ck_tags ev_TR kh_12_joins 0 [(0, .inr (.inl 12)), (1, .inl y1)] [] C (fun r0 C0 => r0 = none ∧ C0 = C')) {C : ev_C} {y1 : Int} (h : f_12_joins_J45 K0 C y1 = some C') : ev_W l D cys ty ck_tags ev_TR kh_12_joins 45 [(0, .inr (.inl 12)), (1, .inl y1)] [] C (fun r0 C0 => r0 = none ∧ C0 = C') := by
  unfold f_12_joins_J45 at h
  refine ev_al eX12_joins_45 rfl ?_
  refine ev_dup eX12_joins_46 rfl ?_
  refine ev_getI lk_f (ci := 12) (j := 47) (cd := 0) eX12_joins_47 (isF (by decide +kernel)) rfl rfl rfl ?_
  refine ev_ic eX12_joins_50 (by decide) ?_
  refine ev_sub eX12_joins_51 ?_
  refine ev_putI lk_f hU (ci := 12) (j := 47) (cd := 0) eX12_joins_52 (isF (by decide +kernel)) rfl rfl (Or.inl rfl) rfl ?_
  refine ev_al eX12_joins_55 rfl ?_
  refine ev_al eX12_joins_56 rfl ?_
  refine ev_getR lk_f (ci := 12) (j := 44) (cd := 3) eX12_joins_57 (isF (by decide +kernel)) rfl rfl ?_
  refine ev_al eX12_joins_60 rfl ?_
  refine ev_getI lk_f (ci := 12) (j := 47) (cd := 0) eX12_joins_61 (isF (by decide +kernel)) rfl rfl rfl ?_
  obtain ⟨hb4, h⟩ := ev_gd h
  refine ev_iald eX12_joins_64 rfl rfl hb4.1 hb4.2 ?_
  refine ev_ic eX12_joins_65 (by decide) ?_
  refine ev_ic eX12_joins_66 (by decide) ?_
  obtain ⟨C5, hq5, h⟩ := ev_bv_some h
  refine ev_callV (kc := kh_12_code) (A := [.inl ((C 43 (Int.toNat (ev_w (((C 12 47)) - (1 : Int)))))), .inl 0, .inl 0]) (T := []) (lk_h (12, 417, 0, kh_12_code) (List.mem_of_getElem? (i := 11) rfl)) eX12_joins_67 (m_12_code hU hq5) rfl rfl rfl (by decide) (by decide) (Nat.le_of_ble_eq_true rfl) ?_
  rintro _ C5 ⟨rfl, rfl⟩
  show ev_W l D cys ty ck_tags ev_TR kh_12_joins 70 [(0, .inr (.inl 12)), (1, .inl y1)] [] C5 _
  refine ev_goto (tgt := 0) eX12_joins_70 (by decide) ?_
  refine ev_loc (L' := [(0, .inr (.inl 12)), (1, .inl y1)]) rfl ?_
  exact hK0 h
set_option maxRecDepth 100000 in
theorem m_12_joins_L0 (hU : ev_uq ty ev_TR) : ∀ (n : Nat) {C : ev_C} {y1 : Int} {C' : ev_C}, f_12_joins_L0 n C y1 = some C' → ev_W l D cys ty ck_tags ev_TR kh_12_joins 0 [(0, .inr (.inl 12)), (1, .inl y1)] [] C (fun r0 C0 => r0 = none ∧ C0 = C')
  | 0, _, _, _, h => by cases h
  | n + 1, C, y1, _, h => by
    unfold f_12_joins_L0 at h
    refine ev_al eX12_joins_0 rfl ?_
    refine ev_getI lk_f (ci := 12) (j := 47) (cd := 0) eX12_joins_1 (isF (by decide +kernel)) rfl rfl rfl ?_
    refine ev_z_le (tgt := 73) eX12_joins_4 (by decide) (fun hc1 => ?_) (fun hc1 => ?_)
    · rw [if_pos (show (C 12 47) ≤ 0 from hc1)] at h
      cases h
      exact ev_vret eX12_joins_73 rfl ⟨rfl, rfl⟩
    · rw [if_neg (show ¬ ((C 12 47) ≤ 0) from hc1)] at h
      refine ev_al eX12_joins_7 rfl ?_
      refine ev_getR lk_f (ci := 12) (j := 44) (cd := 3) eX12_joins_8 (isF (by decide +kernel)) rfl rfl ?_
      refine ev_al eX12_joins_11 rfl ?_
      refine ev_getI lk_f (ci := 12) (j := 47) (cd := 0) eX12_joins_12 (isF (by decide +kernel)) rfl rfl rfl ?_
      refine ev_ic eX12_joins_15 (by decide) ?_
      refine ev_sub eX12_joins_16 ?_
      obtain ⟨hb2, h⟩ := ev_gd h
      refine ev_iald eX12_joins_17 rfl rfl hb2.1 hb2.2 ?_
      refine ev_bp eX12_joins_18 (by decide) (by decide) ?_
      refine ev_c_eq (tgt := 45) eX12_joins_20 (by decide) (fun hc3 => ?_) (fun hc3 => ?_)
      · rw [if_pos (show (C 43 (Int.toNat (ev_w (((C 12 47)) - (1 : Int))))) = 21 from hc3)] at h
        refine ev_loc (L' := [(0, .inr (.inl 12)), (1, .inl y1)]) rfl ?_
        exact m_12_joins_J45 hU (fun h => m_12_joins_L0 hU n h) h
      · rw [if_neg (show ¬ ((C 43 (Int.toNat (ev_w (((C 12 47)) - (1 : Int))))) = 21) from hc3)] at h
        refine ev_al eX12_joins_23 rfl ?_
        refine ev_getR lk_f (ci := 12) (j := 44) (cd := 3) eX12_joins_24 (isF (by decide +kernel)) rfl rfl ?_
        refine ev_al eX12_joins_27 rfl ?_
        refine ev_getI lk_f (ci := 12) (j := 47) (cd := 0) eX12_joins_28 (isF (by decide +kernel)) rfl rfl rfl ?_
        refine ev_ic eX12_joins_31 (by decide) ?_
        refine ev_sub eX12_joins_32 ?_
        obtain ⟨hb6, h⟩ := ev_gd h
        refine ev_iald eX12_joins_33 rfl rfl hb6.1 hb6.2 ?_
        refine ev_bp eX12_joins_34 (by decide) (by decide) ?_
        refine ev_c_ne (tgt := 73) eX12_joins_36 (by decide) (fun hc7 => ?_) (fun hc7 => ?_)
        · rw [if_pos (show (C 43 (Int.toNat (ev_w (((C 12 47)) - (1 : Int))))) ≠ 22 from hc7)] at h
          cases h
          exact ev_vret eX12_joins_73 rfl ⟨rfl, rfl⟩
        · rw [if_neg (show ¬ ((C 43 (Int.toNat (ev_w (((C 12 47)) - (1 : Int))))) ≠ 22) from hc7)] at h
          refine ev_il eX12_joins_39 rfl ?_
          refine ev_bp eX12_joins_40 (by decide) (by decide) ?_
          refine ev_c_ne (tgt := 73) eX12_joins_42 (by decide) (fun hc8 => ?_) (fun hc8 => ?_)
          · rw [if_pos (show y1 ≠ 22 from hc8)] at h
            cases h
            exact ev_vret eX12_joins_73 rfl ⟨rfl, rfl⟩
          · rw [if_neg (show ¬ (y1 ≠ 22) from hc8)] at h
            refine ev_loc (L' := [(0, .inr (.inl 12)), (1, .inl y1)]) rfl ?_
            exact m_12_joins_J45 hU (fun h => m_12_joins_L0 hU n h) h
set_option maxRecDepth 100000 in
theorem m_12_joins (hU : ev_uq ty ev_TR) {C : ev_C} {x1 : Int} {C' : ev_C} (h : f_12_joins C x1 = some C') : ev_Met l D cys ty ck_tags ev_TR kh_12_joins [.inr (.inl 12), .inl x1] C (fun r0 C0 => r0 = none ∧ C0 = C') := by
  unfold f_12_joins at h
  refine ev_enter (by decide +kernel) (by decide +kernel) (Nat.le_of_ble_eq_true rfl) ?_
  show ev_W l D cys ty ck_tags ev_TR kh_12_joins 0 [(0, .inr (.inl 12)), (1, .inl x1)] [] C _
  refine ev_loc (L' := [(0, .inr (.inl 12)), (1, .inl x1)]) rfl ?_
  exact m_12_joins_L0 hU 1000 h
theorem eX12_behind_0 : decode cX12_behind 0 = .ok (.aload_n 0, 1) := by decide +kernel
theorem eX12_behind_1 : decode cX12_behind 1 = .ok (.invokevirtual 433, 3) := by decide +kernel
theorem eX12_behind_4 : decode cX12_behind 4 = .ok (.aload_n 0, 1) := by decide +kernel
theorem eX12_behind_5 : decode cX12_behind 5 = .ok (.ldc2_w 136, 3) := by decide +kernel
theorem eX12_behind_8 : decode cX12_behind 8 = .ok (.invokevirtual 220, 3) := by decide +kernel
theorem eX12_behind_11 : decode cX12_behind 11 = .ok (.ifCond .ne 13, 3) := by decide +kernel
theorem eX12_behind_14 : decode cX12_behind 14 = .ok (.aload_n 0, 1) := by decide +kernel
theorem eX12_behind_15 : decode cX12_behind 15 = .ok (.ldc2_w 134, 3) := by decide +kernel
theorem eX12_behind_18 : decode cX12_behind 18 = .ok (.invokevirtual 220, 3) := by decide +kernel
theorem eX12_behind_21 : decode cX12_behind 21 = .ok (.ifCond .eq 71, 3) := by decide +kernel
theorem eX12_behind_24 : decode cX12_behind 24 = .ok (.aload_n 0, 1) := by decide +kernel
theorem eX12_behind_25 : decode cX12_behind 25 = .ok (.aload_n 0, 1) := by decide +kernel
theorem eX12_behind_26 : decode cX12_behind 26 = .ok (.ldc2_w 136, 3) := by decide +kernel
theorem eX12_behind_29 : decode cX12_behind 29 = .ok (.invokevirtual 220, 3) := by decide +kernel
theorem eX12_behind_32 : decode cX12_behind 32 = .ok (.ifCond .eq 8, 3) := by decide +kernel
theorem eX12_behind_35 : decode cX12_behind 35 = .ok (.bipush 21, 2) := by decide +kernel
theorem eX12_behind_37 : decode cX12_behind 37 = .ok (.goto 5, 3) := by decide +kernel
theorem eX12_behind_40 : decode cX12_behind 40 = .ok (.bipush 22, 2) := by decide +kernel
theorem eX12_behind_42 : decode cX12_behind 42 = .ok (.invokevirtual 436, 3) := by decide +kernel
theorem eX12_behind_45 : decode cX12_behind 45 = .ok (.aload_n 0, 1) := by decide +kernel
theorem eX12_behind_46 : decode cX12_behind 46 = .ok (.getfield 86, 3) := by decide +kernel
theorem eX12_behind_49 : decode cX12_behind 49 = .ok (.aload_n 0, 1) := by decide +kernel
theorem eX12_behind_50 : decode cX12_behind 50 = .ok (.getfield 414, 3) := by decide +kernel
theorem eX12_behind_53 : decode cX12_behind 53 = .ok (.aload_n 0, 1) := by decide +kernel
theorem eX12_behind_54 : decode cX12_behind 54 = .ok (.ldc2_w 136, 3) := by decide +kernel
theorem eX12_behind_57 : decode cX12_behind 57 = .ok (.invokevirtual 220, 3) := by decide +kernel
theorem eX12_behind_60 : decode cX12_behind 60 = .ok (.ifCond .eq 8, 3) := by decide +kernel
theorem eX12_behind_63 : decode cX12_behind 63 = .ok (.bipush 21, 2) := by decide +kernel
theorem eX12_behind_65 : decode cX12_behind 65 = .ok (.goto 5, 3) := by decide +kernel
theorem eX12_behind_68 : decode cX12_behind 68 = .ok (.bipush 22, 2) := by decide +kernel
theorem eX12_behind_70 : decode cX12_behind 70 = .ok (.iastore, 1) := by decide +kernel
theorem eX12_behind_71 : decode cX12_behind 71 = .ok (.aload_n 0, 1) := by decide +kernel
theorem eX12_behind_72 : decode cX12_behind 72 = .ok (.dup, 1) := by decide +kernel
theorem eX12_behind_73 : decode cX12_behind 73 = .ok (.getfield 414, 3) := by decide +kernel
theorem eX12_behind_76 : decode cX12_behind 76 = .ok (.iconst 1, 1) := by decide +kernel
theorem eX12_behind_77 : decode cX12_behind 77 = .ok (.iadd, 1) := by decide +kernel
theorem eX12_behind_78 : decode cX12_behind 78 = .ok (.putfield 414, 3) := by decide +kernel
theorem eX12_behind_81 : decode cX12_behind 81 = .ok (.aload_n 0, 1) := by decide +kernel
theorem eX12_behind_82 : decode cX12_behind 82 = .ok (.iconst 0, 1) := by decide +kernel
theorem eX12_behind_83 : decode cX12_behind 83 = .ok (.putfield 430, 3) := by decide +kernel
theorem eX12_behind_86 : decode cX12_behind 86 = .ok (.aload_n 0, 1) := by decide +kernel
theorem eX12_behind_87 : decode cX12_behind 87 = .ok (.invokevirtual 195, 3) := by decide +kernel
theorem eX12_behind_90 : decode cX12_behind 90 = .ok (.iconst 1, 1) := by decide +kernel
theorem eX12_behind_91 : decode cX12_behind 91 = .ok (.ireturn, 1) := by decide +kernel
theorem eX12_behind_92 : decode cX12_behind 92 = .ok (.aload_n 0, 1) := by decide +kernel
theorem eX12_behind_93 : decode cX12_behind 93 = .ok (.bipush 22, 2) := by decide +kernel
theorem eX12_behind_95 : decode cX12_behind 95 = .ok (.invokevirtual 436, 3) := by decide +kernel
theorem eX12_behind_98 : decode cX12_behind 98 = .ok (.aload_n 0, 1) := by decide +kernel
theorem eX12_behind_99 : decode cX12_behind 99 = .ok (.bipush 41, 2) := by decide +kernel
theorem eX12_behind_101 : decode cX12_behind 101 = .ok (.invokevirtual 189, 3) := by decide +kernel
theorem eX12_behind_104 : decode cX12_behind 104 = .ok (.ifCond .eq 10, 3) := by decide +kernel
theorem eX12_behind_107 : decode cX12_behind 107 = .ok (.aload_n 0, 1) := by decide +kernel
theorem eX12_behind_108 : decode cX12_behind 108 = .ok (.getfield 414, 3) := by decide +kernel
theorem eX12_behind_111 : decode cX12_behind 111 = .ok (.ifCond .ne 9, 3) := by decide +kernel
theorem eX12_behind_114 : decode cX12_behind 114 = .ok (.aload_n 0, 1) := by decide +kernel
theorem eX12_behind_115 : decode cX12_behind 115 = .ok (.iconst 1, 1) := by decide +kernel
theorem eX12_behind_116 : decode cX12_behind 116 = .ok (.invokevirtual 192, 3) := by decide +kernel
theorem eX12_behind_119 : decode cX12_behind 119 = .ok (.ireturn, 1) := by decide +kernel
theorem eX12_behind_120 : decode cX12_behind 120 = .ok (.aload_n 0, 1) := by decide +kernel
theorem eX12_behind_121 : decode cX12_behind 121 = .ok (.dup, 1) := by decide +kernel
theorem eX12_behind_122 : decode cX12_behind 122 = .ok (.getfield 414, 3) := by decide +kernel
theorem eX12_behind_125 : decode cX12_behind 125 = .ok (.iconst 1, 1) := by decide +kernel
theorem eX12_behind_126 : decode cX12_behind 126 = .ok (.isub, 1) := by decide +kernel
theorem eX12_behind_127 : decode cX12_behind 127 = .ok (.putfield 414, 3) := by decide +kernel
theorem eX12_behind_130 : decode cX12_behind 130 = .ok (.aload_n 0, 1) := by decide +kernel
theorem eX12_behind_131 : decode cX12_behind 131 = .ok (.dup, 1) := by decide +kernel
theorem eX12_behind_132 : decode cX12_behind 132 = .ok (.getfield 421, 3) := by decide +kernel
theorem eX12_behind_135 : decode cX12_behind 135 = .ok (.iconst 1, 1) := by decide +kernel
theorem eX12_behind_136 : decode cX12_behind 136 = .ok (.isub, 1) := by decide +kernel
theorem eX12_behind_137 : decode cX12_behind 137 = .ok (.putfield 421, 3) := by decide +kernel
theorem eX12_behind_140 : decode cX12_behind 140 = .ok (.aload_n 0, 1) := by decide +kernel
theorem eX12_behind_141 : decode cX12_behind 141 = .ok (.invokevirtual 195, 3) := by decide +kernel
theorem eX12_behind_144 : decode cX12_behind 144 = .ok (.iconst 1, 1) := by decide +kernel
theorem eX12_behind_145 : decode cX12_behind 145 = .ok (.ireturn, 1) := by decide +kernel
set_option maxRecDepth 100000 in
theorem m_12_behind_J70 (hU : ev_uq ty ev_TR) {r : Int} {C' : ev_C} {C : ev_C} {w0 w1 : Int} (h : f_12_behind_J70 C w0 w1 = some (r, C')) : ev_W l D cys ty ck_tags ev_TR kh_12_behind 70 [(0, .inr (.inl 12))] [.inl w0, .inl w1, .inr (.inl 43)] C (fun r0 C0 => r0 = some (.inl r) ∧ C0 = C') := by
  unfold f_12_behind_J70 at h
  obtain ⟨hb9, h⟩ := ev_gd h
  refine ev_iast hU eX12_behind_70 rfl rfl hb9.1 hb9.2 ?_
  refine ev_al eX12_behind_71 rfl ?_
  refine ev_dup eX12_behind_72 rfl ?_
  refine ev_getI lk_f (ci := 12) (j := 47) (cd := 0) eX12_behind_73 (isF (by decide +kernel)) rfl rfl rfl ?_
  refine ev_ic eX12_behind_76 (by decide) ?_
  refine ev_add eX12_behind_77 ?_
  refine ev_putI lk_f hU (ci := 12) (j := 47) (cd := 0) eX12_behind_78 (isF (by decide +kernel)) rfl rfl (Or.inl rfl) rfl ?_
  refine ev_al eX12_behind_81 rfl ?_
  refine ev_ic eX12_behind_82 (by decide) ?_
  refine ev_putI lk_f hU (ci := 12) (j := 49) (cd := 1) eX12_behind_83 (isF (by decide +kernel)) rfl rfl (Or.inr ⟨rfl, by decide, by decide⟩) rfl ?_
  refine ev_al eX12_behind_86 rfl ?_
  obtain ⟨C10, hq10, h⟩ := ev_bv_some h
  refine ev_callV (kc := kc_209) (A := []) (T := []) (lk_m.1 _ _ 0 [209] (isM (by decide +kernel)) 209 (by decide)) eX12_behind_87 (m_12_go hU hq10) rfl rfl rfl (by decide) (by decide) (Nat.le_of_ble_eq_true rfl) ?_
  rintro _ C10 ⟨rfl, rfl⟩
  show ev_W l D cys ty ck_tags ev_TR kh_12_behind 90 [(0, .inr (.inl 12))] [] C10 _
  refine ev_ic eX12_behind_90 (by decide) ?_
  cases h
  exact ev_zret eX12_behind_91 rfl (by decide) ⟨rfl, rfl⟩
set_option maxRecDepth 100000 in
theorem m_12_behind_J42 (hU : ev_uq ty ev_TR) {r : Int} {C' : ev_C} {C : ev_C} {w0 : Int} (h : f_12_behind_J42 C w0 = some (r, C')) : ev_W l D cys ty ck_tags ev_TR kh_12_behind 42 [(0, .inr (.inl 12))] [.inl w0, .inr (.inl 12)] C (fun r0 C0 => r0 = some (.inl r) ∧ C0 = C') := by
  unfold f_12_behind_J42 at h
  obtain ⟨C6, hq6, h⟩ := ev_bv_some h
  refine ev_callV (kc := kh_12_joins) (A := [.inl w0]) (T := []) (lk_h (12, 436, 0, kh_12_joins) (List.mem_of_getElem? (i := 13) rfl)) eX12_behind_42 (m_12_joins hU hq6) rfl rfl rfl (by decide) (by decide) (Nat.le_of_ble_eq_true rfl) ?_
  rintro _ C6 ⟨rfl, rfl⟩
  show ev_W l D cys ty ck_tags ev_TR kh_12_behind 45 [(0, .inr (.inl 12))] [] C6 _
  refine ev_al eX12_behind_45 rfl ?_
  refine ev_getR lk_f (ci := 12) (j := 44) (cd := 3) eX12_behind_46 (isF (by decide +kernel)) rfl rfl ?_
  refine ev_al eX12_behind_49 rfl ?_
  refine ev_getI lk_f (ci := 12) (j := 47) (cd := 0) eX12_behind_50 (isF (by decide +kernel)) rfl rfl rfl ?_
  refine ev_al eX12_behind_53 rfl ?_
  refine ev_ldc2 (x := 6385252) (v := 6385252) eX12_behind_54 (in_r13 _ (List.mem_of_getElem? (i := 9) rfl)) (by decide +kernel) ?_
  obtain ⟨r7, C7, hq7, h⟩ := ev_bd_some h
  refine ev_callV (kc := kc_211) (A := [.inr (.inr 6385252)]) (T := [.inl ((C6 12 47)), .inr (.inl 43)]) (lk_m.1 _ _ 0 [211] (isM (by decide +kernel)) 211 (by decide)) eX12_behind_57 (m_12_isWord hU hq7) rfl rfl rfl (by decide) (by decide) (Nat.le_of_ble_eq_true rfl) ?_
  rintro _ C7 ⟨rfl, rfl⟩
  show ev_W l D cys ty ck_tags ev_TR kh_12_behind 60 [(0, .inr (.inl 12))] [.inl r7, .inl ((C6 12 47)), .inr (.inl 43)] C7 _
  refine ev_z_eq (tgt := 68) eX12_behind_60 (by decide) (fun hc8 => ?_) (fun hc8 => ?_)
  · rw [if_pos (show r7 = 0 from hc8)] at h
    refine ev_bp eX12_behind_68 (by decide) (by decide) ?_
    refine ev_loc (L' := [(0, .inr (.inl 12))]) rfl ?_
    exact m_12_behind_J70 hU h
  · rw [if_neg (show ¬ (r7 = 0) from hc8)] at h
    refine ev_bp eX12_behind_63 (by decide) (by decide) ?_
    refine ev_goto (tgt := 70) eX12_behind_65 (by decide) ?_
    refine ev_loc (L' := [(0, .inr (.inl 12))]) rfl ?_
    exact m_12_behind_J70 hU h
set_option maxRecDepth 100000 in
theorem m_12_behind_J24 (hU : ev_uq ty ev_TR) {r : Int} {C' : ev_C} {C : ev_C} (h : f_12_behind_J24 C = some (r, C')) : ev_W l D cys ty ck_tags ev_TR kh_12_behind 24 [(0, .inr (.inl 12))] [] C (fun r0 C0 => r0 = some (.inl r) ∧ C0 = C') := by
  unfold f_12_behind_J24 at h
  refine ev_al eX12_behind_24 rfl ?_
  refine ev_al eX12_behind_25 rfl ?_
  refine ev_ldc2 (x := 6385252) (v := 6385252) eX12_behind_26 (in_r13 _ (List.mem_of_getElem? (i := 9) rfl)) (by decide +kernel) ?_
  obtain ⟨r4, C4, hq4, h⟩ := ev_bd_some h
  refine ev_callV (kc := kc_211) (A := [.inr (.inr 6385252)]) (T := [.inr (.inl 12)]) (lk_m.1 _ _ 0 [211] (isM (by decide +kernel)) 211 (by decide)) eX12_behind_29 (m_12_isWord hU hq4) rfl rfl rfl (by decide) (by decide) (Nat.le_of_ble_eq_true rfl) ?_
  rintro _ C4 ⟨rfl, rfl⟩
  show ev_W l D cys ty ck_tags ev_TR kh_12_behind 32 [(0, .inr (.inl 12))] [.inl r4, .inr (.inl 12)] C4 _
  refine ev_z_eq (tgt := 40) eX12_behind_32 (by decide) (fun hc5 => ?_) (fun hc5 => ?_)
  · rw [if_pos (show r4 = 0 from hc5)] at h
    refine ev_bp eX12_behind_40 (by decide) (by decide) ?_
    refine ev_loc (L' := [(0, .inr (.inl 12))]) rfl ?_
    exact m_12_behind_J42 hU h
  · rw [if_neg (show ¬ (r4 = 0) from hc5)] at h
    refine ev_bp eX12_behind_35 (by decide) (by decide) ?_
    refine ev_goto (tgt := 42) eX12_behind_37 (by decide) ?_
    refine ev_loc (L' := [(0, .inr (.inl 12))]) rfl ?_
    exact m_12_behind_J42 hU h
set_option maxRecDepth 100000 in
theorem m_12_behind (hU : ev_uq ty ev_TR) {C : ev_C} {r : Int} {C' : ev_C} (h : f_12_behind C = some (r, C')) : ev_Met l D cys ty ck_tags ev_TR kh_12_behind [.inr (.inl 12)] C (fun r0 C0 => r0 = some (.inl r) ∧ C0 = C') := by
  unfold f_12_behind at h
  refine ev_enter (by decide +kernel) (by decide +kernel) (Nat.le_of_ble_eq_true rfl) ?_
  show ev_W l D cys ty ck_tags ev_TR kh_12_behind 0 [(0, .inr (.inl 12))] [] C _
  refine ev_al eX12_behind_0 rfl ?_
  obtain ⟨C1, hq1, h⟩ := ev_bv_some h
  refine ev_callV (kc := kh_12_nots) (A := []) (T := []) (lk_h (12, 433, 0, kh_12_nots) (List.mem_of_getElem? (i := 12) rfl)) eX12_behind_1 (m_12_nots hU hq1) rfl rfl rfl (by decide) (by decide) (Nat.le_of_ble_eq_true rfl) ?_
  rintro _ C1 ⟨rfl, rfl⟩
  show ev_W l D cys ty ck_tags ev_TR kh_12_behind 4 [(0, .inr (.inl 12))] [] C1 _
  refine ev_al eX12_behind_4 rfl ?_
  refine ev_ldc2 (x := 6385252) (v := 6385252) eX12_behind_5 (in_r13 _ (List.mem_of_getElem? (i := 9) rfl)) (by decide +kernel) ?_
  obtain ⟨r2, C2, hq2, h⟩ := ev_bd_some h
  refine ev_callV (kc := kc_211) (A := [.inr (.inr 6385252)]) (T := []) (lk_m.1 _ _ 0 [211] (isM (by decide +kernel)) 211 (by decide)) eX12_behind_8 (m_12_isWord hU hq2) rfl rfl rfl (by decide) (by decide) (Nat.le_of_ble_eq_true rfl) ?_
  rintro _ C2 ⟨rfl, rfl⟩
  show ev_W l D cys ty ck_tags ev_TR kh_12_behind 11 [(0, .inr (.inl 12))] [.inl r2] C2 _
  refine ev_z_ne (tgt := 24) eX12_behind_11 (by decide) (fun hc3 => ?_) (fun hc3 => ?_)
  · rw [if_pos (show r2 ≠ 0 from hc3)] at h
    refine ev_loc (L' := [(0, .inr (.inl 12))]) rfl ?_
    exact m_12_behind_J24 hU h
  · rw [if_neg (show ¬ (r2 ≠ 0) from hc3)] at h
    refine ev_al eX12_behind_14 rfl ?_
    refine ev_ldc2 (x := 28530) (v := 28530) eX12_behind_15 (in_r13 _ (List.mem_of_getElem? (i := 8) rfl)) (by decide +kernel) ?_
    obtain ⟨r11, C11, hq11, h⟩ := ev_bd_some h
    refine ev_callV (kc := kc_211) (A := [.inr (.inr 28530)]) (T := []) (lk_m.1 _ _ 0 [211] (isM (by decide +kernel)) 211 (by decide)) eX12_behind_18 (m_12_isWord hU hq11) rfl rfl rfl (by decide) (by decide) (Nat.le_of_ble_eq_true rfl) ?_
    rintro _ C11 ⟨rfl, rfl⟩
    show ev_W l D cys ty ck_tags ev_TR kh_12_behind 21 [(0, .inr (.inl 12))] [.inl r11] C11 _
    refine ev_z_eq (tgt := 92) eX12_behind_21 (by decide) (fun hc12 => ?_) (fun hc12 => ?_)
    · rw [if_pos (show r11 = 0 from hc12)] at h
      refine ev_al eX12_behind_92 rfl ?_
      refine ev_bp eX12_behind_93 (by decide) (by decide) ?_
      obtain ⟨C13, hq13, h⟩ := ev_bv_some h
      refine ev_callV (kc := kh_12_joins) (A := [.inl 22]) (T := []) (lk_h (12, 436, 0, kh_12_joins) (List.mem_of_getElem? (i := 13) rfl)) eX12_behind_95 (m_12_joins hU hq13) rfl rfl rfl (by decide) (by decide) (Nat.le_of_ble_eq_true rfl) ?_
      rintro _ C13 ⟨rfl, rfl⟩
      show ev_W l D cys ty ck_tags ev_TR kh_12_behind 98 [(0, .inr (.inl 12))] [] C13 _
      refine ev_al eX12_behind_98 rfl ?_
      refine ev_bp eX12_behind_99 (by decide) (by decide) ?_
      obtain ⟨r14, C14, hq14, h⟩ := ev_bd_some h
      refine ev_callV (kc := kc_210) (A := [.inl 41]) (T := []) (lk_m.1 _ _ 0 [210] (isM (by decide +kernel)) 210 (by decide)) eX12_behind_101 (m_12_isSign hU hq14) rfl rfl rfl (by decide) (by decide) (Nat.le_of_ble_eq_true rfl) ?_
      rintro _ C14 ⟨rfl, rfl⟩
      show ev_W l D cys ty ck_tags ev_TR kh_12_behind 104 [(0, .inr (.inl 12))] [.inl r14] C14 _
      refine ev_z_eq (tgt := 114) eX12_behind_104 (by decide) (fun hc15 => ?_) (fun hc15 => ?_)
      · rw [if_pos (show r14 = 0 from hc15)] at h
        refine ev_al eX12_behind_114 rfl ?_
        refine ev_ic eX12_behind_115 (by decide) ?_
        obtain ⟨r16, C16, hq16, h⟩ := ev_bd_some h
        refine ev_callV (kc := kc_205) (A := [.inl 1]) (T := []) (lk_m.1 _ _ 0 [205] (isM (by decide +kernel)) 205 (by decide)) eX12_behind_116 (m_12_bad hU hq16) rfl rfl rfl (by decide) (by decide) (Nat.le_of_ble_eq_true rfl) ?_
        rintro _ C16 ⟨rfl, rfl⟩
        show ev_W l D cys ty ck_tags ev_TR kh_12_behind 119 [(0, .inr (.inl 12))] [.inl r16] C16 _
        obtain ⟨hb17, h⟩ := ev_gd h
        cases h
        exact ev_zret eX12_behind_119 rfl hb17 ⟨rfl, rfl⟩
      · rw [if_neg (show ¬ (r14 = 0) from hc15)] at h
        refine ev_al eX12_behind_107 rfl ?_
        refine ev_getI lk_f (ci := 12) (j := 47) (cd := 0) eX12_behind_108 (isF (by decide +kernel)) rfl rfl rfl ?_
        refine ev_z_ne (tgt := 120) eX12_behind_111 (by decide) (fun hc18 => ?_) (fun hc18 => ?_)
        · rw [if_pos (show (C14 12 47) ≠ 0 from hc18)] at h
          refine ev_al eX12_behind_120 rfl ?_
          refine ev_dup eX12_behind_121 rfl ?_
          refine ev_getI lk_f (ci := 12) (j := 47) (cd := 0) eX12_behind_122 (isF (by decide +kernel)) rfl rfl rfl ?_
          refine ev_ic eX12_behind_125 (by decide) ?_
          refine ev_sub eX12_behind_126 ?_
          refine ev_putI lk_f hU (ci := 12) (j := 47) (cd := 0) eX12_behind_127 (isF (by decide +kernel)) rfl rfl (Or.inl rfl) rfl ?_
          refine ev_al eX12_behind_130 rfl ?_
          refine ev_dup eX12_behind_131 rfl ?_
          refine ev_getI lk_f (ci := 12) (j := 48) (cd := 0) eX12_behind_132 (isF (by decide +kernel)) rfl rfl rfl ?_
          refine ev_ic eX12_behind_135 (by decide) ?_
          refine ev_sub eX12_behind_136 ?_
          refine ev_putI lk_f hU (ci := 12) (j := 48) (cd := 0) eX12_behind_137 (isF (by decide +kernel)) rfl rfl (Or.inl rfl) rfl ?_
          refine ev_al eX12_behind_140 rfl ?_
          obtain ⟨C19, hq19, h⟩ := ev_bv_some h
          refine ev_callV (kc := kc_209) (A := []) (T := []) (lk_m.1 _ _ 0 [209] (isM (by decide +kernel)) 209 (by decide)) eX12_behind_141 (m_12_go hU hq19) rfl rfl rfl (by decide) (by decide) (Nat.le_of_ble_eq_true rfl) ?_
          rintro _ C19 ⟨rfl, rfl⟩
          show ev_W l D cys ty ck_tags ev_TR kh_12_behind 144 [(0, .inr (.inl 12))] [] C19 _
          refine ev_ic eX12_behind_144 (by decide) ?_
          cases h
          exact ev_zret eX12_behind_145 rfl (by decide) ⟨rfl, rfl⟩
        · rw [if_neg (show ¬ ((C14 12 47) ≠ 0) from hc18)] at h
          refine ev_al eX12_behind_114 rfl ?_
          refine ev_ic eX12_behind_115 (by decide) ?_
          obtain ⟨r20, C20, hq20, h⟩ := ev_bd_some h
          refine ev_callV (kc := kc_205) (A := [.inl 1]) (T := []) (lk_m.1 _ _ 0 [205] (isM (by decide +kernel)) 205 (by decide)) eX12_behind_116 (m_12_bad hU hq20) rfl rfl rfl (by decide) (by decide) (Nat.le_of_ble_eq_true rfl) ?_
          rintro _ C20 ⟨rfl, rfl⟩
          show ev_W l D cys ty ck_tags ev_TR kh_12_behind 119 [(0, .inr (.inl 12))] [.inl r20] C20 _
          obtain ⟨hb21, h⟩ := ev_gd h
          cases h
          exact ev_zret eX12_behind_119 rfl hb21 ⟨rfl, rfl⟩
    · rw [if_neg (show ¬ (r11 = 0) from hc12)] at h
      refine ev_loc (L' := [(0, .inr (.inl 12))]) rfl ?_
      exact m_12_behind_J24 hU h
theorem eX12_sentence_0 : decode cX12_sentence 0 = .ok (.aload_n 0, 1) := by decide +kernel
theorem eX12_sentence_1 : decode cX12_sentence 1 = .ok (.iconst 0, 1) := by decide +kernel
theorem eX12_sentence_2 : decode cX12_sentence 2 = .ok (.putfield 1, 3) := by decide +kernel
theorem eX12_sentence_5 : decode cX12_sentence 5 = .ok (.aload_n 0, 1) := by decide +kernel
theorem eX12_sentence_6 : decode cX12_sentence 6 = .ok (.sipush 200, 3) := by decide +kernel
theorem eX12_sentence_9 : decode cX12_sentence 9 = .ok (.invokevirtual 242, 3) := by decide +kernel
theorem eX12_sentence_12 : decode cX12_sentence 12 = .ok (.aload_n 0, 1) := by decide +kernel
theorem eX12_sentence_13 : decode cX12_sentence 13 = .ok (.iconst 0, 1) := by decide +kernel
theorem eX12_sentence_14 : decode cX12_sentence 14 = .ok (.putfield 183, 3) := by decide +kernel
theorem eX12_sentence_17 : decode cX12_sentence 17 = .ok (.aload_n 0, 1) := by decide +kernel
theorem eX12_sentence_18 : decode cX12_sentence 18 = .ok (.iconst 0, 1) := by decide +kernel
theorem eX12_sentence_19 : decode cX12_sentence 19 = .ok (.putfield 411, 3) := by decide +kernel
theorem eX12_sentence_22 : decode cX12_sentence 22 = .ok (.aload_n 0, 1) := by decide +kernel
theorem eX12_sentence_23 : decode cX12_sentence 23 = .ok (.iconst 0, 1) := by decide +kernel
theorem eX12_sentence_24 : decode cX12_sentence 24 = .ok (.putfield 427, 3) := by decide +kernel
theorem eX12_sentence_27 : decode cX12_sentence 27 = .ok (.aload_n 0, 1) := by decide +kernel
theorem eX12_sentence_28 : decode cX12_sentence 28 = .ok (.iconst 0, 1) := by decide +kernel
theorem eX12_sentence_29 : decode cX12_sentence 29 = .ok (.putfield 414, 3) := by decide +kernel
theorem eX12_sentence_32 : decode cX12_sentence 32 = .ok (.aload_n 0, 1) := by decide +kernel
theorem eX12_sentence_33 : decode cX12_sentence 33 = .ok (.iconst 1, 1) := by decide +kernel
theorem eX12_sentence_34 : decode cX12_sentence 34 = .ok (.putfield 421, 3) := by decide +kernel
theorem eX12_sentence_37 : decode cX12_sentence 37 = .ok (.aload_n 0, 1) := by decide +kernel
theorem eX12_sentence_38 : decode cX12_sentence 38 = .ok (.iconst 0, 1) := by decide +kernel
theorem eX12_sentence_39 : decode cX12_sentence 39 = .ok (.putfield 430, 3) := by decide +kernel
theorem eX12_sentence_42 : decode cX12_sentence 42 = .ok (.aload_n 0, 1) := by decide +kernel
theorem eX12_sentence_43 : decode cX12_sentence 43 = .ok (.invokevirtual 195, 3) := by decide +kernel
theorem eX12_sentence_46 : decode cX12_sentence 46 = .ok (.iconst 1, 1) := by decide +kernel
theorem eX12_sentence_47 : decode cX12_sentence 47 = .ok (.istore_n 1, 1) := by decide +kernel
theorem eX12_sentence_48 : decode cX12_sentence 48 = .ok (.iload_n 1, 1) := by decide +kernel
theorem eX12_sentence_49 : decode cX12_sentence 49 = .ok (.ifCond .eq 83, 3) := by decide +kernel
theorem eX12_sentence_52 : decode cX12_sentence 52 = .ok (.aload_n 0, 1) := by decide +kernel
theorem eX12_sentence_53 : decode cX12_sentence 53 = .ok (.getfield 430, 3) := by decide +kernel
theorem eX12_sentence_56 : decode cX12_sentence 56 = .ok (.ifCond .eq 45, 3) := by decide +kernel
theorem eX12_sentence_59 : decode cX12_sentence 59 = .ok (.aload_n 0, 1) := by decide +kernel
theorem eX12_sentence_60 : decode cX12_sentence 60 = .ok (.getfield 166, 3) := by decide +kernel
theorem eX12_sentence_63 : decode cX12_sentence 63 = .ok (.ifCond .ne 38, 3) := by decide +kernel
theorem eX12_sentence_66 : decode cX12_sentence 66 = .ok (.aload_n 0, 1) := by decide +kernel
theorem eX12_sentence_67 : decode cX12_sentence 67 = .ok (.invokevirtual 433, 3) := by decide +kernel
theorem eX12_sentence_70 : decode cX12_sentence 70 = .ok (.aload_n 0, 1) := by decide +kernel
theorem eX12_sentence_71 : decode cX12_sentence 71 = .ok (.bipush 22, 2) := by decide +kernel
theorem eX12_sentence_73 : decode cX12_sentence 73 = .ok (.invokevirtual 436, 3) := by decide +kernel
theorem eX12_sentence_76 : decode cX12_sentence 76 = .ok (.aload_n 0, 1) := by decide +kernel
theorem eX12_sentence_77 : decode cX12_sentence 77 = .ok (.getfield 414, 3) := by decide +kernel
theorem eX12_sentence_80 : decode cX12_sentence 80 = .ok (.ifCond .le 16, 3) := by decide +kernel
theorem eX12_sentence_83 : decode cX12_sentence 83 = .ok (.aload_n 0, 1) := by decide +kernel
theorem eX12_sentence_84 : decode cX12_sentence 84 = .ok (.iconst 1, 1) := by decide +kernel
theorem eX12_sentence_85 : decode cX12_sentence 85 = .ok (.invokevirtual 192, 3) := by decide +kernel
theorem eX12_sentence_88 : decode cX12_sentence 88 = .ok (.pop, 1) := by decide +kernel
theorem eX12_sentence_89 : decode cX12_sentence 89 = .ok (.iconst (-1), 1) := by decide +kernel
theorem eX12_sentence_90 : decode cX12_sentence 90 = .ok (.aload_n 0, 1) := by decide +kernel
theorem eX12_sentence_91 : decode cX12_sentence 91 = .ok (.getfield 186, 3) := by decide +kernel
theorem eX12_sentence_94 : decode cX12_sentence 94 = .ok (.isub, 1) := by decide +kernel
theorem eX12_sentence_95 : decode cX12_sentence 95 = .ok (.ireturn, 1) := by decide +kernel
theorem eX12_sentence_96 : decode cX12_sentence 96 = .ok (.iconst 0, 1) := by decide +kernel
theorem eX12_sentence_97 : decode cX12_sentence 97 = .ok (.istore_n 1, 1) := by decide +kernel
theorem eX12_sentence_98 : decode cX12_sentence 98 = .ok (.goto (-50), 3) := by decide +kernel
theorem eX12_sentence_101 : decode cX12_sentence 101 = .ok (.aload_n 0, 1) := by decide +kernel
theorem eX12_sentence_102 : decode cX12_sentence 102 = .ok (.getfield 430, 3) := by decide +kernel
theorem eX12_sentence_105 : decode cX12_sentence 105 = .ok (.ifCond .eq 13, 3) := by decide +kernel
theorem eX12_sentence_108 : decode cX12_sentence 108 = .ok (.aload_n 0, 1) := by decide +kernel
theorem eX12_sentence_109 : decode cX12_sentence 109 = .ok (.invokevirtual 439, 3) := by decide +kernel
theorem eX12_sentence_112 : decode cX12_sentence 112 = .ok (.ifCond .ne (-64), 3) := by decide +kernel
theorem eX12_sentence_115 : decode cX12_sentence 115 = .ok (.goto 10, 3) := by decide +kernel
theorem eX12_sentence_118 : decode cX12_sentence 118 = .ok (.aload_n 0, 1) := by decide +kernel
theorem eX12_sentence_119 : decode cX12_sentence 119 = .ok (.invokevirtual 442, 3) := by decide +kernel
theorem eX12_sentence_122 : decode cX12_sentence 122 = .ok (.ifCond .ne (-74), 3) := by decide +kernel
theorem eX12_sentence_125 : decode cX12_sentence 125 = .ok (.iconst (-1), 1) := by decide +kernel
theorem eX12_sentence_126 : decode cX12_sentence 126 = .ok (.aload_n 0, 1) := by decide +kernel
theorem eX12_sentence_127 : decode cX12_sentence 127 = .ok (.getfield 186, 3) := by decide +kernel
theorem eX12_sentence_130 : decode cX12_sentence 130 = .ok (.isub, 1) := by decide +kernel
theorem eX12_sentence_131 : decode cX12_sentence 131 = .ok (.ireturn, 1) := by decide +kernel
theorem eX12_sentence_132 : decode cX12_sentence 132 = .ok (.aload_n 0, 1) := by decide +kernel
theorem eX12_sentence_133 : decode cX12_sentence 133 = .ok (.getfield 33, 3) := by decide +kernel
theorem eX12_sentence_136 : decode cX12_sentence 136 = .ok (.sipush 186, 3) := by decide +kernel
theorem eX12_sentence_139 : decode cX12_sentence 139 = .ok (.aload_n 0, 1) := by decide +kernel
theorem eX12_sentence_140 : decode cX12_sentence 140 = .ok (.getfield 411, 3) := by decide +kernel
theorem eX12_sentence_143 : decode cX12_sentence 143 = .ok (.iastore, 1) := by decide +kernel
theorem eX12_sentence_144 : decode cX12_sentence 144 = .ok (.iconst 0, 1) := by decide +kernel
theorem eX12_sentence_145 : decode cX12_sentence 145 = .ok (.istore_n 2, 1) := by decide +kernel
theorem eX12_sentence_146 : decode cX12_sentence 146 = .ok (.iload_n 2, 1) := by decide +kernel
theorem eX12_sentence_147 : decode cX12_sentence 147 = .ok (.iconst 3, 1) := by decide +kernel
theorem eX12_sentence_148 : decode cX12_sentence 148 = .ok (.aload_n 0, 1) := by decide +kernel
theorem eX12_sentence_149 : decode cX12_sentence 149 = .ok (.getfield 411, 3) := by decide +kernel
theorem eX12_sentence_152 : decode cX12_sentence 152 = .ok (.imul, 1) := by decide +kernel
theorem eX12_sentence_153 : decode cX12_sentence 153 = .ok (.if_icmp .ge 25, 3) := by decide +kernel
theorem eX12_sentence_156 : decode cX12_sentence 156 = .ok (.aload_n 0, 1) := by decide +kernel
theorem eX12_sentence_157 : decode cX12_sentence 157 = .ok (.getfield 33, 3) := by decide +kernel
theorem eX12_sentence_160 : decode cX12_sentence 160 = .ok (.sipush 187, 3) := by decide +kernel
theorem eX12_sentence_163 : decode cX12_sentence 163 = .ok (.iload_n 2, 1) := by decide +kernel
theorem eX12_sentence_164 : decode cX12_sentence 164 = .ok (.iadd, 1) := by decide +kernel
theorem eX12_sentence_165 : decode cX12_sentence 165 = .ok (.aload_n 0, 1) := by decide +kernel
theorem eX12_sentence_166 : decode cX12_sentence 166 = .ok (.getfield 40, 3) := by decide +kernel
theorem eX12_sentence_169 : decode cX12_sentence 169 = .ok (.iload_n 2, 1) := by decide +kernel
theorem eX12_sentence_170 : decode cX12_sentence 170 = .ok (.iaload, 1) := by decide +kernel
theorem eX12_sentence_171 : decode cX12_sentence 171 = .ok (.iastore, 1) := by decide +kernel
theorem eX12_sentence_172 : decode cX12_sentence 172 = .ok (.iinc 2 1, 3) := by decide +kernel
theorem eX12_sentence_175 : decode cX12_sentence 175 = .ok (.goto (-29), 3) := by decide +kernel
theorem eX12_sentence_178 : decode cX12_sentence 178 = .ok (.aload_n 0, 1) := by decide +kernel
theorem eX12_sentence_179 : decode cX12_sentence 179 = .ok (.getfield 427, 3) := by decide +kernel
theorem eX12_sentence_182 : decode cX12_sentence 182 = .ok (.ireturn, 1) := by decide +kernel
set_option maxRecDepth 100000 in
theorem m_12_sentence_L146 (hU : ev_uq ty ev_TR) : ∀ (n : Nat) {C : ev_C} {y1 y2 : Int} {r : Int} {C' : ev_C}, f_12_sentence_L146 n C y1 y2 = some (r, C') → ev_W l D cys ty ck_tags ev_TR kc_348 146 [(0, .inr (.inl 12)), (1, .inl y1), (2, .inl y2)] [] C (fun r0 C0 => r0 = some (.inl r) ∧ C0 = C')
  | 0, _, _, _, _, _, h => by cases h
  | n + 1, C, y1, y2, _, _, h => by
    unfold f_12_sentence_L146 at h
    refine ev_il eX12_sentence_146 rfl ?_
    refine ev_ic eX12_sentence_147 (by decide) ?_
    refine ev_al eX12_sentence_148 rfl ?_
    refine ev_getI lk_f (ci := 12) (j := 45) (cd := 0) eX12_sentence_149 (isF (by decide +kernel)) rfl rfl rfl ?_
    refine ev_mul eX12_sentence_152 ?_
    refine ev_c_ge (tgt := 178) eX12_sentence_153 (by decide) (fun hc4 => ?_) (fun hc4 => ?_)
    · rw [if_pos (show ev_w ((3 : Int) * ((C 12 45))) ≤ y2 from hc4)] at h
      refine ev_al eX12_sentence_178 rfl ?_
      refine ev_getI lk_f (ci := 12) (j := 46) (cd := 0) eX12_sentence_179 (isF (by decide +kernel)) rfl rfl rfl ?_
      cases h
      exact ev_iret eX12_sentence_182 rfl ⟨rfl, rfl⟩
    · rw [if_neg (show ¬ (ev_w ((3 : Int) * ((C 12 45))) ≤ y2) from hc4)] at h
      refine ev_al eX12_sentence_156 rfl ?_
      refine ev_getR lk_f (ci := 12) (j := 6) (cd := 3) eX12_sentence_157 (isF (by decide +kernel)) rfl rfl ?_
      refine ev_sp eX12_sentence_160 (by decide) (by decide) ?_
      refine ev_il eX12_sentence_163 rfl ?_
      refine ev_add eX12_sentence_164 ?_
      refine ev_al eX12_sentence_165 rfl ?_
      refine ev_getR lk_f (ci := 12) (j := 8) (cd := 3) eX12_sentence_166 (isF (by decide +kernel)) rfl rfl ?_
      refine ev_il eX12_sentence_169 rfl ?_
      obtain ⟨hb5, h⟩ := ev_gd h
      refine ev_iald eX12_sentence_170 rfl rfl hb5.1 hb5.2 ?_
      obtain ⟨hb6, h⟩ := ev_gd h
      refine ev_iast hU eX12_sentence_171 rfl rfl hb6.1 hb6.2 ?_
      refine ev_inc (L' := [(2, .inl (ev_w (y2 + 1))), (0, .inr (.inl 12)), (1, .inl y1)]) eX12_sentence_172 (by decide) (by decide) rfl rfl ?_
      refine ev_goto (tgt := 146) eX12_sentence_175 (by decide) ?_
      refine ev_loc (L' := [(0, .inr (.inl 12)), (1, .inl y1), (2, .inl (ev_w (y2 + 1)))]) rfl ?_
      exact m_12_sentence_L146 hU n h
set_option maxRecDepth 100000 in
theorem m_12_sentence_J101 (hU : ev_uq ty ev_TR) {r : Int} {C' : ev_C} {K48 : ev_C → Int → Option (Int × ev_C)} (hK48 : ∀ {C : ev_C} {y1 : Int}, K48 C y1 = some (r, C') → ev_W l D cys ty ck_tags ev_TR kc_348 48 [(0, .inr (.inl 12)), (1, .inl y1)] [] C (fun r0 C0 => r0 = some (.inl r) ∧ C0 = C')) {C : ev_C} {y1 : Int} (h : f_12_sentence_J101 K48 C y1 = some (r, C')) : ev_W l D cys ty ck_tags ev_TR kc_348 101 [(0, .inr (.inl 12)), (1, .inl y1)] [] C (fun r0 C0 => r0 = some (.inl r) ∧ C0 = C') := by
  unfold f_12_sentence_J101 at h
  refine ev_al eX12_sentence_101 rfl ?_
  refine ev_getI lk_f (ci := 12) (j := 49) (cd := 1) eX12_sentence_102 (isF (by decide +kernel)) rfl rfl rfl ?_
  refine ev_z_eq (tgt := 118) eX12_sentence_105 (by decide) (fun hc8 => ?_) (fun hc8 => ?_)
  · rw [if_pos (show (C 12 49) = 0 from hc8)] at h
    refine ev_al eX12_sentence_118 rfl ?_
    obtain ⟨r9, C9, hq9, h⟩ := ev_bd_some h
    refine ev_callV (kc := kh_12_operand) (A := []) (T := []) (lk_h (12, 442, 0, kh_12_operand) (List.mem_of_getElem? (i := 15) rfl)) eX12_sentence_119 (m_12_operand hU hq9) rfl rfl rfl (by decide) (by decide) (Nat.le_of_ble_eq_true rfl) ?_
    rintro _ C9 ⟨rfl, rfl⟩
    show ev_W l D cys ty ck_tags ev_TR kc_348 122 [(0, .inr (.inl 12)), (1, .inl y1)] [.inl r9] C9 _
    refine ev_z_ne (tgt := 48) eX12_sentence_122 (by decide) (fun hc10 => ?_) (fun hc10 => ?_)
    · rw [if_pos (show r9 ≠ 0 from hc10)] at h
      refine ev_loc (L' := [(0, .inr (.inl 12)), (1, .inl y1)]) rfl ?_
      exact hK48 h
    · rw [if_neg (show ¬ (r9 ≠ 0) from hc10)] at h
      refine ev_ic eX12_sentence_125 (by decide) ?_
      refine ev_al eX12_sentence_126 rfl ?_
      refine ev_getI lk_f (ci := 12) (j := 16) (cd := 0) eX12_sentence_127 (isF (by decide +kernel)) rfl rfl rfl ?_
      refine ev_sub eX12_sentence_130 ?_
      cases h
      exact ev_iret eX12_sentence_131 rfl ⟨rfl, rfl⟩
  · rw [if_neg (show ¬ ((C 12 49) = 0) from hc8)] at h
    refine ev_al eX12_sentence_108 rfl ?_
    obtain ⟨r11, C11, hq11, h⟩ := ev_bd_some h
    refine ev_callV (kc := kh_12_behind) (A := []) (T := []) (lk_h (12, 439, 0, kh_12_behind) (List.mem_of_getElem? (i := 14) rfl)) eX12_sentence_109 (m_12_behind hU hq11) rfl rfl rfl (by decide) (by decide) (Nat.le_of_ble_eq_true rfl) ?_
    rintro _ C11 ⟨rfl, rfl⟩
    show ev_W l D cys ty ck_tags ev_TR kc_348 112 [(0, .inr (.inl 12)), (1, .inl y1)] [.inl r11] C11 _
    refine ev_z_ne (tgt := 48) eX12_sentence_112 (by decide) (fun hc12 => ?_) (fun hc12 => ?_)
    · rw [if_pos (show r11 ≠ 0 from hc12)] at h
      refine ev_loc (L' := [(0, .inr (.inl 12)), (1, .inl y1)]) rfl ?_
      exact hK48 h
    · rw [if_neg (show ¬ (r11 ≠ 0) from hc12)] at h
      refine ev_goto (tgt := 125) eX12_sentence_115 (by decide) ?_
      refine ev_ic eX12_sentence_125 (by decide) ?_
      refine ev_al eX12_sentence_126 rfl ?_
      refine ev_getI lk_f (ci := 12) (j := 16) (cd := 0) eX12_sentence_127 (isF (by decide +kernel)) rfl rfl rfl ?_
      refine ev_sub eX12_sentence_130 ?_
      cases h
      exact ev_iret eX12_sentence_131 rfl ⟨rfl, rfl⟩
set_option maxRecDepth 100000 in
theorem m_12_sentence_L48 (hU : ev_uq ty ev_TR) : ∀ (n : Nat) {C : ev_C} {y1 : Int} {r : Int} {C' : ev_C}, f_12_sentence_L48 n C y1 = some (r, C') → ev_W l D cys ty ck_tags ev_TR kc_348 48 [(0, .inr (.inl 12)), (1, .inl y1)] [] C (fun r0 C0 => r0 = some (.inl r) ∧ C0 = C')
  | 0, _, _, _, _, h => by cases h
  | n + 1, C, y1, _, _, h => by
    unfold f_12_sentence_L48 at h
    refine ev_il eX12_sentence_48 rfl ?_
    refine ev_z_eq (tgt := 132) eX12_sentence_49 (by decide) (fun hc3 => ?_) (fun hc3 => ?_)
    · rw [if_pos (show y1 = 0 from hc3)] at h
      refine ev_al eX12_sentence_132 rfl ?_
      refine ev_getR lk_f (ci := 12) (j := 6) (cd := 3) eX12_sentence_133 (isF (by decide +kernel)) rfl rfl ?_
      refine ev_sp eX12_sentence_136 (by decide) (by decide) ?_
      refine ev_al eX12_sentence_139 rfl ?_
      refine ev_getI lk_f (ci := 12) (j := 45) (cd := 0) eX12_sentence_140 (isF (by decide +kernel)) rfl rfl rfl ?_
      refine ev_iast hU eX12_sentence_143 rfl rfl (by decide) (by decide) ?_
      refine ev_ic eX12_sentence_144 (by decide) ?_
      refine ev_is (L' := [(2, .inl 0), (0, .inr (.inl 12)), (1, .inl y1)]) eX12_sentence_145 (by decide) rfl ?_
      refine ev_loc (L' := [(0, .inr (.inl 12)), (1, .inl y1), (2, .inl 0)]) rfl ?_
      exact m_12_sentence_L146 hU 1000 h
    · rw [if_neg (show ¬ (y1 = 0) from hc3)] at h
      refine ev_al eX12_sentence_52 rfl ?_
      refine ev_getI lk_f (ci := 12) (j := 49) (cd := 1) eX12_sentence_53 (isF (by decide +kernel)) rfl rfl rfl ?_
      refine ev_z_eq (tgt := 101) eX12_sentence_56 (by decide) (fun hc7 => ?_) (fun hc7 => ?_)
      · rw [if_pos (show (C 12 49) = 0 from hc7)] at h
        refine ev_loc (L' := [(0, .inr (.inl 12)), (1, .inl y1)]) rfl ?_
        exact m_12_sentence_J101 hU (fun h => m_12_sentence_L48 hU n h) h
      · rw [if_neg (show ¬ ((C 12 49) = 0) from hc7)] at h
        refine ev_al eX12_sentence_59 rfl ?_
        refine ev_getI lk_f (ci := 12) (j := 11) (cd := 0) eX12_sentence_60 (isF (by decide +kernel)) rfl rfl rfl ?_
        refine ev_z_ne (tgt := 101) eX12_sentence_63 (by decide) (fun hc13 => ?_) (fun hc13 => ?_)
        · rw [if_pos (show (C 12 11) ≠ 0 from hc13)] at h
          refine ev_loc (L' := [(0, .inr (.inl 12)), (1, .inl y1)]) rfl ?_
          exact m_12_sentence_J101 hU (fun h => m_12_sentence_L48 hU n h) h
        · rw [if_neg (show ¬ ((C 12 11) ≠ 0) from hc13)] at h
          refine ev_al eX12_sentence_66 rfl ?_
          obtain ⟨C14, hq14, h⟩ := ev_bv_some h
          refine ev_callV (kc := kh_12_nots) (A := []) (T := []) (lk_h (12, 433, 0, kh_12_nots) (List.mem_of_getElem? (i := 12) rfl)) eX12_sentence_67 (m_12_nots hU hq14) rfl rfl rfl (by decide) (by decide) (Nat.le_of_ble_eq_true rfl) ?_
          rintro _ C14 ⟨rfl, rfl⟩
          show ev_W l D cys ty ck_tags ev_TR kc_348 70 [(0, .inr (.inl 12)), (1, .inl y1)] [] C14 _
          refine ev_al eX12_sentence_70 rfl ?_
          refine ev_bp eX12_sentence_71 (by decide) (by decide) ?_
          obtain ⟨C15, hq15, h⟩ := ev_bv_some h
          refine ev_callV (kc := kh_12_joins) (A := [.inl 22]) (T := []) (lk_h (12, 436, 0, kh_12_joins) (List.mem_of_getElem? (i := 13) rfl)) eX12_sentence_73 (m_12_joins hU hq15) rfl rfl rfl (by decide) (by decide) (Nat.le_of_ble_eq_true rfl) ?_
          rintro _ C15 ⟨rfl, rfl⟩
          show ev_W l D cys ty ck_tags ev_TR kc_348 76 [(0, .inr (.inl 12)), (1, .inl y1)] [] C15 _
          refine ev_al eX12_sentence_76 rfl ?_
          refine ev_getI lk_f (ci := 12) (j := 47) (cd := 0) eX12_sentence_77 (isF (by decide +kernel)) rfl rfl rfl ?_
          refine ev_z_le (tgt := 96) eX12_sentence_80 (by decide) (fun hc16 => ?_) (fun hc16 => ?_)
          · rw [if_pos (show (C15 12 47) ≤ 0 from hc16)] at h
            refine ev_ic eX12_sentence_96 (by decide) ?_
            refine ev_is (L' := [(1, .inl 0), (0, .inr (.inl 12))]) eX12_sentence_97 (by decide) rfl ?_
            refine ev_goto (tgt := 48) eX12_sentence_98 (by decide) ?_
            refine ev_loc (L' := [(0, .inr (.inl 12)), (1, .inl 0)]) rfl ?_
            exact m_12_sentence_L48 hU n h
          · rw [if_neg (show ¬ ((C15 12 47) ≤ 0) from hc16)] at h
            refine ev_al eX12_sentence_83 rfl ?_
            refine ev_ic eX12_sentence_84 (by decide) ?_
            obtain ⟨r17, C17, hq17, h⟩ := ev_bd_some h
            refine ev_callV (kc := kc_205) (A := [.inl 1]) (T := []) (lk_m.1 _ _ 0 [205] (isM (by decide +kernel)) 205 (by decide)) eX12_sentence_85 (m_12_bad hU hq17) rfl rfl rfl (by decide) (by decide) (Nat.le_of_ble_eq_true rfl) ?_
            rintro _ C17 ⟨rfl, rfl⟩
            show ev_W l D cys ty ck_tags ev_TR kc_348 88 [(0, .inr (.inl 12)), (1, .inl y1)] [.inl r17] C17 _
            refine ev_pop eX12_sentence_88 rfl ?_
            refine ev_ic eX12_sentence_89 (by decide) ?_
            refine ev_al eX12_sentence_90 rfl ?_
            refine ev_getI lk_f (ci := 12) (j := 16) (cd := 0) eX12_sentence_91 (isF (by decide +kernel)) rfl rfl rfl ?_
            refine ev_sub eX12_sentence_94 ?_
            cases h
            exact ev_iret eX12_sentence_95 rfl ⟨rfl, rfl⟩
set_option maxRecDepth 100000 in
theorem m_12_sentence (hU : ev_uq ty ev_TR) {C : ev_C} {r : Int} {C' : ev_C} (h : f_12_sentence C = some (r, C')) : ev_Met l D cys ty ck_tags ev_TR kc_348 [.inr (.inl 12)] C (fun r0 C0 => r0 = some (.inl r) ∧ C0 = C') := by
  unfold f_12_sentence at h
  refine ev_enter (by decide +kernel) (by decide +kernel) (Nat.le_of_ble_eq_true rfl) ?_
  show ev_W l D cys ty ck_tags ev_TR kc_348 0 [(0, .inr (.inl 12))] [] C _
  refine ev_al eX12_sentence_0 rfl ?_
  refine ev_ic eX12_sentence_1 (by decide) ?_
  refine ev_putI lk_f hU (ci := 12) (j := 0) (cd := 0) eX12_sentence_2 (isF (by decide +kernel)) rfl rfl (Or.inl rfl) rfl ?_
  refine ev_al eX12_sentence_5 rfl ?_
  refine ev_sp eX12_sentence_6 (by decide) (by decide) ?_
  obtain ⟨C1, hq1, h⟩ := ev_bv_some h
  refine ev_callV (kc := kc_241) (A := [.inl 200]) (T := []) (lk_m.1 _ _ 0 [241] (isM (by decide +kernel)) 241 (by decide)) eX12_sentence_9 (m_12_taken hU hq1) rfl rfl rfl (by decide) (by decide) (Nat.le_of_ble_eq_true rfl) ?_
  rintro _ C1 ⟨rfl, rfl⟩
  show ev_W l D cys ty ck_tags ev_TR kc_348 12 [(0, .inr (.inl 12))] [] C1 _
  refine ev_al eX12_sentence_12 rfl ?_
  refine ev_ic eX12_sentence_13 (by decide) ?_
  refine ev_putI lk_f hU (ci := 12) (j := 15) (cd := 0) eX12_sentence_14 (isF (by decide +kernel)) rfl rfl (Or.inl rfl) rfl ?_
  refine ev_al eX12_sentence_17 rfl ?_
  refine ev_ic eX12_sentence_18 (by decide) ?_
  refine ev_putI lk_f hU (ci := 12) (j := 45) (cd := 0) eX12_sentence_19 (isF (by decide +kernel)) rfl rfl (Or.inl rfl) rfl ?_
  refine ev_al eX12_sentence_22 rfl ?_
  refine ev_ic eX12_sentence_23 (by decide) ?_
  refine ev_putI lk_f hU (ci := 12) (j := 46) (cd := 0) eX12_sentence_24 (isF (by decide +kernel)) rfl rfl (Or.inl rfl) rfl ?_
  refine ev_al eX12_sentence_27 rfl ?_
  refine ev_ic eX12_sentence_28 (by decide) ?_
  refine ev_putI lk_f hU (ci := 12) (j := 47) (cd := 0) eX12_sentence_29 (isF (by decide +kernel)) rfl rfl (Or.inl rfl) rfl ?_
  refine ev_al eX12_sentence_32 rfl ?_
  refine ev_ic eX12_sentence_33 (by decide) ?_
  refine ev_putI lk_f hU (ci := 12) (j := 48) (cd := 0) eX12_sentence_34 (isF (by decide +kernel)) rfl rfl (Or.inl rfl) rfl ?_
  refine ev_al eX12_sentence_37 rfl ?_
  refine ev_ic eX12_sentence_38 (by decide) ?_
  refine ev_putI lk_f hU (ci := 12) (j := 49) (cd := 1) eX12_sentence_39 (isF (by decide +kernel)) rfl rfl (Or.inr ⟨rfl, by decide, by decide⟩) rfl ?_
  refine ev_al eX12_sentence_42 rfl ?_
  obtain ⟨C2, hq2, h⟩ := ev_bv_some h
  refine ev_callV (kc := kc_209) (A := []) (T := []) (lk_m.1 _ _ 0 [209] (isM (by decide +kernel)) 209 (by decide)) eX12_sentence_43 (m_12_go hU hq2) rfl rfl rfl (by decide) (by decide) (Nat.le_of_ble_eq_true rfl) ?_
  rintro _ C2 ⟨rfl, rfl⟩
  show ev_W l D cys ty ck_tags ev_TR kc_348 46 [(0, .inr (.inl 12))] [] C2 _
  refine ev_ic eX12_sentence_46 (by decide) ?_
  refine ev_is (L' := [(1, .inl 1), (0, .inr (.inl 12))]) eX12_sentence_47 (by decide) rfl ?_
  refine ev_loc (L' := [(0, .inr (.inl 12)), (1, .inl 1)]) rfl ?_
  exact m_12_sentence_L48 hU 1000 h
end GX
