/-! THE EXACT LOGIC: the class's reader (printed by a program of ours). -/
section GX
variable {l : Launch} {D : va_G} {cys : Nat → ClassId} {ty : Nat → Option Nat}
theorem eX10_byteAt_0 : decode cX10_byteAt 0 = .ok (.iload_n 1, 1) := by decide +kernel
theorem eX10_byteAt_1 : decode cX10_byteAt 1 = .ok (.ifCond .lt 25, 3) := by decide +kernel
theorem eX10_byteAt_4 : decode cX10_byteAt 4 = .ok (.iload_n 1, 1) := by decide +kernel
theorem eX10_byteAt_5 : decode cX10_byteAt 5 = .ok (.aload_n 0, 1) := by decide +kernel
theorem eX10_byteAt_6 : decode cX10_byteAt 6 = .ok (.getfield 9, 3) := by decide +kernel
theorem eX10_byteAt_9 : decode cX10_byteAt 9 = .ok (.arraylength, 1) := by decide +kernel
theorem eX10_byteAt_10 : decode cX10_byteAt 10 = .ok (.if_icmp .ge 16, 3) := by decide +kernel
theorem eX10_byteAt_13 : decode cX10_byteAt 13 = .ok (.aload_n 0, 1) := by decide +kernel
theorem eX10_byteAt_14 : decode cX10_byteAt 14 = .ok (.getfield 9, 3) := by decide +kernel
theorem eX10_byteAt_17 : decode cX10_byteAt 17 = .ok (.iload_n 1, 1) := by decide +kernel
theorem eX10_byteAt_18 : decode cX10_byteAt 18 = .ok (.baload, 1) := by decide +kernel
theorem eX10_byteAt_19 : decode cX10_byteAt 19 = .ok (.sipush 255, 3) := by decide +kernel
theorem eX10_byteAt_22 : decode cX10_byteAt 22 = .ok (.iand, 1) := by decide +kernel
theorem eX10_byteAt_23 : decode cX10_byteAt 23 = .ok (.goto 4, 3) := by decide +kernel
theorem eX10_byteAt_26 : decode cX10_byteAt 26 = .ok (.iconst 0, 1) := by decide +kernel
theorem eX10_byteAt_27 : decode cX10_byteAt 27 = .ok (.ireturn, 1) := by decide +kernel
set_option maxRecDepth 100000 in
theorem m_10_byteAt (hU : ev_uq ty ev_TR) {C : ev_C} {x1 : Int} {r : Int} {C' : ev_C} (h : f_10_byteAt C x1 = some (r, C')) : ev_Met l D cys ty ck_tags ev_TR kc_55 [.inr (.inl 10), .inl x1] C (fun r0 C0 => r0 = some (.inl r) ∧ C0 = C') := by
  unfold f_10_byteAt at h
  refine ev_enter (by decide +kernel) (by decide +kernel) (Nat.le_of_ble_eq_true rfl) ?_
  show ev_W l D cys ty ck_tags ev_TR kc_55 0 [(0, .inr (.inl 10)), (1, .inl x1)] [] C _
  refine ev_il eX10_byteAt_0 rfl ?_
  refine ev_z_lt (tgt := 26) eX10_byteAt_1 (by decide) (fun hc1 => ?_) (fun hc1 => ?_)
  · rw [if_pos (show x1 < 0 from hc1)] at h
    refine ev_ic eX10_byteAt_26 (by decide) ?_
    cases h
    exact ev_iret eX10_byteAt_27 rfl ⟨rfl, rfl⟩
  · rw [if_neg (show ¬ (x1 < 0) from hc1)] at h
    refine ev_il eX10_byteAt_4 rfl ?_
    refine ev_al eX10_byteAt_5 rfl ?_
    refine ev_getR lk_f (ci := 10) (j := 0) (cd := 3) eX10_byteAt_6 (isF (by decide +kernel)) rfl rfl ?_
    refine ev_alen (v := 940) eX10_byteAt_9 rfl (by decide) rfl ?_
    refine ev_c_ge (tgt := 26) eX10_byteAt_10 (by decide) (fun hc2 => ?_) (fun hc2 => ?_)
    · rw [if_pos (show 940 ≤ x1 from hc2)] at h
      refine ev_ic eX10_byteAt_26 (by decide) ?_
      cases h
      exact ev_iret eX10_byteAt_27 rfl ⟨rfl, rfl⟩
    · rw [if_neg (show ¬ (940 ≤ x1) from hc2)] at h
      refine ev_al eX10_byteAt_13 rfl ?_
      refine ev_getR lk_f (ci := 10) (j := 0) (cd := 3) eX10_byteAt_14 (isF (by decide +kernel)) rfl rfl ?_
      refine ev_il eX10_byteAt_17 rfl ?_
      obtain ⟨hb3, h⟩ := ev_gd h
      refine ev_bald eX10_byteAt_18 rfl rfl hb3.1 hb3.2 ?_
      refine ev_sp eX10_byteAt_19 (by decide) (by decide) ?_
      refine ev_iand eX10_byteAt_22 ?_
      refine ev_goto (tgt := 27) eX10_byteAt_23 (by decide) ?_
      cases h
      exact ev_iret eX10_byteAt_27 rfl ⟨rfl, rfl⟩
theorem eX8_isLetter_0 : decode cX8_isLetter 0 = .ok (.iload_n 0, 1) := by decide +kernel
theorem eX8_isLetter_1 : decode cX8_isLetter 1 = .ok (.bipush 97, 2) := by decide +kernel
theorem eX8_isLetter_3 : decode cX8_isLetter 3 = .ok (.if_icmp .lt 13, 3) := by decide +kernel
theorem eX8_isLetter_6 : decode cX8_isLetter 6 = .ok (.iload_n 0, 1) := by decide +kernel
theorem eX8_isLetter_7 : decode cX8_isLetter 7 = .ok (.bipush 122, 2) := by decide +kernel
theorem eX8_isLetter_9 : decode cX8_isLetter 9 = .ok (.if_icmp .gt 7, 3) := by decide +kernel
theorem eX8_isLetter_12 : decode cX8_isLetter 12 = .ok (.iconst 1, 1) := by decide +kernel
theorem eX8_isLetter_13 : decode cX8_isLetter 13 = .ok (.goto 4, 3) := by decide +kernel
theorem eX8_isLetter_16 : decode cX8_isLetter 16 = .ok (.iconst 0, 1) := by decide +kernel
theorem eX8_isLetter_17 : decode cX8_isLetter 17 = .ok (.ireturn, 1) := by decide +kernel
set_option maxRecDepth 100000 in
theorem m_8_isLetter (hU : ev_uq ty ev_TR) {C : ev_C} {x0 : Int} {r : Int} {C' : ev_C} (h : f_8_isLetter C x0 = some (r, C')) : ev_Met l D cys ty ck_tags ev_TR kc_52 [.inl x0] C (fun r0 C0 => r0 = some (.inl r) ∧ C0 = C') := by
  unfold f_8_isLetter at h
  refine ev_enter (by decide +kernel) (by decide +kernel) (Nat.le_of_ble_eq_true rfl) ?_
  show ev_W l D cys ty ck_tags ev_TR kc_52 0 [(0, .inl x0)] [] C _
  refine ev_il eX8_isLetter_0 rfl ?_
  refine ev_bp eX8_isLetter_1 (by decide) (by decide) ?_
  refine ev_c_lt (tgt := 16) eX8_isLetter_3 (by decide) (fun hc1 => ?_) (fun hc1 => ?_)
  · rw [if_pos (show x0 < 97 from hc1)] at h
    refine ev_ic eX8_isLetter_16 (by decide) ?_
    cases h
    exact ev_zret eX8_isLetter_17 rfl (by decide) ⟨rfl, rfl⟩
  · rw [if_neg (show ¬ (x0 < 97) from hc1)] at h
    refine ev_il eX8_isLetter_6 rfl ?_
    refine ev_bp eX8_isLetter_7 (by decide) (by decide) ?_
    refine ev_c_gt (tgt := 16) eX8_isLetter_9 (by decide) (fun hc2 => ?_) (fun hc2 => ?_)
    · rw [if_pos (show 122 < x0 from hc2)] at h
      refine ev_ic eX8_isLetter_16 (by decide) ?_
      cases h
      exact ev_zret eX8_isLetter_17 rfl (by decide) ⟨rfl, rfl⟩
    · rw [if_neg (show ¬ (122 < x0) from hc2)] at h
      refine ev_ic eX8_isLetter_12 (by decide) ?_
      refine ev_goto (tgt := 17) eX8_isLetter_13 (by decide) ?_
      cases h
      exact ev_zret eX8_isLetter_17 rfl (by decide) ⟨rfl, rfl⟩
theorem eX8_indexOf_0 : decode cX8_indexOf 0 = .ok (.iconst 0, 1) := by decide +kernel
theorem eX8_indexOf_1 : decode cX8_indexOf 1 = .ok (.istore 4, 2) := by decide +kernel
theorem eX8_indexOf_3 : decode cX8_indexOf 3 = .ok (.iload 4, 2) := by decide +kernel
theorem eX8_indexOf_5 : decode cX8_indexOf 5 = .ok (.iload_n 1, 1) := by decide +kernel
theorem eX8_indexOf_6 : decode cX8_indexOf 6 = .ok (.if_icmp .ge 28, 3) := by decide +kernel
theorem eX8_indexOf_9 : decode cX8_indexOf 9 = .ok (.iload 4, 2) := by decide +kernel
theorem eX8_indexOf_11 : decode cX8_indexOf 11 = .ok (.aload_n 0, 1) := by decide +kernel
theorem eX8_indexOf_12 : decode cX8_indexOf 12 = .ok (.arraylength, 1) := by decide +kernel
theorem eX8_indexOf_13 : decode cX8_indexOf 13 = .ok (.if_icmp .ge 21, 3) := by decide +kernel
theorem eX8_indexOf_16 : decode cX8_indexOf 16 = .ok (.aload_n 0, 1) := by decide +kernel
theorem eX8_indexOf_17 : decode cX8_indexOf 17 = .ok (.iload 4, 2) := by decide +kernel
theorem eX8_indexOf_19 : decode cX8_indexOf 19 = .ok (.laload, 1) := by decide +kernel
theorem eX8_indexOf_20 : decode cX8_indexOf 20 = .ok (.lload_n 2, 1) := by decide +kernel
theorem eX8_indexOf_21 : decode cX8_indexOf 21 = .ok (.lcmp, 1) := by decide +kernel
theorem eX8_indexOf_22 : decode cX8_indexOf 22 = .ok (.ifCond .ne 6, 3) := by decide +kernel
theorem eX8_indexOf_25 : decode cX8_indexOf 25 = .ok (.iload 4, 2) := by decide +kernel
theorem eX8_indexOf_27 : decode cX8_indexOf 27 = .ok (.ireturn, 1) := by decide +kernel
theorem eX8_indexOf_28 : decode cX8_indexOf 28 = .ok (.iinc 4 1, 3) := by decide +kernel
theorem eX8_indexOf_31 : decode cX8_indexOf 31 = .ok (.goto (-28), 3) := by decide +kernel
theorem eX8_indexOf_34 : decode cX8_indexOf 34 = .ok (.iconst (-1), 1) := by decide +kernel
theorem eX8_indexOf_35 : decode cX8_indexOf 35 = .ok (.ireturn, 1) := by decide +kernel
set_option maxRecDepth 100000 in
theorem m_8_indexOf_16_L3 (hU : ev_uq ty ev_TR) : ∀ (n : Nat) {C : ev_C} {y1 y2 y4 : Int} {r : Int} {C' : ev_C}, f_8_indexOf_16_L3 n C y1 y2 y4 = some (r, C') → ev_W l D cys ty ck_tags ev_TR kc_40 3 [(0, .inr (.inl 16)), (1, .inl y1), (2, .inr (.inr y2)), (4, .inl y4)] [] C (fun r0 C0 => r0 = some (.inl r) ∧ C0 = C')
  | 0, _, _, _, _, _, _, h => by cases h
  | n + 1, C, y1, y2, y4, _, _, h => by
    unfold f_8_indexOf_16_L3 at h
    refine ev_ilw eX8_indexOf_3 rfl ?_
    refine ev_il eX8_indexOf_5 rfl ?_
    refine ev_c_ge (tgt := 34) eX8_indexOf_6 (by decide) (fun hc1 => ?_) (fun hc1 => ?_)
    · rw [if_pos (show y1 ≤ y4 from hc1)] at h
      refine ev_ic eX8_indexOf_34 (by decide) ?_
      cases h
      exact ev_iret eX8_indexOf_35 rfl ⟨rfl, rfl⟩
    · rw [if_neg (show ¬ (y1 ≤ y4) from hc1)] at h
      refine ev_ilw eX8_indexOf_9 rfl ?_
      refine ev_al eX8_indexOf_11 rfl ?_
      refine ev_alen (v := 27) eX8_indexOf_12 rfl (by decide) rfl ?_
      refine ev_c_ge (tgt := 34) eX8_indexOf_13 (by decide) (fun hc2 => ?_) (fun hc2 => ?_)
      · rw [if_pos (show 27 ≤ y4 from hc2)] at h
        refine ev_ic eX8_indexOf_34 (by decide) ?_
        cases h
        exact ev_iret eX8_indexOf_35 rfl ⟨rfl, rfl⟩
      · rw [if_neg (show ¬ (27 ≤ y4) from hc2)] at h
        refine ev_al eX8_indexOf_16 rfl ?_
        refine ev_ilw eX8_indexOf_17 rfl ?_
        obtain ⟨hb3, h⟩ := ev_gd h
        refine ev_lald eX8_indexOf_19 rfl rfl hb3.1 hb3.2 ?_
        refine ev_ll eX8_indexOf_20 rfl ?_
        refine ev_lcmp eX8_indexOf_21 ?_
        refine ev_z_ne (tgt := 28) eX8_indexOf_22 (by decide) (fun hc4 => ?_) (fun hc4 => ?_)
        · rw [if_pos (show ev_cmp ((C 16 (Int.toNat y4))) y2 ≠ 0 from hc4)] at h
          refine ev_inc (L' := [(4, .inl (ev_w (y4 + 1))), (0, .inr (.inl 16)), (1, .inl y1), (2, .inr (.inr y2))]) eX8_indexOf_28 (by decide) (by decide) rfl rfl ?_
          refine ev_goto (tgt := 3) eX8_indexOf_31 (by decide) ?_
          refine ev_loc (L' := [(0, .inr (.inl 16)), (1, .inl y1), (2, .inr (.inr y2)), (4, .inl (ev_w (y4 + 1)))]) rfl ?_
          exact m_8_indexOf_16_L3 hU n h
        · rw [if_neg (show ¬ (ev_cmp ((C 16 (Int.toNat y4))) y2 ≠ 0) from hc4)] at h
          refine ev_ilw eX8_indexOf_25 rfl ?_
          cases h
          exact ev_iret eX8_indexOf_27 rfl ⟨rfl, rfl⟩
set_option maxRecDepth 100000 in
theorem m_8_indexOf_16 (hU : ev_uq ty ev_TR) {C : ev_C} {x1 x2 : Int} {r : Int} {C' : ev_C} (h : f_8_indexOf_16 C x1 x2 = some (r, C')) : ev_Met l D cys ty ck_tags ev_TR kc_40 [.inr (.inl 16), .inl x1, .inr (.inr x2)] C (fun r0 C0 => r0 = some (.inl r) ∧ C0 = C') := by
  unfold f_8_indexOf_16 at h
  refine ev_enter (by decide +kernel) (by decide +kernel) (Nat.le_of_ble_eq_true rfl) ?_
  show ev_W l D cys ty ck_tags ev_TR kc_40 0 [(0, .inr (.inl 16)), (1, .inl x1), (2, .inr (.inr x2))] [] C _
  refine ev_ic eX8_indexOf_0 (by decide) ?_
  refine ev_isw (L' := [(4, .inl 0), (0, .inr (.inl 16)), (1, .inl x1), (2, .inr (.inr x2))]) eX8_indexOf_1 (by decide) rfl ?_
  refine ev_loc (L' := [(0, .inr (.inl 16)), (1, .inl x1), (2, .inr (.inr x2)), (4, .inl 0)]) rfl ?_
  exact m_8_indexOf_16_L3 hU 1000 h
theorem eX8_isDigit_0 : decode cX8_isDigit 0 = .ok (.iload_n 0, 1) := by decide +kernel
theorem eX8_isDigit_1 : decode cX8_isDigit 1 = .ok (.bipush 48, 2) := by decide +kernel
theorem eX8_isDigit_3 : decode cX8_isDigit 3 = .ok (.if_icmp .lt 13, 3) := by decide +kernel
theorem eX8_isDigit_6 : decode cX8_isDigit 6 = .ok (.iload_n 0, 1) := by decide +kernel
theorem eX8_isDigit_7 : decode cX8_isDigit 7 = .ok (.bipush 57, 2) := by decide +kernel
theorem eX8_isDigit_9 : decode cX8_isDigit 9 = .ok (.if_icmp .gt 7, 3) := by decide +kernel
theorem eX8_isDigit_12 : decode cX8_isDigit 12 = .ok (.iconst 1, 1) := by decide +kernel
theorem eX8_isDigit_13 : decode cX8_isDigit 13 = .ok (.goto 4, 3) := by decide +kernel
theorem eX8_isDigit_16 : decode cX8_isDigit 16 = .ok (.iconst 0, 1) := by decide +kernel
theorem eX8_isDigit_17 : decode cX8_isDigit 17 = .ok (.ireturn, 1) := by decide +kernel
set_option maxRecDepth 100000 in
theorem m_8_isDigit (hU : ev_uq ty ev_TR) {C : ev_C} {x0 : Int} {r : Int} {C' : ev_C} (h : f_8_isDigit C x0 = some (r, C')) : ev_Met l D cys ty ck_tags ev_TR kc_51 [.inl x0] C (fun r0 C0 => r0 = some (.inl r) ∧ C0 = C') := by
  unfold f_8_isDigit at h
  refine ev_enter (by decide +kernel) (by decide +kernel) (Nat.le_of_ble_eq_true rfl) ?_
  show ev_W l D cys ty ck_tags ev_TR kc_51 0 [(0, .inl x0)] [] C _
  refine ev_il eX8_isDigit_0 rfl ?_
  refine ev_bp eX8_isDigit_1 (by decide) (by decide) ?_
  refine ev_c_lt (tgt := 16) eX8_isDigit_3 (by decide) (fun hc1 => ?_) (fun hc1 => ?_)
  · rw [if_pos (show x0 < 48 from hc1)] at h
    refine ev_ic eX8_isDigit_16 (by decide) ?_
    cases h
    exact ev_zret eX8_isDigit_17 rfl (by decide) ⟨rfl, rfl⟩
  · rw [if_neg (show ¬ (x0 < 48) from hc1)] at h
    refine ev_il eX8_isDigit_6 rfl ?_
    refine ev_bp eX8_isDigit_7 (by decide) (by decide) ?_
    refine ev_c_gt (tgt := 16) eX8_isDigit_9 (by decide) (fun hc2 => ?_) (fun hc2 => ?_)
    · rw [if_pos (show 57 < x0 from hc2)] at h
      refine ev_ic eX8_isDigit_16 (by decide) ?_
      cases h
      exact ev_zret eX8_isDigit_17 rfl (by decide) ⟨rfl, rfl⟩
    · rw [if_neg (show ¬ (57 < x0) from hc2)] at h
      refine ev_ic eX8_isDigit_12 (by decide) ?_
      refine ev_goto (tgt := 17) eX8_isDigit_13 (by decide) ?_
      cases h
      exact ev_zret eX8_isDigit_17 rfl (by decide) ⟨rfl, rfl⟩
theorem eX8_withLetter_0 : decode cX8_withLetter 0 = .ok (.lload_n 0, 1) := by decide +kernel
theorem eX8_withLetter_1 : decode cX8_withLetter 1 = .ok (.ldc2_w 71, 3) := by decide +kernel
theorem eX8_withLetter_4 : decode cX8_withLetter 4 = .ok (.lmul, 1) := by decide +kernel
theorem eX8_withLetter_5 : decode cX8_withLetter 5 = .ok (.iload_n 2, 1) := by decide +kernel
theorem eX8_withLetter_6 : decode cX8_withLetter 6 = .ok (.bipush 97, 2) := by decide +kernel
theorem eX8_withLetter_8 : decode cX8_withLetter 8 = .ok (.isub, 1) := by decide +kernel
theorem eX8_withLetter_9 : decode cX8_withLetter 9 = .ok (.iconst 1, 1) := by decide +kernel
theorem eX8_withLetter_10 : decode cX8_withLetter 10 = .ok (.iadd, 1) := by decide +kernel
theorem eX8_withLetter_11 : decode cX8_withLetter 11 = .ok (.i2l, 1) := by decide +kernel
theorem eX8_withLetter_12 : decode cX8_withLetter 12 = .ok (.ladd, 1) := by decide +kernel
theorem eX8_withLetter_13 : decode cX8_withLetter 13 = .ok (.lreturn, 1) := by decide +kernel
set_option maxRecDepth 100000 in
theorem m_8_withLetter (hU : ev_uq ty ev_TR) {C : ev_C} {x0 x2 : Int} {r : Int} {C' : ev_C} (h : f_8_withLetter C x0 x2 = some (r, C')) : ev_Met l D cys ty ck_tags ev_TR kc_54 [.inr (.inr x0), .inl x2] C (fun r0 C0 => r0 = some (.inr (.inr r)) ∧ C0 = C') := by
  unfold f_8_withLetter at h
  refine ev_enter (by decide +kernel) (by decide +kernel) (Nat.le_of_ble_eq_true rfl) ?_
  show ev_W l D cys ty ck_tags ev_TR kc_54 0 [(0, .inr (.inr x0)), (2, .inl x2)] [] C _
  refine ev_ll eX8_withLetter_0 rfl ?_
  refine ev_ldc2 (x := 32) (v := 32) eX8_withLetter_1 (in_r6 _ (List.mem_of_getElem? (i := 17) rfl)) (by decide +kernel) ?_
  refine ev_lmul eX8_withLetter_4 ?_
  refine ev_il eX8_withLetter_5 rfl ?_
  refine ev_bp eX8_withLetter_6 (by decide) (by decide) ?_
  refine ev_sub eX8_withLetter_8 ?_
  refine ev_ic eX8_withLetter_9 (by decide) ?_
  refine ev_add eX8_withLetter_10 ?_
  refine ev_i2l eX8_withLetter_11 ?_
  refine ev_ladd eX8_withLetter_12 ?_
  cases h
  exact ev_lret eX8_withLetter_13 rfl ⟨rfl, rfl⟩
theorem eX8_readRun_0 : decode cX8_readRun 0 = .ok (.iconst 0, 1) := by decide +kernel
theorem eX8_readRun_1 : decode cX8_readRun 1 = .ok (.istore_n 1, 1) := by decide +kernel
theorem eX8_readRun_2 : decode cX8_readRun 2 = .ok (.iconst 0, 1) := by decide +kernel
theorem eX8_readRun_3 : decode cX8_readRun 3 = .ok (.istore_n 2, 1) := by decide +kernel
theorem eX8_readRun_4 : decode cX8_readRun 4 = .ok (.aload_n 0, 1) := by decide +kernel
theorem eX8_readRun_5 : decode cX8_readRun 5 = .ok (.lconst 0, 1) := by decide +kernel
theorem eX8_readRun_6 : decode cX8_readRun 6 = .ok (.putfield 37, 3) := by decide +kernel
theorem eX8_readRun_9 : decode cX8_readRun 9 = .ok (.aload_n 0, 1) := by decide +kernel
theorem eX8_readRun_10 : decode cX8_readRun 10 = .ok (.iconst 0, 1) := by decide +kernel
theorem eX8_readRun_11 : decode cX8_readRun 11 = .ok (.putfield 31, 3) := by decide +kernel
theorem eX8_readRun_14 : decode cX8_readRun 14 = .ok (.aload_n 0, 1) := by decide +kernel
theorem eX8_readRun_15 : decode cX8_readRun 15 = .ok (.getfield 22, 3) := by decide +kernel
theorem eX8_readRun_18 : decode cX8_readRun 18 = .ok (.aload_n 0, 1) := by decide +kernel
theorem eX8_readRun_19 : decode cX8_readRun 19 = .ok (.getfield 12, 3) := by decide +kernel
theorem eX8_readRun_22 : decode cX8_readRun 22 = .ok (.getfield 76, 3) := by decide +kernel
theorem eX8_readRun_25 : decode cX8_readRun 25 = .ok (.if_icmp .ge 79, 3) := by decide +kernel
theorem eX8_readRun_28 : decode cX8_readRun 28 = .ok (.aload_n 0, 1) := by decide +kernel
theorem eX8_readRun_29 : decode cX8_readRun 29 = .ok (.getfield 12, 3) := by decide +kernel
theorem eX8_readRun_32 : decode cX8_readRun 32 = .ok (.aload_n 0, 1) := by decide +kernel
theorem eX8_readRun_33 : decode cX8_readRun 33 = .ok (.getfield 22, 3) := by decide +kernel
theorem eX8_readRun_36 : decode cX8_readRun 36 = .ok (.invokevirtual 78, 3) := by decide +kernel
theorem eX8_readRun_39 : decode cX8_readRun 39 = .ok (.istore_n 3, 1) := by decide +kernel
theorem eX8_readRun_40 : decode cX8_readRun 40 = .ok (.iload_n 3, 1) := by decide +kernel
theorem eX8_readRun_41 : decode cX8_readRun 41 = .ok (.invokestatic 86, 3) := by decide +kernel
theorem eX8_readRun_44 : decode cX8_readRun 44 = .ok (.ifCond .eq 21, 3) := by decide +kernel
theorem eX8_readRun_47 : decode cX8_readRun 47 = .ok (.iinc 1 1, 3) := by decide +kernel
theorem eX8_readRun_50 : decode cX8_readRun 50 = .ok (.aload_n 0, 1) := by decide +kernel
theorem eX8_readRun_51 : decode cX8_readRun 51 = .ok (.aload_n 0, 1) := by decide +kernel
theorem eX8_readRun_52 : decode cX8_readRun 52 = .ok (.getfield 37, 3) := by decide +kernel
theorem eX8_readRun_55 : decode cX8_readRun 55 = .ok (.iload_n 3, 1) := by decide +kernel
theorem eX8_readRun_56 : decode cX8_readRun 56 = .ok (.invokestatic 67, 3) := by decide +kernel
theorem eX8_readRun_59 : decode cX8_readRun 59 = .ok (.putfield 37, 3) := by decide +kernel
theorem eX8_readRun_62 : decode cX8_readRun 62 = .ok (.goto 29, 3) := by decide +kernel
theorem eX8_readRun_65 : decode cX8_readRun 65 = .ok (.iload_n 3, 1) := by decide +kernel
theorem eX8_readRun_66 : decode cX8_readRun 66 = .ok (.invokestatic 89, 3) := by decide +kernel
theorem eX8_readRun_69 : decode cX8_readRun 69 = .ok (.ifCond .eq 35, 3) := by decide +kernel
theorem eX8_readRun_72 : decode cX8_readRun 72 = .ok (.iinc 2 1, 3) := by decide +kernel
theorem eX8_readRun_75 : decode cX8_readRun 75 = .ok (.aload_n 0, 1) := by decide +kernel
theorem eX8_readRun_76 : decode cX8_readRun 76 = .ok (.aload_n 0, 1) := by decide +kernel
theorem eX8_readRun_77 : decode cX8_readRun 77 = .ok (.getfield 31, 3) := by decide +kernel
theorem eX8_readRun_80 : decode cX8_readRun 80 = .ok (.bipush 10, 2) := by decide +kernel
theorem eX8_readRun_82 : decode cX8_readRun 82 = .ok (.imul, 1) := by decide +kernel
theorem eX8_readRun_83 : decode cX8_readRun 83 = .ok (.iload_n 3, 1) := by decide +kernel
theorem eX8_readRun_84 : decode cX8_readRun 84 = .ok (.bipush 48, 2) := by decide +kernel
theorem eX8_readRun_86 : decode cX8_readRun 86 = .ok (.isub, 1) := by decide +kernel
theorem eX8_readRun_87 : decode cX8_readRun 87 = .ok (.iadd, 1) := by decide +kernel
theorem eX8_readRun_88 : decode cX8_readRun 88 = .ok (.putfield 31, 3) := by decide +kernel
theorem eX8_readRun_91 : decode cX8_readRun 91 = .ok (.aload_n 0, 1) := by decide +kernel
theorem eX8_readRun_92 : decode cX8_readRun 92 = .ok (.dup, 1) := by decide +kernel
theorem eX8_readRun_93 : decode cX8_readRun 93 = .ok (.getfield 22, 3) := by decide +kernel
theorem eX8_readRun_96 : decode cX8_readRun 96 = .ok (.iconst 1, 1) := by decide +kernel
theorem eX8_readRun_97 : decode cX8_readRun 97 = .ok (.iadd, 1) := by decide +kernel
theorem eX8_readRun_98 : decode cX8_readRun 98 = .ok (.putfield 22, 3) := by decide +kernel
theorem eX8_readRun_101 : decode cX8_readRun 101 = .ok (.goto (-87), 3) := by decide +kernel
theorem eX8_readRun_104 : decode cX8_readRun 104 = .ok (.iload_n 2, 1) := by decide +kernel
theorem eX8_readRun_105 : decode cX8_readRun 105 = .ok (.ifCond .ne 37, 3) := by decide +kernel
theorem eX8_readRun_108 : decode cX8_readRun 108 = .ok (.iload_n 1, 1) := by decide +kernel
theorem eX8_readRun_109 : decode cX8_readRun 109 = .ok (.bipush 7, 2) := by decide +kernel
theorem eX8_readRun_111 : decode cX8_readRun 111 = .ok (.if_icmp .gt 31, 3) := by decide +kernel
theorem eX8_readRun_114 : decode cX8_readRun 114 = .ok (.aload_n 0, 1) := by decide +kernel
theorem eX8_readRun_115 : decode cX8_readRun 115 = .ok (.iconst 1, 1) := by decide +kernel
theorem eX8_readRun_116 : decode cX8_readRun 116 = .ok (.putfield 25, 3) := by decide +kernel
theorem eX8_readRun_119 : decode cX8_readRun 119 = .ok (.aload_n 0, 1) := by decide +kernel
theorem eX8_readRun_120 : decode cX8_readRun 120 = .ok (.aload_n 0, 1) := by decide +kernel
theorem eX8_readRun_121 : decode cX8_readRun 121 = .ok (.getfield 53, 3) := by decide +kernel
theorem eX8_readRun_124 : decode cX8_readRun 124 = .ok (.aload_n 0, 1) := by decide +kernel
theorem eX8_readRun_125 : decode cX8_readRun 125 = .ok (.getfield 53, 3) := by decide +kernel
theorem eX8_readRun_128 : decode cX8_readRun 128 = .ok (.arraylength, 1) := by decide +kernel
theorem eX8_readRun_129 : decode cX8_readRun 129 = .ok (.aload_n 0, 1) := by decide +kernel
theorem eX8_readRun_130 : decode cX8_readRun 130 = .ok (.getfield 37, 3) := by decide +kernel
theorem eX8_readRun_133 : decode cX8_readRun 133 = .ok (.invokestatic 98, 3) := by decide +kernel
theorem eX8_readRun_136 : decode cX8_readRun 136 = .ok (.putfield 34, 3) := by decide +kernel
theorem eX8_readRun_139 : decode cX8_readRun 139 = .ok (.goto 25, 3) := by decide +kernel
theorem eX8_readRun_142 : decode cX8_readRun 142 = .ok (.iload_n 1, 1) := by decide +kernel
theorem eX8_readRun_143 : decode cX8_readRun 143 = .ok (.ifCond .ne 16, 3) := by decide +kernel
theorem eX8_readRun_146 : decode cX8_readRun 146 = .ok (.iload_n 2, 1) := by decide +kernel
theorem eX8_readRun_147 : decode cX8_readRun 147 = .ok (.iconst 2, 1) := by decide +kernel
theorem eX8_readRun_148 : decode cX8_readRun 148 = .ok (.if_icmp .gt 11, 3) := by decide +kernel
theorem eX8_readRun_151 : decode cX8_readRun 151 = .ok (.aload_n 0, 1) := by decide +kernel
theorem eX8_readRun_152 : decode cX8_readRun 152 = .ok (.iconst 2, 1) := by decide +kernel
theorem eX8_readRun_153 : decode cX8_readRun 153 = .ok (.putfield 25, 3) := by decide +kernel
theorem eX8_readRun_156 : decode cX8_readRun 156 = .ok (.goto 8, 3) := by decide +kernel
theorem eX8_readRun_159 : decode cX8_readRun 159 = .ok (.aload_n 0, 1) := by decide +kernel
theorem eX8_readRun_160 : decode cX8_readRun 160 = .ok (.iconst 4, 1) := by decide +kernel
theorem eX8_readRun_161 : decode cX8_readRun 161 = .ok (.putfield 25, 3) := by decide +kernel
theorem eX8_readRun_164 : decode cX8_readRun 164 = .ok (.return_, 1) := by decide +kernel
set_option maxRecDepth 100000 in
theorem m_8_readRun_J142 (hU : ev_uq ty ev_TR) {C' : ev_C} {C : ev_C} {y1 y2 : Int} (h : f_8_readRun_J142 C y1 y2 = some C') : ev_W l D cys ty ck_tags ev_TR kc_56 142 [(0, .inr (.inl 8)), (1, .inl y1), (2, .inl y2)] [] C (fun r0 C0 => r0 = none ∧ C0 = C') := by
  unfold f_8_readRun_J142 at h
  refine ev_il eX8_readRun_142 rfl ?_
  refine ev_z_ne (tgt := 159) eX8_readRun_143 (by decide) (fun hc3 => ?_) (fun hc3 => ?_)
  · rw [if_pos (show y1 ≠ 0 from hc3)] at h
    refine ev_al eX8_readRun_159 rfl ?_
    refine ev_ic eX8_readRun_160 (by decide) ?_
    refine ev_putI lk_f hU (ci := 8) (j := 4) (cd := 0) eX8_readRun_161 (isF (by decide +kernel)) rfl rfl (Or.inl rfl) rfl ?_
    cases h
    exact ev_vret eX8_readRun_164 rfl ⟨rfl, rfl⟩
  · rw [if_neg (show ¬ (y1 ≠ 0) from hc3)] at h
    refine ev_il eX8_readRun_146 rfl ?_
    refine ev_ic eX8_readRun_147 (by decide) ?_
    refine ev_c_gt (tgt := 159) eX8_readRun_148 (by decide) (fun hc4 => ?_) (fun hc4 => ?_)
    · rw [if_pos (show 2 < y2 from hc4)] at h
      refine ev_al eX8_readRun_159 rfl ?_
      refine ev_ic eX8_readRun_160 (by decide) ?_
      refine ev_putI lk_f hU (ci := 8) (j := 4) (cd := 0) eX8_readRun_161 (isF (by decide +kernel)) rfl rfl (Or.inl rfl) rfl ?_
      cases h
      exact ev_vret eX8_readRun_164 rfl ⟨rfl, rfl⟩
    · rw [if_neg (show ¬ (2 < y2) from hc4)] at h
      refine ev_al eX8_readRun_151 rfl ?_
      refine ev_ic eX8_readRun_152 (by decide) ?_
      refine ev_putI lk_f hU (ci := 8) (j := 4) (cd := 0) eX8_readRun_153 (isF (by decide +kernel)) rfl rfl (Or.inl rfl) rfl ?_
      refine ev_goto (tgt := 164) eX8_readRun_156 (by decide) ?_
      cases h
      exact ev_vret eX8_readRun_164 rfl ⟨rfl, rfl⟩
set_option maxRecDepth 100000 in
theorem m_8_readRun_J104 (hU : ev_uq ty ev_TR) {C' : ev_C} {C : ev_C} {y1 y2 : Int} (h : f_8_readRun_J104 C y1 y2 = some C') : ev_W l D cys ty ck_tags ev_TR kc_56 104 [(0, .inr (.inl 8)), (1, .inl y1), (2, .inl y2)] [] C (fun r0 C0 => r0 = none ∧ C0 = C') := by
  unfold f_8_readRun_J104 at h
  refine ev_il eX8_readRun_104 rfl ?_
  refine ev_z_ne (tgt := 142) eX8_readRun_105 (by decide) (fun hc2 => ?_) (fun hc2 => ?_)
  · rw [if_pos (show y2 ≠ 0 from hc2)] at h
    refine ev_loc (L' := [(0, .inr (.inl 8)), (1, .inl y1), (2, .inl y2)]) rfl ?_
    exact m_8_readRun_J142 hU h
  · rw [if_neg (show ¬ (y2 ≠ 0) from hc2)] at h
    refine ev_il eX8_readRun_108 rfl ?_
    refine ev_bp eX8_readRun_109 (by decide) (by decide) ?_
    refine ev_c_gt (tgt := 142) eX8_readRun_111 (by decide) (fun hc5 => ?_) (fun hc5 => ?_)
    · rw [if_pos (show 7 < y1 from hc5)] at h
      refine ev_loc (L' := [(0, .inr (.inl 8)), (1, .inl y1), (2, .inl y2)]) rfl ?_
      exact m_8_readRun_J142 hU h
    · rw [if_neg (show ¬ (7 < y1) from hc5)] at h
      refine ev_al eX8_readRun_114 rfl ?_
      refine ev_ic eX8_readRun_115 (by decide) ?_
      refine ev_putI lk_f hU (ci := 8) (j := 4) (cd := 0) eX8_readRun_116 (isF (by decide +kernel)) rfl rfl (Or.inl rfl) rfl ?_
      refine ev_al eX8_readRun_119 rfl ?_
      refine ev_al eX8_readRun_120 rfl ?_
      refine ev_getR lk_f (ci := 8) (j := 0) (cd := 3) eX8_readRun_121 (isF (by decide +kernel)) rfl rfl ?_
      refine ev_al eX8_readRun_124 rfl ?_
      refine ev_getR lk_f (ci := 8) (j := 0) (cd := 3) eX8_readRun_125 (isF (by decide +kernel)) rfl rfl ?_
      refine ev_alen (v := 27) eX8_readRun_128 rfl (by decide) rfl ?_
      refine ev_al eX8_readRun_129 rfl ?_
      refine ev_getL lk_f (ci := 8) (j := 8) (cd := 2) eX8_readRun_130 (isF (by decide +kernel)) rfl rfl rfl ?_
      obtain ⟨r6, C6, hq6, h⟩ := ev_bd_some h
      refine ev_callS (kc := kc_40) (A := [.inr (.inl 16), .inl 27, .inr (.inr ((C 8 8)))]) (T := [.inr (.inl 8)]) (lk_m.1 _ _ 1 [37, 38, 39, 40, 41, 42, 43] (isM (by decide +kernel)) 40 (by decide)) eX8_readRun_133 (m_8_indexOf_16 hU hq6) rfl rfl (by decide) (by decide) (Nat.le_of_ble_eq_true rfl) ?_
      rintro _ C6 ⟨rfl, rfl⟩
      show ev_W l D cys ty ck_tags ev_TR kc_56 136 [(0, .inr (.inl 8)), (1, .inl y1), (2, .inl y2)] [.inl r6, .inr (.inl 8)] C6 _
      refine ev_putI lk_f hU (ci := 8) (j := 7) (cd := 0) eX8_readRun_136 (isF (by decide +kernel)) rfl rfl (Or.inl rfl) rfl ?_
      refine ev_goto (tgt := 164) eX8_readRun_139 (by decide) ?_
      cases h
      exact ev_vret eX8_readRun_164 rfl ⟨rfl, rfl⟩
set_option maxRecDepth 100000 in
theorem m_8_readRun_J91 (hU : ev_uq ty ev_TR) {C' : ev_C} {K14 : ev_C → Int → Int → Option ev_C} (hK14 : ∀ {C : ev_C} {y1 y2 : Int}, K14 C y1 y2 = some C' → ev_W l D cys ty ck_tags ev_TR kc_56 14 [(0, .inr (.inl 8)), (1, .inl y1), (2, .inl y2)] [] C (fun r0 C0 => r0 = none ∧ C0 = C')) {C : ev_C} {y1 y2 y3 : Int} (h : f_8_readRun_J91 K14 C y1 y2 y3 = some C') : ev_W l D cys ty ck_tags ev_TR kc_56 91 [(0, .inr (.inl 8)), (1, .inl y1), (2, .inl y2), (3, .inl y3)] [] C (fun r0 C0 => r0 = none ∧ C0 = C') := by
  unfold f_8_readRun_J91 at h
  refine ev_al eX8_readRun_91 rfl ?_
  refine ev_dup eX8_readRun_92 rfl ?_
  refine ev_getI lk_f (ci := 8) (j := 3) (cd := 0) eX8_readRun_93 (isF (by decide +kernel)) rfl rfl rfl ?_
  refine ev_ic eX8_readRun_96 (by decide) ?_
  refine ev_add eX8_readRun_97 ?_
  refine ev_putI lk_f hU (ci := 8) (j := 3) (cd := 0) eX8_readRun_98 (isF (by decide +kernel)) rfl rfl (Or.inl rfl) rfl ?_
  refine ev_goto (tgt := 14) eX8_readRun_101 (by decide) ?_
  refine ev_loc (L' := [(0, .inr (.inl 8)), (1, .inl y1), (2, .inl y2)]) rfl ?_
  exact hK14 h
set_option maxRecDepth 100000 in
theorem m_8_readRun_L14 (hU : ev_uq ty ev_TR) : ∀ (n : Nat) {C : ev_C} {y1 y2 : Int} {C' : ev_C}, f_8_readRun_L14 n C y1 y2 = some C' → ev_W l D cys ty ck_tags ev_TR kc_56 14 [(0, .inr (.inl 8)), (1, .inl y1), (2, .inl y2)] [] C (fun r0 C0 => r0 = none ∧ C0 = C')
  | 0, _, _, _, _, h => by cases h
  | n + 1, C, y1, y2, _, h => by
    unfold f_8_readRun_L14 at h
    refine ev_al eX8_readRun_14 rfl ?_
    refine ev_getI lk_f (ci := 8) (j := 3) (cd := 0) eX8_readRun_15 (isF (by decide +kernel)) rfl rfl rfl ?_
    refine ev_al eX8_readRun_18 rfl ?_
    refine ev_getR lk_f (ci := 8) (j := 1) (cd := 3) eX8_readRun_19 (isF (by decide +kernel)) rfl rfl ?_
    refine ev_getI lk_f (ci := 10) (j := 1) (cd := 0) eX8_readRun_22 (isF (by decide +kernel)) rfl rfl rfl ?_
    refine ev_c_ge (tgt := 104) eX8_readRun_25 (by decide) (fun hc1 => ?_) (fun hc1 => ?_)
    · rw [if_pos (show (C 10 1) ≤ (C 8 3) from hc1)] at h
      refine ev_loc (L' := [(0, .inr (.inl 8)), (1, .inl y1), (2, .inl y2)]) rfl ?_
      exact m_8_readRun_J104 hU h
    · rw [if_neg (show ¬ ((C 10 1) ≤ (C 8 3)) from hc1)] at h
      refine ev_al eX8_readRun_28 rfl ?_
      refine ev_getR lk_f (ci := 8) (j := 1) (cd := 3) eX8_readRun_29 (isF (by decide +kernel)) rfl rfl ?_
      refine ev_al eX8_readRun_32 rfl ?_
      refine ev_getI lk_f (ci := 8) (j := 3) (cd := 0) eX8_readRun_33 (isF (by decide +kernel)) rfl rfl rfl ?_
      obtain ⟨r7, C7, hq7, h⟩ := ev_bd_some h
      refine ev_callV (kc := kc_55) (A := [.inl ((C 8 3))]) (T := []) (lk_m.1 _ _ 0 [55] (isM (by decide +kernel)) 55 (by decide)) eX8_readRun_36 (m_10_byteAt hU hq7) rfl rfl rfl (by decide) (by decide) (Nat.le_of_ble_eq_true rfl) ?_
      rintro _ C7 ⟨rfl, rfl⟩
      show ev_W l D cys ty ck_tags ev_TR kc_56 39 [(0, .inr (.inl 8)), (1, .inl y1), (2, .inl y2)] [.inl r7] C7 _
      refine ev_is (L' := [(3, .inl r7), (0, .inr (.inl 8)), (1, .inl y1), (2, .inl y2)]) eX8_readRun_39 (by decide) rfl ?_
      refine ev_il eX8_readRun_40 rfl ?_
      obtain ⟨r8, C8, hq8, h⟩ := ev_bd_some h
      refine ev_callS (kc := kc_52) (A := [.inl r7]) (T := []) (lk_m.1 _ _ 1 [52] (isM (by decide +kernel)) 52 (by decide)) eX8_readRun_41 (m_8_isLetter hU hq8) rfl rfl (by decide) (by decide) (Nat.le_of_ble_eq_true rfl) ?_
      rintro _ C8 ⟨rfl, rfl⟩
      show ev_W l D cys ty ck_tags ev_TR kc_56 44 [(3, .inl r7), (0, .inr (.inl 8)), (1, .inl y1), (2, .inl y2)] [.inl r8] C8 _
      refine ev_z_eq (tgt := 65) eX8_readRun_44 (by decide) (fun hc9 => ?_) (fun hc9 => ?_)
      · rw [if_pos (show r8 = 0 from hc9)] at h
        refine ev_il eX8_readRun_65 rfl ?_
        obtain ⟨r10, C10, hq10, h⟩ := ev_bd_some h
        refine ev_callS (kc := kc_51) (A := [.inl r7]) (T := []) (lk_m.1 _ _ 1 [51] (isM (by decide +kernel)) 51 (by decide)) eX8_readRun_66 (m_8_isDigit hU hq10) rfl rfl (by decide) (by decide) (Nat.le_of_ble_eq_true rfl) ?_
        rintro _ C10 ⟨rfl, rfl⟩
        show ev_W l D cys ty ck_tags ev_TR kc_56 69 [(3, .inl r7), (0, .inr (.inl 8)), (1, .inl y1), (2, .inl y2)] [.inl r10] C10 _
        refine ev_z_eq (tgt := 104) eX8_readRun_69 (by decide) (fun hc11 => ?_) (fun hc11 => ?_)
        · rw [if_pos (show r10 = 0 from hc11)] at h
          refine ev_loc (L' := [(0, .inr (.inl 8)), (1, .inl y1), (2, .inl y2)]) rfl ?_
          exact m_8_readRun_J104 hU h
        · rw [if_neg (show ¬ (r10 = 0) from hc11)] at h
          refine ev_inc (L' := [(2, .inl (ev_w (y2 + 1))), (3, .inl r7), (0, .inr (.inl 8)), (1, .inl y1)]) eX8_readRun_72 (by decide) (by decide) rfl rfl ?_
          refine ev_al eX8_readRun_75 rfl ?_
          refine ev_al eX8_readRun_76 rfl ?_
          refine ev_getI lk_f (ci := 8) (j := 6) (cd := 0) eX8_readRun_77 (isF (by decide +kernel)) rfl rfl rfl ?_
          refine ev_bp eX8_readRun_80 (by decide) (by decide) ?_
          refine ev_mul eX8_readRun_82 ?_
          refine ev_il eX8_readRun_83 rfl ?_
          refine ev_bp eX8_readRun_84 (by decide) (by decide) ?_
          refine ev_sub eX8_readRun_86 ?_
          refine ev_add eX8_readRun_87 ?_
          refine ev_putI lk_f hU (ci := 8) (j := 6) (cd := 0) eX8_readRun_88 (isF (by decide +kernel)) rfl rfl (Or.inl rfl) rfl ?_
          refine ev_loc (L' := [(0, .inr (.inl 8)), (1, .inl y1), (2, .inl (ev_w (y2 + 1))), (3, .inl r7)]) rfl ?_
          exact m_8_readRun_J91 hU (fun h => m_8_readRun_L14 hU n h) h
      · rw [if_neg (show ¬ (r8 = 0) from hc9)] at h
        refine ev_inc (L' := [(1, .inl (ev_w (y1 + 1))), (3, .inl r7), (0, .inr (.inl 8)), (2, .inl y2)]) eX8_readRun_47 (by decide) (by decide) rfl rfl ?_
        refine ev_al eX8_readRun_50 rfl ?_
        refine ev_al eX8_readRun_51 rfl ?_
        refine ev_getL lk_f (ci := 8) (j := 8) (cd := 2) eX8_readRun_52 (isF (by decide +kernel)) rfl rfl rfl ?_
        refine ev_il eX8_readRun_55 rfl ?_
        obtain ⟨r12, C12, hq12, h⟩ := ev_bd_some h
        refine ev_callS (kc := kc_54) (A := [.inr (.inr ((C8 8 8))), .inl r7]) (T := [.inr (.inl 8)]) (lk_m.1 _ _ 1 [54] (isM (by decide +kernel)) 54 (by decide)) eX8_readRun_56 (m_8_withLetter hU hq12) rfl rfl (by decide) (by decide) (Nat.le_of_ble_eq_true rfl) ?_
        rintro _ C12 ⟨rfl, rfl⟩
        show ev_W l D cys ty ck_tags ev_TR kc_56 59 [(1, .inl (ev_w (y1 + 1))), (3, .inl r7), (0, .inr (.inl 8)), (2, .inl y2)] [.inr (.inr r12), .inr (.inl 8)] C12 _
        refine ev_putL lk_f hU (ci := 8) (j := 8) eX8_readRun_59 (isF (by decide +kernel)) rfl rfl rfl ?_
        refine ev_goto (tgt := 91) eX8_readRun_62 (by decide) ?_
        refine ev_loc (L' := [(0, .inr (.inl 8)), (1, .inl (ev_w (y1 + 1))), (2, .inl y2), (3, .inl r7)]) rfl ?_
        exact m_8_readRun_J91 hU (fun h => m_8_readRun_L14 hU n h) h
set_option maxRecDepth 100000 in
theorem m_8_readRun (hU : ev_uq ty ev_TR) {C : ev_C} {C' : ev_C} (h : f_8_readRun C = some C') : ev_Met l D cys ty ck_tags ev_TR kc_56 [.inr (.inl 8)] C (fun r0 C0 => r0 = none ∧ C0 = C') := by
  unfold f_8_readRun at h
  refine ev_enter (by decide +kernel) (by decide +kernel) (Nat.le_of_ble_eq_true rfl) ?_
  show ev_W l D cys ty ck_tags ev_TR kc_56 0 [(0, .inr (.inl 8))] [] C _
  refine ev_ic eX8_readRun_0 (by decide) ?_
  refine ev_is (L' := [(1, .inl 0), (0, .inr (.inl 8))]) eX8_readRun_1 (by decide) rfl ?_
  refine ev_ic eX8_readRun_2 (by decide) ?_
  refine ev_is (L' := [(2, .inl 0), (1, .inl 0), (0, .inr (.inl 8))]) eX8_readRun_3 (by decide) rfl ?_
  refine ev_al eX8_readRun_4 rfl ?_
  refine ev_lc (v := 0) eX8_readRun_5 (by decide +kernel) ?_
  refine ev_putL lk_f hU (ci := 8) (j := 8) eX8_readRun_6 (isF (by decide +kernel)) rfl rfl rfl ?_
  refine ev_al eX8_readRun_9 rfl ?_
  refine ev_ic eX8_readRun_10 (by decide) ?_
  refine ev_putI lk_f hU (ci := 8) (j := 6) (cd := 0) eX8_readRun_11 (isF (by decide +kernel)) rfl rfl (Or.inl rfl) rfl ?_
  refine ev_loc (L' := [(0, .inr (.inl 8)), (1, .inl 0), (2, .inl 0)]) rfl ?_
  exact m_8_readRun_L14 hU 1000 h
theorem eX8_isSign_0 : decode cX8_isSign 0 = .ok (.iload_n 0, 1) := by decide +kernel
theorem eX8_isSign_1 : decode cX8_isSign 1 = .ok (.bipush 59, 2) := by decide +kernel
theorem eX8_isSign_3 : decode cX8_isSign 3 = .ok (.if_icmp .eq 39, 3) := by decide +kernel
theorem eX8_isSign_6 : decode cX8_isSign 6 = .ok (.iload_n 0, 1) := by decide +kernel
theorem eX8_isSign_7 : decode cX8_isSign 7 = .ok (.bipush 60, 2) := by decide +kernel
theorem eX8_isSign_9 : decode cX8_isSign 9 = .ok (.if_icmp .eq 33, 3) := by decide +kernel
theorem eX8_isSign_12 : decode cX8_isSign 12 = .ok (.iload_n 0, 1) := by decide +kernel
theorem eX8_isSign_13 : decode cX8_isSign 13 = .ok (.bipush 61, 2) := by decide +kernel
theorem eX8_isSign_15 : decode cX8_isSign 15 = .ok (.if_icmp .eq 27, 3) := by decide +kernel
theorem eX8_isSign_18 : decode cX8_isSign 18 = .ok (.iload_n 0, 1) := by decide +kernel
theorem eX8_isSign_19 : decode cX8_isSign 19 = .ok (.bipush 62, 2) := by decide +kernel
theorem eX8_isSign_21 : decode cX8_isSign 21 = .ok (.if_icmp .eq 21, 3) := by decide +kernel
theorem eX8_isSign_24 : decode cX8_isSign 24 = .ok (.iload_n 0, 1) := by decide +kernel
theorem eX8_isSign_25 : decode cX8_isSign 25 = .ok (.bipush 40, 2) := by decide +kernel
theorem eX8_isSign_27 : decode cX8_isSign 27 = .ok (.if_icmp .eq 15, 3) := by decide +kernel
theorem eX8_isSign_30 : decode cX8_isSign 30 = .ok (.iload_n 0, 1) := by decide +kernel
theorem eX8_isSign_31 : decode cX8_isSign 31 = .ok (.bipush 41, 2) := by decide +kernel
theorem eX8_isSign_33 : decode cX8_isSign 33 = .ok (.if_icmp .eq 9, 3) := by decide +kernel
theorem eX8_isSign_36 : decode cX8_isSign 36 = .ok (.iload_n 0, 1) := by decide +kernel
theorem eX8_isSign_37 : decode cX8_isSign 37 = .ok (.bipush 46, 2) := by decide +kernel
theorem eX8_isSign_39 : decode cX8_isSign 39 = .ok (.if_icmp .ne 7, 3) := by decide +kernel
theorem eX8_isSign_42 : decode cX8_isSign 42 = .ok (.iconst 1, 1) := by decide +kernel
theorem eX8_isSign_43 : decode cX8_isSign 43 = .ok (.goto 4, 3) := by decide +kernel
theorem eX8_isSign_46 : decode cX8_isSign 46 = .ok (.iconst 0, 1) := by decide +kernel
theorem eX8_isSign_47 : decode cX8_isSign 47 = .ok (.ireturn, 1) := by decide +kernel
set_option maxRecDepth 100000 in
theorem m_8_isSign (hU : ev_uq ty ev_TR) {C : ev_C} {x0 : Int} {r : Int} {C' : ev_C} (h : f_8_isSign C x0 = some (r, C')) : ev_Met l D cys ty ck_tags ev_TR kc_53 [.inl x0] C (fun r0 C0 => r0 = some (.inl r) ∧ C0 = C') := by
  unfold f_8_isSign at h
  refine ev_enter (by decide +kernel) (by decide +kernel) (Nat.le_of_ble_eq_true rfl) ?_
  show ev_W l D cys ty ck_tags ev_TR kc_53 0 [(0, .inl x0)] [] C _
  refine ev_il eX8_isSign_0 rfl ?_
  refine ev_bp eX8_isSign_1 (by decide) (by decide) ?_
  refine ev_c_eq (tgt := 42) eX8_isSign_3 (by decide) (fun hc1 => ?_) (fun hc1 => ?_)
  · rw [if_pos (show x0 = 59 from hc1)] at h
    refine ev_ic eX8_isSign_42 (by decide) ?_
    refine ev_goto (tgt := 47) eX8_isSign_43 (by decide) ?_
    cases h
    exact ev_zret eX8_isSign_47 rfl (by decide) ⟨rfl, rfl⟩
  · rw [if_neg (show ¬ (x0 = 59) from hc1)] at h
    refine ev_il eX8_isSign_6 rfl ?_
    refine ev_bp eX8_isSign_7 (by decide) (by decide) ?_
    refine ev_c_eq (tgt := 42) eX8_isSign_9 (by decide) (fun hc2 => ?_) (fun hc2 => ?_)
    · rw [if_pos (show x0 = 60 from hc2)] at h
      refine ev_ic eX8_isSign_42 (by decide) ?_
      refine ev_goto (tgt := 47) eX8_isSign_43 (by decide) ?_
      cases h
      exact ev_zret eX8_isSign_47 rfl (by decide) ⟨rfl, rfl⟩
    · rw [if_neg (show ¬ (x0 = 60) from hc2)] at h
      refine ev_il eX8_isSign_12 rfl ?_
      refine ev_bp eX8_isSign_13 (by decide) (by decide) ?_
      refine ev_c_eq (tgt := 42) eX8_isSign_15 (by decide) (fun hc3 => ?_) (fun hc3 => ?_)
      · rw [if_pos (show x0 = 61 from hc3)] at h
        refine ev_ic eX8_isSign_42 (by decide) ?_
        refine ev_goto (tgt := 47) eX8_isSign_43 (by decide) ?_
        cases h
        exact ev_zret eX8_isSign_47 rfl (by decide) ⟨rfl, rfl⟩
      · rw [if_neg (show ¬ (x0 = 61) from hc3)] at h
        refine ev_il eX8_isSign_18 rfl ?_
        refine ev_bp eX8_isSign_19 (by decide) (by decide) ?_
        refine ev_c_eq (tgt := 42) eX8_isSign_21 (by decide) (fun hc4 => ?_) (fun hc4 => ?_)
        · rw [if_pos (show x0 = 62 from hc4)] at h
          refine ev_ic eX8_isSign_42 (by decide) ?_
          refine ev_goto (tgt := 47) eX8_isSign_43 (by decide) ?_
          cases h
          exact ev_zret eX8_isSign_47 rfl (by decide) ⟨rfl, rfl⟩
        · rw [if_neg (show ¬ (x0 = 62) from hc4)] at h
          refine ev_il eX8_isSign_24 rfl ?_
          refine ev_bp eX8_isSign_25 (by decide) (by decide) ?_
          refine ev_c_eq (tgt := 42) eX8_isSign_27 (by decide) (fun hc5 => ?_) (fun hc5 => ?_)
          · rw [if_pos (show x0 = 40 from hc5)] at h
            refine ev_ic eX8_isSign_42 (by decide) ?_
            refine ev_goto (tgt := 47) eX8_isSign_43 (by decide) ?_
            cases h
            exact ev_zret eX8_isSign_47 rfl (by decide) ⟨rfl, rfl⟩
          · rw [if_neg (show ¬ (x0 = 40) from hc5)] at h
            refine ev_il eX8_isSign_30 rfl ?_
            refine ev_bp eX8_isSign_31 (by decide) (by decide) ?_
            refine ev_c_eq (tgt := 42) eX8_isSign_33 (by decide) (fun hc6 => ?_) (fun hc6 => ?_)
            · rw [if_pos (show x0 = 41 from hc6)] at h
              refine ev_ic eX8_isSign_42 (by decide) ?_
              refine ev_goto (tgt := 47) eX8_isSign_43 (by decide) ?_
              cases h
              exact ev_zret eX8_isSign_47 rfl (by decide) ⟨rfl, rfl⟩
            · rw [if_neg (show ¬ (x0 = 41) from hc6)] at h
              refine ev_il eX8_isSign_36 rfl ?_
              refine ev_bp eX8_isSign_37 (by decide) (by decide) ?_
              refine ev_c_ne (tgt := 46) eX8_isSign_39 (by decide) (fun hc7 => ?_) (fun hc7 => ?_)
              · rw [if_pos (show x0 ≠ 46 from hc7)] at h
                refine ev_ic eX8_isSign_46 (by decide) ?_
                cases h
                exact ev_zret eX8_isSign_47 rfl (by decide) ⟨rfl, rfl⟩
              · rw [if_neg (show ¬ (x0 ≠ 46) from hc7)] at h
                refine ev_ic eX8_isSign_42 (by decide) ?_
                refine ev_goto (tgt := 47) eX8_isSign_43 (by decide) ?_
                cases h
                exact ev_zret eX8_isSign_47 rfl (by decide) ⟨rfl, rfl⟩
theorem eX8_isBlank_0 : decode cX8_isBlank 0 = .ok (.iload_n 0, 1) := by decide +kernel
theorem eX8_isBlank_1 : decode cX8_isBlank 1 = .ok (.bipush 32, 2) := by decide +kernel
theorem eX8_isBlank_3 : decode cX8_isBlank 3 = .ok (.if_icmp .eq 9, 3) := by decide +kernel
theorem eX8_isBlank_6 : decode cX8_isBlank 6 = .ok (.iload_n 0, 1) := by decide +kernel
theorem eX8_isBlank_7 : decode cX8_isBlank 7 = .ok (.bipush 10, 2) := by decide +kernel
theorem eX8_isBlank_9 : decode cX8_isBlank 9 = .ok (.if_icmp .ne 7, 3) := by decide +kernel
theorem eX8_isBlank_12 : decode cX8_isBlank 12 = .ok (.iconst 1, 1) := by decide +kernel
theorem eX8_isBlank_13 : decode cX8_isBlank 13 = .ok (.goto 4, 3) := by decide +kernel
theorem eX8_isBlank_16 : decode cX8_isBlank 16 = .ok (.iconst 0, 1) := by decide +kernel
theorem eX8_isBlank_17 : decode cX8_isBlank 17 = .ok (.ireturn, 1) := by decide +kernel
set_option maxRecDepth 100000 in
theorem m_8_isBlank (hU : ev_uq ty ev_TR) {C : ev_C} {x0 : Int} {r : Int} {C' : ev_C} (h : f_8_isBlank C x0 = some (r, C')) : ev_Met l D cys ty ck_tags ev_TR kc_50 [.inl x0] C (fun r0 C0 => r0 = some (.inl r) ∧ C0 = C') := by
  unfold f_8_isBlank at h
  refine ev_enter (by decide +kernel) (by decide +kernel) (Nat.le_of_ble_eq_true rfl) ?_
  show ev_W l D cys ty ck_tags ev_TR kc_50 0 [(0, .inl x0)] [] C _
  refine ev_il eX8_isBlank_0 rfl ?_
  refine ev_bp eX8_isBlank_1 (by decide) (by decide) ?_
  refine ev_c_eq (tgt := 12) eX8_isBlank_3 (by decide) (fun hc1 => ?_) (fun hc1 => ?_)
  · rw [if_pos (show x0 = 32 from hc1)] at h
    refine ev_ic eX8_isBlank_12 (by decide) ?_
    refine ev_goto (tgt := 17) eX8_isBlank_13 (by decide) ?_
    cases h
    exact ev_zret eX8_isBlank_17 rfl (by decide) ⟨rfl, rfl⟩
  · rw [if_neg (show ¬ (x0 = 32) from hc1)] at h
    refine ev_il eX8_isBlank_6 rfl ?_
    refine ev_bp eX8_isBlank_7 (by decide) (by decide) ?_
    refine ev_c_ne (tgt := 16) eX8_isBlank_9 (by decide) (fun hc2 => ?_) (fun hc2 => ?_)
    · rw [if_pos (show x0 ≠ 10 from hc2)] at h
      refine ev_ic eX8_isBlank_16 (by decide) ?_
      cases h
      exact ev_zret eX8_isBlank_17 rfl (by decide) ⟨rfl, rfl⟩
    · rw [if_neg (show ¬ (x0 ≠ 10) from hc2)] at h
      refine ev_ic eX8_isBlank_12 (by decide) ?_
      refine ev_goto (tgt := 17) eX8_isBlank_13 (by decide) ?_
      cases h
      exact ev_zret eX8_isBlank_17 rfl (by decide) ⟨rfl, rfl⟩
theorem eX8_step_0 : decode cX8_step 0 = .ok (.aload_n 0, 1) := by decide +kernel
theorem eX8_step_1 : decode cX8_step 1 = .ok (.getfield 22, 3) := by decide +kernel
theorem eX8_step_4 : decode cX8_step 4 = .ok (.aload_n 0, 1) := by decide +kernel
theorem eX8_step_5 : decode cX8_step 5 = .ok (.getfield 12, 3) := by decide +kernel
theorem eX8_step_8 : decode cX8_step 8 = .ok (.getfield 76, 3) := by decide +kernel
theorem eX8_step_11 : decode cX8_step 11 = .ok (.if_icmp .ge 33, 3) := by decide +kernel
theorem eX8_step_14 : decode cX8_step 14 = .ok (.aload_n 0, 1) := by decide +kernel
theorem eX8_step_15 : decode cX8_step 15 = .ok (.getfield 12, 3) := by decide +kernel
theorem eX8_step_18 : decode cX8_step 18 = .ok (.aload_n 0, 1) := by decide +kernel
theorem eX8_step_19 : decode cX8_step 19 = .ok (.getfield 22, 3) := by decide +kernel
theorem eX8_step_22 : decode cX8_step 22 = .ok (.invokevirtual 78, 3) := by decide +kernel
theorem eX8_step_25 : decode cX8_step 25 = .ok (.invokestatic 82, 3) := by decide +kernel
theorem eX8_step_28 : decode cX8_step 28 = .ok (.ifCond .eq 16, 3) := by decide +kernel
theorem eX8_step_31 : decode cX8_step 31 = .ok (.aload_n 0, 1) := by decide +kernel
theorem eX8_step_32 : decode cX8_step 32 = .ok (.dup, 1) := by decide +kernel
theorem eX8_step_33 : decode cX8_step 33 = .ok (.getfield 22, 3) := by decide +kernel
theorem eX8_step_36 : decode cX8_step 36 = .ok (.iconst 1, 1) := by decide +kernel
theorem eX8_step_37 : decode cX8_step 37 = .ok (.iadd, 1) := by decide +kernel
theorem eX8_step_38 : decode cX8_step 38 = .ok (.putfield 22, 3) := by decide +kernel
theorem eX8_step_41 : decode cX8_step 41 = .ok (.goto (-41), 3) := by decide +kernel
theorem eX8_step_44 : decode cX8_step 44 = .ok (.aload_n 0, 1) := by decide +kernel
theorem eX8_step_45 : decode cX8_step 45 = .ok (.getfield 12, 3) := by decide +kernel
theorem eX8_step_48 : decode cX8_step 48 = .ok (.getfield 76, 3) := by decide +kernel
theorem eX8_step_51 : decode cX8_step 51 = .ok (.aload_n 0, 1) := by decide +kernel
theorem eX8_step_52 : decode cX8_step 52 = .ok (.getfield 18, 3) := by decide +kernel
theorem eX8_step_55 : decode cX8_step 55 = .ok (.if_icmp .le 28, 3) := by decide +kernel
theorem eX8_step_58 : decode cX8_step 58 = .ok (.aload_n 0, 1) := by decide +kernel
theorem eX8_step_59 : decode cX8_step 59 = .ok (.getfield 22, 3) := by decide +kernel
theorem eX8_step_62 : decode cX8_step 62 = .ok (.aload_n 0, 1) := by decide +kernel
theorem eX8_step_63 : decode cX8_step 63 = .ok (.getfield 18, 3) := by decide +kernel
theorem eX8_step_66 : decode cX8_step 66 = .ok (.if_icmp .lt 17, 3) := by decide +kernel
theorem eX8_step_69 : decode cX8_step 69 = .ok (.aload_n 0, 1) := by decide +kernel
theorem eX8_step_70 : decode cX8_step 70 = .ok (.iconst 4, 1) := by decide +kernel
theorem eX8_step_71 : decode cX8_step 71 = .ok (.putfield 25, 3) := by decide +kernel
theorem eX8_step_74 : decode cX8_step 74 = .ok (.aload_n 0, 1) := by decide +kernel
theorem eX8_step_75 : decode cX8_step 75 = .ok (.aload_n 0, 1) := by decide +kernel
theorem eX8_step_76 : decode cX8_step 76 = .ok (.getfield 18, 3) := by decide +kernel
theorem eX8_step_79 : decode cX8_step 79 = .ok (.putfield 28, 3) := by decide +kernel
theorem eX8_step_82 : decode cX8_step 82 = .ok (.return_, 1) := by decide +kernel
theorem eX8_step_83 : decode cX8_step 83 = .ok (.aload_n 0, 1) := by decide +kernel
theorem eX8_step_84 : decode cX8_step 84 = .ok (.aload_n 0, 1) := by decide +kernel
theorem eX8_step_85 : decode cX8_step 85 = .ok (.getfield 22, 3) := by decide +kernel
theorem eX8_step_88 : decode cX8_step 88 = .ok (.putfield 28, 3) := by decide +kernel
theorem eX8_step_91 : decode cX8_step 91 = .ok (.aload_n 0, 1) := by decide +kernel
theorem eX8_step_92 : decode cX8_step 92 = .ok (.getfield 22, 3) := by decide +kernel
theorem eX8_step_95 : decode cX8_step 95 = .ok (.aload_n 0, 1) := by decide +kernel
theorem eX8_step_96 : decode cX8_step 96 = .ok (.getfield 12, 3) := by decide +kernel
theorem eX8_step_99 : decode cX8_step 99 = .ok (.getfield 76, 3) := by decide +kernel
theorem eX8_step_102 : decode cX8_step 102 = .ok (.if_icmp .lt 9, 3) := by decide +kernel
theorem eX8_step_105 : decode cX8_step 105 = .ok (.aload_n 0, 1) := by decide +kernel
theorem eX8_step_106 : decode cX8_step 106 = .ok (.iconst 0, 1) := by decide +kernel
theorem eX8_step_107 : decode cX8_step 107 = .ok (.putfield 25, 3) := by decide +kernel
theorem eX8_step_110 : decode cX8_step 110 = .ok (.return_, 1) := by decide +kernel
theorem eX8_step_111 : decode cX8_step 111 = .ok (.aload_n 0, 1) := by decide +kernel
theorem eX8_step_112 : decode cX8_step 112 = .ok (.getfield 12, 3) := by decide +kernel
theorem eX8_step_115 : decode cX8_step 115 = .ok (.aload_n 0, 1) := by decide +kernel
theorem eX8_step_116 : decode cX8_step 116 = .ok (.getfield 22, 3) := by decide +kernel
theorem eX8_step_119 : decode cX8_step 119 = .ok (.invokevirtual 78, 3) := by decide +kernel
theorem eX8_step_122 : decode cX8_step 122 = .ok (.istore_n 1, 1) := by decide +kernel
theorem eX8_step_123 : decode cX8_step 123 = .ok (.iload_n 1, 1) := by decide +kernel
theorem eX8_step_124 : decode cX8_step 124 = .ok (.invokestatic 86, 3) := by decide +kernel
theorem eX8_step_127 : decode cX8_step 127 = .ok (.ifCond .ne 10, 3) := by decide +kernel
theorem eX8_step_130 : decode cX8_step 130 = .ok (.iload_n 1, 1) := by decide +kernel
theorem eX8_step_131 : decode cX8_step 131 = .ok (.invokestatic 89, 3) := by decide +kernel
theorem eX8_step_134 : decode cX8_step 134 = .ok (.ifCond .eq 10, 3) := by decide +kernel
theorem eX8_step_137 : decode cX8_step 137 = .ok (.aload_n 0, 1) := by decide +kernel
theorem eX8_step_138 : decode cX8_step 138 = .ok (.invokevirtual 92, 3) := by decide +kernel
theorem eX8_step_141 : decode cX8_step 141 = .ok (.goto 34, 3) := by decide +kernel
theorem eX8_step_144 : decode cX8_step 144 = .ok (.aload_n 0, 1) := by decide +kernel
theorem eX8_step_145 : decode cX8_step 145 = .ok (.iload_n 1, 1) := by decide +kernel
theorem eX8_step_146 : decode cX8_step 146 = .ok (.invokestatic 95, 3) := by decide +kernel
theorem eX8_step_149 : decode cX8_step 149 = .ok (.ifCond .eq 7, 3) := by decide +kernel
theorem eX8_step_152 : decode cX8_step 152 = .ok (.iconst 3, 1) := by decide +kernel
theorem eX8_step_153 : decode cX8_step 153 = .ok (.goto 4, 3) := by decide +kernel
theorem eX8_step_156 : decode cX8_step 156 = .ok (.iconst 4, 1) := by decide +kernel
theorem eX8_step_157 : decode cX8_step 157 = .ok (.putfield 25, 3) := by decide +kernel
theorem eX8_step_160 : decode cX8_step 160 = .ok (.aload_n 0, 1) := by decide +kernel
theorem eX8_step_161 : decode cX8_step 161 = .ok (.iload_n 1, 1) := by decide +kernel
theorem eX8_step_162 : decode cX8_step 162 = .ok (.putfield 31, 3) := by decide +kernel
theorem eX8_step_165 : decode cX8_step 165 = .ok (.aload_n 0, 1) := by decide +kernel
theorem eX8_step_166 : decode cX8_step 166 = .ok (.dup, 1) := by decide +kernel
theorem eX8_step_167 : decode cX8_step 167 = .ok (.getfield 22, 3) := by decide +kernel
theorem eX8_step_170 : decode cX8_step 170 = .ok (.iconst 1, 1) := by decide +kernel
theorem eX8_step_171 : decode cX8_step 171 = .ok (.iadd, 1) := by decide +kernel
theorem eX8_step_172 : decode cX8_step 172 = .ok (.putfield 22, 3) := by decide +kernel
theorem eX8_step_175 : decode cX8_step 175 = .ok (.return_, 1) := by decide +kernel
set_option maxRecDepth 100000 in
theorem m_8_step_J157 (hU : ev_uq ty ev_TR) {C' : ev_C} {C : ev_C} {y1 w0 : Int} (h : f_8_step_J157 C y1 w0 = some C') : ev_W l D cys ty ck_tags ev_TR kc_57 157 [(0, .inr (.inl 8)), (1, .inl y1)] [.inl w0, .inr (.inl 8)] C (fun r0 C0 => r0 = none ∧ C0 = C') := by
  unfold f_8_step_J157 at h
  refine ev_putI lk_f hU (ci := 8) (j := 4) (cd := 0) eX8_step_157 (isF (by decide +kernel)) rfl rfl (Or.inl rfl) rfl ?_
  refine ev_al eX8_step_160 rfl ?_
  refine ev_il eX8_step_161 rfl ?_
  refine ev_putI lk_f hU (ci := 8) (j := 6) (cd := 0) eX8_step_162 (isF (by decide +kernel)) rfl rfl (Or.inl rfl) rfl ?_
  refine ev_al eX8_step_165 rfl ?_
  refine ev_dup eX8_step_166 rfl ?_
  refine ev_getI lk_f (ci := 8) (j := 3) (cd := 0) eX8_step_167 (isF (by decide +kernel)) rfl rfl rfl ?_
  refine ev_ic eX8_step_170 (by decide) ?_
  refine ev_add eX8_step_171 ?_
  refine ev_putI lk_f hU (ci := 8) (j := 3) (cd := 0) eX8_step_172 (isF (by decide +kernel)) rfl rfl (Or.inl rfl) rfl ?_
  cases h
  exact ev_vret eX8_step_175 rfl ⟨rfl, rfl⟩
set_option maxRecDepth 100000 in
theorem m_8_step_J83 (hU : ev_uq ty ev_TR) {C' : ev_C} {C : ev_C} (h : f_8_step_J83 C = some C') : ev_W l D cys ty ck_tags ev_TR kc_57 83 [(0, .inr (.inl 8))] [] C (fun r0 C0 => r0 = none ∧ C0 = C') := by
  unfold f_8_step_J83 at h
  refine ev_al eX8_step_83 rfl ?_
  refine ev_al eX8_step_84 rfl ?_
  refine ev_getI lk_f (ci := 8) (j := 3) (cd := 0) eX8_step_85 (isF (by decide +kernel)) rfl rfl rfl ?_
  refine ev_putI lk_f hU (ci := 8) (j := 5) (cd := 0) eX8_step_88 (isF (by decide +kernel)) rfl rfl (Or.inl rfl) rfl ?_
  refine ev_al eX8_step_91 rfl ?_
  refine ev_getI lk_f (ci := 8) (j := 3) (cd := 0) eX8_step_92 (isF (by decide +kernel)) rfl rfl rfl ?_
  refine ev_al eX8_step_95 rfl ?_
  refine ev_getR lk_f (ci := 8) (j := 1) (cd := 3) eX8_step_96 (isF (by decide +kernel)) rfl rfl ?_
  refine ev_getI lk_f (ci := 10) (j := 1) (cd := 0) eX8_step_99 (isF (by decide +kernel)) rfl rfl rfl ?_
  refine ev_c_lt (tgt := 111) eX8_step_102 (by decide) (fun hc3 => ?_) (fun hc3 => ?_)
  · rw [if_pos (show (C 8 3) < (C 10 1) from hc3)] at h
    refine ev_al eX8_step_111 rfl ?_
    refine ev_getR lk_f (ci := 8) (j := 1) (cd := 3) eX8_step_112 (isF (by decide +kernel)) rfl rfl ?_
    refine ev_al eX8_step_115 rfl ?_
    refine ev_getI lk_f (ci := 8) (j := 3) (cd := 0) eX8_step_116 (isF (by decide +kernel)) rfl rfl rfl ?_
    obtain ⟨r4, C4, hq4, h⟩ := ev_bd_some h
    refine ev_callV (kc := kc_55) (A := [.inl ((C 8 3))]) (T := []) (lk_m.1 _ _ 0 [55] (isM (by decide +kernel)) 55 (by decide)) eX8_step_119 (m_10_byteAt hU hq4) rfl rfl rfl (by decide) (by decide) (Nat.le_of_ble_eq_true rfl) ?_
    rintro _ C4 ⟨rfl, rfl⟩
    show ev_W l D cys ty ck_tags ev_TR kc_57 122 [(0, .inr (.inl 8))] [.inl r4] C4 _
    refine ev_is (L' := [(1, .inl r4), (0, .inr (.inl 8))]) eX8_step_122 (by decide) rfl ?_
    refine ev_il eX8_step_123 rfl ?_
    obtain ⟨r5, C5, hq5, h⟩ := ev_bd_some h
    refine ev_callS (kc := kc_52) (A := [.inl r4]) (T := []) (lk_m.1 _ _ 1 [52] (isM (by decide +kernel)) 52 (by decide)) eX8_step_124 (m_8_isLetter hU hq5) rfl rfl (by decide) (by decide) (Nat.le_of_ble_eq_true rfl) ?_
    rintro _ C5 ⟨rfl, rfl⟩
    show ev_W l D cys ty ck_tags ev_TR kc_57 127 [(1, .inl r4), (0, .inr (.inl 8))] [.inl r5] C5 _
    refine ev_z_ne (tgt := 137) eX8_step_127 (by decide) (fun hc6 => ?_) (fun hc6 => ?_)
    · rw [if_pos (show r5 ≠ 0 from hc6)] at h
      refine ev_al eX8_step_137 rfl ?_
      obtain ⟨C7, hq7, h⟩ := ev_bv_some h
      refine ev_callV (kc := kc_56) (A := []) (T := []) (lk_m.1 _ _ 0 [56] (isM (by decide +kernel)) 56 (by decide)) eX8_step_138 (m_8_readRun hU hq7) rfl rfl rfl (by decide) (by decide) (Nat.le_of_ble_eq_true rfl) ?_
      rintro _ C7 ⟨rfl, rfl⟩
      show ev_W l D cys ty ck_tags ev_TR kc_57 141 [(1, .inl r4), (0, .inr (.inl 8))] [] C7 _
      refine ev_goto (tgt := 175) eX8_step_141 (by decide) ?_
      cases h
      exact ev_vret eX8_step_175 rfl ⟨rfl, rfl⟩
    · rw [if_neg (show ¬ (r5 ≠ 0) from hc6)] at h
      refine ev_il eX8_step_130 rfl ?_
      obtain ⟨r8, C8, hq8, h⟩ := ev_bd_some h
      refine ev_callS (kc := kc_51) (A := [.inl r4]) (T := []) (lk_m.1 _ _ 1 [51] (isM (by decide +kernel)) 51 (by decide)) eX8_step_131 (m_8_isDigit hU hq8) rfl rfl (by decide) (by decide) (Nat.le_of_ble_eq_true rfl) ?_
      rintro _ C8 ⟨rfl, rfl⟩
      show ev_W l D cys ty ck_tags ev_TR kc_57 134 [(1, .inl r4), (0, .inr (.inl 8))] [.inl r8] C8 _
      refine ev_z_eq (tgt := 144) eX8_step_134 (by decide) (fun hc9 => ?_) (fun hc9 => ?_)
      · rw [if_pos (show r8 = 0 from hc9)] at h
        refine ev_al eX8_step_144 rfl ?_
        refine ev_il eX8_step_145 rfl ?_
        obtain ⟨r10, C10, hq10, h⟩ := ev_bd_some h
        refine ev_callS (kc := kc_53) (A := [.inl r4]) (T := [.inr (.inl 8)]) (lk_m.1 _ _ 1 [53] (isM (by decide +kernel)) 53 (by decide)) eX8_step_146 (m_8_isSign hU hq10) rfl rfl (by decide) (by decide) (Nat.le_of_ble_eq_true rfl) ?_
        rintro _ C10 ⟨rfl, rfl⟩
        show ev_W l D cys ty ck_tags ev_TR kc_57 149 [(1, .inl r4), (0, .inr (.inl 8))] [.inl r10, .inr (.inl 8)] C10 _
        refine ev_z_eq (tgt := 156) eX8_step_149 (by decide) (fun hc11 => ?_) (fun hc11 => ?_)
        · rw [if_pos (show r10 = 0 from hc11)] at h
          refine ev_ic eX8_step_156 (by decide) ?_
          refine ev_loc (L' := [(0, .inr (.inl 8)), (1, .inl r4)]) rfl ?_
          exact m_8_step_J157 hU h
        · rw [if_neg (show ¬ (r10 = 0) from hc11)] at h
          refine ev_ic eX8_step_152 (by decide) ?_
          refine ev_goto (tgt := 157) eX8_step_153 (by decide) ?_
          refine ev_loc (L' := [(0, .inr (.inl 8)), (1, .inl r4)]) rfl ?_
          exact m_8_step_J157 hU h
      · rw [if_neg (show ¬ (r8 = 0) from hc9)] at h
        refine ev_al eX8_step_137 rfl ?_
        obtain ⟨C12, hq12, h⟩ := ev_bv_some h
        refine ev_callV (kc := kc_56) (A := []) (T := []) (lk_m.1 _ _ 0 [56] (isM (by decide +kernel)) 56 (by decide)) eX8_step_138 (m_8_readRun hU hq12) rfl rfl rfl (by decide) (by decide) (Nat.le_of_ble_eq_true rfl) ?_
        rintro _ C12 ⟨rfl, rfl⟩
        show ev_W l D cys ty ck_tags ev_TR kc_57 141 [(1, .inl r4), (0, .inr (.inl 8))] [] C12 _
        refine ev_goto (tgt := 175) eX8_step_141 (by decide) ?_
        cases h
        exact ev_vret eX8_step_175 rfl ⟨rfl, rfl⟩
  · rw [if_neg (show ¬ ((C 8 3) < (C 10 1)) from hc3)] at h
    refine ev_al eX8_step_105 rfl ?_
    refine ev_ic eX8_step_106 (by decide) ?_
    refine ev_putI lk_f hU (ci := 8) (j := 4) (cd := 0) eX8_step_107 (isF (by decide +kernel)) rfl rfl (Or.inl rfl) rfl ?_
    cases h
    exact ev_vret eX8_step_110 rfl ⟨rfl, rfl⟩
set_option maxRecDepth 100000 in
theorem m_8_step_J44 (hU : ev_uq ty ev_TR) {C' : ev_C} {C : ev_C} (h : f_8_step_J44 C = some C') : ev_W l D cys ty ck_tags ev_TR kc_57 44 [(0, .inr (.inl 8))] [] C (fun r0 C0 => r0 = none ∧ C0 = C') := by
  unfold f_8_step_J44 at h
  refine ev_al eX8_step_44 rfl ?_
  refine ev_getR lk_f (ci := 8) (j := 1) (cd := 3) eX8_step_45 (isF (by decide +kernel)) rfl rfl ?_
  refine ev_getI lk_f (ci := 10) (j := 1) (cd := 0) eX8_step_48 (isF (by decide +kernel)) rfl rfl rfl ?_
  refine ev_al eX8_step_51 rfl ?_
  refine ev_getI lk_f (ci := 8) (j := 2) (cd := 0) eX8_step_52 (isF (by decide +kernel)) rfl rfl rfl ?_
  refine ev_c_le (tgt := 83) eX8_step_55 (by decide) (fun hc2 => ?_) (fun hc2 => ?_)
  · rw [if_pos (show (C 10 1) ≤ (C 8 2) from hc2)] at h
    refine ev_loc (L' := [(0, .inr (.inl 8))]) rfl ?_
    exact m_8_step_J83 hU h
  · rw [if_neg (show ¬ ((C 10 1) ≤ (C 8 2)) from hc2)] at h
    refine ev_al eX8_step_58 rfl ?_
    refine ev_getI lk_f (ci := 8) (j := 3) (cd := 0) eX8_step_59 (isF (by decide +kernel)) rfl rfl rfl ?_
    refine ev_al eX8_step_62 rfl ?_
    refine ev_getI lk_f (ci := 8) (j := 2) (cd := 0) eX8_step_63 (isF (by decide +kernel)) rfl rfl rfl ?_
    refine ev_c_lt (tgt := 83) eX8_step_66 (by decide) (fun hc13 => ?_) (fun hc13 => ?_)
    · rw [if_pos (show (C 8 3) < (C 8 2) from hc13)] at h
      refine ev_loc (L' := [(0, .inr (.inl 8))]) rfl ?_
      exact m_8_step_J83 hU h
    · rw [if_neg (show ¬ ((C 8 3) < (C 8 2)) from hc13)] at h
      refine ev_al eX8_step_69 rfl ?_
      refine ev_ic eX8_step_70 (by decide) ?_
      refine ev_putI lk_f hU (ci := 8) (j := 4) (cd := 0) eX8_step_71 (isF (by decide +kernel)) rfl rfl (Or.inl rfl) rfl ?_
      refine ev_al eX8_step_74 rfl ?_
      refine ev_al eX8_step_75 rfl ?_
      refine ev_getI lk_f (ci := 8) (j := 2) (cd := 0) eX8_step_76 (isF (by decide +kernel)) rfl rfl rfl ?_
      refine ev_putI lk_f hU (ci := 8) (j := 5) (cd := 0) eX8_step_79 (isF (by decide +kernel)) rfl rfl (Or.inl rfl) rfl ?_
      cases h
      exact ev_vret eX8_step_82 rfl ⟨rfl, rfl⟩
set_option maxRecDepth 100000 in
theorem m_8_step_L0 (hU : ev_uq ty ev_TR) : ∀ (n : Nat) {C : ev_C} {C' : ev_C}, f_8_step_L0 n C = some C' → ev_W l D cys ty ck_tags ev_TR kc_57 0 [(0, .inr (.inl 8))] [] C (fun r0 C0 => r0 = none ∧ C0 = C')
  | 0, _, _, h => by cases h
  | n + 1, C, _, h => by
    unfold f_8_step_L0 at h
    refine ev_al eX8_step_0 rfl ?_
    refine ev_getI lk_f (ci := 8) (j := 3) (cd := 0) eX8_step_1 (isF (by decide +kernel)) rfl rfl rfl ?_
    refine ev_al eX8_step_4 rfl ?_
    refine ev_getR lk_f (ci := 8) (j := 1) (cd := 3) eX8_step_5 (isF (by decide +kernel)) rfl rfl ?_
    refine ev_getI lk_f (ci := 10) (j := 1) (cd := 0) eX8_step_8 (isF (by decide +kernel)) rfl rfl rfl ?_
    refine ev_c_ge (tgt := 44) eX8_step_11 (by decide) (fun hc1 => ?_) (fun hc1 => ?_)
    · rw [if_pos (show (C 10 1) ≤ (C 8 3) from hc1)] at h
      refine ev_loc (L' := [(0, .inr (.inl 8))]) rfl ?_
      exact m_8_step_J44 hU h
    · rw [if_neg (show ¬ ((C 10 1) ≤ (C 8 3)) from hc1)] at h
      refine ev_al eX8_step_14 rfl ?_
      refine ev_getR lk_f (ci := 8) (j := 1) (cd := 3) eX8_step_15 (isF (by decide +kernel)) rfl rfl ?_
      refine ev_al eX8_step_18 rfl ?_
      refine ev_getI lk_f (ci := 8) (j := 3) (cd := 0) eX8_step_19 (isF (by decide +kernel)) rfl rfl rfl ?_
      obtain ⟨r14, C14, hq14, h⟩ := ev_bd_some h
      refine ev_callV (kc := kc_55) (A := [.inl ((C 8 3))]) (T := []) (lk_m.1 _ _ 0 [55] (isM (by decide +kernel)) 55 (by decide)) eX8_step_22 (m_10_byteAt hU hq14) rfl rfl rfl (by decide) (by decide) (Nat.le_of_ble_eq_true rfl) ?_
      rintro _ C14 ⟨rfl, rfl⟩
      show ev_W l D cys ty ck_tags ev_TR kc_57 25 [(0, .inr (.inl 8))] [.inl r14] C14 _
      obtain ⟨r15, C15, hq15, h⟩ := ev_bd_some h
      refine ev_callS (kc := kc_50) (A := [.inl r14]) (T := []) (lk_m.1 _ _ 1 [50] (isM (by decide +kernel)) 50 (by decide)) eX8_step_25 (m_8_isBlank hU hq15) rfl rfl (by decide) (by decide) (Nat.le_of_ble_eq_true rfl) ?_
      rintro _ C15 ⟨rfl, rfl⟩
      show ev_W l D cys ty ck_tags ev_TR kc_57 28 [(0, .inr (.inl 8))] [.inl r15] C15 _
      refine ev_z_eq (tgt := 44) eX8_step_28 (by decide) (fun hc16 => ?_) (fun hc16 => ?_)
      · rw [if_pos (show r15 = 0 from hc16)] at h
        refine ev_loc (L' := [(0, .inr (.inl 8))]) rfl ?_
        exact m_8_step_J44 hU h
      · rw [if_neg (show ¬ (r15 = 0) from hc16)] at h
        refine ev_al eX8_step_31 rfl ?_
        refine ev_dup eX8_step_32 rfl ?_
        refine ev_getI lk_f (ci := 8) (j := 3) (cd := 0) eX8_step_33 (isF (by decide +kernel)) rfl rfl rfl ?_
        refine ev_ic eX8_step_36 (by decide) ?_
        refine ev_add eX8_step_37 ?_
        refine ev_putI lk_f hU (ci := 8) (j := 3) (cd := 0) eX8_step_38 (isF (by decide +kernel)) rfl rfl (Or.inl rfl) rfl ?_
        refine ev_goto (tgt := 0) eX8_step_41 (by decide) ?_
        refine ev_loc (L' := [(0, .inr (.inl 8))]) rfl ?_
        exact m_8_step_L0 hU n h
set_option maxRecDepth 100000 in
theorem m_8_step (hU : ev_uq ty ev_TR) {C : ev_C} {C' : ev_C} (h : f_8_step C = some C') : ev_Met l D cys ty ck_tags ev_TR kc_57 [.inr (.inl 8)] C (fun r0 C0 => r0 = none ∧ C0 = C') := by
  unfold f_8_step at h
  refine ev_enter (by decide +kernel) (by decide +kernel) (Nat.le_of_ble_eq_true rfl) ?_
  show ev_W l D cys ty ck_tags ev_TR kc_57 0 [(0, .inr (.inl 8))] [] C _
  refine ev_loc (L' := [(0, .inr (.inl 8))]) rfl ?_
  exact m_8_step_L0 hU 1000 h
end GX
