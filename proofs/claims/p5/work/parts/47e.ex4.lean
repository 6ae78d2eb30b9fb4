/-! THE EXACT LOGIC: the reference's play() (printed by a program of ours). -/
section GX
variable {l : Launch} {D : va_G} {cys : Nat → ClassId} {ty : Nat → Option Nat}
theorem eX12_taken_0 : decode cX12_taken 0 = .ok (.aload_n 0, 1) := by decide +kernel
theorem eX12_taken_1 : decode cX12_taken 1 = .ok (.aload_n 0, 1) := by decide +kernel
theorem eX12_taken_2 : decode cX12_taken 2 = .ok (.getfield 7, 3) := by decide +kernel
theorem eX12_taken_5 : decode cX12_taken 5 = .ok (.putfield 18, 3) := by decide +kernel
theorem eX12_taken_8 : decode cX12_taken 8 = .ok (.aload_n 0, 1) := by decide +kernel
theorem eX12_taken_9 : decode cX12_taken 9 = .ok (.iconst 0, 1) := by decide +kernel
theorem eX12_taken_10 : decode cX12_taken 10 = .ok (.putfield 7, 3) := by decide +kernel
theorem eX12_taken_13 : decode cX12_taken 13 = .ok (.aload_n 0, 1) := by decide +kernel
theorem eX12_taken_14 : decode cX12_taken 14 = .ok (.iconst 0, 1) := by decide +kernel
theorem eX12_taken_15 : decode cX12_taken 15 = .ok (.putfield 21, 3) := by decide +kernel
theorem eX12_taken_18 : decode cX12_taken 18 = .ok (.aload_n 0, 1) := by decide +kernel
theorem eX12_taken_19 : decode cX12_taken 19 = .ok (.iload_n 1, 1) := by decide +kernel
theorem eX12_taken_20 : decode cX12_taken 20 = .ok (.putfield 24, 3) := by decide +kernel
theorem eX12_taken_23 : decode cX12_taken 23 = .ok (.return_, 1) := by decide +kernel
set_option maxRecDepth 100000 in
theorem m_12_taken (hU : ev_uq ty ev_TR) {C : ev_C} {x1 : Int} {C' : ev_C} (h : f_12_taken C x1 = some C') : ev_Met l D cys ty ck_tags ev_TR kc_241 [.inr (.inl 12), .inl x1] C (fun r0 C0 => r0 = none ∧ C0 = C') := by
  unfold f_12_taken at h
  refine ev_enter (by decide +kernel) (by decide +kernel) (Nat.le_of_ble_eq_true rfl) ?_
  show ev_W l D cys ty ck_tags ev_TR kc_241 0 [(0, .inr (.inl 12)), (1, .inl x1)] [] C _
  refine ev_al eX12_taken_0 rfl ?_
  refine ev_al eX12_taken_1 rfl ?_
  refine ev_getI lk_f (ci := 12) (j := 2) (cd := 0) eX12_taken_2 (isF (by decide +kernel)) rfl rfl rfl ?_
  refine ev_putI lk_f hU (ci := 12) (j := 3) (cd := 0) eX12_taken_5 (isF (by decide +kernel)) rfl rfl (Or.inl rfl) rfl ?_
  refine ev_al eX12_taken_8 rfl ?_
  refine ev_ic eX12_taken_9 (by decide) ?_
  refine ev_putI lk_f hU (ci := 12) (j := 2) (cd := 0) eX12_taken_10 (isF (by decide +kernel)) rfl rfl (Or.inl rfl) rfl ?_
  refine ev_al eX12_taken_13 rfl ?_
  refine ev_ic eX12_taken_14 (by decide) ?_
  refine ev_putI lk_f hU (ci := 12) (j := 4) (cd := 0) eX12_taken_15 (isF (by decide +kernel)) rfl rfl (Or.inl rfl) rfl ?_
  refine ev_al eX12_taken_18 rfl ?_
  refine ev_il eX12_taken_19 rfl ?_
  refine ev_putI lk_f hU (ci := 12) (j := 5) (cd := 0) eX12_taken_20 (isF (by decide +kernel)) rfl rfl (Or.inl rfl) rfl ?_
  cases h
  exact ev_vret eX12_taken_23 rfl ⟨rfl, rfl⟩
theorem eX12_isWord_0 : decode cX12_isWord 0 = .ok (.aload_n 0, 1) := by decide +kernel
theorem eX12_isWord_1 : decode cX12_isWord 1 = .ok (.getfield 166, 3) := by decide +kernel
theorem eX12_isWord_4 : decode cX12_isWord 4 = .ok (.iconst 1, 1) := by decide +kernel
theorem eX12_isWord_5 : decode cX12_isWord 5 = .ok (.if_icmp .ne 16, 3) := by decide +kernel
theorem eX12_isWord_8 : decode cX12_isWord 8 = .ok (.aload_n 0, 1) := by decide +kernel
theorem eX12_isWord_9 : decode cX12_isWord 9 = .ok (.getfield 179, 3) := by decide +kernel
theorem eX12_isWord_12 : decode cX12_isWord 12 = .ok (.lload_n 1, 1) := by decide +kernel
theorem eX12_isWord_13 : decode cX12_isWord 13 = .ok (.lcmp, 1) := by decide +kernel
theorem eX12_isWord_14 : decode cX12_isWord 14 = .ok (.ifCond .ne 7, 3) := by decide +kernel
theorem eX12_isWord_17 : decode cX12_isWord 17 = .ok (.iconst 1, 1) := by decide +kernel
theorem eX12_isWord_18 : decode cX12_isWord 18 = .ok (.goto 4, 3) := by decide +kernel
theorem eX12_isWord_21 : decode cX12_isWord 21 = .ok (.iconst 0, 1) := by decide +kernel
theorem eX12_isWord_22 : decode cX12_isWord 22 = .ok (.ireturn, 1) := by decide +kernel
set_option maxRecDepth 100000 in
theorem m_12_isWord (hU : ev_uq ty ev_TR) {C : ev_C} {x1 : Int} {r : Int} {C' : ev_C} (h : f_12_isWord C x1 = some (r, C')) : ev_Met l D cys ty ck_tags ev_TR kc_211 [.inr (.inl 12), .inr (.inr x1)] C (fun r0 C0 => r0 = some (.inl r) ∧ C0 = C') := by
  unfold f_12_isWord at h
  refine ev_enter (by decide +kernel) (by decide +kernel) (Nat.le_of_ble_eq_true rfl) ?_
  show ev_W l D cys ty ck_tags ev_TR kc_211 0 [(0, .inr (.inl 12)), (1, .inr (.inr x1))] [] C _
  refine ev_al eX12_isWord_0 rfl ?_
  refine ev_getI lk_f (ci := 12) (j := 11) (cd := 0) eX12_isWord_1 (isF (by decide +kernel)) rfl rfl rfl ?_
  refine ev_ic eX12_isWord_4 (by decide) ?_
  refine ev_c_ne (tgt := 21) eX12_isWord_5 (by decide) (fun hc1 => ?_) (fun hc1 => ?_)
  · rw [if_pos (show (C 12 11) ≠ 1 from hc1)] at h
    refine ev_ic eX12_isWord_21 (by decide) ?_
    cases h
    exact ev_zret eX12_isWord_22 rfl (by decide) ⟨rfl, rfl⟩
  · rw [if_neg (show ¬ ((C 12 11) ≠ 1) from hc1)] at h
    refine ev_al eX12_isWord_8 rfl ?_
    refine ev_getL lk_f (ci := 12) (j := 17) (cd := 2) eX12_isWord_9 (isF (by decide +kernel)) rfl rfl rfl ?_
    refine ev_ll eX12_isWord_12 rfl ?_
    refine ev_lcmp eX12_isWord_13 ?_
    refine ev_z_ne (tgt := 21) eX12_isWord_14 (by decide) (fun hc2 => ?_) (fun hc2 => ?_)
    · rw [if_pos (show ev_cmp ((C 12 17)) x1 ≠ 0 from hc2)] at h
      refine ev_ic eX12_isWord_21 (by decide) ?_
      cases h
      exact ev_zret eX12_isWord_22 rfl (by decide) ⟨rfl, rfl⟩
    · rw [if_neg (show ¬ (ev_cmp ((C 12 17)) x1 ≠ 0) from hc2)] at h
      refine ev_ic eX12_isWord_17 (by decide) ?_
      refine ev_goto (tgt := 22) eX12_isWord_18 (by decide) ?_
      cases h
      exact ev_zret eX12_isWord_22 rfl (by decide) ⟨rfl, rfl⟩
theorem eX12_bad_0 : decode cX12_bad 0 = .ok (.aload_n 0, 1) := by decide +kernel
theorem eX12_bad_1 : decode cX12_bad 1 = .ok (.iload_n 1, 1) := by decide +kernel
theorem eX12_bad_2 : decode cX12_bad 2 = .ok (.putfield 183, 3) := by decide +kernel
theorem eX12_bad_5 : decode cX12_bad 5 = .ok (.aload_n 0, 1) := by decide +kernel
theorem eX12_bad_6 : decode cX12_bad 6 = .ok (.aload_n 0, 1) := by decide +kernel
theorem eX12_bad_7 : decode cX12_bad 7 = .ok (.getfield 160, 3) := by decide +kernel
theorem eX12_bad_10 : decode cX12_bad 10 = .ok (.putfield 186, 3) := by decide +kernel
theorem eX12_bad_13 : decode cX12_bad 13 = .ok (.iconst 0, 1) := by decide +kernel
theorem eX12_bad_14 : decode cX12_bad 14 = .ok (.ireturn, 1) := by decide +kernel
set_option maxRecDepth 100000 in
theorem m_12_bad (hU : ev_uq ty ev_TR) {C : ev_C} {x1 : Int} {r : Int} {C' : ev_C} (h : f_12_bad C x1 = some (r, C')) : ev_Met l D cys ty ck_tags ev_TR kc_205 [.inr (.inl 12), .inl x1] C (fun r0 C0 => r0 = some (.inl r) ∧ C0 = C') := by
  unfold f_12_bad at h
  refine ev_enter (by decide +kernel) (by decide +kernel) (Nat.le_of_ble_eq_true rfl) ?_
  show ev_W l D cys ty ck_tags ev_TR kc_205 0 [(0, .inr (.inl 12)), (1, .inl x1)] [] C _
  refine ev_al eX12_bad_0 rfl ?_
  refine ev_il eX12_bad_1 rfl ?_
  refine ev_putI lk_f hU (ci := 12) (j := 15) (cd := 0) eX12_bad_2 (isF (by decide +kernel)) rfl rfl (Or.inl rfl) rfl ?_
  refine ev_al eX12_bad_5 rfl ?_
  refine ev_al eX12_bad_6 rfl ?_
  refine ev_getI lk_f (ci := 12) (j := 12) (cd := 0) eX12_bad_7 (isF (by decide +kernel)) rfl rfl rfl ?_
  refine ev_putI lk_f hU (ci := 12) (j := 16) (cd := 0) eX12_bad_10 (isF (by decide +kernel)) rfl rfl (Or.inl rfl) rfl ?_
  refine ev_ic eX12_bad_13 (by decide) ?_
  cases h
  exact ev_zret eX12_bad_14 rfl (by decide) ⟨rfl, rfl⟩
theorem eX12_isName_0 : decode cX12_isName 0 = .ok (.aload_n 0, 1) := by decide +kernel
theorem eX12_isName_1 : decode cX12_isName 1 = .ok (.getfield 166, 3) := by decide +kernel
theorem eX12_isName_4 : decode cX12_isName 4 = .ok (.iconst 1, 1) := by decide +kernel
theorem eX12_isName_5 : decode cX12_isName 5 = .ok (.if_icmp .ne 7, 3) := by decide +kernel
theorem eX12_isName_8 : decode cX12_isName 8 = .ok (.iconst 1, 1) := by decide +kernel
theorem eX12_isName_9 : decode cX12_isName 9 = .ok (.goto 4, 3) := by decide +kernel
theorem eX12_isName_12 : decode cX12_isName 12 = .ok (.iconst 0, 1) := by decide +kernel
theorem eX12_isName_13 : decode cX12_isName 13 = .ok (.istore_n 1, 1) := by decide +kernel
theorem eX12_isName_14 : decode cX12_isName 14 = .ok (.iconst 0, 1) := by decide +kernel
theorem eX12_isName_15 : decode cX12_isName 15 = .ok (.istore_n 2, 1) := by decide +kernel
theorem eX12_isName_16 : decode cX12_isName 16 = .ok (.iload_n 2, 1) := by decide +kernel
theorem eX12_isName_17 : decode cX12_isName 17 = .ok (.bipush 27, 2) := by decide +kernel
theorem eX12_isName_19 : decode cX12_isName 19 = .ok (.if_icmp .ge 33, 3) := by decide +kernel
theorem eX12_isName_22 : decode cX12_isName 22 = .ok (.iload_n 1, 1) := by decide +kernel
theorem eX12_isName_23 : decode cX12_isName 23 = .ok (.ifCond .eq 21, 3) := by decide +kernel
theorem eX12_isName_26 : decode cX12_isName 26 = .ok (.aload_n 0, 1) := by decide +kernel
theorem eX12_isName_27 : decode cX12_isName 27 = .ok (.getfield 179, 3) := by decide +kernel
theorem eX12_isName_30 : decode cX12_isName 30 = .ok (.aload_n 0, 1) := by decide +kernel
theorem eX12_isName_31 : decode cX12_isName 31 = .ok (.getfield 47, 3) := by decide +kernel
theorem eX12_isName_34 : decode cX12_isName 34 = .ok (.iload_n 2, 1) := by decide +kernel
theorem eX12_isName_35 : decode cX12_isName 35 = .ok (.laload, 1) := by decide +kernel
theorem eX12_isName_36 : decode cX12_isName 36 = .ok (.lcmp, 1) := by decide +kernel
theorem eX12_isName_37 : decode cX12_isName 37 = .ok (.ifCond .eq 7, 3) := by decide +kernel
theorem eX12_isName_40 : decode cX12_isName 40 = .ok (.iconst 1, 1) := by decide +kernel
theorem eX12_isName_41 : decode cX12_isName 41 = .ok (.goto 4, 3) := by decide +kernel
theorem eX12_isName_44 : decode cX12_isName 44 = .ok (.iconst 0, 1) := by decide +kernel
theorem eX12_isName_45 : decode cX12_isName 45 = .ok (.istore_n 1, 1) := by decide +kernel
theorem eX12_isName_46 : decode cX12_isName 46 = .ok (.iinc 2 1, 3) := by decide +kernel
theorem eX12_isName_49 : decode cX12_isName 49 = .ok (.goto (-33), 3) := by decide +kernel
theorem eX12_isName_52 : decode cX12_isName 52 = .ok (.iload_n 1, 1) := by decide +kernel
theorem eX12_isName_53 : decode cX12_isName 53 = .ok (.ireturn, 1) := by decide +kernel
set_option maxRecDepth 100000 in
theorem m_12_isName_J45 (hU : ev_uq ty ev_TR) {r : Int} {C' : ev_C} {K16 : ev_C → Int → Int → Option (Int × ev_C)} (hK16 : ∀ {C : ev_C} {y1 y2 : Int}, K16 C y1 y2 = some (r, C') → ev_W l D cys ty ck_tags ev_TR kc_223 16 [(0, .inr (.inl 12)), (1, .inl y1), (2, .inl y2)] [] C (fun r0 C0 => r0 = some (.inl r) ∧ C0 = C')) {C : ev_C} {y1 y2 w0 : Int} (h : f_12_isName_J45 K16 C y1 y2 w0 = some (r, C')) : ev_W l D cys ty ck_tags ev_TR kc_223 45 [(0, .inr (.inl 12)), (1, .inl y1), (2, .inl y2)] [.inl w0] C (fun r0 C0 => r0 = some (.inl r) ∧ C0 = C') := by
  unfold f_12_isName_J45 at h
  refine ev_is (L' := [(1, .inl w0), (0, .inr (.inl 12)), (2, .inl y2)]) eX12_isName_45 (by decide) rfl ?_
  refine ev_inc (L' := [(2, .inl (ev_w (y2 + 1))), (1, .inl w0), (0, .inr (.inl 12))]) eX12_isName_46 (by decide) (by decide) rfl rfl ?_
  refine ev_goto (tgt := 16) eX12_isName_49 (by decide) ?_
  refine ev_loc (L' := [(0, .inr (.inl 12)), (1, .inl w0), (2, .inl (ev_w (y2 + 1)))]) rfl ?_
  exact hK16 h
set_option maxRecDepth 100000 in
theorem m_12_isName_J44 (hU : ev_uq ty ev_TR) {r : Int} {C' : ev_C} {K16 : ev_C → Int → Int → Option (Int × ev_C)} (hK16 : ∀ {C : ev_C} {y1 y2 : Int}, K16 C y1 y2 = some (r, C') → ev_W l D cys ty ck_tags ev_TR kc_223 16 [(0, .inr (.inl 12)), (1, .inl y1), (2, .inl y2)] [] C (fun r0 C0 => r0 = some (.inl r) ∧ C0 = C')) {C : ev_C} {y1 y2 : Int} (h : f_12_isName_J44 K16 C y1 y2 = some (r, C')) : ev_W l D cys ty ck_tags ev_TR kc_223 44 [(0, .inr (.inl 12)), (1, .inl y1), (2, .inl y2)] [] C (fun r0 C0 => r0 = some (.inl r) ∧ C0 = C') := by
  unfold f_12_isName_J44 at h
  refine ev_ic eX12_isName_44 (by decide) ?_
  refine ev_loc (L' := [(0, .inr (.inl 12)), (1, .inl y1), (2, .inl y2)]) rfl ?_
  exact m_12_isName_J45 hU hK16 h
set_option maxRecDepth 100000 in
theorem m_12_isName_L16 (hU : ev_uq ty ev_TR) : ∀ (n : Nat) {C : ev_C} {y1 y2 : Int} {r : Int} {C' : ev_C}, f_12_isName_L16 n C y1 y2 = some (r, C') → ev_W l D cys ty ck_tags ev_TR kc_223 16 [(0, .inr (.inl 12)), (1, .inl y1), (2, .inl y2)] [] C (fun r0 C0 => r0 = some (.inl r) ∧ C0 = C')
  | 0, _, _, _, _, _, h => by cases h
  | n + 1, C, y1, y2, _, _, h => by
    unfold f_12_isName_L16 at h
    refine ev_il eX12_isName_16 rfl ?_
    refine ev_bp eX12_isName_17 (by decide) (by decide) ?_
    refine ev_c_ge (tgt := 52) eX12_isName_19 (by decide) (fun hc2 => ?_) (fun hc2 => ?_)
    · rw [if_pos (show 27 ≤ y2 from hc2)] at h
      refine ev_il eX12_isName_52 rfl ?_
      obtain ⟨hb3, h⟩ := ev_gd h
      cases h
      exact ev_zret eX12_isName_53 rfl hb3 ⟨rfl, rfl⟩
    · rw [if_neg (show ¬ (27 ≤ y2) from hc2)] at h
      refine ev_il eX12_isName_22 rfl ?_
      refine ev_z_eq (tgt := 44) eX12_isName_23 (by decide) (fun hc4 => ?_) (fun hc4 => ?_)
      · rw [if_pos (show y1 = 0 from hc4)] at h
        refine ev_loc (L' := [(0, .inr (.inl 12)), (1, .inl y1), (2, .inl y2)]) rfl ?_
        exact m_12_isName_J44 hU (fun h => m_12_isName_L16 hU n h) h
      · rw [if_neg (show ¬ (y1 = 0) from hc4)] at h
        refine ev_al eX12_isName_26 rfl ?_
        refine ev_getL lk_f (ci := 12) (j := 17) (cd := 2) eX12_isName_27 (isF (by decide +kernel)) rfl rfl rfl ?_
        refine ev_al eX12_isName_30 rfl ?_
        refine ev_getR lk_f (ci := 12) (j := 10) (cd := 3) eX12_isName_31 (isF (by decide +kernel)) rfl rfl ?_
        refine ev_il eX12_isName_34 rfl ?_
        obtain ⟨hb5, h⟩ := ev_gd h
        refine ev_lald eX12_isName_35 rfl rfl hb5.1 hb5.2 ?_
        refine ev_lcmp eX12_isName_36 ?_
        refine ev_z_eq (tgt := 44) eX12_isName_37 (by decide) (fun hc6 => ?_) (fun hc6 => ?_)
        · rw [if_pos (show ev_cmp ((C 12 17)) ((C 50 (Int.toNat y2))) = 0 from hc6)] at h
          refine ev_loc (L' := [(0, .inr (.inl 12)), (1, .inl y1), (2, .inl y2)]) rfl ?_
          exact m_12_isName_J44 hU (fun h => m_12_isName_L16 hU n h) h
        · rw [if_neg (show ¬ (ev_cmp ((C 12 17)) ((C 50 (Int.toNat y2))) = 0) from hc6)] at h
          refine ev_ic eX12_isName_40 (by decide) ?_
          refine ev_goto (tgt := 45) eX12_isName_41 (by decide) ?_
          refine ev_loc (L' := [(0, .inr (.inl 12)), (1, .inl y1), (2, .inl y2)]) rfl ?_
          exact m_12_isName_J45 hU (fun h => m_12_isName_L16 hU n h) h
set_option maxRecDepth 100000 in
theorem m_12_isName_J13 (hU : ev_uq ty ev_TR) {r : Int} {C' : ev_C} {C : ev_C} {w0 : Int} (h : f_12_isName_J13 C w0 = some (r, C')) : ev_W l D cys ty ck_tags ev_TR kc_223 13 [(0, .inr (.inl 12))] [.inl w0] C (fun r0 C0 => r0 = some (.inl r) ∧ C0 = C') := by
  unfold f_12_isName_J13 at h
  refine ev_is (L' := [(1, .inl w0), (0, .inr (.inl 12))]) eX12_isName_13 (by decide) rfl ?_
  refine ev_ic eX12_isName_14 (by decide) ?_
  refine ev_is (L' := [(2, .inl 0), (1, .inl w0), (0, .inr (.inl 12))]) eX12_isName_15 (by decide) rfl ?_
  refine ev_loc (L' := [(0, .inr (.inl 12)), (1, .inl w0), (2, .inl 0)]) rfl ?_
  exact m_12_isName_L16 hU 1000 h
set_option maxRecDepth 100000 in
theorem m_12_isName (hU : ev_uq ty ev_TR) {C : ev_C} {r : Int} {C' : ev_C} (h : f_12_isName C = some (r, C')) : ev_Met l D cys ty ck_tags ev_TR kc_223 [.inr (.inl 12)] C (fun r0 C0 => r0 = some (.inl r) ∧ C0 = C') := by
  unfold f_12_isName at h
  refine ev_enter (by decide +kernel) (by decide +kernel) (Nat.le_of_ble_eq_true rfl) ?_
  show ev_W l D cys ty ck_tags ev_TR kc_223 0 [(0, .inr (.inl 12))] [] C _
  refine ev_al eX12_isName_0 rfl ?_
  refine ev_getI lk_f (ci := 12) (j := 11) (cd := 0) eX12_isName_1 (isF (by decide +kernel)) rfl rfl rfl ?_
  refine ev_ic eX12_isName_4 (by decide) ?_
  refine ev_c_ne (tgt := 12) eX12_isName_5 (by decide) (fun hc1 => ?_) (fun hc1 => ?_)
  · rw [if_pos (show (C 12 11) ≠ 1 from hc1)] at h
    refine ev_ic eX12_isName_12 (by decide) ?_
    refine ev_loc (L' := [(0, .inr (.inl 12))]) rfl ?_
    exact m_12_isName_J13 hU h
  · rw [if_neg (show ¬ ((C 12 11) ≠ 1) from hc1)] at h
    refine ev_ic eX12_isName_8 (by decide) ?_
    refine ev_goto (tgt := 13) eX12_isName_9 (by decide) ?_
    refine ev_loc (L' := [(0, .inr (.inl 12))]) rfl ?_
    exact m_12_isName_J13 hU h
theorem eX12_find_0 : decode cX12_find 0 = .ok (.iconst 0, 1) := by decide +kernel
theorem eX12_find_1 : decode cX12_find 1 = .ok (.istore_n 3, 1) := by decide +kernel
theorem eX12_find_2 : decode cX12_find 2 = .ok (.iload_n 3, 1) := by decide +kernel
theorem eX12_find_3 : decode cX12_find 3 = .ok (.iload_n 2, 1) := by decide +kernel
theorem eX12_find_4 : decode cX12_find 4 = .ok (.if_icmp .ge 27, 3) := by decide +kernel
theorem eX12_find_7 : decode cX12_find 7 = .ok (.aload_n 0, 1) := by decide +kernel
theorem eX12_find_8 : decode cX12_find 8 = .ok (.getfield 43, 3) := by decide +kernel
theorem eX12_find_11 : decode cX12_find 11 = .ok (.iload_n 1, 1) := by decide +kernel
theorem eX12_find_12 : decode cX12_find 12 = .ok (.iload_n 3, 1) := by decide +kernel
theorem eX12_find_13 : decode cX12_find 13 = .ok (.iadd, 1) := by decide +kernel
theorem eX12_find_14 : decode cX12_find 14 = .ok (.laload, 1) := by decide +kernel
theorem eX12_find_15 : decode cX12_find 15 = .ok (.aload_n 0, 1) := by decide +kernel
theorem eX12_find_16 : decode cX12_find 16 = .ok (.getfield 179, 3) := by decide +kernel
theorem eX12_find_19 : decode cX12_find 19 = .ok (.lcmp, 1) := by decide +kernel
theorem eX12_find_20 : decode cX12_find 20 = .ok (.ifCond .ne 5, 3) := by decide +kernel
theorem eX12_find_23 : decode cX12_find 23 = .ok (.iload_n 3, 1) := by decide +kernel
theorem eX12_find_24 : decode cX12_find 24 = .ok (.ireturn, 1) := by decide +kernel
theorem eX12_find_25 : decode cX12_find 25 = .ok (.iinc 3 1, 3) := by decide +kernel
theorem eX12_find_28 : decode cX12_find 28 = .ok (.goto (-26), 3) := by decide +kernel
theorem eX12_find_31 : decode cX12_find 31 = .ok (.iconst (-1), 1) := by decide +kernel
theorem eX12_find_32 : decode cX12_find 32 = .ok (.ireturn, 1) := by decide +kernel
set_option maxRecDepth 100000 in
theorem m_12_find_L2 (hU : ev_uq ty ev_TR) : ∀ (n : Nat) {C : ev_C} {y1 y2 y3 : Int} {r : Int} {C' : ev_C}, f_12_find_L2 n C y1 y2 y3 = some (r, C') → ev_W l D cys ty ck_tags ev_TR kc_221 2 [(0, .inr (.inl 12)), (1, .inl y1), (2, .inl y2), (3, .inl y3)] [] C (fun r0 C0 => r0 = some (.inl r) ∧ C0 = C')
  | 0, _, _, _, _, _, _, h => by cases h
  | n + 1, C, y1, y2, y3, _, _, h => by
    unfold f_12_find_L2 at h
    refine ev_il eX12_find_2 rfl ?_
    refine ev_il eX12_find_3 rfl ?_
    refine ev_c_ge (tgt := 31) eX12_find_4 (by decide) (fun hc1 => ?_) (fun hc1 => ?_)
    · rw [if_pos (show y2 ≤ y3 from hc1)] at h
      refine ev_ic eX12_find_31 (by decide) ?_
      cases h
      exact ev_iret eX12_find_32 rfl ⟨rfl, rfl⟩
    · rw [if_neg (show ¬ (y2 ≤ y3) from hc1)] at h
      refine ev_al eX12_find_7 rfl ?_
      refine ev_getR lk_f (ci := 12) (j := 9) (cd := 3) eX12_find_8 (isF (by decide +kernel)) rfl rfl ?_
      refine ev_il eX12_find_11 rfl ?_
      refine ev_il eX12_find_12 rfl ?_
      refine ev_add eX12_find_13 ?_
      obtain ⟨hb2, h⟩ := ev_gd h
      refine ev_lald eX12_find_14 rfl rfl hb2.1 hb2.2 ?_
      refine ev_al eX12_find_15 rfl ?_
      refine ev_getL lk_f (ci := 12) (j := 17) (cd := 2) eX12_find_16 (isF (by decide +kernel)) rfl rfl rfl ?_
      refine ev_lcmp eX12_find_19 ?_
      refine ev_z_ne (tgt := 25) eX12_find_20 (by decide) (fun hc3 => ?_) (fun hc3 => ?_)
      · rw [if_pos (show ev_cmp ((C 19 (Int.toNat (ev_w (y1 + y3))))) ((C 12 17)) ≠ 0 from hc3)] at h
        refine ev_inc (L' := [(3, .inl (ev_w (y3 + 1))), (0, .inr (.inl 12)), (1, .inl y1), (2, .inl y2)]) eX12_find_25 (by decide) (by decide) rfl rfl ?_
        refine ev_goto (tgt := 2) eX12_find_28 (by decide) ?_
        refine ev_loc (L' := [(0, .inr (.inl 12)), (1, .inl y1), (2, .inl y2), (3, .inl (ev_w (y3 + 1)))]) rfl ?_
        exact m_12_find_L2 hU n h
      · rw [if_neg (show ¬ (ev_cmp ((C 19 (Int.toNat (ev_w (y1 + y3))))) ((C 12 17)) ≠ 0) from hc3)] at h
        refine ev_il eX12_find_23 rfl ?_
        cases h
        exact ev_iret eX12_find_24 rfl ⟨rfl, rfl⟩
set_option maxRecDepth 100000 in
theorem m_12_find (hU : ev_uq ty ev_TR) {C : ev_C} {x1 x2 : Int} {r : Int} {C' : ev_C} (h : f_12_find C x1 x2 = some (r, C')) : ev_Met l D cys ty ck_tags ev_TR kc_221 [.inr (.inl 12), .inl x1, .inl x2] C (fun r0 C0 => r0 = some (.inl r) ∧ C0 = C') := by
  unfold f_12_find at h
  refine ev_enter (by decide +kernel) (by decide +kernel) (Nat.le_of_ble_eq_true rfl) ?_
  show ev_W l D cys ty ck_tags ev_TR kc_221 0 [(0, .inr (.inl 12)), (1, .inl x1), (2, .inl x2)] [] C _
  refine ev_ic eX12_find_0 (by decide) ?_
  refine ev_is (L' := [(3, .inl 0), (0, .inr (.inl 12)), (1, .inl x1), (2, .inl x2)]) eX12_find_1 (by decide) rfl ?_
  refine ev_loc (L' := [(0, .inr (.inl 12)), (1, .inl x1), (2, .inl x2), (3, .inl 0)]) rfl ?_
  exact m_12_find_L2 hU 1000 h
theorem eX12_looksAt_0 : decode cX12_looksAt 0 = .ok (.aload_n 0, 1) := by decide +kernel
theorem eX12_looksAt_1 : decode cX12_looksAt 1 = .ok (.invokevirtual 205, 3) := by decide +kernel
theorem eX12_looksAt_4 : decode cX12_looksAt 4 = .ok (.ifCond .ne 9, 3) := by decide +kernel
theorem eX12_looksAt_7 : decode cX12_looksAt 7 = .ok (.aload_n 0, 1) := by decide +kernel
theorem eX12_looksAt_8 : decode cX12_looksAt 8 = .ok (.iconst 1, 1) := by decide +kernel
theorem eX12_looksAt_9 : decode cX12_looksAt 9 = .ok (.invokevirtual 192, 3) := by decide +kernel
theorem eX12_looksAt_12 : decode cX12_looksAt 12 = .ok (.ireturn, 1) := by decide +kernel
theorem eX12_looksAt_13 : decode cX12_looksAt 13 = .ok (.aload_n 0, 1) := by decide +kernel
theorem eX12_looksAt_14 : decode cX12_looksAt 14 = .ok (.aload_n 0, 1) := by decide +kernel
theorem eX12_looksAt_15 : decode cX12_looksAt 15 = .ok (.iload_n 1, 1) := by decide +kernel
theorem eX12_looksAt_16 : decode cX12_looksAt 16 = .ok (.iload_n 2, 1) := by decide +kernel
theorem eX12_looksAt_17 : decode cX12_looksAt 17 = .ok (.invokevirtual 209, 3) := by decide +kernel
theorem eX12_looksAt_20 : decode cX12_looksAt 20 = .ok (.putfield 202, 3) := by decide +kernel
theorem eX12_looksAt_23 : decode cX12_looksAt 23 = .ok (.aload_n 0, 1) := by decide +kernel
theorem eX12_looksAt_24 : decode cX12_looksAt 24 = .ok (.getfield 202, 3) := by decide +kernel
theorem eX12_looksAt_27 : decode cX12_looksAt 27 = .ok (.ifCond .ge 11, 3) := by decide +kernel
theorem eX12_looksAt_30 : decode cX12_looksAt 30 = .ok (.aload_n 0, 1) := by decide +kernel
theorem eX12_looksAt_31 : decode cX12_looksAt 31 = .ok (.iconst 3, 1) := by decide +kernel
theorem eX12_looksAt_32 : decode cX12_looksAt 32 = .ok (.invokevirtual 192, 3) := by decide +kernel
theorem eX12_looksAt_35 : decode cX12_looksAt 35 = .ok (.ifCond .eq 7, 3) := by decide +kernel
theorem eX12_looksAt_38 : decode cX12_looksAt 38 = .ok (.iconst 1, 1) := by decide +kernel
theorem eX12_looksAt_39 : decode cX12_looksAt 39 = .ok (.goto 4, 3) := by decide +kernel
theorem eX12_looksAt_42 : decode cX12_looksAt 42 = .ok (.iconst 0, 1) := by decide +kernel
theorem eX12_looksAt_43 : decode cX12_looksAt 43 = .ok (.ireturn, 1) := by decide +kernel
set_option maxRecDepth 100000 in
theorem m_12_looksAt (hU : ev_uq ty ev_TR) {C : ev_C} {x1 x2 : Int} {r : Int} {C' : ev_C} (h : f_12_looksAt C x1 x2 = some (r, C')) : ev_Met l D cys ty ck_tags ev_TR kc_224 [.inr (.inl 12), .inl x1, .inl x2] C (fun r0 C0 => r0 = some (.inl r) ∧ C0 = C') := by
  unfold f_12_looksAt at h
  refine ev_enter (by decide +kernel) (by decide +kernel) (Nat.le_of_ble_eq_true rfl) ?_
  show ev_W l D cys ty ck_tags ev_TR kc_224 0 [(0, .inr (.inl 12)), (1, .inl x1), (2, .inl x2)] [] C _
  refine ev_al eX12_looksAt_0 rfl ?_
  obtain ⟨r1, C1, hq1, h⟩ := ev_bd_some h
  refine ev_callV (kc := kc_223) (A := []) (T := []) (lk_m.1 _ _ 0 [223] (isM (by decide +kernel)) 223 (by decide)) eX12_looksAt_1 (m_12_isName hU hq1) rfl rfl rfl (by decide) (by decide) (Nat.le_of_ble_eq_true rfl) ?_
  rintro _ C1 ⟨rfl, rfl⟩
  show ev_W l D cys ty ck_tags ev_TR kc_224 4 [(0, .inr (.inl 12)), (1, .inl x1), (2, .inl x2)] [.inl r1] C1 _
  refine ev_z_ne (tgt := 13) eX12_looksAt_4 (by decide) (fun hc2 => ?_) (fun hc2 => ?_)
  · rw [if_pos (show r1 ≠ 0 from hc2)] at h
    refine ev_al eX12_looksAt_13 rfl ?_
    refine ev_al eX12_looksAt_14 rfl ?_
    refine ev_il eX12_looksAt_15 rfl ?_
    refine ev_il eX12_looksAt_16 rfl ?_
    obtain ⟨r3, C3, hq3, h⟩ := ev_bd_some h
    refine ev_callV (kc := kc_221) (A := [.inl x1, .inl x2]) (T := [.inr (.inl 12)]) (lk_m.1 _ _ 0 [221, 222] (isM (by decide +kernel)) 221 (by decide)) eX12_looksAt_17 (m_12_find hU hq3) rfl rfl rfl (by decide) (by decide) (Nat.le_of_ble_eq_true rfl) ?_
    rintro _ C3 ⟨rfl, rfl⟩
    show ev_W l D cys ty ck_tags ev_TR kc_224 20 [(0, .inr (.inl 12)), (1, .inl x1), (2, .inl x2)] [.inl r3, .inr (.inl 12)] C3 _
    refine ev_putI lk_f hU (ci := 12) (j := 18) (cd := 0) eX12_looksAt_20 (isF (by decide +kernel)) rfl rfl (Or.inl rfl) rfl ?_
    refine ev_al eX12_looksAt_23 rfl ?_
    refine ev_getI lk_f (ci := 12) (j := 18) (cd := 0) eX12_looksAt_24 (isF (by decide +kernel)) rfl rfl rfl ?_
    refine ev_z_ge (tgt := 38) eX12_looksAt_27 (by decide) (fun hc4 => ?_) (fun hc4 => ?_)
    · rw [if_pos (show 0 ≤ r3 from hc4)] at h
      refine ev_ic eX12_looksAt_38 (by decide) ?_
      refine ev_goto (tgt := 43) eX12_looksAt_39 (by decide) ?_
      cases h
      exact ev_zret eX12_looksAt_43 rfl (by decide) ⟨rfl, rfl⟩
    · rw [if_neg (show ¬ (0 ≤ r3) from hc4)] at h
      refine ev_al eX12_looksAt_30 rfl ?_
      refine ev_ic eX12_looksAt_31 (by decide) ?_
      obtain ⟨r5, C5, hq5, h⟩ := ev_bd_some h
      refine ev_callV (kc := kc_205) (A := [.inl 3]) (T := []) (lk_m.1 _ _ 0 [205] (isM (by decide +kernel)) 205 (by decide)) eX12_looksAt_32 (m_12_bad hU hq5) rfl rfl rfl (by decide) (by decide) (Nat.le_of_ble_eq_true rfl) ?_
      rintro _ C5 ⟨rfl, rfl⟩
      show ev_W l D cys ty ck_tags ev_TR kc_224 35 [(0, .inr (.inl 12)), (1, .inl x1), (2, .inl x2)] [.inl r5] C5 _
      refine ev_z_eq (tgt := 42) eX12_looksAt_35 (by decide) (fun hc6 => ?_) (fun hc6 => ?_)
      · rw [if_pos (show r5 = 0 from hc6)] at h
        refine ev_ic eX12_looksAt_42 (by decide) ?_
        cases h
        exact ev_zret eX12_looksAt_43 rfl (by decide) ⟨rfl, rfl⟩
      · rw [if_neg (show ¬ (r5 = 0) from hc6)] at h
        refine ev_ic eX12_looksAt_38 (by decide) ?_
        refine ev_goto (tgt := 43) eX12_looksAt_39 (by decide) ?_
        cases h
        exact ev_zret eX12_looksAt_43 rfl (by decide) ⟨rfl, rfl⟩
  · rw [if_neg (show ¬ (r1 ≠ 0) from hc2)] at h
    refine ev_al eX12_looksAt_7 rfl ?_
    refine ev_ic eX12_looksAt_8 (by decide) ?_
    obtain ⟨r7, C7, hq7, h⟩ := ev_bd_some h
    refine ev_callV (kc := kc_205) (A := [.inl 1]) (T := []) (lk_m.1 _ _ 0 [205] (isM (by decide +kernel)) 205 (by decide)) eX12_looksAt_9 (m_12_bad hU hq7) rfl rfl rfl (by decide) (by decide) (Nat.le_of_ble_eq_true rfl) ?_
    rintro _ C7 ⟨rfl, rfl⟩
    show ev_W l D cys ty ck_tags ev_TR kc_224 12 [(0, .inr (.inl 12)), (1, .inl x1), (2, .inl x2)] [.inl r7] C7 _
    obtain ⟨hb8, h⟩ := ev_gd h
    cases h
    exact ev_zret eX12_looksAt_12 rfl hb8 ⟨rfl, rfl⟩
theorem eX12_takesName_0 : decode cX12_takesName 0 = .ok (.aload_n 0, 1) := by decide +kernel
theorem eX12_takesName_1 : decode cX12_takesName 1 = .ok (.iload_n 1, 1) := by decide +kernel
theorem eX12_takesName_2 : decode cX12_takesName 2 = .ok (.iload_n 2, 1) := by decide +kernel
theorem eX12_takesName_3 : decode cX12_takesName 3 = .ok (.invokevirtual 213, 3) := by decide +kernel
theorem eX12_takesName_6 : decode cX12_takesName 6 = .ok (.ifCond .ne 5, 3) := by decide +kernel
theorem eX12_takesName_9 : decode cX12_takesName 9 = .ok (.iconst 0, 1) := by decide +kernel
theorem eX12_takesName_10 : decode cX12_takesName 10 = .ok (.ireturn, 1) := by decide +kernel
theorem eX12_takesName_11 : decode cX12_takesName 11 = .ok (.aload_n 0, 1) := by decide +kernel
theorem eX12_takesName_12 : decode cX12_takesName 12 = .ok (.invokevirtual 195, 3) := by decide +kernel
theorem eX12_takesName_15 : decode cX12_takesName 15 = .ok (.iconst 1, 1) := by decide +kernel
theorem eX12_takesName_16 : decode cX12_takesName 16 = .ok (.ireturn, 1) := by decide +kernel
set_option maxRecDepth 100000 in
theorem m_12_takesName (hU : ev_uq ty ev_TR) {C : ev_C} {x1 x2 : Int} {r : Int} {C' : ev_C} (h : f_12_takesName C x1 x2 = some (r, C')) : ev_Met l D cys ty ck_tags ev_TR kc_258 [.inr (.inl 12), .inl x1, .inl x2] C (fun r0 C0 => r0 = some (.inl r) ∧ C0 = C') := by
  unfold f_12_takesName at h
  refine ev_enter (by decide +kernel) (by decide +kernel) (Nat.le_of_ble_eq_true rfl) ?_
  show ev_W l D cys ty ck_tags ev_TR kc_258 0 [(0, .inr (.inl 12)), (1, .inl x1), (2, .inl x2)] [] C _
  refine ev_al eX12_takesName_0 rfl ?_
  refine ev_il eX12_takesName_1 rfl ?_
  refine ev_il eX12_takesName_2 rfl ?_
  obtain ⟨r1, C1, hq1, h⟩ := ev_bd_some h
  refine ev_callV (kc := kc_224) (A := [.inl x1, .inl x2]) (T := []) (lk_m.1 _ _ 0 [224, 225] (isM (by decide +kernel)) 224 (by decide)) eX12_takesName_3 (m_12_looksAt hU hq1) rfl rfl rfl (by decide) (by decide) (Nat.le_of_ble_eq_true rfl) ?_
  rintro _ C1 ⟨rfl, rfl⟩
  show ev_W l D cys ty ck_tags ev_TR kc_258 6 [(0, .inr (.inl 12)), (1, .inl x1), (2, .inl x2)] [.inl r1] C1 _
  refine ev_z_ne (tgt := 11) eX12_takesName_6 (by decide) (fun hc2 => ?_) (fun hc2 => ?_)
  · rw [if_pos (show r1 ≠ 0 from hc2)] at h
    refine ev_al eX12_takesName_11 rfl ?_
    obtain ⟨C3, hq3, h⟩ := ev_bv_some h
    refine ev_callV (kc := kc_209) (A := []) (T := []) (lk_m.1 _ _ 0 [209] (isM (by decide +kernel)) 209 (by decide)) eX12_takesName_12 (m_12_go hU hq3) rfl rfl rfl (by decide) (by decide) (Nat.le_of_ble_eq_true rfl) ?_
    rintro _ C3 ⟨rfl, rfl⟩
    show ev_W l D cys ty ck_tags ev_TR kc_258 15 [(0, .inr (.inl 12)), (1, .inl x1), (2, .inl x2)] [] C3 _
    refine ev_ic eX12_takesName_15 (by decide) ?_
    cases h
    exact ev_zret eX12_takesName_16 rfl (by decide) ⟨rfl, rfl⟩
  · rw [if_neg (show ¬ (r1 ≠ 0) from hc2)] at h
    refine ev_ic eX12_takesName_9 (by decide) ?_
    cases h
    exact ev_zret eX12_takesName_10 rfl (by decide) ⟨rfl, rfl⟩
theorem eX12_bitOf_0 : decode cX12_bitOf 0 = .ok (.iload_n 0, 1) := by decide +kernel
theorem eX12_bitOf_1 : decode cX12_bitOf 1 = .ok (.iload_n 1, 1) := by decide +kernel
theorem eX12_bitOf_2 : decode cX12_bitOf 2 = .ok (.ishr, 1) := by decide +kernel
theorem eX12_bitOf_3 : decode cX12_bitOf 3 = .ok (.iconst 1, 1) := by decide +kernel
theorem eX12_bitOf_4 : decode cX12_bitOf 4 = .ok (.iand, 1) := by decide +kernel
theorem eX12_bitOf_5 : decode cX12_bitOf 5 = .ok (.iconst 1, 1) := by decide +kernel
theorem eX12_bitOf_6 : decode cX12_bitOf 6 = .ok (.if_icmp .ne 7, 3) := by decide +kernel
theorem eX12_bitOf_9 : decode cX12_bitOf 9 = .ok (.iconst 1, 1) := by decide +kernel
theorem eX12_bitOf_10 : decode cX12_bitOf 10 = .ok (.goto 4, 3) := by decide +kernel
theorem eX12_bitOf_13 : decode cX12_bitOf 13 = .ok (.iconst 0, 1) := by decide +kernel
theorem eX12_bitOf_14 : decode cX12_bitOf 14 = .ok (.ireturn, 1) := by decide +kernel
set_option maxRecDepth 100000 in
theorem m_12_bitOf (hU : ev_uq ty ev_TR) {C : ev_C} {x0 x1 : Int} {r : Int} {C' : ev_C} (h : f_12_bitOf C x0 x1 = some (r, C')) : ev_Met l D cys ty ck_tags ev_TR kc_202 [.inl x0, .inl x1] C (fun r0 C0 => r0 = some (.inl r) ∧ C0 = C') := by
  unfold f_12_bitOf at h
  refine ev_enter (by decide +kernel) (by decide +kernel) (Nat.le_of_ble_eq_true rfl) ?_
  show ev_W l D cys ty ck_tags ev_TR kc_202 0 [(0, .inl x0), (1, .inl x1)] [] C _
  refine ev_il eX12_bitOf_0 rfl ?_
  refine ev_il eX12_bitOf_1 rfl ?_
  refine ev_ishr eX12_bitOf_2 ?_
  refine ev_ic eX12_bitOf_3 (by decide) ?_
  refine ev_iand eX12_bitOf_4 ?_
  refine ev_ic eX12_bitOf_5 (by decide) ?_
  refine ev_c_ne (tgt := 13) eX12_bitOf_6 (by decide) (fun hc1 => ?_) (fun hc1 => ?_)
  · rw [if_pos (show ev_and (ev_shr x0 x1) 1 ≠ 1 from hc1)] at h
    refine ev_ic eX12_bitOf_13 (by decide) ?_
    cases h
    exact ev_zret eX12_bitOf_14 rfl (by decide) ⟨rfl, rfl⟩
  · rw [if_neg (show ¬ (ev_and (ev_shr x0 x1) 1 ≠ 1) from hc1)] at h
    refine ev_ic eX12_bitOf_9 (by decide) ?_
    refine ev_goto (tgt := 14) eX12_bitOf_10 (by decide) ?_
    cases h
    exact ev_zret eX12_bitOf_14 rfl (by decide) ⟨rfl, rfl⟩
theorem eX12_sets_0 : decode cX12_sets 0 = .ok (.aload_n 0, 1) := by decide +kernel
theorem eX12_sets_1 : decode cX12_sets 1 = .ok (.getfield 37, 3) := by decide +kernel
theorem eX12_sets_4 : decode cX12_sets 4 = .ok (.iload_n 1, 1) := by decide +kernel
theorem eX12_sets_5 : decode cX12_sets 5 = .ok (.iaload, 1) := by decide +kernel
theorem eX12_sets_6 : decode cX12_sets 6 = .ok (.aload_n 0, 1) := by decide +kernel
theorem eX12_sets_7 : decode cX12_sets 7 = .ok (.getfield 202, 3) := by decide +kernel
theorem eX12_sets_10 : decode cX12_sets 10 = .ok (.invokestatic 217, 3) := by decide +kernel
theorem eX12_sets_13 : decode cX12_sets 13 = .ok (.ifCond .eq 9, 3) := by decide +kernel
theorem eX12_sets_16 : decode cX12_sets 16 = .ok (.aload_n 0, 1) := by decide +kernel
theorem eX12_sets_17 : decode cX12_sets 17 = .ok (.iconst 3, 1) := by decide +kernel
theorem eX12_sets_18 : decode cX12_sets 18 = .ok (.invokevirtual 192, 3) := by decide +kernel
theorem eX12_sets_21 : decode cX12_sets 21 = .ok (.ireturn, 1) := by decide +kernel
theorem eX12_sets_22 : decode cX12_sets 22 = .ok (.aload_n 0, 1) := by decide +kernel
theorem eX12_sets_23 : decode cX12_sets 23 = .ok (.getfield 37, 3) := by decide +kernel
theorem eX12_sets_26 : decode cX12_sets 26 = .ok (.iload_n 1, 1) := by decide +kernel
theorem eX12_sets_27 : decode cX12_sets 27 = .ok (.dup2, 1) := by decide +kernel
theorem eX12_sets_28 : decode cX12_sets 28 = .ok (.iaload, 1) := by decide +kernel
theorem eX12_sets_29 : decode cX12_sets 29 = .ok (.iconst 1, 1) := by decide +kernel
theorem eX12_sets_30 : decode cX12_sets 30 = .ok (.aload_n 0, 1) := by decide +kernel
theorem eX12_sets_31 : decode cX12_sets 31 = .ok (.getfield 202, 3) := by decide +kernel
theorem eX12_sets_34 : decode cX12_sets 34 = .ok (.ishl, 1) := by decide +kernel
theorem eX12_sets_35 : decode cX12_sets 35 = .ok (.ior, 1) := by decide +kernel
theorem eX12_sets_36 : decode cX12_sets 36 = .ok (.iastore, 1) := by decide +kernel
theorem eX12_sets_37 : decode cX12_sets 37 = .ok (.aload_n 0, 1) := by decide +kernel
theorem eX12_sets_38 : decode cX12_sets 38 = .ok (.invokevirtual 195, 3) := by decide +kernel
theorem eX12_sets_41 : decode cX12_sets 41 = .ok (.iconst 1, 1) := by decide +kernel
theorem eX12_sets_42 : decode cX12_sets 42 = .ok (.ireturn, 1) := by decide +kernel
set_option maxRecDepth 100000 in
theorem m_12_sets (hU : ev_uq ty ev_TR) {C : ev_C} {x1 : Int} {r : Int} {C' : ev_C} (h : f_12_sets C x1 = some (r, C')) : ev_Met l D cys ty ck_tags ev_TR kc_314 [.inr (.inl 12), .inl x1] C (fun r0 C0 => r0 = some (.inl r) ∧ C0 = C') := by
  unfold f_12_sets at h
  refine ev_enter (by decide +kernel) (by decide +kernel) (Nat.le_of_ble_eq_true rfl) ?_
  show ev_W l D cys ty ck_tags ev_TR kc_314 0 [(0, .inr (.inl 12)), (1, .inl x1)] [] C _
  refine ev_al eX12_sets_0 rfl ?_
  refine ev_getR lk_f (ci := 12) (j := 7) (cd := 3) eX12_sets_1 (isF (by decide +kernel)) rfl rfl ?_
  refine ev_il eX12_sets_4 rfl ?_
  obtain ⟨hb1, h⟩ := ev_gd h
  refine ev_iald eX12_sets_5 rfl rfl hb1.1 hb1.2 ?_
  refine ev_al eX12_sets_6 rfl ?_
  refine ev_getI lk_f (ci := 12) (j := 18) (cd := 0) eX12_sets_7 (isF (by decide +kernel)) rfl rfl rfl ?_
  obtain ⟨r2, C2, hq2, h⟩ := ev_bd_some h
  refine ev_callS (kc := kc_202) (A := [.inl ((C 35 (Int.toNat x1))), .inl ((C 12 18))]) (T := []) (lk_m.1 _ _ 1 [202] (isM (by decide +kernel)) 202 (by decide)) eX12_sets_10 (m_12_bitOf hU hq2) rfl rfl (by decide) (by decide) (Nat.le_of_ble_eq_true rfl) ?_
  rintro _ C2 ⟨rfl, rfl⟩
  show ev_W l D cys ty ck_tags ev_TR kc_314 13 [(0, .inr (.inl 12)), (1, .inl x1)] [.inl r2] C2 _
  refine ev_z_eq (tgt := 22) eX12_sets_13 (by decide) (fun hc3 => ?_) (fun hc3 => ?_)
  · rw [if_pos (show r2 = 0 from hc3)] at h
    refine ev_al eX12_sets_22 rfl ?_
    refine ev_getR lk_f (ci := 12) (j := 7) (cd := 3) eX12_sets_23 (isF (by decide +kernel)) rfl rfl ?_
    refine ev_il eX12_sets_26 rfl ?_
    refine ev_dup2 eX12_sets_27 rfl rfl ?_
    obtain ⟨hb4, h⟩ := ev_gd h
    refine ev_iald eX12_sets_28 rfl rfl hb4.1 hb4.2 ?_
    refine ev_ic eX12_sets_29 (by decide) ?_
    refine ev_al eX12_sets_30 rfl ?_
    refine ev_getI lk_f (ci := 12) (j := 18) (cd := 0) eX12_sets_31 (isF (by decide +kernel)) rfl rfl rfl ?_
    refine ev_ishl eX12_sets_34 ?_
    refine ev_ior eX12_sets_35 ?_
    obtain ⟨hb5, h⟩ := ev_gd h
    refine ev_iast hU eX12_sets_36 rfl rfl hb5.1 hb5.2 ?_
    refine ev_al eX12_sets_37 rfl ?_
    obtain ⟨C6, hq6, h⟩ := ev_bv_some h
    refine ev_callV (kc := kc_209) (A := []) (T := []) (lk_m.1 _ _ 0 [209] (isM (by decide +kernel)) 209 (by decide)) eX12_sets_38 (m_12_go hU hq6) rfl rfl rfl (by decide) (by decide) (Nat.le_of_ble_eq_true rfl) ?_
    rintro _ C6 ⟨rfl, rfl⟩
    show ev_W l D cys ty ck_tags ev_TR kc_314 41 [(0, .inr (.inl 12)), (1, .inl x1)] [] C6 _
    refine ev_ic eX12_sets_41 (by decide) ?_
    cases h
    exact ev_zret eX12_sets_42 rfl (by decide) ⟨rfl, rfl⟩
  · rw [if_neg (show ¬ (r2 = 0) from hc3)] at h
    refine ev_al eX12_sets_16 rfl ?_
    refine ev_ic eX12_sets_17 (by decide) ?_
    obtain ⟨r7, C7, hq7, h⟩ := ev_bd_some h
    refine ev_callV (kc := kc_205) (A := [.inl 3]) (T := []) (lk_m.1 _ _ 0 [205] (isM (by decide +kernel)) 205 (by decide)) eX12_sets_18 (m_12_bad hU hq7) rfl rfl rfl (by decide) (by decide) (Nat.le_of_ble_eq_true rfl) ?_
    rintro _ C7 ⟨rfl, rfl⟩
    show ev_W l D cys ty ck_tags ev_TR kc_314 21 [(0, .inr (.inl 12)), (1, .inl x1)] [.inl r7] C7 _
    obtain ⟨hb8, h⟩ := ev_gd h
    cases h
    exact ev_zret eX12_sets_21 rfl hb8 ⟨rfl, rfl⟩
theorem eX12_isIn_0 : decode cX12_isIn 0 = .ok (.iload_n 0, 1) := by decide +kernel
theorem eX12_isIn_1 : decode cX12_isIn 1 = .ok (.iload_n 1, 1) := by decide +kernel
theorem eX12_isIn_2 : decode cX12_isIn 2 = .ok (.if_icmp .lt 12, 3) := by decide +kernel
theorem eX12_isIn_5 : decode cX12_isIn 5 = .ok (.iload_n 0, 1) := by decide +kernel
theorem eX12_isIn_6 : decode cX12_isIn 6 = .ok (.iload_n 2, 1) := by decide +kernel
theorem eX12_isIn_7 : decode cX12_isIn 7 = .ok (.if_icmp .gt 7, 3) := by decide +kernel
theorem eX12_isIn_10 : decode cX12_isIn 10 = .ok (.iconst 1, 1) := by decide +kernel
theorem eX12_isIn_11 : decode cX12_isIn 11 = .ok (.goto 4, 3) := by decide +kernel
theorem eX12_isIn_14 : decode cX12_isIn 14 = .ok (.iconst 0, 1) := by decide +kernel
theorem eX12_isIn_15 : decode cX12_isIn 15 = .ok (.ireturn, 1) := by decide +kernel
set_option maxRecDepth 100000 in
theorem m_12_isIn (hU : ev_uq ty ev_TR) {C : ev_C} {x0 x1 x2 : Int} {r : Int} {C' : ev_C} (h : f_12_isIn C x0 x1 x2 = some (r, C')) : ev_Met l D cys ty ck_tags ev_TR kc_190 [.inl x0, .inl x1, .inl x2] C (fun r0 C0 => r0 = some (.inl r) ∧ C0 = C') := by
  unfold f_12_isIn at h
  refine ev_enter (by decide +kernel) (by decide +kernel) (Nat.le_of_ble_eq_true rfl) ?_
  show ev_W l D cys ty ck_tags ev_TR kc_190 0 [(0, .inl x0), (1, .inl x1), (2, .inl x2)] [] C _
  refine ev_il eX12_isIn_0 rfl ?_
  refine ev_il eX12_isIn_1 rfl ?_
  refine ev_c_lt (tgt := 14) eX12_isIn_2 (by decide) (fun hc1 => ?_) (fun hc1 => ?_)
  · rw [if_pos (show x0 < x1 from hc1)] at h
    refine ev_ic eX12_isIn_14 (by decide) ?_
    cases h
    exact ev_zret eX12_isIn_15 rfl (by decide) ⟨rfl, rfl⟩
  · rw [if_neg (show ¬ (x0 < x1) from hc1)] at h
    refine ev_il eX12_isIn_5 rfl ?_
    refine ev_il eX12_isIn_6 rfl ?_
    refine ev_c_gt (tgt := 14) eX12_isIn_7 (by decide) (fun hc2 => ?_) (fun hc2 => ?_)
    · rw [if_pos (show x2 < x0 from hc2)] at h
      refine ev_ic eX12_isIn_14 (by decide) ?_
      cases h
      exact ev_zret eX12_isIn_15 rfl (by decide) ⟨rfl, rfl⟩
    · rw [if_neg (show ¬ (x2 < x0) from hc2)] at h
      refine ev_ic eX12_isIn_10 (by decide) ?_
      refine ev_goto (tgt := 15) eX12_isIn_11 (by decide) ?_
      cases h
      exact ev_zret eX12_isIn_15 rfl (by decide) ⟨rfl, rfl⟩
theorem eX12_takes_0 : decode cX12_takes 0 = .ok (.aload_n 0, 1) := by decide +kernel
theorem eX12_takes_1 : decode cX12_takes 1 = .ok (.getfield 166, 3) := by decide +kernel
theorem eX12_takes_4 : decode cX12_takes 4 = .ok (.iconst 2, 1) := by decide +kernel
theorem eX12_takes_5 : decode cX12_takes 5 = .ok (.if_icmp .eq 9, 3) := by decide +kernel
theorem eX12_takes_8 : decode cX12_takes 8 = .ok (.aload_n 0, 1) := by decide +kernel
theorem eX12_takes_9 : decode cX12_takes 9 = .ok (.iconst 1, 1) := by decide +kernel
theorem eX12_takes_10 : decode cX12_takes 10 = .ok (.invokevirtual 192, 3) := by decide +kernel
theorem eX12_takes_13 : decode cX12_takes 13 = .ok (.ireturn, 1) := by decide +kernel
theorem eX12_takes_14 : decode cX12_takes 14 = .ok (.aload_n 0, 1) := by decide +kernel
theorem eX12_takes_15 : decode cX12_takes 15 = .ok (.getfield 176, 3) := by decide +kernel
theorem eX12_takes_18 : decode cX12_takes 18 = .ok (.iload_n 1, 1) := by decide +kernel
theorem eX12_takes_19 : decode cX12_takes 19 = .ok (.iload_n 2, 1) := by decide +kernel
theorem eX12_takes_20 : decode cX12_takes 20 = .ok (.invokestatic 198, 3) := by decide +kernel
theorem eX12_takes_23 : decode cX12_takes 23 = .ok (.ifCond .ne 9, 3) := by decide +kernel
theorem eX12_takes_26 : decode cX12_takes 26 = .ok (.aload_n 0, 1) := by decide +kernel
theorem eX12_takes_27 : decode cX12_takes 27 = .ok (.iconst 2, 1) := by decide +kernel
theorem eX12_takes_28 : decode cX12_takes 28 = .ok (.invokevirtual 192, 3) := by decide +kernel
theorem eX12_takes_31 : decode cX12_takes 31 = .ok (.ireturn, 1) := by decide +kernel
theorem eX12_takes_32 : decode cX12_takes 32 = .ok (.aload_n 0, 1) := by decide +kernel
theorem eX12_takes_33 : decode cX12_takes 33 = .ok (.aload_n 0, 1) := by decide +kernel
theorem eX12_takes_34 : decode cX12_takes 34 = .ok (.getfield 176, 3) := by decide +kernel
theorem eX12_takes_37 : decode cX12_takes 37 = .ok (.putfield 202, 3) := by decide +kernel
theorem eX12_takes_40 : decode cX12_takes 40 = .ok (.aload_n 0, 1) := by decide +kernel
theorem eX12_takes_41 : decode cX12_takes 41 = .ok (.invokevirtual 195, 3) := by decide +kernel
theorem eX12_takes_44 : decode cX12_takes 44 = .ok (.iconst 1, 1) := by decide +kernel
theorem eX12_takes_45 : decode cX12_takes 45 = .ok (.ireturn, 1) := by decide +kernel
set_option maxRecDepth 100000 in
theorem m_12_takes (hU : ev_uq ty ev_TR) {C : ev_C} {x1 x2 : Int} {r : Int} {C' : ev_C} (h : f_12_takes C x1 x2 = some (r, C')) : ev_Met l D cys ty ck_tags ev_TR kc_257 [.inr (.inl 12), .inl x1, .inl x2] C (fun r0 C0 => r0 = some (.inl r) ∧ C0 = C') := by
  unfold f_12_takes at h
  refine ev_enter (by decide +kernel) (by decide +kernel) (Nat.le_of_ble_eq_true rfl) ?_
  show ev_W l D cys ty ck_tags ev_TR kc_257 0 [(0, .inr (.inl 12)), (1, .inl x1), (2, .inl x2)] [] C _
  refine ev_al eX12_takes_0 rfl ?_
  refine ev_getI lk_f (ci := 12) (j := 11) (cd := 0) eX12_takes_1 (isF (by decide +kernel)) rfl rfl rfl ?_
  refine ev_ic eX12_takes_4 (by decide) ?_
  refine ev_c_eq (tgt := 14) eX12_takes_5 (by decide) (fun hc1 => ?_) (fun hc1 => ?_)
  · rw [if_pos (show (C 12 11) = 2 from hc1)] at h
    refine ev_al eX12_takes_14 rfl ?_
    refine ev_getI lk_f (ci := 12) (j := 14) (cd := 0) eX12_takes_15 (isF (by decide +kernel)) rfl rfl rfl ?_
    refine ev_il eX12_takes_18 rfl ?_
    refine ev_il eX12_takes_19 rfl ?_
    obtain ⟨r2, C2, hq2, h⟩ := ev_bd_some h
    refine ev_callS (kc := kc_190) (A := [.inl ((C 12 14)), .inl x1, .inl x2]) (T := []) (lk_m.1 _ _ 1 [190, 191, 192, 193, 194, 195, 196, 197, 198, 199] (isM (by decide +kernel)) 190 (by decide)) eX12_takes_20 (m_12_isIn hU hq2) rfl rfl (by decide) (by decide) (Nat.le_of_ble_eq_true rfl) ?_
    rintro _ C2 ⟨rfl, rfl⟩
    show ev_W l D cys ty ck_tags ev_TR kc_257 23 [(0, .inr (.inl 12)), (1, .inl x1), (2, .inl x2)] [.inl r2] C2 _
    refine ev_z_ne (tgt := 32) eX12_takes_23 (by decide) (fun hc3 => ?_) (fun hc3 => ?_)
    · rw [if_pos (show r2 ≠ 0 from hc3)] at h
      refine ev_al eX12_takes_32 rfl ?_
      refine ev_al eX12_takes_33 rfl ?_
      refine ev_getI lk_f (ci := 12) (j := 14) (cd := 0) eX12_takes_34 (isF (by decide +kernel)) rfl rfl rfl ?_
      refine ev_putI lk_f hU (ci := 12) (j := 18) (cd := 0) eX12_takes_37 (isF (by decide +kernel)) rfl rfl (Or.inl rfl) rfl ?_
      refine ev_al eX12_takes_40 rfl ?_
      obtain ⟨C4, hq4, h⟩ := ev_bv_some h
      refine ev_callV (kc := kc_209) (A := []) (T := []) (lk_m.1 _ _ 0 [209] (isM (by decide +kernel)) 209 (by decide)) eX12_takes_41 (m_12_go hU hq4) rfl rfl rfl (by decide) (by decide) (Nat.le_of_ble_eq_true rfl) ?_
      rintro _ C4 ⟨rfl, rfl⟩
      show ev_W l D cys ty ck_tags ev_TR kc_257 44 [(0, .inr (.inl 12)), (1, .inl x1), (2, .inl x2)] [] C4 _
      refine ev_ic eX12_takes_44 (by decide) ?_
      cases h
      exact ev_zret eX12_takes_45 rfl (by decide) ⟨rfl, rfl⟩
    · rw [if_neg (show ¬ (r2 ≠ 0) from hc3)] at h
      refine ev_al eX12_takes_26 rfl ?_
      refine ev_ic eX12_takes_27 (by decide) ?_
      obtain ⟨r5, C5, hq5, h⟩ := ev_bd_some h
      refine ev_callV (kc := kc_205) (A := [.inl 2]) (T := []) (lk_m.1 _ _ 0 [205] (isM (by decide +kernel)) 205 (by decide)) eX12_takes_28 (m_12_bad hU hq5) rfl rfl rfl (by decide) (by decide) (Nat.le_of_ble_eq_true rfl) ?_
      rintro _ C5 ⟨rfl, rfl⟩
      show ev_W l D cys ty ck_tags ev_TR kc_257 31 [(0, .inr (.inl 12)), (1, .inl x1), (2, .inl x2)] [.inl r5] C5 _
      obtain ⟨hb6, h⟩ := ev_gd h
      cases h
      exact ev_zret eX12_takes_31 rfl hb6 ⟨rfl, rfl⟩
  · rw [if_neg (show ¬ ((C 12 11) = 2) from hc1)] at h
    refine ev_al eX12_takes_8 rfl ?_
    refine ev_ic eX12_takes_9 (by decide) ?_
    obtain ⟨r7, C7, hq7, h⟩ := ev_bd_some h
    refine ev_callV (kc := kc_205) (A := [.inl 1]) (T := []) (lk_m.1 _ _ 0 [205] (isM (by decide +kernel)) 205 (by decide)) eX12_takes_10 (m_12_bad hU hq7) rfl rfl rfl (by decide) (by decide) (Nat.le_of_ble_eq_true rfl) ?_
    rintro _ C7 ⟨rfl, rfl⟩
    show ev_W l D cys ty ck_tags ev_TR kc_257 13 [(0, .inr (.inl 12)), (1, .inl x1), (2, .inl x2)] [.inl r7] C7 _
    obtain ⟨hb8, h⟩ := ev_gd h
    cases h
    exact ev_zret eX12_takes_13 rfl hb8 ⟨rfl, rfl⟩
theorem eX12_pairs_0 : decode cX12_pairs 0 = .ok (.aload_n 0, 1) := by decide +kernel
theorem eX12_pairs_1 : decode cX12_pairs 1 = .ok (.ldc2_w 106, 3) := by decide +kernel
theorem eX12_pairs_4 : decode cX12_pairs 4 = .ok (.invokevirtual 220, 3) := by decide +kernel
theorem eX12_pairs_7 : decode cX12_pairs 7 = .ok (.ifCond .eq 7, 3) := by decide +kernel
theorem eX12_pairs_10 : decode cX12_pairs 10 = .ok (.iconst 0, 1) := by decide +kernel
theorem eX12_pairs_11 : decode cX12_pairs 11 = .ok (.goto 60, 3) := by decide +kernel
theorem eX12_pairs_14 : decode cX12_pairs 14 = .ok (.aload_n 0, 1) := by decide +kernel
theorem eX12_pairs_15 : decode cX12_pairs 15 = .ok (.ldc2_w 116, 3) := by decide +kernel
theorem eX12_pairs_18 : decode cX12_pairs 18 = .ok (.invokevirtual 220, 3) := by decide +kernel
theorem eX12_pairs_21 : decode cX12_pairs 21 = .ok (.ifCond .eq 7, 3) := by decide +kernel
theorem eX12_pairs_24 : decode cX12_pairs 24 = .ok (.iconst 1, 1) := by decide +kernel
theorem eX12_pairs_25 : decode cX12_pairs 25 = .ok (.goto 46, 3) := by decide +kernel
theorem eX12_pairs_28 : decode cX12_pairs 28 = .ok (.aload_n 0, 1) := by decide +kernel
theorem eX12_pairs_29 : decode cX12_pairs 29 = .ok (.ldc2_w 118, 3) := by decide +kernel
theorem eX12_pairs_32 : decode cX12_pairs 32 = .ok (.invokevirtual 220, 3) := by decide +kernel
theorem eX12_pairs_35 : decode cX12_pairs 35 = .ok (.ifCond .eq 7, 3) := by decide +kernel
theorem eX12_pairs_38 : decode cX12_pairs 38 = .ok (.iconst 2, 1) := by decide +kernel
theorem eX12_pairs_39 : decode cX12_pairs 39 = .ok (.goto 32, 3) := by decide +kernel
theorem eX12_pairs_42 : decode cX12_pairs 42 = .ok (.aload_n 0, 1) := by decide +kernel
theorem eX12_pairs_43 : decode cX12_pairs 43 = .ok (.ldc2_w 120, 3) := by decide +kernel
theorem eX12_pairs_46 : decode cX12_pairs 46 = .ok (.invokevirtual 220, 3) := by decide +kernel
theorem eX12_pairs_49 : decode cX12_pairs 49 = .ok (.ifCond .eq 7, 3) := by decide +kernel
theorem eX12_pairs_52 : decode cX12_pairs 52 = .ok (.iconst 3, 1) := by decide +kernel
theorem eX12_pairs_53 : decode cX12_pairs 53 = .ok (.goto 18, 3) := by decide +kernel
theorem eX12_pairs_56 : decode cX12_pairs 56 = .ok (.aload_n 0, 1) := by decide +kernel
theorem eX12_pairs_57 : decode cX12_pairs 57 = .ok (.ldc2_w 122, 3) := by decide +kernel
theorem eX12_pairs_60 : decode cX12_pairs 60 = .ok (.invokevirtual 220, 3) := by decide +kernel
theorem eX12_pairs_63 : decode cX12_pairs 63 = .ok (.ifCond .eq 7, 3) := by decide +kernel
theorem eX12_pairs_66 : decode cX12_pairs 66 = .ok (.iconst 4, 1) := by decide +kernel
theorem eX12_pairs_67 : decode cX12_pairs 67 = .ok (.goto 4, 3) := by decide +kernel
theorem eX12_pairs_70 : decode cX12_pairs 70 = .ok (.iconst (-1), 1) := by decide +kernel
theorem eX12_pairs_71 : decode cX12_pairs 71 = .ok (.istore_n 1, 1) := by decide +kernel
theorem eX12_pairs_72 : decode cX12_pairs 72 = .ok (.iload_n 1, 1) := by decide +kernel
theorem eX12_pairs_73 : decode cX12_pairs 73 = .ok (.ifCond .ge 9, 3) := by decide +kernel
theorem eX12_pairs_76 : decode cX12_pairs 76 = .ok (.aload_n 0, 1) := by decide +kernel
theorem eX12_pairs_77 : decode cX12_pairs 77 = .ok (.iconst 1, 1) := by decide +kernel
theorem eX12_pairs_78 : decode cX12_pairs 78 = .ok (.invokevirtual 192, 3) := by decide +kernel
theorem eX12_pairs_81 : decode cX12_pairs 81 = .ok (.ireturn, 1) := by decide +kernel
theorem eX12_pairs_82 : decode cX12_pairs 82 = .ok (.aload_n 0, 1) := by decide +kernel
theorem eX12_pairs_83 : decode cX12_pairs 83 = .ok (.invokevirtual 195, 3) := by decide +kernel
theorem eX12_pairs_86 : decode cX12_pairs 86 = .ok (.aload_n 0, 1) := by decide +kernel
theorem eX12_pairs_87 : decode cX12_pairs 87 = .ok (.iload_n 1, 1) := by decide +kernel
theorem eX12_pairs_88 : decode cX12_pairs 88 = .ok (.ifCond .ne 8, 3) := by decide +kernel
theorem eX12_pairs_91 : decode cX12_pairs 91 = .ok (.bipush 26, 2) := by decide +kernel
theorem eX12_pairs_93 : decode cX12_pairs 93 = .ok (.goto 15, 3) := by decide +kernel
theorem eX12_pairs_96 : decode cX12_pairs 96 = .ok (.iload_n 1, 1) := by decide +kernel
theorem eX12_pairs_97 : decode cX12_pairs 97 = .ok (.iconst 1, 1) := by decide +kernel
theorem eX12_pairs_98 : decode cX12_pairs 98 = .ok (.if_icmp .ne 8, 3) := by decide +kernel
theorem eX12_pairs_101 : decode cX12_pairs 101 = .ok (.bipush 20, 2) := by decide +kernel
theorem eX12_pairs_103 : decode cX12_pairs 103 = .ok (.goto 5, 3) := by decide +kernel
theorem eX12_pairs_106 : decode cX12_pairs 106 = .ok (.bipush 32, 2) := by decide +kernel
theorem eX12_pairs_108 : decode cX12_pairs 108 = .ok (.aload_n 0, 1) := by decide +kernel
theorem eX12_pairs_109 : decode cX12_pairs 109 = .ok (.getfield 37, 3) := by decide +kernel
theorem eX12_pairs_112 : decode cX12_pairs 112 = .ok (.iload_n 1, 1) := by decide +kernel
theorem eX12_pairs_113 : decode cX12_pairs 113 = .ok (.ifCond .ne 7, 3) := by decide +kernel
theorem eX12_pairs_116 : decode cX12_pairs 116 = .ok (.iconst 1, 1) := by decide +kernel
theorem eX12_pairs_117 : decode cX12_pairs 117 = .ok (.goto 13, 3) := by decide +kernel
theorem eX12_pairs_120 : decode cX12_pairs 120 = .ok (.iload_n 1, 1) := by decide +kernel
theorem eX12_pairs_121 : decode cX12_pairs 121 = .ok (.iconst 1, 1) := by decide +kernel
theorem eX12_pairs_122 : decode cX12_pairs 122 = .ok (.if_icmp .ne 7, 3) := by decide +kernel
theorem eX12_pairs_125 : decode cX12_pairs 125 = .ok (.iconst 0, 1) := by decide +kernel
theorem eX12_pairs_126 : decode cX12_pairs 126 = .ok (.goto 4, 3) := by decide +kernel
theorem eX12_pairs_129 : decode cX12_pairs 129 = .ok (.iconst 2, 1) := by decide +kernel
theorem eX12_pairs_130 : decode cX12_pairs 130 = .ok (.iaload, 1) := by decide +kernel
theorem eX12_pairs_131 : decode cX12_pairs 131 = .ok (.invokevirtual 239, 3) := by decide +kernel
theorem eX12_pairs_134 : decode cX12_pairs 134 = .ok (.ifCond .ne 5, 3) := by decide +kernel
theorem eX12_pairs_137 : decode cX12_pairs 137 = .ok (.iconst 0, 1) := by decide +kernel
theorem eX12_pairs_138 : decode cX12_pairs 138 = .ok (.ireturn, 1) := by decide +kernel
theorem eX12_pairs_139 : decode cX12_pairs 139 = .ok (.aload_n 0, 1) := by decide +kernel
theorem eX12_pairs_140 : decode cX12_pairs 140 = .ok (.getfield 202, 3) := by decide +kernel
theorem eX12_pairs_143 : decode cX12_pairs 143 = .ok (.istore_n 2, 1) := by decide +kernel
theorem eX12_pairs_144 : decode cX12_pairs 144 = .ok (.aload_n 0, 1) := by decide +kernel
theorem eX12_pairs_145 : decode cX12_pairs 145 = .ok (.iload_n 1, 1) := by decide +kernel
theorem eX12_pairs_146 : decode cX12_pairs 146 = .ok (.iconst 1, 1) := by decide +kernel
theorem eX12_pairs_147 : decode cX12_pairs 147 = .ok (.if_icmp .ne 8, 3) := by decide +kernel
theorem eX12_pairs_150 : decode cX12_pairs 150 = .ok (.bipush 26, 2) := by decide +kernel
theorem eX12_pairs_152 : decode cX12_pairs 152 = .ok (.goto 15, 3) := by decide +kernel
theorem eX12_pairs_155 : decode cX12_pairs 155 = .ok (.iload_n 1, 1) := by decide +kernel
theorem eX12_pairs_156 : decode cX12_pairs 156 = .ok (.iconst 4, 1) := by decide +kernel
theorem eX12_pairs_157 : decode cX12_pairs 157 = .ok (.if_icmp .ne 8, 3) := by decide +kernel
theorem eX12_pairs_160 : decode cX12_pairs 160 = .ok (.bipush 32, 2) := by decide +kernel
theorem eX12_pairs_162 : decode cX12_pairs 162 = .ok (.goto 5, 3) := by decide +kernel
theorem eX12_pairs_165 : decode cX12_pairs 165 = .ok (.bipush 20, 2) := by decide +kernel
theorem eX12_pairs_167 : decode cX12_pairs 167 = .ok (.aload_n 0, 1) := by decide +kernel
theorem eX12_pairs_168 : decode cX12_pairs 168 = .ok (.getfield 37, 3) := by decide +kernel
theorem eX12_pairs_171 : decode cX12_pairs 171 = .ok (.iload_n 1, 1) := by decide +kernel
theorem eX12_pairs_172 : decode cX12_pairs 172 = .ok (.iconst 1, 1) := by decide +kernel
theorem eX12_pairs_173 : decode cX12_pairs 173 = .ok (.if_icmp .ne 7, 3) := by decide +kernel
theorem eX12_pairs_176 : decode cX12_pairs 176 = .ok (.iconst 1, 1) := by decide +kernel
theorem eX12_pairs_177 : decode cX12_pairs 177 = .ok (.goto 13, 3) := by decide +kernel
theorem eX12_pairs_180 : decode cX12_pairs 180 = .ok (.iload_n 1, 1) := by decide +kernel
theorem eX12_pairs_181 : decode cX12_pairs 181 = .ok (.iconst 4, 1) := by decide +kernel
theorem eX12_pairs_182 : decode cX12_pairs 182 = .ok (.if_icmp .ne 7, 3) := by decide +kernel
theorem eX12_pairs_185 : decode cX12_pairs 185 = .ok (.iconst 2, 1) := by decide +kernel
theorem eX12_pairs_186 : decode cX12_pairs 186 = .ok (.goto 4, 3) := by decide +kernel
theorem eX12_pairs_189 : decode cX12_pairs 189 = .ok (.iconst 0, 1) := by decide +kernel
theorem eX12_pairs_190 : decode cX12_pairs 190 = .ok (.iaload, 1) := by decide +kernel
theorem eX12_pairs_191 : decode cX12_pairs 191 = .ok (.invokevirtual 213, 3) := by decide +kernel
theorem eX12_pairs_194 : decode cX12_pairs 194 = .ok (.ifCond .ne 5, 3) := by decide +kernel
theorem eX12_pairs_197 : decode cX12_pairs 197 = .ok (.iconst 0, 1) := by decide +kernel
theorem eX12_pairs_198 : decode cX12_pairs 198 = .ok (.ireturn, 1) := by decide +kernel
theorem eX12_pairs_199 : decode cX12_pairs 199 = .ok (.aload_n 0, 1) := by decide +kernel
theorem eX12_pairs_200 : decode cX12_pairs 200 = .ok (.getfield 202, 3) := by decide +kernel
theorem eX12_pairs_203 : decode cX12_pairs 203 = .ok (.istore_n 3, 1) := by decide +kernel
theorem eX12_pairs_204 : decode cX12_pairs 204 = .ok (.iload_n 1, 1) := by decide +kernel
theorem eX12_pairs_205 : decode cX12_pairs 205 = .ok (.iconst 4, 1) := by decide +kernel
theorem eX12_pairs_206 : decode cX12_pairs 206 = .ok (.if_icmp .ne 8, 3) := by decide +kernel
theorem eX12_pairs_209 : decode cX12_pairs 209 = .ok (.iload_n 3, 1) := by decide +kernel
theorem eX12_pairs_210 : decode cX12_pairs 210 = .ok (.iload_n 2, 1) := by decide +kernel
theorem eX12_pairs_211 : decode cX12_pairs 211 = .ok (.if_icmp .eq 25, 3) := by decide +kernel
theorem eX12_pairs_214 : decode cX12_pairs 214 = .ok (.iload_n 1, 1) := by decide +kernel
theorem eX12_pairs_215 : decode cX12_pairs 215 = .ok (.iconst 2, 1) := by decide +kernel
theorem eX12_pairs_216 : decode cX12_pairs 216 = .ok (.if_icmp .ne 26, 3) := by decide +kernel
theorem eX12_pairs_219 : decode cX12_pairs 219 = .ok (.aload_n 0, 1) := by decide +kernel
theorem eX12_pairs_220 : decode cX12_pairs 220 = .ok (.getfield 37, 3) := by decide +kernel
theorem eX12_pairs_223 : decode cX12_pairs 223 = .ok (.bipush 40, 2) := by decide +kernel
theorem eX12_pairs_225 : decode cX12_pairs 225 = .ok (.bipush 6, 2) := by decide +kernel
theorem eX12_pairs_227 : decode cX12_pairs 227 = .ok (.iload_n 2, 1) := by decide +kernel
theorem eX12_pairs_228 : decode cX12_pairs 228 = .ok (.imul, 1) := by decide +kernel
theorem eX12_pairs_229 : decode cX12_pairs 229 = .ok (.iadd, 1) := by decide +kernel
theorem eX12_pairs_230 : decode cX12_pairs 230 = .ok (.iload_n 3, 1) := by decide +kernel
theorem eX12_pairs_231 : decode cX12_pairs 231 = .ok (.iadd, 1) := by decide +kernel
theorem eX12_pairs_232 : decode cX12_pairs 232 = .ok (.iaload, 1) := by decide +kernel
theorem eX12_pairs_233 : decode cX12_pairs 233 = .ok (.ifCond .le 9, 3) := by decide +kernel
theorem eX12_pairs_236 : decode cX12_pairs 236 = .ok (.aload_n 0, 1) := by decide +kernel
theorem eX12_pairs_237 : decode cX12_pairs 237 = .ok (.iconst 3, 1) := by decide +kernel
theorem eX12_pairs_238 : decode cX12_pairs 238 = .ok (.invokevirtual 192, 3) := by decide +kernel
theorem eX12_pairs_241 : decode cX12_pairs 241 = .ok (.ireturn, 1) := by decide +kernel
theorem eX12_pairs_242 : decode cX12_pairs 242 = .ok (.iload_n 1, 1) := by decide +kernel
theorem eX12_pairs_243 : decode cX12_pairs 243 = .ok (.iconst 2, 1) := by decide +kernel
theorem eX12_pairs_244 : decode cX12_pairs 244 = .ok (.if_icmp .ne 39, 3) := by decide +kernel
theorem eX12_pairs_247 : decode cX12_pairs 247 = .ok (.aload_n 0, 1) := by decide +kernel
theorem eX12_pairs_248 : decode cX12_pairs 248 = .ok (.invokevirtual 195, 3) := by decide +kernel
theorem eX12_pairs_251 : decode cX12_pairs 251 = .ok (.aload_n 0, 1) := by decide +kernel
theorem eX12_pairs_252 : decode cX12_pairs 252 = .ok (.iconst 1, 1) := by decide +kernel
theorem eX12_pairs_253 : decode cX12_pairs 253 = .ok (.bipush 9, 2) := by decide +kernel
theorem eX12_pairs_255 : decode cX12_pairs 255 = .ok (.invokevirtual 227, 3) := by decide +kernel
theorem eX12_pairs_258 : decode cX12_pairs 258 = .ok (.ifCond .ne 5, 3) := by decide +kernel
theorem eX12_pairs_261 : decode cX12_pairs 261 = .ok (.iconst 0, 1) := by decide +kernel
theorem eX12_pairs_262 : decode cX12_pairs 262 = .ok (.ireturn, 1) := by decide +kernel
theorem eX12_pairs_263 : decode cX12_pairs 263 = .ok (.aload_n 0, 1) := by decide +kernel
theorem eX12_pairs_264 : decode cX12_pairs 264 = .ok (.getfield 37, 3) := by decide +kernel
theorem eX12_pairs_267 : decode cX12_pairs 267 = .ok (.bipush 40, 2) := by decide +kernel
theorem eX12_pairs_269 : decode cX12_pairs 269 = .ok (.bipush 6, 2) := by decide +kernel
theorem eX12_pairs_271 : decode cX12_pairs 271 = .ok (.iload_n 2, 1) := by decide +kernel
theorem eX12_pairs_272 : decode cX12_pairs 272 = .ok (.imul, 1) := by decide +kernel
theorem eX12_pairs_273 : decode cX12_pairs 273 = .ok (.iadd, 1) := by decide +kernel
theorem eX12_pairs_274 : decode cX12_pairs 274 = .ok (.iload_n 3, 1) := by decide +kernel
theorem eX12_pairs_275 : decode cX12_pairs 275 = .ok (.iadd, 1) := by decide +kernel
theorem eX12_pairs_276 : decode cX12_pairs 276 = .ok (.aload_n 0, 1) := by decide +kernel
theorem eX12_pairs_277 : decode cX12_pairs 277 = .ok (.getfield 202, 3) := by decide +kernel
theorem eX12_pairs_280 : decode cX12_pairs 280 = .ok (.iastore, 1) := by decide +kernel
theorem eX12_pairs_281 : decode cX12_pairs 281 = .ok (.iconst 1, 1) := by decide +kernel
theorem eX12_pairs_282 : decode cX12_pairs 282 = .ok (.ireturn, 1) := by decide +kernel
theorem eX12_pairs_283 : decode cX12_pairs 283 = .ok (.aload_n 0, 1) := by decide +kernel
theorem eX12_pairs_284 : decode cX12_pairs 284 = .ok (.iload_n 1, 1) := by decide +kernel
theorem eX12_pairs_285 : decode cX12_pairs 285 = .ok (.ifCond .ne 8, 3) := by decide +kernel
theorem eX12_pairs_288 : decode cX12_pairs 288 = .ok (.bipush 34, 2) := by decide +kernel
theorem eX12_pairs_290 : decode cX12_pairs 290 = .ok (.goto 25, 3) := by decide +kernel
theorem eX12_pairs_293 : decode cX12_pairs 293 = .ok (.iload_n 1, 1) := by decide +kernel
theorem eX12_pairs_294 : decode cX12_pairs 294 = .ok (.iconst 1, 1) := by decide +kernel
theorem eX12_pairs_295 : decode cX12_pairs 295 = .ok (.if_icmp .ne 8, 3) := by decide +kernel
theorem eX12_pairs_298 : decode cX12_pairs 298 = .ok (.bipush 12, 2) := by decide +kernel
theorem eX12_pairs_300 : decode cX12_pairs 300 = .ok (.goto 15, 3) := by decide +kernel
theorem eX12_pairs_303 : decode cX12_pairs 303 = .ok (.iload_n 1, 1) := by decide +kernel
theorem eX12_pairs_304 : decode cX12_pairs 304 = .ok (.iconst 3, 1) := by decide +kernel
theorem eX12_pairs_305 : decode cX12_pairs 305 = .ok (.if_icmp .ne 8, 3) := by decide +kernel
theorem eX12_pairs_308 : decode cX12_pairs 308 = .ok (.bipush 88, 2) := by decide +kernel
theorem eX12_pairs_310 : decode cX12_pairs 310 = .ok (.goto 5, 3) := by decide +kernel
theorem eX12_pairs_313 : decode cX12_pairs 313 = .ok (.bipush 96, 2) := by decide +kernel
theorem eX12_pairs_315 : decode cX12_pairs 315 = .ok (.iload_n 2, 1) := by decide +kernel
theorem eX12_pairs_316 : decode cX12_pairs 316 = .ok (.iadd, 1) := by decide +kernel
theorem eX12_pairs_317 : decode cX12_pairs 317 = .ok (.invokevirtual 233, 3) := by decide +kernel
theorem eX12_pairs_320 : decode cX12_pairs 320 = .ok (.ifCond .ne 5, 3) := by decide +kernel
theorem eX12_pairs_323 : decode cX12_pairs 323 = .ok (.iconst 0, 1) := by decide +kernel
theorem eX12_pairs_324 : decode cX12_pairs 324 = .ok (.ireturn, 1) := by decide +kernel
theorem eX12_pairs_325 : decode cX12_pairs 325 = .ok (.iload_n 1, 1) := by decide +kernel
theorem eX12_pairs_326 : decode cX12_pairs 326 = .ok (.iconst 4, 1) := by decide +kernel
theorem eX12_pairs_327 : decode cX12_pairs 327 = .ok (.if_icmp .ne 18, 3) := by decide +kernel
theorem eX12_pairs_330 : decode cX12_pairs 330 = .ok (.aload_n 0, 1) := by decide +kernel
theorem eX12_pairs_331 : decode cX12_pairs 331 = .ok (.getfield 37, 3) := by decide +kernel
theorem eX12_pairs_334 : decode cX12_pairs 334 = .ok (.bipush 96, 2) := by decide +kernel
theorem eX12_pairs_336 : decode cX12_pairs 336 = .ok (.iload_n 3, 1) := by decide +kernel
theorem eX12_pairs_337 : decode cX12_pairs 337 = .ok (.iadd, 1) := by decide +kernel
theorem eX12_pairs_338 : decode cX12_pairs 338 = .ok (.dup2, 1) := by decide +kernel
theorem eX12_pairs_339 : decode cX12_pairs 339 = .ok (.iaload, 1) := by decide +kernel
theorem eX12_pairs_340 : decode cX12_pairs 340 = .ok (.iconst 1, 1) := by decide +kernel
theorem eX12_pairs_341 : decode cX12_pairs 341 = .ok (.iload_n 2, 1) := by decide +kernel
theorem eX12_pairs_342 : decode cX12_pairs 342 = .ok (.ishl, 1) := by decide +kernel
theorem eX12_pairs_343 : decode cX12_pairs 343 = .ok (.ior, 1) := by decide +kernel
theorem eX12_pairs_344 : decode cX12_pairs 344 = .ok (.iastore, 1) := by decide +kernel
theorem eX12_pairs_345 : decode cX12_pairs 345 = .ok (.iconst 1, 1) := by decide +kernel
theorem eX12_pairs_346 : decode cX12_pairs 346 = .ok (.ireturn, 1) := by decide +kernel
set_option maxRecDepth 100000 in
theorem m_12_pairs (hU : ev_uq ty ev_TR) {C : ev_C} {r : Int} {C' : ev_C} (h : f_12_pairs C = some (r, C')) : ev_Met l D cys ty ck_tags ev_TR kc_315 [.inr (.inl 12)] C (fun r0 C0 => r0 = some (.inl r) ∧ C0 = C') := by
  unfold f_12_pairs at h
  refine ev_enter (by decide +kernel) (by decide +kernel) (Nat.le_of_ble_eq_true rfl) ?_
  show ev_W l D cys ty ck_tags ev_TR kc_315 0 [(0, .inr (.inl 12))] [] C _
  refine ev_al eX12_pairs_0 rfl ?_
  refine ev_ldc2 (x := 109317208502899) (v := 109317208502899) eX12_pairs_1 (in_r12 _ (List.mem_of_getElem? (i := 18) rfl)) (by decide +kernel) ?_
  obtain ⟨r1, C1, hq1, h⟩ := ev_bd_some h
  refine ev_callV (kc := kc_211) (A := [.inr (.inr 109317208502899)]) (T := []) (lk_m.1 _ _ 0 [211] (isM (by decide +kernel)) 211 (by decide)) eX12_pairs_4 (m_12_isWord hU hq1) rfl rfl rfl (by decide) (by decide) (Nat.le_of_ble_eq_true rfl) ?_
  rintro _ C1 ⟨rfl, rfl⟩
  show ev_W l D cys ty ck_tags ev_TR kc_315 7 [(0, .inr (.inl 12))] [.inl r1] C1 _
  refine ev_z_eq (tgt := 14) eX12_pairs_7 (by decide) (fun hc2 => ?_) (fun hc2 => ?_)
  · rw [if_pos (show r1 = 0 from hc2)] at h
    refine ev_al eX12_pairs_14 rfl ?_
    refine ev_ldc2 (x := 474147546227) (v := 474147546227) eX12_pairs_15 (in_r12 _ (List.mem_of_getElem? (i := 23) rfl)) (by decide +kernel) ?_
    obtain ⟨r3, C3, hq3, h⟩ := ev_bd_some h
    refine ev_callV (kc := kc_211) (A := [.inr (.inr 474147546227)]) (T := []) (lk_m.1 _ _ 0 [211] (isM (by decide +kernel)) 211 (by decide)) eX12_pairs_18 (m_12_isWord hU hq3) rfl rfl rfl (by decide) (by decide) (Nat.le_of_ble_eq_true rfl) ?_
    rintro _ C3 ⟨rfl, rfl⟩
    show ev_W l D cys ty ck_tags ev_TR kc_315 21 [(0, .inr (.inl 12))] [.inl r3] C3 _
    refine ev_z_eq (tgt := 28) eX12_pairs_21 (by decide) (fun hc4 => ?_) (fun hc4 => ?_)
    · rw [if_pos (show r3 = 0 from hc4)] at h
      refine ev_al eX12_pairs_28 rfl ?_
      refine ev_ldc2 (x := 465625113971) (v := 465625113971) eX12_pairs_29 (in_r13 _ (List.mem_of_getElem? (i := 0) rfl)) (by decide +kernel) ?_
      obtain ⟨r5, C5, hq5, h⟩ := ev_bd_some h
      refine ev_callV (kc := kc_211) (A := [.inr (.inr 465625113971)]) (T := []) (lk_m.1 _ _ 0 [211] (isM (by decide +kernel)) 211 (by decide)) eX12_pairs_32 (m_12_isWord hU hq5) rfl rfl rfl (by decide) (by decide) (Nat.le_of_ble_eq_true rfl) ?_
      rintro _ C5 ⟨rfl, rfl⟩
      show ev_W l D cys ty ck_tags ev_TR kc_315 35 [(0, .inr (.inl 12))] [.inl r5] C5 _
      refine ev_z_eq (tgt := 42) eX12_pairs_35 (by decide) (fun hc6 => ?_) (fun hc6 => ?_)
      · rw [if_pos (show r5 = 0 from hc6)] at h
        refine ev_al eX12_pairs_42 rfl ?_
        refine ev_ldc2 (x := 474148660594) (v := 474148660594) eX12_pairs_43 (in_r13 _ (List.mem_of_getElem? (i := 1) rfl)) (by decide +kernel) ?_
        obtain ⟨r7, C7, hq7, h⟩ := ev_bd_some h
        refine ev_callV (kc := kc_211) (A := [.inr (.inr 474148660594)]) (T := []) (lk_m.1 _ _ 0 [211] (isM (by decide +kernel)) 211 (by decide)) eX12_pairs_46 (m_12_isWord hU hq7) rfl rfl rfl (by decide) (by decide) (Nat.le_of_ble_eq_true rfl) ?_
        rintro _ C7 ⟨rfl, rfl⟩
        show ev_W l D cys ty ck_tags ev_TR kc_315 49 [(0, .inr (.inl 12))] [.inl r7] C7 _
        refine ev_z_eq (tgt := 56) eX12_pairs_49 (by decide) (fun hc8 => ?_) (fun hc8 => ?_)
        · rw [if_pos (show r7 = 0 from hc8)] at h
          refine ev_al eX12_pairs_56 rfl ?_
          refine ev_ldc2 (x := 1718576499) (v := 1718576499) eX12_pairs_57 (in_r13 _ (List.mem_of_getElem? (i := 2) rfl)) (by decide +kernel) ?_
          obtain ⟨r9, C9, hq9, h⟩ := ev_bd_some h
          refine ev_callV (kc := kc_211) (A := [.inr (.inr 1718576499)]) (T := []) (lk_m.1 _ _ 0 [211] (isM (by decide +kernel)) 211 (by decide)) eX12_pairs_60 (m_12_isWord hU hq9) rfl rfl rfl (by decide) (by decide) (Nat.le_of_ble_eq_true rfl) ?_
          rintro _ C9 ⟨rfl, rfl⟩
          show ev_W l D cys ty ck_tags ev_TR kc_315 63 [(0, .inr (.inl 12))] [.inl r9] C9 _
          refine ev_z_eq (tgt := 70) eX12_pairs_63 (by decide) (fun hc10 => ?_) (fun hc10 => ?_)
          · rw [if_pos (show r9 = 0 from hc10)] at h
            refine ev_ic eX12_pairs_70 (by decide) ?_
            refine ev_is (L' := [(1, .inl (-1)), (0, .inr (.inl 12))]) eX12_pairs_71 (by decide) rfl ?_
            refine ev_il eX12_pairs_72 rfl ?_
            refine ev_z_ge (tgt := 82) eX12_pairs_73 (by decide) (fun hc => absurd hc (show ¬ ((0 : Int) ≤ -1) by decide)) (fun _ => ?_)
            refine ev_al eX12_pairs_76 rfl ?_
            refine ev_ic eX12_pairs_77 (by decide) ?_
            obtain ⟨r11, C11, hq11, h⟩ := ev_bd_some h
            refine ev_callV (kc := kc_205) (A := [.inl 1]) (T := []) (lk_m.1 _ _ 0 [205] (isM (by decide +kernel)) 205 (by decide)) eX12_pairs_78 (m_12_bad hU hq11) rfl rfl rfl (by decide) (by decide) (Nat.le_of_ble_eq_true rfl) ?_
            rintro _ C11 ⟨rfl, rfl⟩
            show ev_W l D cys ty ck_tags ev_TR kc_315 81 [(1, .inl (-1)), (0, .inr (.inl 12))] [.inl r11] C11 _
            obtain ⟨hb12, h⟩ := ev_gd h
            cases h
            exact ev_zret eX12_pairs_81 rfl hb12 ⟨rfl, rfl⟩
          · rw [if_neg (show ¬ (r9 = 0) from hc10)] at h
            refine ev_ic eX12_pairs_66 (by decide) ?_
            refine ev_goto (tgt := 71) eX12_pairs_67 (by decide) ?_
            refine ev_is (L' := [(1, .inl 4), (0, .inr (.inl 12))]) eX12_pairs_71 (by decide) rfl ?_
            refine ev_il eX12_pairs_72 rfl ?_
            refine ev_z_ge (tgt := 82) eX12_pairs_73 (by decide) (fun _ => ?_) (fun hc => absurd (show (0 : Int) ≤ 4 by decide) hc)
            refine ev_al eX12_pairs_82 rfl ?_
            obtain ⟨C13, hq13, h⟩ := ev_bv_some h
            refine ev_callV (kc := kc_209) (A := []) (T := []) (lk_m.1 _ _ 0 [209] (isM (by decide +kernel)) 209 (by decide)) eX12_pairs_83 (m_12_go hU hq13) rfl rfl rfl (by decide) (by decide) (Nat.le_of_ble_eq_true rfl) ?_
            rintro _ C13 ⟨rfl, rfl⟩
            show ev_W l D cys ty ck_tags ev_TR kc_315 86 [(1, .inl 4), (0, .inr (.inl 12))] [] C13 _
            refine ev_al eX12_pairs_86 rfl ?_
            refine ev_il eX12_pairs_87 rfl ?_
            refine ev_z_ne (tgt := 96) eX12_pairs_88 (by decide) (fun _ => ?_) (fun hc => absurd (show (4 : Int) ≠ 0 by decide) hc)
            refine ev_il eX12_pairs_96 rfl ?_
            refine ev_ic eX12_pairs_97 (by decide) ?_
            refine ev_c_ne (tgt := 106) eX12_pairs_98 (by decide) (fun _ => ?_) (fun hc => absurd (show (4 : Int) ≠ 1 by decide) hc)
            refine ev_bp eX12_pairs_106 (by decide) (by decide) ?_
            refine ev_al eX12_pairs_108 rfl ?_
            refine ev_getR lk_f (ci := 12) (j := 7) (cd := 3) eX12_pairs_109 (isF (by decide +kernel)) rfl rfl ?_
            refine ev_il eX12_pairs_112 rfl ?_
            refine ev_z_ne (tgt := 120) eX12_pairs_113 (by decide) (fun _ => ?_) (fun hc => absurd (show (4 : Int) ≠ 0 by decide) hc)
            refine ev_il eX12_pairs_120 rfl ?_
            refine ev_ic eX12_pairs_121 (by decide) ?_
            refine ev_c_ne (tgt := 129) eX12_pairs_122 (by decide) (fun _ => ?_) (fun hc => absurd (show (4 : Int) ≠ 1 by decide) hc)
            refine ev_ic eX12_pairs_129 (by decide) ?_
            refine ev_iald eX12_pairs_130 rfl rfl (by decide) (by decide) ?_
            obtain ⟨r14, C14, hq14, h⟩ := ev_bd_some h
            refine ev_callV (kc := kc_258) (A := [.inl 32, .inl ((C13 35 2))]) (T := []) (lk_m.1 _ _ 0 [258, 259] (isM (by decide +kernel)) 258 (by decide)) eX12_pairs_131 (m_12_takesName hU hq14) rfl rfl rfl (by decide) (by decide) (Nat.le_of_ble_eq_true rfl) ?_
            rintro _ C14 ⟨rfl, rfl⟩
            show ev_W l D cys ty ck_tags ev_TR kc_315 134 [(1, .inl 4), (0, .inr (.inl 12))] [.inl r14] C14 _
            refine ev_z_ne (tgt := 139) eX12_pairs_134 (by decide) (fun hc15 => ?_) (fun hc15 => ?_)
            · rw [if_pos (show r14 ≠ 0 from hc15)] at h
              refine ev_al eX12_pairs_139 rfl ?_
              refine ev_getI lk_f (ci := 12) (j := 18) (cd := 0) eX12_pairs_140 (isF (by decide +kernel)) rfl rfl rfl ?_
              refine ev_is (L' := [(2, .inl ((C14 12 18))), (1, .inl 4), (0, .inr (.inl 12))]) eX12_pairs_143 (by decide) rfl ?_
              refine ev_al eX12_pairs_144 rfl ?_
              refine ev_il eX12_pairs_145 rfl ?_
              refine ev_ic eX12_pairs_146 (by decide) ?_
              refine ev_c_ne (tgt := 155) eX12_pairs_147 (by decide) (fun _ => ?_) (fun hc => absurd (show (4 : Int) ≠ 1 by decide) hc)
              refine ev_il eX12_pairs_155 rfl ?_
              refine ev_ic eX12_pairs_156 (by decide) ?_
              refine ev_c_ne (tgt := 165) eX12_pairs_157 (by decide) (fun hc => absurd hc (show ¬ ((4 : Int) ≠ 4) by decide)) (fun _ => ?_)
              refine ev_bp eX12_pairs_160 (by decide) (by decide) ?_
              refine ev_goto (tgt := 167) eX12_pairs_162 (by decide) ?_
              refine ev_al eX12_pairs_167 rfl ?_
              refine ev_getR lk_f (ci := 12) (j := 7) (cd := 3) eX12_pairs_168 (isF (by decide +kernel)) rfl rfl ?_
              refine ev_il eX12_pairs_171 rfl ?_
              refine ev_ic eX12_pairs_172 (by decide) ?_
              refine ev_c_ne (tgt := 180) eX12_pairs_173 (by decide) (fun _ => ?_) (fun hc => absurd (show (4 : Int) ≠ 1 by decide) hc)
              refine ev_il eX12_pairs_180 rfl ?_
              refine ev_ic eX12_pairs_181 (by decide) ?_
              refine ev_c_ne (tgt := 189) eX12_pairs_182 (by decide) (fun hc => absurd hc (show ¬ ((4 : Int) ≠ 4) by decide)) (fun _ => ?_)
              refine ev_ic eX12_pairs_185 (by decide) ?_
              refine ev_goto (tgt := 190) eX12_pairs_186 (by decide) ?_
              refine ev_iald eX12_pairs_190 rfl rfl (by decide) (by decide) ?_
              obtain ⟨r16, C16, hq16, h⟩ := ev_bd_some h
              refine ev_callV (kc := kc_224) (A := [.inl 32, .inl ((C14 35 2))]) (T := []) (lk_m.1 _ _ 0 [224, 225] (isM (by decide +kernel)) 224 (by decide)) eX12_pairs_191 (m_12_looksAt hU hq16) rfl rfl rfl (by decide) (by decide) (Nat.le_of_ble_eq_true rfl) ?_
              rintro _ C16 ⟨rfl, rfl⟩
              show ev_W l D cys ty ck_tags ev_TR kc_315 194 [(2, .inl ((C14 12 18))), (1, .inl 4), (0, .inr (.inl 12))] [.inl r16] C16 _
              refine ev_z_ne (tgt := 199) eX12_pairs_194 (by decide) (fun hc17 => ?_) (fun hc17 => ?_)
              · rw [if_pos (show r16 ≠ 0 from hc17)] at h
                refine ev_al eX12_pairs_199 rfl ?_
                refine ev_getI lk_f (ci := 12) (j := 18) (cd := 0) eX12_pairs_200 (isF (by decide +kernel)) rfl rfl rfl ?_
                refine ev_is (L' := [(3, .inl ((C16 12 18))), (2, .inl ((C14 12 18))), (1, .inl 4), (0, .inr (.inl 12))]) eX12_pairs_203 (by decide) rfl ?_
                refine ev_il eX12_pairs_204 rfl ?_
                refine ev_ic eX12_pairs_205 (by decide) ?_
                refine ev_c_ne (tgt := 214) eX12_pairs_206 (by decide) (fun hc => absurd hc (show ¬ ((4 : Int) ≠ 4) by decide)) (fun _ => ?_)
                refine ev_il eX12_pairs_209 rfl ?_
                refine ev_il eX12_pairs_210 rfl ?_
                refine ev_c_eq (tgt := 236) eX12_pairs_211 (by decide) (fun hc18 => ?_) (fun hc18 => ?_)
                · rw [if_pos (show (C16 12 18) = (C14 12 18) from hc18)] at h
                  refine ev_al eX12_pairs_236 rfl ?_
                  refine ev_ic eX12_pairs_237 (by decide) ?_
                  obtain ⟨r19, C19, hq19, h⟩ := ev_bd_some h
                  refine ev_callV (kc := kc_205) (A := [.inl 3]) (T := []) (lk_m.1 _ _ 0 [205] (isM (by decide +kernel)) 205 (by decide)) eX12_pairs_238 (m_12_bad hU hq19) rfl rfl rfl (by decide) (by decide) (Nat.le_of_ble_eq_true rfl) ?_
                  rintro _ C19 ⟨rfl, rfl⟩
                  show ev_W l D cys ty ck_tags ev_TR kc_315 241 [(3, .inl ((C16 12 18))), (2, .inl ((C14 12 18))), (1, .inl 4), (0, .inr (.inl 12))] [.inl r19] C19 _
                  obtain ⟨hb20, h⟩ := ev_gd h
                  cases h
                  exact ev_zret eX12_pairs_241 rfl hb20 ⟨rfl, rfl⟩
                · rw [if_neg (show ¬ ((C16 12 18) = (C14 12 18)) from hc18)] at h
                  refine ev_il eX12_pairs_214 rfl ?_
                  refine ev_ic eX12_pairs_215 (by decide) ?_
                  refine ev_c_ne (tgt := 242) eX12_pairs_216 (by decide) (fun _ => ?_) (fun hc => absurd (show (4 : Int) ≠ 2 by decide) hc)
                  refine ev_il eX12_pairs_242 rfl ?_
                  refine ev_ic eX12_pairs_243 (by decide) ?_
                  refine ev_c_ne (tgt := 283) eX12_pairs_244 (by decide) (fun _ => ?_) (fun hc => absurd (show (4 : Int) ≠ 2 by decide) hc)
                  refine ev_al eX12_pairs_283 rfl ?_
                  refine ev_il eX12_pairs_284 rfl ?_
                  refine ev_z_ne (tgt := 293) eX12_pairs_285 (by decide) (fun _ => ?_) (fun hc => absurd (show (4 : Int) ≠ 0 by decide) hc)
                  refine ev_il eX12_pairs_293 rfl ?_
                  refine ev_ic eX12_pairs_294 (by decide) ?_
                  refine ev_c_ne (tgt := 303) eX12_pairs_295 (by decide) (fun _ => ?_) (fun hc => absurd (show (4 : Int) ≠ 1 by decide) hc)
                  refine ev_il eX12_pairs_303 rfl ?_
                  refine ev_ic eX12_pairs_304 (by decide) ?_
                  refine ev_c_ne (tgt := 313) eX12_pairs_305 (by decide) (fun _ => ?_) (fun hc => absurd (show (4 : Int) ≠ 3 by decide) hc)
                  refine ev_bp eX12_pairs_313 (by decide) (by decide) ?_
                  refine ev_il eX12_pairs_315 rfl ?_
                  refine ev_add eX12_pairs_316 ?_
                  obtain ⟨r21, C21, hq21, h⟩ := ev_bd_some h
                  refine ev_callV (kc := kc_314) (A := [.inl (ev_w ((96 : Int) + ((C14 12 18))))]) (T := []) (lk_m.1 _ _ 0 [314] (isM (by decide +kernel)) 314 (by decide)) eX12_pairs_317 (m_12_sets hU hq21) rfl rfl rfl (by decide) (by decide) (Nat.le_of_ble_eq_true rfl) ?_
                  rintro _ C21 ⟨rfl, rfl⟩
                  show ev_W l D cys ty ck_tags ev_TR kc_315 320 [(3, .inl ((C16 12 18))), (2, .inl ((C14 12 18))), (1, .inl 4), (0, .inr (.inl 12))] [.inl r21] C21 _
                  refine ev_z_ne (tgt := 325) eX12_pairs_320 (by decide) (fun hc22 => ?_) (fun hc22 => ?_)
                  · rw [if_pos (show r21 ≠ 0 from hc22)] at h
                    refine ev_il eX12_pairs_325 rfl ?_
                    refine ev_ic eX12_pairs_326 (by decide) ?_
                    refine ev_c_ne (tgt := 345) eX12_pairs_327 (by decide) (fun hc => absurd hc (show ¬ ((4 : Int) ≠ 4) by decide)) (fun _ => ?_)
                    refine ev_al eX12_pairs_330 rfl ?_
                    refine ev_getR lk_f (ci := 12) (j := 7) (cd := 3) eX12_pairs_331 (isF (by decide +kernel)) rfl rfl ?_
                    refine ev_bp eX12_pairs_334 (by decide) (by decide) ?_
                    refine ev_il eX12_pairs_336 rfl ?_
                    refine ev_add eX12_pairs_337 ?_
                    refine ev_dup2 eX12_pairs_338 rfl rfl ?_
                    obtain ⟨hb23, h⟩ := ev_gd h
                    refine ev_iald eX12_pairs_339 rfl rfl hb23.1 hb23.2 ?_
                    refine ev_ic eX12_pairs_340 (by decide) ?_
                    refine ev_il eX12_pairs_341 rfl ?_
                    refine ev_ishl eX12_pairs_342 ?_
                    refine ev_ior eX12_pairs_343 ?_
                    obtain ⟨hb24, h⟩ := ev_gd h
                    refine ev_iast hU eX12_pairs_344 rfl rfl hb24.1 hb24.2 ?_
                    refine ev_ic eX12_pairs_345 (by decide) ?_
                    cases h
                    exact ev_zret eX12_pairs_346 rfl (by decide) ⟨rfl, rfl⟩
                  · rw [if_neg (show ¬ (r21 ≠ 0) from hc22)] at h
                    refine ev_ic eX12_pairs_323 (by decide) ?_
                    cases h
                    exact ev_zret eX12_pairs_324 rfl (by decide) ⟨rfl, rfl⟩
              · rw [if_neg (show ¬ (r16 ≠ 0) from hc17)] at h
                refine ev_ic eX12_pairs_197 (by decide) ?_
                cases h
                exact ev_zret eX12_pairs_198 rfl (by decide) ⟨rfl, rfl⟩
            · rw [if_neg (show ¬ (r14 ≠ 0) from hc15)] at h
              refine ev_ic eX12_pairs_137 (by decide) ?_
              cases h
              exact ev_zret eX12_pairs_138 rfl (by decide) ⟨rfl, rfl⟩
        · rw [if_neg (show ¬ (r7 = 0) from hc8)] at h
          refine ev_ic eX12_pairs_52 (by decide) ?_
          refine ev_goto (tgt := 71) eX12_pairs_53 (by decide) ?_
          refine ev_is (L' := [(1, .inl 3), (0, .inr (.inl 12))]) eX12_pairs_71 (by decide) rfl ?_
          refine ev_il eX12_pairs_72 rfl ?_
          refine ev_z_ge (tgt := 82) eX12_pairs_73 (by decide) (fun _ => ?_) (fun hc => absurd (show (0 : Int) ≤ 3 by decide) hc)
          refine ev_al eX12_pairs_82 rfl ?_
          obtain ⟨C25, hq25, h⟩ := ev_bv_some h
          refine ev_callV (kc := kc_209) (A := []) (T := []) (lk_m.1 _ _ 0 [209] (isM (by decide +kernel)) 209 (by decide)) eX12_pairs_83 (m_12_go hU hq25) rfl rfl rfl (by decide) (by decide) (Nat.le_of_ble_eq_true rfl) ?_
          rintro _ C25 ⟨rfl, rfl⟩
          show ev_W l D cys ty ck_tags ev_TR kc_315 86 [(1, .inl 3), (0, .inr (.inl 12))] [] C25 _
          refine ev_al eX12_pairs_86 rfl ?_
          refine ev_il eX12_pairs_87 rfl ?_
          refine ev_z_ne (tgt := 96) eX12_pairs_88 (by decide) (fun _ => ?_) (fun hc => absurd (show (3 : Int) ≠ 0 by decide) hc)
          refine ev_il eX12_pairs_96 rfl ?_
          refine ev_ic eX12_pairs_97 (by decide) ?_
          refine ev_c_ne (tgt := 106) eX12_pairs_98 (by decide) (fun _ => ?_) (fun hc => absurd (show (3 : Int) ≠ 1 by decide) hc)
          refine ev_bp eX12_pairs_106 (by decide) (by decide) ?_
          refine ev_al eX12_pairs_108 rfl ?_
          refine ev_getR lk_f (ci := 12) (j := 7) (cd := 3) eX12_pairs_109 (isF (by decide +kernel)) rfl rfl ?_
          refine ev_il eX12_pairs_112 rfl ?_
          refine ev_z_ne (tgt := 120) eX12_pairs_113 (by decide) (fun _ => ?_) (fun hc => absurd (show (3 : Int) ≠ 0 by decide) hc)
          refine ev_il eX12_pairs_120 rfl ?_
          refine ev_ic eX12_pairs_121 (by decide) ?_
          refine ev_c_ne (tgt := 129) eX12_pairs_122 (by decide) (fun _ => ?_) (fun hc => absurd (show (3 : Int) ≠ 1 by decide) hc)
          refine ev_ic eX12_pairs_129 (by decide) ?_
          refine ev_iald eX12_pairs_130 rfl rfl (by decide) (by decide) ?_
          obtain ⟨r26, C26, hq26, h⟩ := ev_bd_some h
          refine ev_callV (kc := kc_258) (A := [.inl 32, .inl ((C25 35 2))]) (T := []) (lk_m.1 _ _ 0 [258, 259] (isM (by decide +kernel)) 258 (by decide)) eX12_pairs_131 (m_12_takesName hU hq26) rfl rfl rfl (by decide) (by decide) (Nat.le_of_ble_eq_true rfl) ?_
          rintro _ C26 ⟨rfl, rfl⟩
          show ev_W l D cys ty ck_tags ev_TR kc_315 134 [(1, .inl 3), (0, .inr (.inl 12))] [.inl r26] C26 _
          refine ev_z_ne (tgt := 139) eX12_pairs_134 (by decide) (fun hc27 => ?_) (fun hc27 => ?_)
          · rw [if_pos (show r26 ≠ 0 from hc27)] at h
            refine ev_al eX12_pairs_139 rfl ?_
            refine ev_getI lk_f (ci := 12) (j := 18) (cd := 0) eX12_pairs_140 (isF (by decide +kernel)) rfl rfl rfl ?_
            refine ev_is (L' := [(2, .inl ((C26 12 18))), (1, .inl 3), (0, .inr (.inl 12))]) eX12_pairs_143 (by decide) rfl ?_
            refine ev_al eX12_pairs_144 rfl ?_
            refine ev_il eX12_pairs_145 rfl ?_
            refine ev_ic eX12_pairs_146 (by decide) ?_
            refine ev_c_ne (tgt := 155) eX12_pairs_147 (by decide) (fun _ => ?_) (fun hc => absurd (show (3 : Int) ≠ 1 by decide) hc)
            refine ev_il eX12_pairs_155 rfl ?_
            refine ev_ic eX12_pairs_156 (by decide) ?_
            refine ev_c_ne (tgt := 165) eX12_pairs_157 (by decide) (fun _ => ?_) (fun hc => absurd (show (3 : Int) ≠ 4 by decide) hc)
            refine ev_bp eX12_pairs_165 (by decide) (by decide) ?_
            refine ev_al eX12_pairs_167 rfl ?_
            refine ev_getR lk_f (ci := 12) (j := 7) (cd := 3) eX12_pairs_168 (isF (by decide +kernel)) rfl rfl ?_
            refine ev_il eX12_pairs_171 rfl ?_
            refine ev_ic eX12_pairs_172 (by decide) ?_
            refine ev_c_ne (tgt := 180) eX12_pairs_173 (by decide) (fun _ => ?_) (fun hc => absurd (show (3 : Int) ≠ 1 by decide) hc)
            refine ev_il eX12_pairs_180 rfl ?_
            refine ev_ic eX12_pairs_181 (by decide) ?_
            refine ev_c_ne (tgt := 189) eX12_pairs_182 (by decide) (fun _ => ?_) (fun hc => absurd (show (3 : Int) ≠ 4 by decide) hc)
            refine ev_ic eX12_pairs_189 (by decide) ?_
            refine ev_iald eX12_pairs_190 rfl rfl (by decide) (by decide) ?_
            obtain ⟨r28, C28, hq28, h⟩ := ev_bd_some h
            refine ev_callV (kc := kc_224) (A := [.inl 20, .inl ((C26 35 0))]) (T := []) (lk_m.1 _ _ 0 [224, 225] (isM (by decide +kernel)) 224 (by decide)) eX12_pairs_191 (m_12_looksAt hU hq28) rfl rfl rfl (by decide) (by decide) (Nat.le_of_ble_eq_true rfl) ?_
            rintro _ C28 ⟨rfl, rfl⟩
            show ev_W l D cys ty ck_tags ev_TR kc_315 194 [(2, .inl ((C26 12 18))), (1, .inl 3), (0, .inr (.inl 12))] [.inl r28] C28 _
            refine ev_z_ne (tgt := 199) eX12_pairs_194 (by decide) (fun hc29 => ?_) (fun hc29 => ?_)
            · rw [if_pos (show r28 ≠ 0 from hc29)] at h
              refine ev_al eX12_pairs_199 rfl ?_
              refine ev_getI lk_f (ci := 12) (j := 18) (cd := 0) eX12_pairs_200 (isF (by decide +kernel)) rfl rfl rfl ?_
              refine ev_is (L' := [(3, .inl ((C28 12 18))), (2, .inl ((C26 12 18))), (1, .inl 3), (0, .inr (.inl 12))]) eX12_pairs_203 (by decide) rfl ?_
              refine ev_il eX12_pairs_204 rfl ?_
              refine ev_ic eX12_pairs_205 (by decide) ?_
              refine ev_c_ne (tgt := 214) eX12_pairs_206 (by decide) (fun _ => ?_) (fun hc => absurd (show (3 : Int) ≠ 4 by decide) hc)
              refine ev_il eX12_pairs_214 rfl ?_
              refine ev_ic eX12_pairs_215 (by decide) ?_
              refine ev_c_ne (tgt := 242) eX12_pairs_216 (by decide) (fun _ => ?_) (fun hc => absurd (show (3 : Int) ≠ 2 by decide) hc)
              refine ev_il eX12_pairs_242 rfl ?_
              refine ev_ic eX12_pairs_243 (by decide) ?_
              refine ev_c_ne (tgt := 283) eX12_pairs_244 (by decide) (fun _ => ?_) (fun hc => absurd (show (3 : Int) ≠ 2 by decide) hc)
              refine ev_al eX12_pairs_283 rfl ?_
              refine ev_il eX12_pairs_284 rfl ?_
              refine ev_z_ne (tgt := 293) eX12_pairs_285 (by decide) (fun _ => ?_) (fun hc => absurd (show (3 : Int) ≠ 0 by decide) hc)
              refine ev_il eX12_pairs_293 rfl ?_
              refine ev_ic eX12_pairs_294 (by decide) ?_
              refine ev_c_ne (tgt := 303) eX12_pairs_295 (by decide) (fun _ => ?_) (fun hc => absurd (show (3 : Int) ≠ 1 by decide) hc)
              refine ev_il eX12_pairs_303 rfl ?_
              refine ev_ic eX12_pairs_304 (by decide) ?_
              refine ev_c_ne (tgt := 313) eX12_pairs_305 (by decide) (fun hc => absurd hc (show ¬ ((3 : Int) ≠ 3) by decide)) (fun _ => ?_)
              refine ev_bp eX12_pairs_308 (by decide) (by decide) ?_
              refine ev_goto (tgt := 315) eX12_pairs_310 (by decide) ?_
              refine ev_il eX12_pairs_315 rfl ?_
              refine ev_add eX12_pairs_316 ?_
              obtain ⟨r30, C30, hq30, h⟩ := ev_bd_some h
              refine ev_callV (kc := kc_314) (A := [.inl (ev_w ((88 : Int) + ((C26 12 18))))]) (T := []) (lk_m.1 _ _ 0 [314] (isM (by decide +kernel)) 314 (by decide)) eX12_pairs_317 (m_12_sets hU hq30) rfl rfl rfl (by decide) (by decide) (Nat.le_of_ble_eq_true rfl) ?_
              rintro _ C30 ⟨rfl, rfl⟩
              show ev_W l D cys ty ck_tags ev_TR kc_315 320 [(3, .inl ((C28 12 18))), (2, .inl ((C26 12 18))), (1, .inl 3), (0, .inr (.inl 12))] [.inl r30] C30 _
              refine ev_z_ne (tgt := 325) eX12_pairs_320 (by decide) (fun hc31 => ?_) (fun hc31 => ?_)
              · rw [if_pos (show r30 ≠ 0 from hc31)] at h
                refine ev_il eX12_pairs_325 rfl ?_
                refine ev_ic eX12_pairs_326 (by decide) ?_
                refine ev_c_ne (tgt := 345) eX12_pairs_327 (by decide) (fun _ => ?_) (fun hc => absurd (show (3 : Int) ≠ 4 by decide) hc)
                refine ev_ic eX12_pairs_345 (by decide) ?_
                cases h
                exact ev_zret eX12_pairs_346 rfl (by decide) ⟨rfl, rfl⟩
              · rw [if_neg (show ¬ (r30 ≠ 0) from hc31)] at h
                refine ev_ic eX12_pairs_323 (by decide) ?_
                cases h
                exact ev_zret eX12_pairs_324 rfl (by decide) ⟨rfl, rfl⟩
            · rw [if_neg (show ¬ (r28 ≠ 0) from hc29)] at h
              refine ev_ic eX12_pairs_197 (by decide) ?_
              cases h
              exact ev_zret eX12_pairs_198 rfl (by decide) ⟨rfl, rfl⟩
          · rw [if_neg (show ¬ (r26 ≠ 0) from hc27)] at h
            refine ev_ic eX12_pairs_137 (by decide) ?_
            cases h
            exact ev_zret eX12_pairs_138 rfl (by decide) ⟨rfl, rfl⟩
      · rw [if_neg (show ¬ (r5 = 0) from hc6)] at h
        refine ev_ic eX12_pairs_38 (by decide) ?_
        refine ev_goto (tgt := 71) eX12_pairs_39 (by decide) ?_
        refine ev_is (L' := [(1, .inl 2), (0, .inr (.inl 12))]) eX12_pairs_71 (by decide) rfl ?_
        refine ev_il eX12_pairs_72 rfl ?_
        refine ev_z_ge (tgt := 82) eX12_pairs_73 (by decide) (fun _ => ?_) (fun hc => absurd (show (0 : Int) ≤ 2 by decide) hc)
        refine ev_al eX12_pairs_82 rfl ?_
        obtain ⟨C32, hq32, h⟩ := ev_bv_some h
        refine ev_callV (kc := kc_209) (A := []) (T := []) (lk_m.1 _ _ 0 [209] (isM (by decide +kernel)) 209 (by decide)) eX12_pairs_83 (m_12_go hU hq32) rfl rfl rfl (by decide) (by decide) (Nat.le_of_ble_eq_true rfl) ?_
        rintro _ C32 ⟨rfl, rfl⟩
        show ev_W l D cys ty ck_tags ev_TR kc_315 86 [(1, .inl 2), (0, .inr (.inl 12))] [] C32 _
        refine ev_al eX12_pairs_86 rfl ?_
        refine ev_il eX12_pairs_87 rfl ?_
        refine ev_z_ne (tgt := 96) eX12_pairs_88 (by decide) (fun _ => ?_) (fun hc => absurd (show (2 : Int) ≠ 0 by decide) hc)
        refine ev_il eX12_pairs_96 rfl ?_
        refine ev_ic eX12_pairs_97 (by decide) ?_
        refine ev_c_ne (tgt := 106) eX12_pairs_98 (by decide) (fun _ => ?_) (fun hc => absurd (show (2 : Int) ≠ 1 by decide) hc)
        refine ev_bp eX12_pairs_106 (by decide) (by decide) ?_
        refine ev_al eX12_pairs_108 rfl ?_
        refine ev_getR lk_f (ci := 12) (j := 7) (cd := 3) eX12_pairs_109 (isF (by decide +kernel)) rfl rfl ?_
        refine ev_il eX12_pairs_112 rfl ?_
        refine ev_z_ne (tgt := 120) eX12_pairs_113 (by decide) (fun _ => ?_) (fun hc => absurd (show (2 : Int) ≠ 0 by decide) hc)
        refine ev_il eX12_pairs_120 rfl ?_
        refine ev_ic eX12_pairs_121 (by decide) ?_
        refine ev_c_ne (tgt := 129) eX12_pairs_122 (by decide) (fun _ => ?_) (fun hc => absurd (show (2 : Int) ≠ 1 by decide) hc)
        refine ev_ic eX12_pairs_129 (by decide) ?_
        refine ev_iald eX12_pairs_130 rfl rfl (by decide) (by decide) ?_
        obtain ⟨r33, C33, hq33, h⟩ := ev_bd_some h
        refine ev_callV (kc := kc_258) (A := [.inl 32, .inl ((C32 35 2))]) (T := []) (lk_m.1 _ _ 0 [258, 259] (isM (by decide +kernel)) 258 (by decide)) eX12_pairs_131 (m_12_takesName hU hq33) rfl rfl rfl (by decide) (by decide) (Nat.le_of_ble_eq_true rfl) ?_
        rintro _ C33 ⟨rfl, rfl⟩
        show ev_W l D cys ty ck_tags ev_TR kc_315 134 [(1, .inl 2), (0, .inr (.inl 12))] [.inl r33] C33 _
        refine ev_z_ne (tgt := 139) eX12_pairs_134 (by decide) (fun hc34 => ?_) (fun hc34 => ?_)
        · rw [if_pos (show r33 ≠ 0 from hc34)] at h
          refine ev_al eX12_pairs_139 rfl ?_
          refine ev_getI lk_f (ci := 12) (j := 18) (cd := 0) eX12_pairs_140 (isF (by decide +kernel)) rfl rfl rfl ?_
          refine ev_is (L' := [(2, .inl ((C33 12 18))), (1, .inl 2), (0, .inr (.inl 12))]) eX12_pairs_143 (by decide) rfl ?_
          refine ev_al eX12_pairs_144 rfl ?_
          refine ev_il eX12_pairs_145 rfl ?_
          refine ev_ic eX12_pairs_146 (by decide) ?_
          refine ev_c_ne (tgt := 155) eX12_pairs_147 (by decide) (fun _ => ?_) (fun hc => absurd (show (2 : Int) ≠ 1 by decide) hc)
          refine ev_il eX12_pairs_155 rfl ?_
          refine ev_ic eX12_pairs_156 (by decide) ?_
          refine ev_c_ne (tgt := 165) eX12_pairs_157 (by decide) (fun _ => ?_) (fun hc => absurd (show (2 : Int) ≠ 4 by decide) hc)
          refine ev_bp eX12_pairs_165 (by decide) (by decide) ?_
          refine ev_al eX12_pairs_167 rfl ?_
          refine ev_getR lk_f (ci := 12) (j := 7) (cd := 3) eX12_pairs_168 (isF (by decide +kernel)) rfl rfl ?_
          refine ev_il eX12_pairs_171 rfl ?_
          refine ev_ic eX12_pairs_172 (by decide) ?_
          refine ev_c_ne (tgt := 180) eX12_pairs_173 (by decide) (fun _ => ?_) (fun hc => absurd (show (2 : Int) ≠ 1 by decide) hc)
          refine ev_il eX12_pairs_180 rfl ?_
          refine ev_ic eX12_pairs_181 (by decide) ?_
          refine ev_c_ne (tgt := 189) eX12_pairs_182 (by decide) (fun _ => ?_) (fun hc => absurd (show (2 : Int) ≠ 4 by decide) hc)
          refine ev_ic eX12_pairs_189 (by decide) ?_
          refine ev_iald eX12_pairs_190 rfl rfl (by decide) (by decide) ?_
          obtain ⟨r35, C35, hq35, h⟩ := ev_bd_some h
          refine ev_callV (kc := kc_224) (A := [.inl 20, .inl ((C33 35 0))]) (T := []) (lk_m.1 _ _ 0 [224, 225] (isM (by decide +kernel)) 224 (by decide)) eX12_pairs_191 (m_12_looksAt hU hq35) rfl rfl rfl (by decide) (by decide) (Nat.le_of_ble_eq_true rfl) ?_
          rintro _ C35 ⟨rfl, rfl⟩
          show ev_W l D cys ty ck_tags ev_TR kc_315 194 [(2, .inl ((C33 12 18))), (1, .inl 2), (0, .inr (.inl 12))] [.inl r35] C35 _
          refine ev_z_ne (tgt := 199) eX12_pairs_194 (by decide) (fun hc36 => ?_) (fun hc36 => ?_)
          · rw [if_pos (show r35 ≠ 0 from hc36)] at h
            refine ev_al eX12_pairs_199 rfl ?_
            refine ev_getI lk_f (ci := 12) (j := 18) (cd := 0) eX12_pairs_200 (isF (by decide +kernel)) rfl rfl rfl ?_
            refine ev_is (L' := [(3, .inl ((C35 12 18))), (2, .inl ((C33 12 18))), (1, .inl 2), (0, .inr (.inl 12))]) eX12_pairs_203 (by decide) rfl ?_
            refine ev_il eX12_pairs_204 rfl ?_
            refine ev_ic eX12_pairs_205 (by decide) ?_
            refine ev_c_ne (tgt := 214) eX12_pairs_206 (by decide) (fun _ => ?_) (fun hc => absurd (show (2 : Int) ≠ 4 by decide) hc)
            refine ev_il eX12_pairs_214 rfl ?_
            refine ev_ic eX12_pairs_215 (by decide) ?_
            refine ev_c_ne (tgt := 242) eX12_pairs_216 (by decide) (fun hc => absurd hc (show ¬ ((2 : Int) ≠ 2) by decide)) (fun _ => ?_)
            refine ev_al eX12_pairs_219 rfl ?_
            refine ev_getR lk_f (ci := 12) (j := 7) (cd := 3) eX12_pairs_220 (isF (by decide +kernel)) rfl rfl ?_
            refine ev_bp eX12_pairs_223 (by decide) (by decide) ?_
            refine ev_bp eX12_pairs_225 (by decide) (by decide) ?_
            refine ev_il eX12_pairs_227 rfl ?_
            refine ev_mul eX12_pairs_228 ?_
            refine ev_add eX12_pairs_229 ?_
            refine ev_il eX12_pairs_230 rfl ?_
            refine ev_add eX12_pairs_231 ?_
            obtain ⟨hb37, h⟩ := ev_gd h
            refine ev_iald eX12_pairs_232 rfl rfl hb37.1 hb37.2 ?_
            refine ev_z_le (tgt := 242) eX12_pairs_233 (by decide) (fun hc38 => ?_) (fun hc38 => ?_)
            · rw [if_pos (show (C35 35 (Int.toNat (ev_w ((ev_w ((40 : Int) + (ev_w ((6 : Int) * ((C33 12 18)))))) + ((C35 12 18)))))) ≤ 0 from hc38)] at h
              refine ev_il eX12_pairs_242 rfl ?_
              refine ev_ic eX12_pairs_243 (by decide) ?_
              refine ev_c_ne (tgt := 283) eX12_pairs_244 (by decide) (fun hc => absurd hc (show ¬ ((2 : Int) ≠ 2) by decide)) (fun _ => ?_)
              refine ev_al eX12_pairs_247 rfl ?_
              obtain ⟨C39, hq39, h⟩ := ev_bv_some h
              refine ev_callV (kc := kc_209) (A := []) (T := []) (lk_m.1 _ _ 0 [209] (isM (by decide +kernel)) 209 (by decide)) eX12_pairs_248 (m_12_go hU hq39) rfl rfl rfl (by decide) (by decide) (Nat.le_of_ble_eq_true rfl) ?_
              rintro _ C39 ⟨rfl, rfl⟩
              show ev_W l D cys ty ck_tags ev_TR kc_315 251 [(3, .inl ((C35 12 18))), (2, .inl ((C33 12 18))), (1, .inl 2), (0, .inr (.inl 12))] [] C39 _
              refine ev_al eX12_pairs_251 rfl ?_
              refine ev_ic eX12_pairs_252 (by decide) ?_
              refine ev_bp eX12_pairs_253 (by decide) (by decide) ?_
              obtain ⟨r40, C40, hq40, h⟩ := ev_bd_some h
              refine ev_callV (kc := kc_257) (A := [.inl 1, .inl 9]) (T := []) (lk_m.1 _ _ 0 [257] (isM (by decide +kernel)) 257 (by decide)) eX12_pairs_255 (m_12_takes hU hq40) rfl rfl rfl (by decide) (by decide) (Nat.le_of_ble_eq_true rfl) ?_
              rintro _ C40 ⟨rfl, rfl⟩
              show ev_W l D cys ty ck_tags ev_TR kc_315 258 [(3, .inl ((C35 12 18))), (2, .inl ((C33 12 18))), (1, .inl 2), (0, .inr (.inl 12))] [.inl r40] C40 _
              refine ev_z_ne (tgt := 263) eX12_pairs_258 (by decide) (fun hc41 => ?_) (fun hc41 => ?_)
              · rw [if_pos (show r40 ≠ 0 from hc41)] at h
                refine ev_al eX12_pairs_263 rfl ?_
                refine ev_getR lk_f (ci := 12) (j := 7) (cd := 3) eX12_pairs_264 (isF (by decide +kernel)) rfl rfl ?_
                refine ev_bp eX12_pairs_267 (by decide) (by decide) ?_
                refine ev_bp eX12_pairs_269 (by decide) (by decide) ?_
                refine ev_il eX12_pairs_271 rfl ?_
                refine ev_mul eX12_pairs_272 ?_
                refine ev_add eX12_pairs_273 ?_
                refine ev_il eX12_pairs_274 rfl ?_
                refine ev_add eX12_pairs_275 ?_
                refine ev_al eX12_pairs_276 rfl ?_
                refine ev_getI lk_f (ci := 12) (j := 18) (cd := 0) eX12_pairs_277 (isF (by decide +kernel)) rfl rfl rfl ?_
                obtain ⟨hb42, h⟩ := ev_gd h
                refine ev_iast hU eX12_pairs_280 rfl rfl hb42.1 hb42.2 ?_
                refine ev_ic eX12_pairs_281 (by decide) ?_
                cases h
                exact ev_zret eX12_pairs_282 rfl (by decide) ⟨rfl, rfl⟩
              · rw [if_neg (show ¬ (r40 ≠ 0) from hc41)] at h
                refine ev_ic eX12_pairs_261 (by decide) ?_
                cases h
                exact ev_zret eX12_pairs_262 rfl (by decide) ⟨rfl, rfl⟩
            · rw [if_neg (show ¬ ((C35 35 (Int.toNat (ev_w ((ev_w ((40 : Int) + (ev_w ((6 : Int) * ((C33 12 18)))))) + ((C35 12 18)))))) ≤ 0) from hc38)] at h
              refine ev_al eX12_pairs_236 rfl ?_
              refine ev_ic eX12_pairs_237 (by decide) ?_
              obtain ⟨r43, C43, hq43, h⟩ := ev_bd_some h
              refine ev_callV (kc := kc_205) (A := [.inl 3]) (T := []) (lk_m.1 _ _ 0 [205] (isM (by decide +kernel)) 205 (by decide)) eX12_pairs_238 (m_12_bad hU hq43) rfl rfl rfl (by decide) (by decide) (Nat.le_of_ble_eq_true rfl) ?_
              rintro _ C43 ⟨rfl, rfl⟩
              show ev_W l D cys ty ck_tags ev_TR kc_315 241 [(3, .inl ((C35 12 18))), (2, .inl ((C33 12 18))), (1, .inl 2), (0, .inr (.inl 12))] [.inl r43] C43 _
              obtain ⟨hb44, h⟩ := ev_gd h
              cases h
              exact ev_zret eX12_pairs_241 rfl hb44 ⟨rfl, rfl⟩
          · rw [if_neg (show ¬ (r35 ≠ 0) from hc36)] at h
            refine ev_ic eX12_pairs_197 (by decide) ?_
            cases h
            exact ev_zret eX12_pairs_198 rfl (by decide) ⟨rfl, rfl⟩
        · rw [if_neg (show ¬ (r33 ≠ 0) from hc34)] at h
          refine ev_ic eX12_pairs_137 (by decide) ?_
          cases h
          exact ev_zret eX12_pairs_138 rfl (by decide) ⟨rfl, rfl⟩
    · rw [if_neg (show ¬ (r3 = 0) from hc4)] at h
      refine ev_ic eX12_pairs_24 (by decide) ?_
      refine ev_goto (tgt := 71) eX12_pairs_25 (by decide) ?_
      refine ev_is (L' := [(1, .inl 1), (0, .inr (.inl 12))]) eX12_pairs_71 (by decide) rfl ?_
      refine ev_il eX12_pairs_72 rfl ?_
      refine ev_z_ge (tgt := 82) eX12_pairs_73 (by decide) (fun _ => ?_) (fun hc => absurd (show (0 : Int) ≤ 1 by decide) hc)
      refine ev_al eX12_pairs_82 rfl ?_
      obtain ⟨C45, hq45, h⟩ := ev_bv_some h
      refine ev_callV (kc := kc_209) (A := []) (T := []) (lk_m.1 _ _ 0 [209] (isM (by decide +kernel)) 209 (by decide)) eX12_pairs_83 (m_12_go hU hq45) rfl rfl rfl (by decide) (by decide) (Nat.le_of_ble_eq_true rfl) ?_
      rintro _ C45 ⟨rfl, rfl⟩
      show ev_W l D cys ty ck_tags ev_TR kc_315 86 [(1, .inl 1), (0, .inr (.inl 12))] [] C45 _
      refine ev_al eX12_pairs_86 rfl ?_
      refine ev_il eX12_pairs_87 rfl ?_
      refine ev_z_ne (tgt := 96) eX12_pairs_88 (by decide) (fun _ => ?_) (fun hc => absurd (show (1 : Int) ≠ 0 by decide) hc)
      refine ev_il eX12_pairs_96 rfl ?_
      refine ev_ic eX12_pairs_97 (by decide) ?_
      refine ev_c_ne (tgt := 106) eX12_pairs_98 (by decide) (fun hc => absurd hc (show ¬ ((1 : Int) ≠ 1) by decide)) (fun _ => ?_)
      refine ev_bp eX12_pairs_101 (by decide) (by decide) ?_
      refine ev_goto (tgt := 108) eX12_pairs_103 (by decide) ?_
      refine ev_al eX12_pairs_108 rfl ?_
      refine ev_getR lk_f (ci := 12) (j := 7) (cd := 3) eX12_pairs_109 (isF (by decide +kernel)) rfl rfl ?_
      refine ev_il eX12_pairs_112 rfl ?_
      refine ev_z_ne (tgt := 120) eX12_pairs_113 (by decide) (fun _ => ?_) (fun hc => absurd (show (1 : Int) ≠ 0 by decide) hc)
      refine ev_il eX12_pairs_120 rfl ?_
      refine ev_ic eX12_pairs_121 (by decide) ?_
      refine ev_c_ne (tgt := 129) eX12_pairs_122 (by decide) (fun hc => absurd hc (show ¬ ((1 : Int) ≠ 1) by decide)) (fun _ => ?_)
      refine ev_ic eX12_pairs_125 (by decide) ?_
      refine ev_goto (tgt := 130) eX12_pairs_126 (by decide) ?_
      refine ev_iald eX12_pairs_130 rfl rfl (by decide) (by decide) ?_
      obtain ⟨r46, C46, hq46, h⟩ := ev_bd_some h
      refine ev_callV (kc := kc_258) (A := [.inl 20, .inl ((C45 35 0))]) (T := []) (lk_m.1 _ _ 0 [258, 259] (isM (by decide +kernel)) 258 (by decide)) eX12_pairs_131 (m_12_takesName hU hq46) rfl rfl rfl (by decide) (by decide) (Nat.le_of_ble_eq_true rfl) ?_
      rintro _ C46 ⟨rfl, rfl⟩
      show ev_W l D cys ty ck_tags ev_TR kc_315 134 [(1, .inl 1), (0, .inr (.inl 12))] [.inl r46] C46 _
      refine ev_z_ne (tgt := 139) eX12_pairs_134 (by decide) (fun hc47 => ?_) (fun hc47 => ?_)
      · rw [if_pos (show r46 ≠ 0 from hc47)] at h
        refine ev_al eX12_pairs_139 rfl ?_
        refine ev_getI lk_f (ci := 12) (j := 18) (cd := 0) eX12_pairs_140 (isF (by decide +kernel)) rfl rfl rfl ?_
        refine ev_is (L' := [(2, .inl ((C46 12 18))), (1, .inl 1), (0, .inr (.inl 12))]) eX12_pairs_143 (by decide) rfl ?_
        refine ev_al eX12_pairs_144 rfl ?_
        refine ev_il eX12_pairs_145 rfl ?_
        refine ev_ic eX12_pairs_146 (by decide) ?_
        refine ev_c_ne (tgt := 155) eX12_pairs_147 (by decide) (fun hc => absurd hc (show ¬ ((1 : Int) ≠ 1) by decide)) (fun _ => ?_)
        refine ev_bp eX12_pairs_150 (by decide) (by decide) ?_
        refine ev_goto (tgt := 167) eX12_pairs_152 (by decide) ?_
        refine ev_al eX12_pairs_167 rfl ?_
        refine ev_getR lk_f (ci := 12) (j := 7) (cd := 3) eX12_pairs_168 (isF (by decide +kernel)) rfl rfl ?_
        refine ev_il eX12_pairs_171 rfl ?_
        refine ev_ic eX12_pairs_172 (by decide) ?_
        refine ev_c_ne (tgt := 180) eX12_pairs_173 (by decide) (fun hc => absurd hc (show ¬ ((1 : Int) ≠ 1) by decide)) (fun _ => ?_)
        refine ev_ic eX12_pairs_176 (by decide) ?_
        refine ev_goto (tgt := 190) eX12_pairs_177 (by decide) ?_
        refine ev_iald eX12_pairs_190 rfl rfl (by decide) (by decide) ?_
        obtain ⟨r48, C48, hq48, h⟩ := ev_bd_some h
        refine ev_callV (kc := kc_224) (A := [.inl 26, .inl ((C46 35 1))]) (T := []) (lk_m.1 _ _ 0 [224, 225] (isM (by decide +kernel)) 224 (by decide)) eX12_pairs_191 (m_12_looksAt hU hq48) rfl rfl rfl (by decide) (by decide) (Nat.le_of_ble_eq_true rfl) ?_
        rintro _ C48 ⟨rfl, rfl⟩
        show ev_W l D cys ty ck_tags ev_TR kc_315 194 [(2, .inl ((C46 12 18))), (1, .inl 1), (0, .inr (.inl 12))] [.inl r48] C48 _
        refine ev_z_ne (tgt := 199) eX12_pairs_194 (by decide) (fun hc49 => ?_) (fun hc49 => ?_)
        · rw [if_pos (show r48 ≠ 0 from hc49)] at h
          refine ev_al eX12_pairs_199 rfl ?_
          refine ev_getI lk_f (ci := 12) (j := 18) (cd := 0) eX12_pairs_200 (isF (by decide +kernel)) rfl rfl rfl ?_
          refine ev_is (L' := [(3, .inl ((C48 12 18))), (2, .inl ((C46 12 18))), (1, .inl 1), (0, .inr (.inl 12))]) eX12_pairs_203 (by decide) rfl ?_
          refine ev_il eX12_pairs_204 rfl ?_
          refine ev_ic eX12_pairs_205 (by decide) ?_
          refine ev_c_ne (tgt := 214) eX12_pairs_206 (by decide) (fun _ => ?_) (fun hc => absurd (show (1 : Int) ≠ 4 by decide) hc)
          refine ev_il eX12_pairs_214 rfl ?_
          refine ev_ic eX12_pairs_215 (by decide) ?_
          refine ev_c_ne (tgt := 242) eX12_pairs_216 (by decide) (fun _ => ?_) (fun hc => absurd (show (1 : Int) ≠ 2 by decide) hc)
          refine ev_il eX12_pairs_242 rfl ?_
          refine ev_ic eX12_pairs_243 (by decide) ?_
          refine ev_c_ne (tgt := 283) eX12_pairs_244 (by decide) (fun _ => ?_) (fun hc => absurd (show (1 : Int) ≠ 2 by decide) hc)
          refine ev_al eX12_pairs_283 rfl ?_
          refine ev_il eX12_pairs_284 rfl ?_
          refine ev_z_ne (tgt := 293) eX12_pairs_285 (by decide) (fun _ => ?_) (fun hc => absurd (show (1 : Int) ≠ 0 by decide) hc)
          refine ev_il eX12_pairs_293 rfl ?_
          refine ev_ic eX12_pairs_294 (by decide) ?_
          refine ev_c_ne (tgt := 303) eX12_pairs_295 (by decide) (fun hc => absurd hc (show ¬ ((1 : Int) ≠ 1) by decide)) (fun _ => ?_)
          refine ev_bp eX12_pairs_298 (by decide) (by decide) ?_
          refine ev_goto (tgt := 315) eX12_pairs_300 (by decide) ?_
          refine ev_il eX12_pairs_315 rfl ?_
          refine ev_add eX12_pairs_316 ?_
          obtain ⟨r50, C50, hq50, h⟩ := ev_bd_some h
          refine ev_callV (kc := kc_314) (A := [.inl (ev_w ((12 : Int) + ((C46 12 18))))]) (T := []) (lk_m.1 _ _ 0 [314] (isM (by decide +kernel)) 314 (by decide)) eX12_pairs_317 (m_12_sets hU hq50) rfl rfl rfl (by decide) (by decide) (Nat.le_of_ble_eq_true rfl) ?_
          rintro _ C50 ⟨rfl, rfl⟩
          show ev_W l D cys ty ck_tags ev_TR kc_315 320 [(3, .inl ((C48 12 18))), (2, .inl ((C46 12 18))), (1, .inl 1), (0, .inr (.inl 12))] [.inl r50] C50 _
          refine ev_z_ne (tgt := 325) eX12_pairs_320 (by decide) (fun hc51 => ?_) (fun hc51 => ?_)
          · rw [if_pos (show r50 ≠ 0 from hc51)] at h
            refine ev_il eX12_pairs_325 rfl ?_
            refine ev_ic eX12_pairs_326 (by decide) ?_
            refine ev_c_ne (tgt := 345) eX12_pairs_327 (by decide) (fun _ => ?_) (fun hc => absurd (show (1 : Int) ≠ 4 by decide) hc)
            refine ev_ic eX12_pairs_345 (by decide) ?_
            cases h
            exact ev_zret eX12_pairs_346 rfl (by decide) ⟨rfl, rfl⟩
          · rw [if_neg (show ¬ (r50 ≠ 0) from hc51)] at h
            refine ev_ic eX12_pairs_323 (by decide) ?_
            cases h
            exact ev_zret eX12_pairs_324 rfl (by decide) ⟨rfl, rfl⟩
        · rw [if_neg (show ¬ (r48 ≠ 0) from hc49)] at h
          refine ev_ic eX12_pairs_197 (by decide) ?_
          cases h
          exact ev_zret eX12_pairs_198 rfl (by decide) ⟨rfl, rfl⟩
      · rw [if_neg (show ¬ (r46 ≠ 0) from hc47)] at h
        refine ev_ic eX12_pairs_137 (by decide) ?_
        cases h
        exact ev_zret eX12_pairs_138 rfl (by decide) ⟨rfl, rfl⟩
  · rw [if_neg (show ¬ (r1 = 0) from hc2)] at h
    refine ev_ic eX12_pairs_10 (by decide) ?_
    refine ev_goto (tgt := 71) eX12_pairs_11 (by decide) ?_
    refine ev_is (L' := [(1, .inl 0), (0, .inr (.inl 12))]) eX12_pairs_71 (by decide) rfl ?_
    refine ev_il eX12_pairs_72 rfl ?_
    refine ev_z_ge (tgt := 82) eX12_pairs_73 (by decide) (fun _ => ?_) (fun hc => absurd (show (0 : Int) ≤ 0 by decide) hc)
    refine ev_al eX12_pairs_82 rfl ?_
    obtain ⟨C52, hq52, h⟩ := ev_bv_some h
    refine ev_callV (kc := kc_209) (A := []) (T := []) (lk_m.1 _ _ 0 [209] (isM (by decide +kernel)) 209 (by decide)) eX12_pairs_83 (m_12_go hU hq52) rfl rfl rfl (by decide) (by decide) (Nat.le_of_ble_eq_true rfl) ?_
    rintro _ C52 ⟨rfl, rfl⟩
    show ev_W l D cys ty ck_tags ev_TR kc_315 86 [(1, .inl 0), (0, .inr (.inl 12))] [] C52 _
    refine ev_al eX12_pairs_86 rfl ?_
    refine ev_il eX12_pairs_87 rfl ?_
    refine ev_z_ne (tgt := 96) eX12_pairs_88 (by decide) (fun hc => absurd hc (show ¬ ((0 : Int) ≠ 0) by decide)) (fun _ => ?_)
    refine ev_bp eX12_pairs_91 (by decide) (by decide) ?_
    refine ev_goto (tgt := 108) eX12_pairs_93 (by decide) ?_
    refine ev_al eX12_pairs_108 rfl ?_
    refine ev_getR lk_f (ci := 12) (j := 7) (cd := 3) eX12_pairs_109 (isF (by decide +kernel)) rfl rfl ?_
    refine ev_il eX12_pairs_112 rfl ?_
    refine ev_z_ne (tgt := 120) eX12_pairs_113 (by decide) (fun hc => absurd hc (show ¬ ((0 : Int) ≠ 0) by decide)) (fun _ => ?_)
    refine ev_ic eX12_pairs_116 (by decide) ?_
    refine ev_goto (tgt := 130) eX12_pairs_117 (by decide) ?_
    refine ev_iald eX12_pairs_130 rfl rfl (by decide) (by decide) ?_
    obtain ⟨r53, C53, hq53, h⟩ := ev_bd_some h
    refine ev_callV (kc := kc_258) (A := [.inl 26, .inl ((C52 35 1))]) (T := []) (lk_m.1 _ _ 0 [258, 259] (isM (by decide +kernel)) 258 (by decide)) eX12_pairs_131 (m_12_takesName hU hq53) rfl rfl rfl (by decide) (by decide) (Nat.le_of_ble_eq_true rfl) ?_
    rintro _ C53 ⟨rfl, rfl⟩
    show ev_W l D cys ty ck_tags ev_TR kc_315 134 [(1, .inl 0), (0, .inr (.inl 12))] [.inl r53] C53 _
    refine ev_z_ne (tgt := 139) eX12_pairs_134 (by decide) (fun hc54 => ?_) (fun hc54 => ?_)
    · rw [if_pos (show r53 ≠ 0 from hc54)] at h
      refine ev_al eX12_pairs_139 rfl ?_
      refine ev_getI lk_f (ci := 12) (j := 18) (cd := 0) eX12_pairs_140 (isF (by decide +kernel)) rfl rfl rfl ?_
      refine ev_is (L' := [(2, .inl ((C53 12 18))), (1, .inl 0), (0, .inr (.inl 12))]) eX12_pairs_143 (by decide) rfl ?_
      refine ev_al eX12_pairs_144 rfl ?_
      refine ev_il eX12_pairs_145 rfl ?_
      refine ev_ic eX12_pairs_146 (by decide) ?_
      refine ev_c_ne (tgt := 155) eX12_pairs_147 (by decide) (fun _ => ?_) (fun hc => absurd (show (0 : Int) ≠ 1 by decide) hc)
      refine ev_il eX12_pairs_155 rfl ?_
      refine ev_ic eX12_pairs_156 (by decide) ?_
      refine ev_c_ne (tgt := 165) eX12_pairs_157 (by decide) (fun _ => ?_) (fun hc => absurd (show (0 : Int) ≠ 4 by decide) hc)
      refine ev_bp eX12_pairs_165 (by decide) (by decide) ?_
      refine ev_al eX12_pairs_167 rfl ?_
      refine ev_getR lk_f (ci := 12) (j := 7) (cd := 3) eX12_pairs_168 (isF (by decide +kernel)) rfl rfl ?_
      refine ev_il eX12_pairs_171 rfl ?_
      refine ev_ic eX12_pairs_172 (by decide) ?_
      refine ev_c_ne (tgt := 180) eX12_pairs_173 (by decide) (fun _ => ?_) (fun hc => absurd (show (0 : Int) ≠ 1 by decide) hc)
      refine ev_il eX12_pairs_180 rfl ?_
      refine ev_ic eX12_pairs_181 (by decide) ?_
      refine ev_c_ne (tgt := 189) eX12_pairs_182 (by decide) (fun _ => ?_) (fun hc => absurd (show (0 : Int) ≠ 4 by decide) hc)
      refine ev_ic eX12_pairs_189 (by decide) ?_
      refine ev_iald eX12_pairs_190 rfl rfl (by decide) (by decide) ?_
      obtain ⟨r55, C55, hq55, h⟩ := ev_bd_some h
      refine ev_callV (kc := kc_224) (A := [.inl 20, .inl ((C53 35 0))]) (T := []) (lk_m.1 _ _ 0 [224, 225] (isM (by decide +kernel)) 224 (by decide)) eX12_pairs_191 (m_12_looksAt hU hq55) rfl rfl rfl (by decide) (by decide) (Nat.le_of_ble_eq_true rfl) ?_
      rintro _ C55 ⟨rfl, rfl⟩
      show ev_W l D cys ty ck_tags ev_TR kc_315 194 [(2, .inl ((C53 12 18))), (1, .inl 0), (0, .inr (.inl 12))] [.inl r55] C55 _
      refine ev_z_ne (tgt := 199) eX12_pairs_194 (by decide) (fun hc56 => ?_) (fun hc56 => ?_)
      · rw [if_pos (show r55 ≠ 0 from hc56)] at h
        refine ev_al eX12_pairs_199 rfl ?_
        refine ev_getI lk_f (ci := 12) (j := 18) (cd := 0) eX12_pairs_200 (isF (by decide +kernel)) rfl rfl rfl ?_
        refine ev_is (L' := [(3, .inl ((C55 12 18))), (2, .inl ((C53 12 18))), (1, .inl 0), (0, .inr (.inl 12))]) eX12_pairs_203 (by decide) rfl ?_
        refine ev_il eX12_pairs_204 rfl ?_
        refine ev_ic eX12_pairs_205 (by decide) ?_
        refine ev_c_ne (tgt := 214) eX12_pairs_206 (by decide) (fun _ => ?_) (fun hc => absurd (show (0 : Int) ≠ 4 by decide) hc)
        refine ev_il eX12_pairs_214 rfl ?_
        refine ev_ic eX12_pairs_215 (by decide) ?_
        refine ev_c_ne (tgt := 242) eX12_pairs_216 (by decide) (fun _ => ?_) (fun hc => absurd (show (0 : Int) ≠ 2 by decide) hc)
        refine ev_il eX12_pairs_242 rfl ?_
        refine ev_ic eX12_pairs_243 (by decide) ?_
        refine ev_c_ne (tgt := 283) eX12_pairs_244 (by decide) (fun _ => ?_) (fun hc => absurd (show (0 : Int) ≠ 2 by decide) hc)
        refine ev_al eX12_pairs_283 rfl ?_
        refine ev_il eX12_pairs_284 rfl ?_
        refine ev_z_ne (tgt := 293) eX12_pairs_285 (by decide) (fun hc => absurd hc (show ¬ ((0 : Int) ≠ 0) by decide)) (fun _ => ?_)
        refine ev_bp eX12_pairs_288 (by decide) (by decide) ?_
        refine ev_goto (tgt := 315) eX12_pairs_290 (by decide) ?_
        refine ev_il eX12_pairs_315 rfl ?_
        refine ev_add eX12_pairs_316 ?_
        obtain ⟨r57, C57, hq57, h⟩ := ev_bd_some h
        refine ev_callV (kc := kc_314) (A := [.inl (ev_w ((34 : Int) + ((C53 12 18))))]) (T := []) (lk_m.1 _ _ 0 [314] (isM (by decide +kernel)) 314 (by decide)) eX12_pairs_317 (m_12_sets hU hq57) rfl rfl rfl (by decide) (by decide) (Nat.le_of_ble_eq_true rfl) ?_
        rintro _ C57 ⟨rfl, rfl⟩
        show ev_W l D cys ty ck_tags ev_TR kc_315 320 [(3, .inl ((C55 12 18))), (2, .inl ((C53 12 18))), (1, .inl 0), (0, .inr (.inl 12))] [.inl r57] C57 _
        refine ev_z_ne (tgt := 325) eX12_pairs_320 (by decide) (fun hc58 => ?_) (fun hc58 => ?_)
        · rw [if_pos (show r57 ≠ 0 from hc58)] at h
          refine ev_il eX12_pairs_325 rfl ?_
          refine ev_ic eX12_pairs_326 (by decide) ?_
          refine ev_c_ne (tgt := 345) eX12_pairs_327 (by decide) (fun _ => ?_) (fun hc => absurd (show (0 : Int) ≠ 4 by decide) hc)
          refine ev_ic eX12_pairs_345 (by decide) ?_
          cases h
          exact ev_zret eX12_pairs_346 rfl (by decide) ⟨rfl, rfl⟩
        · rw [if_neg (show ¬ (r57 ≠ 0) from hc58)] at h
          refine ev_ic eX12_pairs_323 (by decide) ?_
          cases h
          exact ev_zret eX12_pairs_324 rfl (by decide) ⟨rfl, rfl⟩
      · rw [if_neg (show ¬ (r55 ≠ 0) from hc56)] at h
        refine ev_ic eX12_pairs_197 (by decide) ?_
        cases h
        exact ev_zret eX12_pairs_198 rfl (by decide) ⟨rfl, rfl⟩
    · rw [if_neg (show ¬ (r53 ≠ 0) from hc54)] at h
      refine ev_ic eX12_pairs_137 (by decide) ?_
      cases h
      exact ev_zret eX12_pairs_138 rfl (by decide) ⟨rfl, rfl⟩
theorem eX12_isSign_0 : decode cX12_isSign 0 = .ok (.aload_n 0, 1) := by decide +kernel
theorem eX12_isSign_1 : decode cX12_isSign 1 = .ok (.getfield 166, 3) := by decide +kernel
theorem eX12_isSign_4 : decode cX12_isSign 4 = .ok (.iconst 3, 1) := by decide +kernel
theorem eX12_isSign_5 : decode cX12_isSign 5 = .ok (.if_icmp .ne 15, 3) := by decide +kernel
theorem eX12_isSign_8 : decode cX12_isSign 8 = .ok (.aload_n 0, 1) := by decide +kernel
theorem eX12_isSign_9 : decode cX12_isSign 9 = .ok (.getfield 176, 3) := by decide +kernel
theorem eX12_isSign_12 : decode cX12_isSign 12 = .ok (.iload_n 1, 1) := by decide +kernel
theorem eX12_isSign_13 : decode cX12_isSign 13 = .ok (.if_icmp .ne 7, 3) := by decide +kernel
theorem eX12_isSign_16 : decode cX12_isSign 16 = .ok (.iconst 1, 1) := by decide +kernel
theorem eX12_isSign_17 : decode cX12_isSign 17 = .ok (.goto 4, 3) := by decide +kernel
theorem eX12_isSign_20 : decode cX12_isSign 20 = .ok (.iconst 0, 1) := by decide +kernel
theorem eX12_isSign_21 : decode cX12_isSign 21 = .ok (.ireturn, 1) := by decide +kernel
set_option maxRecDepth 100000 in
theorem m_12_isSign (hU : ev_uq ty ev_TR) {C : ev_C} {x1 : Int} {r : Int} {C' : ev_C} (h : f_12_isSign C x1 = some (r, C')) : ev_Met l D cys ty ck_tags ev_TR kc_210 [.inr (.inl 12), .inl x1] C (fun r0 C0 => r0 = some (.inl r) ∧ C0 = C') := by
  unfold f_12_isSign at h
  refine ev_enter (by decide +kernel) (by decide +kernel) (Nat.le_of_ble_eq_true rfl) ?_
  show ev_W l D cys ty ck_tags ev_TR kc_210 0 [(0, .inr (.inl 12)), (1, .inl x1)] [] C _
  refine ev_al eX12_isSign_0 rfl ?_
  refine ev_getI lk_f (ci := 12) (j := 11) (cd := 0) eX12_isSign_1 (isF (by decide +kernel)) rfl rfl rfl ?_
  refine ev_ic eX12_isSign_4 (by decide) ?_
  refine ev_c_ne (tgt := 20) eX12_isSign_5 (by decide) (fun hc1 => ?_) (fun hc1 => ?_)
  · rw [if_pos (show (C 12 11) ≠ 3 from hc1)] at h
    refine ev_ic eX12_isSign_20 (by decide) ?_
    cases h
    exact ev_zret eX12_isSign_21 rfl (by decide) ⟨rfl, rfl⟩
  · rw [if_neg (show ¬ ((C 12 11) ≠ 3) from hc1)] at h
    refine ev_al eX12_isSign_8 rfl ?_
    refine ev_getI lk_f (ci := 12) (j := 14) (cd := 0) eX12_isSign_9 (isF (by decide +kernel)) rfl rfl rfl ?_
    refine ev_il eX12_isSign_12 rfl ?_
    refine ev_c_ne (tgt := 20) eX12_isSign_13 (by decide) (fun hc2 => ?_) (fun hc2 => ?_)
    · rw [if_pos (show (C 12 14) ≠ x1 from hc2)] at h
      refine ev_ic eX12_isSign_20 (by decide) ?_
      cases h
      exact ev_zret eX12_isSign_21 rfl (by decide) ⟨rfl, rfl⟩
    · rw [if_neg (show ¬ ((C 12 14) ≠ x1) from hc2)] at h
      refine ev_ic eX12_isSign_16 (by decide) ?_
      refine ev_goto (tgt := 21) eX12_isSign_17 (by decide) ?_
      cases h
      exact ev_zret eX12_isSign_21 rfl (by decide) ⟨rfl, rfl⟩
theorem eX12_readScene_0 : decode cX12_readScene 0 = .ok (.aload_n 0, 1) := by decide +kernel
theorem eX12_readScene_1 : decode cX12_readScene 1 = .ok (.getfield 37, 3) := by decide +kernel
theorem eX12_readScene_4 : decode cX12_readScene 4 = .ok (.iconst 3, 1) := by decide +kernel
theorem eX12_readScene_5 : decode cX12_readScene 5 = .ok (.iaload, 1) := by decide +kernel
theorem eX12_readScene_6 : decode cX12_readScene 6 = .ok (.ifCond .ne 9, 3) := by decide +kernel
theorem eX12_readScene_9 : decode cX12_readScene 9 = .ok (.aload_n 0, 1) := by decide +kernel
theorem eX12_readScene_10 : decode cX12_readScene 10 = .ok (.iconst 1, 1) := by decide +kernel
theorem eX12_readScene_11 : decode cX12_readScene 11 = .ok (.invokevirtual 192, 3) := by decide +kernel
theorem eX12_readScene_14 : decode cX12_readScene 14 = .ok (.ireturn, 1) := by decide +kernel
theorem eX12_readScene_15 : decode cX12_readScene 15 = .ok (.aload_n 0, 1) := by decide +kernel
theorem eX12_readScene_16 : decode cX12_readScene 16 = .ok (.getfield 37, 3) := by decide +kernel
theorem eX12_readScene_19 : decode cX12_readScene 19 = .ok (.iconst 4, 1) := by decide +kernel
theorem eX12_readScene_20 : decode cX12_readScene 20 = .ok (.iaload, 1) := by decide +kernel
theorem eX12_readScene_21 : decode cX12_readScene 21 = .ok (.istore_n 1, 1) := by decide +kernel
theorem eX12_readScene_22 : decode cX12_readScene 22 = .ok (.iload_n 1, 1) := by decide +kernel
theorem eX12_readScene_23 : decode cX12_readScene 23 = .ok (.bipush 12, 2) := by decide +kernel
theorem eX12_readScene_25 : decode cX12_readScene 25 = .ok (.if_icmp .ne 9, 3) := by decide +kernel
theorem eX12_readScene_28 : decode cX12_readScene 28 = .ok (.aload_n 0, 1) := by decide +kernel
theorem eX12_readScene_29 : decode cX12_readScene 29 = .ok (.iconst 4, 1) := by decide +kernel
theorem eX12_readScene_30 : decode cX12_readScene 30 = .ok (.invokevirtual 192, 3) := by decide +kernel
theorem eX12_readScene_33 : decode cX12_readScene 33 = .ok (.ireturn, 1) := by decide +kernel
theorem eX12_readScene_34 : decode cX12_readScene 34 = .ok (.aload_n 0, 1) := by decide +kernel
theorem eX12_readScene_35 : decode cX12_readScene 35 = .ok (.invokevirtual 195, 3) := by decide +kernel
theorem eX12_readScene_38 : decode cX12_readScene 38 = .ok (.aload_n 0, 1) := by decide +kernel
theorem eX12_readScene_39 : decode cX12_readScene 39 = .ok (.getfield 37, 3) := by decide +kernel
theorem eX12_readScene_42 : decode cX12_readScene 42 = .ok (.bipush 104, 2) := by decide +kernel
theorem eX12_readScene_44 : decode cX12_readScene 44 = .ok (.iload_n 1, 1) := by decide +kernel
theorem eX12_readScene_45 : decode cX12_readScene 45 = .ok (.iadd, 1) := by decide +kernel
theorem eX12_readScene_46 : decode cX12_readScene 46 = .ok (.aload_n 0, 1) := by decide +kernel
theorem eX12_readScene_47 : decode cX12_readScene 47 = .ok (.getfield 37, 3) := by decide +kernel
theorem eX12_readScene_50 : decode cX12_readScene 50 = .ok (.iconst 3, 1) := by decide +kernel
theorem eX12_readScene_51 : decode cX12_readScene 51 = .ok (.iaload, 1) := by decide +kernel
theorem eX12_readScene_52 : decode cX12_readScene 52 = .ok (.iconst 1, 1) := by decide +kernel
theorem eX12_readScene_53 : decode cX12_readScene 53 = .ok (.isub, 1) := by decide +kernel
theorem eX12_readScene_54 : decode cX12_readScene 54 = .ok (.iastore, 1) := by decide +kernel
theorem eX12_readScene_55 : decode cX12_readScene 55 = .ok (.aload_n 0, 1) := by decide +kernel
theorem eX12_readScene_56 : decode cX12_readScene 56 = .ok (.getfield 37, 3) := by decide +kernel
theorem eX12_readScene_59 : decode cX12_readScene 59 = .ok (.bipush 116, 2) := by decide +kernel
theorem eX12_readScene_61 : decode cX12_readScene 61 = .ok (.iload_n 1, 1) := by decide +kernel
theorem eX12_readScene_62 : decode cX12_readScene 62 = .ok (.iadd, 1) := by decide +kernel
theorem eX12_readScene_63 : decode cX12_readScene 63 = .ok (.iconst 0, 1) := by decide +kernel
theorem eX12_readScene_64 : decode cX12_readScene 64 = .ok (.iastore, 1) := by decide +kernel
theorem eX12_readScene_65 : decode cX12_readScene 65 = .ok (.aload_n 0, 1) := by decide +kernel
theorem eX12_readScene_66 : decode cX12_readScene 66 = .ok (.getfield 37, 3) := by decide +kernel
theorem eX12_readScene_69 : decode cX12_readScene 69 = .ok (.bipush 116, 2) := by decide +kernel
theorem eX12_readScene_71 : decode cX12_readScene 71 = .ok (.iload_n 1, 1) := by decide +kernel
theorem eX12_readScene_72 : decode cX12_readScene 72 = .ok (.iadd, 1) := by decide +kernel
theorem eX12_readScene_73 : decode cX12_readScene 73 = .ok (.iaload, 1) := by decide +kernel
theorem eX12_readScene_74 : decode cX12_readScene 74 = .ok (.ifCond .eq 12, 3) := by decide +kernel
theorem eX12_readScene_77 : decode cX12_readScene 77 = .ok (.aload_n 0, 1) := by decide +kernel
theorem eX12_readScene_78 : decode cX12_readScene 78 = .ok (.bipush 59, 2) := by decide +kernel
theorem eX12_readScene_80 : decode cX12_readScene 80 = .ok (.invokevirtual 189, 3) := by decide +kernel
theorem eX12_readScene_83 : decode cX12_readScene 83 = .ok (.ifCond .ne 31, 3) := by decide +kernel
theorem eX12_readScene_86 : decode cX12_readScene 86 = .ok (.aload_n 0, 1) := by decide +kernel
theorem eX12_readScene_87 : decode cX12_readScene 87 = .ok (.bipush 20, 2) := by decide +kernel
theorem eX12_readScene_89 : decode cX12_readScene 89 = .ok (.aload_n 0, 1) := by decide +kernel
theorem eX12_readScene_90 : decode cX12_readScene 90 = .ok (.getfield 37, 3) := by decide +kernel
theorem eX12_readScene_93 : decode cX12_readScene 93 = .ok (.iconst 0, 1) := by decide +kernel
theorem eX12_readScene_94 : decode cX12_readScene 94 = .ok (.iaload, 1) := by decide +kernel
theorem eX12_readScene_95 : decode cX12_readScene 95 = .ok (.invokevirtual 213, 3) := by decide +kernel
theorem eX12_readScene_98 : decode cX12_readScene 98 = .ok (.ifCond .eq 14, 3) := by decide +kernel
theorem eX12_readScene_101 : decode cX12_readScene 101 = .ok (.aload_n 0, 1) := by decide +kernel
theorem eX12_readScene_102 : decode cX12_readScene 102 = .ok (.bipush 116, 2) := by decide +kernel
theorem eX12_readScene_104 : decode cX12_readScene 104 = .ok (.iload_n 1, 1) := by decide +kernel
theorem eX12_readScene_105 : decode cX12_readScene 105 = .ok (.iadd, 1) := by decide +kernel
theorem eX12_readScene_106 : decode cX12_readScene 106 = .ok (.invokevirtual 233, 3) := by decide +kernel
theorem eX12_readScene_109 : decode cX12_readScene 109 = .ok (.ifCond .ne (-44), 3) := by decide +kernel
theorem eX12_readScene_112 : decode cX12_readScene 112 = .ok (.iconst 0, 1) := by decide +kernel
theorem eX12_readScene_113 : decode cX12_readScene 113 = .ok (.ireturn, 1) := by decide +kernel
theorem eX12_readScene_114 : decode cX12_readScene 114 = .ok (.aload_n 0, 1) := by decide +kernel
theorem eX12_readScene_115 : decode cX12_readScene 115 = .ok (.getfield 37, 3) := by decide +kernel
theorem eX12_readScene_118 : decode cX12_readScene 118 = .ok (.iconst 4, 1) := by decide +kernel
theorem eX12_readScene_119 : decode cX12_readScene 119 = .ok (.dup2, 1) := by decide +kernel
theorem eX12_readScene_120 : decode cX12_readScene 120 = .ok (.iaload, 1) := by decide +kernel
theorem eX12_readScene_121 : decode cX12_readScene 121 = .ok (.iconst 1, 1) := by decide +kernel
theorem eX12_readScene_122 : decode cX12_readScene 122 = .ok (.iadd, 1) := by decide +kernel
theorem eX12_readScene_123 : decode cX12_readScene 123 = .ok (.iastore, 1) := by decide +kernel
theorem eX12_readScene_124 : decode cX12_readScene 124 = .ok (.iconst 1, 1) := by decide +kernel
theorem eX12_readScene_125 : decode cX12_readScene 125 = .ok (.ireturn, 1) := by decide +kernel
set_option maxRecDepth 100000 in
theorem m_12_readScene_J86 (hU : ev_uq ty ev_TR) {r : Int} {C' : ev_C} {K65 : ev_C → Int → Option (Int × ev_C)} (hK65 : ∀ {C : ev_C} {y1 : Int}, K65 C y1 = some (r, C') → ev_W l D cys ty ck_tags ev_TR kc_316 65 [(0, .inr (.inl 12)), (1, .inl y1)] [] C (fun r0 C0 => r0 = some (.inl r) ∧ C0 = C')) {C : ev_C} {y1 : Int} (h : f_12_readScene_J86 K65 C y1 = some (r, C')) : ev_W l D cys ty ck_tags ev_TR kc_316 86 [(0, .inr (.inl 12)), (1, .inl y1)] [] C (fun r0 C0 => r0 = some (.inl r) ∧ C0 = C') := by
  unfold f_12_readScene_J86 at h
  refine ev_al eX12_readScene_86 rfl ?_
  refine ev_bp eX12_readScene_87 (by decide) (by decide) ?_
  refine ev_al eX12_readScene_89 rfl ?_
  refine ev_getR lk_f (ci := 12) (j := 7) (cd := 3) eX12_readScene_90 (isF (by decide +kernel)) rfl rfl ?_
  refine ev_ic eX12_readScene_93 (by decide) ?_
  refine ev_iald eX12_readScene_94 rfl rfl (by decide) (by decide) ?_
  obtain ⟨r8, C8, hq8, h⟩ := ev_bd_some h
  refine ev_callV (kc := kc_224) (A := [.inl 20, .inl ((C 35 0))]) (T := []) (lk_m.1 _ _ 0 [224, 225] (isM (by decide +kernel)) 224 (by decide)) eX12_readScene_95 (m_12_looksAt hU hq8) rfl rfl rfl (by decide) (by decide) (Nat.le_of_ble_eq_true rfl) ?_
  rintro _ C8 ⟨rfl, rfl⟩
  show ev_W l D cys ty ck_tags ev_TR kc_316 98 [(0, .inr (.inl 12)), (1, .inl y1)] [.inl r8] C8 _
  refine ev_z_eq (tgt := 112) eX12_readScene_98 (by decide) (fun hc9 => ?_) (fun hc9 => ?_)
  · rw [if_pos (show r8 = 0 from hc9)] at h
    refine ev_ic eX12_readScene_112 (by decide) ?_
    cases h
    exact ev_zret eX12_readScene_113 rfl (by decide) ⟨rfl, rfl⟩
  · rw [if_neg (show ¬ (r8 = 0) from hc9)] at h
    refine ev_al eX12_readScene_101 rfl ?_
    refine ev_bp eX12_readScene_102 (by decide) (by decide) ?_
    refine ev_il eX12_readScene_104 rfl ?_
    refine ev_add eX12_readScene_105 ?_
    obtain ⟨r10, C10, hq10, h⟩ := ev_bd_some h
    refine ev_callV (kc := kc_314) (A := [.inl (ev_w ((116 : Int) + y1))]) (T := []) (lk_m.1 _ _ 0 [314] (isM (by decide +kernel)) 314 (by decide)) eX12_readScene_106 (m_12_sets hU hq10) rfl rfl rfl (by decide) (by decide) (Nat.le_of_ble_eq_true rfl) ?_
    rintro _ C10 ⟨rfl, rfl⟩
    show ev_W l D cys ty ck_tags ev_TR kc_316 109 [(0, .inr (.inl 12)), (1, .inl y1)] [.inl r10] C10 _
    refine ev_z_ne (tgt := 65) eX12_readScene_109 (by decide) (fun hc11 => ?_) (fun hc11 => ?_)
    · rw [if_pos (show r10 ≠ 0 from hc11)] at h
      refine ev_loc (L' := [(0, .inr (.inl 12)), (1, .inl y1)]) rfl ?_
      exact hK65 h
    · rw [if_neg (show ¬ (r10 ≠ 0) from hc11)] at h
      refine ev_ic eX12_readScene_112 (by decide) ?_
      cases h
      exact ev_zret eX12_readScene_113 rfl (by decide) ⟨rfl, rfl⟩
set_option maxRecDepth 100000 in
theorem m_12_readScene_L65 (hU : ev_uq ty ev_TR) : ∀ (n : Nat) {C : ev_C} {y1 : Int} {r : Int} {C' : ev_C}, f_12_readScene_L65 n C y1 = some (r, C') → ev_W l D cys ty ck_tags ev_TR kc_316 65 [(0, .inr (.inl 12)), (1, .inl y1)] [] C (fun r0 C0 => r0 = some (.inl r) ∧ C0 = C')
  | 0, _, _, _, _, h => by cases h
  | n + 1, C, y1, _, _, h => by
    unfold f_12_readScene_L65 at h
    refine ev_al eX12_readScene_65 rfl ?_
    refine ev_getR lk_f (ci := 12) (j := 7) (cd := 3) eX12_readScene_66 (isF (by decide +kernel)) rfl rfl ?_
    refine ev_bp eX12_readScene_69 (by decide) (by decide) ?_
    refine ev_il eX12_readScene_71 rfl ?_
    refine ev_add eX12_readScene_72 ?_
    obtain ⟨hb6, h⟩ := ev_gd h
    refine ev_iald eX12_readScene_73 rfl rfl hb6.1 hb6.2 ?_
    refine ev_z_eq (tgt := 86) eX12_readScene_74 (by decide) (fun hc7 => ?_) (fun hc7 => ?_)
    · rw [if_pos (show (C 35 (Int.toNat (ev_w ((116 : Int) + y1)))) = 0 from hc7)] at h
      refine ev_loc (L' := [(0, .inr (.inl 12)), (1, .inl y1)]) rfl ?_
      exact m_12_readScene_J86 hU (fun h => m_12_readScene_L65 hU n h) h
    · rw [if_neg (show ¬ ((C 35 (Int.toNat (ev_w ((116 : Int) + y1)))) = 0) from hc7)] at h
      refine ev_al eX12_readScene_77 rfl ?_
      refine ev_bp eX12_readScene_78 (by decide) (by decide) ?_
      obtain ⟨r12, C12, hq12, h⟩ := ev_bd_some h
      refine ev_callV (kc := kc_210) (A := [.inl 59]) (T := []) (lk_m.1 _ _ 0 [210] (isM (by decide +kernel)) 210 (by decide)) eX12_readScene_80 (m_12_isSign hU hq12) rfl rfl rfl (by decide) (by decide) (Nat.le_of_ble_eq_true rfl) ?_
      rintro _ C12 ⟨rfl, rfl⟩
      show ev_W l D cys ty ck_tags ev_TR kc_316 83 [(0, .inr (.inl 12)), (1, .inl y1)] [.inl r12] C12 _
      refine ev_z_ne (tgt := 114) eX12_readScene_83 (by decide) (fun hc13 => ?_) (fun hc13 => ?_)
      · rw [if_pos (show r12 ≠ 0 from hc13)] at h
        refine ev_al eX12_readScene_114 rfl ?_
        refine ev_getR lk_f (ci := 12) (j := 7) (cd := 3) eX12_readScene_115 (isF (by decide +kernel)) rfl rfl ?_
        refine ev_ic eX12_readScene_118 (by decide) ?_
        refine ev_dup2 eX12_readScene_119 rfl rfl ?_
        refine ev_iald eX12_readScene_120 rfl rfl (by decide) (by decide) ?_
        refine ev_ic eX12_readScene_121 (by decide) ?_
        refine ev_add eX12_readScene_122 ?_
        refine ev_iast hU eX12_readScene_123 rfl rfl (by decide) (by decide) ?_
        refine ev_ic eX12_readScene_124 (by decide) ?_
        cases h
        exact ev_zret eX12_readScene_125 rfl (by decide) ⟨rfl, rfl⟩
      · rw [if_neg (show ¬ (r12 ≠ 0) from hc13)] at h
        refine ev_loc (L' := [(0, .inr (.inl 12)), (1, .inl y1)]) rfl ?_
        exact m_12_readScene_J86 hU (fun h => m_12_readScene_L65 hU n h) h
set_option maxRecDepth 100000 in
theorem m_12_readScene (hU : ev_uq ty ev_TR) {C : ev_C} {r : Int} {C' : ev_C} (h : f_12_readScene C = some (r, C')) : ev_Met l D cys ty ck_tags ev_TR kc_316 [.inr (.inl 12)] C (fun r0 C0 => r0 = some (.inl r) ∧ C0 = C') := by
  unfold f_12_readScene at h
  refine ev_enter (by decide +kernel) (by decide +kernel) (Nat.le_of_ble_eq_true rfl) ?_
  show ev_W l D cys ty ck_tags ev_TR kc_316 0 [(0, .inr (.inl 12))] [] C _
  refine ev_al eX12_readScene_0 rfl ?_
  refine ev_getR lk_f (ci := 12) (j := 7) (cd := 3) eX12_readScene_1 (isF (by decide +kernel)) rfl rfl ?_
  refine ev_ic eX12_readScene_4 (by decide) ?_
  refine ev_iald eX12_readScene_5 rfl rfl (by decide) (by decide) ?_
  refine ev_z_ne (tgt := 15) eX12_readScene_6 (by decide) (fun hc1 => ?_) (fun hc1 => ?_)
  · rw [if_pos (show (C 35 3) ≠ 0 from hc1)] at h
    refine ev_al eX12_readScene_15 rfl ?_
    refine ev_getR lk_f (ci := 12) (j := 7) (cd := 3) eX12_readScene_16 (isF (by decide +kernel)) rfl rfl ?_
    refine ev_ic eX12_readScene_19 (by decide) ?_
    refine ev_iald eX12_readScene_20 rfl rfl (by decide) (by decide) ?_
    refine ev_is (L' := [(1, .inl ((C 35 4))), (0, .inr (.inl 12))]) eX12_readScene_21 (by decide) rfl ?_
    refine ev_il eX12_readScene_22 rfl ?_
    refine ev_bp eX12_readScene_23 (by decide) (by decide) ?_
    refine ev_c_ne (tgt := 34) eX12_readScene_25 (by decide) (fun hc2 => ?_) (fun hc2 => ?_)
    · rw [if_pos (show (C 35 4) ≠ 12 from hc2)] at h
      refine ev_al eX12_readScene_34 rfl ?_
      obtain ⟨C3, hq3, h⟩ := ev_bv_some h
      refine ev_callV (kc := kc_209) (A := []) (T := []) (lk_m.1 _ _ 0 [209] (isM (by decide +kernel)) 209 (by decide)) eX12_readScene_35 (m_12_go hU hq3) rfl rfl rfl (by decide) (by decide) (Nat.le_of_ble_eq_true rfl) ?_
      rintro _ C3 ⟨rfl, rfl⟩
      show ev_W l D cys ty ck_tags ev_TR kc_316 38 [(1, .inl ((C 35 4))), (0, .inr (.inl 12))] [] C3 _
      refine ev_al eX12_readScene_38 rfl ?_
      refine ev_getR lk_f (ci := 12) (j := 7) (cd := 3) eX12_readScene_39 (isF (by decide +kernel)) rfl rfl ?_
      refine ev_bp eX12_readScene_42 (by decide) (by decide) ?_
      refine ev_il eX12_readScene_44 rfl ?_
      refine ev_add eX12_readScene_45 ?_
      refine ev_al eX12_readScene_46 rfl ?_
      refine ev_getR lk_f (ci := 12) (j := 7) (cd := 3) eX12_readScene_47 (isF (by decide +kernel)) rfl rfl ?_
      refine ev_ic eX12_readScene_50 (by decide) ?_
      refine ev_iald eX12_readScene_51 rfl rfl (by decide) (by decide) ?_
      refine ev_ic eX12_readScene_52 (by decide) ?_
      refine ev_sub eX12_readScene_53 ?_
      obtain ⟨hb4, h⟩ := ev_gd h
      refine ev_iast hU eX12_readScene_54 rfl rfl hb4.1 hb4.2 ?_
      refine ev_al eX12_readScene_55 rfl ?_
      refine ev_getR lk_f (ci := 12) (j := 7) (cd := 3) eX12_readScene_56 (isF (by decide +kernel)) rfl rfl ?_
      refine ev_bp eX12_readScene_59 (by decide) (by decide) ?_
      refine ev_il eX12_readScene_61 rfl ?_
      refine ev_add eX12_readScene_62 ?_
      refine ev_ic eX12_readScene_63 (by decide) ?_
      obtain ⟨hb5, h⟩ := ev_gd h
      refine ev_iast hU eX12_readScene_64 rfl rfl hb5.1 hb5.2 ?_
      refine ev_loc (L' := [(0, .inr (.inl 12)), (1, .inl ((C 35 4)))]) rfl ?_
      exact m_12_readScene_L65 hU 1000 h
    · rw [if_neg (show ¬ ((C 35 4) ≠ 12) from hc2)] at h
      refine ev_al eX12_readScene_28 rfl ?_
      refine ev_ic eX12_readScene_29 (by decide) ?_
      obtain ⟨r14, C14, hq14, h⟩ := ev_bd_some h
      refine ev_callV (kc := kc_205) (A := [.inl 4]) (T := []) (lk_m.1 _ _ 0 [205] (isM (by decide +kernel)) 205 (by decide)) eX12_readScene_30 (m_12_bad hU hq14) rfl rfl rfl (by decide) (by decide) (Nat.le_of_ble_eq_true rfl) ?_
      rintro _ C14 ⟨rfl, rfl⟩
      show ev_W l D cys ty ck_tags ev_TR kc_316 33 [(1, .inl ((C 35 4))), (0, .inr (.inl 12))] [.inl r14] C14 _
      obtain ⟨hb15, h⟩ := ev_gd h
      cases h
      exact ev_zret eX12_readScene_33 rfl hb15 ⟨rfl, rfl⟩
  · rw [if_neg (show ¬ ((C 35 3) ≠ 0) from hc1)] at h
    refine ev_al eX12_readScene_9 rfl ?_
    refine ev_ic eX12_readScene_10 (by decide) ?_
    obtain ⟨r16, C16, hq16, h⟩ := ev_bd_some h
    refine ev_callV (kc := kc_205) (A := [.inl 1]) (T := []) (lk_m.1 _ _ 0 [205] (isM (by decide +kernel)) 205 (by decide)) eX12_readScene_11 (m_12_bad hU hq16) rfl rfl rfl (by decide) (by decide) (Nat.le_of_ble_eq_true rfl) ?_
    rintro _ C16 ⟨rfl, rfl⟩
    show ev_W l D cys ty ck_tags ev_TR kc_316 14 [(0, .inr (.inl 12))] [.inl r16] C16 _
    obtain ⟨hb17, h⟩ := ev_gd h
    cases h
    exact ev_zret eX12_readScene_14 rfl hb17 ⟨rfl, rfl⟩
theorem eX12_fresh_0 : decode cX12_fresh 0 = .ok (.aload_n 0, 1) := by decide +kernel
theorem eX12_fresh_1 : decode cX12_fresh 1 = .ok (.invokevirtual 205, 3) := by decide +kernel
theorem eX12_fresh_4 : decode cX12_fresh 4 = .ok (.ifCond .ne 9, 3) := by decide +kernel
theorem eX12_fresh_7 : decode cX12_fresh 7 = .ok (.aload_n 0, 1) := by decide +kernel
theorem eX12_fresh_8 : decode cX12_fresh 8 = .ok (.iconst 1, 1) := by decide +kernel
theorem eX12_fresh_9 : decode cX12_fresh 9 = .ok (.invokevirtual 192, 3) := by decide +kernel
theorem eX12_fresh_12 : decode cX12_fresh 12 = .ok (.ireturn, 1) := by decide +kernel
theorem eX12_fresh_13 : decode cX12_fresh 13 = .ok (.aload_n 0, 1) := by decide +kernel
theorem eX12_fresh_14 : decode cX12_fresh 14 = .ok (.bipush 20, 2) := by decide +kernel
theorem eX12_fresh_16 : decode cX12_fresh 16 = .ok (.aload_n 0, 1) := by decide +kernel
theorem eX12_fresh_17 : decode cX12_fresh 17 = .ok (.getfield 37, 3) := by decide +kernel
theorem eX12_fresh_20 : decode cX12_fresh 20 = .ok (.iconst 0, 1) := by decide +kernel
theorem eX12_fresh_21 : decode cX12_fresh 21 = .ok (.iaload, 1) := by decide +kernel
theorem eX12_fresh_22 : decode cX12_fresh 22 = .ok (.invokevirtual 209, 3) := by decide +kernel
theorem eX12_fresh_25 : decode cX12_fresh 25 = .ok (.ifCond .ge 33, 3) := by decide +kernel
theorem eX12_fresh_28 : decode cX12_fresh 28 = .ok (.aload_n 0, 1) := by decide +kernel
theorem eX12_fresh_29 : decode cX12_fresh 29 = .ok (.bipush 26, 2) := by decide +kernel
theorem eX12_fresh_31 : decode cX12_fresh 31 = .ok (.aload_n 0, 1) := by decide +kernel
theorem eX12_fresh_32 : decode cX12_fresh 32 = .ok (.getfield 37, 3) := by decide +kernel
theorem eX12_fresh_35 : decode cX12_fresh 35 = .ok (.iconst 1, 1) := by decide +kernel
theorem eX12_fresh_36 : decode cX12_fresh 36 = .ok (.iaload, 1) := by decide +kernel
theorem eX12_fresh_37 : decode cX12_fresh 37 = .ok (.invokevirtual 209, 3) := by decide +kernel
theorem eX12_fresh_40 : decode cX12_fresh 40 = .ok (.ifCond .ge 18, 3) := by decide +kernel
theorem eX12_fresh_43 : decode cX12_fresh 43 = .ok (.aload_n 0, 1) := by decide +kernel
theorem eX12_fresh_44 : decode cX12_fresh 44 = .ok (.bipush 32, 2) := by decide +kernel
theorem eX12_fresh_46 : decode cX12_fresh 46 = .ok (.aload_n 0, 1) := by decide +kernel
theorem eX12_fresh_47 : decode cX12_fresh 47 = .ok (.getfield 37, 3) := by decide +kernel
theorem eX12_fresh_50 : decode cX12_fresh 50 = .ok (.iconst 2, 1) := by decide +kernel
theorem eX12_fresh_51 : decode cX12_fresh 51 = .ok (.iaload, 1) := by decide +kernel
theorem eX12_fresh_52 : decode cX12_fresh 52 = .ok (.invokevirtual 209, 3) := by decide +kernel
theorem eX12_fresh_55 : decode cX12_fresh 55 = .ok (.ifCond .lt 9, 3) := by decide +kernel
theorem eX12_fresh_58 : decode cX12_fresh 58 = .ok (.aload_n 0, 1) := by decide +kernel
theorem eX12_fresh_59 : decode cX12_fresh 59 = .ok (.iconst 3, 1) := by decide +kernel
theorem eX12_fresh_60 : decode cX12_fresh 60 = .ok (.invokevirtual 192, 3) := by decide +kernel
theorem eX12_fresh_63 : decode cX12_fresh 63 = .ok (.ireturn, 1) := by decide +kernel
theorem eX12_fresh_64 : decode cX12_fresh 64 = .ok (.aload_n 0, 1) := by decide +kernel
theorem eX12_fresh_65 : decode cX12_fresh 65 = .ok (.getfield 43, 3) := by decide +kernel
theorem eX12_fresh_68 : decode cX12_fresh 68 = .ok (.iload_n 1, 1) := by decide +kernel
theorem eX12_fresh_69 : decode cX12_fresh 69 = .ok (.aload_n 0, 1) := by decide +kernel
theorem eX12_fresh_70 : decode cX12_fresh 70 = .ok (.getfield 179, 3) := by decide +kernel
theorem eX12_fresh_73 : decode cX12_fresh 73 = .ok (.lastore, 1) := by decide +kernel
theorem eX12_fresh_74 : decode cX12_fresh 74 = .ok (.aload_n 0, 1) := by decide +kernel
theorem eX12_fresh_75 : decode cX12_fresh 75 = .ok (.invokevirtual 195, 3) := by decide +kernel
theorem eX12_fresh_78 : decode cX12_fresh 78 = .ok (.iconst 1, 1) := by decide +kernel
theorem eX12_fresh_79 : decode cX12_fresh 79 = .ok (.ireturn, 1) := by decide +kernel
set_option maxRecDepth 100000 in
theorem m_12_fresh (hU : ev_uq ty ev_TR) {C : ev_C} {x1 : Int} {r : Int} {C' : ev_C} (h : f_12_fresh C x1 = some (r, C')) : ev_Met l D cys ty ck_tags ev_TR kc_251 [.inr (.inl 12), .inl x1] C (fun r0 C0 => r0 = some (.inl r) ∧ C0 = C') := by
  unfold f_12_fresh at h
  refine ev_enter (by decide +kernel) (by decide +kernel) (Nat.le_of_ble_eq_true rfl) ?_
  show ev_W l D cys ty ck_tags ev_TR kc_251 0 [(0, .inr (.inl 12)), (1, .inl x1)] [] C _
  refine ev_al eX12_fresh_0 rfl ?_
  obtain ⟨r1, C1, hq1, h⟩ := ev_bd_some h
  refine ev_callV (kc := kc_223) (A := []) (T := []) (lk_m.1 _ _ 0 [223] (isM (by decide +kernel)) 223 (by decide)) eX12_fresh_1 (m_12_isName hU hq1) rfl rfl rfl (by decide) (by decide) (Nat.le_of_ble_eq_true rfl) ?_
  rintro _ C1 ⟨rfl, rfl⟩
  show ev_W l D cys ty ck_tags ev_TR kc_251 4 [(0, .inr (.inl 12)), (1, .inl x1)] [.inl r1] C1 _
  refine ev_z_ne (tgt := 13) eX12_fresh_4 (by decide) (fun hc2 => ?_) (fun hc2 => ?_)
  · rw [if_pos (show r1 ≠ 0 from hc2)] at h
    refine ev_al eX12_fresh_13 rfl ?_
    refine ev_bp eX12_fresh_14 (by decide) (by decide) ?_
    refine ev_al eX12_fresh_16 rfl ?_
    refine ev_getR lk_f (ci := 12) (j := 7) (cd := 3) eX12_fresh_17 (isF (by decide +kernel)) rfl rfl ?_
    refine ev_ic eX12_fresh_20 (by decide) ?_
    refine ev_iald eX12_fresh_21 rfl rfl (by decide) (by decide) ?_
    obtain ⟨r3, C3, hq3, h⟩ := ev_bd_some h
    refine ev_callV (kc := kc_221) (A := [.inl 20, .inl ((C1 35 0))]) (T := []) (lk_m.1 _ _ 0 [221, 222] (isM (by decide +kernel)) 221 (by decide)) eX12_fresh_22 (m_12_find hU hq3) rfl rfl rfl (by decide) (by decide) (Nat.le_of_ble_eq_true rfl) ?_
    rintro _ C3 ⟨rfl, rfl⟩
    show ev_W l D cys ty ck_tags ev_TR kc_251 25 [(0, .inr (.inl 12)), (1, .inl x1)] [.inl r3] C3 _
    refine ev_z_ge (tgt := 58) eX12_fresh_25 (by decide) (fun hc4 => ?_) (fun hc4 => ?_)
    · rw [if_pos (show 0 ≤ r3 from hc4)] at h
      refine ev_al eX12_fresh_58 rfl ?_
      refine ev_ic eX12_fresh_59 (by decide) ?_
      obtain ⟨r5, C5, hq5, h⟩ := ev_bd_some h
      refine ev_callV (kc := kc_205) (A := [.inl 3]) (T := []) (lk_m.1 _ _ 0 [205] (isM (by decide +kernel)) 205 (by decide)) eX12_fresh_60 (m_12_bad hU hq5) rfl rfl rfl (by decide) (by decide) (Nat.le_of_ble_eq_true rfl) ?_
      rintro _ C5 ⟨rfl, rfl⟩
      show ev_W l D cys ty ck_tags ev_TR kc_251 63 [(0, .inr (.inl 12)), (1, .inl x1)] [.inl r5] C5 _
      obtain ⟨hb6, h⟩ := ev_gd h
      cases h
      exact ev_zret eX12_fresh_63 rfl hb6 ⟨rfl, rfl⟩
    · rw [if_neg (show ¬ (0 ≤ r3) from hc4)] at h
      refine ev_al eX12_fresh_28 rfl ?_
      refine ev_bp eX12_fresh_29 (by decide) (by decide) ?_
      refine ev_al eX12_fresh_31 rfl ?_
      refine ev_getR lk_f (ci := 12) (j := 7) (cd := 3) eX12_fresh_32 (isF (by decide +kernel)) rfl rfl ?_
      refine ev_ic eX12_fresh_35 (by decide) ?_
      refine ev_iald eX12_fresh_36 rfl rfl (by decide) (by decide) ?_
      obtain ⟨r7, C7, hq7, h⟩ := ev_bd_some h
      refine ev_callV (kc := kc_221) (A := [.inl 26, .inl ((C3 35 1))]) (T := []) (lk_m.1 _ _ 0 [221, 222] (isM (by decide +kernel)) 221 (by decide)) eX12_fresh_37 (m_12_find hU hq7) rfl rfl rfl (by decide) (by decide) (Nat.le_of_ble_eq_true rfl) ?_
      rintro _ C7 ⟨rfl, rfl⟩
      show ev_W l D cys ty ck_tags ev_TR kc_251 40 [(0, .inr (.inl 12)), (1, .inl x1)] [.inl r7] C7 _
      refine ev_z_ge (tgt := 58) eX12_fresh_40 (by decide) (fun hc8 => ?_) (fun hc8 => ?_)
      · rw [if_pos (show 0 ≤ r7 from hc8)] at h
        refine ev_al eX12_fresh_58 rfl ?_
        refine ev_ic eX12_fresh_59 (by decide) ?_
        obtain ⟨r9, C9, hq9, h⟩ := ev_bd_some h
        refine ev_callV (kc := kc_205) (A := [.inl 3]) (T := []) (lk_m.1 _ _ 0 [205] (isM (by decide +kernel)) 205 (by decide)) eX12_fresh_60 (m_12_bad hU hq9) rfl rfl rfl (by decide) (by decide) (Nat.le_of_ble_eq_true rfl) ?_
        rintro _ C9 ⟨rfl, rfl⟩
        show ev_W l D cys ty ck_tags ev_TR kc_251 63 [(0, .inr (.inl 12)), (1, .inl x1)] [.inl r9] C9 _
        obtain ⟨hb10, h⟩ := ev_gd h
        cases h
        exact ev_zret eX12_fresh_63 rfl hb10 ⟨rfl, rfl⟩
      · rw [if_neg (show ¬ (0 ≤ r7) from hc8)] at h
        refine ev_al eX12_fresh_43 rfl ?_
        refine ev_bp eX12_fresh_44 (by decide) (by decide) ?_
        refine ev_al eX12_fresh_46 rfl ?_
        refine ev_getR lk_f (ci := 12) (j := 7) (cd := 3) eX12_fresh_47 (isF (by decide +kernel)) rfl rfl ?_
        refine ev_ic eX12_fresh_50 (by decide) ?_
        refine ev_iald eX12_fresh_51 rfl rfl (by decide) (by decide) ?_
        obtain ⟨r11, C11, hq11, h⟩ := ev_bd_some h
        refine ev_callV (kc := kc_221) (A := [.inl 32, .inl ((C7 35 2))]) (T := []) (lk_m.1 _ _ 0 [221, 222] (isM (by decide +kernel)) 221 (by decide)) eX12_fresh_52 (m_12_find hU hq11) rfl rfl rfl (by decide) (by decide) (Nat.le_of_ble_eq_true rfl) ?_
        rintro _ C11 ⟨rfl, rfl⟩
        show ev_W l D cys ty ck_tags ev_TR kc_251 55 [(0, .inr (.inl 12)), (1, .inl x1)] [.inl r11] C11 _
        refine ev_z_lt (tgt := 64) eX12_fresh_55 (by decide) (fun hc12 => ?_) (fun hc12 => ?_)
        · rw [if_pos (show r11 < 0 from hc12)] at h
          refine ev_al eX12_fresh_64 rfl ?_
          refine ev_getR lk_f (ci := 12) (j := 9) (cd := 3) eX12_fresh_65 (isF (by decide +kernel)) rfl rfl ?_
          refine ev_il eX12_fresh_68 rfl ?_
          refine ev_al eX12_fresh_69 rfl ?_
          refine ev_getL lk_f (ci := 12) (j := 17) (cd := 2) eX12_fresh_70 (isF (by decide +kernel)) rfl rfl rfl ?_
          obtain ⟨hb13, h⟩ := ev_gd h
          refine ev_last hU eX12_fresh_73 rfl rfl hb13.1 hb13.2 ?_
          refine ev_al eX12_fresh_74 rfl ?_
          obtain ⟨C14, hq14, h⟩ := ev_bv_some h
          refine ev_callV (kc := kc_209) (A := []) (T := []) (lk_m.1 _ _ 0 [209] (isM (by decide +kernel)) 209 (by decide)) eX12_fresh_75 (m_12_go hU hq14) rfl rfl rfl (by decide) (by decide) (Nat.le_of_ble_eq_true rfl) ?_
          rintro _ C14 ⟨rfl, rfl⟩
          show ev_W l D cys ty ck_tags ev_TR kc_251 78 [(0, .inr (.inl 12)), (1, .inl x1)] [] C14 _
          refine ev_ic eX12_fresh_78 (by decide) ?_
          cases h
          exact ev_zret eX12_fresh_79 rfl (by decide) ⟨rfl, rfl⟩
        · rw [if_neg (show ¬ (r11 < 0) from hc12)] at h
          refine ev_al eX12_fresh_58 rfl ?_
          refine ev_ic eX12_fresh_59 (by decide) ?_
          obtain ⟨r15, C15, hq15, h⟩ := ev_bd_some h
          refine ev_callV (kc := kc_205) (A := [.inl 3]) (T := []) (lk_m.1 _ _ 0 [205] (isM (by decide +kernel)) 205 (by decide)) eX12_fresh_60 (m_12_bad hU hq15) rfl rfl rfl (by decide) (by decide) (Nat.le_of_ble_eq_true rfl) ?_
          rintro _ C15 ⟨rfl, rfl⟩
          show ev_W l D cys ty ck_tags ev_TR kc_251 63 [(0, .inr (.inl 12)), (1, .inl x1)] [.inl r15] C15 _
          obtain ⟨hb16, h⟩ := ev_gd h
          cases h
          exact ev_zret eX12_fresh_63 rfl hb16 ⟨rfl, rfl⟩
  · rw [if_neg (show ¬ (r1 ≠ 0) from hc2)] at h
    refine ev_al eX12_fresh_7 rfl ?_
    refine ev_ic eX12_fresh_8 (by decide) ?_
    obtain ⟨r17, C17, hq17, h⟩ := ev_bd_some h
    refine ev_callV (kc := kc_205) (A := [.inl 1]) (T := []) (lk_m.1 _ _ 0 [205] (isM (by decide +kernel)) 205 (by decide)) eX12_fresh_9 (m_12_bad hU hq17) rfl rfl rfl (by decide) (by decide) (Nat.le_of_ble_eq_true rfl) ?_
    rintro _ C17 ⟨rfl, rfl⟩
    show ev_W l D cys ty ck_tags ev_TR kc_251 12 [(0, .inr (.inl 12)), (1, .inl x1)] [.inl r17] C17 _
    obtain ⟨hb18, h⟩ := ev_gd h
    cases h
    exact ev_zret eX12_fresh_12 rfl hb18 ⟨rfl, rfl⟩
theorem eX12_line_0 : decode cX12_line 0 = .ok (.aload_n 0, 1) := by decide +kernel
theorem eX12_line_1 : decode cX12_line 1 = .ok (.ldc2_w 102, 3) := by decide +kernel
theorem eX12_line_4 : decode cX12_line 4 = .ok (.invokevirtual 220, 3) := by decide +kernel
theorem eX12_line_7 : decode cX12_line 7 = .ok (.ifCond .eq 74, 3) := by decide +kernel
theorem eX12_line_10 : decode cX12_line 10 = .ok (.aload_n 0, 1) := by decide +kernel
theorem eX12_line_11 : decode cX12_line 11 = .ok (.getfield 37, 3) := by decide +kernel
theorem eX12_line_14 : decode cX12_line 14 = .ok (.iconst 0, 1) := by decide +kernel
theorem eX12_line_15 : decode cX12_line 15 = .ok (.iaload, 1) := by decide +kernel
theorem eX12_line_16 : decode cX12_line 16 = .ok (.istore_n 1, 1) := by decide +kernel
theorem eX12_line_17 : decode cX12_line 17 = .ok (.iload_n 1, 1) := by decide +kernel
theorem eX12_line_18 : decode cX12_line 18 = .ok (.bipush 6, 2) := by decide +kernel
theorem eX12_line_20 : decode cX12_line 20 = .ok (.if_icmp .ne 9, 3) := by decide +kernel
theorem eX12_line_23 : decode cX12_line 23 = .ok (.aload_n 0, 1) := by decide +kernel
theorem eX12_line_24 : decode cX12_line 24 = .ok (.iconst 4, 1) := by decide +kernel
theorem eX12_line_25 : decode cX12_line 25 = .ok (.invokevirtual 192, 3) := by decide +kernel
theorem eX12_line_28 : decode cX12_line 28 = .ok (.ireturn, 1) := by decide +kernel
theorem eX12_line_29 : decode cX12_line 29 = .ok (.aload_n 0, 1) := by decide +kernel
theorem eX12_line_30 : decode cX12_line 30 = .ok (.invokevirtual 195, 3) := by decide +kernel
theorem eX12_line_33 : decode cX12_line 33 = .ok (.aload_n 0, 1) := by decide +kernel
theorem eX12_line_34 : decode cX12_line 34 = .ok (.bipush 20, 2) := by decide +kernel
theorem eX12_line_36 : decode cX12_line 36 = .ok (.iload_n 1, 1) := by decide +kernel
theorem eX12_line_37 : decode cX12_line 37 = .ok (.iadd, 1) := by decide +kernel
theorem eX12_line_38 : decode cX12_line 38 = .ok (.invokevirtual 224, 3) := by decide +kernel
theorem eX12_line_41 : decode cX12_line 41 = .ok (.ifCond .eq 13, 3) := by decide +kernel
theorem eX12_line_44 : decode cX12_line 44 = .ok (.aload_n 0, 1) := by decide +kernel
theorem eX12_line_45 : decode cX12_line 45 = .ok (.iconst 0, 1) := by decide +kernel
theorem eX12_line_46 : decode cX12_line 46 = .ok (.bipush 9, 2) := by decide +kernel
theorem eX12_line_48 : decode cX12_line 48 = .ok (.invokevirtual 227, 3) := by decide +kernel
theorem eX12_line_51 : decode cX12_line 51 = .ok (.ifCond .ne 5, 3) := by decide +kernel
theorem eX12_line_54 : decode cX12_line 54 = .ok (.iconst 0, 1) := by decide +kernel
theorem eX12_line_55 : decode cX12_line 55 = .ok (.ireturn, 1) := by decide +kernel
theorem eX12_line_56 : decode cX12_line 56 = .ok (.aload_n 0, 1) := by decide +kernel
theorem eX12_line_57 : decode cX12_line 57 = .ok (.getfield 37, 3) := by decide +kernel
theorem eX12_line_60 : decode cX12_line 60 = .ok (.bipush 6, 2) := by decide +kernel
theorem eX12_line_62 : decode cX12_line 62 = .ok (.iload_n 1, 1) := by decide +kernel
theorem eX12_line_63 : decode cX12_line 63 = .ok (.iadd, 1) := by decide +kernel
theorem eX12_line_64 : decode cX12_line 64 = .ok (.aload_n 0, 1) := by decide +kernel
theorem eX12_line_65 : decode cX12_line 65 = .ok (.getfield 202, 3) := by decide +kernel
theorem eX12_line_68 : decode cX12_line 68 = .ok (.iastore, 1) := by decide +kernel
theorem eX12_line_69 : decode cX12_line 69 = .ok (.aload_n 0, 1) := by decide +kernel
theorem eX12_line_70 : decode cX12_line 70 = .ok (.getfield 37, 3) := by decide +kernel
theorem eX12_line_73 : decode cX12_line 73 = .ok (.iconst 0, 1) := by decide +kernel
theorem eX12_line_74 : decode cX12_line 74 = .ok (.dup2, 1) := by decide +kernel
theorem eX12_line_75 : decode cX12_line 75 = .ok (.iaload, 1) := by decide +kernel
theorem eX12_line_76 : decode cX12_line 76 = .ok (.iconst 1, 1) := by decide +kernel
theorem eX12_line_77 : decode cX12_line 77 = .ok (.iadd, 1) := by decide +kernel
theorem eX12_line_78 : decode cX12_line 78 = .ok (.iastore, 1) := by decide +kernel
theorem eX12_line_79 : decode cX12_line 79 = .ok (.iconst 1, 1) := by decide +kernel
theorem eX12_line_80 : decode cX12_line 80 = .ok (.ireturn, 1) := by decide +kernel
theorem eX12_line_81 : decode cX12_line 81 = .ok (.aload_n 0, 1) := by decide +kernel
theorem eX12_line_82 : decode cX12_line 82 = .ok (.ldc2_w 104, 3) := by decide +kernel
theorem eX12_line_85 : decode cX12_line 85 = .ok (.invokevirtual 220, 3) := by decide +kernel
theorem eX12_line_88 : decode cX12_line 88 = .ok (.ifCond .eq 54, 3) := by decide +kernel
theorem eX12_line_91 : decode cX12_line 91 = .ok (.aload_n 0, 1) := by decide +kernel
theorem eX12_line_92 : decode cX12_line 92 = .ok (.getfield 37, 3) := by decide +kernel
theorem eX12_line_95 : decode cX12_line 95 = .ok (.iconst 1, 1) := by decide +kernel
theorem eX12_line_96 : decode cX12_line 96 = .ok (.iaload, 1) := by decide +kernel
theorem eX12_line_97 : decode cX12_line 97 = .ok (.bipush 6, 2) := by decide +kernel
theorem eX12_line_99 : decode cX12_line 99 = .ok (.if_icmp .ne 9, 3) := by decide +kernel
theorem eX12_line_102 : decode cX12_line 102 = .ok (.aload_n 0, 1) := by decide +kernel
theorem eX12_line_103 : decode cX12_line 103 = .ok (.iconst 4, 1) := by decide +kernel
theorem eX12_line_104 : decode cX12_line 104 = .ok (.invokevirtual 192, 3) := by decide +kernel
theorem eX12_line_107 : decode cX12_line 107 = .ok (.ireturn, 1) := by decide +kernel
theorem eX12_line_108 : decode cX12_line 108 = .ok (.aload_n 0, 1) := by decide +kernel
theorem eX12_line_109 : decode cX12_line 109 = .ok (.invokevirtual 195, 3) := by decide +kernel
theorem eX12_line_112 : decode cX12_line 112 = .ok (.aload_n 0, 1) := by decide +kernel
theorem eX12_line_113 : decode cX12_line 113 = .ok (.bipush 26, 2) := by decide +kernel
theorem eX12_line_115 : decode cX12_line 115 = .ok (.aload_n 0, 1) := by decide +kernel
theorem eX12_line_116 : decode cX12_line 116 = .ok (.getfield 37, 3) := by decide +kernel
theorem eX12_line_119 : decode cX12_line 119 = .ok (.iconst 1, 1) := by decide +kernel
theorem eX12_line_120 : decode cX12_line 120 = .ok (.iaload, 1) := by decide +kernel
theorem eX12_line_121 : decode cX12_line 121 = .ok (.iadd, 1) := by decide +kernel
theorem eX12_line_122 : decode cX12_line 122 = .ok (.invokevirtual 224, 3) := by decide +kernel
theorem eX12_line_125 : decode cX12_line 125 = .ok (.ifCond .ne 5, 3) := by decide +kernel
theorem eX12_line_128 : decode cX12_line 128 = .ok (.iconst 0, 1) := by decide +kernel
theorem eX12_line_129 : decode cX12_line 129 = .ok (.ireturn, 1) := by decide +kernel
theorem eX12_line_130 : decode cX12_line 130 = .ok (.aload_n 0, 1) := by decide +kernel
theorem eX12_line_131 : decode cX12_line 131 = .ok (.getfield 37, 3) := by decide +kernel
theorem eX12_line_134 : decode cX12_line 134 = .ok (.iconst 1, 1) := by decide +kernel
theorem eX12_line_135 : decode cX12_line 135 = .ok (.dup2, 1) := by decide +kernel
theorem eX12_line_136 : decode cX12_line 136 = .ok (.iaload, 1) := by decide +kernel
theorem eX12_line_137 : decode cX12_line 137 = .ok (.iconst 1, 1) := by decide +kernel
theorem eX12_line_138 : decode cX12_line 138 = .ok (.iadd, 1) := by decide +kernel
theorem eX12_line_139 : decode cX12_line 139 = .ok (.iastore, 1) := by decide +kernel
theorem eX12_line_140 : decode cX12_line 140 = .ok (.iconst 1, 1) := by decide +kernel
theorem eX12_line_141 : decode cX12_line 141 = .ok (.ireturn, 1) := by decide +kernel
theorem eX12_line_142 : decode cX12_line 142 = .ok (.aload_n 0, 1) := by decide +kernel
theorem eX12_line_143 : decode cX12_line 143 = .ok (.ldc2_w 108, 3) := by decide +kernel
theorem eX12_line_146 : decode cX12_line 146 = .ok (.invokevirtual 220, 3) := by decide +kernel
theorem eX12_line_149 : decode cX12_line 149 = .ok (.ifCond .eq 99, 3) := by decide +kernel
theorem eX12_line_152 : decode cX12_line 152 = .ok (.aload_n 0, 1) := by decide +kernel
theorem eX12_line_153 : decode cX12_line 153 = .ok (.getfield 37, 3) := by decide +kernel
theorem eX12_line_156 : decode cX12_line 156 = .ok (.iconst 2, 1) := by decide +kernel
theorem eX12_line_157 : decode cX12_line 157 = .ok (.iaload, 1) := by decide +kernel
theorem eX12_line_158 : decode cX12_line 158 = .ok (.istore_n 1, 1) := by decide +kernel
theorem eX12_line_159 : decode cX12_line 159 = .ok (.iload_n 1, 1) := by decide +kernel
theorem eX12_line_160 : decode cX12_line 160 = .ok (.bipush 8, 2) := by decide +kernel
theorem eX12_line_162 : decode cX12_line 162 = .ok (.if_icmp .ne 9, 3) := by decide +kernel
theorem eX12_line_165 : decode cX12_line 165 = .ok (.aload_n 0, 1) := by decide +kernel
theorem eX12_line_166 : decode cX12_line 166 = .ok (.iconst 4, 1) := by decide +kernel
theorem eX12_line_167 : decode cX12_line 167 = .ok (.invokevirtual 192, 3) := by decide +kernel
theorem eX12_line_170 : decode cX12_line 170 = .ok (.ireturn, 1) := by decide +kernel
theorem eX12_line_171 : decode cX12_line 171 = .ok (.aload_n 0, 1) := by decide +kernel
theorem eX12_line_172 : decode cX12_line 172 = .ok (.invokevirtual 195, 3) := by decide +kernel
theorem eX12_line_175 : decode cX12_line 175 = .ok (.aload_n 0, 1) := by decide +kernel
theorem eX12_line_176 : decode cX12_line 176 = .ok (.bipush 32, 2) := by decide +kernel
theorem eX12_line_178 : decode cX12_line 178 = .ok (.iload_n 1, 1) := by decide +kernel
theorem eX12_line_179 : decode cX12_line 179 = .ok (.iadd, 1) := by decide +kernel
theorem eX12_line_180 : decode cX12_line 180 = .ok (.invokevirtual 224, 3) := by decide +kernel
theorem eX12_line_183 : decode cX12_line 183 = .ok (.ifCond .eq 13, 3) := by decide +kernel
theorem eX12_line_186 : decode cX12_line 186 = .ok (.aload_n 0, 1) := by decide +kernel
theorem eX12_line_187 : decode cX12_line 187 = .ok (.iconst 0, 1) := by decide +kernel
theorem eX12_line_188 : decode cX12_line 188 = .ok (.bipush 9, 2) := by decide +kernel
theorem eX12_line_190 : decode cX12_line 190 = .ok (.invokevirtual 227, 3) := by decide +kernel
theorem eX12_line_193 : decode cX12_line 193 = .ok (.ifCond .ne 5, 3) := by decide +kernel
theorem eX12_line_196 : decode cX12_line 196 = .ok (.iconst 0, 1) := by decide +kernel
theorem eX12_line_197 : decode cX12_line 197 = .ok (.ireturn, 1) := by decide +kernel
theorem eX12_line_198 : decode cX12_line 198 = .ok (.aload_n 0, 1) := by decide +kernel
theorem eX12_line_199 : decode cX12_line 199 = .ok (.getfield 37, 3) := by decide +kernel
theorem eX12_line_202 : decode cX12_line 202 = .ok (.bipush 18, 2) := by decide +kernel
theorem eX12_line_204 : decode cX12_line 204 = .ok (.iload_n 1, 1) := by decide +kernel
theorem eX12_line_205 : decode cX12_line 205 = .ok (.iadd, 1) := by decide +kernel
theorem eX12_line_206 : decode cX12_line 206 = .ok (.aload_n 0, 1) := by decide +kernel
theorem eX12_line_207 : decode cX12_line 207 = .ok (.getfield 202, 3) := by decide +kernel
theorem eX12_line_210 : decode cX12_line 210 = .ok (.iastore, 1) := by decide +kernel
theorem eX12_line_211 : decode cX12_line 211 = .ok (.aload_n 0, 1) := by decide +kernel
theorem eX12_line_212 : decode cX12_line 212 = .ok (.iconst 1, 1) := by decide +kernel
theorem eX12_line_213 : decode cX12_line 213 = .ok (.bipush 9, 2) := by decide +kernel
theorem eX12_line_215 : decode cX12_line 215 = .ok (.invokevirtual 227, 3) := by decide +kernel
theorem eX12_line_218 : decode cX12_line 218 = .ok (.ifCond .ne 5, 3) := by decide +kernel
theorem eX12_line_221 : decode cX12_line 221 = .ok (.iconst 0, 1) := by decide +kernel
theorem eX12_line_222 : decode cX12_line 222 = .ok (.ireturn, 1) := by decide +kernel
theorem eX12_line_223 : decode cX12_line 223 = .ok (.aload_n 0, 1) := by decide +kernel
theorem eX12_line_224 : decode cX12_line 224 = .ok (.getfield 37, 3) := by decide +kernel
theorem eX12_line_227 : decode cX12_line 227 = .ok (.bipush 26, 2) := by decide +kernel
theorem eX12_line_229 : decode cX12_line 229 = .ok (.iload_n 1, 1) := by decide +kernel
theorem eX12_line_230 : decode cX12_line 230 = .ok (.iadd, 1) := by decide +kernel
theorem eX12_line_231 : decode cX12_line 231 = .ok (.aload_n 0, 1) := by decide +kernel
theorem eX12_line_232 : decode cX12_line 232 = .ok (.getfield 202, 3) := by decide +kernel
theorem eX12_line_235 : decode cX12_line 235 = .ok (.iastore, 1) := by decide +kernel
theorem eX12_line_236 : decode cX12_line 236 = .ok (.aload_n 0, 1) := by decide +kernel
theorem eX12_line_237 : decode cX12_line 237 = .ok (.getfield 37, 3) := by decide +kernel
theorem eX12_line_240 : decode cX12_line 240 = .ok (.iconst 2, 1) := by decide +kernel
theorem eX12_line_241 : decode cX12_line 241 = .ok (.dup2, 1) := by decide +kernel
theorem eX12_line_242 : decode cX12_line 242 = .ok (.iaload, 1) := by decide +kernel
theorem eX12_line_243 : decode cX12_line 243 = .ok (.iconst 1, 1) := by decide +kernel
theorem eX12_line_244 : decode cX12_line 244 = .ok (.iadd, 1) := by decide +kernel
theorem eX12_line_245 : decode cX12_line 245 = .ok (.iastore, 1) := by decide +kernel
theorem eX12_line_246 : decode cX12_line 246 = .ok (.iconst 1, 1) := by decide +kernel
theorem eX12_line_247 : decode cX12_line 247 = .ok (.ireturn, 1) := by decide +kernel
theorem eX12_line_248 : decode cX12_line 248 = .ok (.aload_n 0, 1) := by decide +kernel
theorem eX12_line_249 : decode cX12_line 249 = .ok (.ldc2_w 110, 3) := by decide +kernel
theorem eX12_line_252 : decode cX12_line 252 = .ok (.invokevirtual 220, 3) := by decide +kernel
theorem eX12_line_255 : decode cX12_line 255 = .ok (.ifCond .eq 36, 3) := by decide +kernel
theorem eX12_line_258 : decode cX12_line 258 = .ok (.aload_n 0, 1) := by decide +kernel
theorem eX12_line_259 : decode cX12_line 259 = .ok (.getfield 37, 3) := by decide +kernel
theorem eX12_line_262 : decode cX12_line 262 = .ok (.iconst 3, 1) := by decide +kernel
theorem eX12_line_263 : decode cX12_line 263 = .ok (.iaload, 1) := by decide +kernel
theorem eX12_line_264 : decode cX12_line 264 = .ok (.bipush 6, 2) := by decide +kernel
theorem eX12_line_266 : decode cX12_line 266 = .ok (.if_icmp .ne 9, 3) := by decide +kernel
theorem eX12_line_269 : decode cX12_line 269 = .ok (.aload_n 0, 1) := by decide +kernel
theorem eX12_line_270 : decode cX12_line 270 = .ok (.iconst 4, 1) := by decide +kernel
theorem eX12_line_271 : decode cX12_line 271 = .ok (.invokevirtual 192, 3) := by decide +kernel
theorem eX12_line_274 : decode cX12_line 274 = .ok (.ireturn, 1) := by decide +kernel
theorem eX12_line_275 : decode cX12_line 275 = .ok (.aload_n 0, 1) := by decide +kernel
theorem eX12_line_276 : decode cX12_line 276 = .ok (.invokevirtual 195, 3) := by decide +kernel
theorem eX12_line_279 : decode cX12_line 279 = .ok (.aload_n 0, 1) := by decide +kernel
theorem eX12_line_280 : decode cX12_line 280 = .ok (.getfield 37, 3) := by decide +kernel
theorem eX12_line_283 : decode cX12_line 283 = .ok (.iconst 3, 1) := by decide +kernel
theorem eX12_line_284 : decode cX12_line 284 = .ok (.dup2, 1) := by decide +kernel
theorem eX12_line_285 : decode cX12_line 285 = .ok (.iaload, 1) := by decide +kernel
theorem eX12_line_286 : decode cX12_line 286 = .ok (.iconst 1, 1) := by decide +kernel
theorem eX12_line_287 : decode cX12_line 287 = .ok (.iadd, 1) := by decide +kernel
theorem eX12_line_288 : decode cX12_line 288 = .ok (.iastore, 1) := by decide +kernel
theorem eX12_line_289 : decode cX12_line 289 = .ok (.iconst 1, 1) := by decide +kernel
theorem eX12_line_290 : decode cX12_line 290 = .ok (.ireturn, 1) := by decide +kernel
theorem eX12_line_291 : decode cX12_line 291 = .ok (.aload_n 0, 1) := by decide +kernel
theorem eX12_line_292 : decode cX12_line 292 = .ok (.ldc2_w 124, 3) := by decide +kernel
theorem eX12_line_295 : decode cX12_line 295 = .ok (.invokevirtual 220, 3) := by decide +kernel
theorem eX12_line_298 : decode cX12_line 298 = .ok (.ifCond .eq 32, 3) := by decide +kernel
theorem eX12_line_301 : decode cX12_line 301 = .ok (.aload_n 0, 1) := by decide +kernel
theorem eX12_line_302 : decode cX12_line 302 = .ok (.getfield 37, 3) := by decide +kernel
theorem eX12_line_305 : decode cX12_line 305 = .ok (.iconst 5, 1) := by decide +kernel
theorem eX12_line_306 : decode cX12_line 306 = .ok (.iaload, 1) := by decide +kernel
theorem eX12_line_307 : decode cX12_line 307 = .ok (.iconst 1, 1) := by decide +kernel
theorem eX12_line_308 : decode cX12_line 308 = .ok (.if_icmp .ne 9, 3) := by decide +kernel
theorem eX12_line_311 : decode cX12_line 311 = .ok (.aload_n 0, 1) := by decide +kernel
theorem eX12_line_312 : decode cX12_line 312 = .ok (.iconst 3, 1) := by decide +kernel
theorem eX12_line_313 : decode cX12_line 313 = .ok (.invokevirtual 192, 3) := by decide +kernel
theorem eX12_line_316 : decode cX12_line 316 = .ok (.ireturn, 1) := by decide +kernel
theorem eX12_line_317 : decode cX12_line 317 = .ok (.aload_n 0, 1) := by decide +kernel
theorem eX12_line_318 : decode cX12_line 318 = .ok (.getfield 37, 3) := by decide +kernel
theorem eX12_line_321 : decode cX12_line 321 = .ok (.iconst 5, 1) := by decide +kernel
theorem eX12_line_322 : decode cX12_line 322 = .ok (.iconst 1, 1) := by decide +kernel
theorem eX12_line_323 : decode cX12_line 323 = .ok (.iastore, 1) := by decide +kernel
theorem eX12_line_324 : decode cX12_line 324 = .ok (.aload_n 0, 1) := by decide +kernel
theorem eX12_line_325 : decode cX12_line 325 = .ok (.invokevirtual 195, 3) := by decide +kernel
theorem eX12_line_328 : decode cX12_line 328 = .ok (.iconst 1, 1) := by decide +kernel
theorem eX12_line_329 : decode cX12_line 329 = .ok (.ireturn, 1) := by decide +kernel
theorem eX12_line_330 : decode cX12_line 330 = .ok (.aload_n 0, 1) := by decide +kernel
theorem eX12_line_331 : decode cX12_line 331 = .ok (.ldc2_w 112, 3) := by decide +kernel
theorem eX12_line_334 : decode cX12_line 334 = .ok (.invokevirtual 220, 3) := by decide +kernel
theorem eX12_line_337 : decode cX12_line 337 = .ok (.ifCond .eq 8, 3) := by decide +kernel
theorem eX12_line_340 : decode cX12_line 340 = .ok (.aload_n 0, 1) := by decide +kernel
theorem eX12_line_341 : decode cX12_line 341 = .ok (.invokevirtual 230, 3) := by decide +kernel
theorem eX12_line_344 : decode cX12_line 344 = .ok (.ireturn, 1) := by decide +kernel
theorem eX12_line_345 : decode cX12_line 345 = .ok (.aload_n 0, 1) := by decide +kernel
theorem eX12_line_346 : decode cX12_line 346 = .ok (.ldc2_w 114, 3) := by decide +kernel
theorem eX12_line_349 : decode cX12_line 349 = .ok (.invokevirtual 220, 3) := by decide +kernel
theorem eX12_line_352 : decode cX12_line 352 = .ok (.ifCond .eq 79, 3) := by decide +kernel
theorem eX12_line_355 : decode cX12_line 355 = .ok (.aload_n 0, 1) := by decide +kernel
theorem eX12_line_356 : decode cX12_line 356 = .ok (.getfield 37, 3) := by decide +kernel
theorem eX12_line_359 : decode cX12_line 359 = .ok (.iconst 4, 1) := by decide +kernel
theorem eX12_line_360 : decode cX12_line 360 = .ok (.iaload, 1) := by decide +kernel
theorem eX12_line_361 : decode cX12_line 361 = .ok (.iconst 1, 1) := by decide +kernel
theorem eX12_line_362 : decode cX12_line 362 = .ok (.isub, 1) := by decide +kernel
theorem eX12_line_363 : decode cX12_line 363 = .ok (.istore_n 1, 1) := by decide +kernel
theorem eX12_line_364 : decode cX12_line 364 = .ok (.iload_n 1, 1) := by decide +kernel
theorem eX12_line_365 : decode cX12_line 365 = .ok (.ifCond .lt 23, 3) := by decide +kernel
theorem eX12_line_368 : decode cX12_line 368 = .ok (.aload_n 0, 1) := by decide +kernel
theorem eX12_line_369 : decode cX12_line 369 = .ok (.getfield 37, 3) := by decide +kernel
theorem eX12_line_372 : decode cX12_line 372 = .ok (.bipush 104, 2) := by decide +kernel
theorem eX12_line_374 : decode cX12_line 374 = .ok (.iload_n 1, 1) := by decide +kernel
theorem eX12_line_375 : decode cX12_line 375 = .ok (.iadd, 1) := by decide +kernel
theorem eX12_line_376 : decode cX12_line 376 = .ok (.iaload, 1) := by decide +kernel
theorem eX12_line_377 : decode cX12_line 377 = .ok (.aload_n 0, 1) := by decide +kernel
theorem eX12_line_378 : decode cX12_line 378 = .ok (.getfield 37, 3) := by decide +kernel
theorem eX12_line_381 : decode cX12_line 381 = .ok (.iconst 3, 1) := by decide +kernel
theorem eX12_line_382 : decode cX12_line 382 = .ok (.iaload, 1) := by decide +kernel
theorem eX12_line_383 : decode cX12_line 383 = .ok (.iconst 1, 1) := by decide +kernel
theorem eX12_line_384 : decode cX12_line 384 = .ok (.isub, 1) := by decide +kernel
theorem eX12_line_385 : decode cX12_line 385 = .ok (.if_icmp .eq 9, 3) := by decide +kernel
theorem eX12_line_388 : decode cX12_line 388 = .ok (.aload_n 0, 1) := by decide +kernel
theorem eX12_line_389 : decode cX12_line 389 = .ok (.iconst 1, 1) := by decide +kernel
theorem eX12_line_390 : decode cX12_line 390 = .ok (.invokevirtual 192, 3) := by decide +kernel
theorem eX12_line_393 : decode cX12_line 393 = .ok (.ireturn, 1) := by decide +kernel
theorem eX12_line_394 : decode cX12_line 394 = .ok (.aload_n 0, 1) := by decide +kernel
theorem eX12_line_395 : decode cX12_line 395 = .ok (.invokevirtual 195, 3) := by decide +kernel
theorem eX12_line_398 : decode cX12_line 398 = .ok (.aload_n 0, 1) := by decide +kernel
theorem eX12_line_399 : decode cX12_line 399 = .ok (.bipush 26, 2) := by decide +kernel
theorem eX12_line_401 : decode cX12_line 401 = .ok (.aload_n 0, 1) := by decide +kernel
theorem eX12_line_402 : decode cX12_line 402 = .ok (.getfield 37, 3) := by decide +kernel
theorem eX12_line_405 : decode cX12_line 405 = .ok (.iconst 1, 1) := by decide +kernel
theorem eX12_line_406 : decode cX12_line 406 = .ok (.iaload, 1) := by decide +kernel
theorem eX12_line_407 : decode cX12_line 407 = .ok (.invokevirtual 213, 3) := by decide +kernel
theorem eX12_line_410 : decode cX12_line 410 = .ok (.ifCond .eq 19, 3) := by decide +kernel
theorem eX12_line_413 : decode cX12_line 413 = .ok (.aload_n 0, 1) := by decide +kernel
theorem eX12_line_414 : decode cX12_line 414 = .ok (.sipush 128, 3) := by decide +kernel
theorem eX12_line_417 : decode cX12_line 417 = .ok (.iload_n 1, 1) := by decide +kernel
theorem eX12_line_418 : decode cX12_line 418 = .ok (.iadd, 1) := by decide +kernel
theorem eX12_line_419 : decode cX12_line 419 = .ok (.invokevirtual 233, 3) := by decide +kernel
theorem eX12_line_422 : decode cX12_line 422 = .ok (.ifCond .eq 7, 3) := by decide +kernel
theorem eX12_line_425 : decode cX12_line 425 = .ok (.iconst 1, 1) := by decide +kernel
theorem eX12_line_426 : decode cX12_line 426 = .ok (.goto 4, 3) := by decide +kernel
theorem eX12_line_429 : decode cX12_line 429 = .ok (.iconst 0, 1) := by decide +kernel
theorem eX12_line_430 : decode cX12_line 430 = .ok (.ireturn, 1) := by decide +kernel
theorem eX12_line_431 : decode cX12_line 431 = .ok (.aload_n 0, 1) := by decide +kernel
theorem eX12_line_432 : decode cX12_line 432 = .ok (.invokevirtual 236, 3) := by decide +kernel
theorem eX12_line_435 : decode cX12_line 435 = .ok (.ireturn, 1) := by decide +kernel
set_option maxRecDepth 100000 in
theorem m_12_line (hU : ev_uq ty ev_TR) {C : ev_C} {r : Int} {C' : ev_C} (h : f_12_line C = some (r, C')) : ev_Met l D cys ty ck_tags ev_TR kc_317 [.inr (.inl 12)] C (fun r0 C0 => r0 = some (.inl r) ∧ C0 = C') := by
  unfold f_12_line at h
  refine ev_enter (by decide +kernel) (by decide +kernel) (Nat.le_of_ble_eq_true rfl) ?_
  show ev_W l D cys ty ck_tags ev_TR kc_317 0 [(0, .inr (.inl 12))] [] C _
  refine ev_al eX12_line_0 rfl ?_
  refine ev_ldc2 (x := 1885434484) (v := 1885434484) eX12_line_1 (in_r12 _ (List.mem_of_getElem? (i := 16) rfl)) (by decide +kernel) ?_
  obtain ⟨r1, C1, hq1, h⟩ := ev_bd_some h
  refine ev_callV (kc := kc_211) (A := [.inr (.inr 1885434484)]) (T := []) (lk_m.1 _ _ 0 [211] (isM (by decide +kernel)) 211 (by decide)) eX12_line_4 (m_12_isWord hU hq1) rfl rfl rfl (by decide) (by decide) (Nat.le_of_ble_eq_true rfl) ?_
  rintro _ C1 ⟨rfl, rfl⟩
  show ev_W l D cys ty ck_tags ev_TR kc_317 7 [(0, .inr (.inl 12))] [.inl r1] C1 _
  refine ev_z_eq (tgt := 81) eX12_line_7 (by decide) (fun hc2 => ?_) (fun hc2 => ?_)
  · rw [if_pos (show r1 = 0 from hc2)] at h
    refine ev_al eX12_line_81 rfl ?_
    refine ev_ldc2 (x := 1717658484) (v := 1717658484) eX12_line_82 (in_r12 _ (List.mem_of_getElem? (i := 17) rfl)) (by decide +kernel) ?_
    obtain ⟨r3, C3, hq3, h⟩ := ev_bd_some h
    refine ev_callV (kc := kc_211) (A := [.inr (.inr 1717658484)]) (T := []) (lk_m.1 _ _ 0 [211] (isM (by decide +kernel)) 211 (by decide)) eX12_line_85 (m_12_isWord hU hq3) rfl rfl rfl (by decide) (by decide) (Nat.le_of_ble_eq_true rfl) ?_
    rintro _ C3 ⟨rfl, rfl⟩
    show ev_W l D cys ty ck_tags ev_TR kc_317 88 [(0, .inr (.inl 12))] [.inl r3] C3 _
    refine ev_z_eq (tgt := 142) eX12_line_88 (by decide) (fun hc4 => ?_) (fun hc4 => ?_)
    · rw [if_pos (show r3 = 0 from hc4)] at h
      refine ev_al eX12_line_142 rfl ?_
      refine ev_ldc2 (x := 7168366) (v := 7168366) eX12_line_143 (in_r12 _ (List.mem_of_getElem? (i := 19) rfl)) (by decide +kernel) ?_
      obtain ⟨r5, C5, hq5, h⟩ := ev_bd_some h
      refine ev_callV (kc := kc_211) (A := [.inr (.inr 7168366)]) (T := []) (lk_m.1 _ _ 0 [211] (isM (by decide +kernel)) 211 (by decide)) eX12_line_146 (m_12_isWord hU hq5) rfl rfl rfl (by decide) (by decide) (Nat.le_of_ble_eq_true rfl) ?_
      rintro _ C5 ⟨rfl, rfl⟩
      show ev_W l D cys ty ck_tags ev_TR kc_317 149 [(0, .inr (.inl 12))] [.inl r5] C5 _
      refine ev_z_eq (tgt := 248) eX12_line_149 (by decide) (fun hc6 => ?_) (fun hc6 => ?_)
      · rw [if_pos (show r5 = 0 from hc6)] at h
        refine ev_al eX12_line_248 rfl ?_
        refine ev_ldc2 (x := 6382452) (v := 6382452) eX12_line_249 (in_r12 _ (List.mem_of_getElem? (i := 20) rfl)) (by decide +kernel) ?_
        obtain ⟨r7, C7, hq7, h⟩ := ev_bd_some h
        refine ev_callV (kc := kc_211) (A := [.inr (.inr 6382452)]) (T := []) (lk_m.1 _ _ 0 [211] (isM (by decide +kernel)) 211 (by decide)) eX12_line_252 (m_12_isWord hU hq7) rfl rfl rfl (by decide) (by decide) (Nat.le_of_ble_eq_true rfl) ?_
        rintro _ C7 ⟨rfl, rfl⟩
        show ev_W l D cys ty ck_tags ev_TR kc_317 255 [(0, .inr (.inl 12))] [.inl r7] C7 _
        refine ev_z_eq (tgt := 291) eX12_line_255 (by decide) (fun hc8 => ?_) (fun hc8 => ?_)
        · rw [if_pos (show r7 = 0 from hc8)] at h
          refine ev_al eX12_line_291 rfl ?_
          refine ev_ldc2 (x := 1919251316) (v := 1919251316) eX12_line_292 (in_r13 _ (List.mem_of_getElem? (i := 3) rfl)) (by decide +kernel) ?_
          obtain ⟨r9, C9, hq9, h⟩ := ev_bd_some h
          refine ev_callV (kc := kc_211) (A := [.inr (.inr 1919251316)]) (T := []) (lk_m.1 _ _ 0 [211] (isM (by decide +kernel)) 211 (by decide)) eX12_line_295 (m_12_isWord hU hq9) rfl rfl rfl (by decide) (by decide) (Nat.le_of_ble_eq_true rfl) ?_
          rintro _ C9 ⟨rfl, rfl⟩
          show ev_W l D cys ty ck_tags ev_TR kc_317 298 [(0, .inr (.inl 12))] [.inl r9] C9 _
          refine ev_z_eq (tgt := 330) eX12_line_298 (by decide) (fun hc10 => ?_) (fun hc10 => ?_)
          · rw [if_pos (show r9 = 0 from hc10)] at h
            refine ev_al eX12_line_330 rfl ?_
            refine ev_ldc2 (x := 495588830821) (v := 495588830821) eX12_line_331 (in_r12 _ (List.mem_of_getElem? (i := 21) rfl)) (by decide +kernel) ?_
            obtain ⟨r11, C11, hq11, h⟩ := ev_bd_some h
            refine ev_callV (kc := kc_211) (A := [.inr (.inr 495588830821)]) (T := []) (lk_m.1 _ _ 0 [211] (isM (by decide +kernel)) 211 (by decide)) eX12_line_334 (m_12_isWord hU hq11) rfl rfl rfl (by decide) (by decide) (Nat.le_of_ble_eq_true rfl) ?_
            rintro _ C11 ⟨rfl, rfl⟩
            show ev_W l D cys ty ck_tags ev_TR kc_317 337 [(0, .inr (.inl 12))] [.inl r11] C11 _
            refine ev_z_eq (tgt := 345) eX12_line_337 (by decide) (fun hc12 => ?_) (fun hc12 => ?_)
            · rw [if_pos (show r11 = 0 from hc12)] at h
              refine ev_al eX12_line_345 rfl ?_
              refine ev_ldc2 (x := 495673374579) (v := 495673374579) eX12_line_346 (in_r12 _ (List.mem_of_getElem? (i := 22) rfl)) (by decide +kernel) ?_
              obtain ⟨r13, C13, hq13, h⟩ := ev_bd_some h
              refine ev_callV (kc := kc_211) (A := [.inr (.inr 495673374579)]) (T := []) (lk_m.1 _ _ 0 [211] (isM (by decide +kernel)) 211 (by decide)) eX12_line_349 (m_12_isWord hU hq13) rfl rfl rfl (by decide) (by decide) (Nat.le_of_ble_eq_true rfl) ?_
              rintro _ C13 ⟨rfl, rfl⟩
              show ev_W l D cys ty ck_tags ev_TR kc_317 352 [(0, .inr (.inl 12))] [.inl r13] C13 _
              refine ev_z_eq (tgt := 431) eX12_line_352 (by decide) (fun hc14 => ?_) (fun hc14 => ?_)
              · rw [if_pos (show r13 = 0 from hc14)] at h
                refine ev_al eX12_line_431 rfl ?_
                obtain ⟨r15, C15, hq15, h⟩ := ev_bd_some h
                refine ev_callV (kc := kc_315) (A := []) (T := []) (lk_m.1 _ _ 0 [315] (isM (by decide +kernel)) 315 (by decide)) eX12_line_432 (m_12_pairs hU hq15) rfl rfl rfl (by decide) (by decide) (Nat.le_of_ble_eq_true rfl) ?_
                rintro _ C15 ⟨rfl, rfl⟩
                show ev_W l D cys ty ck_tags ev_TR kc_317 435 [(0, .inr (.inl 12))] [.inl r15] C15 _
                obtain ⟨hb16, h⟩ := ev_gd h
                cases h
                exact ev_zret eX12_line_435 rfl hb16 ⟨rfl, rfl⟩
              · rw [if_neg (show ¬ (r13 = 0) from hc14)] at h
                refine ev_al eX12_line_355 rfl ?_
                refine ev_getR lk_f (ci := 12) (j := 7) (cd := 3) eX12_line_356 (isF (by decide +kernel)) rfl rfl ?_
                refine ev_ic eX12_line_359 (by decide) ?_
                refine ev_iald eX12_line_360 rfl rfl (by decide) (by decide) ?_
                refine ev_ic eX12_line_361 (by decide) ?_
                refine ev_sub eX12_line_362 ?_
                refine ev_is (L' := [(1, .inl (ev_w (((C13 35 4)) - (1 : Int)))), (0, .inr (.inl 12))]) eX12_line_363 (by decide) rfl ?_
                refine ev_il eX12_line_364 rfl ?_
                refine ev_z_lt (tgt := 388) eX12_line_365 (by decide) (fun hc17 => ?_) (fun hc17 => ?_)
                · rw [if_pos (show ev_w (((C13 35 4)) - (1 : Int)) < 0 from hc17)] at h
                  refine ev_al eX12_line_388 rfl ?_
                  refine ev_ic eX12_line_389 (by decide) ?_
                  obtain ⟨r18, C18, hq18, h⟩ := ev_bd_some h
                  refine ev_callV (kc := kc_205) (A := [.inl 1]) (T := []) (lk_m.1 _ _ 0 [205] (isM (by decide +kernel)) 205 (by decide)) eX12_line_390 (m_12_bad hU hq18) rfl rfl rfl (by decide) (by decide) (Nat.le_of_ble_eq_true rfl) ?_
                  rintro _ C18 ⟨rfl, rfl⟩
                  show ev_W l D cys ty ck_tags ev_TR kc_317 393 [(1, .inl (ev_w (((C13 35 4)) - (1 : Int)))), (0, .inr (.inl 12))] [.inl r18] C18 _
                  obtain ⟨hb19, h⟩ := ev_gd h
                  cases h
                  exact ev_zret eX12_line_393 rfl hb19 ⟨rfl, rfl⟩
                · rw [if_neg (show ¬ (ev_w (((C13 35 4)) - (1 : Int)) < 0) from hc17)] at h
                  refine ev_al eX12_line_368 rfl ?_
                  refine ev_getR lk_f (ci := 12) (j := 7) (cd := 3) eX12_line_369 (isF (by decide +kernel)) rfl rfl ?_
                  refine ev_bp eX12_line_372 (by decide) (by decide) ?_
                  refine ev_il eX12_line_374 rfl ?_
                  refine ev_add eX12_line_375 ?_
                  obtain ⟨hb20, h⟩ := ev_gd h
                  refine ev_iald eX12_line_376 rfl rfl hb20.1 hb20.2 ?_
                  refine ev_al eX12_line_377 rfl ?_
                  refine ev_getR lk_f (ci := 12) (j := 7) (cd := 3) eX12_line_378 (isF (by decide +kernel)) rfl rfl ?_
                  refine ev_ic eX12_line_381 (by decide) ?_
                  refine ev_iald eX12_line_382 rfl rfl (by decide) (by decide) ?_
                  refine ev_ic eX12_line_383 (by decide) ?_
                  refine ev_sub eX12_line_384 ?_
                  refine ev_c_eq (tgt := 394) eX12_line_385 (by decide) (fun hc21 => ?_) (fun hc21 => ?_)
                  · rw [if_pos (show (C13 35 (Int.toNat (ev_w ((104 : Int) + (ev_w (((C13 35 4)) - (1 : Int))))))) = ev_w (((C13 35 3)) - (1 : Int)) from hc21)] at h
                    refine ev_al eX12_line_394 rfl ?_
                    obtain ⟨C22, hq22, h⟩ := ev_bv_some h
                    refine ev_callV (kc := kc_209) (A := []) (T := []) (lk_m.1 _ _ 0 [209] (isM (by decide +kernel)) 209 (by decide)) eX12_line_395 (m_12_go hU hq22) rfl rfl rfl (by decide) (by decide) (Nat.le_of_ble_eq_true rfl) ?_
                    rintro _ C22 ⟨rfl, rfl⟩
                    show ev_W l D cys ty ck_tags ev_TR kc_317 398 [(1, .inl (ev_w (((C13 35 4)) - (1 : Int)))), (0, .inr (.inl 12))] [] C22 _
                    refine ev_al eX12_line_398 rfl ?_
                    refine ev_bp eX12_line_399 (by decide) (by decide) ?_
                    refine ev_al eX12_line_401 rfl ?_
                    refine ev_getR lk_f (ci := 12) (j := 7) (cd := 3) eX12_line_402 (isF (by decide +kernel)) rfl rfl ?_
                    refine ev_ic eX12_line_405 (by decide) ?_
                    refine ev_iald eX12_line_406 rfl rfl (by decide) (by decide) ?_
                    obtain ⟨r23, C23, hq23, h⟩ := ev_bd_some h
                    refine ev_callV (kc := kc_224) (A := [.inl 26, .inl ((C22 35 1))]) (T := []) (lk_m.1 _ _ 0 [224, 225] (isM (by decide +kernel)) 224 (by decide)) eX12_line_407 (m_12_looksAt hU hq23) rfl rfl rfl (by decide) (by decide) (Nat.le_of_ble_eq_true rfl) ?_
                    rintro _ C23 ⟨rfl, rfl⟩
                    show ev_W l D cys ty ck_tags ev_TR kc_317 410 [(1, .inl (ev_w (((C13 35 4)) - (1 : Int)))), (0, .inr (.inl 12))] [.inl r23] C23 _
                    refine ev_z_eq (tgt := 429) eX12_line_410 (by decide) (fun hc24 => ?_) (fun hc24 => ?_)
                    · rw [if_pos (show r23 = 0 from hc24)] at h
                      refine ev_ic eX12_line_429 (by decide) ?_
                      cases h
                      exact ev_zret eX12_line_430 rfl (by decide) ⟨rfl, rfl⟩
                    · rw [if_neg (show ¬ (r23 = 0) from hc24)] at h
                      refine ev_al eX12_line_413 rfl ?_
                      refine ev_sp eX12_line_414 (by decide) (by decide) ?_
                      refine ev_il eX12_line_417 rfl ?_
                      refine ev_add eX12_line_418 ?_
                      obtain ⟨r25, C25, hq25, h⟩ := ev_bd_some h
                      refine ev_callV (kc := kc_314) (A := [.inl (ev_w ((128 : Int) + (ev_w (((C13 35 4)) - (1 : Int)))))]) (T := []) (lk_m.1 _ _ 0 [314] (isM (by decide +kernel)) 314 (by decide)) eX12_line_419 (m_12_sets hU hq25) rfl rfl rfl (by decide) (by decide) (Nat.le_of_ble_eq_true rfl) ?_
                      rintro _ C25 ⟨rfl, rfl⟩
                      show ev_W l D cys ty ck_tags ev_TR kc_317 422 [(1, .inl (ev_w (((C13 35 4)) - (1 : Int)))), (0, .inr (.inl 12))] [.inl r25] C25 _
                      refine ev_z_eq (tgt := 429) eX12_line_422 (by decide) (fun hc26 => ?_) (fun hc26 => ?_)
                      · rw [if_pos (show r25 = 0 from hc26)] at h
                        refine ev_ic eX12_line_429 (by decide) ?_
                        cases h
                        exact ev_zret eX12_line_430 rfl (by decide) ⟨rfl, rfl⟩
                      · rw [if_neg (show ¬ (r25 = 0) from hc26)] at h
                        refine ev_ic eX12_line_425 (by decide) ?_
                        refine ev_goto (tgt := 430) eX12_line_426 (by decide) ?_
                        cases h
                        exact ev_zret eX12_line_430 rfl (by decide) ⟨rfl, rfl⟩
                  · rw [if_neg (show ¬ ((C13 35 (Int.toNat (ev_w ((104 : Int) + (ev_w (((C13 35 4)) - (1 : Int))))))) = ev_w (((C13 35 3)) - (1 : Int))) from hc21)] at h
                    refine ev_al eX12_line_388 rfl ?_
                    refine ev_ic eX12_line_389 (by decide) ?_
                    obtain ⟨r27, C27, hq27, h⟩ := ev_bd_some h
                    refine ev_callV (kc := kc_205) (A := [.inl 1]) (T := []) (lk_m.1 _ _ 0 [205] (isM (by decide +kernel)) 205 (by decide)) eX12_line_390 (m_12_bad hU hq27) rfl rfl rfl (by decide) (by decide) (Nat.le_of_ble_eq_true rfl) ?_
                    rintro _ C27 ⟨rfl, rfl⟩
                    show ev_W l D cys ty ck_tags ev_TR kc_317 393 [(1, .inl (ev_w (((C13 35 4)) - (1 : Int)))), (0, .inr (.inl 12))] [.inl r27] C27 _
                    obtain ⟨hb28, h⟩ := ev_gd h
                    cases h
                    exact ev_zret eX12_line_393 rfl hb28 ⟨rfl, rfl⟩
            · rw [if_neg (show ¬ (r11 = 0) from hc12)] at h
              refine ev_al eX12_line_340 rfl ?_
              obtain ⟨r29, C29, hq29, h⟩ := ev_bd_some h
              refine ev_callV (kc := kc_316) (A := []) (T := []) (lk_m.1 _ _ 0 [316] (isM (by decide +kernel)) 316 (by decide)) eX12_line_341 (m_12_readScene hU hq29) rfl rfl rfl (by decide) (by decide) (Nat.le_of_ble_eq_true rfl) ?_
              rintro _ C29 ⟨rfl, rfl⟩
              show ev_W l D cys ty ck_tags ev_TR kc_317 344 [(0, .inr (.inl 12))] [.inl r29] C29 _
              obtain ⟨hb30, h⟩ := ev_gd h
              cases h
              exact ev_zret eX12_line_344 rfl hb30 ⟨rfl, rfl⟩
          · rw [if_neg (show ¬ (r9 = 0) from hc10)] at h
            refine ev_al eX12_line_301 rfl ?_
            refine ev_getR lk_f (ci := 12) (j := 7) (cd := 3) eX12_line_302 (isF (by decide +kernel)) rfl rfl ?_
            refine ev_ic eX12_line_305 (by decide) ?_
            refine ev_iald eX12_line_306 rfl rfl (by decide) (by decide) ?_
            refine ev_ic eX12_line_307 (by decide) ?_
            refine ev_c_ne (tgt := 317) eX12_line_308 (by decide) (fun hc31 => ?_) (fun hc31 => ?_)
            · rw [if_pos (show (C9 35 5) ≠ 1 from hc31)] at h
              refine ev_al eX12_line_317 rfl ?_
              refine ev_getR lk_f (ci := 12) (j := 7) (cd := 3) eX12_line_318 (isF (by decide +kernel)) rfl rfl ?_
              refine ev_ic eX12_line_321 (by decide) ?_
              refine ev_ic eX12_line_322 (by decide) ?_
              refine ev_iast hU eX12_line_323 rfl rfl (by decide) (by decide) ?_
              refine ev_al eX12_line_324 rfl ?_
              obtain ⟨C32, hq32, h⟩ := ev_bv_some h
              refine ev_callV (kc := kc_209) (A := []) (T := []) (lk_m.1 _ _ 0 [209] (isM (by decide +kernel)) 209 (by decide)) eX12_line_325 (m_12_go hU hq32) rfl rfl rfl (by decide) (by decide) (Nat.le_of_ble_eq_true rfl) ?_
              rintro _ C32 ⟨rfl, rfl⟩
              show ev_W l D cys ty ck_tags ev_TR kc_317 328 [(0, .inr (.inl 12))] [] C32 _
              refine ev_ic eX12_line_328 (by decide) ?_
              cases h
              exact ev_zret eX12_line_329 rfl (by decide) ⟨rfl, rfl⟩
            · rw [if_neg (show ¬ ((C9 35 5) ≠ 1) from hc31)] at h
              refine ev_al eX12_line_311 rfl ?_
              refine ev_ic eX12_line_312 (by decide) ?_
              obtain ⟨r33, C33, hq33, h⟩ := ev_bd_some h
              refine ev_callV (kc := kc_205) (A := [.inl 3]) (T := []) (lk_m.1 _ _ 0 [205] (isM (by decide +kernel)) 205 (by decide)) eX12_line_313 (m_12_bad hU hq33) rfl rfl rfl (by decide) (by decide) (Nat.le_of_ble_eq_true rfl) ?_
              rintro _ C33 ⟨rfl, rfl⟩
              show ev_W l D cys ty ck_tags ev_TR kc_317 316 [(0, .inr (.inl 12))] [.inl r33] C33 _
              obtain ⟨hb34, h⟩ := ev_gd h
              cases h
              exact ev_zret eX12_line_316 rfl hb34 ⟨rfl, rfl⟩
        · rw [if_neg (show ¬ (r7 = 0) from hc8)] at h
          refine ev_al eX12_line_258 rfl ?_
          refine ev_getR lk_f (ci := 12) (j := 7) (cd := 3) eX12_line_259 (isF (by decide +kernel)) rfl rfl ?_
          refine ev_ic eX12_line_262 (by decide) ?_
          refine ev_iald eX12_line_263 rfl rfl (by decide) (by decide) ?_
          refine ev_bp eX12_line_264 (by decide) (by decide) ?_
          refine ev_c_ne (tgt := 275) eX12_line_266 (by decide) (fun hc35 => ?_) (fun hc35 => ?_)
          · rw [if_pos (show (C7 35 3) ≠ 6 from hc35)] at h
            refine ev_al eX12_line_275 rfl ?_
            obtain ⟨C36, hq36, h⟩ := ev_bv_some h
            refine ev_callV (kc := kc_209) (A := []) (T := []) (lk_m.1 _ _ 0 [209] (isM (by decide +kernel)) 209 (by decide)) eX12_line_276 (m_12_go hU hq36) rfl rfl rfl (by decide) (by decide) (Nat.le_of_ble_eq_true rfl) ?_
            rintro _ C36 ⟨rfl, rfl⟩
            show ev_W l D cys ty ck_tags ev_TR kc_317 279 [(0, .inr (.inl 12))] [] C36 _
            refine ev_al eX12_line_279 rfl ?_
            refine ev_getR lk_f (ci := 12) (j := 7) (cd := 3) eX12_line_280 (isF (by decide +kernel)) rfl rfl ?_
            refine ev_ic eX12_line_283 (by decide) ?_
            refine ev_dup2 eX12_line_284 rfl rfl ?_
            refine ev_iald eX12_line_285 rfl rfl (by decide) (by decide) ?_
            refine ev_ic eX12_line_286 (by decide) ?_
            refine ev_add eX12_line_287 ?_
            refine ev_iast hU eX12_line_288 rfl rfl (by decide) (by decide) ?_
            refine ev_ic eX12_line_289 (by decide) ?_
            cases h
            exact ev_zret eX12_line_290 rfl (by decide) ⟨rfl, rfl⟩
          · rw [if_neg (show ¬ ((C7 35 3) ≠ 6) from hc35)] at h
            refine ev_al eX12_line_269 rfl ?_
            refine ev_ic eX12_line_270 (by decide) ?_
            obtain ⟨r37, C37, hq37, h⟩ := ev_bd_some h
            refine ev_callV (kc := kc_205) (A := [.inl 4]) (T := []) (lk_m.1 _ _ 0 [205] (isM (by decide +kernel)) 205 (by decide)) eX12_line_271 (m_12_bad hU hq37) rfl rfl rfl (by decide) (by decide) (Nat.le_of_ble_eq_true rfl) ?_
            rintro _ C37 ⟨rfl, rfl⟩
            show ev_W l D cys ty ck_tags ev_TR kc_317 274 [(0, .inr (.inl 12))] [.inl r37] C37 _
            obtain ⟨hb38, h⟩ := ev_gd h
            cases h
            exact ev_zret eX12_line_274 rfl hb38 ⟨rfl, rfl⟩
      · rw [if_neg (show ¬ (r5 = 0) from hc6)] at h
        refine ev_al eX12_line_152 rfl ?_
        refine ev_getR lk_f (ci := 12) (j := 7) (cd := 3) eX12_line_153 (isF (by decide +kernel)) rfl rfl ?_
        refine ev_ic eX12_line_156 (by decide) ?_
        refine ev_iald eX12_line_157 rfl rfl (by decide) (by decide) ?_
        refine ev_is (L' := [(1, .inl ((C5 35 2))), (0, .inr (.inl 12))]) eX12_line_158 (by decide) rfl ?_
        refine ev_il eX12_line_159 rfl ?_
        refine ev_bp eX12_line_160 (by decide) (by decide) ?_
        refine ev_c_ne (tgt := 171) eX12_line_162 (by decide) (fun hc39 => ?_) (fun hc39 => ?_)
        · rw [if_pos (show (C5 35 2) ≠ 8 from hc39)] at h
          refine ev_al eX12_line_171 rfl ?_
          obtain ⟨C40, hq40, h⟩ := ev_bv_some h
          refine ev_callV (kc := kc_209) (A := []) (T := []) (lk_m.1 _ _ 0 [209] (isM (by decide +kernel)) 209 (by decide)) eX12_line_172 (m_12_go hU hq40) rfl rfl rfl (by decide) (by decide) (Nat.le_of_ble_eq_true rfl) ?_
          rintro _ C40 ⟨rfl, rfl⟩
          show ev_W l D cys ty ck_tags ev_TR kc_317 175 [(1, .inl ((C5 35 2))), (0, .inr (.inl 12))] [] C40 _
          refine ev_al eX12_line_175 rfl ?_
          refine ev_bp eX12_line_176 (by decide) (by decide) ?_
          refine ev_il eX12_line_178 rfl ?_
          refine ev_add eX12_line_179 ?_
          obtain ⟨r41, C41, hq41, h⟩ := ev_bd_some h
          refine ev_callV (kc := kc_251) (A := [.inl (ev_w ((32 : Int) + ((C5 35 2))))]) (T := []) (lk_m.1 _ _ 0 [251] (isM (by decide +kernel)) 251 (by decide)) eX12_line_180 (m_12_fresh hU hq41) rfl rfl rfl (by decide) (by decide) (Nat.le_of_ble_eq_true rfl) ?_
          rintro _ C41 ⟨rfl, rfl⟩
          show ev_W l D cys ty ck_tags ev_TR kc_317 183 [(1, .inl ((C5 35 2))), (0, .inr (.inl 12))] [.inl r41] C41 _
          refine ev_z_eq (tgt := 196) eX12_line_183 (by decide) (fun hc42 => ?_) (fun hc42 => ?_)
          · rw [if_pos (show r41 = 0 from hc42)] at h
            refine ev_ic eX12_line_196 (by decide) ?_
            cases h
            exact ev_zret eX12_line_197 rfl (by decide) ⟨rfl, rfl⟩
          · rw [if_neg (show ¬ (r41 = 0) from hc42)] at h
            refine ev_al eX12_line_186 rfl ?_
            refine ev_ic eX12_line_187 (by decide) ?_
            refine ev_bp eX12_line_188 (by decide) (by decide) ?_
            obtain ⟨r43, C43, hq43, h⟩ := ev_bd_some h
            refine ev_callV (kc := kc_257) (A := [.inl 0, .inl 9]) (T := []) (lk_m.1 _ _ 0 [257] (isM (by decide +kernel)) 257 (by decide)) eX12_line_190 (m_12_takes hU hq43) rfl rfl rfl (by decide) (by decide) (Nat.le_of_ble_eq_true rfl) ?_
            rintro _ C43 ⟨rfl, rfl⟩
            show ev_W l D cys ty ck_tags ev_TR kc_317 193 [(1, .inl ((C5 35 2))), (0, .inr (.inl 12))] [.inl r43] C43 _
            refine ev_z_ne (tgt := 198) eX12_line_193 (by decide) (fun hc44 => ?_) (fun hc44 => ?_)
            · rw [if_pos (show r43 ≠ 0 from hc44)] at h
              refine ev_al eX12_line_198 rfl ?_
              refine ev_getR lk_f (ci := 12) (j := 7) (cd := 3) eX12_line_199 (isF (by decide +kernel)) rfl rfl ?_
              refine ev_bp eX12_line_202 (by decide) (by decide) ?_
              refine ev_il eX12_line_204 rfl ?_
              refine ev_add eX12_line_205 ?_
              refine ev_al eX12_line_206 rfl ?_
              refine ev_getI lk_f (ci := 12) (j := 18) (cd := 0) eX12_line_207 (isF (by decide +kernel)) rfl rfl rfl ?_
              obtain ⟨hb45, h⟩ := ev_gd h
              refine ev_iast hU eX12_line_210 rfl rfl hb45.1 hb45.2 ?_
              refine ev_al eX12_line_211 rfl ?_
              refine ev_ic eX12_line_212 (by decide) ?_
              refine ev_bp eX12_line_213 (by decide) (by decide) ?_
              obtain ⟨r46, C46, hq46, h⟩ := ev_bd_some h
              refine ev_callV (kc := kc_257) (A := [.inl 1, .inl 9]) (T := []) (lk_m.1 _ _ 0 [257] (isM (by decide +kernel)) 257 (by decide)) eX12_line_215 (m_12_takes hU hq46) rfl rfl rfl (by decide) (by decide) (Nat.le_of_ble_eq_true rfl) ?_
              rintro _ C46 ⟨rfl, rfl⟩
              show ev_W l D cys ty ck_tags ev_TR kc_317 218 [(1, .inl ((C5 35 2))), (0, .inr (.inl 12))] [.inl r46] C46 _
              refine ev_z_ne (tgt := 223) eX12_line_218 (by decide) (fun hc47 => ?_) (fun hc47 => ?_)
              · rw [if_pos (show r46 ≠ 0 from hc47)] at h
                refine ev_al eX12_line_223 rfl ?_
                refine ev_getR lk_f (ci := 12) (j := 7) (cd := 3) eX12_line_224 (isF (by decide +kernel)) rfl rfl ?_
                refine ev_bp eX12_line_227 (by decide) (by decide) ?_
                refine ev_il eX12_line_229 rfl ?_
                refine ev_add eX12_line_230 ?_
                refine ev_al eX12_line_231 rfl ?_
                refine ev_getI lk_f (ci := 12) (j := 18) (cd := 0) eX12_line_232 (isF (by decide +kernel)) rfl rfl rfl ?_
                obtain ⟨hb48, h⟩ := ev_gd h
                refine ev_iast hU eX12_line_235 rfl rfl hb48.1 hb48.2 ?_
                refine ev_al eX12_line_236 rfl ?_
                refine ev_getR lk_f (ci := 12) (j := 7) (cd := 3) eX12_line_237 (isF (by decide +kernel)) rfl rfl ?_
                refine ev_ic eX12_line_240 (by decide) ?_
                refine ev_dup2 eX12_line_241 rfl rfl ?_
                refine ev_iald eX12_line_242 rfl rfl (by decide) (by decide) ?_
                refine ev_ic eX12_line_243 (by decide) ?_
                refine ev_add eX12_line_244 ?_
                refine ev_iast hU eX12_line_245 rfl rfl (by decide) (by decide) ?_
                refine ev_ic eX12_line_246 (by decide) ?_
                cases h
                exact ev_zret eX12_line_247 rfl (by decide) ⟨rfl, rfl⟩
              · rw [if_neg (show ¬ (r46 ≠ 0) from hc47)] at h
                refine ev_ic eX12_line_221 (by decide) ?_
                cases h
                exact ev_zret eX12_line_222 rfl (by decide) ⟨rfl, rfl⟩
            · rw [if_neg (show ¬ (r43 ≠ 0) from hc44)] at h
              refine ev_ic eX12_line_196 (by decide) ?_
              cases h
              exact ev_zret eX12_line_197 rfl (by decide) ⟨rfl, rfl⟩
        · rw [if_neg (show ¬ ((C5 35 2) ≠ 8) from hc39)] at h
          refine ev_al eX12_line_165 rfl ?_
          refine ev_ic eX12_line_166 (by decide) ?_
          obtain ⟨r49, C49, hq49, h⟩ := ev_bd_some h
          refine ev_callV (kc := kc_205) (A := [.inl 4]) (T := []) (lk_m.1 _ _ 0 [205] (isM (by decide +kernel)) 205 (by decide)) eX12_line_167 (m_12_bad hU hq49) rfl rfl rfl (by decide) (by decide) (Nat.le_of_ble_eq_true rfl) ?_
          rintro _ C49 ⟨rfl, rfl⟩
          show ev_W l D cys ty ck_tags ev_TR kc_317 170 [(1, .inl ((C5 35 2))), (0, .inr (.inl 12))] [.inl r49] C49 _
          obtain ⟨hb50, h⟩ := ev_gd h
          cases h
          exact ev_zret eX12_line_170 rfl hb50 ⟨rfl, rfl⟩
    · rw [if_neg (show ¬ (r3 = 0) from hc4)] at h
      refine ev_al eX12_line_91 rfl ?_
      refine ev_getR lk_f (ci := 12) (j := 7) (cd := 3) eX12_line_92 (isF (by decide +kernel)) rfl rfl ?_
      refine ev_ic eX12_line_95 (by decide) ?_
      refine ev_iald eX12_line_96 rfl rfl (by decide) (by decide) ?_
      refine ev_bp eX12_line_97 (by decide) (by decide) ?_
      refine ev_c_ne (tgt := 108) eX12_line_99 (by decide) (fun hc51 => ?_) (fun hc51 => ?_)
      · rw [if_pos (show (C3 35 1) ≠ 6 from hc51)] at h
        refine ev_al eX12_line_108 rfl ?_
        obtain ⟨C52, hq52, h⟩ := ev_bv_some h
        refine ev_callV (kc := kc_209) (A := []) (T := []) (lk_m.1 _ _ 0 [209] (isM (by decide +kernel)) 209 (by decide)) eX12_line_109 (m_12_go hU hq52) rfl rfl rfl (by decide) (by decide) (Nat.le_of_ble_eq_true rfl) ?_
        rintro _ C52 ⟨rfl, rfl⟩
        show ev_W l D cys ty ck_tags ev_TR kc_317 112 [(0, .inr (.inl 12))] [] C52 _
        refine ev_al eX12_line_112 rfl ?_
        refine ev_bp eX12_line_113 (by decide) (by decide) ?_
        refine ev_al eX12_line_115 rfl ?_
        refine ev_getR lk_f (ci := 12) (j := 7) (cd := 3) eX12_line_116 (isF (by decide +kernel)) rfl rfl ?_
        refine ev_ic eX12_line_119 (by decide) ?_
        refine ev_iald eX12_line_120 rfl rfl (by decide) (by decide) ?_
        refine ev_add eX12_line_121 ?_
        obtain ⟨r53, C53, hq53, h⟩ := ev_bd_some h
        refine ev_callV (kc := kc_251) (A := [.inl (ev_w ((26 : Int) + ((C52 35 1))))]) (T := []) (lk_m.1 _ _ 0 [251] (isM (by decide +kernel)) 251 (by decide)) eX12_line_122 (m_12_fresh hU hq53) rfl rfl rfl (by decide) (by decide) (Nat.le_of_ble_eq_true rfl) ?_
        rintro _ C53 ⟨rfl, rfl⟩
        show ev_W l D cys ty ck_tags ev_TR kc_317 125 [(0, .inr (.inl 12))] [.inl r53] C53 _
        refine ev_z_ne (tgt := 130) eX12_line_125 (by decide) (fun hc54 => ?_) (fun hc54 => ?_)
        · rw [if_pos (show r53 ≠ 0 from hc54)] at h
          refine ev_al eX12_line_130 rfl ?_
          refine ev_getR lk_f (ci := 12) (j := 7) (cd := 3) eX12_line_131 (isF (by decide +kernel)) rfl rfl ?_
          refine ev_ic eX12_line_134 (by decide) ?_
          refine ev_dup2 eX12_line_135 rfl rfl ?_
          refine ev_iald eX12_line_136 rfl rfl (by decide) (by decide) ?_
          refine ev_ic eX12_line_137 (by decide) ?_
          refine ev_add eX12_line_138 ?_
          refine ev_iast hU eX12_line_139 rfl rfl (by decide) (by decide) ?_
          refine ev_ic eX12_line_140 (by decide) ?_
          cases h
          exact ev_zret eX12_line_141 rfl (by decide) ⟨rfl, rfl⟩
        · rw [if_neg (show ¬ (r53 ≠ 0) from hc54)] at h
          refine ev_ic eX12_line_128 (by decide) ?_
          cases h
          exact ev_zret eX12_line_129 rfl (by decide) ⟨rfl, rfl⟩
      · rw [if_neg (show ¬ ((C3 35 1) ≠ 6) from hc51)] at h
        refine ev_al eX12_line_102 rfl ?_
        refine ev_ic eX12_line_103 (by decide) ?_
        obtain ⟨r55, C55, hq55, h⟩ := ev_bd_some h
        refine ev_callV (kc := kc_205) (A := [.inl 4]) (T := []) (lk_m.1 _ _ 0 [205] (isM (by decide +kernel)) 205 (by decide)) eX12_line_104 (m_12_bad hU hq55) rfl rfl rfl (by decide) (by decide) (Nat.le_of_ble_eq_true rfl) ?_
        rintro _ C55 ⟨rfl, rfl⟩
        show ev_W l D cys ty ck_tags ev_TR kc_317 107 [(0, .inr (.inl 12))] [.inl r55] C55 _
        obtain ⟨hb56, h⟩ := ev_gd h
        cases h
        exact ev_zret eX12_line_107 rfl hb56 ⟨rfl, rfl⟩
  · rw [if_neg (show ¬ (r1 = 0) from hc2)] at h
    refine ev_al eX12_line_10 rfl ?_
    refine ev_getR lk_f (ci := 12) (j := 7) (cd := 3) eX12_line_11 (isF (by decide +kernel)) rfl rfl ?_
    refine ev_ic eX12_line_14 (by decide) ?_
    refine ev_iald eX12_line_15 rfl rfl (by decide) (by decide) ?_
    refine ev_is (L' := [(1, .inl ((C1 35 0))), (0, .inr (.inl 12))]) eX12_line_16 (by decide) rfl ?_
    refine ev_il eX12_line_17 rfl ?_
    refine ev_bp eX12_line_18 (by decide) (by decide) ?_
    refine ev_c_ne (tgt := 29) eX12_line_20 (by decide) (fun hc57 => ?_) (fun hc57 => ?_)
    · rw [if_pos (show (C1 35 0) ≠ 6 from hc57)] at h
      refine ev_al eX12_line_29 rfl ?_
      obtain ⟨C58, hq58, h⟩ := ev_bv_some h
      refine ev_callV (kc := kc_209) (A := []) (T := []) (lk_m.1 _ _ 0 [209] (isM (by decide +kernel)) 209 (by decide)) eX12_line_30 (m_12_go hU hq58) rfl rfl rfl (by decide) (by decide) (Nat.le_of_ble_eq_true rfl) ?_
      rintro _ C58 ⟨rfl, rfl⟩
      show ev_W l D cys ty ck_tags ev_TR kc_317 33 [(1, .inl ((C1 35 0))), (0, .inr (.inl 12))] [] C58 _
      refine ev_al eX12_line_33 rfl ?_
      refine ev_bp eX12_line_34 (by decide) (by decide) ?_
      refine ev_il eX12_line_36 rfl ?_
      refine ev_add eX12_line_37 ?_
      obtain ⟨r59, C59, hq59, h⟩ := ev_bd_some h
      refine ev_callV (kc := kc_251) (A := [.inl (ev_w ((20 : Int) + ((C1 35 0))))]) (T := []) (lk_m.1 _ _ 0 [251] (isM (by decide +kernel)) 251 (by decide)) eX12_line_38 (m_12_fresh hU hq59) rfl rfl rfl (by decide) (by decide) (Nat.le_of_ble_eq_true rfl) ?_
      rintro _ C59 ⟨rfl, rfl⟩
      show ev_W l D cys ty ck_tags ev_TR kc_317 41 [(1, .inl ((C1 35 0))), (0, .inr (.inl 12))] [.inl r59] C59 _
      refine ev_z_eq (tgt := 54) eX12_line_41 (by decide) (fun hc60 => ?_) (fun hc60 => ?_)
      · rw [if_pos (show r59 = 0 from hc60)] at h
        refine ev_ic eX12_line_54 (by decide) ?_
        cases h
        exact ev_zret eX12_line_55 rfl (by decide) ⟨rfl, rfl⟩
      · rw [if_neg (show ¬ (r59 = 0) from hc60)] at h
        refine ev_al eX12_line_44 rfl ?_
        refine ev_ic eX12_line_45 (by decide) ?_
        refine ev_bp eX12_line_46 (by decide) (by decide) ?_
        obtain ⟨r61, C61, hq61, h⟩ := ev_bd_some h
        refine ev_callV (kc := kc_257) (A := [.inl 0, .inl 9]) (T := []) (lk_m.1 _ _ 0 [257] (isM (by decide +kernel)) 257 (by decide)) eX12_line_48 (m_12_takes hU hq61) rfl rfl rfl (by decide) (by decide) (Nat.le_of_ble_eq_true rfl) ?_
        rintro _ C61 ⟨rfl, rfl⟩
        show ev_W l D cys ty ck_tags ev_TR kc_317 51 [(1, .inl ((C1 35 0))), (0, .inr (.inl 12))] [.inl r61] C61 _
        refine ev_z_ne (tgt := 56) eX12_line_51 (by decide) (fun hc62 => ?_) (fun hc62 => ?_)
        · rw [if_pos (show r61 ≠ 0 from hc62)] at h
          refine ev_al eX12_line_56 rfl ?_
          refine ev_getR lk_f (ci := 12) (j := 7) (cd := 3) eX12_line_57 (isF (by decide +kernel)) rfl rfl ?_
          refine ev_bp eX12_line_60 (by decide) (by decide) ?_
          refine ev_il eX12_line_62 rfl ?_
          refine ev_add eX12_line_63 ?_
          refine ev_al eX12_line_64 rfl ?_
          refine ev_getI lk_f (ci := 12) (j := 18) (cd := 0) eX12_line_65 (isF (by decide +kernel)) rfl rfl rfl ?_
          obtain ⟨hb63, h⟩ := ev_gd h
          refine ev_iast hU eX12_line_68 rfl rfl hb63.1 hb63.2 ?_
          refine ev_al eX12_line_69 rfl ?_
          refine ev_getR lk_f (ci := 12) (j := 7) (cd := 3) eX12_line_70 (isF (by decide +kernel)) rfl rfl ?_
          refine ev_ic eX12_line_73 (by decide) ?_
          refine ev_dup2 eX12_line_74 rfl rfl ?_
          refine ev_iald eX12_line_75 rfl rfl (by decide) (by decide) ?_
          refine ev_ic eX12_line_76 (by decide) ?_
          refine ev_add eX12_line_77 ?_
          refine ev_iast hU eX12_line_78 rfl rfl (by decide) (by decide) ?_
          refine ev_ic eX12_line_79 (by decide) ?_
          cases h
          exact ev_zret eX12_line_80 rfl (by decide) ⟨rfl, rfl⟩
        · rw [if_neg (show ¬ (r61 ≠ 0) from hc62)] at h
          refine ev_ic eX12_line_54 (by decide) ?_
          cases h
          exact ev_zret eX12_line_55 rfl (by decide) ⟨rfl, rfl⟩
    · rw [if_neg (show ¬ ((C1 35 0) ≠ 6) from hc57)] at h
      refine ev_al eX12_line_23 rfl ?_
      refine ev_ic eX12_line_24 (by decide) ?_
      obtain ⟨r64, C64, hq64, h⟩ := ev_bd_some h
      refine ev_callV (kc := kc_205) (A := [.inl 4]) (T := []) (lk_m.1 _ _ 0 [205] (isM (by decide +kernel)) 205 (by decide)) eX12_line_25 (m_12_bad hU hq64) rfl rfl rfl (by decide) (by decide) (Nat.le_of_ble_eq_true rfl) ?_
      rintro _ C64 ⟨rfl, rfl⟩
      show ev_W l D cys ty ck_tags ev_TR kc_317 28 [(1, .inl ((C1 35 0))), (0, .inr (.inl 12))] [.inl r64] C64 _
      obtain ⟨hb65, h⟩ := ev_gd h
      cases h
      exact ev_zret eX12_line_28 rfl hb65 ⟨rfl, rfl⟩
theorem eX12_sign_0 : decode cX12_sign 0 = .ok (.aload_n 0, 1) := by decide +kernel
theorem eX12_sign_1 : decode cX12_sign 1 = .ok (.iload_n 1, 1) := by decide +kernel
theorem eX12_sign_2 : decode cX12_sign 2 = .ok (.invokevirtual 189, 3) := by decide +kernel
theorem eX12_sign_5 : decode cX12_sign 5 = .ok (.ifCond .ne 9, 3) := by decide +kernel
theorem eX12_sign_8 : decode cX12_sign 8 = .ok (.aload_n 0, 1) := by decide +kernel
theorem eX12_sign_9 : decode cX12_sign 9 = .ok (.iconst 1, 1) := by decide +kernel
theorem eX12_sign_10 : decode cX12_sign 10 = .ok (.invokevirtual 192, 3) := by decide +kernel
theorem eX12_sign_13 : decode cX12_sign 13 = .ok (.ireturn, 1) := by decide +kernel
theorem eX12_sign_14 : decode cX12_sign 14 = .ok (.aload_n 0, 1) := by decide +kernel
theorem eX12_sign_15 : decode cX12_sign 15 = .ok (.invokevirtual 195, 3) := by decide +kernel
theorem eX12_sign_18 : decode cX12_sign 18 = .ok (.iconst 1, 1) := by decide +kernel
theorem eX12_sign_19 : decode cX12_sign 19 = .ok (.ireturn, 1) := by decide +kernel
set_option maxRecDepth 100000 in
theorem m_12_sign (hU : ev_uq ty ev_TR) {C : ev_C} {x1 : Int} {r : Int} {C' : ev_C} (h : f_12_sign C x1 = some (r, C')) : ev_Met l D cys ty ck_tags ev_TR kc_237 [.inr (.inl 12), .inl x1] C (fun r0 C0 => r0 = some (.inl r) ∧ C0 = C') := by
  unfold f_12_sign at h
  refine ev_enter (by decide +kernel) (by decide +kernel) (Nat.le_of_ble_eq_true rfl) ?_
  show ev_W l D cys ty ck_tags ev_TR kc_237 0 [(0, .inr (.inl 12)), (1, .inl x1)] [] C _
  refine ev_al eX12_sign_0 rfl ?_
  refine ev_il eX12_sign_1 rfl ?_
  obtain ⟨r1, C1, hq1, h⟩ := ev_bd_some h
  refine ev_callV (kc := kc_210) (A := [.inl x1]) (T := []) (lk_m.1 _ _ 0 [210] (isM (by decide +kernel)) 210 (by decide)) eX12_sign_2 (m_12_isSign hU hq1) rfl rfl rfl (by decide) (by decide) (Nat.le_of_ble_eq_true rfl) ?_
  rintro _ C1 ⟨rfl, rfl⟩
  show ev_W l D cys ty ck_tags ev_TR kc_237 5 [(0, .inr (.inl 12)), (1, .inl x1)] [.inl r1] C1 _
  refine ev_z_ne (tgt := 14) eX12_sign_5 (by decide) (fun hc2 => ?_) (fun hc2 => ?_)
  · rw [if_pos (show r1 ≠ 0 from hc2)] at h
    refine ev_al eX12_sign_14 rfl ?_
    obtain ⟨C3, hq3, h⟩ := ev_bv_some h
    refine ev_callV (kc := kc_209) (A := []) (T := []) (lk_m.1 _ _ 0 [209] (isM (by decide +kernel)) 209 (by decide)) eX12_sign_15 (m_12_go hU hq3) rfl rfl rfl (by decide) (by decide) (Nat.le_of_ble_eq_true rfl) ?_
    rintro _ C3 ⟨rfl, rfl⟩
    show ev_W l D cys ty ck_tags ev_TR kc_237 18 [(0, .inr (.inl 12)), (1, .inl x1)] [] C3 _
    refine ev_ic eX12_sign_18 (by decide) ?_
    cases h
    exact ev_zret eX12_sign_19 rfl (by decide) ⟨rfl, rfl⟩
  · rw [if_neg (show ¬ (r1 ≠ 0) from hc2)] at h
    refine ev_al eX12_sign_8 rfl ?_
    refine ev_ic eX12_sign_9 (by decide) ?_
    obtain ⟨r4, C4, hq4, h⟩ := ev_bd_some h
    refine ev_callV (kc := kc_205) (A := [.inl 1]) (T := []) (lk_m.1 _ _ 0 [205] (isM (by decide +kernel)) 205 (by decide)) eX12_sign_10 (m_12_bad hU hq4) rfl rfl rfl (by decide) (by decide) (Nat.le_of_ble_eq_true rfl) ?_
    rintro _ C4 ⟨rfl, rfl⟩
    show ev_W l D cys ty ck_tags ev_TR kc_237 13 [(0, .inr (.inl 12)), (1, .inl x1)] [.inl r4] C4 _
    obtain ⟨hb5, h⟩ := ev_gd h
    cases h
    exact ev_zret eX12_sign_13 rfl hb5 ⟨rfl, rfl⟩
theorem eX12_play_0 : decode cX12_play 0 = .ok (.aload_n 0, 1) := by decide +kernel
theorem eX12_play_1 : decode cX12_play 1 = .ok (.iconst 0, 1) := by decide +kernel
theorem eX12_play_2 : decode cX12_play 2 = .ok (.putfield 1, 3) := by decide +kernel
theorem eX12_play_5 : decode cX12_play 5 = .ok (.aload_n 0, 1) := by decide +kernel
theorem eX12_play_6 : decode cX12_play 6 = .ok (.sipush 900, 3) := by decide +kernel
theorem eX12_play_9 : decode cX12_play 9 = .ok (.invokevirtual 242, 3) := by decide +kernel
theorem eX12_play_12 : decode cX12_play 12 = .ok (.aload_n 0, 1) := by decide +kernel
theorem eX12_play_13 : decode cX12_play 13 = .ok (.iconst 0, 1) := by decide +kernel
theorem eX12_play_14 : decode cX12_play 14 = .ok (.putfield 183, 3) := by decide +kernel
theorem eX12_play_17 : decode cX12_play 17 = .ok (.aload_n 0, 1) := by decide +kernel
theorem eX12_play_18 : decode cX12_play 18 = .ok (.iconst 0, 1) := by decide +kernel
theorem eX12_play_19 : decode cX12_play 19 = .ok (.putfield 245, 3) := by decide +kernel
theorem eX12_play_22 : decode cX12_play 22 = .ok (.iconst 0, 1) := by decide +kernel
theorem eX12_play_23 : decode cX12_play 23 = .ok (.istore_n 1, 1) := by decide +kernel
theorem eX12_play_24 : decode cX12_play 24 = .ok (.iload_n 1, 1) := by decide +kernel
theorem eX12_play_25 : decode cX12_play 25 = .ok (.sipush 140, 3) := by decide +kernel
theorem eX12_play_28 : decode cX12_play 28 = .ok (.if_icmp .ge 16, 3) := by decide +kernel
theorem eX12_play_31 : decode cX12_play 31 = .ok (.aload_n 0, 1) := by decide +kernel
theorem eX12_play_32 : decode cX12_play 32 = .ok (.getfield 37, 3) := by decide +kernel
theorem eX12_play_35 : decode cX12_play 35 = .ok (.iload_n 1, 1) := by decide +kernel
theorem eX12_play_36 : decode cX12_play 36 = .ok (.iconst 0, 1) := by decide +kernel
theorem eX12_play_37 : decode cX12_play 37 = .ok (.iastore, 1) := by decide +kernel
theorem eX12_play_38 : decode cX12_play 38 = .ok (.iinc 1 1, 3) := by decide +kernel
theorem eX12_play_41 : decode cX12_play 41 = .ok (.goto (-17), 3) := by decide +kernel
theorem eX12_play_44 : decode cX12_play 44 = .ok (.aload_n 0, 1) := by decide +kernel
theorem eX12_play_45 : decode cX12_play 45 = .ok (.invokevirtual 195, 3) := by decide +kernel
theorem eX12_play_48 : decode cX12_play 48 = .ok (.aload_n 0, 1) := by decide +kernel
theorem eX12_play_49 : decode cX12_play 49 = .ok (.getfield 166, 3) := by decide +kernel
theorem eX12_play_52 : decode cX12_play 52 = .ok (.ifCond .eq 39, 3) := by decide +kernel
theorem eX12_play_55 : decode cX12_play 55 = .ok (.aload_n 0, 1) := by decide +kernel
theorem eX12_play_56 : decode cX12_play 56 = .ok (.invokevirtual 248, 3) := by decide +kernel
theorem eX12_play_59 : decode cX12_play 59 = .ok (.ifCond .eq 12, 3) := by decide +kernel
theorem eX12_play_62 : decode cX12_play 62 = .ok (.aload_n 0, 1) := by decide +kernel
theorem eX12_play_63 : decode cX12_play 63 = .ok (.bipush 59, 2) := by decide +kernel
theorem eX12_play_65 : decode cX12_play 65 = .ok (.invokevirtual 251, 3) := by decide +kernel
theorem eX12_play_68 : decode cX12_play 68 = .ok (.ifCond .ne 10, 3) := by decide +kernel
theorem eX12_play_71 : decode cX12_play 71 = .ok (.iconst (-1), 1) := by decide +kernel
theorem eX12_play_72 : decode cX12_play 72 = .ok (.aload_n 0, 1) := by decide +kernel
theorem eX12_play_73 : decode cX12_play 73 = .ok (.getfield 186, 3) := by decide +kernel
theorem eX12_play_76 : decode cX12_play 76 = .ok (.isub, 1) := by decide +kernel
theorem eX12_play_77 : decode cX12_play 77 = .ok (.ireturn, 1) := by decide +kernel
theorem eX12_play_78 : decode cX12_play 78 = .ok (.aload_n 0, 1) := by decide +kernel
theorem eX12_play_79 : decode cX12_play 79 = .ok (.dup, 1) := by decide +kernel
theorem eX12_play_80 : decode cX12_play 80 = .ok (.getfield 245, 3) := by decide +kernel
theorem eX12_play_83 : decode cX12_play 83 = .ok (.iconst 1, 1) := by decide +kernel
theorem eX12_play_84 : decode cX12_play 84 = .ok (.iadd, 1) := by decide +kernel
theorem eX12_play_85 : decode cX12_play 85 = .ok (.putfield 245, 3) := by decide +kernel
theorem eX12_play_88 : decode cX12_play 88 = .ok (.goto (-40), 3) := by decide +kernel
theorem eX12_play_91 : decode cX12_play 91 = .ok (.iconst 0, 1) := by decide +kernel
theorem eX12_play_92 : decode cX12_play 92 = .ok (.istore_n 1, 1) := by decide +kernel
theorem eX12_play_93 : decode cX12_play 93 = .ok (.iload_n 1, 1) := by decide +kernel
theorem eX12_play_94 : decode cX12_play 94 = .ok (.sipush 367, 3) := by decide +kernel
theorem eX12_play_97 : decode cX12_play 97 = .ok (.if_icmp .ge 32, 3) := by decide +kernel
theorem eX12_play_100 : decode cX12_play 100 = .ok (.aload_n 0, 1) := by decide +kernel
theorem eX12_play_101 : decode cX12_play 101 = .ok (.getfield 33, 3) := by decide +kernel
theorem eX12_play_104 : decode cX12_play 104 = .ok (.iload_n 1, 1) := by decide +kernel
theorem eX12_play_105 : decode cX12_play 105 = .ok (.iload_n 1, 1) := by decide +kernel
theorem eX12_play_106 : decode cX12_play 106 = .ok (.sipush 140, 3) := by decide +kernel
theorem eX12_play_109 : decode cX12_play 109 = .ok (.if_icmp .ge 12, 3) := by decide +kernel
theorem eX12_play_112 : decode cX12_play 112 = .ok (.aload_n 0, 1) := by decide +kernel
theorem eX12_play_113 : decode cX12_play 113 = .ok (.getfield 37, 3) := by decide +kernel
theorem eX12_play_116 : decode cX12_play 116 = .ok (.iload_n 1, 1) := by decide +kernel
theorem eX12_play_117 : decode cX12_play 117 = .ok (.iaload, 1) := by decide +kernel
theorem eX12_play_118 : decode cX12_play 118 = .ok (.goto 4, 3) := by decide +kernel
theorem eX12_play_121 : decode cX12_play 121 = .ok (.iconst 0, 1) := by decide +kernel
theorem eX12_play_122 : decode cX12_play 122 = .ok (.iastore, 1) := by decide +kernel
theorem eX12_play_123 : decode cX12_play 123 = .ok (.iinc 1 1, 3) := by decide +kernel
theorem eX12_play_126 : decode cX12_play 126 = .ok (.goto (-33), 3) := by decide +kernel
theorem eX12_play_129 : decode cX12_play 129 = .ok (.iconst 0, 1) := by decide +kernel
theorem eX12_play_130 : decode cX12_play 130 = .ok (.istore_n 1, 1) := by decide +kernel
theorem eX12_play_131 : decode cX12_play 131 = .ok (.iload_n 1, 1) := by decide +kernel
theorem eX12_play_132 : decode cX12_play 132 = .ok (.bipush 20, 2) := by decide +kernel
theorem eX12_play_134 : decode cX12_play 134 = .ok (.if_icmp .ge 24, 3) := by decide +kernel
theorem eX12_play_137 : decode cX12_play 137 = .ok (.aload_n 0, 1) := by decide +kernel
theorem eX12_play_138 : decode cX12_play 138 = .ok (.getfield 43, 3) := by decide +kernel
theorem eX12_play_141 : decode cX12_play 141 = .ok (.iload_n 1, 1) := by decide +kernel
theorem eX12_play_142 : decode cX12_play 142 = .ok (.aload_n 0, 1) := by decide +kernel
theorem eX12_play_143 : decode cX12_play 143 = .ok (.getfield 43, 3) := by decide +kernel
theorem eX12_play_146 : decode cX12_play 146 = .ok (.bipush 20, 2) := by decide +kernel
theorem eX12_play_148 : decode cX12_play 148 = .ok (.iload_n 1, 1) := by decide +kernel
theorem eX12_play_149 : decode cX12_play 149 = .ok (.iadd, 1) := by decide +kernel
theorem eX12_play_150 : decode cX12_play 150 = .ok (.laload, 1) := by decide +kernel
theorem eX12_play_151 : decode cX12_play 151 = .ok (.lastore, 1) := by decide +kernel
theorem eX12_play_152 : decode cX12_play 152 = .ok (.iinc 1 1, 3) := by decide +kernel
theorem eX12_play_155 : decode cX12_play 155 = .ok (.goto (-24), 3) := by decide +kernel
theorem eX12_play_158 : decode cX12_play 158 = .ok (.aload_n 0, 1) := by decide +kernel
theorem eX12_play_159 : decode cX12_play 159 = .ok (.iconst 0, 1) := by decide +kernel
theorem eX12_play_160 : decode cX12_play 160 = .ok (.putfield 254, 3) := by decide +kernel
theorem eX12_play_163 : decode cX12_play 163 = .ok (.aload_n 0, 1) := by decide +kernel
theorem eX12_play_164 : decode cX12_play 164 = .ok (.getfield 245, 3) := by decide +kernel
theorem eX12_play_167 : decode cX12_play 167 = .ok (.ireturn, 1) := by decide +kernel
set_option maxRecDepth 100000 in
theorem m_12_play_L131 (hU : ev_uq ty ev_TR) : ∀ (n : Nat) {C : ev_C} {y1 : Int} {r : Int} {C' : ev_C}, f_12_play_L131 n C y1 = some (r, C') → ev_W l D cys ty ck_tags ev_TR kh_12_play 131 [(0, .inr (.inl 12)), (1, .inl y1)] [] C (fun r0 C0 => r0 = some (.inl r) ∧ C0 = C')
  | 0, _, _, _, _, h => by cases h
  | n + 1, C, y1, _, _, h => by
    unfold f_12_play_L131 at h
    refine ev_il eX12_play_131 rfl ?_
    refine ev_bp eX12_play_132 (by decide) (by decide) ?_
    refine ev_c_ge (tgt := 158) eX12_play_134 (by decide) (fun hc6 => ?_) (fun hc6 => ?_)
    · rw [if_pos (show 20 ≤ y1 from hc6)] at h
      refine ev_al eX12_play_158 rfl ?_
      refine ev_ic eX12_play_159 (by decide) ?_
      refine ev_putI lk_f hU (ci := 12) (j := 22) (cd := 0) eX12_play_160 (isF (by decide +kernel)) rfl rfl (Or.inl rfl) rfl ?_
      refine ev_al eX12_play_163 rfl ?_
      refine ev_getI lk_f (ci := 12) (j := 19) (cd := 0) eX12_play_164 (isF (by decide +kernel)) rfl rfl rfl ?_
      cases h
      exact ev_iret eX12_play_167 rfl ⟨rfl, rfl⟩
    · rw [if_neg (show ¬ (20 ≤ y1) from hc6)] at h
      refine ev_al eX12_play_137 rfl ?_
      refine ev_getR lk_f (ci := 12) (j := 9) (cd := 3) eX12_play_138 (isF (by decide +kernel)) rfl rfl ?_
      refine ev_il eX12_play_141 rfl ?_
      refine ev_al eX12_play_142 rfl ?_
      refine ev_getR lk_f (ci := 12) (j := 9) (cd := 3) eX12_play_143 (isF (by decide +kernel)) rfl rfl ?_
      refine ev_bp eX12_play_146 (by decide) (by decide) ?_
      refine ev_il eX12_play_148 rfl ?_
      refine ev_add eX12_play_149 ?_
      obtain ⟨hb7, h⟩ := ev_gd h
      refine ev_lald eX12_play_150 rfl rfl hb7.1 hb7.2 ?_
      obtain ⟨hb8, h⟩ := ev_gd h
      refine ev_last hU eX12_play_151 rfl rfl hb8.1 hb8.2 ?_
      refine ev_inc (L' := [(1, .inl (ev_w (y1 + 1))), (0, .inr (.inl 12))]) eX12_play_152 (by decide) (by decide) rfl rfl ?_
      refine ev_goto (tgt := 131) eX12_play_155 (by decide) ?_
      refine ev_loc (L' := [(0, .inr (.inl 12)), (1, .inl (ev_w (y1 + 1)))]) rfl ?_
      exact m_12_play_L131 hU n h
set_option maxRecDepth 100000 in
theorem m_12_play_J122 (hU : ev_uq ty ev_TR) {r : Int} {C' : ev_C} {K93 : ev_C → Int → Option (Int × ev_C)} (hK93 : ∀ {C : ev_C} {y1 : Int}, K93 C y1 = some (r, C') → ev_W l D cys ty ck_tags ev_TR kh_12_play 93 [(0, .inr (.inl 12)), (1, .inl y1)] [] C (fun r0 C0 => r0 = some (.inl r) ∧ C0 = C')) {C : ev_C} {y1 w0 w1 : Int} (h : f_12_play_J122 K93 C y1 w0 w1 = some (r, C')) : ev_W l D cys ty ck_tags ev_TR kh_12_play 122 [(0, .inr (.inl 12)), (1, .inl y1)] [.inl w0, .inl w1, .inr (.inl 34)] C (fun r0 C0 => r0 = some (.inl r) ∧ C0 = C') := by
  unfold f_12_play_J122 at h
  obtain ⟨hb10, h⟩ := ev_gd h
  refine ev_iast hU eX12_play_122 rfl rfl hb10.1 hb10.2 ?_
  refine ev_inc (L' := [(1, .inl (ev_w (y1 + 1))), (0, .inr (.inl 12))]) eX12_play_123 (by decide) (by decide) rfl rfl ?_
  refine ev_goto (tgt := 93) eX12_play_126 (by decide) ?_
  refine ev_loc (L' := [(0, .inr (.inl 12)), (1, .inl (ev_w (y1 + 1)))]) rfl ?_
  exact hK93 h
set_option maxRecDepth 100000 in
theorem m_12_play_L93 (hU : ev_uq ty ev_TR) : ∀ (n : Nat) {C : ev_C} {y1 : Int} {r : Int} {C' : ev_C}, f_12_play_L93 n C y1 = some (r, C') → ev_W l D cys ty ck_tags ev_TR kh_12_play 93 [(0, .inr (.inl 12)), (1, .inl y1)] [] C (fun r0 C0 => r0 = some (.inl r) ∧ C0 = C')
  | 0, _, _, _, _, h => by cases h
  | n + 1, C, y1, _, _, h => by
    unfold f_12_play_L93 at h
    refine ev_il eX12_play_93 rfl ?_
    refine ev_sp eX12_play_94 (by decide) (by decide) ?_
    refine ev_c_ge (tgt := 129) eX12_play_97 (by decide) (fun hc5 => ?_) (fun hc5 => ?_)
    · rw [if_pos (show 367 ≤ y1 from hc5)] at h
      refine ev_ic eX12_play_129 (by decide) ?_
      refine ev_is (L' := [(1, .inl 0), (0, .inr (.inl 12))]) eX12_play_130 (by decide) rfl ?_
      refine ev_loc (L' := [(0, .inr (.inl 12)), (1, .inl 0)]) rfl ?_
      exact m_12_play_L131 hU 1000 h
    · rw [if_neg (show ¬ (367 ≤ y1) from hc5)] at h
      refine ev_al eX12_play_100 rfl ?_
      refine ev_getR lk_f (ci := 12) (j := 6) (cd := 3) eX12_play_101 (isF (by decide +kernel)) rfl rfl ?_
      refine ev_il eX12_play_104 rfl ?_
      refine ev_il eX12_play_105 rfl ?_
      refine ev_sp eX12_play_106 (by decide) (by decide) ?_
      refine ev_c_ge (tgt := 121) eX12_play_109 (by decide) (fun hc9 => ?_) (fun hc9 => ?_)
      · rw [if_pos (show 140 ≤ y1 from hc9)] at h
        refine ev_ic eX12_play_121 (by decide) ?_
        refine ev_loc (L' := [(0, .inr (.inl 12)), (1, .inl y1)]) rfl ?_
        exact m_12_play_J122 hU (fun h => m_12_play_L93 hU n h) h
      · rw [if_neg (show ¬ (140 ≤ y1) from hc9)] at h
        refine ev_al eX12_play_112 rfl ?_
        refine ev_getR lk_f (ci := 12) (j := 7) (cd := 3) eX12_play_113 (isF (by decide +kernel)) rfl rfl ?_
        refine ev_il eX12_play_116 rfl ?_
        obtain ⟨hb11, h⟩ := ev_gd h
        refine ev_iald eX12_play_117 rfl rfl hb11.1 hb11.2 ?_
        refine ev_goto (tgt := 122) eX12_play_118 (by decide) ?_
        refine ev_loc (L' := [(0, .inr (.inl 12)), (1, .inl y1)]) rfl ?_
        exact m_12_play_J122 hU (fun h => m_12_play_L93 hU n h) h
set_option maxRecDepth 100000 in
theorem m_12_play_L48 (hU : ev_uq ty ev_TR) : ∀ (n : Nat) {C : ev_C} {y1 : Int} {r : Int} {C' : ev_C}, f_12_play_L48 n C y1 = some (r, C') → ev_W l D cys ty ck_tags ev_TR kh_12_play 48 [(0, .inr (.inl 12)), (1, .inl y1)] [] C (fun r0 C0 => r0 = some (.inl r) ∧ C0 = C')
  | 0, _, _, _, _, h => by cases h
  | n + 1, C, y1, _, _, h => by
    unfold f_12_play_L48 at h
    refine ev_al eX12_play_48 rfl ?_
    refine ev_getI lk_f (ci := 12) (j := 11) (cd := 0) eX12_play_49 (isF (by decide +kernel)) rfl rfl rfl ?_
    refine ev_z_eq (tgt := 91) eX12_play_52 (by decide) (fun hc4 => ?_) (fun hc4 => ?_)
    · rw [if_pos (show (C 12 11) = 0 from hc4)] at h
      refine ev_ic eX12_play_91 (by decide) ?_
      refine ev_is (L' := [(1, .inl 0), (0, .inr (.inl 12))]) eX12_play_92 (by decide) rfl ?_
      refine ev_loc (L' := [(0, .inr (.inl 12)), (1, .inl 0)]) rfl ?_
      exact m_12_play_L93 hU 1000 h
    · rw [if_neg (show ¬ ((C 12 11) = 0) from hc4)] at h
      refine ev_al eX12_play_55 rfl ?_
      obtain ⟨r12, C12, hq12, h⟩ := ev_bd_some h
      refine ev_callV (kc := kc_317) (A := []) (T := []) (lk_m.1 _ _ 0 [317] (isM (by decide +kernel)) 317 (by decide)) eX12_play_56 (m_12_line hU hq12) rfl rfl rfl (by decide) (by decide) (Nat.le_of_ble_eq_true rfl) ?_
      rintro _ C12 ⟨rfl, rfl⟩
      show ev_W l D cys ty ck_tags ev_TR kh_12_play 59 [(0, .inr (.inl 12)), (1, .inl y1)] [.inl r12] C12 _
      refine ev_z_eq (tgt := 71) eX12_play_59 (by decide) (fun hc13 => ?_) (fun hc13 => ?_)
      · rw [if_pos (show r12 = 0 from hc13)] at h
        refine ev_ic eX12_play_71 (by decide) ?_
        refine ev_al eX12_play_72 rfl ?_
        refine ev_getI lk_f (ci := 12) (j := 16) (cd := 0) eX12_play_73 (isF (by decide +kernel)) rfl rfl rfl ?_
        refine ev_sub eX12_play_76 ?_
        cases h
        exact ev_iret eX12_play_77 rfl ⟨rfl, rfl⟩
      · rw [if_neg (show ¬ (r12 = 0) from hc13)] at h
        refine ev_al eX12_play_62 rfl ?_
        refine ev_bp eX12_play_63 (by decide) (by decide) ?_
        obtain ⟨r14, C14, hq14, h⟩ := ev_bd_some h
        refine ev_callV (kc := kc_237) (A := [.inl 59]) (T := []) (lk_m.1 _ _ 0 [237, 238, 239, 240] (isM (by decide +kernel)) 237 (by decide)) eX12_play_65 (m_12_sign hU hq14) rfl rfl rfl (by decide) (by decide) (Nat.le_of_ble_eq_true rfl) ?_
        rintro _ C14 ⟨rfl, rfl⟩
        show ev_W l D cys ty ck_tags ev_TR kh_12_play 68 [(0, .inr (.inl 12)), (1, .inl y1)] [.inl r14] C14 _
        refine ev_z_ne (tgt := 78) eX12_play_68 (by decide) (fun hc15 => ?_) (fun hc15 => ?_)
        · rw [if_pos (show r14 ≠ 0 from hc15)] at h
          refine ev_al eX12_play_78 rfl ?_
          refine ev_dup eX12_play_79 rfl ?_
          refine ev_getI lk_f (ci := 12) (j := 19) (cd := 0) eX12_play_80 (isF (by decide +kernel)) rfl rfl rfl ?_
          refine ev_ic eX12_play_83 (by decide) ?_
          refine ev_add eX12_play_84 ?_
          refine ev_putI lk_f hU (ci := 12) (j := 19) (cd := 0) eX12_play_85 (isF (by decide +kernel)) rfl rfl (Or.inl rfl) rfl ?_
          refine ev_goto (tgt := 48) eX12_play_88 (by decide) ?_
          refine ev_loc (L' := [(0, .inr (.inl 12)), (1, .inl y1)]) rfl ?_
          exact m_12_play_L48 hU n h
        · rw [if_neg (show ¬ (r14 ≠ 0) from hc15)] at h
          refine ev_ic eX12_play_71 (by decide) ?_
          refine ev_al eX12_play_72 rfl ?_
          refine ev_getI lk_f (ci := 12) (j := 16) (cd := 0) eX12_play_73 (isF (by decide +kernel)) rfl rfl rfl ?_
          refine ev_sub eX12_play_76 ?_
          cases h
          exact ev_iret eX12_play_77 rfl ⟨rfl, rfl⟩
set_option maxRecDepth 100000 in
theorem m_12_play_L24 (hU : ev_uq ty ev_TR) : ∀ (n : Nat) {C : ev_C} {y1 : Int} {r : Int} {C' : ev_C}, f_12_play_L24 n C y1 = some (r, C') → ev_W l D cys ty ck_tags ev_TR kh_12_play 24 [(0, .inr (.inl 12)), (1, .inl y1)] [] C (fun r0 C0 => r0 = some (.inl r) ∧ C0 = C')
  | 0, _, _, _, _, h => by cases h
  | n + 1, C, y1, _, _, h => by
    unfold f_12_play_L24 at h
    refine ev_il eX12_play_24 rfl ?_
    refine ev_sp eX12_play_25 (by decide) (by decide) ?_
    refine ev_c_ge (tgt := 44) eX12_play_28 (by decide) (fun hc2 => ?_) (fun hc2 => ?_)
    · rw [if_pos (show 140 ≤ y1 from hc2)] at h
      refine ev_al eX12_play_44 rfl ?_
      obtain ⟨C3, hq3, h⟩ := ev_bv_some h
      refine ev_callV (kc := kc_209) (A := []) (T := []) (lk_m.1 _ _ 0 [209] (isM (by decide +kernel)) 209 (by decide)) eX12_play_45 (m_12_go hU hq3) rfl rfl rfl (by decide) (by decide) (Nat.le_of_ble_eq_true rfl) ?_
      rintro _ C3 ⟨rfl, rfl⟩
      show ev_W l D cys ty ck_tags ev_TR kh_12_play 48 [(0, .inr (.inl 12)), (1, .inl y1)] [] C3 _
      refine ev_loc (L' := [(0, .inr (.inl 12)), (1, .inl y1)]) rfl ?_
      exact m_12_play_L48 hU 1000 h
    · rw [if_neg (show ¬ (140 ≤ y1) from hc2)] at h
      refine ev_al eX12_play_31 rfl ?_
      refine ev_getR lk_f (ci := 12) (j := 7) (cd := 3) eX12_play_32 (isF (by decide +kernel)) rfl rfl ?_
      refine ev_il eX12_play_35 rfl ?_
      refine ev_ic eX12_play_36 (by decide) ?_
      obtain ⟨hb16, h⟩ := ev_gd h
      refine ev_iast hU eX12_play_37 rfl rfl hb16.1 hb16.2 ?_
      refine ev_inc (L' := [(1, .inl (ev_w (y1 + 1))), (0, .inr (.inl 12))]) eX12_play_38 (by decide) (by decide) rfl rfl ?_
      refine ev_goto (tgt := 24) eX12_play_41 (by decide) ?_
      refine ev_loc (L' := [(0, .inr (.inl 12)), (1, .inl (ev_w (y1 + 1)))]) rfl ?_
      exact m_12_play_L24 hU n h
set_option maxRecDepth 100000 in
theorem m_12_play (hU : ev_uq ty ev_TR) {C : ev_C} {r : Int} {C' : ev_C} (h : f_12_play C = some (r, C')) : ev_Met l D cys ty ck_tags ev_TR kh_12_play [.inr (.inl 12)] C (fun r0 C0 => r0 = some (.inl r) ∧ C0 = C') := by
  unfold f_12_play at h
  refine ev_enter (by decide +kernel) (by decide +kernel) (Nat.le_of_ble_eq_true rfl) ?_
  show ev_W l D cys ty ck_tags ev_TR kh_12_play 0 [(0, .inr (.inl 12))] [] C _
  refine ev_al eX12_play_0 rfl ?_
  refine ev_ic eX12_play_1 (by decide) ?_
  refine ev_putI lk_f hU (ci := 12) (j := 0) (cd := 0) eX12_play_2 (isF (by decide +kernel)) rfl rfl (Or.inl rfl) rfl ?_
  refine ev_al eX12_play_5 rfl ?_
  refine ev_sp eX12_play_6 (by decide) (by decide) ?_
  obtain ⟨C1, hq1, h⟩ := ev_bv_some h
  refine ev_callV (kc := kc_241) (A := [.inl 900]) (T := []) (lk_m.1 _ _ 0 [241] (isM (by decide +kernel)) 241 (by decide)) eX12_play_9 (m_12_taken hU hq1) rfl rfl rfl (by decide) (by decide) (Nat.le_of_ble_eq_true rfl) ?_
  rintro _ C1 ⟨rfl, rfl⟩
  show ev_W l D cys ty ck_tags ev_TR kh_12_play 12 [(0, .inr (.inl 12))] [] C1 _
  refine ev_al eX12_play_12 rfl ?_
  refine ev_ic eX12_play_13 (by decide) ?_
  refine ev_putI lk_f hU (ci := 12) (j := 15) (cd := 0) eX12_play_14 (isF (by decide +kernel)) rfl rfl (Or.inl rfl) rfl ?_
  refine ev_al eX12_play_17 rfl ?_
  refine ev_ic eX12_play_18 (by decide) ?_
  refine ev_putI lk_f hU (ci := 12) (j := 19) (cd := 0) eX12_play_19 (isF (by decide +kernel)) rfl rfl (Or.inl rfl) rfl ?_
  refine ev_ic eX12_play_22 (by decide) ?_
  refine ev_is (L' := [(1, .inl 0), (0, .inr (.inl 12))]) eX12_play_23 (by decide) rfl ?_
  refine ev_loc (L' := [(0, .inr (.inl 12)), (1, .inl 0)]) rfl ?_
  exact m_12_play_L24 hU 1000 h
end GX
