/-! THE EXACT LOGIC: count(), act(), scene() of both (printed by a program of ours). -/
section GX
variable {l : Launch} {D : va_G} {cys : Nat → ClassId} {ty : Nat → Option Nat}
theorem eX11_count_0 : decode cX11_count 0 = .ok (.iload_n 1, 1) := by decide +kernel
theorem eX11_count_1 : decode cX11_count 1 = .ok (.tableswitch 110 0 6 #[43, 51, 59, 67, 75, 83, 99], 43) := by decide +kernel
theorem eX11_count_44 : decode cX11_count 44 = .ok (.aload_n 0, 1) := by decide +kernel
theorem eX11_count_45 : decode cX11_count 45 = .ok (.getfield 26, 3) := by decide +kernel
theorem eX11_count_48 : decode cX11_count 48 = .ok (.getfield 392, 3) := by decide +kernel
theorem eX11_count_51 : decode cX11_count 51 = .ok (.ireturn, 1) := by decide +kernel
theorem eX11_count_52 : decode cX11_count 52 = .ok (.aload_n 0, 1) := by decide +kernel
theorem eX11_count_53 : decode cX11_count 53 = .ok (.getfield 26, 3) := by decide +kernel
theorem eX11_count_56 : decode cX11_count 56 = .ok (.getfield 395, 3) := by decide +kernel
theorem eX11_count_59 : decode cX11_count 59 = .ok (.ireturn, 1) := by decide +kernel
theorem eX11_count_60 : decode cX11_count 60 = .ok (.aload_n 0, 1) := by decide +kernel
theorem eX11_count_61 : decode cX11_count 61 = .ok (.getfield 26, 3) := by decide +kernel
theorem eX11_count_64 : decode cX11_count 64 = .ok (.getfield 346, 3) := by decide +kernel
theorem eX11_count_67 : decode cX11_count 67 = .ok (.ireturn, 1) := by decide +kernel
theorem eX11_count_68 : decode cX11_count 68 = .ok (.aload_n 0, 1) := by decide +kernel
theorem eX11_count_69 : decode cX11_count 69 = .ok (.getfield 26, 3) := by decide +kernel
theorem eX11_count_72 : decode cX11_count 72 = .ok (.getfield 198, 3) := by decide +kernel
theorem eX11_count_75 : decode cX11_count 75 = .ok (.ireturn, 1) := by decide +kernel
theorem eX11_count_76 : decode cX11_count 76 = .ok (.aload_n 0, 1) := by decide +kernel
theorem eX11_count_77 : decode cX11_count 77 = .ok (.getfield 26, 3) := by decide +kernel
theorem eX11_count_80 : decode cX11_count 80 = .ok (.getfield 210, 3) := by decide +kernel
theorem eX11_count_83 : decode cX11_count 83 = .ok (.ireturn, 1) := by decide +kernel
theorem eX11_count_84 : decode cX11_count 84 = .ok (.aload_n 0, 1) := by decide +kernel
theorem eX11_count_85 : decode cX11_count 85 = .ok (.getfield 26, 3) := by decide +kernel
theorem eX11_count_88 : decode cX11_count 88 = .ok (.getfield 398, 3) := by decide +kernel
theorem eX11_count_91 : decode cX11_count 91 = .ok (.ifCond .eq 7, 3) := by decide +kernel
theorem eX11_count_94 : decode cX11_count 94 = .ok (.iconst 1, 1) := by decide +kernel
theorem eX11_count_95 : decode cX11_count 95 = .ok (.goto 4, 3) := by decide +kernel
theorem eX11_count_98 : decode cX11_count 98 = .ok (.iconst 0, 1) := by decide +kernel
theorem eX11_count_99 : decode cX11_count 99 = .ok (.ireturn, 1) := by decide +kernel
theorem eX11_count_100 : decode cX11_count 100 = .ok (.aload_n 0, 1) := by decide +kernel
theorem eX11_count_101 : decode cX11_count 101 = .ok (.getfield 10, 3) := by decide +kernel
theorem eX11_count_104 : decode cX11_count 104 = .ok (.getfield 99, 3) := by decide +kernel
theorem eX11_count_107 : decode cX11_count 107 = .ok (.getfield 113, 3) := by decide +kernel
theorem eX11_count_110 : decode cX11_count 110 = .ok (.ireturn, 1) := by decide +kernel
theorem eX11_count_111 : decode cX11_count 111 = .ok (.iconst (-1), 1) := by decide +kernel
theorem eX11_count_112 : decode cX11_count 112 = .ok (.ireturn, 1) := by decide +kernel
set_option maxRecDepth 100000 in
theorem m_11_count (hU : ev_uq ty ev_TR) {C : ev_C} {x1 : Int} {r : Int} {C' : ev_C} (h : f_11_count C x1 = some (r, C')) : ev_Met l D cys ty ck_tags ev_TR kc_169 [.inr (.inl 11), .inl x1] C (fun r0 C0 => r0 = some (.inl r) ∧ C0 = C') := by
  unfold f_11_count at h
  refine ev_enter (by decide +kernel) (by decide +kernel) (Nat.le_of_ble_eq_true rfl) ?_
  show ev_W l D cys ty ck_tags ev_TR kc_169 0 [(0, .inr (.inl 11)), (1, .inl x1)] [] C _
  refine ev_il eX11_count_0 rfl ?_
  by_cases hc1 : x1 = 0
  · rw [if_pos hc1] at h
    refine ev_tin (j := 0) (tgt := 44) eX11_count_1 hc1 (by decide) rfl (by decide) ?_
    refine ev_al eX11_count_44 rfl ?_
    refine ev_getR lk_f (ci := 11) (j := 2) (cd := 3) eX11_count_45 (isF (by decide +kernel)) rfl rfl ?_
    refine ev_getI lk_f (ci := 6) (j := 0) (cd := 0) eX11_count_48 (isF (by decide +kernel)) rfl rfl rfl ?_
    cases h
    exact ev_iret eX11_count_51 rfl ⟨rfl, rfl⟩
  rw [if_neg hc1] at h
  by_cases hc2 : x1 = 1
  · rw [if_pos hc2] at h
    refine ev_tin (j := 1) (tgt := 52) eX11_count_1 hc2 (by decide) rfl (by decide) ?_
    refine ev_al eX11_count_52 rfl ?_
    refine ev_getR lk_f (ci := 11) (j := 2) (cd := 3) eX11_count_53 (isF (by decide +kernel)) rfl rfl ?_
    refine ev_getI lk_f (ci := 6) (j := 1) (cd := 0) eX11_count_56 (isF (by decide +kernel)) rfl rfl rfl ?_
    cases h
    exact ev_iret eX11_count_59 rfl ⟨rfl, rfl⟩
  rw [if_neg hc2] at h
  by_cases hc3 : x1 = 2
  · rw [if_pos hc3] at h
    refine ev_tin (j := 2) (tgt := 60) eX11_count_1 hc3 (by decide) rfl (by decide) ?_
    refine ev_al eX11_count_60 rfl ?_
    refine ev_getR lk_f (ci := 11) (j := 2) (cd := 3) eX11_count_61 (isF (by decide +kernel)) rfl rfl ?_
    refine ev_getI lk_f (ci := 6) (j := 2) (cd := 0) eX11_count_64 (isF (by decide +kernel)) rfl rfl rfl ?_
    cases h
    exact ev_iret eX11_count_67 rfl ⟨rfl, rfl⟩
  rw [if_neg hc3] at h
  by_cases hc4 : x1 = 3
  · rw [if_pos hc4] at h
    refine ev_tin (j := 3) (tgt := 68) eX11_count_1 hc4 (by decide) rfl (by decide) ?_
    refine ev_al eX11_count_68 rfl ?_
    refine ev_getR lk_f (ci := 11) (j := 2) (cd := 3) eX11_count_69 (isF (by decide +kernel)) rfl rfl ?_
    refine ev_getI lk_f (ci := 6) (j := 3) (cd := 0) eX11_count_72 (isF (by decide +kernel)) rfl rfl rfl ?_
    cases h
    exact ev_iret eX11_count_75 rfl ⟨rfl, rfl⟩
  rw [if_neg hc4] at h
  by_cases hc5 : x1 = 4
  · rw [if_pos hc5] at h
    refine ev_tin (j := 4) (tgt := 76) eX11_count_1 hc5 (by decide) rfl (by decide) ?_
    refine ev_al eX11_count_76 rfl ?_
    refine ev_getR lk_f (ci := 11) (j := 2) (cd := 3) eX11_count_77 (isF (by decide +kernel)) rfl rfl ?_
    refine ev_getI lk_f (ci := 6) (j := 4) (cd := 0) eX11_count_80 (isF (by decide +kernel)) rfl rfl rfl ?_
    cases h
    exact ev_iret eX11_count_83 rfl ⟨rfl, rfl⟩
  rw [if_neg hc5] at h
  by_cases hc6 : x1 = 5
  · rw [if_pos hc6] at h
    refine ev_tin (j := 5) (tgt := 84) eX11_count_1 hc6 (by decide) rfl (by decide) ?_
    refine ev_al eX11_count_84 rfl ?_
    refine ev_getR lk_f (ci := 11) (j := 2) (cd := 3) eX11_count_85 (isF (by decide +kernel)) rfl rfl ?_
    refine ev_getI lk_f (ci := 6) (j := 5) (cd := 1) eX11_count_88 (isF (by decide +kernel)) rfl rfl rfl ?_
    refine ev_z_eq (tgt := 98) eX11_count_91 (by decide) (fun hc7 => ?_) (fun hc7 => ?_)
    · rw [if_pos (show (C 6 5) = 0 from hc7)] at h
      refine ev_ic eX11_count_98 (by decide) ?_
      cases h
      exact ev_iret eX11_count_99 rfl ⟨rfl, rfl⟩
    · rw [if_neg (show ¬ ((C 6 5) = 0) from hc7)] at h
      refine ev_ic eX11_count_94 (by decide) ?_
      refine ev_goto (tgt := 99) eX11_count_95 (by decide) ?_
      cases h
      exact ev_iret eX11_count_99 rfl ⟨rfl, rfl⟩
  rw [if_neg hc6] at h
  by_cases hc8 : x1 = 6
  · rw [if_pos hc8] at h
    refine ev_tin (j := 6) (tgt := 100) eX11_count_1 hc8 (by decide) rfl (by decide) ?_
    refine ev_al eX11_count_100 rfl ?_
    refine ev_getR lk_f (ci := 11) (j := 0) (cd := 3) eX11_count_101 (isF (by decide +kernel)) rfl rfl ?_
    refine ev_getR lk_f (ci := 8) (j := 1) (cd := 3) eX11_count_104 (isF (by decide +kernel)) rfl rfl ?_
    refine ev_getI lk_f (ci := 10) (j := 1) (cd := 0) eX11_count_107 (isF (by decide +kernel)) rfl rfl rfl ?_
    cases h
    exact ev_iret eX11_count_110 rfl ⟨rfl, rfl⟩
  rw [if_neg hc8] at h
  refine ev_tout (tgt := 111) eX11_count_1 (by omega) (by decide) ?_
  refine ev_ic eX11_count_111 (by decide) ?_
  cases h
  exact ev_iret eX11_count_112 rfl ⟨rfl, rfl⟩
theorem eX12_count_0 : decode cX12_count 0 = .ok (.aload_n 0, 1) := by decide +kernel
theorem eX12_count_1 : decode cX12_count 1 = .ok (.iconst 0, 1) := by decide +kernel
theorem eX12_count_2 : decode cX12_count 2 = .ok (.putfield 1, 3) := by decide +kernel
theorem eX12_count_5 : decode cX12_count 5 = .ok (.iload_n 1, 1) := by decide +kernel
theorem eX12_count_6 : decode cX12_count 6 = .ok (.bipush 6, 2) := by decide +kernel
theorem eX12_count_8 : decode cX12_count 8 = .ok (.if_icmp .ne 10, 3) := by decide +kernel
theorem eX12_count_11 : decode cX12_count 11 = .ok (.aload_n 0, 1) := by decide +kernel
theorem eX12_count_12 : decode cX12_count 12 = .ok (.getfield 7, 3) := by decide +kernel
theorem eX12_count_15 : decode cX12_count 15 = .ok (.goto 22, 3) := by decide +kernel
theorem eX12_count_18 : decode cX12_count 18 = .ok (.iload_n 1, 1) := by decide +kernel
theorem eX12_count_19 : decode cX12_count 19 = .ok (.iconst 0, 1) := by decide +kernel
theorem eX12_count_20 : decode cX12_count 20 = .ok (.iconst 5, 1) := by decide +kernel
theorem eX12_count_21 : decode cX12_count 21 = .ok (.invokestatic 198, 3) := by decide +kernel
theorem eX12_count_24 : decode cX12_count 24 = .ok (.ifCond .eq 12, 3) := by decide +kernel
theorem eX12_count_27 : decode cX12_count 27 = .ok (.aload_n 0, 1) := by decide +kernel
theorem eX12_count_28 : decode cX12_count 28 = .ok (.getfield 33, 3) := by decide +kernel
theorem eX12_count_31 : decode cX12_count 31 = .ok (.iload_n 1, 1) := by decide +kernel
theorem eX12_count_32 : decode cX12_count 32 = .ok (.iaload, 1) := by decide +kernel
theorem eX12_count_33 : decode cX12_count 33 = .ok (.goto 4, 3) := by decide +kernel
theorem eX12_count_36 : decode cX12_count 36 = .ok (.iconst (-1), 1) := by decide +kernel
theorem eX12_count_37 : decode cX12_count 37 = .ok (.ireturn, 1) := by decide +kernel
set_option maxRecDepth 100000 in
theorem m_12_count (hU : ev_uq ty ev_TR) {C : ev_C} {x1 : Int} {r : Int} {C' : ev_C} (h : f_12_count C x1 = some (r, C')) : ev_Met l D cys ty ck_tags ev_TR kc_245 [.inr (.inl 12), .inl x1] C (fun r0 C0 => r0 = some (.inl r) ∧ C0 = C') := by
  unfold f_12_count at h
  refine ev_enter (by decide +kernel) (by decide +kernel) (Nat.le_of_ble_eq_true rfl) ?_
  show ev_W l D cys ty ck_tags ev_TR kc_245 0 [(0, .inr (.inl 12)), (1, .inl x1)] [] C _
  refine ev_al eX12_count_0 rfl ?_
  refine ev_ic eX12_count_1 (by decide) ?_
  refine ev_putI lk_f hU (ci := 12) (j := 0) (cd := 0) eX12_count_2 (isF (by decide +kernel)) rfl rfl (Or.inl rfl) rfl ?_
  refine ev_il eX12_count_5 rfl ?_
  refine ev_bp eX12_count_6 (by decide) (by decide) ?_
  refine ev_c_ne (tgt := 18) eX12_count_8 (by decide) (fun hc1 => ?_) (fun hc1 => ?_)
  · rw [if_pos (show x1 ≠ 6 from hc1)] at h
    refine ev_il eX12_count_18 rfl ?_
    refine ev_ic eX12_count_19 (by decide) ?_
    refine ev_ic eX12_count_20 (by decide) ?_
    obtain ⟨r2, C2, hq2, h⟩ := ev_bd_some h
    refine ev_callS (kc := kc_190) (A := [.inl x1, .inl 0, .inl 5]) (T := []) (lk_m.1 _ _ 1 [190, 191, 192, 193, 194, 195, 196, 197, 198, 199] (isM (by decide +kernel)) 190 (by decide)) eX12_count_21 (m_12_isIn hU hq2) rfl rfl (by decide) (by decide) (Nat.le_of_ble_eq_true rfl) ?_
    rintro _ C2 ⟨rfl, rfl⟩
    show ev_W l D cys ty ck_tags ev_TR kc_245 24 [(0, .inr (.inl 12)), (1, .inl x1)] [.inl r2] C2 _
    refine ev_z_eq (tgt := 36) eX12_count_24 (by decide) (fun hc3 => ?_) (fun hc3 => ?_)
    · rw [if_pos (show r2 = 0 from hc3)] at h
      refine ev_ic eX12_count_36 (by decide) ?_
      cases h
      exact ev_iret eX12_count_37 rfl ⟨rfl, rfl⟩
    · rw [if_neg (show ¬ (r2 = 0) from hc3)] at h
      refine ev_al eX12_count_27 rfl ?_
      refine ev_getR lk_f (ci := 12) (j := 6) (cd := 3) eX12_count_28 (isF (by decide +kernel)) rfl rfl ?_
      refine ev_il eX12_count_31 rfl ?_
      obtain ⟨hb4, h⟩ := ev_gd h
      refine ev_iald eX12_count_32 rfl rfl hb4.1 hb4.2 ?_
      refine ev_goto (tgt := 37) eX12_count_33 (by decide) ?_
      cases h
      exact ev_iret eX12_count_37 rfl ⟨rfl, rfl⟩
  · rw [if_neg (show ¬ (x1 ≠ 6) from hc1)] at h
    refine ev_al eX12_count_11 rfl ?_
    refine ev_getI lk_f (ci := 12) (j := 2) (cd := 0) eX12_count_12 (isF (by decide +kernel)) rfl rfl rfl ?_
    refine ev_goto (tgt := 37) eX12_count_15 (by decide) ?_
    cases h
    exact ev_iret eX12_count_37 rfl ⟨rfl, rfl⟩
theorem eX6_scenesOf_0 : decode cX6_scenesOf 0 = .ok (.iconst 0, 1) := by decide +kernel
theorem eX6_scenesOf_1 : decode cX6_scenesOf 1 = .ok (.istore_n 2, 1) := by decide +kernel
theorem eX6_scenesOf_2 : decode cX6_scenesOf 2 = .ok (.iconst 0, 1) := by decide +kernel
theorem eX6_scenesOf_3 : decode cX6_scenesOf 3 = .ok (.istore_n 3, 1) := by decide +kernel
theorem eX6_scenesOf_4 : decode cX6_scenesOf 4 = .ok (.iload_n 3, 1) := by decide +kernel
theorem eX6_scenesOf_5 : decode cX6_scenesOf 5 = .ok (.aload_n 0, 1) := by decide +kernel
theorem eX6_scenesOf_6 : decode cX6_scenesOf 6 = .ok (.getfield 24, 3) := by decide +kernel
theorem eX6_scenesOf_9 : decode cX6_scenesOf 9 = .ok (.if_icmp .ge 22, 3) := by decide +kernel
theorem eX6_scenesOf_12 : decode cX6_scenesOf 12 = .ok (.aload_n 0, 1) := by decide +kernel
theorem eX6_scenesOf_13 : decode cX6_scenesOf 13 = .ok (.getfield 66, 3) := by decide +kernel
theorem eX6_scenesOf_16 : decode cX6_scenesOf 16 = .ok (.iload_n 3, 1) := by decide +kernel
theorem eX6_scenesOf_17 : decode cX6_scenesOf 17 = .ok (.iaload, 1) := by decide +kernel
theorem eX6_scenesOf_18 : decode cX6_scenesOf 18 = .ok (.iload_n 1, 1) := by decide +kernel
theorem eX6_scenesOf_19 : decode cX6_scenesOf 19 = .ok (.if_icmp .ne 6, 3) := by decide +kernel
theorem eX6_scenesOf_22 : decode cX6_scenesOf 22 = .ok (.iinc 2 1, 3) := by decide +kernel
theorem eX6_scenesOf_25 : decode cX6_scenesOf 25 = .ok (.iinc 3 1, 3) := by decide +kernel
theorem eX6_scenesOf_28 : decode cX6_scenesOf 28 = .ok (.goto (-24), 3) := by decide +kernel
theorem eX6_scenesOf_31 : decode cX6_scenesOf 31 = .ok (.iload_n 2, 1) := by decide +kernel
theorem eX6_scenesOf_32 : decode cX6_scenesOf 32 = .ok (.ireturn, 1) := by decide +kernel
set_option maxRecDepth 100000 in
theorem m_6_scenesOf_J25 (hU : ev_uq ty ev_TR) {r : Int} {C' : ev_C} {K4 : ev_C → Int → Int → Int → Option (Int × ev_C)} (hK4 : ∀ {C : ev_C} {y1 y2 y3 : Int}, K4 C y1 y2 y3 = some (r, C') → ev_W l D cys ty ck_tags ev_TR kc_98 4 [(0, .inr (.inl 6)), (1, .inl y1), (2, .inl y2), (3, .inl y3)] [] C (fun r0 C0 => r0 = some (.inl r) ∧ C0 = C')) {C : ev_C} {y1 y2 y3 : Int} (h : f_6_scenesOf_J25 K4 C y1 y2 y3 = some (r, C')) : ev_W l D cys ty ck_tags ev_TR kc_98 25 [(0, .inr (.inl 6)), (1, .inl y1), (2, .inl y2), (3, .inl y3)] [] C (fun r0 C0 => r0 = some (.inl r) ∧ C0 = C') := by
  unfold f_6_scenesOf_J25 at h
  refine ev_inc (L' := [(3, .inl (ev_w (y3 + 1))), (0, .inr (.inl 6)), (1, .inl y1), (2, .inl y2)]) eX6_scenesOf_25 (by decide) (by decide) rfl rfl ?_
  refine ev_goto (tgt := 4) eX6_scenesOf_28 (by decide) ?_
  refine ev_loc (L' := [(0, .inr (.inl 6)), (1, .inl y1), (2, .inl y2), (3, .inl (ev_w (y3 + 1)))]) rfl ?_
  exact hK4 h
set_option maxRecDepth 100000 in
theorem m_6_scenesOf_L4 (hU : ev_uq ty ev_TR) : ∀ (n : Nat) {C : ev_C} {y1 y2 y3 : Int} {r : Int} {C' : ev_C}, f_6_scenesOf_L4 n C y1 y2 y3 = some (r, C') → ev_W l D cys ty ck_tags ev_TR kc_98 4 [(0, .inr (.inl 6)), (1, .inl y1), (2, .inl y2), (3, .inl y3)] [] C (fun r0 C0 => r0 = some (.inl r) ∧ C0 = C')
  | 0, _, _, _, _, _, _, h => by cases h
  | n + 1, C, y1, y2, y3, _, _, h => by
    unfold f_6_scenesOf_L4 at h
    refine ev_il eX6_scenesOf_4 rfl ?_
    refine ev_al eX6_scenesOf_5 rfl ?_
    refine ev_getI lk_f (ci := 6) (j := 4) (cd := 0) eX6_scenesOf_6 (isF (by decide +kernel)) rfl rfl rfl ?_
    refine ev_c_ge (tgt := 31) eX6_scenesOf_9 (by decide) (fun hc1 => ?_) (fun hc1 => ?_)
    · rw [if_pos (show (C 6 4) ≤ y3 from hc1)] at h
      refine ev_il eX6_scenesOf_31 rfl ?_
      cases h
      exact ev_iret eX6_scenesOf_32 rfl ⟨rfl, rfl⟩
    · rw [if_neg (show ¬ ((C 6 4) ≤ y3) from hc1)] at h
      refine ev_al eX6_scenesOf_12 rfl ?_
      refine ev_getR lk_f (ci := 6) (j := 17) (cd := 3) eX6_scenesOf_13 (isF (by decide +kernel)) rfl rfl ?_
      refine ev_il eX6_scenesOf_16 rfl ?_
      obtain ⟨hb2, h⟩ := ev_gd h
      refine ev_iald eX6_scenesOf_17 rfl rfl hb2.1 hb2.2 ?_
      refine ev_il eX6_scenesOf_18 rfl ?_
      refine ev_c_ne (tgt := 25) eX6_scenesOf_19 (by decide) (fun hc3 => ?_) (fun hc3 => ?_)
      · rw [if_pos (show (C 78 (Int.toNat y3)) ≠ y1 from hc3)] at h
        refine ev_loc (L' := [(0, .inr (.inl 6)), (1, .inl y1), (2, .inl y2), (3, .inl y3)]) rfl ?_
        exact m_6_scenesOf_J25 hU (fun h => m_6_scenesOf_L4 hU n h) h
      · rw [if_neg (show ¬ ((C 78 (Int.toNat y3)) ≠ y1) from hc3)] at h
        refine ev_inc (L' := [(2, .inl (ev_w (y2 + 1))), (0, .inr (.inl 6)), (1, .inl y1), (3, .inl y3)]) eX6_scenesOf_22 (by decide) (by decide) rfl rfl ?_
        refine ev_loc (L' := [(0, .inr (.inl 6)), (1, .inl y1), (2, .inl (ev_w (y2 + 1))), (3, .inl y3)]) rfl ?_
        exact m_6_scenesOf_J25 hU (fun h => m_6_scenesOf_L4 hU n h) h
set_option maxRecDepth 100000 in
theorem m_6_scenesOf (hU : ev_uq ty ev_TR) {C : ev_C} {x1 : Int} {r : Int} {C' : ev_C} (h : f_6_scenesOf C x1 = some (r, C')) : ev_Met l D cys ty ck_tags ev_TR kc_98 [.inr (.inl 6), .inl x1] C (fun r0 C0 => r0 = some (.inl r) ∧ C0 = C') := by
  unfold f_6_scenesOf at h
  refine ev_enter (by decide +kernel) (by decide +kernel) (Nat.le_of_ble_eq_true rfl) ?_
  show ev_W l D cys ty ck_tags ev_TR kc_98 0 [(0, .inr (.inl 6)), (1, .inl x1)] [] C _
  refine ev_ic eX6_scenesOf_0 (by decide) ?_
  refine ev_is (L' := [(2, .inl 0), (0, .inr (.inl 6)), (1, .inl x1)]) eX6_scenesOf_1 (by decide) rfl ?_
  refine ev_ic eX6_scenesOf_2 (by decide) ?_
  refine ev_is (L' := [(3, .inl 0), (2, .inl 0), (0, .inr (.inl 6)), (1, .inl x1)]) eX6_scenesOf_3 (by decide) rfl ?_
  refine ev_loc (L' := [(0, .inr (.inl 6)), (1, .inl x1), (2, .inl 0), (3, .inl 0)]) rfl ?_
  exact m_6_scenesOf_L4 hU 1000 h
theorem eX6_partsOf_0 : decode cX6_partsOf 0 = .ok (.iconst 0, 1) := by decide +kernel
theorem eX6_partsOf_1 : decode cX6_partsOf 1 = .ok (.istore_n 2, 1) := by decide +kernel
theorem eX6_partsOf_2 : decode cX6_partsOf 2 = .ok (.iconst 0, 1) := by decide +kernel
theorem eX6_partsOf_3 : decode cX6_partsOf 3 = .ok (.istore_n 3, 1) := by decide +kernel
theorem eX6_partsOf_4 : decode cX6_partsOf 4 = .ok (.iload_n 3, 1) := by decide +kernel
theorem eX6_partsOf_5 : decode cX6_partsOf 5 = .ok (.aload_n 0, 1) := by decide +kernel
theorem eX6_partsOf_6 : decode cX6_partsOf 6 = .ok (.getfield 24, 3) := by decide +kernel
theorem eX6_partsOf_9 : decode cX6_partsOf 9 = .ok (.if_icmp .ge 28, 3) := by decide +kernel
theorem eX6_partsOf_12 : decode cX6_partsOf 12 = .ok (.aload_n 0, 1) := by decide +kernel
theorem eX6_partsOf_13 : decode cX6_partsOf 13 = .ok (.getfield 66, 3) := by decide +kernel
theorem eX6_partsOf_16 : decode cX6_partsOf 16 = .ok (.iload_n 3, 1) := by decide +kernel
theorem eX6_partsOf_17 : decode cX6_partsOf 17 = .ok (.iaload, 1) := by decide +kernel
theorem eX6_partsOf_18 : decode cX6_partsOf 18 = .ok (.iload_n 1, 1) := by decide +kernel
theorem eX6_partsOf_19 : decode cX6_partsOf 19 = .ok (.if_icmp .ne 12, 3) := by decide +kernel
theorem eX6_partsOf_22 : decode cX6_partsOf 22 = .ok (.iload_n 2, 1) := by decide +kernel
theorem eX6_partsOf_23 : decode cX6_partsOf 23 = .ok (.aload_n 0, 1) := by decide +kernel
theorem eX6_partsOf_24 : decode cX6_partsOf 24 = .ok (.getfield 69, 3) := by decide +kernel
theorem eX6_partsOf_27 : decode cX6_partsOf 27 = .ok (.iload_n 3, 1) := by decide +kernel
theorem eX6_partsOf_28 : decode cX6_partsOf 28 = .ok (.iaload, 1) := by decide +kernel
theorem eX6_partsOf_29 : decode cX6_partsOf 29 = .ok (.ior, 1) := by decide +kernel
theorem eX6_partsOf_30 : decode cX6_partsOf 30 = .ok (.istore_n 2, 1) := by decide +kernel
theorem eX6_partsOf_31 : decode cX6_partsOf 31 = .ok (.iinc 3 1, 3) := by decide +kernel
theorem eX6_partsOf_34 : decode cX6_partsOf 34 = .ok (.goto (-30), 3) := by decide +kernel
theorem eX6_partsOf_37 : decode cX6_partsOf 37 = .ok (.iload_n 2, 1) := by decide +kernel
theorem eX6_partsOf_38 : decode cX6_partsOf 38 = .ok (.ireturn, 1) := by decide +kernel
set_option maxRecDepth 100000 in
theorem m_6_partsOf_J31 (hU : ev_uq ty ev_TR) {r : Int} {C' : ev_C} {K4 : ev_C → Int → Int → Int → Option (Int × ev_C)} (hK4 : ∀ {C : ev_C} {y1 y2 y3 : Int}, K4 C y1 y2 y3 = some (r, C') → ev_W l D cys ty ck_tags ev_TR kc_16 4 [(0, .inr (.inl 6)), (1, .inl y1), (2, .inl y2), (3, .inl y3)] [] C (fun r0 C0 => r0 = some (.inl r) ∧ C0 = C')) {C : ev_C} {y1 y2 y3 : Int} (h : f_6_partsOf_J31 K4 C y1 y2 y3 = some (r, C')) : ev_W l D cys ty ck_tags ev_TR kc_16 31 [(0, .inr (.inl 6)), (1, .inl y1), (2, .inl y2), (3, .inl y3)] [] C (fun r0 C0 => r0 = some (.inl r) ∧ C0 = C') := by
  unfold f_6_partsOf_J31 at h
  refine ev_inc (L' := [(3, .inl (ev_w (y3 + 1))), (0, .inr (.inl 6)), (1, .inl y1), (2, .inl y2)]) eX6_partsOf_31 (by decide) (by decide) rfl rfl ?_
  refine ev_goto (tgt := 4) eX6_partsOf_34 (by decide) ?_
  refine ev_loc (L' := [(0, .inr (.inl 6)), (1, .inl y1), (2, .inl y2), (3, .inl (ev_w (y3 + 1)))]) rfl ?_
  exact hK4 h
set_option maxRecDepth 100000 in
theorem m_6_partsOf_L4 (hU : ev_uq ty ev_TR) : ∀ (n : Nat) {C : ev_C} {y1 y2 y3 : Int} {r : Int} {C' : ev_C}, f_6_partsOf_L4 n C y1 y2 y3 = some (r, C') → ev_W l D cys ty ck_tags ev_TR kc_16 4 [(0, .inr (.inl 6)), (1, .inl y1), (2, .inl y2), (3, .inl y3)] [] C (fun r0 C0 => r0 = some (.inl r) ∧ C0 = C')
  | 0, _, _, _, _, _, _, h => by cases h
  | n + 1, C, y1, y2, y3, _, _, h => by
    unfold f_6_partsOf_L4 at h
    refine ev_il eX6_partsOf_4 rfl ?_
    refine ev_al eX6_partsOf_5 rfl ?_
    refine ev_getI lk_f (ci := 6) (j := 4) (cd := 0) eX6_partsOf_6 (isF (by decide +kernel)) rfl rfl rfl ?_
    refine ev_c_ge (tgt := 37) eX6_partsOf_9 (by decide) (fun hc1 => ?_) (fun hc1 => ?_)
    · rw [if_pos (show (C 6 4) ≤ y3 from hc1)] at h
      refine ev_il eX6_partsOf_37 rfl ?_
      cases h
      exact ev_iret eX6_partsOf_38 rfl ⟨rfl, rfl⟩
    · rw [if_neg (show ¬ ((C 6 4) ≤ y3) from hc1)] at h
      refine ev_al eX6_partsOf_12 rfl ?_
      refine ev_getR lk_f (ci := 6) (j := 17) (cd := 3) eX6_partsOf_13 (isF (by decide +kernel)) rfl rfl ?_
      refine ev_il eX6_partsOf_16 rfl ?_
      obtain ⟨hb2, h⟩ := ev_gd h
      refine ev_iald eX6_partsOf_17 rfl rfl hb2.1 hb2.2 ?_
      refine ev_il eX6_partsOf_18 rfl ?_
      refine ev_c_ne (tgt := 31) eX6_partsOf_19 (by decide) (fun hc3 => ?_) (fun hc3 => ?_)
      · rw [if_pos (show (C 78 (Int.toNat y3)) ≠ y1 from hc3)] at h
        refine ev_loc (L' := [(0, .inr (.inl 6)), (1, .inl y1), (2, .inl y2), (3, .inl y3)]) rfl ?_
        exact m_6_partsOf_J31 hU (fun h => m_6_partsOf_L4 hU n h) h
      · rw [if_neg (show ¬ ((C 78 (Int.toNat y3)) ≠ y1) from hc3)] at h
        refine ev_il eX6_partsOf_22 rfl ?_
        refine ev_al eX6_partsOf_23 rfl ?_
        refine ev_getR lk_f (ci := 6) (j := 18) (cd := 3) eX6_partsOf_24 (isF (by decide +kernel)) rfl rfl ?_
        refine ev_il eX6_partsOf_27 rfl ?_
        obtain ⟨hb4, h⟩ := ev_gd h
        refine ev_iald eX6_partsOf_28 rfl rfl hb4.1 hb4.2 ?_
        refine ev_ior eX6_partsOf_29 ?_
        refine ev_is (L' := [(2, .inl (ev_or y2 ((C 79 (Int.toNat y3))))), (0, .inr (.inl 6)), (1, .inl y1), (3, .inl y3)]) eX6_partsOf_30 (by decide) rfl ?_
        refine ev_loc (L' := [(0, .inr (.inl 6)), (1, .inl y1), (2, .inl (ev_or y2 ((C 79 (Int.toNat y3))))), (3, .inl y3)]) rfl ?_
        exact m_6_partsOf_J31 hU (fun h => m_6_partsOf_L4 hU n h) h
set_option maxRecDepth 100000 in
theorem m_6_partsOf (hU : ev_uq ty ev_TR) {C : ev_C} {x1 : Int} {r : Int} {C' : ev_C} (h : f_6_partsOf C x1 = some (r, C')) : ev_Met l D cys ty ck_tags ev_TR kc_16 [.inr (.inl 6), .inl x1] C (fun r0 C0 => r0 = some (.inl r) ∧ C0 = C') := by
  unfold f_6_partsOf at h
  refine ev_enter (by decide +kernel) (by decide +kernel) (Nat.le_of_ble_eq_true rfl) ?_
  show ev_W l D cys ty ck_tags ev_TR kc_16 0 [(0, .inr (.inl 6)), (1, .inl x1)] [] C _
  refine ev_ic eX6_partsOf_0 (by decide) ?_
  refine ev_is (L' := [(2, .inl 0), (0, .inr (.inl 6)), (1, .inl x1)]) eX6_partsOf_1 (by decide) rfl ?_
  refine ev_ic eX6_partsOf_2 (by decide) ?_
  refine ev_is (L' := [(3, .inl 0), (2, .inl 0), (0, .inr (.inl 6)), (1, .inl x1)]) eX6_partsOf_3 (by decide) rfl ?_
  refine ev_loc (L' := [(0, .inr (.inl 6)), (1, .inl x1), (2, .inl 0), (3, .inl 0)]) rfl ?_
  exact m_6_partsOf_L4 hU 1000 h
theorem eX6_factsOf_0 : decode cX6_factsOf 0 = .ok (.iconst 0, 1) := by decide +kernel
theorem eX6_factsOf_1 : decode cX6_factsOf 1 = .ok (.istore_n 2, 1) := by decide +kernel
theorem eX6_factsOf_2 : decode cX6_factsOf 2 = .ok (.iconst 0, 1) := by decide +kernel
theorem eX6_factsOf_3 : decode cX6_factsOf 3 = .ok (.istore_n 3, 1) := by decide +kernel
theorem eX6_factsOf_4 : decode cX6_factsOf 4 = .ok (.iload_n 3, 1) := by decide +kernel
theorem eX6_factsOf_5 : decode cX6_factsOf 5 = .ok (.aload_n 0, 1) := by decide +kernel
theorem eX6_factsOf_6 : decode cX6_factsOf 6 = .ok (.getfield 24, 3) := by decide +kernel
theorem eX6_factsOf_9 : decode cX6_factsOf 9 = .ok (.if_icmp .ge 28, 3) := by decide +kernel
theorem eX6_factsOf_12 : decode cX6_factsOf 12 = .ok (.aload_n 0, 1) := by decide +kernel
theorem eX6_factsOf_13 : decode cX6_factsOf 13 = .ok (.getfield 66, 3) := by decide +kernel
theorem eX6_factsOf_16 : decode cX6_factsOf 16 = .ok (.iload_n 3, 1) := by decide +kernel
theorem eX6_factsOf_17 : decode cX6_factsOf 17 = .ok (.iaload, 1) := by decide +kernel
theorem eX6_factsOf_18 : decode cX6_factsOf 18 = .ok (.iload_n 1, 1) := by decide +kernel
theorem eX6_factsOf_19 : decode cX6_factsOf 19 = .ok (.if_icmp .ne 12, 3) := by decide +kernel
theorem eX6_factsOf_22 : decode cX6_factsOf 22 = .ok (.iload_n 2, 1) := by decide +kernel
theorem eX6_factsOf_23 : decode cX6_factsOf 23 = .ok (.aload_n 0, 1) := by decide +kernel
theorem eX6_factsOf_24 : decode cX6_factsOf 24 = .ok (.getfield 72, 3) := by decide +kernel
theorem eX6_factsOf_27 : decode cX6_factsOf 27 = .ok (.iload_n 3, 1) := by decide +kernel
theorem eX6_factsOf_28 : decode cX6_factsOf 28 = .ok (.iaload, 1) := by decide +kernel
theorem eX6_factsOf_29 : decode cX6_factsOf 29 = .ok (.ior, 1) := by decide +kernel
theorem eX6_factsOf_30 : decode cX6_factsOf 30 = .ok (.istore_n 2, 1) := by decide +kernel
theorem eX6_factsOf_31 : decode cX6_factsOf 31 = .ok (.iinc 3 1, 3) := by decide +kernel
theorem eX6_factsOf_34 : decode cX6_factsOf 34 = .ok (.goto (-30), 3) := by decide +kernel
theorem eX6_factsOf_37 : decode cX6_factsOf 37 = .ok (.iload_n 2, 1) := by decide +kernel
theorem eX6_factsOf_38 : decode cX6_factsOf 38 = .ok (.ireturn, 1) := by decide +kernel
set_option maxRecDepth 100000 in
theorem m_6_factsOf_J31 (hU : ev_uq ty ev_TR) {r : Int} {C' : ev_C} {K4 : ev_C → Int → Int → Int → Option (Int × ev_C)} (hK4 : ∀ {C : ev_C} {y1 y2 y3 : Int}, K4 C y1 y2 y3 = some (r, C') → ev_W l D cys ty ck_tags ev_TR kc_93 4 [(0, .inr (.inl 6)), (1, .inl y1), (2, .inl y2), (3, .inl y3)] [] C (fun r0 C0 => r0 = some (.inl r) ∧ C0 = C')) {C : ev_C} {y1 y2 y3 : Int} (h : f_6_factsOf_J31 K4 C y1 y2 y3 = some (r, C')) : ev_W l D cys ty ck_tags ev_TR kc_93 31 [(0, .inr (.inl 6)), (1, .inl y1), (2, .inl y2), (3, .inl y3)] [] C (fun r0 C0 => r0 = some (.inl r) ∧ C0 = C') := by
  unfold f_6_factsOf_J31 at h
  refine ev_inc (L' := [(3, .inl (ev_w (y3 + 1))), (0, .inr (.inl 6)), (1, .inl y1), (2, .inl y2)]) eX6_factsOf_31 (by decide) (by decide) rfl rfl ?_
  refine ev_goto (tgt := 4) eX6_factsOf_34 (by decide) ?_
  refine ev_loc (L' := [(0, .inr (.inl 6)), (1, .inl y1), (2, .inl y2), (3, .inl (ev_w (y3 + 1)))]) rfl ?_
  exact hK4 h
set_option maxRecDepth 100000 in
theorem m_6_factsOf_L4 (hU : ev_uq ty ev_TR) : ∀ (n : Nat) {C : ev_C} {y1 y2 y3 : Int} {r : Int} {C' : ev_C}, f_6_factsOf_L4 n C y1 y2 y3 = some (r, C') → ev_W l D cys ty ck_tags ev_TR kc_93 4 [(0, .inr (.inl 6)), (1, .inl y1), (2, .inl y2), (3, .inl y3)] [] C (fun r0 C0 => r0 = some (.inl r) ∧ C0 = C')
  | 0, _, _, _, _, _, _, h => by cases h
  | n + 1, C, y1, y2, y3, _, _, h => by
    unfold f_6_factsOf_L4 at h
    refine ev_il eX6_factsOf_4 rfl ?_
    refine ev_al eX6_factsOf_5 rfl ?_
    refine ev_getI lk_f (ci := 6) (j := 4) (cd := 0) eX6_factsOf_6 (isF (by decide +kernel)) rfl rfl rfl ?_
    refine ev_c_ge (tgt := 37) eX6_factsOf_9 (by decide) (fun hc1 => ?_) (fun hc1 => ?_)
    · rw [if_pos (show (C 6 4) ≤ y3 from hc1)] at h
      refine ev_il eX6_factsOf_37 rfl ?_
      cases h
      exact ev_iret eX6_factsOf_38 rfl ⟨rfl, rfl⟩
    · rw [if_neg (show ¬ ((C 6 4) ≤ y3) from hc1)] at h
      refine ev_al eX6_factsOf_12 rfl ?_
      refine ev_getR lk_f (ci := 6) (j := 17) (cd := 3) eX6_factsOf_13 (isF (by decide +kernel)) rfl rfl ?_
      refine ev_il eX6_factsOf_16 rfl ?_
      obtain ⟨hb2, h⟩ := ev_gd h
      refine ev_iald eX6_factsOf_17 rfl rfl hb2.1 hb2.2 ?_
      refine ev_il eX6_factsOf_18 rfl ?_
      refine ev_c_ne (tgt := 31) eX6_factsOf_19 (by decide) (fun hc3 => ?_) (fun hc3 => ?_)
      · rw [if_pos (show (C 78 (Int.toNat y3)) ≠ y1 from hc3)] at h
        refine ev_loc (L' := [(0, .inr (.inl 6)), (1, .inl y1), (2, .inl y2), (3, .inl y3)]) rfl ?_
        exact m_6_factsOf_J31 hU (fun h => m_6_factsOf_L4 hU n h) h
      · rw [if_neg (show ¬ ((C 78 (Int.toNat y3)) ≠ y1) from hc3)] at h
        refine ev_il eX6_factsOf_22 rfl ?_
        refine ev_al eX6_factsOf_23 rfl ?_
        refine ev_getR lk_f (ci := 6) (j := 19) (cd := 3) eX6_factsOf_24 (isF (by decide +kernel)) rfl rfl ?_
        refine ev_il eX6_factsOf_27 rfl ?_
        obtain ⟨hb4, h⟩ := ev_gd h
        refine ev_iald eX6_factsOf_28 rfl rfl hb4.1 hb4.2 ?_
        refine ev_ior eX6_factsOf_29 ?_
        refine ev_is (L' := [(2, .inl (ev_or y2 ((C 80 (Int.toNat y3))))), (0, .inr (.inl 6)), (1, .inl y1), (3, .inl y3)]) eX6_factsOf_30 (by decide) rfl ?_
        refine ev_loc (L' := [(0, .inr (.inl 6)), (1, .inl y1), (2, .inl (ev_or y2 ((C 80 (Int.toNat y3))))), (3, .inl y3)]) rfl ?_
        exact m_6_factsOf_J31 hU (fun h => m_6_factsOf_L4 hU n h) h
set_option maxRecDepth 100000 in
theorem m_6_factsOf (hU : ev_uq ty ev_TR) {C : ev_C} {x1 : Int} {r : Int} {C' : ev_C} (h : f_6_factsOf C x1 = some (r, C')) : ev_Met l D cys ty ck_tags ev_TR kc_93 [.inr (.inl 6), .inl x1] C (fun r0 C0 => r0 = some (.inl r) ∧ C0 = C') := by
  unfold f_6_factsOf at h
  refine ev_enter (by decide +kernel) (by decide +kernel) (Nat.le_of_ble_eq_true rfl) ?_
  show ev_W l D cys ty ck_tags ev_TR kc_93 0 [(0, .inr (.inl 6)), (1, .inl x1)] [] C _
  refine ev_ic eX6_factsOf_0 (by decide) ?_
  refine ev_is (L' := [(2, .inl 0), (0, .inr (.inl 6)), (1, .inl x1)]) eX6_factsOf_1 (by decide) rfl ?_
  refine ev_ic eX6_factsOf_2 (by decide) ?_
  refine ev_is (L' := [(3, .inl 0), (2, .inl 0), (0, .inr (.inl 6)), (1, .inl x1)]) eX6_factsOf_3 (by decide) rfl ?_
  refine ev_loc (L' := [(0, .inr (.inl 6)), (1, .inl x1), (2, .inl 0), (3, .inl 0)]) rfl ?_
  exact m_6_factsOf_L4 hU 1000 h
theorem eX11_act_0 : decode cX11_act 0 = .ok (.iload_n 1, 1) := by decide +kernel
theorem eX11_act_1 : decode cX11_act 1 = .ok (.ifCond .lt 14, 3) := by decide +kernel
theorem eX11_act_4 : decode cX11_act 4 = .ok (.iload_n 1, 1) := by decide +kernel
theorem eX11_act_5 : decode cX11_act 5 = .ok (.aload_n 0, 1) := by decide +kernel
theorem eX11_act_6 : decode cX11_act 6 = .ok (.getfield 26, 3) := by decide +kernel
theorem eX11_act_9 : decode cX11_act 9 = .ok (.getfield 198, 3) := by decide +kernel
theorem eX11_act_12 : decode cX11_act 12 = .ok (.if_icmp .lt 5, 3) := by decide +kernel
theorem eX11_act_15 : decode cX11_act 15 = .ok (.iconst (-1), 1) := by decide +kernel
theorem eX11_act_16 : decode cX11_act 16 = .ok (.ireturn, 1) := by decide +kernel
theorem eX11_act_17 : decode cX11_act 17 = .ok (.iload_n 2, 1) := by decide +kernel
theorem eX11_act_18 : decode cX11_act 18 = .ok (.tableswitch 53 0 2 #[26, 35, 44], 26) := by decide +kernel
theorem eX11_act_44 : decode cX11_act 44 = .ok (.aload_n 0, 1) := by decide +kernel
theorem eX11_act_45 : decode cX11_act 45 = .ok (.getfield 26, 3) := by decide +kernel
theorem eX11_act_48 : decode cX11_act 48 = .ok (.iload_n 1, 1) := by decide +kernel
theorem eX11_act_49 : decode cX11_act 49 = .ok (.invokevirtual 201, 3) := by decide +kernel
theorem eX11_act_52 : decode cX11_act 52 = .ok (.ireturn, 1) := by decide +kernel
theorem eX11_act_53 : decode cX11_act 53 = .ok (.aload_n 0, 1) := by decide +kernel
theorem eX11_act_54 : decode cX11_act 54 = .ok (.getfield 26, 3) := by decide +kernel
theorem eX11_act_57 : decode cX11_act 57 = .ok (.iload_n 1, 1) := by decide +kernel
theorem eX11_act_58 : decode cX11_act 58 = .ok (.invokevirtual 204, 3) := by decide +kernel
theorem eX11_act_61 : decode cX11_act 61 = .ok (.ireturn, 1) := by decide +kernel
theorem eX11_act_62 : decode cX11_act 62 = .ok (.aload_n 0, 1) := by decide +kernel
theorem eX11_act_63 : decode cX11_act 63 = .ok (.getfield 26, 3) := by decide +kernel
theorem eX11_act_66 : decode cX11_act 66 = .ok (.iload_n 1, 1) := by decide +kernel
theorem eX11_act_67 : decode cX11_act 67 = .ok (.invokevirtual 207, 3) := by decide +kernel
theorem eX11_act_70 : decode cX11_act 70 = .ok (.ireturn, 1) := by decide +kernel
theorem eX11_act_71 : decode cX11_act 71 = .ok (.iconst (-1), 1) := by decide +kernel
theorem eX11_act_72 : decode cX11_act 72 = .ok (.ireturn, 1) := by decide +kernel
set_option maxRecDepth 100000 in
theorem m_11_act (hU : ev_uq ty ev_TR) {C : ev_C} {x1 x2 : Int} {r : Int} {C' : ev_C} (h : f_11_act C x1 x2 = some (r, C')) : ev_Met l D cys ty ck_tags ev_TR kc_164 [.inr (.inl 11), .inl x1, .inl x2] C (fun r0 C0 => r0 = some (.inl r) ∧ C0 = C') := by
  unfold f_11_act at h
  refine ev_enter (by decide +kernel) (by decide +kernel) (Nat.le_of_ble_eq_true rfl) ?_
  show ev_W l D cys ty ck_tags ev_TR kc_164 0 [(0, .inr (.inl 11)), (1, .inl x1), (2, .inl x2)] [] C _
  refine ev_il eX11_act_0 rfl ?_
  refine ev_z_lt (tgt := 15) eX11_act_1 (by decide) (fun hc1 => ?_) (fun hc1 => ?_)
  · rw [if_pos (show x1 < 0 from hc1)] at h
    refine ev_ic eX11_act_15 (by decide) ?_
    cases h
    exact ev_iret eX11_act_16 rfl ⟨rfl, rfl⟩
  · rw [if_neg (show ¬ (x1 < 0) from hc1)] at h
    refine ev_il eX11_act_4 rfl ?_
    refine ev_al eX11_act_5 rfl ?_
    refine ev_getR lk_f (ci := 11) (j := 2) (cd := 3) eX11_act_6 (isF (by decide +kernel)) rfl rfl ?_
    refine ev_getI lk_f (ci := 6) (j := 3) (cd := 0) eX11_act_9 (isF (by decide +kernel)) rfl rfl rfl ?_
    refine ev_c_lt (tgt := 17) eX11_act_12 (by decide) (fun hc2 => ?_) (fun hc2 => ?_)
    · rw [if_pos (show x1 < (C 6 3) from hc2)] at h
      refine ev_il eX11_act_17 rfl ?_
      by_cases hc3 : x2 = 0
      · rw [if_pos hc3] at h
        refine ev_tin (j := 0) (tgt := 44) eX11_act_18 hc3 (by decide) rfl (by decide) ?_
        refine ev_al eX11_act_44 rfl ?_
        refine ev_getR lk_f (ci := 11) (j := 2) (cd := 3) eX11_act_45 (isF (by decide +kernel)) rfl rfl ?_
        refine ev_il eX11_act_48 rfl ?_
        obtain ⟨r4, C4, hq4, h⟩ := ev_bd_some h
        refine ev_callV (kc := kc_98) (A := [.inl x1]) (T := []) (lk_m.1 _ _ 0 [98] (isM (by decide +kernel)) 98 (by decide)) eX11_act_49 (m_6_scenesOf hU hq4) rfl rfl rfl (by decide) (by decide) (Nat.le_of_ble_eq_true rfl) ?_
        rintro _ C4 ⟨rfl, rfl⟩
        show ev_W l D cys ty ck_tags ev_TR kc_164 52 [(0, .inr (.inl 11)), (1, .inl x1), (2, .inl x2)] [.inl r4] C4 _
        cases h
        exact ev_iret eX11_act_52 rfl ⟨rfl, rfl⟩
      rw [if_neg hc3] at h
      by_cases hc5 : x2 = 1
      · rw [if_pos hc5] at h
        refine ev_tin (j := 1) (tgt := 53) eX11_act_18 hc5 (by decide) rfl (by decide) ?_
        refine ev_al eX11_act_53 rfl ?_
        refine ev_getR lk_f (ci := 11) (j := 2) (cd := 3) eX11_act_54 (isF (by decide +kernel)) rfl rfl ?_
        refine ev_il eX11_act_57 rfl ?_
        obtain ⟨r6, C6, hq6, h⟩ := ev_bd_some h
        refine ev_callV (kc := kc_16) (A := [.inl x1]) (T := []) (lk_m.1 _ _ 0 [16] (isM (by decide +kernel)) 16 (by decide)) eX11_act_58 (m_6_partsOf hU hq6) rfl rfl rfl (by decide) (by decide) (Nat.le_of_ble_eq_true rfl) ?_
        rintro _ C6 ⟨rfl, rfl⟩
        show ev_W l D cys ty ck_tags ev_TR kc_164 61 [(0, .inr (.inl 11)), (1, .inl x1), (2, .inl x2)] [.inl r6] C6 _
        cases h
        exact ev_iret eX11_act_61 rfl ⟨rfl, rfl⟩
      rw [if_neg hc5] at h
      by_cases hc7 : x2 = 2
      · rw [if_pos hc7] at h
        refine ev_tin (j := 2) (tgt := 62) eX11_act_18 hc7 (by decide) rfl (by decide) ?_
        refine ev_al eX11_act_62 rfl ?_
        refine ev_getR lk_f (ci := 11) (j := 2) (cd := 3) eX11_act_63 (isF (by decide +kernel)) rfl rfl ?_
        refine ev_il eX11_act_66 rfl ?_
        obtain ⟨r8, C8, hq8, h⟩ := ev_bd_some h
        refine ev_callV (kc := kc_93) (A := [.inl x1]) (T := []) (lk_m.1 _ _ 0 [93] (isM (by decide +kernel)) 93 (by decide)) eX11_act_67 (m_6_factsOf hU hq8) rfl rfl rfl (by decide) (by decide) (Nat.le_of_ble_eq_true rfl) ?_
        rintro _ C8 ⟨rfl, rfl⟩
        show ev_W l D cys ty ck_tags ev_TR kc_164 70 [(0, .inr (.inl 11)), (1, .inl x1), (2, .inl x2)] [.inl r8] C8 _
        cases h
        exact ev_iret eX11_act_70 rfl ⟨rfl, rfl⟩
      rw [if_neg hc7] at h
      refine ev_tout (tgt := 71) eX11_act_18 (by omega) (by decide) ?_
      refine ev_ic eX11_act_71 (by decide) ?_
      cases h
      exact ev_iret eX11_act_72 rfl ⟨rfl, rfl⟩
    · rw [if_neg (show ¬ (x1 < (C 6 3)) from hc2)] at h
      refine ev_ic eX11_act_15 (by decide) ?_
      cases h
      exact ev_iret eX11_act_16 rfl ⟨rfl, rfl⟩
theorem eX12_factsOf_0 : decode cX12_factsOf 0 = .ok (.iconst 0, 1) := by decide +kernel
theorem eX12_factsOf_1 : decode cX12_factsOf 1 = .ok (.istore_n 2, 1) := by decide +kernel
theorem eX12_factsOf_2 : decode cX12_factsOf 2 = .ok (.iconst 0, 1) := by decide +kernel
theorem eX12_factsOf_3 : decode cX12_factsOf 3 = .ok (.istore_n 3, 1) := by decide +kernel
theorem eX12_factsOf_4 : decode cX12_factsOf 4 = .ok (.iload_n 3, 1) := by decide +kernel
theorem eX12_factsOf_5 : decode cX12_factsOf 5 = .ok (.aload_n 0, 1) := by decide +kernel
theorem eX12_factsOf_6 : decode cX12_factsOf 6 = .ok (.getfield 33, 3) := by decide +kernel
theorem eX12_factsOf_9 : decode cX12_factsOf 9 = .ok (.iconst 4, 1) := by decide +kernel
theorem eX12_factsOf_10 : decode cX12_factsOf 10 = .ok (.iaload, 1) := by decide +kernel
theorem eX12_factsOf_11 : decode cX12_factsOf 11 = .ok (.if_icmp .ge 39, 3) := by decide +kernel
theorem eX12_factsOf_14 : decode cX12_factsOf 14 = .ok (.iload_n 2, 1) := by decide +kernel
theorem eX12_factsOf_15 : decode cX12_factsOf 15 = .ok (.aload_n 0, 1) := by decide +kernel
theorem eX12_factsOf_16 : decode cX12_factsOf 16 = .ok (.getfield 33, 3) := by decide +kernel
theorem eX12_factsOf_19 : decode cX12_factsOf 19 = .ok (.bipush 104, 2) := by decide +kernel
theorem eX12_factsOf_21 : decode cX12_factsOf 21 = .ok (.iload_n 3, 1) := by decide +kernel
theorem eX12_factsOf_22 : decode cX12_factsOf 22 = .ok (.iadd, 1) := by decide +kernel
theorem eX12_factsOf_23 : decode cX12_factsOf 23 = .ok (.iaload, 1) := by decide +kernel
theorem eX12_factsOf_24 : decode cX12_factsOf 24 = .ok (.iload_n 1, 1) := by decide +kernel
theorem eX12_factsOf_25 : decode cX12_factsOf 25 = .ok (.if_icmp .ne 16, 3) := by decide +kernel
theorem eX12_factsOf_28 : decode cX12_factsOf 28 = .ok (.aload_n 0, 1) := by decide +kernel
theorem eX12_factsOf_29 : decode cX12_factsOf 29 = .ok (.getfield 33, 3) := by decide +kernel
theorem eX12_factsOf_32 : decode cX12_factsOf 32 = .ok (.sipush 128, 3) := by decide +kernel
theorem eX12_factsOf_35 : decode cX12_factsOf 35 = .ok (.iload_n 3, 1) := by decide +kernel
theorem eX12_factsOf_36 : decode cX12_factsOf 36 = .ok (.iadd, 1) := by decide +kernel
theorem eX12_factsOf_37 : decode cX12_factsOf 37 = .ok (.iaload, 1) := by decide +kernel
theorem eX12_factsOf_38 : decode cX12_factsOf 38 = .ok (.goto 4, 3) := by decide +kernel
theorem eX12_factsOf_41 : decode cX12_factsOf 41 = .ok (.iconst 0, 1) := by decide +kernel
theorem eX12_factsOf_42 : decode cX12_factsOf 42 = .ok (.ior, 1) := by decide +kernel
theorem eX12_factsOf_43 : decode cX12_factsOf 43 = .ok (.istore_n 2, 1) := by decide +kernel
theorem eX12_factsOf_44 : decode cX12_factsOf 44 = .ok (.iinc 3 1, 3) := by decide +kernel
theorem eX12_factsOf_47 : decode cX12_factsOf 47 = .ok (.goto (-43), 3) := by decide +kernel
theorem eX12_factsOf_50 : decode cX12_factsOf 50 = .ok (.iload_n 2, 1) := by decide +kernel
theorem eX12_factsOf_51 : decode cX12_factsOf 51 = .ok (.ireturn, 1) := by decide +kernel
set_option maxRecDepth 100000 in
theorem m_12_factsOf_J42 (hU : ev_uq ty ev_TR) {r : Int} {C' : ev_C} {K4 : ev_C → Int → Int → Int → Option (Int × ev_C)} (hK4 : ∀ {C : ev_C} {y1 y2 y3 : Int}, K4 C y1 y2 y3 = some (r, C') → ev_W l D cys ty ck_tags ev_TR kc_189 4 [(0, .inr (.inl 12)), (1, .inl y1), (2, .inl y2), (3, .inl y3)] [] C (fun r0 C0 => r0 = some (.inl r) ∧ C0 = C')) {C : ev_C} {y1 y2 y3 w0 w1 : Int} (h : f_12_factsOf_J42 K4 C y1 y2 y3 w0 w1 = some (r, C')) : ev_W l D cys ty ck_tags ev_TR kc_189 42 [(0, .inr (.inl 12)), (1, .inl y1), (2, .inl y2), (3, .inl y3)] [.inl w0, .inl w1] C (fun r0 C0 => r0 = some (.inl r) ∧ C0 = C') := by
  unfold f_12_factsOf_J42 at h
  refine ev_ior eX12_factsOf_42 ?_
  refine ev_is (L' := [(2, .inl (ev_or w1 w0)), (0, .inr (.inl 12)), (1, .inl y1), (3, .inl y3)]) eX12_factsOf_43 (by decide) rfl ?_
  refine ev_inc (L' := [(3, .inl (ev_w (y3 + 1))), (2, .inl (ev_or w1 w0)), (0, .inr (.inl 12)), (1, .inl y1)]) eX12_factsOf_44 (by decide) (by decide) rfl rfl ?_
  refine ev_goto (tgt := 4) eX12_factsOf_47 (by decide) ?_
  refine ev_loc (L' := [(0, .inr (.inl 12)), (1, .inl y1), (2, .inl (ev_or w1 w0)), (3, .inl (ev_w (y3 + 1)))]) rfl ?_
  exact hK4 h
set_option maxRecDepth 100000 in
theorem m_12_factsOf_L4 (hU : ev_uq ty ev_TR) : ∀ (n : Nat) {C : ev_C} {y1 y2 y3 : Int} {r : Int} {C' : ev_C}, f_12_factsOf_L4 n C y1 y2 y3 = some (r, C') → ev_W l D cys ty ck_tags ev_TR kc_189 4 [(0, .inr (.inl 12)), (1, .inl y1), (2, .inl y2), (3, .inl y3)] [] C (fun r0 C0 => r0 = some (.inl r) ∧ C0 = C')
  | 0, _, _, _, _, _, _, h => by cases h
  | n + 1, C, y1, y2, y3, _, _, h => by
    unfold f_12_factsOf_L4 at h
    refine ev_il eX12_factsOf_4 rfl ?_
    refine ev_al eX12_factsOf_5 rfl ?_
    refine ev_getR lk_f (ci := 12) (j := 6) (cd := 3) eX12_factsOf_6 (isF (by decide +kernel)) rfl rfl ?_
    refine ev_ic eX12_factsOf_9 (by decide) ?_
    refine ev_iald eX12_factsOf_10 rfl rfl (by decide) (by decide) ?_
    refine ev_c_ge (tgt := 50) eX12_factsOf_11 (by decide) (fun hc1 => ?_) (fun hc1 => ?_)
    · rw [if_pos (show (C 34 4) ≤ y3 from hc1)] at h
      refine ev_il eX12_factsOf_50 rfl ?_
      cases h
      exact ev_iret eX12_factsOf_51 rfl ⟨rfl, rfl⟩
    · rw [if_neg (show ¬ ((C 34 4) ≤ y3) from hc1)] at h
      refine ev_il eX12_factsOf_14 rfl ?_
      refine ev_al eX12_factsOf_15 rfl ?_
      refine ev_getR lk_f (ci := 12) (j := 6) (cd := 3) eX12_factsOf_16 (isF (by decide +kernel)) rfl rfl ?_
      refine ev_bp eX12_factsOf_19 (by decide) (by decide) ?_
      refine ev_il eX12_factsOf_21 rfl ?_
      refine ev_add eX12_factsOf_22 ?_
      obtain ⟨hb2, h⟩ := ev_gd h
      refine ev_iald eX12_factsOf_23 rfl rfl hb2.1 hb2.2 ?_
      refine ev_il eX12_factsOf_24 rfl ?_
      refine ev_c_ne (tgt := 41) eX12_factsOf_25 (by decide) (fun hc3 => ?_) (fun hc3 => ?_)
      · rw [if_pos (show (C 34 (Int.toNat (ev_w ((104 : Int) + y3)))) ≠ y1 from hc3)] at h
        refine ev_ic eX12_factsOf_41 (by decide) ?_
        refine ev_loc (L' := [(0, .inr (.inl 12)), (1, .inl y1), (2, .inl y2), (3, .inl y3)]) rfl ?_
        exact m_12_factsOf_J42 hU (fun h => m_12_factsOf_L4 hU n h) h
      · rw [if_neg (show ¬ ((C 34 (Int.toNat (ev_w ((104 : Int) + y3)))) ≠ y1) from hc3)] at h
        refine ev_al eX12_factsOf_28 rfl ?_
        refine ev_getR lk_f (ci := 12) (j := 6) (cd := 3) eX12_factsOf_29 (isF (by decide +kernel)) rfl rfl ?_
        refine ev_sp eX12_factsOf_32 (by decide) (by decide) ?_
        refine ev_il eX12_factsOf_35 rfl ?_
        refine ev_add eX12_factsOf_36 ?_
        obtain ⟨hb4, h⟩ := ev_gd h
        refine ev_iald eX12_factsOf_37 rfl rfl hb4.1 hb4.2 ?_
        refine ev_goto (tgt := 42) eX12_factsOf_38 (by decide) ?_
        refine ev_loc (L' := [(0, .inr (.inl 12)), (1, .inl y1), (2, .inl y2), (3, .inl y3)]) rfl ?_
        exact m_12_factsOf_J42 hU (fun h => m_12_factsOf_L4 hU n h) h
set_option maxRecDepth 100000 in
theorem m_12_factsOf (hU : ev_uq ty ev_TR) {C : ev_C} {x1 : Int} {r : Int} {C' : ev_C} (h : f_12_factsOf C x1 = some (r, C')) : ev_Met l D cys ty ck_tags ev_TR kc_189 [.inr (.inl 12), .inl x1] C (fun r0 C0 => r0 = some (.inl r) ∧ C0 = C') := by
  unfold f_12_factsOf at h
  refine ev_enter (by decide +kernel) (by decide +kernel) (Nat.le_of_ble_eq_true rfl) ?_
  show ev_W l D cys ty ck_tags ev_TR kc_189 0 [(0, .inr (.inl 12)), (1, .inl x1)] [] C _
  refine ev_ic eX12_factsOf_0 (by decide) ?_
  refine ev_is (L' := [(2, .inl 0), (0, .inr (.inl 12)), (1, .inl x1)]) eX12_factsOf_1 (by decide) rfl ?_
  refine ev_ic eX12_factsOf_2 (by decide) ?_
  refine ev_is (L' := [(3, .inl 0), (2, .inl 0), (0, .inr (.inl 12)), (1, .inl x1)]) eX12_factsOf_3 (by decide) rfl ?_
  refine ev_loc (L' := [(0, .inr (.inl 12)), (1, .inl x1), (2, .inl 0), (3, .inl 0)]) rfl ?_
  exact m_12_factsOf_L4 hU 1000 h
theorem eX12_partsOf_0 : decode cX12_partsOf 0 = .ok (.iconst 0, 1) := by decide +kernel
theorem eX12_partsOf_1 : decode cX12_partsOf 1 = .ok (.istore_n 2, 1) := by decide +kernel
theorem eX12_partsOf_2 : decode cX12_partsOf 2 = .ok (.iconst 0, 1) := by decide +kernel
theorem eX12_partsOf_3 : decode cX12_partsOf 3 = .ok (.istore_n 3, 1) := by decide +kernel
theorem eX12_partsOf_4 : decode cX12_partsOf 4 = .ok (.iload_n 3, 1) := by decide +kernel
theorem eX12_partsOf_5 : decode cX12_partsOf 5 = .ok (.aload_n 0, 1) := by decide +kernel
theorem eX12_partsOf_6 : decode cX12_partsOf 6 = .ok (.getfield 33, 3) := by decide +kernel
theorem eX12_partsOf_9 : decode cX12_partsOf 9 = .ok (.iconst 4, 1) := by decide +kernel
theorem eX12_partsOf_10 : decode cX12_partsOf 10 = .ok (.iaload, 1) := by decide +kernel
theorem eX12_partsOf_11 : decode cX12_partsOf 11 = .ok (.if_icmp .ge 38, 3) := by decide +kernel
theorem eX12_partsOf_14 : decode cX12_partsOf 14 = .ok (.iload_n 2, 1) := by decide +kernel
theorem eX12_partsOf_15 : decode cX12_partsOf 15 = .ok (.aload_n 0, 1) := by decide +kernel
theorem eX12_partsOf_16 : decode cX12_partsOf 16 = .ok (.getfield 33, 3) := by decide +kernel
theorem eX12_partsOf_19 : decode cX12_partsOf 19 = .ok (.bipush 104, 2) := by decide +kernel
theorem eX12_partsOf_21 : decode cX12_partsOf 21 = .ok (.iload_n 3, 1) := by decide +kernel
theorem eX12_partsOf_22 : decode cX12_partsOf 22 = .ok (.iadd, 1) := by decide +kernel
theorem eX12_partsOf_23 : decode cX12_partsOf 23 = .ok (.iaload, 1) := by decide +kernel
theorem eX12_partsOf_24 : decode cX12_partsOf 24 = .ok (.iload_n 1, 1) := by decide +kernel
theorem eX12_partsOf_25 : decode cX12_partsOf 25 = .ok (.if_icmp .ne 15, 3) := by decide +kernel
theorem eX12_partsOf_28 : decode cX12_partsOf 28 = .ok (.aload_n 0, 1) := by decide +kernel
theorem eX12_partsOf_29 : decode cX12_partsOf 29 = .ok (.getfield 33, 3) := by decide +kernel
theorem eX12_partsOf_32 : decode cX12_partsOf 32 = .ok (.bipush 116, 2) := by decide +kernel
theorem eX12_partsOf_34 : decode cX12_partsOf 34 = .ok (.iload_n 3, 1) := by decide +kernel
theorem eX12_partsOf_35 : decode cX12_partsOf 35 = .ok (.iadd, 1) := by decide +kernel
theorem eX12_partsOf_36 : decode cX12_partsOf 36 = .ok (.iaload, 1) := by decide +kernel
theorem eX12_partsOf_37 : decode cX12_partsOf 37 = .ok (.goto 4, 3) := by decide +kernel
theorem eX12_partsOf_40 : decode cX12_partsOf 40 = .ok (.iconst 0, 1) := by decide +kernel
theorem eX12_partsOf_41 : decode cX12_partsOf 41 = .ok (.ior, 1) := by decide +kernel
theorem eX12_partsOf_42 : decode cX12_partsOf 42 = .ok (.istore_n 2, 1) := by decide +kernel
theorem eX12_partsOf_43 : decode cX12_partsOf 43 = .ok (.iinc 3 1, 3) := by decide +kernel
theorem eX12_partsOf_46 : decode cX12_partsOf 46 = .ok (.goto (-42), 3) := by decide +kernel
theorem eX12_partsOf_49 : decode cX12_partsOf 49 = .ok (.iload_n 2, 1) := by decide +kernel
theorem eX12_partsOf_50 : decode cX12_partsOf 50 = .ok (.ireturn, 1) := by decide +kernel
set_option maxRecDepth 100000 in
theorem m_12_partsOf_J41 (hU : ev_uq ty ev_TR) {r : Int} {C' : ev_C} {K4 : ev_C → Int → Int → Int → Option (Int × ev_C)} (hK4 : ∀ {C : ev_C} {y1 y2 y3 : Int}, K4 C y1 y2 y3 = some (r, C') → ev_W l D cys ty ck_tags ev_TR kc_200 4 [(0, .inr (.inl 12)), (1, .inl y1), (2, .inl y2), (3, .inl y3)] [] C (fun r0 C0 => r0 = some (.inl r) ∧ C0 = C')) {C : ev_C} {y1 y2 y3 w0 w1 : Int} (h : f_12_partsOf_J41 K4 C y1 y2 y3 w0 w1 = some (r, C')) : ev_W l D cys ty ck_tags ev_TR kc_200 41 [(0, .inr (.inl 12)), (1, .inl y1), (2, .inl y2), (3, .inl y3)] [.inl w0, .inl w1] C (fun r0 C0 => r0 = some (.inl r) ∧ C0 = C') := by
  unfold f_12_partsOf_J41 at h
  refine ev_ior eX12_partsOf_41 ?_
  refine ev_is (L' := [(2, .inl (ev_or w1 w0)), (0, .inr (.inl 12)), (1, .inl y1), (3, .inl y3)]) eX12_partsOf_42 (by decide) rfl ?_
  refine ev_inc (L' := [(3, .inl (ev_w (y3 + 1))), (2, .inl (ev_or w1 w0)), (0, .inr (.inl 12)), (1, .inl y1)]) eX12_partsOf_43 (by decide) (by decide) rfl rfl ?_
  refine ev_goto (tgt := 4) eX12_partsOf_46 (by decide) ?_
  refine ev_loc (L' := [(0, .inr (.inl 12)), (1, .inl y1), (2, .inl (ev_or w1 w0)), (3, .inl (ev_w (y3 + 1)))]) rfl ?_
  exact hK4 h
set_option maxRecDepth 100000 in
theorem m_12_partsOf_L4 (hU : ev_uq ty ev_TR) : ∀ (n : Nat) {C : ev_C} {y1 y2 y3 : Int} {r : Int} {C' : ev_C}, f_12_partsOf_L4 n C y1 y2 y3 = some (r, C') → ev_W l D cys ty ck_tags ev_TR kc_200 4 [(0, .inr (.inl 12)), (1, .inl y1), (2, .inl y2), (3, .inl y3)] [] C (fun r0 C0 => r0 = some (.inl r) ∧ C0 = C')
  | 0, _, _, _, _, _, _, h => by cases h
  | n + 1, C, y1, y2, y3, _, _, h => by
    unfold f_12_partsOf_L4 at h
    refine ev_il eX12_partsOf_4 rfl ?_
    refine ev_al eX12_partsOf_5 rfl ?_
    refine ev_getR lk_f (ci := 12) (j := 6) (cd := 3) eX12_partsOf_6 (isF (by decide +kernel)) rfl rfl ?_
    refine ev_ic eX12_partsOf_9 (by decide) ?_
    refine ev_iald eX12_partsOf_10 rfl rfl (by decide) (by decide) ?_
    refine ev_c_ge (tgt := 49) eX12_partsOf_11 (by decide) (fun hc1 => ?_) (fun hc1 => ?_)
    · rw [if_pos (show (C 34 4) ≤ y3 from hc1)] at h
      refine ev_il eX12_partsOf_49 rfl ?_
      cases h
      exact ev_iret eX12_partsOf_50 rfl ⟨rfl, rfl⟩
    · rw [if_neg (show ¬ ((C 34 4) ≤ y3) from hc1)] at h
      refine ev_il eX12_partsOf_14 rfl ?_
      refine ev_al eX12_partsOf_15 rfl ?_
      refine ev_getR lk_f (ci := 12) (j := 6) (cd := 3) eX12_partsOf_16 (isF (by decide +kernel)) rfl rfl ?_
      refine ev_bp eX12_partsOf_19 (by decide) (by decide) ?_
      refine ev_il eX12_partsOf_21 rfl ?_
      refine ev_add eX12_partsOf_22 ?_
      obtain ⟨hb2, h⟩ := ev_gd h
      refine ev_iald eX12_partsOf_23 rfl rfl hb2.1 hb2.2 ?_
      refine ev_il eX12_partsOf_24 rfl ?_
      refine ev_c_ne (tgt := 40) eX12_partsOf_25 (by decide) (fun hc3 => ?_) (fun hc3 => ?_)
      · rw [if_pos (show (C 34 (Int.toNat (ev_w ((104 : Int) + y3)))) ≠ y1 from hc3)] at h
        refine ev_ic eX12_partsOf_40 (by decide) ?_
        refine ev_loc (L' := [(0, .inr (.inl 12)), (1, .inl y1), (2, .inl y2), (3, .inl y3)]) rfl ?_
        exact m_12_partsOf_J41 hU (fun h => m_12_partsOf_L4 hU n h) h
      · rw [if_neg (show ¬ ((C 34 (Int.toNat (ev_w ((104 : Int) + y3)))) ≠ y1) from hc3)] at h
        refine ev_al eX12_partsOf_28 rfl ?_
        refine ev_getR lk_f (ci := 12) (j := 6) (cd := 3) eX12_partsOf_29 (isF (by decide +kernel)) rfl rfl ?_
        refine ev_bp eX12_partsOf_32 (by decide) (by decide) ?_
        refine ev_il eX12_partsOf_34 rfl ?_
        refine ev_add eX12_partsOf_35 ?_
        obtain ⟨hb4, h⟩ := ev_gd h
        refine ev_iald eX12_partsOf_36 rfl rfl hb4.1 hb4.2 ?_
        refine ev_goto (tgt := 41) eX12_partsOf_37 (by decide) ?_
        refine ev_loc (L' := [(0, .inr (.inl 12)), (1, .inl y1), (2, .inl y2), (3, .inl y3)]) rfl ?_
        exact m_12_partsOf_J41 hU (fun h => m_12_partsOf_L4 hU n h) h
set_option maxRecDepth 100000 in
theorem m_12_partsOf (hU : ev_uq ty ev_TR) {C : ev_C} {x1 : Int} {r : Int} {C' : ev_C} (h : f_12_partsOf C x1 = some (r, C')) : ev_Met l D cys ty ck_tags ev_TR kc_200 [.inr (.inl 12), .inl x1] C (fun r0 C0 => r0 = some (.inl r) ∧ C0 = C') := by
  unfold f_12_partsOf at h
  refine ev_enter (by decide +kernel) (by decide +kernel) (Nat.le_of_ble_eq_true rfl) ?_
  show ev_W l D cys ty ck_tags ev_TR kc_200 0 [(0, .inr (.inl 12)), (1, .inl x1)] [] C _
  refine ev_ic eX12_partsOf_0 (by decide) ?_
  refine ev_is (L' := [(2, .inl 0), (0, .inr (.inl 12)), (1, .inl x1)]) eX12_partsOf_1 (by decide) rfl ?_
  refine ev_ic eX12_partsOf_2 (by decide) ?_
  refine ev_is (L' := [(3, .inl 0), (2, .inl 0), (0, .inr (.inl 12)), (1, .inl x1)]) eX12_partsOf_3 (by decide) rfl ?_
  refine ev_loc (L' := [(0, .inr (.inl 12)), (1, .inl x1), (2, .inl 0), (3, .inl 0)]) rfl ?_
  exact m_12_partsOf_L4 hU 1000 h
theorem eX12_act_0 : decode cX12_act 0 = .ok (.aload_n 0, 1) := by decide +kernel
theorem eX12_act_1 : decode cX12_act 1 = .ok (.iconst 0, 1) := by decide +kernel
theorem eX12_act_2 : decode cX12_act 2 = .ok (.putfield 1, 3) := by decide +kernel
theorem eX12_act_5 : decode cX12_act 5 = .ok (.iload_n 1, 1) := by decide +kernel
theorem eX12_act_6 : decode cX12_act 6 = .ok (.iconst 0, 1) := by decide +kernel
theorem eX12_act_7 : decode cX12_act 7 = .ok (.aload_n 0, 1) := by decide +kernel
theorem eX12_act_8 : decode cX12_act 8 = .ok (.getfield 33, 3) := by decide +kernel
theorem eX12_act_11 : decode cX12_act 11 = .ok (.iconst 3, 1) := by decide +kernel
theorem eX12_act_12 : decode cX12_act 12 = .ok (.iaload, 1) := by decide +kernel
theorem eX12_act_13 : decode cX12_act 13 = .ok (.iconst 1, 1) := by decide +kernel
theorem eX12_act_14 : decode cX12_act 14 = .ok (.isub, 1) := by decide +kernel
theorem eX12_act_15 : decode cX12_act 15 = .ok (.invokestatic 198, 3) := by decide +kernel
theorem eX12_act_18 : decode cX12_act 18 = .ok (.ifCond .eq 12, 3) := by decide +kernel
theorem eX12_act_21 : decode cX12_act 21 = .ok (.iload_n 2, 1) := by decide +kernel
theorem eX12_act_22 : decode cX12_act 22 = .ok (.iconst 0, 1) := by decide +kernel
theorem eX12_act_23 : decode cX12_act 23 = .ok (.iconst 2, 1) := by decide +kernel
theorem eX12_act_24 : decode cX12_act 24 = .ok (.invokestatic 198, 3) := by decide +kernel
theorem eX12_act_27 : decode cX12_act 27 = .ok (.ifCond .ne 5, 3) := by decide +kernel
theorem eX12_act_30 : decode cX12_act 30 = .ok (.iconst (-1), 1) := by decide +kernel
theorem eX12_act_31 : decode cX12_act 31 = .ok (.ireturn, 1) := by decide +kernel
theorem eX12_act_32 : decode cX12_act 32 = .ok (.iconst 0, 1) := by decide +kernel
theorem eX12_act_33 : decode cX12_act 33 = .ok (.istore_n 3, 1) := by decide +kernel
theorem eX12_act_34 : decode cX12_act 34 = .ok (.iconst 0, 1) := by decide +kernel
theorem eX12_act_35 : decode cX12_act 35 = .ok (.istore 4, 2) := by decide +kernel
theorem eX12_act_37 : decode cX12_act 37 = .ok (.iload 4, 2) := by decide +kernel
theorem eX12_act_39 : decode cX12_act 39 = .ok (.aload_n 0, 1) := by decide +kernel
theorem eX12_act_40 : decode cX12_act 40 = .ok (.getfield 33, 3) := by decide +kernel
theorem eX12_act_43 : decode cX12_act 43 = .ok (.iconst 4, 1) := by decide +kernel
theorem eX12_act_44 : decode cX12_act 44 = .ok (.iaload, 1) := by decide +kernel
theorem eX12_act_45 : decode cX12_act 45 = .ok (.if_icmp .ge 31, 3) := by decide +kernel
theorem eX12_act_48 : decode cX12_act 48 = .ok (.iload_n 3, 1) := by decide +kernel
theorem eX12_act_49 : decode cX12_act 49 = .ok (.aload_n 0, 1) := by decide +kernel
theorem eX12_act_50 : decode cX12_act 50 = .ok (.getfield 33, 3) := by decide +kernel
theorem eX12_act_53 : decode cX12_act 53 = .ok (.bipush 104, 2) := by decide +kernel
theorem eX12_act_55 : decode cX12_act 55 = .ok (.iload 4, 2) := by decide +kernel
theorem eX12_act_57 : decode cX12_act 57 = .ok (.iadd, 1) := by decide +kernel
theorem eX12_act_58 : decode cX12_act 58 = .ok (.iaload, 1) := by decide +kernel
theorem eX12_act_59 : decode cX12_act 59 = .ok (.iload_n 1, 1) := by decide +kernel
theorem eX12_act_60 : decode cX12_act 60 = .ok (.if_icmp .ne 7, 3) := by decide +kernel
theorem eX12_act_63 : decode cX12_act 63 = .ok (.iconst 1, 1) := by decide +kernel
theorem eX12_act_64 : decode cX12_act 64 = .ok (.goto 4, 3) := by decide +kernel
theorem eX12_act_67 : decode cX12_act 67 = .ok (.iconst 0, 1) := by decide +kernel
theorem eX12_act_68 : decode cX12_act 68 = .ok (.iadd, 1) := by decide +kernel
theorem eX12_act_69 : decode cX12_act 69 = .ok (.istore_n 3, 1) := by decide +kernel
theorem eX12_act_70 : decode cX12_act 70 = .ok (.iinc 4 1, 3) := by decide +kernel
theorem eX12_act_73 : decode cX12_act 73 = .ok (.goto (-36), 3) := by decide +kernel
theorem eX12_act_76 : decode cX12_act 76 = .ok (.iload_n 2, 1) := by decide +kernel
theorem eX12_act_77 : decode cX12_act 77 = .ok (.ifCond .ne 7, 3) := by decide +kernel
theorem eX12_act_80 : decode cX12_act 80 = .ok (.iload_n 3, 1) := by decide +kernel
theorem eX12_act_81 : decode cX12_act 81 = .ok (.goto 21, 3) := by decide +kernel
theorem eX12_act_84 : decode cX12_act 84 = .ok (.iload_n 2, 1) := by decide +kernel
theorem eX12_act_85 : decode cX12_act 85 = .ok (.iconst 1, 1) := by decide +kernel
theorem eX12_act_86 : decode cX12_act 86 = .ok (.if_icmp .ne 11, 3) := by decide +kernel
theorem eX12_act_89 : decode cX12_act 89 = .ok (.aload_n 0, 1) := by decide +kernel
theorem eX12_act_90 : decode cX12_act 90 = .ok (.iload_n 1, 1) := by decide +kernel
theorem eX12_act_91 : decode cX12_act 91 = .ok (.invokevirtual 260, 3) := by decide +kernel
theorem eX12_act_94 : decode cX12_act 94 = .ok (.goto 8, 3) := by decide +kernel
theorem eX12_act_97 : decode cX12_act 97 = .ok (.aload_n 0, 1) := by decide +kernel
theorem eX12_act_98 : decode cX12_act 98 = .ok (.iload_n 1, 1) := by decide +kernel
theorem eX12_act_99 : decode cX12_act 99 = .ok (.invokevirtual 274, 3) := by decide +kernel
theorem eX12_act_102 : decode cX12_act 102 = .ok (.ireturn, 1) := by decide +kernel
set_option maxRecDepth 100000 in
theorem m_12_act_J68 (hU : ev_uq ty ev_TR) {r : Int} {C' : ev_C} {K37 : ev_C → Int → Int → Int → Int → Option (Int × ev_C)} (hK37 : ∀ {C : ev_C} {y1 y2 y3 y4 : Int}, K37 C y1 y2 y3 y4 = some (r, C') → ev_W l D cys ty ck_tags ev_TR kc_201 37 [(0, .inr (.inl 12)), (1, .inl y1), (2, .inl y2), (3, .inl y3), (4, .inl y4)] [] C (fun r0 C0 => r0 = some (.inl r) ∧ C0 = C')) {C : ev_C} {y1 y2 y3 y4 w0 w1 : Int} (h : f_12_act_J68 K37 C y1 y2 y3 y4 w0 w1 = some (r, C')) : ev_W l D cys ty ck_tags ev_TR kc_201 68 [(0, .inr (.inl 12)), (1, .inl y1), (2, .inl y2), (3, .inl y3), (4, .inl y4)] [.inl w0, .inl w1] C (fun r0 C0 => r0 = some (.inl r) ∧ C0 = C') := by
  unfold f_12_act_J68 at h
  refine ev_add eX12_act_68 ?_
  refine ev_is (L' := [(3, .inl (ev_w (w1 + w0))), (0, .inr (.inl 12)), (1, .inl y1), (2, .inl y2), (4, .inl y4)]) eX12_act_69 (by decide) rfl ?_
  refine ev_inc (L' := [(4, .inl (ev_w (y4 + 1))), (3, .inl (ev_w (w1 + w0))), (0, .inr (.inl 12)), (1, .inl y1), (2, .inl y2)]) eX12_act_70 (by decide) (by decide) rfl rfl ?_
  refine ev_goto (tgt := 37) eX12_act_73 (by decide) ?_
  refine ev_loc (L' := [(0, .inr (.inl 12)), (1, .inl y1), (2, .inl y2), (3, .inl (ev_w (w1 + w0))), (4, .inl (ev_w (y4 + 1)))]) rfl ?_
  exact hK37 h
set_option maxRecDepth 100000 in
theorem m_12_act_L37 (hU : ev_uq ty ev_TR) : ∀ (n : Nat) {C : ev_C} {y1 y2 y3 y4 : Int} {r : Int} {C' : ev_C}, f_12_act_L37 n C y1 y2 y3 y4 = some (r, C') → ev_W l D cys ty ck_tags ev_TR kc_201 37 [(0, .inr (.inl 12)), (1, .inl y1), (2, .inl y2), (3, .inl y3), (4, .inl y4)] [] C (fun r0 C0 => r0 = some (.inl r) ∧ C0 = C')
  | 0, _, _, _, _, _, _, _, h => by cases h
  | n + 1, C, y1, y2, y3, y4, _, _, h => by
    unfold f_12_act_L37 at h
    refine ev_ilw eX12_act_37 rfl ?_
    refine ev_al eX12_act_39 rfl ?_
    refine ev_getR lk_f (ci := 12) (j := 6) (cd := 3) eX12_act_40 (isF (by decide +kernel)) rfl rfl ?_
    refine ev_ic eX12_act_43 (by decide) ?_
    refine ev_iald eX12_act_44 rfl rfl (by decide) (by decide) ?_
    refine ev_c_ge (tgt := 76) eX12_act_45 (by decide) (fun hc5 => ?_) (fun hc5 => ?_)
    · rw [if_pos (show (C 34 4) ≤ y4 from hc5)] at h
      refine ev_il eX12_act_76 rfl ?_
      refine ev_z_ne (tgt := 84) eX12_act_77 (by decide) (fun hc6 => ?_) (fun hc6 => ?_)
      · rw [if_pos (show y2 ≠ 0 from hc6)] at h
        refine ev_il eX12_act_84 rfl ?_
        refine ev_ic eX12_act_85 (by decide) ?_
        refine ev_c_ne (tgt := 97) eX12_act_86 (by decide) (fun hc7 => ?_) (fun hc7 => ?_)
        · rw [if_pos (show y2 ≠ 1 from hc7)] at h
          refine ev_al eX12_act_97 rfl ?_
          refine ev_il eX12_act_98 rfl ?_
          obtain ⟨r8, C8, hq8, h⟩ := ev_bd_some h
          refine ev_callV (kc := kc_189) (A := [.inl y1]) (T := []) (lk_m.1 _ _ 0 [189] (isM (by decide +kernel)) 189 (by decide)) eX12_act_99 (m_12_factsOf hU hq8) rfl rfl rfl (by decide) (by decide) (Nat.le_of_ble_eq_true rfl) ?_
          rintro _ C8 ⟨rfl, rfl⟩
          show ev_W l D cys ty ck_tags ev_TR kc_201 102 [(0, .inr (.inl 12)), (1, .inl y1), (2, .inl y2), (3, .inl y3), (4, .inl y4)] [.inl r8] C8 _
          cases h
          exact ev_iret eX12_act_102 rfl ⟨rfl, rfl⟩
        · rw [if_neg (show ¬ (y2 ≠ 1) from hc7)] at h
          refine ev_al eX12_act_89 rfl ?_
          refine ev_il eX12_act_90 rfl ?_
          obtain ⟨r9, C9, hq9, h⟩ := ev_bd_some h
          refine ev_callV (kc := kc_200) (A := [.inl y1]) (T := []) (lk_m.1 _ _ 0 [200] (isM (by decide +kernel)) 200 (by decide)) eX12_act_91 (m_12_partsOf hU hq9) rfl rfl rfl (by decide) (by decide) (Nat.le_of_ble_eq_true rfl) ?_
          rintro _ C9 ⟨rfl, rfl⟩
          show ev_W l D cys ty ck_tags ev_TR kc_201 94 [(0, .inr (.inl 12)), (1, .inl y1), (2, .inl y2), (3, .inl y3), (4, .inl y4)] [.inl r9] C9 _
          refine ev_goto (tgt := 102) eX12_act_94 (by decide) ?_
          cases h
          exact ev_iret eX12_act_102 rfl ⟨rfl, rfl⟩
      · rw [if_neg (show ¬ (y2 ≠ 0) from hc6)] at h
        refine ev_il eX12_act_80 rfl ?_
        refine ev_goto (tgt := 102) eX12_act_81 (by decide) ?_
        cases h
        exact ev_iret eX12_act_102 rfl ⟨rfl, rfl⟩
    · rw [if_neg (show ¬ ((C 34 4) ≤ y4) from hc5)] at h
      refine ev_il eX12_act_48 rfl ?_
      refine ev_al eX12_act_49 rfl ?_
      refine ev_getR lk_f (ci := 12) (j := 6) (cd := 3) eX12_act_50 (isF (by decide +kernel)) rfl rfl ?_
      refine ev_bp eX12_act_53 (by decide) (by decide) ?_
      refine ev_ilw eX12_act_55 rfl ?_
      refine ev_add eX12_act_57 ?_
      obtain ⟨hb10, h⟩ := ev_gd h
      refine ev_iald eX12_act_58 rfl rfl hb10.1 hb10.2 ?_
      refine ev_il eX12_act_59 rfl ?_
      refine ev_c_ne (tgt := 67) eX12_act_60 (by decide) (fun hc11 => ?_) (fun hc11 => ?_)
      · rw [if_pos (show (C 34 (Int.toNat (ev_w ((104 : Int) + y4)))) ≠ y1 from hc11)] at h
        refine ev_ic eX12_act_67 (by decide) ?_
        refine ev_loc (L' := [(0, .inr (.inl 12)), (1, .inl y1), (2, .inl y2), (3, .inl y3), (4, .inl y4)]) rfl ?_
        exact m_12_act_J68 hU (fun h => m_12_act_L37 hU n h) h
      · rw [if_neg (show ¬ ((C 34 (Int.toNat (ev_w ((104 : Int) + y4)))) ≠ y1) from hc11)] at h
        refine ev_ic eX12_act_63 (by decide) ?_
        refine ev_goto (tgt := 68) eX12_act_64 (by decide) ?_
        refine ev_loc (L' := [(0, .inr (.inl 12)), (1, .inl y1), (2, .inl y2), (3, .inl y3), (4, .inl y4)]) rfl ?_
        exact m_12_act_J68 hU (fun h => m_12_act_L37 hU n h) h
set_option maxRecDepth 100000 in
theorem m_12_act (hU : ev_uq ty ev_TR) {C : ev_C} {x1 x2 : Int} {r : Int} {C' : ev_C} (h : f_12_act C x1 x2 = some (r, C')) : ev_Met l D cys ty ck_tags ev_TR kc_201 [.inr (.inl 12), .inl x1, .inl x2] C (fun r0 C0 => r0 = some (.inl r) ∧ C0 = C') := by
  unfold f_12_act at h
  refine ev_enter (by decide +kernel) (by decide +kernel) (Nat.le_of_ble_eq_true rfl) ?_
  show ev_W l D cys ty ck_tags ev_TR kc_201 0 [(0, .inr (.inl 12)), (1, .inl x1), (2, .inl x2)] [] C _
  refine ev_al eX12_act_0 rfl ?_
  refine ev_ic eX12_act_1 (by decide) ?_
  refine ev_putI lk_f hU (ci := 12) (j := 0) (cd := 0) eX12_act_2 (isF (by decide +kernel)) rfl rfl (Or.inl rfl) rfl ?_
  refine ev_il eX12_act_5 rfl ?_
  refine ev_ic eX12_act_6 (by decide) ?_
  refine ev_al eX12_act_7 rfl ?_
  refine ev_getR lk_f (ci := 12) (j := 6) (cd := 3) eX12_act_8 (isF (by decide +kernel)) rfl rfl ?_
  refine ev_ic eX12_act_11 (by decide) ?_
  refine ev_iald eX12_act_12 rfl rfl (by decide) (by decide) ?_
  refine ev_ic eX12_act_13 (by decide) ?_
  refine ev_sub eX12_act_14 ?_
  obtain ⟨r1, C1, hq1, h⟩ := ev_bd_some h
  refine ev_callS (kc := kc_190) (A := [.inl x1, .inl 0, .inl (ev_w (((C 34 3)) - (1 : Int)))]) (T := []) (lk_m.1 _ _ 1 [190, 191, 192, 193, 194, 195, 196, 197, 198, 199] (isM (by decide +kernel)) 190 (by decide)) eX12_act_15 (m_12_isIn hU hq1) rfl rfl (by decide) (by decide) (Nat.le_of_ble_eq_true rfl) ?_
  rintro _ C1 ⟨rfl, rfl⟩
  show ev_W l D cys ty ck_tags ev_TR kc_201 18 [(0, .inr (.inl 12)), (1, .inl x1), (2, .inl x2)] [.inl r1] C1 _
  refine ev_z_eq (tgt := 30) eX12_act_18 (by decide) (fun hc2 => ?_) (fun hc2 => ?_)
  · rw [if_pos (show r1 = 0 from hc2)] at h
    refine ev_ic eX12_act_30 (by decide) ?_
    cases h
    exact ev_iret eX12_act_31 rfl ⟨rfl, rfl⟩
  · rw [if_neg (show ¬ (r1 = 0) from hc2)] at h
    refine ev_il eX12_act_21 rfl ?_
    refine ev_ic eX12_act_22 (by decide) ?_
    refine ev_ic eX12_act_23 (by decide) ?_
    obtain ⟨r3, C3, hq3, h⟩ := ev_bd_some h
    refine ev_callS (kc := kc_190) (A := [.inl x2, .inl 0, .inl 2]) (T := []) (lk_m.1 _ _ 1 [190, 191, 192, 193, 194, 195, 196, 197, 198, 199] (isM (by decide +kernel)) 190 (by decide)) eX12_act_24 (m_12_isIn hU hq3) rfl rfl (by decide) (by decide) (Nat.le_of_ble_eq_true rfl) ?_
    rintro _ C3 ⟨rfl, rfl⟩
    show ev_W l D cys ty ck_tags ev_TR kc_201 27 [(0, .inr (.inl 12)), (1, .inl x1), (2, .inl x2)] [.inl r3] C3 _
    refine ev_z_ne (tgt := 32) eX12_act_27 (by decide) (fun hc4 => ?_) (fun hc4 => ?_)
    · rw [if_pos (show r3 ≠ 0 from hc4)] at h
      refine ev_ic eX12_act_32 (by decide) ?_
      refine ev_is (L' := [(3, .inl 0), (0, .inr (.inl 12)), (1, .inl x1), (2, .inl x2)]) eX12_act_33 (by decide) rfl ?_
      refine ev_ic eX12_act_34 (by decide) ?_
      refine ev_isw (L' := [(4, .inl 0), (3, .inl 0), (0, .inr (.inl 12)), (1, .inl x1), (2, .inl x2)]) eX12_act_35 (by decide) rfl ?_
      refine ev_loc (L' := [(0, .inr (.inl 12)), (1, .inl x1), (2, .inl x2), (3, .inl 0), (4, .inl 0)]) rfl ?_
      exact m_12_act_L37 hU 1000 h
    · rw [if_neg (show ¬ (r3 ≠ 0) from hc4)] at h
      refine ev_ic eX12_act_30 (by decide) ?_
      cases h
      exact ev_iret eX12_act_31 rfl ⟨rfl, rfl⟩
theorem eX11_scene_0 : decode cX11_scene 0 = .ok (.iload_n 1, 1) := by decide +kernel
theorem eX11_scene_1 : decode cX11_scene 1 = .ok (.ifCond .lt 14, 3) := by decide +kernel
theorem eX11_scene_4 : decode cX11_scene 4 = .ok (.iload_n 1, 1) := by decide +kernel
theorem eX11_scene_5 : decode cX11_scene 5 = .ok (.aload_n 0, 1) := by decide +kernel
theorem eX11_scene_6 : decode cX11_scene 6 = .ok (.getfield 26, 3) := by decide +kernel
theorem eX11_scene_9 : decode cX11_scene 9 = .ok (.getfield 210, 3) := by decide +kernel
theorem eX11_scene_12 : decode cX11_scene 12 = .ok (.if_icmp .lt 5, 3) := by decide +kernel
theorem eX11_scene_15 : decode cX11_scene 15 = .ok (.iconst (-1), 1) := by decide +kernel
theorem eX11_scene_16 : decode cX11_scene 16 = .ok (.ireturn, 1) := by decide +kernel
theorem eX11_scene_17 : decode cX11_scene 17 = .ok (.iload_n 2, 1) := by decide +kernel
theorem eX11_scene_18 : decode cX11_scene 18 = .ok (.tableswitch 56 0 2 #[26, 36, 46], 26) := by decide +kernel
theorem eX11_scene_44 : decode cX11_scene 44 = .ok (.aload_n 0, 1) := by decide +kernel
theorem eX11_scene_45 : decode cX11_scene 45 = .ok (.getfield 26, 3) := by decide +kernel
theorem eX11_scene_48 : decode cX11_scene 48 = .ok (.getfield 213, 3) := by decide +kernel
theorem eX11_scene_51 : decode cX11_scene 51 = .ok (.iload_n 1, 1) := by decide +kernel
theorem eX11_scene_52 : decode cX11_scene 52 = .ok (.iaload, 1) := by decide +kernel
theorem eX11_scene_53 : decode cX11_scene 53 = .ok (.ireturn, 1) := by decide +kernel
theorem eX11_scene_54 : decode cX11_scene 54 = .ok (.aload_n 0, 1) := by decide +kernel
theorem eX11_scene_55 : decode cX11_scene 55 = .ok (.getfield 26, 3) := by decide +kernel
theorem eX11_scene_58 : decode cX11_scene 58 = .ok (.getfield 216, 3) := by decide +kernel
theorem eX11_scene_61 : decode cX11_scene 61 = .ok (.iload_n 1, 1) := by decide +kernel
theorem eX11_scene_62 : decode cX11_scene 62 = .ok (.iaload, 1) := by decide +kernel
theorem eX11_scene_63 : decode cX11_scene 63 = .ok (.ireturn, 1) := by decide +kernel
theorem eX11_scene_64 : decode cX11_scene 64 = .ok (.aload_n 0, 1) := by decide +kernel
theorem eX11_scene_65 : decode cX11_scene 65 = .ok (.getfield 26, 3) := by decide +kernel
theorem eX11_scene_68 : decode cX11_scene 68 = .ok (.getfield 219, 3) := by decide +kernel
theorem eX11_scene_71 : decode cX11_scene 71 = .ok (.iload_n 1, 1) := by decide +kernel
theorem eX11_scene_72 : decode cX11_scene 72 = .ok (.iaload, 1) := by decide +kernel
theorem eX11_scene_73 : decode cX11_scene 73 = .ok (.ireturn, 1) := by decide +kernel
theorem eX11_scene_74 : decode cX11_scene 74 = .ok (.iconst (-1), 1) := by decide +kernel
theorem eX11_scene_75 : decode cX11_scene 75 = .ok (.ireturn, 1) := by decide +kernel
set_option maxRecDepth 100000 in
theorem m_11_scene (hU : ev_uq ty ev_TR) {C : ev_C} {x1 x2 : Int} {r : Int} {C' : ev_C} (h : f_11_scene C x1 x2 = some (r, C')) : ev_Met l D cys ty ck_tags ev_TR kc_180 [.inr (.inl 11), .inl x1, .inl x2] C (fun r0 C0 => r0 = some (.inl r) ∧ C0 = C') := by
  unfold f_11_scene at h
  refine ev_enter (by decide +kernel) (by decide +kernel) (Nat.le_of_ble_eq_true rfl) ?_
  show ev_W l D cys ty ck_tags ev_TR kc_180 0 [(0, .inr (.inl 11)), (1, .inl x1), (2, .inl x2)] [] C _
  refine ev_il eX11_scene_0 rfl ?_
  refine ev_z_lt (tgt := 15) eX11_scene_1 (by decide) (fun hc1 => ?_) (fun hc1 => ?_)
  · rw [if_pos (show x1 < 0 from hc1)] at h
    refine ev_ic eX11_scene_15 (by decide) ?_
    cases h
    exact ev_iret eX11_scene_16 rfl ⟨rfl, rfl⟩
  · rw [if_neg (show ¬ (x1 < 0) from hc1)] at h
    refine ev_il eX11_scene_4 rfl ?_
    refine ev_al eX11_scene_5 rfl ?_
    refine ev_getR lk_f (ci := 11) (j := 2) (cd := 3) eX11_scene_6 (isF (by decide +kernel)) rfl rfl ?_
    refine ev_getI lk_f (ci := 6) (j := 4) (cd := 0) eX11_scene_9 (isF (by decide +kernel)) rfl rfl rfl ?_
    refine ev_c_lt (tgt := 17) eX11_scene_12 (by decide) (fun hc2 => ?_) (fun hc2 => ?_)
    · rw [if_pos (show x1 < (C 6 4) from hc2)] at h
      refine ev_il eX11_scene_17 rfl ?_
      by_cases hc3 : x2 = 0
      · rw [if_pos hc3] at h
        refine ev_tin (j := 0) (tgt := 44) eX11_scene_18 hc3 (by decide) rfl (by decide) ?_
        refine ev_al eX11_scene_44 rfl ?_
        refine ev_getR lk_f (ci := 11) (j := 2) (cd := 3) eX11_scene_45 (isF (by decide +kernel)) rfl rfl ?_
        refine ev_getR lk_f (ci := 6) (j := 17) (cd := 3) eX11_scene_48 (isF (by decide +kernel)) rfl rfl ?_
        refine ev_il eX11_scene_51 rfl ?_
        obtain ⟨hb4, h⟩ := ev_gd h
        refine ev_iald eX11_scene_52 rfl rfl hb4.1 hb4.2 ?_
        cases h
        exact ev_iret eX11_scene_53 rfl ⟨rfl, rfl⟩
      rw [if_neg hc3] at h
      by_cases hc5 : x2 = 1
      · rw [if_pos hc5] at h
        refine ev_tin (j := 1) (tgt := 54) eX11_scene_18 hc5 (by decide) rfl (by decide) ?_
        refine ev_al eX11_scene_54 rfl ?_
        refine ev_getR lk_f (ci := 11) (j := 2) (cd := 3) eX11_scene_55 (isF (by decide +kernel)) rfl rfl ?_
        refine ev_getR lk_f (ci := 6) (j := 18) (cd := 3) eX11_scene_58 (isF (by decide +kernel)) rfl rfl ?_
        refine ev_il eX11_scene_61 rfl ?_
        obtain ⟨hb6, h⟩ := ev_gd h
        refine ev_iald eX11_scene_62 rfl rfl hb6.1 hb6.2 ?_
        cases h
        exact ev_iret eX11_scene_63 rfl ⟨rfl, rfl⟩
      rw [if_neg hc5] at h
      by_cases hc7 : x2 = 2
      · rw [if_pos hc7] at h
        refine ev_tin (j := 2) (tgt := 64) eX11_scene_18 hc7 (by decide) rfl (by decide) ?_
        refine ev_al eX11_scene_64 rfl ?_
        refine ev_getR lk_f (ci := 11) (j := 2) (cd := 3) eX11_scene_65 (isF (by decide +kernel)) rfl rfl ?_
        refine ev_getR lk_f (ci := 6) (j := 19) (cd := 3) eX11_scene_68 (isF (by decide +kernel)) rfl rfl ?_
        refine ev_il eX11_scene_71 rfl ?_
        obtain ⟨hb8, h⟩ := ev_gd h
        refine ev_iald eX11_scene_72 rfl rfl hb8.1 hb8.2 ?_
        cases h
        exact ev_iret eX11_scene_73 rfl ⟨rfl, rfl⟩
      rw [if_neg hc7] at h
      refine ev_tout (tgt := 74) eX11_scene_18 (by omega) (by decide) ?_
      refine ev_ic eX11_scene_74 (by decide) ?_
      cases h
      exact ev_iret eX11_scene_75 rfl ⟨rfl, rfl⟩
    · rw [if_neg (show ¬ (x1 < (C 6 4)) from hc2)] at h
      refine ev_ic eX11_scene_15 (by decide) ?_
      cases h
      exact ev_iret eX11_scene_16 rfl ⟨rfl, rfl⟩
theorem eX12_scene_0 : decode cX12_scene 0 = .ok (.aload_n 0, 1) := by decide +kernel
theorem eX12_scene_1 : decode cX12_scene 1 = .ok (.iconst 0, 1) := by decide +kernel
theorem eX12_scene_2 : decode cX12_scene 2 = .ok (.putfield 1, 3) := by decide +kernel
theorem eX12_scene_5 : decode cX12_scene 5 = .ok (.iload_n 1, 1) := by decide +kernel
theorem eX12_scene_6 : decode cX12_scene 6 = .ok (.iconst 0, 1) := by decide +kernel
theorem eX12_scene_7 : decode cX12_scene 7 = .ok (.aload_n 0, 1) := by decide +kernel
theorem eX12_scene_8 : decode cX12_scene 8 = .ok (.getfield 33, 3) := by decide +kernel
theorem eX12_scene_11 : decode cX12_scene 11 = .ok (.iconst 4, 1) := by decide +kernel
theorem eX12_scene_12 : decode cX12_scene 12 = .ok (.iaload, 1) := by decide +kernel
theorem eX12_scene_13 : decode cX12_scene 13 = .ok (.iconst 1, 1) := by decide +kernel
theorem eX12_scene_14 : decode cX12_scene 14 = .ok (.isub, 1) := by decide +kernel
theorem eX12_scene_15 : decode cX12_scene 15 = .ok (.invokestatic 198, 3) := by decide +kernel
theorem eX12_scene_18 : decode cX12_scene 18 = .ok (.ifCond .ne 5, 3) := by decide +kernel
theorem eX12_scene_21 : decode cX12_scene 21 = .ok (.iconst (-1), 1) := by decide +kernel
theorem eX12_scene_22 : decode cX12_scene 22 = .ok (.ireturn, 1) := by decide +kernel
theorem eX12_scene_23 : decode cX12_scene 23 = .ok (.iload_n 2, 1) := by decide +kernel
theorem eX12_scene_24 : decode cX12_scene 24 = .ok (.ifCond .ne 15, 3) := by decide +kernel
theorem eX12_scene_27 : decode cX12_scene 27 = .ok (.aload_n 0, 1) := by decide +kernel
theorem eX12_scene_28 : decode cX12_scene 28 = .ok (.getfield 33, 3) := by decide +kernel
theorem eX12_scene_31 : decode cX12_scene 31 = .ok (.bipush 104, 2) := by decide +kernel
theorem eX12_scene_33 : decode cX12_scene 33 = .ok (.iload_n 1, 1) := by decide +kernel
theorem eX12_scene_34 : decode cX12_scene 34 = .ok (.iadd, 1) := by decide +kernel
theorem eX12_scene_35 : decode cX12_scene 35 = .ok (.iaload, 1) := by decide +kernel
theorem eX12_scene_36 : decode cX12_scene 36 = .ok (.goto 39, 3) := by decide +kernel
theorem eX12_scene_39 : decode cX12_scene 39 = .ok (.iload_n 2, 1) := by decide +kernel
theorem eX12_scene_40 : decode cX12_scene 40 = .ok (.iconst 1, 1) := by decide +kernel
theorem eX12_scene_41 : decode cX12_scene 41 = .ok (.if_icmp .ne 15, 3) := by decide +kernel
theorem eX12_scene_44 : decode cX12_scene 44 = .ok (.aload_n 0, 1) := by decide +kernel
theorem eX12_scene_45 : decode cX12_scene 45 = .ok (.getfield 33, 3) := by decide +kernel
theorem eX12_scene_48 : decode cX12_scene 48 = .ok (.bipush 116, 2) := by decide +kernel
theorem eX12_scene_50 : decode cX12_scene 50 = .ok (.iload_n 1, 1) := by decide +kernel
theorem eX12_scene_51 : decode cX12_scene 51 = .ok (.iadd, 1) := by decide +kernel
theorem eX12_scene_52 : decode cX12_scene 52 = .ok (.iaload, 1) := by decide +kernel
theorem eX12_scene_53 : decode cX12_scene 53 = .ok (.goto 22, 3) := by decide +kernel
theorem eX12_scene_56 : decode cX12_scene 56 = .ok (.iload_n 2, 1) := by decide +kernel
theorem eX12_scene_57 : decode cX12_scene 57 = .ok (.iconst 2, 1) := by decide +kernel
theorem eX12_scene_58 : decode cX12_scene 58 = .ok (.if_icmp .ne 16, 3) := by decide +kernel
theorem eX12_scene_61 : decode cX12_scene 61 = .ok (.aload_n 0, 1) := by decide +kernel
theorem eX12_scene_62 : decode cX12_scene 62 = .ok (.getfield 33, 3) := by decide +kernel
theorem eX12_scene_65 : decode cX12_scene 65 = .ok (.sipush 128, 3) := by decide +kernel
theorem eX12_scene_68 : decode cX12_scene 68 = .ok (.iload_n 1, 1) := by decide +kernel
theorem eX12_scene_69 : decode cX12_scene 69 = .ok (.iadd, 1) := by decide +kernel
theorem eX12_scene_70 : decode cX12_scene 70 = .ok (.iaload, 1) := by decide +kernel
theorem eX12_scene_71 : decode cX12_scene 71 = .ok (.goto 4, 3) := by decide +kernel
theorem eX12_scene_74 : decode cX12_scene 74 = .ok (.iconst (-1), 1) := by decide +kernel
theorem eX12_scene_75 : decode cX12_scene 75 = .ok (.ireturn, 1) := by decide +kernel
set_option maxRecDepth 100000 in
theorem m_12_scene (hU : ev_uq ty ev_TR) {C : ev_C} {x1 x2 : Int} {r : Int} {C' : ev_C} (h : f_12_scene C x1 x2 = some (r, C')) : ev_Met l D cys ty ck_tags ev_TR kc_267 [.inr (.inl 12), .inl x1, .inl x2] C (fun r0 C0 => r0 = some (.inl r) ∧ C0 = C') := by
  unfold f_12_scene at h
  refine ev_enter (by decide +kernel) (by decide +kernel) (Nat.le_of_ble_eq_true rfl) ?_
  show ev_W l D cys ty ck_tags ev_TR kc_267 0 [(0, .inr (.inl 12)), (1, .inl x1), (2, .inl x2)] [] C _
  refine ev_al eX12_scene_0 rfl ?_
  refine ev_ic eX12_scene_1 (by decide) ?_
  refine ev_putI lk_f hU (ci := 12) (j := 0) (cd := 0) eX12_scene_2 (isF (by decide +kernel)) rfl rfl (Or.inl rfl) rfl ?_
  refine ev_il eX12_scene_5 rfl ?_
  refine ev_ic eX12_scene_6 (by decide) ?_
  refine ev_al eX12_scene_7 rfl ?_
  refine ev_getR lk_f (ci := 12) (j := 6) (cd := 3) eX12_scene_8 (isF (by decide +kernel)) rfl rfl ?_
  refine ev_ic eX12_scene_11 (by decide) ?_
  refine ev_iald eX12_scene_12 rfl rfl (by decide) (by decide) ?_
  refine ev_ic eX12_scene_13 (by decide) ?_
  refine ev_sub eX12_scene_14 ?_
  obtain ⟨r1, C1, hq1, h⟩ := ev_bd_some h
  refine ev_callS (kc := kc_190) (A := [.inl x1, .inl 0, .inl (ev_w (((C 34 4)) - (1 : Int)))]) (T := []) (lk_m.1 _ _ 1 [190, 191, 192, 193, 194, 195, 196, 197, 198, 199] (isM (by decide +kernel)) 190 (by decide)) eX12_scene_15 (m_12_isIn hU hq1) rfl rfl (by decide) (by decide) (Nat.le_of_ble_eq_true rfl) ?_
  rintro _ C1 ⟨rfl, rfl⟩
  show ev_W l D cys ty ck_tags ev_TR kc_267 18 [(0, .inr (.inl 12)), (1, .inl x1), (2, .inl x2)] [.inl r1] C1 _
  refine ev_z_ne (tgt := 23) eX12_scene_18 (by decide) (fun hc2 => ?_) (fun hc2 => ?_)
  · rw [if_pos (show r1 ≠ 0 from hc2)] at h
    refine ev_il eX12_scene_23 rfl ?_
    refine ev_z_ne (tgt := 39) eX12_scene_24 (by decide) (fun hc3 => ?_) (fun hc3 => ?_)
    · rw [if_pos (show x2 ≠ 0 from hc3)] at h
      refine ev_il eX12_scene_39 rfl ?_
      refine ev_ic eX12_scene_40 (by decide) ?_
      refine ev_c_ne (tgt := 56) eX12_scene_41 (by decide) (fun hc4 => ?_) (fun hc4 => ?_)
      · rw [if_pos (show x2 ≠ 1 from hc4)] at h
        refine ev_il eX12_scene_56 rfl ?_
        refine ev_ic eX12_scene_57 (by decide) ?_
        refine ev_c_ne (tgt := 74) eX12_scene_58 (by decide) (fun hc5 => ?_) (fun hc5 => ?_)
        · rw [if_pos (show x2 ≠ 2 from hc5)] at h
          refine ev_ic eX12_scene_74 (by decide) ?_
          cases h
          exact ev_iret eX12_scene_75 rfl ⟨rfl, rfl⟩
        · rw [if_neg (show ¬ (x2 ≠ 2) from hc5)] at h
          refine ev_al eX12_scene_61 rfl ?_
          refine ev_getR lk_f (ci := 12) (j := 6) (cd := 3) eX12_scene_62 (isF (by decide +kernel)) rfl rfl ?_
          refine ev_sp eX12_scene_65 (by decide) (by decide) ?_
          refine ev_il eX12_scene_68 rfl ?_
          refine ev_add eX12_scene_69 ?_
          obtain ⟨hb6, h⟩ := ev_gd h
          refine ev_iald eX12_scene_70 rfl rfl hb6.1 hb6.2 ?_
          refine ev_goto (tgt := 75) eX12_scene_71 (by decide) ?_
          cases h
          exact ev_iret eX12_scene_75 rfl ⟨rfl, rfl⟩
      · rw [if_neg (show ¬ (x2 ≠ 1) from hc4)] at h
        refine ev_al eX12_scene_44 rfl ?_
        refine ev_getR lk_f (ci := 12) (j := 6) (cd := 3) eX12_scene_45 (isF (by decide +kernel)) rfl rfl ?_
        refine ev_bp eX12_scene_48 (by decide) (by decide) ?_
        refine ev_il eX12_scene_50 rfl ?_
        refine ev_add eX12_scene_51 ?_
        obtain ⟨hb7, h⟩ := ev_gd h
        refine ev_iald eX12_scene_52 rfl rfl hb7.1 hb7.2 ?_
        refine ev_goto (tgt := 75) eX12_scene_53 (by decide) ?_
        cases h
        exact ev_iret eX12_scene_75 rfl ⟨rfl, rfl⟩
    · rw [if_neg (show ¬ (x2 ≠ 0) from hc3)] at h
      refine ev_al eX12_scene_27 rfl ?_
      refine ev_getR lk_f (ci := 12) (j := 6) (cd := 3) eX12_scene_28 (isF (by decide +kernel)) rfl rfl ?_
      refine ev_bp eX12_scene_31 (by decide) (by decide) ?_
      refine ev_il eX12_scene_33 rfl ?_
      refine ev_add eX12_scene_34 ?_
      obtain ⟨hb8, h⟩ := ev_gd h
      refine ev_iald eX12_scene_35 rfl rfl hb8.1 hb8.2 ?_
      refine ev_goto (tgt := 75) eX12_scene_36 (by decide) ?_
      cases h
      exact ev_iret eX12_scene_75 rfl ⟨rfl, rfl⟩
  · rw [if_neg (show ¬ (r1 ≠ 0) from hc2)] at h
    refine ev_ic eX12_scene_21 (by decide) ?_
    cases h
    exact ev_iret eX12_scene_22 rfl ⟨rfl, rfl⟩
end GX
