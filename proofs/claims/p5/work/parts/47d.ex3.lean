/-! THE EXACT LOGIC: the reference's reader (printed by a program of ours). -/
section GX
variable {l : Launch} {D : va_G} {cys : Nat → ClassId} {ty : Nat → Option Nat}
theorem eX12_peek_0 : decode cX12_peek 0 = .ok (.aload_n 0, 1) := by decide +kernel
theorem eX12_peek_1 : decode cX12_peek 1 = .ok (.getfield 21, 3) := by decide +kernel
theorem eX12_peek_4 : decode cX12_peek 4 = .ok (.aload_n 0, 1) := by decide +kernel
theorem eX12_peek_5 : decode cX12_peek 5 = .ok (.getfield 18, 3) := by decide +kernel
theorem eX12_peek_8 : decode cX12_peek 8 = .ok (.if_icmp .ge 19, 3) := by decide +kernel
theorem eX12_peek_11 : decode cX12_peek 11 = .ok (.aload_n 0, 1) := by decide +kernel
theorem eX12_peek_12 : decode cX12_peek 12 = .ok (.getfield 14, 3) := by decide +kernel
theorem eX12_peek_15 : decode cX12_peek 15 = .ok (.aload_n 0, 1) := by decide +kernel
theorem eX12_peek_16 : decode cX12_peek 16 = .ok (.getfield 21, 3) := by decide +kernel
theorem eX12_peek_19 : decode cX12_peek 19 = .ok (.baload, 1) := by decide +kernel
theorem eX12_peek_20 : decode cX12_peek 20 = .ok (.sipush 255, 3) := by decide +kernel
theorem eX12_peek_23 : decode cX12_peek 23 = .ok (.iand, 1) := by decide +kernel
theorem eX12_peek_24 : decode cX12_peek 24 = .ok (.goto 4, 3) := by decide +kernel
theorem eX12_peek_27 : decode cX12_peek 27 = .ok (.iconst (-1), 1) := by decide +kernel
theorem eX12_peek_28 : decode cX12_peek 28 = .ok (.ireturn, 1) := by decide +kernel
set_option maxRecDepth 100000 in
theorem m_12_peek (hU : ev_uq ty ev_TR) {C : ev_C} {r : Int} {C' : ev_C} (h : f_12_peek C = some (r, C')) : ev_Met l D cys ty ck_tags ev_TR kc_208 [.inr (.inl 12)] C (fun r0 C0 => r0 = some (.inl r) ∧ C0 = C') := by
  unfold f_12_peek at h
  refine ev_enter (by decide +kernel) (by decide +kernel) (Nat.le_of_ble_eq_true rfl) ?_
  show ev_W l D cys ty ck_tags ev_TR kc_208 0 [(0, .inr (.inl 12))] [] C _
  refine ev_al eX12_peek_0 rfl ?_
  refine ev_getI lk_f (ci := 12) (j := 4) (cd := 0) eX12_peek_1 (isF (by decide +kernel)) rfl rfl rfl ?_
  refine ev_al eX12_peek_4 rfl ?_
  refine ev_getI lk_f (ci := 12) (j := 3) (cd := 0) eX12_peek_5 (isF (by decide +kernel)) rfl rfl rfl ?_
  refine ev_c_ge (tgt := 27) eX12_peek_8 (by decide) (fun hc1 => ?_) (fun hc1 => ?_)
  · rw [if_pos (show (C 12 3) ≤ (C 12 4) from hc1)] at h
    refine ev_ic eX12_peek_27 (by decide) ?_
    cases h
    exact ev_iret eX12_peek_28 rfl ⟨rfl, rfl⟩
  · rw [if_neg (show ¬ ((C 12 3) ≤ (C 12 4)) from hc1)] at h
    refine ev_al eX12_peek_11 rfl ?_
    refine ev_getR lk_f (ci := 12) (j := 1) (cd := 3) eX12_peek_12 (isF (by decide +kernel)) rfl rfl ?_
    refine ev_al eX12_peek_15 rfl ?_
    refine ev_getI lk_f (ci := 12) (j := 4) (cd := 0) eX12_peek_16 (isF (by decide +kernel)) rfl rfl rfl ?_
    obtain ⟨hb2, h⟩ := ev_gd h
    refine ev_bald eX12_peek_19 rfl rfl hb2.1 hb2.2 ?_
    refine ev_sp eX12_peek_20 (by decide) (by decide) ?_
    refine ev_iand eX12_peek_23 ?_
    refine ev_goto (tgt := 28) eX12_peek_24 (by decide) ?_
    cases h
    exact ev_iret eX12_peek_28 rfl ⟨rfl, rfl⟩
theorem eX12_isSmall_0 : decode cX12_isSmall 0 = .ok (.iload_n 0, 1) := by decide +kernel
theorem eX12_isSmall_1 : decode cX12_isSmall 1 = .ok (.bipush 97, 2) := by decide +kernel
theorem eX12_isSmall_3 : decode cX12_isSmall 3 = .ok (.if_icmp .lt 13, 3) := by decide +kernel
theorem eX12_isSmall_6 : decode cX12_isSmall 6 = .ok (.iload_n 0, 1) := by decide +kernel
theorem eX12_isSmall_7 : decode cX12_isSmall 7 = .ok (.bipush 122, 2) := by decide +kernel
theorem eX12_isSmall_9 : decode cX12_isSmall 9 = .ok (.if_icmp .gt 7, 3) := by decide +kernel
theorem eX12_isSmall_12 : decode cX12_isSmall 12 = .ok (.iconst 1, 1) := by decide +kernel
theorem eX12_isSmall_13 : decode cX12_isSmall 13 = .ok (.goto 4, 3) := by decide +kernel
theorem eX12_isSmall_16 : decode cX12_isSmall 16 = .ok (.iconst 0, 1) := by decide +kernel
theorem eX12_isSmall_17 : decode cX12_isSmall 17 = .ok (.ireturn, 1) := by decide +kernel
set_option maxRecDepth 100000 in
theorem m_12_isSmall (hU : ev_uq ty ev_TR) {C : ev_C} {x0 : Int} {r : Int} {C' : ev_C} (h : f_12_isSmall C x0 = some (r, C')) : ev_Met l D cys ty ck_tags ev_TR kc_207 [.inl x0] C (fun r0 C0 => r0 = some (.inl r) ∧ C0 = C') := by
  unfold f_12_isSmall at h
  refine ev_enter (by decide +kernel) (by decide +kernel) (Nat.le_of_ble_eq_true rfl) ?_
  show ev_W l D cys ty ck_tags ev_TR kc_207 0 [(0, .inl x0)] [] C _
  refine ev_il eX12_isSmall_0 rfl ?_
  refine ev_bp eX12_isSmall_1 (by decide) (by decide) ?_
  refine ev_c_lt (tgt := 16) eX12_isSmall_3 (by decide) (fun hc1 => ?_) (fun hc1 => ?_)
  · rw [if_pos (show x0 < 97 from hc1)] at h
    refine ev_ic eX12_isSmall_16 (by decide) ?_
    cases h
    exact ev_zret eX12_isSmall_17 rfl (by decide) ⟨rfl, rfl⟩
  · rw [if_neg (show ¬ (x0 < 97) from hc1)] at h
    refine ev_il eX12_isSmall_6 rfl ?_
    refine ev_bp eX12_isSmall_7 (by decide) (by decide) ?_
    refine ev_c_gt (tgt := 16) eX12_isSmall_9 (by decide) (fun hc2 => ?_) (fun hc2 => ?_)
    · rw [if_pos (show 122 < x0 from hc2)] at h
      refine ev_ic eX12_isSmall_16 (by decide) ?_
      cases h
      exact ev_zret eX12_isSmall_17 rfl (by decide) ⟨rfl, rfl⟩
    · rw [if_neg (show ¬ (122 < x0) from hc2)] at h
      refine ev_ic eX12_isSmall_12 (by decide) ?_
      refine ev_goto (tgt := 17) eX12_isSmall_13 (by decide) ?_
      cases h
      exact ev_zret eX12_isSmall_17 rfl (by decide) ⟨rfl, rfl⟩
theorem eX12_isDigit_0 : decode cX12_isDigit 0 = .ok (.iload_n 0, 1) := by decide +kernel
theorem eX12_isDigit_1 : decode cX12_isDigit 1 = .ok (.bipush 48, 2) := by decide +kernel
theorem eX12_isDigit_3 : decode cX12_isDigit 3 = .ok (.if_icmp .lt 13, 3) := by decide +kernel
theorem eX12_isDigit_6 : decode cX12_isDigit 6 = .ok (.iload_n 0, 1) := by decide +kernel
theorem eX12_isDigit_7 : decode cX12_isDigit 7 = .ok (.bipush 57, 2) := by decide +kernel
theorem eX12_isDigit_9 : decode cX12_isDigit 9 = .ok (.if_icmp .gt 7, 3) := by decide +kernel
theorem eX12_isDigit_12 : decode cX12_isDigit 12 = .ok (.iconst 1, 1) := by decide +kernel
theorem eX12_isDigit_13 : decode cX12_isDigit 13 = .ok (.goto 4, 3) := by decide +kernel
theorem eX12_isDigit_16 : decode cX12_isDigit 16 = .ok (.iconst 0, 1) := by decide +kernel
theorem eX12_isDigit_17 : decode cX12_isDigit 17 = .ok (.ireturn, 1) := by decide +kernel
set_option maxRecDepth 100000 in
theorem m_12_isDigit (hU : ev_uq ty ev_TR) {C : ev_C} {x0 : Int} {r : Int} {C' : ev_C} (h : f_12_isDigit C x0 = some (r, C')) : ev_Met l D cys ty ck_tags ev_TR kc_206 [.inl x0] C (fun r0 C0 => r0 = some (.inl r) ∧ C0 = C') := by
  unfold f_12_isDigit at h
  refine ev_enter (by decide +kernel) (by decide +kernel) (Nat.le_of_ble_eq_true rfl) ?_
  show ev_W l D cys ty ck_tags ev_TR kc_206 0 [(0, .inl x0)] [] C _
  refine ev_il eX12_isDigit_0 rfl ?_
  refine ev_bp eX12_isDigit_1 (by decide) (by decide) ?_
  refine ev_c_lt (tgt := 16) eX12_isDigit_3 (by decide) (fun hc1 => ?_) (fun hc1 => ?_)
  · rw [if_pos (show x0 < 48 from hc1)] at h
    refine ev_ic eX12_isDigit_16 (by decide) ?_
    cases h
    exact ev_zret eX12_isDigit_17 rfl (by decide) ⟨rfl, rfl⟩
  · rw [if_neg (show ¬ (x0 < 48) from hc1)] at h
    refine ev_il eX12_isDigit_6 rfl ?_
    refine ev_bp eX12_isDigit_7 (by decide) (by decide) ?_
    refine ev_c_gt (tgt := 16) eX12_isDigit_9 (by decide) (fun hc2 => ?_) (fun hc2 => ?_)
    · rw [if_pos (show 57 < x0 from hc2)] at h
      refine ev_ic eX12_isDigit_16 (by decide) ?_
      cases h
      exact ev_zret eX12_isDigit_17 rfl (by decide) ⟨rfl, rfl⟩
    · rw [if_neg (show ¬ (57 < x0) from hc2)] at h
      refine ev_ic eX12_isDigit_12 (by decide) ?_
      refine ev_goto (tgt := 17) eX12_isDigit_13 (by decide) ?_
      cases h
      exact ev_zret eX12_isDigit_17 rfl (by decide) ⟨rfl, rfl⟩
theorem eX12_go_0 : decode cX12_go 0 = .ok (.aload_n 0, 1) := by decide +kernel
theorem eX12_go_1 : decode cX12_go 1 = .ok (.invokevirtual 156, 3) := by decide +kernel
theorem eX12_go_4 : decode cX12_go 4 = .ok (.bipush 32, 2) := by decide +kernel
theorem eX12_go_6 : decode cX12_go 6 = .ok (.if_icmp .eq 12, 3) := by decide +kernel
theorem eX12_go_9 : decode cX12_go 9 = .ok (.aload_n 0, 1) := by decide +kernel
theorem eX12_go_10 : decode cX12_go 10 = .ok (.invokevirtual 156, 3) := by decide +kernel
theorem eX12_go_13 : decode cX12_go 13 = .ok (.bipush 10, 2) := by decide +kernel
theorem eX12_go_15 : decode cX12_go 15 = .ok (.if_icmp .ne 16, 3) := by decide +kernel
theorem eX12_go_18 : decode cX12_go 18 = .ok (.aload_n 0, 1) := by decide +kernel
theorem eX12_go_19 : decode cX12_go 19 = .ok (.dup, 1) := by decide +kernel
theorem eX12_go_20 : decode cX12_go 20 = .ok (.getfield 21, 3) := by decide +kernel
theorem eX12_go_23 : decode cX12_go 23 = .ok (.iconst 1, 1) := by decide +kernel
theorem eX12_go_24 : decode cX12_go 24 = .ok (.iadd, 1) := by decide +kernel
theorem eX12_go_25 : decode cX12_go 25 = .ok (.putfield 21, 3) := by decide +kernel
theorem eX12_go_28 : decode cX12_go 28 = .ok (.goto (-28), 3) := by decide +kernel
theorem eX12_go_31 : decode cX12_go 31 = .ok (.aload_n 0, 1) := by decide +kernel
theorem eX12_go_32 : decode cX12_go 32 = .ok (.aload_n 0, 1) := by decide +kernel
theorem eX12_go_33 : decode cX12_go 33 = .ok (.getfield 21, 3) := by decide +kernel
theorem eX12_go_36 : decode cX12_go 36 = .ok (.putfield 160, 3) := by decide +kernel
theorem eX12_go_39 : decode cX12_go 39 = .ok (.aload_n 0, 1) := by decide +kernel
theorem eX12_go_40 : decode cX12_go 40 = .ok (.iconst 0, 1) := by decide +kernel
theorem eX12_go_41 : decode cX12_go 41 = .ok (.putfield 163, 3) := by decide +kernel
theorem eX12_go_44 : decode cX12_go 44 = .ok (.aload_n 0, 1) := by decide +kernel
theorem eX12_go_45 : decode cX12_go 45 = .ok (.getfield 18, 3) := by decide +kernel
theorem eX12_go_48 : decode cX12_go 48 = .ok (.aload_n 0, 1) := by decide +kernel
theorem eX12_go_49 : decode cX12_go 49 = .ok (.getfield 24, 3) := by decide +kernel
theorem eX12_go_52 : decode cX12_go 52 = .ok (.if_icmp .le 28, 3) := by decide +kernel
theorem eX12_go_55 : decode cX12_go 55 = .ok (.aload_n 0, 1) := by decide +kernel
theorem eX12_go_56 : decode cX12_go 56 = .ok (.getfield 21, 3) := by decide +kernel
theorem eX12_go_59 : decode cX12_go 59 = .ok (.aload_n 0, 1) := by decide +kernel
theorem eX12_go_60 : decode cX12_go 60 = .ok (.getfield 24, 3) := by decide +kernel
theorem eX12_go_63 : decode cX12_go 63 = .ok (.if_icmp .lt 17, 3) := by decide +kernel
theorem eX12_go_66 : decode cX12_go 66 = .ok (.aload_n 0, 1) := by decide +kernel
theorem eX12_go_67 : decode cX12_go 67 = .ok (.aload_n 0, 1) := by decide +kernel
theorem eX12_go_68 : decode cX12_go 68 = .ok (.getfield 24, 3) := by decide +kernel
theorem eX12_go_71 : decode cX12_go 71 = .ok (.putfield 160, 3) := by decide +kernel
theorem eX12_go_74 : decode cX12_go 74 = .ok (.aload_n 0, 1) := by decide +kernel
theorem eX12_go_75 : decode cX12_go 75 = .ok (.iconst 4, 1) := by decide +kernel
theorem eX12_go_76 : decode cX12_go 76 = .ok (.putfield 166, 3) := by decide +kernel
theorem eX12_go_79 : decode cX12_go 79 = .ok (.return_, 1) := by decide +kernel
theorem eX12_go_80 : decode cX12_go 80 = .ok (.aload_n 0, 1) := by decide +kernel
theorem eX12_go_81 : decode cX12_go 81 = .ok (.invokevirtual 156, 3) := by decide +kernel
theorem eX12_go_84 : decode cX12_go 84 = .ok (.istore_n 1, 1) := by decide +kernel
theorem eX12_go_85 : decode cX12_go 85 = .ok (.iload_n 1, 1) := by decide +kernel
theorem eX12_go_86 : decode cX12_go 86 = .ok (.ifCond .ge 9, 3) := by decide +kernel
theorem eX12_go_89 : decode cX12_go 89 = .ok (.aload_n 0, 1) := by decide +kernel
theorem eX12_go_90 : decode cX12_go 90 = .ok (.iconst 0, 1) := by decide +kernel
theorem eX12_go_91 : decode cX12_go 91 = .ok (.putfield 166, 3) := by decide +kernel
theorem eX12_go_94 : decode cX12_go 94 = .ok (.return_, 1) := by decide +kernel
theorem eX12_go_95 : decode cX12_go 95 = .ok (.iload_n 1, 1) := by decide +kernel
theorem eX12_go_96 : decode cX12_go 96 = .ok (.invokestatic 169, 3) := by decide +kernel
theorem eX12_go_99 : decode cX12_go 99 = .ok (.ifCond .ne 65, 3) := by decide +kernel
theorem eX12_go_102 : decode cX12_go 102 = .ok (.iload_n 1, 1) := by decide +kernel
theorem eX12_go_103 : decode cX12_go 103 = .ok (.invokestatic 173, 3) := by decide +kernel
theorem eX12_go_106 : decode cX12_go 106 = .ok (.ifCond .ne 58, 3) := by decide +kernel
theorem eX12_go_109 : decode cX12_go 109 = .ok (.aload_n 0, 1) := by decide +kernel
theorem eX12_go_110 : decode cX12_go 110 = .ok (.iload_n 1, 1) := by decide +kernel
theorem eX12_go_111 : decode cX12_go 111 = .ok (.bipush 59, 2) := by decide +kernel
theorem eX12_go_113 : decode cX12_go 113 = .ok (.if_icmp .eq 27, 3) := by decide +kernel
theorem eX12_go_116 : decode cX12_go 116 = .ok (.iload_n 1, 1) := by decide +kernel
theorem eX12_go_117 : decode cX12_go 117 = .ok (.bipush 40, 2) := by decide +kernel
theorem eX12_go_119 : decode cX12_go 119 = .ok (.if_icmp .eq 21, 3) := by decide +kernel
theorem eX12_go_122 : decode cX12_go 122 = .ok (.iload_n 1, 1) := by decide +kernel
theorem eX12_go_123 : decode cX12_go 123 = .ok (.bipush 41, 2) := by decide +kernel
theorem eX12_go_125 : decode cX12_go 125 = .ok (.if_icmp .eq 15, 3) := by decide +kernel
theorem eX12_go_128 : decode cX12_go 128 = .ok (.iload_n 1, 1) := by decide +kernel
theorem eX12_go_129 : decode cX12_go 129 = .ok (.bipush 60, 2) := by decide +kernel
theorem eX12_go_131 : decode cX12_go 131 = .ok (.if_icmp .lt 13, 3) := by decide +kernel
theorem eX12_go_134 : decode cX12_go 134 = .ok (.iload_n 1, 1) := by decide +kernel
theorem eX12_go_135 : decode cX12_go 135 = .ok (.bipush 62, 2) := by decide +kernel
theorem eX12_go_137 : decode cX12_go 137 = .ok (.if_icmp .gt 7, 3) := by decide +kernel
theorem eX12_go_140 : decode cX12_go 140 = .ok (.iconst 3, 1) := by decide +kernel
theorem eX12_go_141 : decode cX12_go 141 = .ok (.goto 4, 3) := by decide +kernel
theorem eX12_go_144 : decode cX12_go 144 = .ok (.iconst 4, 1) := by decide +kernel
theorem eX12_go_145 : decode cX12_go 145 = .ok (.putfield 166, 3) := by decide +kernel
theorem eX12_go_148 : decode cX12_go 148 = .ok (.aload_n 0, 1) := by decide +kernel
theorem eX12_go_149 : decode cX12_go 149 = .ok (.iload_n 1, 1) := by decide +kernel
theorem eX12_go_150 : decode cX12_go 150 = .ok (.putfield 176, 3) := by decide +kernel
theorem eX12_go_153 : decode cX12_go 153 = .ok (.aload_n 0, 1) := by decide +kernel
theorem eX12_go_154 : decode cX12_go 154 = .ok (.dup, 1) := by decide +kernel
theorem eX12_go_155 : decode cX12_go 155 = .ok (.getfield 21, 3) := by decide +kernel
theorem eX12_go_158 : decode cX12_go 158 = .ok (.iconst 1, 1) := by decide +kernel
theorem eX12_go_159 : decode cX12_go 159 = .ok (.iadd, 1) := by decide +kernel
theorem eX12_go_160 : decode cX12_go 160 = .ok (.putfield 21, 3) := by decide +kernel
theorem eX12_go_163 : decode cX12_go 163 = .ok (.return_, 1) := by decide +kernel
theorem eX12_go_164 : decode cX12_go 164 = .ok (.iload_n 1, 1) := by decide +kernel
theorem eX12_go_165 : decode cX12_go 165 = .ok (.invokestatic 169, 3) := by decide +kernel
theorem eX12_go_168 : decode cX12_go 168 = .ok (.istore_n 2, 1) := by decide +kernel
theorem eX12_go_169 : decode cX12_go 169 = .ok (.iconst 1, 1) := by decide +kernel
theorem eX12_go_170 : decode cX12_go 170 = .ok (.istore_n 3, 1) := by decide +kernel
theorem eX12_go_171 : decode cX12_go 171 = .ok (.aload_n 0, 1) := by decide +kernel
theorem eX12_go_172 : decode cX12_go 172 = .ok (.lconst 0, 1) := by decide +kernel
theorem eX12_go_173 : decode cX12_go 173 = .ok (.putfield 179, 3) := by decide +kernel
theorem eX12_go_176 : decode cX12_go 176 = .ok (.aload_n 0, 1) := by decide +kernel
theorem eX12_go_177 : decode cX12_go 177 = .ok (.iconst 0, 1) := by decide +kernel
theorem eX12_go_178 : decode cX12_go 178 = .ok (.putfield 176, 3) := by decide +kernel
theorem eX12_go_181 : decode cX12_go 181 = .ok (.aload_n 0, 1) := by decide +kernel
theorem eX12_go_182 : decode cX12_go 182 = .ok (.invokevirtual 156, 3) := by decide +kernel
theorem eX12_go_185 : decode cX12_go 185 = .ok (.invokestatic 169, 3) := by decide +kernel
theorem eX12_go_188 : decode cX12_go 188 = .ok (.ifCond .ne 13, 3) := by decide +kernel
theorem eX12_go_191 : decode cX12_go 191 = .ok (.aload_n 0, 1) := by decide +kernel
theorem eX12_go_192 : decode cX12_go 192 = .ok (.invokevirtual 156, 3) := by decide +kernel
theorem eX12_go_195 : decode cX12_go 195 = .ok (.invokestatic 173, 3) := by decide +kernel
theorem eX12_go_198 : decode cX12_go 198 = .ok (.ifCond .eq 100, 3) := by decide +kernel
theorem eX12_go_201 : decode cX12_go 201 = .ok (.iload_n 3, 1) := by decide +kernel
theorem eX12_go_202 : decode cX12_go 202 = .ok (.ifCond .eq 18, 3) := by decide +kernel
theorem eX12_go_205 : decode cX12_go 205 = .ok (.aload_n 0, 1) := by decide +kernel
theorem eX12_go_206 : decode cX12_go 206 = .ok (.invokevirtual 156, 3) := by decide +kernel
theorem eX12_go_209 : decode cX12_go 209 = .ok (.invokestatic 169, 3) := by decide +kernel
theorem eX12_go_212 : decode cX12_go 212 = .ok (.iload_n 2, 1) := by decide +kernel
theorem eX12_go_213 : decode cX12_go 213 = .ok (.if_icmp .ne 7, 3) := by decide +kernel
theorem eX12_go_216 : decode cX12_go 216 = .ok (.iconst 1, 1) := by decide +kernel
theorem eX12_go_217 : decode cX12_go 217 = .ok (.goto 4, 3) := by decide +kernel
theorem eX12_go_220 : decode cX12_go 220 = .ok (.iconst 0, 1) := by decide +kernel
theorem eX12_go_221 : decode cX12_go 221 = .ok (.istore_n 3, 1) := by decide +kernel
theorem eX12_go_222 : decode cX12_go 222 = .ok (.aload_n 0, 1) := by decide +kernel
theorem eX12_go_223 : decode cX12_go 223 = .ok (.getfield 163, 3) := by decide +kernel
theorem eX12_go_226 : decode cX12_go 226 = .ok (.bipush 7, 2) := by decide +kernel
theorem eX12_go_228 : decode cX12_go 228 = .ok (.if_icmp .ge 20, 3) := by decide +kernel
theorem eX12_go_231 : decode cX12_go 231 = .ok (.aload_n 0, 1) := by decide +kernel
theorem eX12_go_232 : decode cX12_go 232 = .ok (.aload_n 0, 1) := by decide +kernel
theorem eX12_go_233 : decode cX12_go 233 = .ok (.getfield 179, 3) := by decide +kernel
theorem eX12_go_236 : decode cX12_go 236 = .ok (.bipush 8, 2) := by decide +kernel
theorem eX12_go_238 : decode cX12_go 238 = .ok (.lshl, 1) := by decide +kernel
theorem eX12_go_239 : decode cX12_go 239 = .ok (.aload_n 0, 1) := by decide +kernel
theorem eX12_go_240 : decode cX12_go 240 = .ok (.invokevirtual 156, 3) := by decide +kernel
theorem eX12_go_243 : decode cX12_go 243 = .ok (.i2l, 1) := by decide +kernel
theorem eX12_go_244 : decode cX12_go 244 = .ok (.lor, 1) := by decide +kernel
theorem eX12_go_245 : decode cX12_go 245 = .ok (.putfield 179, 3) := by decide +kernel
theorem eX12_go_248 : decode cX12_go 248 = .ok (.aload_n 0, 1) := by decide +kernel
theorem eX12_go_249 : decode cX12_go 249 = .ok (.getfield 163, 3) := by decide +kernel
theorem eX12_go_252 : decode cX12_go 252 = .ok (.iconst 2, 1) := by decide +kernel
theorem eX12_go_253 : decode cX12_go 253 = .ok (.if_icmp .ge 22, 3) := by decide +kernel
theorem eX12_go_256 : decode cX12_go 256 = .ok (.aload_n 0, 1) := by decide +kernel
theorem eX12_go_257 : decode cX12_go 257 = .ok (.bipush 10, 2) := by decide +kernel
theorem eX12_go_259 : decode cX12_go 259 = .ok (.aload_n 0, 1) := by decide +kernel
theorem eX12_go_260 : decode cX12_go 260 = .ok (.getfield 176, 3) := by decide +kernel
theorem eX12_go_263 : decode cX12_go 263 = .ok (.imul, 1) := by decide +kernel
theorem eX12_go_264 : decode cX12_go 264 = .ok (.aload_n 0, 1) := by decide +kernel
theorem eX12_go_265 : decode cX12_go 265 = .ok (.invokevirtual 156, 3) := by decide +kernel
theorem eX12_go_268 : decode cX12_go 268 = .ok (.iadd, 1) := by decide +kernel
theorem eX12_go_269 : decode cX12_go 269 = .ok (.bipush 48, 2) := by decide +kernel
theorem eX12_go_271 : decode cX12_go 271 = .ok (.isub, 1) := by decide +kernel
theorem eX12_go_272 : decode cX12_go 272 = .ok (.putfield 176, 3) := by decide +kernel
theorem eX12_go_275 : decode cX12_go 275 = .ok (.aload_n 0, 1) := by decide +kernel
theorem eX12_go_276 : decode cX12_go 276 = .ok (.dup, 1) := by decide +kernel
theorem eX12_go_277 : decode cX12_go 277 = .ok (.getfield 163, 3) := by decide +kernel
theorem eX12_go_280 : decode cX12_go 280 = .ok (.iconst 1, 1) := by decide +kernel
theorem eX12_go_281 : decode cX12_go 281 = .ok (.iadd, 1) := by decide +kernel
theorem eX12_go_282 : decode cX12_go 282 = .ok (.putfield 163, 3) := by decide +kernel
theorem eX12_go_285 : decode cX12_go 285 = .ok (.aload_n 0, 1) := by decide +kernel
theorem eX12_go_286 : decode cX12_go 286 = .ok (.dup, 1) := by decide +kernel
theorem eX12_go_287 : decode cX12_go 287 = .ok (.getfield 21, 3) := by decide +kernel
theorem eX12_go_290 : decode cX12_go 290 = .ok (.iconst 1, 1) := by decide +kernel
theorem eX12_go_291 : decode cX12_go 291 = .ok (.iadd, 1) := by decide +kernel
theorem eX12_go_292 : decode cX12_go 292 = .ok (.putfield 21, 3) := by decide +kernel
theorem eX12_go_295 : decode cX12_go 295 = .ok (.goto (-114), 3) := by decide +kernel
theorem eX12_go_298 : decode cX12_go 298 = .ok (.aload_n 0, 1) := by decide +kernel
theorem eX12_go_299 : decode cX12_go 299 = .ok (.iload_n 3, 1) := by decide +kernel
theorem eX12_go_300 : decode cX12_go 300 = .ok (.ifCond .eq 20, 3) := by decide +kernel
theorem eX12_go_303 : decode cX12_go 303 = .ok (.aload_n 0, 1) := by decide +kernel
theorem eX12_go_304 : decode cX12_go 304 = .ok (.getfield 163, 3) := by decide +kernel
theorem eX12_go_307 : decode cX12_go 307 = .ok (.iload_n 2, 1) := by decide +kernel
theorem eX12_go_308 : decode cX12_go 308 = .ok (.ifCond .eq 8, 3) := by decide +kernel
theorem eX12_go_311 : decode cX12_go 311 = .ok (.bipush 7, 2) := by decide +kernel
theorem eX12_go_313 : decode cX12_go 313 = .ok (.goto 4, 3) := by decide +kernel
theorem eX12_go_316 : decode cX12_go 316 = .ok (.iconst 2, 1) := by decide +kernel
theorem eX12_go_317 : decode cX12_go 317 = .ok (.if_icmp .le 7, 3) := by decide +kernel
theorem eX12_go_320 : decode cX12_go 320 = .ok (.iconst 4, 1) := by decide +kernel
theorem eX12_go_321 : decode cX12_go 321 = .ok (.goto 12, 3) := by decide +kernel
theorem eX12_go_324 : decode cX12_go 324 = .ok (.iload_n 2, 1) := by decide +kernel
theorem eX12_go_325 : decode cX12_go 325 = .ok (.ifCond .eq 7, 3) := by decide +kernel
theorem eX12_go_328 : decode cX12_go 328 = .ok (.iconst 1, 1) := by decide +kernel
theorem eX12_go_329 : decode cX12_go 329 = .ok (.goto 4, 3) := by decide +kernel
theorem eX12_go_332 : decode cX12_go 332 = .ok (.iconst 2, 1) := by decide +kernel
theorem eX12_go_333 : decode cX12_go 333 = .ok (.putfield 166, 3) := by decide +kernel
theorem eX12_go_336 : decode cX12_go 336 = .ok (.return_, 1) := by decide +kernel
set_option maxRecDepth 100000 in
theorem m_12_go_J18 (hU : ev_uq ty ev_TR) {C' : ev_C} {K0 : ev_C → Option ev_C} (hK0 : ∀ {C : ev_C}, K0 C = some C' → ev_W l D cys ty ck_tags ev_TR kc_209 0 [(0, .inr (.inl 12))] [] C (fun r0 C0 => r0 = none ∧ C0 = C')) {C : ev_C} (h : f_12_go_J18 K0 C = some C') : ev_W l D cys ty ck_tags ev_TR kc_209 18 [(0, .inr (.inl 12))] [] C (fun r0 C0 => r0 = none ∧ C0 = C') := by
  unfold f_12_go_J18 at h
  refine ev_al eX12_go_18 rfl ?_
  refine ev_dup eX12_go_19 rfl ?_
  refine ev_getI lk_f (ci := 12) (j := 4) (cd := 0) eX12_go_20 (isF (by decide +kernel)) rfl rfl rfl ?_
  refine ev_ic eX12_go_23 (by decide) ?_
  refine ev_add eX12_go_24 ?_
  refine ev_putI lk_f hU (ci := 12) (j := 4) (cd := 0) eX12_go_25 (isF (by decide +kernel)) rfl rfl (Or.inl rfl) rfl ?_
  refine ev_goto (tgt := 0) eX12_go_28 (by decide) ?_
  refine ev_loc (L' := [(0, .inr (.inl 12))]) rfl ?_
  exact hK0 h
set_option maxRecDepth 100000 in
theorem m_12_go_J275 (hU : ev_uq ty ev_TR) {C' : ev_C} {K181 : ev_C → Int → Int → Int → Option ev_C} (hK181 : ∀ {C : ev_C} {y1 y2 y3 : Int}, K181 C y1 y2 y3 = some C' → ev_W l D cys ty ck_tags ev_TR kc_209 181 [(0, .inr (.inl 12)), (1, .inl y1), (2, .inl y2), (3, .inl y3)] [] C (fun r0 C0 => r0 = none ∧ C0 = C')) {C : ev_C} {y1 y2 y3 : Int} (h : f_12_go_J275 K181 C y1 y2 y3 = some C') : ev_W l D cys ty ck_tags ev_TR kc_209 275 [(0, .inr (.inl 12)), (1, .inl y1), (2, .inl y2), (3, .inl y3)] [] C (fun r0 C0 => r0 = none ∧ C0 = C') := by
  unfold f_12_go_J275 at h
  refine ev_al eX12_go_275 rfl ?_
  refine ev_dup eX12_go_276 rfl ?_
  refine ev_getI lk_f (ci := 12) (j := 13) (cd := 0) eX12_go_277 (isF (by decide +kernel)) rfl rfl rfl ?_
  refine ev_ic eX12_go_280 (by decide) ?_
  refine ev_add eX12_go_281 ?_
  refine ev_putI lk_f hU (ci := 12) (j := 13) (cd := 0) eX12_go_282 (isF (by decide +kernel)) rfl rfl (Or.inl rfl) rfl ?_
  refine ev_al eX12_go_285 rfl ?_
  refine ev_dup eX12_go_286 rfl ?_
  refine ev_getI lk_f (ci := 12) (j := 4) (cd := 0) eX12_go_287 (isF (by decide +kernel)) rfl rfl rfl ?_
  refine ev_ic eX12_go_290 (by decide) ?_
  refine ev_add eX12_go_291 ?_
  refine ev_putI lk_f hU (ci := 12) (j := 4) (cd := 0) eX12_go_292 (isF (by decide +kernel)) rfl rfl (Or.inl rfl) rfl ?_
  refine ev_goto (tgt := 181) eX12_go_295 (by decide) ?_
  refine ev_loc (L' := [(0, .inr (.inl 12)), (1, .inl y1), (2, .inl y2), (3, .inl y3)]) rfl ?_
  exact hK181 h
set_option maxRecDepth 100000 in
theorem m_12_go_J248 (hU : ev_uq ty ev_TR) {C' : ev_C} {K181 : ev_C → Int → Int → Int → Option ev_C} (hK181 : ∀ {C : ev_C} {y1 y2 y3 : Int}, K181 C y1 y2 y3 = some C' → ev_W l D cys ty ck_tags ev_TR kc_209 181 [(0, .inr (.inl 12)), (1, .inl y1), (2, .inl y2), (3, .inl y3)] [] C (fun r0 C0 => r0 = none ∧ C0 = C')) {C : ev_C} {y1 y2 y3 : Int} (h : f_12_go_J248 K181 C y1 y2 y3 = some C') : ev_W l D cys ty ck_tags ev_TR kc_209 248 [(0, .inr (.inl 12)), (1, .inl y1), (2, .inl y2), (3, .inl y3)] [] C (fun r0 C0 => r0 = none ∧ C0 = C') := by
  unfold f_12_go_J248 at h
  refine ev_al eX12_go_248 rfl ?_
  refine ev_getI lk_f (ci := 12) (j := 13) (cd := 0) eX12_go_249 (isF (by decide +kernel)) rfl rfl rfl ?_
  refine ev_ic eX12_go_252 (by decide) ?_
  refine ev_c_ge (tgt := 275) eX12_go_253 (by decide) (fun hc16 => ?_) (fun hc16 => ?_)
  · rw [if_pos (show 2 ≤ (C 12 13) from hc16)] at h
    refine ev_loc (L' := [(0, .inr (.inl 12)), (1, .inl y1), (2, .inl y2), (3, .inl y3)]) rfl ?_
    exact m_12_go_J275 hU hK181 h
  · rw [if_neg (show ¬ (2 ≤ (C 12 13)) from hc16)] at h
    refine ev_al eX12_go_256 rfl ?_
    refine ev_bp eX12_go_257 (by decide) (by decide) ?_
    refine ev_al eX12_go_259 rfl ?_
    refine ev_getI lk_f (ci := 12) (j := 14) (cd := 0) eX12_go_260 (isF (by decide +kernel)) rfl rfl rfl ?_
    refine ev_mul eX12_go_263 ?_
    refine ev_al eX12_go_264 rfl ?_
    obtain ⟨r17, C17, hq17, h⟩ := ev_bd_some h
    refine ev_callV (kc := kc_208) (A := []) (T := [.inl (ev_w ((10 : Int) * ((C 12 14)))), .inr (.inl 12)]) (lk_m.1 _ _ 0 [208] (isM (by decide +kernel)) 208 (by decide)) eX12_go_265 (m_12_peek hU hq17) rfl rfl rfl (by decide) (by decide) (Nat.le_of_ble_eq_true rfl) ?_
    rintro _ C17 ⟨rfl, rfl⟩
    show ev_W l D cys ty ck_tags ev_TR kc_209 268 [(0, .inr (.inl 12)), (1, .inl y1), (2, .inl y2), (3, .inl y3)] [.inl r17, .inl (ev_w ((10 : Int) * ((C 12 14)))), .inr (.inl 12)] C17 _
    refine ev_add eX12_go_268 ?_
    refine ev_bp eX12_go_269 (by decide) (by decide) ?_
    refine ev_sub eX12_go_271 ?_
    refine ev_putI lk_f hU (ci := 12) (j := 14) (cd := 0) eX12_go_272 (isF (by decide +kernel)) rfl rfl (Or.inl rfl) rfl ?_
    refine ev_loc (L' := [(0, .inr (.inl 12)), (1, .inl y1), (2, .inl y2), (3, .inl y3)]) rfl ?_
    exact m_12_go_J275 hU hK181 h
set_option maxRecDepth 100000 in
theorem m_12_go_J221 (hU : ev_uq ty ev_TR) {C' : ev_C} {K181 : ev_C → Int → Int → Int → Option ev_C} (hK181 : ∀ {C : ev_C} {y1 y2 y3 : Int}, K181 C y1 y2 y3 = some C' → ev_W l D cys ty ck_tags ev_TR kc_209 181 [(0, .inr (.inl 12)), (1, .inl y1), (2, .inl y2), (3, .inl y3)] [] C (fun r0 C0 => r0 = none ∧ C0 = C')) {C : ev_C} {y1 y2 y3 w0 : Int} (h : f_12_go_J221 K181 C y1 y2 y3 w0 = some C') : ev_W l D cys ty ck_tags ev_TR kc_209 221 [(0, .inr (.inl 12)), (1, .inl y1), (2, .inl y2), (3, .inl y3)] [.inl w0] C (fun r0 C0 => r0 = none ∧ C0 = C') := by
  unfold f_12_go_J221 at h
  refine ev_is (L' := [(3, .inl w0), (0, .inr (.inl 12)), (1, .inl y1), (2, .inl y2)]) eX12_go_221 (by decide) rfl ?_
  refine ev_al eX12_go_222 rfl ?_
  refine ev_getI lk_f (ci := 12) (j := 13) (cd := 0) eX12_go_223 (isF (by decide +kernel)) rfl rfl rfl ?_
  refine ev_bp eX12_go_226 (by decide) (by decide) ?_
  refine ev_c_ge (tgt := 248) eX12_go_228 (by decide) (fun hc15 => ?_) (fun hc15 => ?_)
  · rw [if_pos (show 7 ≤ (C 12 13) from hc15)] at h
    refine ev_loc (L' := [(0, .inr (.inl 12)), (1, .inl y1), (2, .inl y2), (3, .inl w0)]) rfl ?_
    exact m_12_go_J248 hU hK181 h
  · rw [if_neg (show ¬ (7 ≤ (C 12 13)) from hc15)] at h
    refine ev_al eX12_go_231 rfl ?_
    refine ev_al eX12_go_232 rfl ?_
    refine ev_getL lk_f (ci := 12) (j := 17) (cd := 2) eX12_go_233 (isF (by decide +kernel)) rfl rfl rfl ?_
    refine ev_bp eX12_go_236 (by decide) (by decide) ?_
    refine ev_lshl1 eX12_go_238 ?_
    refine ev_al eX12_go_239 rfl ?_
    obtain ⟨r18, C18, hq18, h⟩ := ev_bd_some h
    refine ev_callV (kc := kc_208) (A := []) (T := [.inr (.inr (ev_lshl ((C 12 17)) 8)), .inr (.inl 12)]) (lk_m.1 _ _ 0 [208] (isM (by decide +kernel)) 208 (by decide)) eX12_go_240 (m_12_peek hU hq18) rfl rfl rfl (by decide) (by decide) (Nat.le_of_ble_eq_true rfl) ?_
    rintro _ C18 ⟨rfl, rfl⟩
    show ev_W l D cys ty ck_tags ev_TR kc_209 243 [(3, .inl w0), (0, .inr (.inl 12)), (1, .inl y1), (2, .inl y2)] [.inl r18, .inr (.inr (ev_lshl ((C 12 17)) 8)), .inr (.inl 12)] C18 _
    refine ev_i2l eX12_go_243 ?_
    refine ev_lor1 eX12_go_244 ?_
    refine ev_putL lk_f hU (ci := 12) (j := 17) eX12_go_245 (isF (by decide +kernel)) rfl rfl rfl ?_
    refine ev_loc (L' := [(0, .inr (.inl 12)), (1, .inl y1), (2, .inl y2), (3, .inl w0)]) rfl ?_
    exact m_12_go_J248 hU hK181 h
set_option maxRecDepth 100000 in
theorem m_12_go_J220 (hU : ev_uq ty ev_TR) {C' : ev_C} {K181 : ev_C → Int → Int → Int → Option ev_C} (hK181 : ∀ {C : ev_C} {y1 y2 y3 : Int}, K181 C y1 y2 y3 = some C' → ev_W l D cys ty ck_tags ev_TR kc_209 181 [(0, .inr (.inl 12)), (1, .inl y1), (2, .inl y2), (3, .inl y3)] [] C (fun r0 C0 => r0 = none ∧ C0 = C')) {C : ev_C} {y1 y2 y3 : Int} (h : f_12_go_J220 K181 C y1 y2 y3 = some C') : ev_W l D cys ty ck_tags ev_TR kc_209 220 [(0, .inr (.inl 12)), (1, .inl y1), (2, .inl y2), (3, .inl y3)] [] C (fun r0 C0 => r0 = none ∧ C0 = C') := by
  unfold f_12_go_J220 at h
  refine ev_ic eX12_go_220 (by decide) ?_
  refine ev_loc (L' := [(0, .inr (.inl 12)), (1, .inl y1), (2, .inl y2), (3, .inl y3)]) rfl ?_
  exact m_12_go_J221 hU hK181 h
set_option maxRecDepth 100000 in
theorem m_12_go_J201 (hU : ev_uq ty ev_TR) {C' : ev_C} {K181 : ev_C → Int → Int → Int → Option ev_C} (hK181 : ∀ {C : ev_C} {y1 y2 y3 : Int}, K181 C y1 y2 y3 = some C' → ev_W l D cys ty ck_tags ev_TR kc_209 181 [(0, .inr (.inl 12)), (1, .inl y1), (2, .inl y2), (3, .inl y3)] [] C (fun r0 C0 => r0 = none ∧ C0 = C')) {C : ev_C} {y1 y2 y3 : Int} (h : f_12_go_J201 K181 C y1 y2 y3 = some C') : ev_W l D cys ty ck_tags ev_TR kc_209 201 [(0, .inr (.inl 12)), (1, .inl y1), (2, .inl y2), (3, .inl y3)] [] C (fun r0 C0 => r0 = none ∧ C0 = C') := by
  unfold f_12_go_J201 at h
  refine ev_il eX12_go_201 rfl ?_
  refine ev_z_eq (tgt := 220) eX12_go_202 (by decide) (fun hc14 => ?_) (fun hc14 => ?_)
  · rw [if_pos (show y3 = 0 from hc14)] at h
    refine ev_loc (L' := [(0, .inr (.inl 12)), (1, .inl y1), (2, .inl y2), (3, .inl y3)]) rfl ?_
    exact m_12_go_J220 hU hK181 h
  · rw [if_neg (show ¬ (y3 = 0) from hc14)] at h
    refine ev_al eX12_go_205 rfl ?_
    obtain ⟨r19, C19, hq19, h⟩ := ev_bd_some h
    refine ev_callV (kc := kc_208) (A := []) (T := []) (lk_m.1 _ _ 0 [208] (isM (by decide +kernel)) 208 (by decide)) eX12_go_206 (m_12_peek hU hq19) rfl rfl rfl (by decide) (by decide) (Nat.le_of_ble_eq_true rfl) ?_
    rintro _ C19 ⟨rfl, rfl⟩
    show ev_W l D cys ty ck_tags ev_TR kc_209 209 [(0, .inr (.inl 12)), (1, .inl y1), (2, .inl y2), (3, .inl y3)] [.inl r19] C19 _
    obtain ⟨r20, C20, hq20, h⟩ := ev_bd_some h
    refine ev_callS (kc := kc_207) (A := [.inl r19]) (T := []) (lk_m.1 _ _ 1 [207] (isM (by decide +kernel)) 207 (by decide)) eX12_go_209 (m_12_isSmall hU hq20) rfl rfl (by decide) (by decide) (Nat.le_of_ble_eq_true rfl) ?_
    rintro _ C20 ⟨rfl, rfl⟩
    show ev_W l D cys ty ck_tags ev_TR kc_209 212 [(0, .inr (.inl 12)), (1, .inl y1), (2, .inl y2), (3, .inl y3)] [.inl r20] C20 _
    refine ev_il eX12_go_212 rfl ?_
    refine ev_c_ne (tgt := 220) eX12_go_213 (by decide) (fun hc21 => ?_) (fun hc21 => ?_)
    · rw [if_pos (show r20 ≠ y2 from hc21)] at h
      refine ev_loc (L' := [(0, .inr (.inl 12)), (1, .inl y1), (2, .inl y2), (3, .inl y3)]) rfl ?_
      exact m_12_go_J220 hU hK181 h
    · rw [if_neg (show ¬ (r20 ≠ y2) from hc21)] at h
      refine ev_ic eX12_go_216 (by decide) ?_
      refine ev_goto (tgt := 221) eX12_go_217 (by decide) ?_
      refine ev_loc (L' := [(0, .inr (.inl 12)), (1, .inl y1), (2, .inl y2), (3, .inl y3)]) rfl ?_
      exact m_12_go_J221 hU hK181 h
set_option maxRecDepth 100000 in
theorem m_12_go_J317 (hU : ev_uq ty ev_TR) {C' : ev_C} {C : ev_C} {y1 y2 y3 w0 w1 : Int} (h : f_12_go_J317 C y1 y2 y3 w0 w1 = some C') : ev_W l D cys ty ck_tags ev_TR kc_209 317 [(0, .inr (.inl 12)), (1, .inl y1), (2, .inl y2), (3, .inl y3)] [.inl w0, .inl w1, .inr (.inl 12)] C (fun r0 C0 => r0 = none ∧ C0 = C') := by
  unfold f_12_go_J317 at h
  refine ev_c_le (tgt := 324) eX12_go_317 (by decide) (fun hc27 => ?_) (fun hc27 => ?_)
  · rw [if_pos (show w1 ≤ w0 from hc27)] at h
    refine ev_il eX12_go_324 rfl ?_
    refine ev_z_eq (tgt := 332) eX12_go_325 (by decide) (fun hc28 => ?_) (fun hc28 => ?_)
    · rw [if_pos (show y2 = 0 from hc28)] at h
      refine ev_ic eX12_go_332 (by decide) ?_
      refine ev_putI lk_f hU (ci := 12) (j := 11) (cd := 0) eX12_go_333 (isF (by decide +kernel)) rfl rfl (Or.inl rfl) rfl ?_
      cases h
      exact ev_vret eX12_go_336 rfl ⟨rfl, rfl⟩
    · rw [if_neg (show ¬ (y2 = 0) from hc28)] at h
      refine ev_ic eX12_go_328 (by decide) ?_
      refine ev_goto (tgt := 333) eX12_go_329 (by decide) ?_
      refine ev_putI lk_f hU (ci := 12) (j := 11) (cd := 0) eX12_go_333 (isF (by decide +kernel)) rfl rfl (Or.inl rfl) rfl ?_
      cases h
      exact ev_vret eX12_go_336 rfl ⟨rfl, rfl⟩
  · rw [if_neg (show ¬ (w1 ≤ w0) from hc27)] at h
    refine ev_ic eX12_go_320 (by decide) ?_
    refine ev_goto (tgt := 333) eX12_go_321 (by decide) ?_
    refine ev_putI lk_f hU (ci := 12) (j := 11) (cd := 0) eX12_go_333 (isF (by decide +kernel)) rfl rfl (Or.inl rfl) rfl ?_
    cases h
    exact ev_vret eX12_go_336 rfl ⟨rfl, rfl⟩
set_option maxRecDepth 100000 in
theorem m_12_go_L181 (hU : ev_uq ty ev_TR) : ∀ (n : Nat) {C : ev_C} {y1 y2 y3 : Int} {C' : ev_C}, f_12_go_L181 n C y1 y2 y3 = some C' → ev_W l D cys ty ck_tags ev_TR kc_209 181 [(0, .inr (.inl 12)), (1, .inl y1), (2, .inl y2), (3, .inl y3)] [] C (fun r0 C0 => r0 = none ∧ C0 = C')
  | 0, _, _, _, _, _, h => by cases h
  | n + 1, C, y1, y2, y3, _, h => by
    unfold f_12_go_L181 at h
    refine ev_al eX12_go_181 rfl ?_
    obtain ⟨r11, C11, hq11, h⟩ := ev_bd_some h
    refine ev_callV (kc := kc_208) (A := []) (T := []) (lk_m.1 _ _ 0 [208] (isM (by decide +kernel)) 208 (by decide)) eX12_go_182 (m_12_peek hU hq11) rfl rfl rfl (by decide) (by decide) (Nat.le_of_ble_eq_true rfl) ?_
    rintro _ C11 ⟨rfl, rfl⟩
    show ev_W l D cys ty ck_tags ev_TR kc_209 185 [(0, .inr (.inl 12)), (1, .inl y1), (2, .inl y2), (3, .inl y3)] [.inl r11] C11 _
    obtain ⟨r12, C12, hq12, h⟩ := ev_bd_some h
    refine ev_callS (kc := kc_207) (A := [.inl r11]) (T := []) (lk_m.1 _ _ 1 [207] (isM (by decide +kernel)) 207 (by decide)) eX12_go_185 (m_12_isSmall hU hq12) rfl rfl (by decide) (by decide) (Nat.le_of_ble_eq_true rfl) ?_
    rintro _ C12 ⟨rfl, rfl⟩
    show ev_W l D cys ty ck_tags ev_TR kc_209 188 [(0, .inr (.inl 12)), (1, .inl y1), (2, .inl y2), (3, .inl y3)] [.inl r12] C12 _
    refine ev_z_ne (tgt := 201) eX12_go_188 (by decide) (fun hc13 => ?_) (fun hc13 => ?_)
    · rw [if_pos (show r12 ≠ 0 from hc13)] at h
      refine ev_loc (L' := [(0, .inr (.inl 12)), (1, .inl y1), (2, .inl y2), (3, .inl y3)]) rfl ?_
      exact m_12_go_J201 hU (fun h => m_12_go_L181 hU n h) h
    · rw [if_neg (show ¬ (r12 ≠ 0) from hc13)] at h
      refine ev_al eX12_go_191 rfl ?_
      obtain ⟨r22, C22, hq22, h⟩ := ev_bd_some h
      refine ev_callV (kc := kc_208) (A := []) (T := []) (lk_m.1 _ _ 0 [208] (isM (by decide +kernel)) 208 (by decide)) eX12_go_192 (m_12_peek hU hq22) rfl rfl rfl (by decide) (by decide) (Nat.le_of_ble_eq_true rfl) ?_
      rintro _ C22 ⟨rfl, rfl⟩
      show ev_W l D cys ty ck_tags ev_TR kc_209 195 [(0, .inr (.inl 12)), (1, .inl y1), (2, .inl y2), (3, .inl y3)] [.inl r22] C22 _
      obtain ⟨r23, C23, hq23, h⟩ := ev_bd_some h
      refine ev_callS (kc := kc_206) (A := [.inl r22]) (T := []) (lk_m.1 _ _ 1 [206] (isM (by decide +kernel)) 206 (by decide)) eX12_go_195 (m_12_isDigit hU hq23) rfl rfl (by decide) (by decide) (Nat.le_of_ble_eq_true rfl) ?_
      rintro _ C23 ⟨rfl, rfl⟩
      show ev_W l D cys ty ck_tags ev_TR kc_209 198 [(0, .inr (.inl 12)), (1, .inl y1), (2, .inl y2), (3, .inl y3)] [.inl r23] C23 _
      refine ev_z_eq (tgt := 298) eX12_go_198 (by decide) (fun hc24 => ?_) (fun hc24 => ?_)
      · rw [if_pos (show r23 = 0 from hc24)] at h
        refine ev_al eX12_go_298 rfl ?_
        refine ev_il eX12_go_299 rfl ?_
        refine ev_z_eq (tgt := 320) eX12_go_300 (by decide) (fun hc25 => ?_) (fun hc25 => ?_)
        · rw [if_pos (show y3 = 0 from hc25)] at h
          refine ev_ic eX12_go_320 (by decide) ?_
          refine ev_goto (tgt := 333) eX12_go_321 (by decide) ?_
          refine ev_putI lk_f hU (ci := 12) (j := 11) (cd := 0) eX12_go_333 (isF (by decide +kernel)) rfl rfl (Or.inl rfl) rfl ?_
          cases h
          exact ev_vret eX12_go_336 rfl ⟨rfl, rfl⟩
        · rw [if_neg (show ¬ (y3 = 0) from hc25)] at h
          refine ev_al eX12_go_303 rfl ?_
          refine ev_getI lk_f (ci := 12) (j := 13) (cd := 0) eX12_go_304 (isF (by decide +kernel)) rfl rfl rfl ?_
          refine ev_il eX12_go_307 rfl ?_
          refine ev_z_eq (tgt := 316) eX12_go_308 (by decide) (fun hc26 => ?_) (fun hc26 => ?_)
          · rw [if_pos (show y2 = 0 from hc26)] at h
            refine ev_ic eX12_go_316 (by decide) ?_
            refine ev_loc (L' := [(0, .inr (.inl 12)), (1, .inl y1), (2, .inl y2), (3, .inl y3)]) rfl ?_
            exact m_12_go_J317 hU h
          · rw [if_neg (show ¬ (y2 = 0) from hc26)] at h
            refine ev_bp eX12_go_311 (by decide) (by decide) ?_
            refine ev_goto (tgt := 317) eX12_go_313 (by decide) ?_
            refine ev_loc (L' := [(0, .inr (.inl 12)), (1, .inl y1), (2, .inl y2), (3, .inl y3)]) rfl ?_
            exact m_12_go_J317 hU h
      · rw [if_neg (show ¬ (r23 = 0) from hc24)] at h
        refine ev_loc (L' := [(0, .inr (.inl 12)), (1, .inl y1), (2, .inl y2), (3, .inl y3)]) rfl ?_
        exact m_12_go_J201 hU (fun h => m_12_go_L181 hU n h) h
set_option maxRecDepth 100000 in
theorem m_12_go_J164 (hU : ev_uq ty ev_TR) {C' : ev_C} {C : ev_C} {y1 : Int} (h : f_12_go_J164 C y1 = some C') : ev_W l D cys ty ck_tags ev_TR kc_209 164 [(0, .inr (.inl 12)), (1, .inl y1)] [] C (fun r0 C0 => r0 = none ∧ C0 = C') := by
  unfold f_12_go_J164 at h
  refine ev_il eX12_go_164 rfl ?_
  obtain ⟨r10, C10, hq10, h⟩ := ev_bd_some h
  refine ev_callS (kc := kc_207) (A := [.inl y1]) (T := []) (lk_m.1 _ _ 1 [207] (isM (by decide +kernel)) 207 (by decide)) eX12_go_165 (m_12_isSmall hU hq10) rfl rfl (by decide) (by decide) (Nat.le_of_ble_eq_true rfl) ?_
  rintro _ C10 ⟨rfl, rfl⟩
  show ev_W l D cys ty ck_tags ev_TR kc_209 168 [(0, .inr (.inl 12)), (1, .inl y1)] [.inl r10] C10 _
  refine ev_is (L' := [(2, .inl r10), (0, .inr (.inl 12)), (1, .inl y1)]) eX12_go_168 (by decide) rfl ?_
  refine ev_ic eX12_go_169 (by decide) ?_
  refine ev_is (L' := [(3, .inl 1), (2, .inl r10), (0, .inr (.inl 12)), (1, .inl y1)]) eX12_go_170 (by decide) rfl ?_
  refine ev_al eX12_go_171 rfl ?_
  refine ev_lc (v := 0) eX12_go_172 (by decide +kernel) ?_
  refine ev_putL lk_f hU (ci := 12) (j := 17) eX12_go_173 (isF (by decide +kernel)) rfl rfl rfl ?_
  refine ev_al eX12_go_176 rfl ?_
  refine ev_ic eX12_go_177 (by decide) ?_
  refine ev_putI lk_f hU (ci := 12) (j := 14) (cd := 0) eX12_go_178 (isF (by decide +kernel)) rfl rfl (Or.inl rfl) rfl ?_
  refine ev_loc (L' := [(0, .inr (.inl 12)), (1, .inl y1), (2, .inl r10), (3, .inl 1)]) rfl ?_
  exact m_12_go_L181 hU 1000 h
set_option maxRecDepth 100000 in
theorem m_12_go_J145 (hU : ev_uq ty ev_TR) {C' : ev_C} {C : ev_C} {y1 w0 : Int} (h : f_12_go_J145 C y1 w0 = some C') : ev_W l D cys ty ck_tags ev_TR kc_209 145 [(0, .inr (.inl 12)), (1, .inl y1)] [.inl w0, .inr (.inl 12)] C (fun r0 C0 => r0 = none ∧ C0 = C') := by
  unfold f_12_go_J145 at h
  refine ev_putI lk_f hU (ci := 12) (j := 11) (cd := 0) eX12_go_145 (isF (by decide +kernel)) rfl rfl (Or.inl rfl) rfl ?_
  refine ev_al eX12_go_148 rfl ?_
  refine ev_il eX12_go_149 rfl ?_
  refine ev_putI lk_f hU (ci := 12) (j := 14) (cd := 0) eX12_go_150 (isF (by decide +kernel)) rfl rfl (Or.inl rfl) rfl ?_
  refine ev_al eX12_go_153 rfl ?_
  refine ev_dup eX12_go_154 rfl ?_
  refine ev_getI lk_f (ci := 12) (j := 4) (cd := 0) eX12_go_155 (isF (by decide +kernel)) rfl rfl rfl ?_
  refine ev_ic eX12_go_158 (by decide) ?_
  refine ev_add eX12_go_159 ?_
  refine ev_putI lk_f hU (ci := 12) (j := 4) (cd := 0) eX12_go_160 (isF (by decide +kernel)) rfl rfl (Or.inl rfl) rfl ?_
  cases h
  exact ev_vret eX12_go_163 rfl ⟨rfl, rfl⟩
set_option maxRecDepth 100000 in
theorem m_12_go_J140 (hU : ev_uq ty ev_TR) {C' : ev_C} {C : ev_C} {y1 : Int} (h : f_12_go_J140 C y1 = some C') : ev_W l D cys ty ck_tags ev_TR kc_209 140 [(0, .inr (.inl 12)), (1, .inl y1)] [.inr (.inl 12)] C (fun r0 C0 => r0 = none ∧ C0 = C') := by
  unfold f_12_go_J140 at h
  refine ev_ic eX12_go_140 (by decide) ?_
  refine ev_goto (tgt := 145) eX12_go_141 (by decide) ?_
  refine ev_loc (L' := [(0, .inr (.inl 12)), (1, .inl y1)]) rfl ?_
  exact m_12_go_J145 hU h
set_option maxRecDepth 100000 in
theorem m_12_go_J144 (hU : ev_uq ty ev_TR) {C' : ev_C} {C : ev_C} {y1 : Int} (h : f_12_go_J144 C y1 = some C') : ev_W l D cys ty ck_tags ev_TR kc_209 144 [(0, .inr (.inl 12)), (1, .inl y1)] [.inr (.inl 12)] C (fun r0 C0 => r0 = none ∧ C0 = C') := by
  unfold f_12_go_J144 at h
  refine ev_ic eX12_go_144 (by decide) ?_
  refine ev_loc (L' := [(0, .inr (.inl 12)), (1, .inl y1)]) rfl ?_
  exact m_12_go_J145 hU h
set_option maxRecDepth 100000 in
theorem m_12_go_J80 (hU : ev_uq ty ev_TR) {C' : ev_C} {C : ev_C} (h : f_12_go_J80 C = some C') : ev_W l D cys ty ck_tags ev_TR kc_209 80 [(0, .inr (.inl 12))] [] C (fun r0 C0 => r0 = none ∧ C0 = C') := by
  unfold f_12_go_J80 at h
  refine ev_al eX12_go_80 rfl ?_
  obtain ⟨r6, C6, hq6, h⟩ := ev_bd_some h
  refine ev_callV (kc := kc_208) (A := []) (T := []) (lk_m.1 _ _ 0 [208] (isM (by decide +kernel)) 208 (by decide)) eX12_go_81 (m_12_peek hU hq6) rfl rfl rfl (by decide) (by decide) (Nat.le_of_ble_eq_true rfl) ?_
  rintro _ C6 ⟨rfl, rfl⟩
  show ev_W l D cys ty ck_tags ev_TR kc_209 84 [(0, .inr (.inl 12))] [.inl r6] C6 _
  refine ev_is (L' := [(1, .inl r6), (0, .inr (.inl 12))]) eX12_go_84 (by decide) rfl ?_
  refine ev_il eX12_go_85 rfl ?_
  refine ev_z_ge (tgt := 95) eX12_go_86 (by decide) (fun hc7 => ?_) (fun hc7 => ?_)
  · rw [if_pos (show 0 ≤ r6 from hc7)] at h
    refine ev_il eX12_go_95 rfl ?_
    obtain ⟨r8, C8, hq8, h⟩ := ev_bd_some h
    refine ev_callS (kc := kc_207) (A := [.inl r6]) (T := []) (lk_m.1 _ _ 1 [207] (isM (by decide +kernel)) 207 (by decide)) eX12_go_96 (m_12_isSmall hU hq8) rfl rfl (by decide) (by decide) (Nat.le_of_ble_eq_true rfl) ?_
    rintro _ C8 ⟨rfl, rfl⟩
    show ev_W l D cys ty ck_tags ev_TR kc_209 99 [(1, .inl r6), (0, .inr (.inl 12))] [.inl r8] C8 _
    refine ev_z_ne (tgt := 164) eX12_go_99 (by decide) (fun hc9 => ?_) (fun hc9 => ?_)
    · rw [if_pos (show r8 ≠ 0 from hc9)] at h
      refine ev_loc (L' := [(0, .inr (.inl 12)), (1, .inl r6)]) rfl ?_
      exact m_12_go_J164 hU h
    · rw [if_neg (show ¬ (r8 ≠ 0) from hc9)] at h
      refine ev_il eX12_go_102 rfl ?_
      obtain ⟨r29, C29, hq29, h⟩ := ev_bd_some h
      refine ev_callS (kc := kc_206) (A := [.inl r6]) (T := []) (lk_m.1 _ _ 1 [206] (isM (by decide +kernel)) 206 (by decide)) eX12_go_103 (m_12_isDigit hU hq29) rfl rfl (by decide) (by decide) (Nat.le_of_ble_eq_true rfl) ?_
      rintro _ C29 ⟨rfl, rfl⟩
      show ev_W l D cys ty ck_tags ev_TR kc_209 106 [(1, .inl r6), (0, .inr (.inl 12))] [.inl r29] C29 _
      refine ev_z_ne (tgt := 164) eX12_go_106 (by decide) (fun hc30 => ?_) (fun hc30 => ?_)
      · rw [if_pos (show r29 ≠ 0 from hc30)] at h
        refine ev_loc (L' := [(0, .inr (.inl 12)), (1, .inl r6)]) rfl ?_
        exact m_12_go_J164 hU h
      · rw [if_neg (show ¬ (r29 ≠ 0) from hc30)] at h
        refine ev_al eX12_go_109 rfl ?_
        refine ev_il eX12_go_110 rfl ?_
        refine ev_bp eX12_go_111 (by decide) (by decide) ?_
        refine ev_c_eq (tgt := 140) eX12_go_113 (by decide) (fun hc31 => ?_) (fun hc31 => ?_)
        · rw [if_pos (show r6 = 59 from hc31)] at h
          refine ev_loc (L' := [(0, .inr (.inl 12)), (1, .inl r6)]) rfl ?_
          exact m_12_go_J140 hU h
        · rw [if_neg (show ¬ (r6 = 59) from hc31)] at h
          refine ev_il eX12_go_116 rfl ?_
          refine ev_bp eX12_go_117 (by decide) (by decide) ?_
          refine ev_c_eq (tgt := 140) eX12_go_119 (by decide) (fun hc32 => ?_) (fun hc32 => ?_)
          · rw [if_pos (show r6 = 40 from hc32)] at h
            refine ev_loc (L' := [(0, .inr (.inl 12)), (1, .inl r6)]) rfl ?_
            exact m_12_go_J140 hU h
          · rw [if_neg (show ¬ (r6 = 40) from hc32)] at h
            refine ev_il eX12_go_122 rfl ?_
            refine ev_bp eX12_go_123 (by decide) (by decide) ?_
            refine ev_c_eq (tgt := 140) eX12_go_125 (by decide) (fun hc33 => ?_) (fun hc33 => ?_)
            · rw [if_pos (show r6 = 41 from hc33)] at h
              refine ev_loc (L' := [(0, .inr (.inl 12)), (1, .inl r6)]) rfl ?_
              exact m_12_go_J140 hU h
            · rw [if_neg (show ¬ (r6 = 41) from hc33)] at h
              refine ev_il eX12_go_128 rfl ?_
              refine ev_bp eX12_go_129 (by decide) (by decide) ?_
              refine ev_c_lt (tgt := 144) eX12_go_131 (by decide) (fun hc34 => ?_) (fun hc34 => ?_)
              · rw [if_pos (show r6 < 60 from hc34)] at h
                refine ev_loc (L' := [(0, .inr (.inl 12)), (1, .inl r6)]) rfl ?_
                exact m_12_go_J144 hU h
              · rw [if_neg (show ¬ (r6 < 60) from hc34)] at h
                refine ev_il eX12_go_134 rfl ?_
                refine ev_bp eX12_go_135 (by decide) (by decide) ?_
                refine ev_c_gt (tgt := 144) eX12_go_137 (by decide) (fun hc35 => ?_) (fun hc35 => ?_)
                · rw [if_pos (show 62 < r6 from hc35)] at h
                  refine ev_loc (L' := [(0, .inr (.inl 12)), (1, .inl r6)]) rfl ?_
                  exact m_12_go_J144 hU h
                · rw [if_neg (show ¬ (62 < r6) from hc35)] at h
                  refine ev_loc (L' := [(0, .inr (.inl 12)), (1, .inl r6)]) rfl ?_
                  exact m_12_go_J140 hU h
  · rw [if_neg (show ¬ (0 ≤ r6) from hc7)] at h
    refine ev_al eX12_go_89 rfl ?_
    refine ev_ic eX12_go_90 (by decide) ?_
    refine ev_putI lk_f hU (ci := 12) (j := 11) (cd := 0) eX12_go_91 (isF (by decide +kernel)) rfl rfl (Or.inl rfl) rfl ?_
    cases h
    exact ev_vret eX12_go_94 rfl ⟨rfl, rfl⟩
set_option maxRecDepth 100000 in
theorem m_12_go_L0 (hU : ev_uq ty ev_TR) : ∀ (n : Nat) {C : ev_C} {C' : ev_C}, f_12_go_L0 n C = some C' → ev_W l D cys ty ck_tags ev_TR kc_209 0 [(0, .inr (.inl 12))] [] C (fun r0 C0 => r0 = none ∧ C0 = C')
  | 0, _, _, h => by cases h
  | n + 1, C, _, h => by
    unfold f_12_go_L0 at h
    refine ev_al eX12_go_0 rfl ?_
    obtain ⟨r1, C1, hq1, h⟩ := ev_bd_some h
    refine ev_callV (kc := kc_208) (A := []) (T := []) (lk_m.1 _ _ 0 [208] (isM (by decide +kernel)) 208 (by decide)) eX12_go_1 (m_12_peek hU hq1) rfl rfl rfl (by decide) (by decide) (Nat.le_of_ble_eq_true rfl) ?_
    rintro _ C1 ⟨rfl, rfl⟩
    show ev_W l D cys ty ck_tags ev_TR kc_209 4 [(0, .inr (.inl 12))] [.inl r1] C1 _
    refine ev_bp eX12_go_4 (by decide) (by decide) ?_
    refine ev_c_eq (tgt := 18) eX12_go_6 (by decide) (fun hc2 => ?_) (fun hc2 => ?_)
    · rw [if_pos (show r1 = 32 from hc2)] at h
      refine ev_loc (L' := [(0, .inr (.inl 12))]) rfl ?_
      exact m_12_go_J18 hU (fun h => m_12_go_L0 hU n h) h
    · rw [if_neg (show ¬ (r1 = 32) from hc2)] at h
      refine ev_al eX12_go_9 rfl ?_
      obtain ⟨r3, C3, hq3, h⟩ := ev_bd_some h
      refine ev_callV (kc := kc_208) (A := []) (T := []) (lk_m.1 _ _ 0 [208] (isM (by decide +kernel)) 208 (by decide)) eX12_go_10 (m_12_peek hU hq3) rfl rfl rfl (by decide) (by decide) (Nat.le_of_ble_eq_true rfl) ?_
      rintro _ C3 ⟨rfl, rfl⟩
      show ev_W l D cys ty ck_tags ev_TR kc_209 13 [(0, .inr (.inl 12))] [.inl r3] C3 _
      refine ev_bp eX12_go_13 (by decide) (by decide) ?_
      refine ev_c_ne (tgt := 31) eX12_go_15 (by decide) (fun hc4 => ?_) (fun hc4 => ?_)
      · rw [if_pos (show r3 ≠ 10 from hc4)] at h
        refine ev_al eX12_go_31 rfl ?_
        refine ev_al eX12_go_32 rfl ?_
        refine ev_getI lk_f (ci := 12) (j := 4) (cd := 0) eX12_go_33 (isF (by decide +kernel)) rfl rfl rfl ?_
        refine ev_putI lk_f hU (ci := 12) (j := 12) (cd := 0) eX12_go_36 (isF (by decide +kernel)) rfl rfl (Or.inl rfl) rfl ?_
        refine ev_al eX12_go_39 rfl ?_
        refine ev_ic eX12_go_40 (by decide) ?_
        refine ev_putI lk_f hU (ci := 12) (j := 13) (cd := 0) eX12_go_41 (isF (by decide +kernel)) rfl rfl (Or.inl rfl) rfl ?_
        refine ev_al eX12_go_44 rfl ?_
        refine ev_getI lk_f (ci := 12) (j := 3) (cd := 0) eX12_go_45 (isF (by decide +kernel)) rfl rfl rfl ?_
        refine ev_al eX12_go_48 rfl ?_
        refine ev_getI lk_f (ci := 12) (j := 5) (cd := 0) eX12_go_49 (isF (by decide +kernel)) rfl rfl rfl ?_
        refine ev_c_le (tgt := 80) eX12_go_52 (by decide) (fun hc5 => ?_) (fun hc5 => ?_)
        · rw [if_pos (show (C3 12 3) ≤ (C3 12 5) from hc5)] at h
          refine ev_loc (L' := [(0, .inr (.inl 12))]) rfl ?_
          exact m_12_go_J80 hU h
        · rw [if_neg (show ¬ ((C3 12 3) ≤ (C3 12 5)) from hc5)] at h
          refine ev_al eX12_go_55 rfl ?_
          refine ev_getI lk_f (ci := 12) (j := 4) (cd := 0) eX12_go_56 (isF (by decide +kernel)) rfl rfl rfl ?_
          refine ev_al eX12_go_59 rfl ?_
          refine ev_getI lk_f (ci := 12) (j := 5) (cd := 0) eX12_go_60 (isF (by decide +kernel)) rfl rfl rfl ?_
          refine ev_c_lt (tgt := 80) eX12_go_63 (by decide) (fun hc36 => ?_) (fun hc36 => ?_)
          · rw [if_pos (show (C3 12 4) < (C3 12 5) from hc36)] at h
            refine ev_loc (L' := [(0, .inr (.inl 12))]) rfl ?_
            exact m_12_go_J80 hU h
          · rw [if_neg (show ¬ ((C3 12 4) < (C3 12 5)) from hc36)] at h
            refine ev_al eX12_go_66 rfl ?_
            refine ev_al eX12_go_67 rfl ?_
            refine ev_getI lk_f (ci := 12) (j := 5) (cd := 0) eX12_go_68 (isF (by decide +kernel)) rfl rfl rfl ?_
            refine ev_putI lk_f hU (ci := 12) (j := 12) (cd := 0) eX12_go_71 (isF (by decide +kernel)) rfl rfl (Or.inl rfl) rfl ?_
            refine ev_al eX12_go_74 rfl ?_
            refine ev_ic eX12_go_75 (by decide) ?_
            refine ev_putI lk_f hU (ci := 12) (j := 11) (cd := 0) eX12_go_76 (isF (by decide +kernel)) rfl rfl (Or.inl rfl) rfl ?_
            cases h
            exact ev_vret eX12_go_79 rfl ⟨rfl, rfl⟩
      · rw [if_neg (show ¬ (r3 ≠ 10) from hc4)] at h
        refine ev_loc (L' := [(0, .inr (.inl 12))]) rfl ?_
        exact m_12_go_J18 hU (fun h => m_12_go_L0 hU n h) h
set_option maxRecDepth 100000 in
theorem m_12_go (hU : ev_uq ty ev_TR) {C : ev_C} {C' : ev_C} (h : f_12_go C = some C') : ev_Met l D cys ty ck_tags ev_TR kc_209 [.inr (.inl 12)] C (fun r0 C0 => r0 = none ∧ C0 = C') := by
  unfold f_12_go at h
  refine ev_enter (by decide +kernel) (by decide +kernel) (Nat.le_of_ble_eq_true rfl) ?_
  show ev_W l D cys ty ck_tags ev_TR kc_209 0 [(0, .inr (.inl 12))] [] C _
  refine ev_loc (L' := [(0, .inr (.inl 12))]) rfl ?_
  exact m_12_go_L0 hU 1000 h
end GX
