/-! THE EXACT LOGIC: the reference's bookLine (printed by a program of ours). -/
section GX
variable {l : Launch} {D : va_G} {cys : Nat → ClassId} {ty : Nat → Option Nat}
theorem eX12_bookLine_0 : decode cX12_bookLine 0 = .ok (.iconst 3, 1) := by decide +kernel
theorem eX12_bookLine_1 : decode cX12_bookLine 1 = .ok (.aload_n 0, 1) := by decide +kernel
theorem eX12_bookLine_2 : decode cX12_bookLine 2 = .ok (.getfield 398, 3) := by decide +kernel
theorem eX12_bookLine_5 : decode cX12_bookLine 5 = .ok (.imul, 1) := by decide +kernel
theorem eX12_bookLine_6 : decode cX12_bookLine 6 = .ok (.istore_n 1, 1) := by decide +kernel
theorem eX12_bookLine_7 : decode cX12_bookLine 7 = .ok (.aload_n 0, 1) := by decide +kernel
theorem eX12_bookLine_8 : decode cX12_bookLine 8 = .ok (.ldc2_w 130, 3) := by decide +kernel
theorem eX12_bookLine_11 : decode cX12_bookLine 11 = .ok (.invokevirtual 220, 3) := by decide +kernel
theorem eX12_bookLine_14 : decode cX12_bookLine 14 = .ok (.ifCond .ne 13, 3) := by decide +kernel
theorem eX12_bookLine_17 : decode cX12_bookLine 17 = .ok (.aload_n 0, 1) := by decide +kernel
theorem eX12_bookLine_18 : decode cX12_bookLine 18 = .ok (.ldc2_w 132, 3) := by decide +kernel
theorem eX12_bookLine_21 : decode cX12_bookLine 21 = .ok (.invokevirtual 220, 3) := by decide +kernel
theorem eX12_bookLine_24 : decode cX12_bookLine 24 = .ok (.ifCond .eq 45, 3) := by decide +kernel
theorem eX12_bookLine_27 : decode cX12_bookLine 27 = .ok (.aload_n 0, 1) := by decide +kernel
theorem eX12_bookLine_28 : decode cX12_bookLine 28 = .ok (.getfield 398, 3) := by decide +kernel
theorem eX12_bookLine_31 : decode cX12_bookLine 31 = .ok (.bipush 40, 2) := by decide +kernel
theorem eX12_bookLine_33 : decode cX12_bookLine 33 = .ok (.if_icmp .ne 9, 3) := by decide +kernel
theorem eX12_bookLine_36 : decode cX12_bookLine 36 = .ok (.aload_n 0, 1) := by decide +kernel
theorem eX12_bookLine_37 : decode cX12_bookLine 37 = .ok (.iconst 4, 1) := by decide +kernel
theorem eX12_bookLine_38 : decode cX12_bookLine 38 = .ok (.invokevirtual 192, 3) := by decide +kernel
theorem eX12_bookLine_41 : decode cX12_bookLine 41 = .ok (.ireturn, 1) := by decide +kernel
theorem eX12_bookLine_42 : decode cX12_bookLine 42 = .ok (.aload_n 0, 1) := by decide +kernel
theorem eX12_bookLine_43 : decode cX12_bookLine 43 = .ok (.getfield 40, 3) := by decide +kernel
theorem eX12_bookLine_46 : decode cX12_bookLine 46 = .ok (.iload_n 1, 1) := by decide +kernel
theorem eX12_bookLine_47 : decode cX12_bookLine 47 = .ok (.aload_n 0, 1) := by decide +kernel
theorem eX12_bookLine_48 : decode cX12_bookLine 48 = .ok (.ldc2_w 130, 3) := by decide +kernel
theorem eX12_bookLine_51 : decode cX12_bookLine 51 = .ok (.invokevirtual 220, 3) := by decide +kernel
theorem eX12_bookLine_54 : decode cX12_bookLine 54 = .ok (.ifCond .eq 7, 3) := by decide +kernel
theorem eX12_bookLine_57 : decode cX12_bookLine 57 = .ok (.iconst 2, 1) := by decide +kernel
theorem eX12_bookLine_58 : decode cX12_bookLine 58 = .ok (.goto 4, 3) := by decide +kernel
theorem eX12_bookLine_61 : decode cX12_bookLine 61 = .ok (.iconst 3, 1) := by decide +kernel
theorem eX12_bookLine_62 : decode cX12_bookLine 62 = .ok (.iastore, 1) := by decide +kernel
theorem eX12_bookLine_63 : decode cX12_bookLine 63 = .ok (.aload_n 0, 1) := by decide +kernel
theorem eX12_bookLine_64 : decode cX12_bookLine 64 = .ok (.invokevirtual 195, 3) := by decide +kernel
theorem eX12_bookLine_67 : decode cX12_bookLine 67 = .ok (.iconst 1, 1) := by decide +kernel
theorem eX12_bookLine_68 : decode cX12_bookLine 68 = .ok (.ireturn, 1) := by decide +kernel
theorem eX12_bookLine_69 : decode cX12_bookLine 69 = .ok (.aload_n 0, 1) := by decide +kernel
theorem eX12_bookLine_70 : decode cX12_bookLine 70 = .ok (.ldc2_w 128, 3) := by decide +kernel
theorem eX12_bookLine_73 : decode cX12_bookLine 73 = .ok (.invokevirtual 220, 3) := by decide +kernel
theorem eX12_bookLine_76 : decode cX12_bookLine 76 = .ok (.istore_n 2, 1) := by decide +kernel
theorem eX12_bookLine_77 : decode cX12_bookLine 77 = .ok (.iload_n 2, 1) := by decide +kernel
theorem eX12_bookLine_78 : decode cX12_bookLine 78 = .ok (.ifCond .eq 18, 3) := by decide +kernel
theorem eX12_bookLine_81 : decode cX12_bookLine 81 = .ok (.aload_n 0, 1) := by decide +kernel
theorem eX12_bookLine_82 : decode cX12_bookLine 82 = .ok (.getfield 398, 3) := by decide +kernel
theorem eX12_bookLine_85 : decode cX12_bookLine 85 = .ok (.bipush 40, 2) := by decide +kernel
theorem eX12_bookLine_87 : decode cX12_bookLine 87 = .ok (.if_icmp .ne 9, 3) := by decide +kernel
theorem eX12_bookLine_90 : decode cX12_bookLine 90 = .ok (.aload_n 0, 1) := by decide +kernel
theorem eX12_bookLine_91 : decode cX12_bookLine 91 = .ok (.iconst 4, 1) := by decide +kernel
theorem eX12_bookLine_92 : decode cX12_bookLine 92 = .ok (.invokevirtual 192, 3) := by decide +kernel
theorem eX12_bookLine_95 : decode cX12_bookLine 95 = .ok (.ireturn, 1) := by decide +kernel
theorem eX12_bookLine_96 : decode cX12_bookLine 96 = .ok (.iload_n 2, 1) := by decide +kernel
theorem eX12_bookLine_97 : decode cX12_bookLine 97 = .ok (.ifCond .eq 7, 3) := by decide +kernel
theorem eX12_bookLine_100 : decode cX12_bookLine 100 = .ok (.aload_n 0, 1) := by decide +kernel
theorem eX12_bookLine_101 : decode cX12_bookLine 101 = .ok (.invokevirtual 195, 3) := by decide +kernel
theorem eX12_bookLine_104 : decode cX12_bookLine 104 = .ok (.aload_n 0, 1) := by decide +kernel
theorem eX12_bookLine_105 : decode cX12_bookLine 105 = .ok (.bipush 12, 2) := by decide +kernel
theorem eX12_bookLine_107 : decode cX12_bookLine 107 = .ok (.aload_n 0, 1) := by decide +kernel
theorem eX12_bookLine_108 : decode cX12_bookLine 108 = .ok (.getfield 33, 3) := by decide +kernel
theorem eX12_bookLine_111 : decode cX12_bookLine 111 = .ok (.iconst 2, 1) := by decide +kernel
theorem eX12_bookLine_112 : decode cX12_bookLine 112 = .ok (.iaload, 1) := by decide +kernel
theorem eX12_bookLine_113 : decode cX12_bookLine 113 = .ok (.invokevirtual 213, 3) := by decide +kernel
theorem eX12_bookLine_116 : decode cX12_bookLine 116 = .ok (.ifCond .ne 5, 3) := by decide +kernel
theorem eX12_bookLine_119 : decode cX12_bookLine 119 = .ok (.iconst 0, 1) := by decide +kernel
theorem eX12_bookLine_120 : decode cX12_bookLine 120 = .ok (.ireturn, 1) := by decide +kernel
theorem eX12_bookLine_121 : decode cX12_bookLine 121 = .ok (.aload_n 0, 1) := by decide +kernel
theorem eX12_bookLine_122 : decode cX12_bookLine 122 = .ok (.getfield 398, 3) := by decide +kernel
theorem eX12_bookLine_125 : decode cX12_bookLine 125 = .ok (.bipush 40, 2) := by decide +kernel
theorem eX12_bookLine_127 : decode cX12_bookLine 127 = .ok (.if_icmp .ne 9, 3) := by decide +kernel
theorem eX12_bookLine_130 : decode cX12_bookLine 130 = .ok (.aload_n 0, 1) := by decide +kernel
theorem eX12_bookLine_131 : decode cX12_bookLine 131 = .ok (.iconst 4, 1) := by decide +kernel
theorem eX12_bookLine_132 : decode cX12_bookLine 132 = .ok (.invokevirtual 192, 3) := by decide +kernel
theorem eX12_bookLine_135 : decode cX12_bookLine 135 = .ok (.ireturn, 1) := by decide +kernel
theorem eX12_bookLine_136 : decode cX12_bookLine 136 = .ok (.aload_n 0, 1) := by decide +kernel
theorem eX12_bookLine_137 : decode cX12_bookLine 137 = .ok (.getfield 40, 3) := by decide +kernel
theorem eX12_bookLine_140 : decode cX12_bookLine 140 = .ok (.iload_n 1, 1) := by decide +kernel
theorem eX12_bookLine_141 : decode cX12_bookLine 141 = .ok (.iload_n 2, 1) := by decide +kernel
theorem eX12_bookLine_142 : decode cX12_bookLine 142 = .ok (.ifCond .eq 7, 3) := by decide +kernel
theorem eX12_bookLine_145 : decode cX12_bookLine 145 = .ok (.iconst 1, 1) := by decide +kernel
theorem eX12_bookLine_146 : decode cX12_bookLine 146 = .ok (.goto 4, 3) := by decide +kernel
theorem eX12_bookLine_149 : decode cX12_bookLine 149 = .ok (.iconst 0, 1) := by decide +kernel
theorem eX12_bookLine_150 : decode cX12_bookLine 150 = .ok (.iastore, 1) := by decide +kernel
theorem eX12_bookLine_151 : decode cX12_bookLine 151 = .ok (.aload_n 0, 1) := by decide +kernel
theorem eX12_bookLine_152 : decode cX12_bookLine 152 = .ok (.getfield 40, 3) := by decide +kernel
theorem eX12_bookLine_155 : decode cX12_bookLine 155 = .ok (.iload_n 1, 1) := by decide +kernel
theorem eX12_bookLine_156 : decode cX12_bookLine 156 = .ok (.iconst 1, 1) := by decide +kernel
theorem eX12_bookLine_157 : decode cX12_bookLine 157 = .ok (.iadd, 1) := by decide +kernel
theorem eX12_bookLine_158 : decode cX12_bookLine 158 = .ok (.aload_n 0, 1) := by decide +kernel
theorem eX12_bookLine_159 : decode cX12_bookLine 159 = .ok (.getfield 202, 3) := by decide +kernel
theorem eX12_bookLine_162 : decode cX12_bookLine 162 = .ok (.iastore, 1) := by decide +kernel
theorem eX12_bookLine_163 : decode cX12_bookLine 163 = .ok (.aload_n 0, 1) := by decide +kernel
theorem eX12_bookLine_164 : decode cX12_bookLine 164 = .ok (.invokevirtual 195, 3) := by decide +kernel
theorem eX12_bookLine_167 : decode cX12_bookLine 167 = .ok (.iload_n 2, 1) := by decide +kernel
theorem eX12_bookLine_168 : decode cX12_bookLine 168 = .ok (.ifCond .ne 23, 3) := by decide +kernel
theorem eX12_bookLine_171 : decode cX12_bookLine 171 = .ok (.aload_n 0, 1) := by decide +kernel
theorem eX12_bookLine_172 : decode cX12_bookLine 172 = .ok (.ldc2_w 126, 3) := by decide +kernel
theorem eX12_bookLine_175 : decode cX12_bookLine 175 = .ok (.invokevirtual 220, 3) := by decide +kernel
theorem eX12_bookLine_178 : decode cX12_bookLine 178 = .ok (.ifCond .ne 9, 3) := by decide +kernel
theorem eX12_bookLine_181 : decode cX12_bookLine 181 = .ok (.aload_n 0, 1) := by decide +kernel
theorem eX12_bookLine_182 : decode cX12_bookLine 182 = .ok (.iconst 1, 1) := by decide +kernel
theorem eX12_bookLine_183 : decode cX12_bookLine 183 = .ok (.invokevirtual 192, 3) := by decide +kernel
theorem eX12_bookLine_186 : decode cX12_bookLine 186 = .ok (.ireturn, 1) := by decide +kernel
theorem eX12_bookLine_187 : decode cX12_bookLine 187 = .ok (.aload_n 0, 1) := by decide +kernel
theorem eX12_bookLine_188 : decode cX12_bookLine 188 = .ok (.invokevirtual 195, 3) := by decide +kernel
theorem eX12_bookLine_191 : decode cX12_bookLine 191 = .ok (.aload_n 0, 1) := by decide +kernel
theorem eX12_bookLine_192 : decode cX12_bookLine 192 = .ok (.iload_n 2, 1) := by decide +kernel
theorem eX12_bookLine_193 : decode cX12_bookLine 193 = .ok (.ifCond .eq 8, 3) := by decide +kernel
theorem eX12_bookLine_196 : decode cX12_bookLine 196 = .ok (.bipush 6, 2) := by decide +kernel
theorem eX12_bookLine_198 : decode cX12_bookLine 198 = .ok (.goto 4, 3) := by decide +kernel
theorem eX12_bookLine_201 : decode cX12_bookLine 201 = .ok (.iconst 0, 1) := by decide +kernel
theorem eX12_bookLine_202 : decode cX12_bookLine 202 = .ok (.aload_n 0, 1) := by decide +kernel
theorem eX12_bookLine_203 : decode cX12_bookLine 203 = .ok (.getfield 33, 3) := by decide +kernel
theorem eX12_bookLine_206 : decode cX12_bookLine 206 = .ok (.iload_n 2, 1) := by decide +kernel
theorem eX12_bookLine_207 : decode cX12_bookLine 207 = .ok (.ifCond .eq 7, 3) := by decide +kernel
theorem eX12_bookLine_210 : decode cX12_bookLine 210 = .ok (.iconst 1, 1) := by decide +kernel
theorem eX12_bookLine_211 : decode cX12_bookLine 211 = .ok (.goto 4, 3) := by decide +kernel
theorem eX12_bookLine_214 : decode cX12_bookLine 214 = .ok (.iconst 0, 1) := by decide +kernel
theorem eX12_bookLine_215 : decode cX12_bookLine 215 = .ok (.iaload, 1) := by decide +kernel
theorem eX12_bookLine_216 : decode cX12_bookLine 216 = .ok (.invokevirtual 213, 3) := by decide +kernel
theorem eX12_bookLine_219 : decode cX12_bookLine 219 = .ok (.ifCond .ne 5, 3) := by decide +kernel
theorem eX12_bookLine_222 : decode cX12_bookLine 222 = .ok (.iconst 0, 1) := by decide +kernel
theorem eX12_bookLine_223 : decode cX12_bookLine 223 = .ok (.ireturn, 1) := by decide +kernel
theorem eX12_bookLine_224 : decode cX12_bookLine 224 = .ok (.aload_n 0, 1) := by decide +kernel
theorem eX12_bookLine_225 : decode cX12_bookLine 225 = .ok (.getfield 40, 3) := by decide +kernel
theorem eX12_bookLine_228 : decode cX12_bookLine 228 = .ok (.iload_n 1, 1) := by decide +kernel
theorem eX12_bookLine_229 : decode cX12_bookLine 229 = .ok (.iconst 2, 1) := by decide +kernel
theorem eX12_bookLine_230 : decode cX12_bookLine 230 = .ok (.iadd, 1) := by decide +kernel
theorem eX12_bookLine_231 : decode cX12_bookLine 231 = .ok (.aload_n 0, 1) := by decide +kernel
theorem eX12_bookLine_232 : decode cX12_bookLine 232 = .ok (.getfield 202, 3) := by decide +kernel
theorem eX12_bookLine_235 : decode cX12_bookLine 235 = .ok (.iastore, 1) := by decide +kernel
theorem eX12_bookLine_236 : decode cX12_bookLine 236 = .ok (.aload_n 0, 1) := by decide +kernel
theorem eX12_bookLine_237 : decode cX12_bookLine 237 = .ok (.invokevirtual 195, 3) := by decide +kernel
theorem eX12_bookLine_240 : decode cX12_bookLine 240 = .ok (.iconst 1, 1) := by decide +kernel
theorem eX12_bookLine_241 : decode cX12_bookLine 241 = .ok (.ireturn, 1) := by decide +kernel
set_option maxRecDepth 100000 in
theorem m_12_bookLine_J27 (hU : ev_uq ty ev_TR) {r : Int} {C' : ev_C} {C : ev_C} {y1 : Int} (h : f_12_bookLine_J27 C y1 = some (r, C')) : ev_W l D cys ty ck_tags ev_TR kh_12_bookLine 27 [(0, .inr (.inl 12)), (1, .inl y1)] [] C (fun r0 C0 => r0 = some (.inl r) ∧ C0 = C') := by
  unfold f_12_bookLine_J27 at h
  refine ev_al eX12_bookLine_27 rfl ?_
  refine ev_getI lk_f (ci := 12) (j := 41) (cd := 0) eX12_bookLine_28 (isF (by decide +kernel)) rfl rfl rfl ?_
  refine ev_bp eX12_bookLine_31 (by decide) (by decide) ?_
  refine ev_c_ne (tgt := 42) eX12_bookLine_33 (by decide) (fun hc3 => ?_) (fun hc3 => ?_)
  · rw [if_pos (show (C 12 41) ≠ 40 from hc3)] at h
    refine ev_al eX12_bookLine_42 rfl ?_
    refine ev_getR lk_f (ci := 12) (j := 8) (cd := 3) eX12_bookLine_43 (isF (by decide +kernel)) rfl rfl ?_
    refine ev_il eX12_bookLine_46 rfl ?_
    refine ev_al eX12_bookLine_47 rfl ?_
    refine ev_ldc2 (x := 27995157133617518) (v := 27995157133617518) eX12_bookLine_48 (in_r13 _ (List.mem_of_getElem? (i := 6) rfl)) (by decide +kernel) ?_
    obtain ⟨r4, C4, hq4, h⟩ := ev_bd_some h
    refine ev_callV (kc := kc_211) (A := [.inr (.inr 27995157133617518)]) (T := [.inl y1, .inr (.inl 36)]) (lk_m.1 _ _ 0 [211] (isM (by decide +kernel)) 211 (by decide)) eX12_bookLine_51 (m_12_isWord hU hq4) rfl rfl rfl (by decide) (by decide) (Nat.le_of_ble_eq_true rfl) ?_
    rintro _ C4 ⟨rfl, rfl⟩
    show ev_W l D cys ty ck_tags ev_TR kh_12_bookLine 54 [(0, .inr (.inl 12)), (1, .inl y1)] [.inl r4, .inl y1, .inr (.inl 36)] C4 _
    refine ev_z_eq (tgt := 61) eX12_bookLine_54 (by decide) (fun hc5 => ?_) (fun hc5 => ?_)
    · rw [if_pos (show r4 = 0 from hc5)] at h
      refine ev_ic eX12_bookLine_61 (by decide) ?_
      obtain ⟨hb6, h⟩ := ev_gd h
      refine ev_iast hU eX12_bookLine_62 rfl rfl hb6.1 hb6.2 ?_
      refine ev_al eX12_bookLine_63 rfl ?_
      obtain ⟨C7, hq7, h⟩ := ev_bv_some h
      refine ev_callV (kc := kc_209) (A := []) (T := []) (lk_m.1 _ _ 0 [209] (isM (by decide +kernel)) 209 (by decide)) eX12_bookLine_64 (m_12_go hU hq7) rfl rfl rfl (by decide) (by decide) (Nat.le_of_ble_eq_true rfl) ?_
      rintro _ C7 ⟨rfl, rfl⟩
      show ev_W l D cys ty ck_tags ev_TR kh_12_bookLine 67 [(0, .inr (.inl 12)), (1, .inl y1)] [] C7 _
      refine ev_ic eX12_bookLine_67 (by decide) ?_
      cases h
      exact ev_zret eX12_bookLine_68 rfl (by decide) ⟨rfl, rfl⟩
    · rw [if_neg (show ¬ (r4 = 0) from hc5)] at h
      refine ev_ic eX12_bookLine_57 (by decide) ?_
      refine ev_goto (tgt := 62) eX12_bookLine_58 (by decide) ?_
      obtain ⟨hb8, h⟩ := ev_gd h
      refine ev_iast hU eX12_bookLine_62 rfl rfl hb8.1 hb8.2 ?_
      refine ev_al eX12_bookLine_63 rfl ?_
      obtain ⟨C9, hq9, h⟩ := ev_bv_some h
      refine ev_callV (kc := kc_209) (A := []) (T := []) (lk_m.1 _ _ 0 [209] (isM (by decide +kernel)) 209 (by decide)) eX12_bookLine_64 (m_12_go hU hq9) rfl rfl rfl (by decide) (by decide) (Nat.le_of_ble_eq_true rfl) ?_
      rintro _ C9 ⟨rfl, rfl⟩
      show ev_W l D cys ty ck_tags ev_TR kh_12_bookLine 67 [(0, .inr (.inl 12)), (1, .inl y1)] [] C9 _
      refine ev_ic eX12_bookLine_67 (by decide) ?_
      cases h
      exact ev_zret eX12_bookLine_68 rfl (by decide) ⟨rfl, rfl⟩
  · rw [if_neg (show ¬ ((C 12 41) ≠ 40) from hc3)] at h
    refine ev_al eX12_bookLine_36 rfl ?_
    refine ev_ic eX12_bookLine_37 (by decide) ?_
    obtain ⟨r10, C10, hq10, h⟩ := ev_bd_some h
    refine ev_callV (kc := kc_205) (A := [.inl 4]) (T := []) (lk_m.1 _ _ 0 [205] (isM (by decide +kernel)) 205 (by decide)) eX12_bookLine_38 (m_12_bad hU hq10) rfl rfl rfl (by decide) (by decide) (Nat.le_of_ble_eq_true rfl) ?_
    rintro _ C10 ⟨rfl, rfl⟩
    show ev_W l D cys ty ck_tags ev_TR kh_12_bookLine 41 [(0, .inr (.inl 12)), (1, .inl y1)] [.inl r10] C10 _
    obtain ⟨hb11, h⟩ := ev_gd h
    cases h
    exact ev_zret eX12_bookLine_41 rfl hb11 ⟨rfl, rfl⟩
set_option maxRecDepth 100000 in
theorem m_12_bookLine_J215 (hU : ev_uq ty ev_TR) {r : Int} {C' : ev_C} {C : ev_C} {y1 y2 w0 w2 : Int} (h : f_12_bookLine_J215 C y1 y2 w0 w2 = some (r, C')) : ev_W l D cys ty ck_tags ev_TR kh_12_bookLine 215 [(0, .inr (.inl 12)), (1, .inl y1), (2, .inl y2)] [.inl w0, .inr (.inl 34), .inl w2, .inr (.inl 12)] C (fun r0 C0 => r0 = some (.inl r) ∧ C0 = C') := by
  unfold f_12_bookLine_J215 at h
  obtain ⟨hb27, h⟩ := ev_gd h
  refine ev_iald eX12_bookLine_215 rfl rfl hb27.1 hb27.2 ?_
  obtain ⟨r28, C28, hq28, h⟩ := ev_bd_some h
  refine ev_callV (kc := kc_224) (A := [.inl w2, .inl ((C 34 (Int.toNat w0)))]) (T := []) (lk_m.1 _ _ 0 [224, 225] (isM (by decide +kernel)) 224 (by decide)) eX12_bookLine_216 (m_12_looksAt hU hq28) rfl rfl rfl (by decide) (by decide) (Nat.le_of_ble_eq_true rfl) ?_
  rintro _ C28 ⟨rfl, rfl⟩
  show ev_W l D cys ty ck_tags ev_TR kh_12_bookLine 219 [(0, .inr (.inl 12)), (1, .inl y1), (2, .inl y2)] [.inl r28] C28 _
  refine ev_z_ne (tgt := 224) eX12_bookLine_219 (by decide) (fun hc29 => ?_) (fun hc29 => ?_)
  · rw [if_pos (show r28 ≠ 0 from hc29)] at h
    refine ev_al eX12_bookLine_224 rfl ?_
    refine ev_getR lk_f (ci := 12) (j := 8) (cd := 3) eX12_bookLine_225 (isF (by decide +kernel)) rfl rfl ?_
    refine ev_il eX12_bookLine_228 rfl ?_
    refine ev_ic eX12_bookLine_229 (by decide) ?_
    refine ev_add eX12_bookLine_230 ?_
    refine ev_al eX12_bookLine_231 rfl ?_
    refine ev_getI lk_f (ci := 12) (j := 18) (cd := 0) eX12_bookLine_232 (isF (by decide +kernel)) rfl rfl rfl ?_
    obtain ⟨hb30, h⟩ := ev_gd h
    refine ev_iast hU eX12_bookLine_235 rfl rfl hb30.1 hb30.2 ?_
    refine ev_al eX12_bookLine_236 rfl ?_
    obtain ⟨C31, hq31, h⟩ := ev_bv_some h
    refine ev_callV (kc := kc_209) (A := []) (T := []) (lk_m.1 _ _ 0 [209] (isM (by decide +kernel)) 209 (by decide)) eX12_bookLine_237 (m_12_go hU hq31) rfl rfl rfl (by decide) (by decide) (Nat.le_of_ble_eq_true rfl) ?_
    rintro _ C31 ⟨rfl, rfl⟩
    show ev_W l D cys ty ck_tags ev_TR kh_12_bookLine 240 [(0, .inr (.inl 12)), (1, .inl y1), (2, .inl y2)] [] C31 _
    refine ev_ic eX12_bookLine_240 (by decide) ?_
    cases h
    exact ev_zret eX12_bookLine_241 rfl (by decide) ⟨rfl, rfl⟩
  · rw [if_neg (show ¬ (r28 ≠ 0) from hc29)] at h
    refine ev_ic eX12_bookLine_222 (by decide) ?_
    cases h
    exact ev_zret eX12_bookLine_223 rfl (by decide) ⟨rfl, rfl⟩
set_option maxRecDepth 100000 in
theorem m_12_bookLine_J202 (hU : ev_uq ty ev_TR) {r : Int} {C' : ev_C} {C : ev_C} {y1 y2 w0 : Int} (h : f_12_bookLine_J202 C y1 y2 w0 = some (r, C')) : ev_W l D cys ty ck_tags ev_TR kh_12_bookLine 202 [(0, .inr (.inl 12)), (1, .inl y1), (2, .inl y2)] [.inl w0, .inr (.inl 12)] C (fun r0 C0 => r0 = some (.inl r) ∧ C0 = C') := by
  unfold f_12_bookLine_J202 at h
  refine ev_al eX12_bookLine_202 rfl ?_
  refine ev_getR lk_f (ci := 12) (j := 6) (cd := 3) eX12_bookLine_203 (isF (by decide +kernel)) rfl rfl ?_
  refine ev_il eX12_bookLine_206 rfl ?_
  refine ev_z_eq (tgt := 214) eX12_bookLine_207 (by decide) (fun hc26 => ?_) (fun hc26 => ?_)
  · rw [if_pos (show y2 = 0 from hc26)] at h
    refine ev_ic eX12_bookLine_214 (by decide) ?_
    refine ev_loc (L' := [(0, .inr (.inl 12)), (1, .inl y1), (2, .inl y2)]) rfl ?_
    exact m_12_bookLine_J215 hU h
  · rw [if_neg (show ¬ (y2 = 0) from hc26)] at h
    refine ev_ic eX12_bookLine_210 (by decide) ?_
    refine ev_goto (tgt := 215) eX12_bookLine_211 (by decide) ?_
    refine ev_loc (L' := [(0, .inr (.inl 12)), (1, .inl y1), (2, .inl y2)]) rfl ?_
    exact m_12_bookLine_J215 hU h
set_option maxRecDepth 100000 in
theorem m_12_bookLine_J191 (hU : ev_uq ty ev_TR) {r : Int} {C' : ev_C} {C : ev_C} {y1 y2 : Int} (h : f_12_bookLine_J191 C y1 y2 = some (r, C')) : ev_W l D cys ty ck_tags ev_TR kh_12_bookLine 191 [(0, .inr (.inl 12)), (1, .inl y1), (2, .inl y2)] [] C (fun r0 C0 => r0 = some (.inl r) ∧ C0 = C') := by
  unfold f_12_bookLine_J191 at h
  refine ev_al eX12_bookLine_191 rfl ?_
  refine ev_il eX12_bookLine_192 rfl ?_
  refine ev_z_eq (tgt := 201) eX12_bookLine_193 (by decide) (fun hc25 => ?_) (fun hc25 => ?_)
  · rw [if_pos (show y2 = 0 from hc25)] at h
    refine ev_ic eX12_bookLine_201 (by decide) ?_
    refine ev_loc (L' := [(0, .inr (.inl 12)), (1, .inl y1), (2, .inl y2)]) rfl ?_
    exact m_12_bookLine_J202 hU h
  · rw [if_neg (show ¬ (y2 = 0) from hc25)] at h
    refine ev_bp eX12_bookLine_196 (by decide) (by decide) ?_
    refine ev_goto (tgt := 202) eX12_bookLine_198 (by decide) ?_
    refine ev_loc (L' := [(0, .inr (.inl 12)), (1, .inl y1), (2, .inl y2)]) rfl ?_
    exact m_12_bookLine_J202 hU h
set_option maxRecDepth 100000 in
theorem m_12_bookLine_J150 (hU : ev_uq ty ev_TR) {r : Int} {C' : ev_C} {C : ev_C} {y1 y2 w0 w1 : Int} (h : f_12_bookLine_J150 C y1 y2 w0 w1 = some (r, C')) : ev_W l D cys ty ck_tags ev_TR kh_12_bookLine 150 [(0, .inr (.inl 12)), (1, .inl y1), (2, .inl y2)] [.inl w0, .inl w1, .inr (.inl 36)] C (fun r0 C0 => r0 = some (.inl r) ∧ C0 = C') := by
  unfold f_12_bookLine_J150 at h
  obtain ⟨hb21, h⟩ := ev_gd h
  refine ev_iast hU eX12_bookLine_150 rfl rfl hb21.1 hb21.2 ?_
  refine ev_al eX12_bookLine_151 rfl ?_
  refine ev_getR lk_f (ci := 12) (j := 8) (cd := 3) eX12_bookLine_152 (isF (by decide +kernel)) rfl rfl ?_
  refine ev_il eX12_bookLine_155 rfl ?_
  refine ev_ic eX12_bookLine_156 (by decide) ?_
  refine ev_add eX12_bookLine_157 ?_
  refine ev_al eX12_bookLine_158 rfl ?_
  refine ev_getI lk_f (ci := 12) (j := 18) (cd := 0) eX12_bookLine_159 (isF (by decide +kernel)) rfl rfl rfl ?_
  obtain ⟨hb22, h⟩ := ev_gd h
  refine ev_iast hU eX12_bookLine_162 rfl rfl hb22.1 hb22.2 ?_
  refine ev_al eX12_bookLine_163 rfl ?_
  obtain ⟨C23, hq23, h⟩ := ev_bv_some h
  refine ev_callV (kc := kc_209) (A := []) (T := []) (lk_m.1 _ _ 0 [209] (isM (by decide +kernel)) 209 (by decide)) eX12_bookLine_164 (m_12_go hU hq23) rfl rfl rfl (by decide) (by decide) (Nat.le_of_ble_eq_true rfl) ?_
  rintro _ C23 ⟨rfl, rfl⟩
  show ev_W l D cys ty ck_tags ev_TR kh_12_bookLine 167 [(0, .inr (.inl 12)), (1, .inl y1), (2, .inl y2)] [] C23 _
  refine ev_il eX12_bookLine_167 rfl ?_
  refine ev_z_ne (tgt := 191) eX12_bookLine_168 (by decide) (fun hc24 => ?_) (fun hc24 => ?_)
  · rw [if_pos (show y2 ≠ 0 from hc24)] at h
    refine ev_loc (L' := [(0, .inr (.inl 12)), (1, .inl y1), (2, .inl y2)]) rfl ?_
    exact m_12_bookLine_J191 hU h
  · rw [if_neg (show ¬ (y2 ≠ 0) from hc24)] at h
    refine ev_al eX12_bookLine_171 rfl ?_
    refine ev_ldc2 (x := 24947) (v := 24947) eX12_bookLine_172 (in_r13 _ (List.mem_of_getElem? (i := 4) rfl)) (by decide +kernel) ?_
    obtain ⟨r32, C32, hq32, h⟩ := ev_bd_some h
    refine ev_callV (kc := kc_211) (A := [.inr (.inr 24947)]) (T := []) (lk_m.1 _ _ 0 [211] (isM (by decide +kernel)) 211 (by decide)) eX12_bookLine_175 (m_12_isWord hU hq32) rfl rfl rfl (by decide) (by decide) (Nat.le_of_ble_eq_true rfl) ?_
    rintro _ C32 ⟨rfl, rfl⟩
    show ev_W l D cys ty ck_tags ev_TR kh_12_bookLine 178 [(0, .inr (.inl 12)), (1, .inl y1), (2, .inl y2)] [.inl r32] C32 _
    refine ev_z_ne (tgt := 187) eX12_bookLine_178 (by decide) (fun hc33 => ?_) (fun hc33 => ?_)
    · rw [if_pos (show r32 ≠ 0 from hc33)] at h
      refine ev_al eX12_bookLine_187 rfl ?_
      obtain ⟨C34, hq34, h⟩ := ev_bv_some h
      refine ev_callV (kc := kc_209) (A := []) (T := []) (lk_m.1 _ _ 0 [209] (isM (by decide +kernel)) 209 (by decide)) eX12_bookLine_188 (m_12_go hU hq34) rfl rfl rfl (by decide) (by decide) (Nat.le_of_ble_eq_true rfl) ?_
      rintro _ C34 ⟨rfl, rfl⟩
      show ev_W l D cys ty ck_tags ev_TR kh_12_bookLine 191 [(0, .inr (.inl 12)), (1, .inl y1), (2, .inl y2)] [] C34 _
      refine ev_loc (L' := [(0, .inr (.inl 12)), (1, .inl y1), (2, .inl y2)]) rfl ?_
      exact m_12_bookLine_J191 hU h
    · rw [if_neg (show ¬ (r32 ≠ 0) from hc33)] at h
      refine ev_al eX12_bookLine_181 rfl ?_
      refine ev_ic eX12_bookLine_182 (by decide) ?_
      obtain ⟨r35, C35, hq35, h⟩ := ev_bd_some h
      refine ev_callV (kc := kc_205) (A := [.inl 1]) (T := []) (lk_m.1 _ _ 0 [205] (isM (by decide +kernel)) 205 (by decide)) eX12_bookLine_183 (m_12_bad hU hq35) rfl rfl rfl (by decide) (by decide) (Nat.le_of_ble_eq_true rfl) ?_
      rintro _ C35 ⟨rfl, rfl⟩
      show ev_W l D cys ty ck_tags ev_TR kh_12_bookLine 186 [(0, .inr (.inl 12)), (1, .inl y1), (2, .inl y2)] [.inl r35] C35 _
      obtain ⟨hb36, h⟩ := ev_gd h
      cases h
      exact ev_zret eX12_bookLine_186 rfl hb36 ⟨rfl, rfl⟩
set_option maxRecDepth 100000 in
theorem m_12_bookLine_J104 (hU : ev_uq ty ev_TR) {r : Int} {C' : ev_C} {C : ev_C} {y1 y2 : Int} (h : f_12_bookLine_J104 C y1 y2 = some (r, C')) : ev_W l D cys ty ck_tags ev_TR kh_12_bookLine 104 [(0, .inr (.inl 12)), (1, .inl y1), (2, .inl y2)] [] C (fun r0 C0 => r0 = some (.inl r) ∧ C0 = C') := by
  unfold f_12_bookLine_J104 at h
  refine ev_al eX12_bookLine_104 rfl ?_
  refine ev_bp eX12_bookLine_105 (by decide) (by decide) ?_
  refine ev_al eX12_bookLine_107 rfl ?_
  refine ev_getR lk_f (ci := 12) (j := 6) (cd := 3) eX12_bookLine_108 (isF (by decide +kernel)) rfl rfl ?_
  refine ev_ic eX12_bookLine_111 (by decide) ?_
  refine ev_iald eX12_bookLine_112 rfl rfl (by decide) (by decide) ?_
  obtain ⟨r17, C17, hq17, h⟩ := ev_bd_some h
  refine ev_callV (kc := kc_224) (A := [.inl 12, .inl ((C 34 2))]) (T := []) (lk_m.1 _ _ 0 [224, 225] (isM (by decide +kernel)) 224 (by decide)) eX12_bookLine_113 (m_12_looksAt hU hq17) rfl rfl rfl (by decide) (by decide) (Nat.le_of_ble_eq_true rfl) ?_
  rintro _ C17 ⟨rfl, rfl⟩
  show ev_W l D cys ty ck_tags ev_TR kh_12_bookLine 116 [(0, .inr (.inl 12)), (1, .inl y1), (2, .inl y2)] [.inl r17] C17 _
  refine ev_z_ne (tgt := 121) eX12_bookLine_116 (by decide) (fun hc18 => ?_) (fun hc18 => ?_)
  · rw [if_pos (show r17 ≠ 0 from hc18)] at h
    refine ev_al eX12_bookLine_121 rfl ?_
    refine ev_getI lk_f (ci := 12) (j := 41) (cd := 0) eX12_bookLine_122 (isF (by decide +kernel)) rfl rfl rfl ?_
    refine ev_bp eX12_bookLine_125 (by decide) (by decide) ?_
    refine ev_c_ne (tgt := 136) eX12_bookLine_127 (by decide) (fun hc19 => ?_) (fun hc19 => ?_)
    · rw [if_pos (show (C17 12 41) ≠ 40 from hc19)] at h
      refine ev_al eX12_bookLine_136 rfl ?_
      refine ev_getR lk_f (ci := 12) (j := 8) (cd := 3) eX12_bookLine_137 (isF (by decide +kernel)) rfl rfl ?_
      refine ev_il eX12_bookLine_140 rfl ?_
      refine ev_il eX12_bookLine_141 rfl ?_
      refine ev_z_eq (tgt := 149) eX12_bookLine_142 (by decide) (fun hc20 => ?_) (fun hc20 => ?_)
      · rw [if_pos (show y2 = 0 from hc20)] at h
        refine ev_ic eX12_bookLine_149 (by decide) ?_
        refine ev_loc (L' := [(0, .inr (.inl 12)), (1, .inl y1), (2, .inl y2)]) rfl ?_
        exact m_12_bookLine_J150 hU h
      · rw [if_neg (show ¬ (y2 = 0) from hc20)] at h
        refine ev_ic eX12_bookLine_145 (by decide) ?_
        refine ev_goto (tgt := 150) eX12_bookLine_146 (by decide) ?_
        refine ev_loc (L' := [(0, .inr (.inl 12)), (1, .inl y1), (2, .inl y2)]) rfl ?_
        exact m_12_bookLine_J150 hU h
    · rw [if_neg (show ¬ ((C17 12 41) ≠ 40) from hc19)] at h
      refine ev_al eX12_bookLine_130 rfl ?_
      refine ev_ic eX12_bookLine_131 (by decide) ?_
      obtain ⟨r37, C37, hq37, h⟩ := ev_bd_some h
      refine ev_callV (kc := kc_205) (A := [.inl 4]) (T := []) (lk_m.1 _ _ 0 [205] (isM (by decide +kernel)) 205 (by decide)) eX12_bookLine_132 (m_12_bad hU hq37) rfl rfl rfl (by decide) (by decide) (Nat.le_of_ble_eq_true rfl) ?_
      rintro _ C37 ⟨rfl, rfl⟩
      show ev_W l D cys ty ck_tags ev_TR kh_12_bookLine 135 [(0, .inr (.inl 12)), (1, .inl y1), (2, .inl y2)] [.inl r37] C37 _
      obtain ⟨hb38, h⟩ := ev_gd h
      cases h
      exact ev_zret eX12_bookLine_135 rfl hb38 ⟨rfl, rfl⟩
  · rw [if_neg (show ¬ (r17 ≠ 0) from hc18)] at h
    refine ev_ic eX12_bookLine_119 (by decide) ?_
    cases h
    exact ev_zret eX12_bookLine_120 rfl (by decide) ⟨rfl, rfl⟩
set_option maxRecDepth 100000 in
theorem m_12_bookLine_J96 (hU : ev_uq ty ev_TR) {r : Int} {C' : ev_C} {C : ev_C} {y1 y2 : Int} (h : f_12_bookLine_J96 C y1 y2 = some (r, C')) : ev_W l D cys ty ck_tags ev_TR kh_12_bookLine 96 [(0, .inr (.inl 12)), (1, .inl y1), (2, .inl y2)] [] C (fun r0 C0 => r0 = some (.inl r) ∧ C0 = C') := by
  unfold f_12_bookLine_J96 at h
  refine ev_il eX12_bookLine_96 rfl ?_
  refine ev_z_eq (tgt := 104) eX12_bookLine_97 (by decide) (fun hc16 => ?_) (fun hc16 => ?_)
  · rw [if_pos (show y2 = 0 from hc16)] at h
    refine ev_loc (L' := [(0, .inr (.inl 12)), (1, .inl y1), (2, .inl y2)]) rfl ?_
    exact m_12_bookLine_J104 hU h
  · rw [if_neg (show ¬ (y2 = 0) from hc16)] at h
    refine ev_al eX12_bookLine_100 rfl ?_
    obtain ⟨C39, hq39, h⟩ := ev_bv_some h
    refine ev_callV (kc := kc_209) (A := []) (T := []) (lk_m.1 _ _ 0 [209] (isM (by decide +kernel)) 209 (by decide)) eX12_bookLine_101 (m_12_go hU hq39) rfl rfl rfl (by decide) (by decide) (Nat.le_of_ble_eq_true rfl) ?_
    rintro _ C39 ⟨rfl, rfl⟩
    show ev_W l D cys ty ck_tags ev_TR kh_12_bookLine 104 [(0, .inr (.inl 12)), (1, .inl y1), (2, .inl y2)] [] C39 _
    refine ev_loc (L' := [(0, .inr (.inl 12)), (1, .inl y1), (2, .inl y2)]) rfl ?_
    exact m_12_bookLine_J104 hU h
set_option maxRecDepth 100000 in
theorem m_12_bookLine (hU : ev_uq ty ev_TR) {C : ev_C} {r : Int} {C' : ev_C} (h : f_12_bookLine C = some (r, C')) : ev_Met l D cys ty ck_tags ev_TR kh_12_bookLine [.inr (.inl 12)] C (fun r0 C0 => r0 = some (.inl r) ∧ C0 = C') := by
  unfold f_12_bookLine at h
  refine ev_enter (by decide +kernel) (by decide +kernel) (Nat.le_of_ble_eq_true rfl) ?_
  show ev_W l D cys ty ck_tags ev_TR kh_12_bookLine 0 [(0, .inr (.inl 12))] [] C _
  refine ev_ic eX12_bookLine_0 (by decide) ?_
  refine ev_al eX12_bookLine_1 rfl ?_
  refine ev_getI lk_f (ci := 12) (j := 41) (cd := 0) eX12_bookLine_2 (isF (by decide +kernel)) rfl rfl rfl ?_
  refine ev_mul eX12_bookLine_5 ?_
  refine ev_is (L' := [(1, .inl (ev_w ((3 : Int) * ((C 12 41))))), (0, .inr (.inl 12))]) eX12_bookLine_6 (by decide) rfl ?_
  refine ev_al eX12_bookLine_7 rfl ?_
  refine ev_ldc2 (x := 27995157133617518) (v := 27995157133617518) eX12_bookLine_8 (in_r13 _ (List.mem_of_getElem? (i := 6) rfl)) (by decide +kernel) ?_
  obtain ⟨r1, C1, hq1, h⟩ := ev_bd_some h
  refine ev_callV (kc := kc_211) (A := [.inr (.inr 27995157133617518)]) (T := []) (lk_m.1 _ _ 0 [211] (isM (by decide +kernel)) 211 (by decide)) eX12_bookLine_11 (m_12_isWord hU hq1) rfl rfl rfl (by decide) (by decide) (Nat.le_of_ble_eq_true rfl) ?_
  rintro _ C1 ⟨rfl, rfl⟩
  show ev_W l D cys ty ck_tags ev_TR kh_12_bookLine 14 [(1, .inl (ev_w ((3 : Int) * ((C 12 41))))), (0, .inr (.inl 12))] [.inl r1] C1 _
  refine ev_z_ne (tgt := 27) eX12_bookLine_14 (by decide) (fun hc2 => ?_) (fun hc2 => ?_)
  · rw [if_pos (show r1 ≠ 0 from hc2)] at h
    refine ev_loc (L' := [(0, .inr (.inl 12)), (1, .inl (ev_w ((3 : Int) * ((C 12 41)))))]) rfl ?_
    exact m_12_bookLine_J27 hU h
  · rw [if_neg (show ¬ (r1 ≠ 0) from hc2)] at h
    refine ev_al eX12_bookLine_17 rfl ?_
    refine ev_ldc2 (x := 1650815860) (v := 1650815860) eX12_bookLine_18 (in_r13 _ (List.mem_of_getElem? (i := 7) rfl)) (by decide +kernel) ?_
    obtain ⟨r12, C12, hq12, h⟩ := ev_bd_some h
    refine ev_callV (kc := kc_211) (A := [.inr (.inr 1650815860)]) (T := []) (lk_m.1 _ _ 0 [211] (isM (by decide +kernel)) 211 (by decide)) eX12_bookLine_21 (m_12_isWord hU hq12) rfl rfl rfl (by decide) (by decide) (Nat.le_of_ble_eq_true rfl) ?_
    rintro _ C12 ⟨rfl, rfl⟩
    show ev_W l D cys ty ck_tags ev_TR kh_12_bookLine 24 [(1, .inl (ev_w ((3 : Int) * ((C 12 41))))), (0, .inr (.inl 12))] [.inl r12] C12 _
    refine ev_z_eq (tgt := 69) eX12_bookLine_24 (by decide) (fun hc13 => ?_) (fun hc13 => ?_)
    · rw [if_pos (show r12 = 0 from hc13)] at h
      refine ev_al eX12_bookLine_69 rfl ?_
      refine ev_ldc2 (x := 33610324346168690) (v := 33610324346168690) eX12_bookLine_70 (in_r13 _ (List.mem_of_getElem? (i := 5) rfl)) (by decide +kernel) ?_
      obtain ⟨r14, C14, hq14, h⟩ := ev_bd_some h
      refine ev_callV (kc := kc_211) (A := [.inr (.inr 33610324346168690)]) (T := []) (lk_m.1 _ _ 0 [211] (isM (by decide +kernel)) 211 (by decide)) eX12_bookLine_73 (m_12_isWord hU hq14) rfl rfl rfl (by decide) (by decide) (Nat.le_of_ble_eq_true rfl) ?_
      rintro _ C14 ⟨rfl, rfl⟩
      show ev_W l D cys ty ck_tags ev_TR kh_12_bookLine 76 [(1, .inl (ev_w ((3 : Int) * ((C 12 41))))), (0, .inr (.inl 12))] [.inl r14] C14 _
      refine ev_is (L' := [(2, .inl r14), (1, .inl (ev_w ((3 : Int) * ((C 12 41))))), (0, .inr (.inl 12))]) eX12_bookLine_76 (by decide) rfl ?_
      refine ev_il eX12_bookLine_77 rfl ?_
      refine ev_z_eq (tgt := 96) eX12_bookLine_78 (by decide) (fun hc15 => ?_) (fun hc15 => ?_)
      · rw [if_pos (show r14 = 0 from hc15)] at h
        refine ev_loc (L' := [(0, .inr (.inl 12)), (1, .inl (ev_w ((3 : Int) * ((C 12 41))))), (2, .inl r14)]) rfl ?_
        exact m_12_bookLine_J96 hU h
      · rw [if_neg (show ¬ (r14 = 0) from hc15)] at h
        refine ev_al eX12_bookLine_81 rfl ?_
        refine ev_getI lk_f (ci := 12) (j := 41) (cd := 0) eX12_bookLine_82 (isF (by decide +kernel)) rfl rfl rfl ?_
        refine ev_bp eX12_bookLine_85 (by decide) (by decide) ?_
        refine ev_c_ne (tgt := 96) eX12_bookLine_87 (by decide) (fun hc40 => ?_) (fun hc40 => ?_)
        · rw [if_pos (show (C14 12 41) ≠ 40 from hc40)] at h
          refine ev_loc (L' := [(0, .inr (.inl 12)), (1, .inl (ev_w ((3 : Int) * ((C 12 41))))), (2, .inl r14)]) rfl ?_
          exact m_12_bookLine_J96 hU h
        · rw [if_neg (show ¬ ((C14 12 41) ≠ 40) from hc40)] at h
          refine ev_al eX12_bookLine_90 rfl ?_
          refine ev_ic eX12_bookLine_91 (by decide) ?_
          obtain ⟨r41, C41, hq41, h⟩ := ev_bd_some h
          refine ev_callV (kc := kc_205) (A := [.inl 4]) (T := []) (lk_m.1 _ _ 0 [205] (isM (by decide +kernel)) 205 (by decide)) eX12_bookLine_92 (m_12_bad hU hq41) rfl rfl rfl (by decide) (by decide) (Nat.le_of_ble_eq_true rfl) ?_
          rintro _ C41 ⟨rfl, rfl⟩
          show ev_W l D cys ty ck_tags ev_TR kh_12_bookLine 95 [(2, .inl r14), (1, .inl (ev_w ((3 : Int) * ((C 12 41))))), (0, .inr (.inl 12))] [.inl r41] C41 _
          obtain ⟨hb42, h⟩ := ev_gd h
          cases h
          exact ev_zret eX12_bookLine_95 rfl hb42 ⟨rfl, rfl⟩
    · rw [if_neg (show ¬ (r12 = 0) from hc13)] at h
      refine ev_loc (L' := [(0, .inr (.inl 12)), (1, .inl (ev_w ((3 : Int) * ((C 12 41)))))]) rfl ?_
      exact m_12_bookLine_J27 hU h
end GX
