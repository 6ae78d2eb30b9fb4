/-! THE EXACT LOGIC: image() and restore() of the class (printed by a program of ours). -/
section GX
variable {l : Launch} {D : va_G} {cys : Nat → ClassId} {ty : Nat → Option Nat}
set_option maxRecDepth 100000 in
theorem m_6_copyFrom_51_6 (hU : ev_uq ty ev_TR) {C : ev_C} {C' : ev_C} (h : f_6_copyFrom_51_6 C = some C') : ev_Met l D cys ty ck_tags ev_TR kh_6_copyFrom_ip [.inr (.inl 51), .inr (.inl 6)] C (fun r0 C0 => r0 = none ∧ C0 = C') := by
  unfold f_6_copyFrom_51_6 at h
  refine ev_enter (by decide +kernel) (by decide +kernel) (Nat.le_of_ble_eq_true rfl) ?_
  show ev_W l D cys ty ck_tags ev_TR kh_6_copyFrom_ip 0 [(0, .inr (.inl 51)), (1, .inr (.inl 6))] [] C _
  refine ev_al eX6_copyFrom_0 rfl ?_
  refine ev_al eX6_copyFrom_1 rfl ?_
  refine ev_getI lk_f (ci := 6) (j := 0) (cd := 0) eX6_copyFrom_2 (isF (by decide +kernel)) rfl rfl rfl ?_
  refine ev_putI lk_f hU (ci := 6) (j := 0) (cd := 0) eX6_copyFrom_5 (isF (by decide +kernel)) rfl rfl (Or.inl rfl) rfl ?_
  refine ev_al eX6_copyFrom_8 rfl ?_
  refine ev_al eX6_copyFrom_9 rfl ?_
  refine ev_getI lk_f (ci := 6) (j := 1) (cd := 0) eX6_copyFrom_10 (isF (by decide +kernel)) rfl rfl rfl ?_
  refine ev_putI lk_f hU (ci := 6) (j := 1) (cd := 0) eX6_copyFrom_13 (isF (by decide +kernel)) rfl rfl (Or.inl rfl) rfl ?_
  refine ev_al eX6_copyFrom_16 rfl ?_
  refine ev_al eX6_copyFrom_17 rfl ?_
  refine ev_getI lk_f (ci := 6) (j := 2) (cd := 0) eX6_copyFrom_18 (isF (by decide +kernel)) rfl rfl rfl ?_
  refine ev_putI lk_f hU (ci := 6) (j := 2) (cd := 0) eX6_copyFrom_21 (isF (by decide +kernel)) rfl rfl (Or.inl rfl) rfl ?_
  refine ev_al eX6_copyFrom_24 rfl ?_
  refine ev_al eX6_copyFrom_25 rfl ?_
  refine ev_getI lk_f (ci := 6) (j := 3) (cd := 0) eX6_copyFrom_26 (isF (by decide +kernel)) rfl rfl rfl ?_
  refine ev_putI lk_f hU (ci := 6) (j := 3) (cd := 0) eX6_copyFrom_29 (isF (by decide +kernel)) rfl rfl (Or.inl rfl) rfl ?_
  refine ev_al eX6_copyFrom_32 rfl ?_
  refine ev_al eX6_copyFrom_33 rfl ?_
  refine ev_getI lk_f (ci := 6) (j := 4) (cd := 0) eX6_copyFrom_34 (isF (by decide +kernel)) rfl rfl rfl ?_
  refine ev_putI lk_f hU (ci := 6) (j := 4) (cd := 0) eX6_copyFrom_37 (isF (by decide +kernel)) rfl rfl (Or.inl rfl) rfl ?_
  refine ev_al eX6_copyFrom_40 rfl ?_
  refine ev_al eX6_copyFrom_41 rfl ?_
  refine ev_getI lk_f (ci := 6) (j := 5) (cd := 1) eX6_copyFrom_42 (isF (by decide +kernel)) rfl rfl rfl ?_
  obtain ⟨hb1, h⟩ := ev_gd h
  refine ev_putI lk_f hU (ci := 6) (j := 5) (cd := 1) eX6_copyFrom_45 (isF (by decide +kernel)) rfl rfl (Or.inr ⟨rfl, hb1⟩) rfl ?_
  refine ev_al eX6_copyFrom_48 rfl ?_
  refine ev_getR lk_f (ci := 6) (j := 6) (cd := 3) eX6_copyFrom_49 (isF (by decide +kernel)) rfl rfl ?_
  refine ev_ic eX6_copyFrom_52 (by decide) ?_
  refine ev_al eX6_copyFrom_53 rfl ?_
  refine ev_getR lk_f (ci := 6) (j := 6) (cd := 3) eX6_copyFrom_54 (isF (by decide +kernel)) rfl rfl ?_
  refine ev_ic eX6_copyFrom_57 (by decide) ?_
  refine ev_bp eX6_copyFrom_58 (by decide) (by decide) ?_
  refine ev_copyl hU lk_m eX6_copyFrom_60 (u := ()) (isC (by decide +kernel)) rfl rfl rfl rfl (by decide) (Nat.le_of_ble_eq_true rfl) ?_
  refine ev_al eX6_copyFrom_63 rfl ?_
  refine ev_getR lk_f (ci := 6) (j := 7) (cd := 3) eX6_copyFrom_64 (isF (by decide +kernel)) rfl rfl ?_
  refine ev_ic eX6_copyFrom_67 (by decide) ?_
  refine ev_al eX6_copyFrom_68 rfl ?_
  refine ev_getR lk_f (ci := 6) (j := 7) (cd := 3) eX6_copyFrom_69 (isF (by decide +kernel)) rfl rfl ?_
  refine ev_ic eX6_copyFrom_72 (by decide) ?_
  refine ev_bp eX6_copyFrom_73 (by decide) (by decide) ?_
  refine ev_copyl hU lk_m eX6_copyFrom_75 (u := ()) (isC (by decide +kernel)) rfl rfl rfl rfl (by decide) (Nat.le_of_ble_eq_true rfl) ?_
  refine ev_al eX6_copyFrom_78 rfl ?_
  refine ev_getR lk_f (ci := 6) (j := 8) (cd := 3) eX6_copyFrom_79 (isF (by decide +kernel)) rfl rfl ?_
  refine ev_ic eX6_copyFrom_82 (by decide) ?_
  refine ev_al eX6_copyFrom_83 rfl ?_
  refine ev_getR lk_f (ci := 6) (j := 8) (cd := 3) eX6_copyFrom_84 (isF (by decide +kernel)) rfl rfl ?_
  refine ev_ic eX6_copyFrom_87 (by decide) ?_
  refine ev_bp eX6_copyFrom_88 (by decide) (by decide) ?_
  refine ev_copyl hU lk_m eX6_copyFrom_90 (u := ()) (isC (by decide +kernel)) rfl rfl rfl rfl (by decide) (Nat.le_of_ble_eq_true rfl) ?_
  refine ev_al eX6_copyFrom_93 rfl ?_
  refine ev_getR lk_f (ci := 6) (j := 9) (cd := 3) eX6_copyFrom_94 (isF (by decide +kernel)) rfl rfl ?_
  refine ev_ic eX6_copyFrom_97 (by decide) ?_
  refine ev_al eX6_copyFrom_98 rfl ?_
  refine ev_getR lk_f (ci := 6) (j := 9) (cd := 3) eX6_copyFrom_99 (isF (by decide +kernel)) rfl rfl ?_
  refine ev_ic eX6_copyFrom_102 (by decide) ?_
  refine ev_bp eX6_copyFrom_103 (by decide) (by decide) ?_
  refine ev_copyi hU lk_m eX6_copyFrom_105 (u := ()) (isC (by decide +kernel)) rfl rfl rfl rfl (by decide) (Nat.le_of_ble_eq_true rfl) ?_
  refine ev_al eX6_copyFrom_108 rfl ?_
  refine ev_getR lk_f (ci := 6) (j := 10) (cd := 3) eX6_copyFrom_109 (isF (by decide +kernel)) rfl rfl ?_
  refine ev_ic eX6_copyFrom_112 (by decide) ?_
  refine ev_al eX6_copyFrom_113 rfl ?_
  refine ev_getR lk_f (ci := 6) (j := 10) (cd := 3) eX6_copyFrom_114 (isF (by decide +kernel)) rfl rfl ?_
  refine ev_ic eX6_copyFrom_117 (by decide) ?_
  refine ev_bp eX6_copyFrom_118 (by decide) (by decide) ?_
  refine ev_copyi hU lk_m eX6_copyFrom_120 (u := ()) (isC (by decide +kernel)) rfl rfl rfl rfl (by decide) (Nat.le_of_ble_eq_true rfl) ?_
  refine ev_al eX6_copyFrom_123 rfl ?_
  refine ev_getR lk_f (ci := 6) (j := 11) (cd := 3) eX6_copyFrom_124 (isF (by decide +kernel)) rfl rfl ?_
  refine ev_ic eX6_copyFrom_127 (by decide) ?_
  refine ev_al eX6_copyFrom_128 rfl ?_
  refine ev_getR lk_f (ci := 6) (j := 11) (cd := 3) eX6_copyFrom_129 (isF (by decide +kernel)) rfl rfl ?_
  refine ev_ic eX6_copyFrom_132 (by decide) ?_
  refine ev_bp eX6_copyFrom_133 (by decide) (by decide) ?_
  refine ev_copyi hU lk_m eX6_copyFrom_135 (u := ()) (isC (by decide +kernel)) rfl rfl rfl rfl (by decide) (Nat.le_of_ble_eq_true rfl) ?_
  refine ev_al eX6_copyFrom_138 rfl ?_
  refine ev_getR lk_f (ci := 6) (j := 12) (cd := 3) eX6_copyFrom_139 (isF (by decide +kernel)) rfl rfl ?_
  refine ev_ic eX6_copyFrom_142 (by decide) ?_
  refine ev_al eX6_copyFrom_143 rfl ?_
  refine ev_getR lk_f (ci := 6) (j := 12) (cd := 3) eX6_copyFrom_144 (isF (by decide +kernel)) rfl rfl ?_
  refine ev_ic eX6_copyFrom_147 (by decide) ?_
  refine ev_bp eX6_copyFrom_148 (by decide) (by decide) ?_
  refine ev_copyi hU lk_m eX6_copyFrom_150 (u := ()) (isC (by decide +kernel)) rfl rfl rfl rfl (by decide) (Nat.le_of_ble_eq_true rfl) ?_
  refine ev_al eX6_copyFrom_153 rfl ?_
  refine ev_getR lk_f (ci := 6) (j := 13) (cd := 3) eX6_copyFrom_154 (isF (by decide +kernel)) rfl rfl ?_
  refine ev_ic eX6_copyFrom_157 (by decide) ?_
  refine ev_al eX6_copyFrom_158 rfl ?_
  refine ev_getR lk_f (ci := 6) (j := 13) (cd := 3) eX6_copyFrom_159 (isF (by decide +kernel)) rfl rfl ?_
  refine ev_ic eX6_copyFrom_162 (by decide) ?_
  refine ev_bp eX6_copyFrom_163 (by decide) (by decide) ?_
  refine ev_copyi hU lk_m eX6_copyFrom_165 (u := ()) (isC (by decide +kernel)) rfl rfl rfl rfl (by decide) (Nat.le_of_ble_eq_true rfl) ?_
  refine ev_al eX6_copyFrom_168 rfl ?_
  refine ev_getR lk_f (ci := 6) (j := 14) (cd := 3) eX6_copyFrom_169 (isF (by decide +kernel)) rfl rfl ?_
  refine ev_ic eX6_copyFrom_172 (by decide) ?_
  refine ev_al eX6_copyFrom_173 rfl ?_
  refine ev_getR lk_f (ci := 6) (j := 14) (cd := 3) eX6_copyFrom_174 (isF (by decide +kernel)) rfl rfl ?_
  refine ev_ic eX6_copyFrom_177 (by decide) ?_
  refine ev_bp eX6_copyFrom_178 (by decide) (by decide) ?_
  refine ev_copyi hU lk_m eX6_copyFrom_180 (u := ()) (isC (by decide +kernel)) rfl rfl rfl rfl (by decide) (Nat.le_of_ble_eq_true rfl) ?_
  refine ev_al eX6_copyFrom_183 rfl ?_
  refine ev_getR lk_f (ci := 6) (j := 15) (cd := 3) eX6_copyFrom_184 (isF (by decide +kernel)) rfl rfl ?_
  refine ev_ic eX6_copyFrom_187 (by decide) ?_
  refine ev_al eX6_copyFrom_188 rfl ?_
  refine ev_getR lk_f (ci := 6) (j := 15) (cd := 3) eX6_copyFrom_189 (isF (by decide +kernel)) rfl rfl ?_
  refine ev_ic eX6_copyFrom_192 (by decide) ?_
  refine ev_bp eX6_copyFrom_193 (by decide) (by decide) ?_
  refine ev_copyi hU lk_m eX6_copyFrom_195 (u := ()) (isC (by decide +kernel)) rfl rfl rfl rfl (by decide) (Nat.le_of_ble_eq_true rfl) ?_
  refine ev_al eX6_copyFrom_198 rfl ?_
  refine ev_getR lk_f (ci := 6) (j := 16) (cd := 3) eX6_copyFrom_199 (isF (by decide +kernel)) rfl rfl ?_
  refine ev_ic eX6_copyFrom_202 (by decide) ?_
  refine ev_al eX6_copyFrom_203 rfl ?_
  refine ev_getR lk_f (ci := 6) (j := 16) (cd := 3) eX6_copyFrom_204 (isF (by decide +kernel)) rfl rfl ?_
  refine ev_ic eX6_copyFrom_207 (by decide) ?_
  refine ev_bp eX6_copyFrom_208 (by decide) (by decide) ?_
  refine ev_copyi hU lk_m eX6_copyFrom_210 (u := ()) (isC (by decide +kernel)) rfl rfl rfl rfl (by decide) (Nat.le_of_ble_eq_true rfl) ?_
  refine ev_al eX6_copyFrom_213 rfl ?_
  refine ev_getR lk_f (ci := 6) (j := 17) (cd := 3) eX6_copyFrom_214 (isF (by decide +kernel)) rfl rfl ?_
  refine ev_ic eX6_copyFrom_217 (by decide) ?_
  refine ev_al eX6_copyFrom_218 rfl ?_
  refine ev_getR lk_f (ci := 6) (j := 17) (cd := 3) eX6_copyFrom_219 (isF (by decide +kernel)) rfl rfl ?_
  refine ev_ic eX6_copyFrom_222 (by decide) ?_
  refine ev_bp eX6_copyFrom_223 (by decide) (by decide) ?_
  refine ev_copyi hU lk_m eX6_copyFrom_225 (u := ()) (isC (by decide +kernel)) rfl rfl rfl rfl (by decide) (Nat.le_of_ble_eq_true rfl) ?_
  refine ev_al eX6_copyFrom_228 rfl ?_
  refine ev_getR lk_f (ci := 6) (j := 18) (cd := 3) eX6_copyFrom_229 (isF (by decide +kernel)) rfl rfl ?_
  refine ev_ic eX6_copyFrom_232 (by decide) ?_
  refine ev_al eX6_copyFrom_233 rfl ?_
  refine ev_getR lk_f (ci := 6) (j := 18) (cd := 3) eX6_copyFrom_234 (isF (by decide +kernel)) rfl rfl ?_
  refine ev_ic eX6_copyFrom_237 (by decide) ?_
  refine ev_bp eX6_copyFrom_238 (by decide) (by decide) ?_
  refine ev_copyi hU lk_m eX6_copyFrom_240 (u := ()) (isC (by decide +kernel)) rfl rfl rfl rfl (by decide) (Nat.le_of_ble_eq_true rfl) ?_
  refine ev_al eX6_copyFrom_243 rfl ?_
  refine ev_getR lk_f (ci := 6) (j := 19) (cd := 3) eX6_copyFrom_244 (isF (by decide +kernel)) rfl rfl ?_
  refine ev_ic eX6_copyFrom_247 (by decide) ?_
  refine ev_al eX6_copyFrom_248 rfl ?_
  refine ev_getR lk_f (ci := 6) (j := 19) (cd := 3) eX6_copyFrom_249 (isF (by decide +kernel)) rfl rfl ?_
  refine ev_ic eX6_copyFrom_252 (by decide) ?_
  refine ev_bp eX6_copyFrom_253 (by decide) (by decide) ?_
  refine ev_copyi hU lk_m eX6_copyFrom_255 (u := ()) (isC (by decide +kernel)) rfl rfl rfl rfl (by decide) (Nat.le_of_ble_eq_true rfl) ?_
  cases h
  exact ev_vret eX6_copyFrom_258 rfl ⟨rfl, rfl⟩
theorem eX2_copyFrom_0 : decode cX2_copyFrom 0 = .ok (.aload_n 0, 1) := by decide +kernel
theorem eX2_copyFrom_1 : decode cX2_copyFrom 1 = .ok (.aload_n 1, 1) := by decide +kernel
theorem eX2_copyFrom_2 : decode cX2_copyFrom 2 = .ok (.getfield 9, 3) := by decide +kernel
theorem eX2_copyFrom_5 : decode cX2_copyFrom 5 = .ok (.putfield 9, 3) := by decide +kernel
theorem eX2_copyFrom_8 : decode cX2_copyFrom 8 = .ok (.aload_n 0, 1) := by decide +kernel
theorem eX2_copyFrom_9 : decode cX2_copyFrom 9 = .ok (.aload_n 1, 1) := by decide +kernel
theorem eX2_copyFrom_10 : decode cX2_copyFrom 10 = .ok (.getfield 15, 3) := by decide +kernel
theorem eX2_copyFrom_13 : decode cX2_copyFrom 13 = .ok (.putfield 15, 3) := by decide +kernel
theorem eX2_copyFrom_16 : decode cX2_copyFrom 16 = .ok (.aload_n 0, 1) := by decide +kernel
theorem eX2_copyFrom_17 : decode cX2_copyFrom 17 = .ok (.aload_n 1, 1) := by decide +kernel
theorem eX2_copyFrom_18 : decode cX2_copyFrom 18 = .ok (.getfield 18, 3) := by decide +kernel
theorem eX2_copyFrom_21 : decode cX2_copyFrom 21 = .ok (.putfield 18, 3) := by decide +kernel
theorem eX2_copyFrom_24 : decode cX2_copyFrom 24 = .ok (.aload_n 0, 1) := by decide +kernel
theorem eX2_copyFrom_25 : decode cX2_copyFrom 25 = .ok (.aload_n 1, 1) := by decide +kernel
theorem eX2_copyFrom_26 : decode cX2_copyFrom 26 = .ok (.getfield 21, 3) := by decide +kernel
theorem eX2_copyFrom_29 : decode cX2_copyFrom 29 = .ok (.putfield 21, 3) := by decide +kernel
theorem eX2_copyFrom_32 : decode cX2_copyFrom 32 = .ok (.aload_n 0, 1) := by decide +kernel
theorem eX2_copyFrom_33 : decode cX2_copyFrom 33 = .ok (.aload_n 1, 1) := by decide +kernel
theorem eX2_copyFrom_34 : decode cX2_copyFrom 34 = .ok (.getfield 24, 3) := by decide +kernel
theorem eX2_copyFrom_37 : decode cX2_copyFrom 37 = .ok (.putfield 24, 3) := by decide +kernel
theorem eX2_copyFrom_40 : decode cX2_copyFrom 40 = .ok (.aload_n 0, 1) := by decide +kernel
theorem eX2_copyFrom_41 : decode cX2_copyFrom 41 = .ok (.aload_n 1, 1) := by decide +kernel
theorem eX2_copyFrom_42 : decode cX2_copyFrom 42 = .ok (.getfield 27, 3) := by decide +kernel
theorem eX2_copyFrom_45 : decode cX2_copyFrom 45 = .ok (.putfield 27, 3) := by decide +kernel
theorem eX2_copyFrom_48 : decode cX2_copyFrom 48 = .ok (.aload_n 0, 1) := by decide +kernel
theorem eX2_copyFrom_49 : decode cX2_copyFrom 49 = .ok (.aload_n 1, 1) := by decide +kernel
theorem eX2_copyFrom_50 : decode cX2_copyFrom 50 = .ok (.getfield 30, 3) := by decide +kernel
theorem eX2_copyFrom_53 : decode cX2_copyFrom 53 = .ok (.putfield 30, 3) := by decide +kernel
theorem eX2_copyFrom_56 : decode cX2_copyFrom 56 = .ok (.aload_n 0, 1) := by decide +kernel
theorem eX2_copyFrom_57 : decode cX2_copyFrom 57 = .ok (.aload_n 1, 1) := by decide +kernel
theorem eX2_copyFrom_58 : decode cX2_copyFrom 58 = .ok (.getfield 33, 3) := by decide +kernel
theorem eX2_copyFrom_61 : decode cX2_copyFrom 61 = .ok (.putfield 33, 3) := by decide +kernel
theorem eX2_copyFrom_64 : decode cX2_copyFrom 64 = .ok (.aload_n 1, 1) := by decide +kernel
theorem eX2_copyFrom_65 : decode cX2_copyFrom 65 = .ok (.getfield 36, 3) := by decide +kernel
theorem eX2_copyFrom_68 : decode cX2_copyFrom 68 = .ok (.iconst 0, 1) := by decide +kernel
theorem eX2_copyFrom_69 : decode cX2_copyFrom 69 = .ok (.aload_n 0, 1) := by decide +kernel
theorem eX2_copyFrom_70 : decode cX2_copyFrom 70 = .ok (.getfield 36, 3) := by decide +kernel
theorem eX2_copyFrom_73 : decode cX2_copyFrom 73 = .ok (.iconst 0, 1) := by decide +kernel
theorem eX2_copyFrom_74 : decode cX2_copyFrom 74 = .ok (.bipush 6, 2) := by decide +kernel
theorem eX2_copyFrom_76 : decode cX2_copyFrom 76 = .ok (.invokestatic 58, 3) := by decide +kernel
theorem eX2_copyFrom_79 : decode cX2_copyFrom 79 = .ok (.aload_n 1, 1) := by decide +kernel
theorem eX2_copyFrom_80 : decode cX2_copyFrom 80 = .ok (.getfield 40, 3) := by decide +kernel
theorem eX2_copyFrom_83 : decode cX2_copyFrom 83 = .ok (.iconst 0, 1) := by decide +kernel
theorem eX2_copyFrom_84 : decode cX2_copyFrom 84 = .ok (.aload_n 0, 1) := by decide +kernel
theorem eX2_copyFrom_85 : decode cX2_copyFrom 85 = .ok (.getfield 40, 3) := by decide +kernel
theorem eX2_copyFrom_88 : decode cX2_copyFrom 88 = .ok (.iconst 0, 1) := by decide +kernel
theorem eX2_copyFrom_89 : decode cX2_copyFrom 89 = .ok (.bipush 6, 2) := by decide +kernel
theorem eX2_copyFrom_91 : decode cX2_copyFrom 91 = .ok (.invokestatic 58, 3) := by decide +kernel
theorem eX2_copyFrom_94 : decode cX2_copyFrom 94 = .ok (.aload_n 1, 1) := by decide +kernel
theorem eX2_copyFrom_95 : decode cX2_copyFrom 95 = .ok (.getfield 43, 3) := by decide +kernel
theorem eX2_copyFrom_98 : decode cX2_copyFrom 98 = .ok (.iconst 0, 1) := by decide +kernel
theorem eX2_copyFrom_99 : decode cX2_copyFrom 99 = .ok (.aload_n 0, 1) := by decide +kernel
theorem eX2_copyFrom_100 : decode cX2_copyFrom 100 = .ok (.getfield 43, 3) := by decide +kernel
theorem eX2_copyFrom_103 : decode cX2_copyFrom 103 = .ok (.iconst 0, 1) := by decide +kernel
theorem eX2_copyFrom_104 : decode cX2_copyFrom 104 = .ok (.bipush 8, 2) := by decide +kernel
theorem eX2_copyFrom_106 : decode cX2_copyFrom 106 = .ok (.invokestatic 58, 3) := by decide +kernel
theorem eX2_copyFrom_109 : decode cX2_copyFrom 109 = .ok (.aload_n 1, 1) := by decide +kernel
theorem eX2_copyFrom_110 : decode cX2_copyFrom 110 = .ok (.getfield 46, 3) := by decide +kernel
theorem eX2_copyFrom_113 : decode cX2_copyFrom 113 = .ok (.iconst 0, 1) := by decide +kernel
theorem eX2_copyFrom_114 : decode cX2_copyFrom 114 = .ok (.aload_n 0, 1) := by decide +kernel
theorem eX2_copyFrom_115 : decode cX2_copyFrom 115 = .ok (.getfield 46, 3) := by decide +kernel
theorem eX2_copyFrom_118 : decode cX2_copyFrom 118 = .ok (.iconst 0, 1) := by decide +kernel
theorem eX2_copyFrom_119 : decode cX2_copyFrom 119 = .ok (.bipush 8, 2) := by decide +kernel
theorem eX2_copyFrom_121 : decode cX2_copyFrom 121 = .ok (.invokestatic 58, 3) := by decide +kernel
theorem eX2_copyFrom_124 : decode cX2_copyFrom 124 = .ok (.aload_n 1, 1) := by decide +kernel
theorem eX2_copyFrom_125 : decode cX2_copyFrom 125 = .ok (.getfield 49, 3) := by decide +kernel
theorem eX2_copyFrom_128 : decode cX2_copyFrom 128 = .ok (.iconst 0, 1) := by decide +kernel
theorem eX2_copyFrom_129 : decode cX2_copyFrom 129 = .ok (.aload_n 0, 1) := by decide +kernel
theorem eX2_copyFrom_130 : decode cX2_copyFrom 130 = .ok (.getfield 49, 3) := by decide +kernel
theorem eX2_copyFrom_133 : decode cX2_copyFrom 133 = .ok (.iconst 0, 1) := by decide +kernel
theorem eX2_copyFrom_134 : decode cX2_copyFrom 134 = .ok (.bipush 8, 2) := by decide +kernel
theorem eX2_copyFrom_136 : decode cX2_copyFrom 136 = .ok (.invokestatic 58, 3) := by decide +kernel
theorem eX2_copyFrom_139 : decode cX2_copyFrom 139 = .ok (.return_, 1) := by decide +kernel
set_option maxRecDepth 100000 in
theorem m_2_copyFrom_2 (hU : ev_uq ty ev_TR) {C : ev_C} {C' : ev_C} (h : f_2_copyFrom_2 C = some C') : ev_Met l D cys ty ck_tags ev_TR kc_290 [.inr (.inl 2), .inr (.inl 2)] C (fun r0 C0 => r0 = none ∧ C0 = C') := by
  unfold f_2_copyFrom_2 at h
  refine ev_enter (by decide +kernel) (by decide +kernel) (Nat.le_of_ble_eq_true rfl) ?_
  show ev_W l D cys ty ck_tags ev_TR kc_290 0 [(0, .inr (.inl 2)), (1, .inr (.inl 2))] [] C _
  refine ev_al eX2_copyFrom_0 rfl ?_
  refine ev_al eX2_copyFrom_1 rfl ?_
  refine ev_getIU lk_f (ci := 2) (j := 0) (cd := 0) eX2_copyFrom_2 (isF (by decide +kernel)) rfl rfl (fun n1 => ?_)
  refine ev_putU lk_f hU (ci := 2) (j := 0) (cd := 0) eX2_copyFrom_5 (isF (by decide +kernel)) rfl rfl (Or.inl rfl) rfl ?_
  refine ev_al eX2_copyFrom_8 rfl ?_
  refine ev_al eX2_copyFrom_9 rfl ?_
  refine ev_getIU lk_f (ci := 2) (j := 1) (cd := 0) eX2_copyFrom_10 (isF (by decide +kernel)) rfl rfl (fun n2 => ?_)
  refine ev_putU lk_f hU (ci := 2) (j := 1) (cd := 0) eX2_copyFrom_13 (isF (by decide +kernel)) rfl rfl (Or.inl rfl) rfl ?_
  refine ev_al eX2_copyFrom_16 rfl ?_
  refine ev_al eX2_copyFrom_17 rfl ?_
  refine ev_getIU lk_f (ci := 2) (j := 2) (cd := 0) eX2_copyFrom_18 (isF (by decide +kernel)) rfl rfl (fun n3 => ?_)
  refine ev_putU lk_f hU (ci := 2) (j := 2) (cd := 0) eX2_copyFrom_21 (isF (by decide +kernel)) rfl rfl (Or.inl rfl) rfl ?_
  refine ev_al eX2_copyFrom_24 rfl ?_
  refine ev_al eX2_copyFrom_25 rfl ?_
  refine ev_getIU lk_f (ci := 2) (j := 3) (cd := 0) eX2_copyFrom_26 (isF (by decide +kernel)) rfl rfl (fun n4 => ?_)
  refine ev_putU lk_f hU (ci := 2) (j := 3) (cd := 0) eX2_copyFrom_29 (isF (by decide +kernel)) rfl rfl (Or.inl rfl) rfl ?_
  refine ev_al eX2_copyFrom_32 rfl ?_
  refine ev_al eX2_copyFrom_33 rfl ?_
  refine ev_getIU lk_f (ci := 2) (j := 4) (cd := 0) eX2_copyFrom_34 (isF (by decide +kernel)) rfl rfl (fun n5 => ?_)
  refine ev_putU lk_f hU (ci := 2) (j := 4) (cd := 0) eX2_copyFrom_37 (isF (by decide +kernel)) rfl rfl (Or.inl rfl) rfl ?_
  refine ev_al eX2_copyFrom_40 rfl ?_
  refine ev_al eX2_copyFrom_41 rfl ?_
  refine ev_getIU lk_f (ci := 2) (j := 5) (cd := 0) eX2_copyFrom_42 (isF (by decide +kernel)) rfl rfl (fun n6 => ?_)
  refine ev_putU lk_f hU (ci := 2) (j := 5) (cd := 0) eX2_copyFrom_45 (isF (by decide +kernel)) rfl rfl (Or.inl rfl) rfl ?_
  refine ev_al eX2_copyFrom_48 rfl ?_
  refine ev_al eX2_copyFrom_49 rfl ?_
  refine ev_getIU lk_f (ci := 2) (j := 6) (cd := 0) eX2_copyFrom_50 (isF (by decide +kernel)) rfl rfl (fun n7 => ?_)
  refine ev_putU lk_f hU (ci := 2) (j := 6) (cd := 0) eX2_copyFrom_53 (isF (by decide +kernel)) rfl rfl (Or.inl rfl) rfl ?_
  refine ev_al eX2_copyFrom_56 rfl ?_
  refine ev_al eX2_copyFrom_57 rfl ?_
  refine ev_getIU lk_f (ci := 2) (j := 7) (cd := 0) eX2_copyFrom_58 (isF (by decide +kernel)) rfl rfl (fun n8 => ?_)
  refine ev_putU lk_f hU (ci := 2) (j := 7) (cd := 0) eX2_copyFrom_61 (isF (by decide +kernel)) rfl rfl (Or.inl rfl) rfl ?_
  refine ev_al eX2_copyFrom_64 rfl ?_
  refine ev_getR lk_f (ci := 2) (j := 8) (cd := 3) eX2_copyFrom_65 (isF (by decide +kernel)) rfl rfl ?_
  refine ev_ic eX2_copyFrom_68 (by decide) ?_
  refine ev_al eX2_copyFrom_69 rfl ?_
  refine ev_getR lk_f (ci := 2) (j := 8) (cd := 3) eX2_copyFrom_70 (isF (by decide +kernel)) rfl rfl ?_
  refine ev_ic eX2_copyFrom_73 (by decide) ?_
  refine ev_bp eX2_copyFrom_74 (by decide) (by decide) ?_
  refine ev_copyiU hU lk_m eX2_copyFrom_76 (u := ()) (isC (by decide +kernel)) rfl rfl rfl (by decide) (Nat.le_of_ble_eq_true rfl) ?_
  refine ev_al eX2_copyFrom_79 rfl ?_
  refine ev_getR lk_f (ci := 2) (j := 9) (cd := 3) eX2_copyFrom_80 (isF (by decide +kernel)) rfl rfl ?_
  refine ev_ic eX2_copyFrom_83 (by decide) ?_
  refine ev_al eX2_copyFrom_84 rfl ?_
  refine ev_getR lk_f (ci := 2) (j := 9) (cd := 3) eX2_copyFrom_85 (isF (by decide +kernel)) rfl rfl ?_
  refine ev_ic eX2_copyFrom_88 (by decide) ?_
  refine ev_bp eX2_copyFrom_89 (by decide) (by decide) ?_
  refine ev_copyiU hU lk_m eX2_copyFrom_91 (u := ()) (isC (by decide +kernel)) rfl rfl rfl (by decide) (Nat.le_of_ble_eq_true rfl) ?_
  refine ev_al eX2_copyFrom_94 rfl ?_
  refine ev_getR lk_f (ci := 2) (j := 10) (cd := 3) eX2_copyFrom_95 (isF (by decide +kernel)) rfl rfl ?_
  refine ev_ic eX2_copyFrom_98 (by decide) ?_
  refine ev_al eX2_copyFrom_99 rfl ?_
  refine ev_getR lk_f (ci := 2) (j := 10) (cd := 3) eX2_copyFrom_100 (isF (by decide +kernel)) rfl rfl ?_
  refine ev_ic eX2_copyFrom_103 (by decide) ?_
  refine ev_bp eX2_copyFrom_104 (by decide) (by decide) ?_
  refine ev_copyiU hU lk_m eX2_copyFrom_106 (u := ()) (isC (by decide +kernel)) rfl rfl rfl (by decide) (Nat.le_of_ble_eq_true rfl) ?_
  refine ev_al eX2_copyFrom_109 rfl ?_
  refine ev_getR lk_f (ci := 2) (j := 11) (cd := 3) eX2_copyFrom_110 (isF (by decide +kernel)) rfl rfl ?_
  refine ev_ic eX2_copyFrom_113 (by decide) ?_
  refine ev_al eX2_copyFrom_114 rfl ?_
  refine ev_getR lk_f (ci := 2) (j := 11) (cd := 3) eX2_copyFrom_115 (isF (by decide +kernel)) rfl rfl ?_
  refine ev_ic eX2_copyFrom_118 (by decide) ?_
  refine ev_bp eX2_copyFrom_119 (by decide) (by decide) ?_
  refine ev_copyiU hU lk_m eX2_copyFrom_121 (u := ()) (isC (by decide +kernel)) rfl rfl rfl (by decide) (Nat.le_of_ble_eq_true rfl) ?_
  refine ev_al eX2_copyFrom_124 rfl ?_
  refine ev_getR lk_f (ci := 2) (j := 12) (cd := 3) eX2_copyFrom_125 (isF (by decide +kernel)) rfl rfl ?_
  refine ev_ic eX2_copyFrom_128 (by decide) ?_
  refine ev_al eX2_copyFrom_129 rfl ?_
  refine ev_getR lk_f (ci := 2) (j := 12) (cd := 3) eX2_copyFrom_130 (isF (by decide +kernel)) rfl rfl ?_
  refine ev_ic eX2_copyFrom_133 (by decide) ?_
  refine ev_bp eX2_copyFrom_134 (by decide) (by decide) ?_
  refine ev_copyiU hU lk_m eX2_copyFrom_136 (u := ()) (isC (by decide +kernel)) rfl rfl rfl (by decide) (Nat.le_of_ble_eq_true rfl) ?_
  cases h
  exact ev_vret eX2_copyFrom_139 rfl ⟨rfl, rfl⟩
theorem eX9_copyFrom_0 : decode cX9_copyFrom 0 = .ok (.aload_n 0, 1) := by decide +kernel
theorem eX9_copyFrom_1 : decode cX9_copyFrom 1 = .ok (.aload_n 1, 1) := by decide +kernel
theorem eX9_copyFrom_2 : decode cX9_copyFrom 2 = .ok (.getfield 9, 3) := by decide +kernel
theorem eX9_copyFrom_5 : decode cX9_copyFrom 5 = .ok (.putfield 9, 3) := by decide +kernel
theorem eX9_copyFrom_8 : decode cX9_copyFrom 8 = .ok (.aload_n 0, 1) := by decide +kernel
theorem eX9_copyFrom_9 : decode cX9_copyFrom 9 = .ok (.aload_n 1, 1) := by decide +kernel
theorem eX9_copyFrom_10 : decode cX9_copyFrom 10 = .ok (.getfield 15, 3) := by decide +kernel
theorem eX9_copyFrom_13 : decode cX9_copyFrom 13 = .ok (.putfield 15, 3) := by decide +kernel
theorem eX9_copyFrom_16 : decode cX9_copyFrom 16 = .ok (.aload_n 1, 1) := by decide +kernel
theorem eX9_copyFrom_17 : decode cX9_copyFrom 17 = .ok (.getfield 18, 3) := by decide +kernel
theorem eX9_copyFrom_20 : decode cX9_copyFrom 20 = .ok (.iconst 0, 1) := by decide +kernel
theorem eX9_copyFrom_21 : decode cX9_copyFrom 21 = .ok (.aload_n 0, 1) := by decide +kernel
theorem eX9_copyFrom_22 : decode cX9_copyFrom 22 = .ok (.getfield 18, 3) := by decide +kernel
theorem eX9_copyFrom_25 : decode cX9_copyFrom 25 = .ok (.iconst 0, 1) := by decide +kernel
theorem eX9_copyFrom_26 : decode cX9_copyFrom 26 = .ok (.bipush 40, 2) := by decide +kernel
theorem eX9_copyFrom_28 : decode cX9_copyFrom 28 = .ok (.invokestatic 31, 3) := by decide +kernel
theorem eX9_copyFrom_31 : decode cX9_copyFrom 31 = .ok (.aload_n 1, 1) := by decide +kernel
theorem eX9_copyFrom_32 : decode cX9_copyFrom 32 = .ok (.getfield 22, 3) := by decide +kernel
theorem eX9_copyFrom_35 : decode cX9_copyFrom 35 = .ok (.iconst 0, 1) := by decide +kernel
theorem eX9_copyFrom_36 : decode cX9_copyFrom 36 = .ok (.aload_n 0, 1) := by decide +kernel
theorem eX9_copyFrom_37 : decode cX9_copyFrom 37 = .ok (.getfield 22, 3) := by decide +kernel
theorem eX9_copyFrom_40 : decode cX9_copyFrom 40 = .ok (.iconst 0, 1) := by decide +kernel
theorem eX9_copyFrom_41 : decode cX9_copyFrom 41 = .ok (.bipush 40, 2) := by decide +kernel
theorem eX9_copyFrom_43 : decode cX9_copyFrom 43 = .ok (.invokestatic 31, 3) := by decide +kernel
theorem eX9_copyFrom_46 : decode cX9_copyFrom 46 = .ok (.aload_n 1, 1) := by decide +kernel
theorem eX9_copyFrom_47 : decode cX9_copyFrom 47 = .ok (.getfield 25, 3) := by decide +kernel
theorem eX9_copyFrom_50 : decode cX9_copyFrom 50 = .ok (.iconst 0, 1) := by decide +kernel
theorem eX9_copyFrom_51 : decode cX9_copyFrom 51 = .ok (.aload_n 0, 1) := by decide +kernel
theorem eX9_copyFrom_52 : decode cX9_copyFrom 52 = .ok (.getfield 25, 3) := by decide +kernel
theorem eX9_copyFrom_55 : decode cX9_copyFrom 55 = .ok (.iconst 0, 1) := by decide +kernel
theorem eX9_copyFrom_56 : decode cX9_copyFrom 56 = .ok (.bipush 40, 2) := by decide +kernel
theorem eX9_copyFrom_58 : decode cX9_copyFrom 58 = .ok (.invokestatic 31, 3) := by decide +kernel
theorem eX9_copyFrom_61 : decode cX9_copyFrom 61 = .ok (.return_, 1) := by decide +kernel
set_option maxRecDepth 100000 in
theorem m_9_copyFrom_110_9 (hU : ev_uq ty ev_TR) {C : ev_C} {C' : ev_C} (h : f_9_copyFrom_110_9 C = some C') : ev_Met l D cys ty ck_tags ev_TR kc_125 [.inr (.inl 110), .inr (.inl 9)] C (fun r0 C0 => r0 = none ∧ C0 = C') := by
  unfold f_9_copyFrom_110_9 at h
  refine ev_enter (by decide +kernel) (by decide +kernel) (Nat.le_of_ble_eq_true rfl) ?_
  show ev_W l D cys ty ck_tags ev_TR kc_125 0 [(0, .inr (.inl 110)), (1, .inr (.inl 9))] [] C _
  refine ev_al eX9_copyFrom_0 rfl ?_
  refine ev_al eX9_copyFrom_1 rfl ?_
  refine ev_getI lk_f (ci := 9) (j := 0) (cd := 0) eX9_copyFrom_2 (isF (by decide +kernel)) rfl rfl rfl ?_
  refine ev_putI lk_f hU (ci := 9) (j := 0) (cd := 0) eX9_copyFrom_5 (isF (by decide +kernel)) rfl rfl (Or.inl rfl) rfl ?_
  refine ev_al eX9_copyFrom_8 rfl ?_
  refine ev_al eX9_copyFrom_9 rfl ?_
  refine ev_getI lk_f (ci := 9) (j := 1) (cd := 0) eX9_copyFrom_10 (isF (by decide +kernel)) rfl rfl rfl ?_
  refine ev_putI lk_f hU (ci := 9) (j := 1) (cd := 0) eX9_copyFrom_13 (isF (by decide +kernel)) rfl rfl (Or.inl rfl) rfl ?_
  refine ev_al eX9_copyFrom_16 rfl ?_
  refine ev_getR lk_f (ci := 9) (j := 2) (cd := 3) eX9_copyFrom_17 (isF (by decide +kernel)) rfl rfl ?_
  refine ev_ic eX9_copyFrom_20 (by decide) ?_
  refine ev_al eX9_copyFrom_21 rfl ?_
  refine ev_getR lk_f (ci := 9) (j := 2) (cd := 3) eX9_copyFrom_22 (isF (by decide +kernel)) rfl rfl ?_
  refine ev_ic eX9_copyFrom_25 (by decide) ?_
  refine ev_bp eX9_copyFrom_26 (by decide) (by decide) ?_
  refine ev_copyiU hU lk_m eX9_copyFrom_28 (u := ()) (isC (by decide +kernel)) rfl rfl rfl (by decide) (Nat.le_of_ble_eq_true rfl) ?_
  refine ev_al eX9_copyFrom_31 rfl ?_
  refine ev_getR lk_f (ci := 9) (j := 3) (cd := 3) eX9_copyFrom_32 (isF (by decide +kernel)) rfl rfl ?_
  refine ev_ic eX9_copyFrom_35 (by decide) ?_
  refine ev_al eX9_copyFrom_36 rfl ?_
  refine ev_getR lk_f (ci := 9) (j := 3) (cd := 3) eX9_copyFrom_37 (isF (by decide +kernel)) rfl rfl ?_
  refine ev_ic eX9_copyFrom_40 (by decide) ?_
  refine ev_bp eX9_copyFrom_41 (by decide) (by decide) ?_
  refine ev_copyiU hU lk_m eX9_copyFrom_43 (u := ()) (isC (by decide +kernel)) rfl rfl rfl (by decide) (Nat.le_of_ble_eq_true rfl) ?_
  refine ev_al eX9_copyFrom_46 rfl ?_
  refine ev_getR lk_f (ci := 9) (j := 4) (cd := 3) eX9_copyFrom_47 (isF (by decide +kernel)) rfl rfl ?_
  refine ev_ic eX9_copyFrom_50 (by decide) ?_
  refine ev_al eX9_copyFrom_51 rfl ?_
  refine ev_getR lk_f (ci := 9) (j := 4) (cd := 3) eX9_copyFrom_52 (isF (by decide +kernel)) rfl rfl ?_
  refine ev_ic eX9_copyFrom_55 (by decide) ?_
  refine ev_bp eX9_copyFrom_56 (by decide) (by decide) ?_
  refine ev_copyiU hU lk_m eX9_copyFrom_58 (u := ()) (isC (by decide +kernel)) rfl rfl rfl (by decide) (Nat.le_of_ble_eq_true rfl) ?_
  cases h
  exact ev_vret eX9_copyFrom_61 rfl ⟨rfl, rfl⟩
theorem eX11_image_0 : decode cX11_image 0 = .ok (.iload_n 1, 1) := by decide +kernel
theorem eX11_image_1 : decode cX11_image 1 = .ok (.ifCond .lt 8, 3) := by decide +kernel
theorem eX11_image_4 : decode cX11_image 4 = .ok (.iload_n 1, 1) := by decide +kernel
theorem eX11_image_5 : decode cX11_image 5 = .ok (.iconst 2, 1) := by decide +kernel
theorem eX11_image_6 : decode cX11_image 6 = .ok (.if_icmp .lt 5, 3) := by decide +kernel
theorem eX11_image_9 : decode cX11_image 9 = .ok (.iconst 0, 1) := by decide +kernel
theorem eX11_image_10 : decode cX11_image 10 = .ok (.ireturn, 1) := by decide +kernel
theorem eX11_image_11 : decode cX11_image 11 = .ok (.aload_n 0, 1) := by decide +kernel
theorem eX11_image_12 : decode cX11_image 12 = .ok (.getfield 80, 3) := by decide +kernel
theorem eX11_image_15 : decode cX11_image 15 = .ok (.iload_n 1, 1) := by decide +kernel
theorem eX11_image_16 : decode cX11_image 16 = .ok (.aaload, 1) := by decide +kernel
theorem eX11_image_17 : decode cX11_image 17 = .ok (.astore_n 2, 1) := by decide +kernel
theorem eX11_image_18 : decode cX11_image 18 = .ok (.aload_n 2, 1) := by decide +kernel
theorem eX11_image_19 : decode cX11_image 19 = .ok (.getfield 386, 3) := by decide +kernel
theorem eX11_image_22 : decode cX11_image 22 = .ok (.aload_n 0, 1) := by decide +kernel
theorem eX11_image_23 : decode cX11_image 23 = .ok (.getfield 26, 3) := by decide +kernel
theorem eX11_image_26 : decode cX11_image 26 = .ok (.invokevirtual 132, 3) := by decide +kernel
theorem eX11_image_29 : decode cX11_image 29 = .ok (.aload_n 2, 1) := by decide +kernel
theorem eX11_image_30 : decode cX11_image 30 = .ok (.getfield 387, 3) := by decide +kernel
theorem eX11_image_33 : decode cX11_image 33 = .ok (.aload_n 0, 1) := by decide +kernel
theorem eX11_image_34 : decode cX11_image 34 = .ok (.getfield 33, 3) := by decide +kernel
theorem eX11_image_37 : decode cX11_image 37 = .ok (.invokevirtual 353, 3) := by decide +kernel
theorem eX11_image_40 : decode cX11_image 40 = .ok (.aload_n 2, 1) := by decide +kernel
theorem eX11_image_41 : decode cX11_image 41 = .ok (.getfield 388, 3) := by decide +kernel
theorem eX11_image_44 : decode cX11_image 44 = .ok (.aload_n 0, 1) := by decide +kernel
theorem eX11_image_45 : decode cX11_image 45 = .ok (.getfield 50, 3) := by decide +kernel
theorem eX11_image_48 : decode cX11_image 48 = .ok (.invokevirtual 377, 3) := by decide +kernel
theorem eX11_image_51 : decode cX11_image 51 = .ok (.aload_n 2, 1) := by decide +kernel
theorem eX11_image_52 : decode cX11_image 52 = .ok (.iconst 1, 1) := by decide +kernel
theorem eX11_image_53 : decode cX11_image 53 = .ok (.putfield 389, 3) := by decide +kernel
theorem eX11_image_56 : decode cX11_image 56 = .ok (.iconst 1, 1) := by decide +kernel
theorem eX11_image_57 : decode cX11_image 57 = .ok (.ireturn, 1) := by decide +kernel
set_option maxRecDepth 100000 in
theorem m_11_image_k0 (hU : ev_uq ty ev_TR) {C : ev_C} {r : Int} {C' : ev_C} (h : f_11_image_k0 C = some (r, C')) : ev_Met l D cys ty ck_tags ev_TR kh_11_image_0 [.inr (.inl 11), .inl 0] C (fun r0 C0 => r0 = some (.inl r) ∧ C0 = C') := by
  unfold f_11_image_k0 at h
  refine ev_enter (by decide +kernel) (by decide +kernel) (Nat.le_of_ble_eq_true rfl) ?_
  show ev_W l D cys ty ck_tags ev_TR kh_11_image_0 0 [(0, .inr (.inl 11)), (1, .inl 0)] [] C _
  refine ev_il eX11_image_0 rfl ?_
  refine ev_z_lt (tgt := 9) eX11_image_1 (by decide) (fun hc => absurd hc (show ¬ ((0 : Int) < 0) by decide)) (fun _ => ?_)
  refine ev_il eX11_image_4 rfl ?_
  refine ev_ic eX11_image_5 (by decide) ?_
  refine ev_c_lt (tgt := 11) eX11_image_6 (by decide) (fun _ => ?_) (fun hc => absurd (show (0 : Int) < 2 by decide) hc)
  refine ev_al eX11_image_11 rfl ?_
  refine ev_getR lk_f (ci := 11) (j := 11) (cd := 3) eX11_image_12 (isF (by decide +kernel)) rfl rfl ?_
  refine ev_il eX11_image_15 rfl ?_
  refine ev_aald (t' := 4) eX11_image_16 rfl (by decide) (by decide) (by decide) rfl ?_
  refine ev_as (L' := [(2, .inr (.inl 4)), (0, .inr (.inl 11)), (1, .inl 0)]) eX11_image_17 (by decide) rfl ?_
  refine ev_al eX11_image_18 rfl ?_
  refine ev_getR lk_f (ci := 4) (j := 1) (cd := 3) eX11_image_19 (isF (by decide +kernel)) rfl rfl ?_
  refine ev_al eX11_image_22 rfl ?_
  refine ev_getR lk_f (ci := 11) (j := 2) (cd := 3) eX11_image_23 (isF (by decide +kernel)) rfl rfl ?_
  obtain ⟨C1, hq1, h⟩ := ev_bv_some h
  refine ev_callV (kc := kh_6_copyFrom_ip) (A := [.inr (.inl 6)]) (T := []) (lk_h (11, 132, 0, kh_6_copyFrom_ip) (List.mem_of_getElem? (i := 3) rfl)) eX11_image_26 (m_6_copyFrom_51_6 hU hq1) rfl rfl rfl (by decide) (by decide) (Nat.le_of_ble_eq_true rfl) ?_
  rintro _ C1 ⟨rfl, rfl⟩
  show ev_W l D cys ty ck_tags ev_TR kh_11_image_0 29 [(2, .inr (.inl 4)), (0, .inr (.inl 11)), (1, .inl 0)] [] C1 _
  refine ev_al eX11_image_29 rfl ?_
  refine ev_getR lk_f (ci := 4) (j := 2) (cd := 3) eX11_image_30 (isF (by decide +kernel)) rfl rfl ?_
  refine ev_al eX11_image_33 rfl ?_
  refine ev_getR lk_f (ci := 11) (j := 3) (cd := 3) eX11_image_34 (isF (by decide +kernel)) rfl rfl ?_
  obtain ⟨C2, hq2, h⟩ := ev_bv_some h
  refine ev_callV (kc := kc_290) (A := [.inr (.inl 2)]) (T := []) (lk_m.1 _ _ 0 [290] (isM (by decide +kernel)) 290 (by decide)) eX11_image_37 (m_2_copyFrom_2 hU hq2) rfl rfl rfl (by decide) (by decide) (Nat.le_of_ble_eq_true rfl) ?_
  rintro _ C2 ⟨rfl, rfl⟩
  show ev_W l D cys ty ck_tags ev_TR kh_11_image_0 40 [(2, .inr (.inl 4)), (0, .inr (.inl 11)), (1, .inl 0)] [] C2 _
  refine ev_al eX11_image_40 rfl ?_
  refine ev_getR lk_f (ci := 4) (j := 3) (cd := 3) eX11_image_41 (isF (by decide +kernel)) rfl rfl ?_
  refine ev_al eX11_image_44 rfl ?_
  refine ev_getR lk_f (ci := 11) (j := 6) (cd := 3) eX11_image_45 (isF (by decide +kernel)) rfl rfl ?_
  obtain ⟨C3, hq3, h⟩ := ev_bv_some h
  refine ev_callV (kc := kc_125) (A := [.inr (.inl 9)]) (T := []) (lk_m.1 _ _ 0 [125, 126, 127, 128, 129] (isM (by decide +kernel)) 125 (by decide)) eX11_image_48 (m_9_copyFrom_110_9 hU hq3) rfl rfl rfl (by decide) (by decide) (Nat.le_of_ble_eq_true rfl) ?_
  rintro _ C3 ⟨rfl, rfl⟩
  show ev_W l D cys ty ck_tags ev_TR kh_11_image_0 51 [(2, .inr (.inl 4)), (0, .inr (.inl 11)), (1, .inl 0)] [] C3 _
  refine ev_al eX11_image_51 rfl ?_
  refine ev_ic eX11_image_52 (by decide) ?_
  refine ev_putI lk_f hU (ci := 4) (j := 0) (cd := 1) eX11_image_53 (isF (by decide +kernel)) rfl rfl (Or.inr ⟨rfl, by decide, by decide⟩) rfl ?_
  refine ev_ic eX11_image_56 (by decide) ?_
  cases h
  exact ev_zret eX11_image_57 rfl (by decide) ⟨rfl, rfl⟩
set_option maxRecDepth 100000 in
theorem m_6_copyFrom_51 (hU : ev_uq ty ev_TR) {C : ev_C} {C' : ev_C} (h : f_6_copyFrom_51 C = some C') : ev_Met l D cys ty ck_tags ev_TR kh_6_copyFrom_pi [.inr (.inl 6), .inr (.inl 51)] C (fun r0 C0 => r0 = none ∧ C0 = C') := by
  unfold f_6_copyFrom_51 at h
  refine ev_enter (by decide +kernel) (by decide +kernel) (Nat.le_of_ble_eq_true rfl) ?_
  show ev_W l D cys ty ck_tags ev_TR kh_6_copyFrom_pi 0 [(0, .inr (.inl 6)), (1, .inr (.inl 51))] [] C _
  refine ev_al eX6_copyFrom_0 rfl ?_
  refine ev_al eX6_copyFrom_1 rfl ?_
  refine ev_getI lk_f (ci := 6) (j := 0) (cd := 0) eX6_copyFrom_2 (isF (by decide +kernel)) rfl rfl rfl ?_
  refine ev_putI lk_f hU (ci := 6) (j := 0) (cd := 0) eX6_copyFrom_5 (isF (by decide +kernel)) rfl rfl (Or.inl rfl) rfl ?_
  refine ev_al eX6_copyFrom_8 rfl ?_
  refine ev_al eX6_copyFrom_9 rfl ?_
  refine ev_getI lk_f (ci := 6) (j := 1) (cd := 0) eX6_copyFrom_10 (isF (by decide +kernel)) rfl rfl rfl ?_
  refine ev_putI lk_f hU (ci := 6) (j := 1) (cd := 0) eX6_copyFrom_13 (isF (by decide +kernel)) rfl rfl (Or.inl rfl) rfl ?_
  refine ev_al eX6_copyFrom_16 rfl ?_
  refine ev_al eX6_copyFrom_17 rfl ?_
  refine ev_getI lk_f (ci := 6) (j := 2) (cd := 0) eX6_copyFrom_18 (isF (by decide +kernel)) rfl rfl rfl ?_
  refine ev_putI lk_f hU (ci := 6) (j := 2) (cd := 0) eX6_copyFrom_21 (isF (by decide +kernel)) rfl rfl (Or.inl rfl) rfl ?_
  refine ev_al eX6_copyFrom_24 rfl ?_
  refine ev_al eX6_copyFrom_25 rfl ?_
  refine ev_getI lk_f (ci := 6) (j := 3) (cd := 0) eX6_copyFrom_26 (isF (by decide +kernel)) rfl rfl rfl ?_
  refine ev_putI lk_f hU (ci := 6) (j := 3) (cd := 0) eX6_copyFrom_29 (isF (by decide +kernel)) rfl rfl (Or.inl rfl) rfl ?_
  refine ev_al eX6_copyFrom_32 rfl ?_
  refine ev_al eX6_copyFrom_33 rfl ?_
  refine ev_getI lk_f (ci := 6) (j := 4) (cd := 0) eX6_copyFrom_34 (isF (by decide +kernel)) rfl rfl rfl ?_
  refine ev_putI lk_f hU (ci := 6) (j := 4) (cd := 0) eX6_copyFrom_37 (isF (by decide +kernel)) rfl rfl (Or.inl rfl) rfl ?_
  refine ev_al eX6_copyFrom_40 rfl ?_
  refine ev_al eX6_copyFrom_41 rfl ?_
  refine ev_getI lk_f (ci := 6) (j := 5) (cd := 1) eX6_copyFrom_42 (isF (by decide +kernel)) rfl rfl rfl ?_
  obtain ⟨hb1, h⟩ := ev_gd h
  refine ev_putI lk_f hU (ci := 6) (j := 5) (cd := 1) eX6_copyFrom_45 (isF (by decide +kernel)) rfl rfl (Or.inr ⟨rfl, hb1⟩) rfl ?_
  refine ev_al eX6_copyFrom_48 rfl ?_
  refine ev_getR lk_f (ci := 6) (j := 6) (cd := 3) eX6_copyFrom_49 (isF (by decide +kernel)) rfl rfl ?_
  refine ev_ic eX6_copyFrom_52 (by decide) ?_
  refine ev_al eX6_copyFrom_53 rfl ?_
  refine ev_getR lk_f (ci := 6) (j := 6) (cd := 3) eX6_copyFrom_54 (isF (by decide +kernel)) rfl rfl ?_
  refine ev_ic eX6_copyFrom_57 (by decide) ?_
  refine ev_bp eX6_copyFrom_58 (by decide) (by decide) ?_
  refine ev_copyl hU lk_m eX6_copyFrom_60 (u := ()) (isC (by decide +kernel)) rfl rfl rfl rfl (by decide) (Nat.le_of_ble_eq_true rfl) ?_
  refine ev_al eX6_copyFrom_63 rfl ?_
  refine ev_getR lk_f (ci := 6) (j := 7) (cd := 3) eX6_copyFrom_64 (isF (by decide +kernel)) rfl rfl ?_
  refine ev_ic eX6_copyFrom_67 (by decide) ?_
  refine ev_al eX6_copyFrom_68 rfl ?_
  refine ev_getR lk_f (ci := 6) (j := 7) (cd := 3) eX6_copyFrom_69 (isF (by decide +kernel)) rfl rfl ?_
  refine ev_ic eX6_copyFrom_72 (by decide) ?_
  refine ev_bp eX6_copyFrom_73 (by decide) (by decide) ?_
  refine ev_copyl hU lk_m eX6_copyFrom_75 (u := ()) (isC (by decide +kernel)) rfl rfl rfl rfl (by decide) (Nat.le_of_ble_eq_true rfl) ?_
  refine ev_al eX6_copyFrom_78 rfl ?_
  refine ev_getR lk_f (ci := 6) (j := 8) (cd := 3) eX6_copyFrom_79 (isF (by decide +kernel)) rfl rfl ?_
  refine ev_ic eX6_copyFrom_82 (by decide) ?_
  refine ev_al eX6_copyFrom_83 rfl ?_
  refine ev_getR lk_f (ci := 6) (j := 8) (cd := 3) eX6_copyFrom_84 (isF (by decide +kernel)) rfl rfl ?_
  refine ev_ic eX6_copyFrom_87 (by decide) ?_
  refine ev_bp eX6_copyFrom_88 (by decide) (by decide) ?_
  refine ev_copyl hU lk_m eX6_copyFrom_90 (u := ()) (isC (by decide +kernel)) rfl rfl rfl rfl (by decide) (Nat.le_of_ble_eq_true rfl) ?_
  refine ev_al eX6_copyFrom_93 rfl ?_
  refine ev_getR lk_f (ci := 6) (j := 9) (cd := 3) eX6_copyFrom_94 (isF (by decide +kernel)) rfl rfl ?_
  refine ev_ic eX6_copyFrom_97 (by decide) ?_
  refine ev_al eX6_copyFrom_98 rfl ?_
  refine ev_getR lk_f (ci := 6) (j := 9) (cd := 3) eX6_copyFrom_99 (isF (by decide +kernel)) rfl rfl ?_
  refine ev_ic eX6_copyFrom_102 (by decide) ?_
  refine ev_bp eX6_copyFrom_103 (by decide) (by decide) ?_
  refine ev_copyi hU lk_m eX6_copyFrom_105 (u := ()) (isC (by decide +kernel)) rfl rfl rfl rfl (by decide) (Nat.le_of_ble_eq_true rfl) ?_
  refine ev_al eX6_copyFrom_108 rfl ?_
  refine ev_getR lk_f (ci := 6) (j := 10) (cd := 3) eX6_copyFrom_109 (isF (by decide +kernel)) rfl rfl ?_
  refine ev_ic eX6_copyFrom_112 (by decide) ?_
  refine ev_al eX6_copyFrom_113 rfl ?_
  refine ev_getR lk_f (ci := 6) (j := 10) (cd := 3) eX6_copyFrom_114 (isF (by decide +kernel)) rfl rfl ?_
  refine ev_ic eX6_copyFrom_117 (by decide) ?_
  refine ev_bp eX6_copyFrom_118 (by decide) (by decide) ?_
  refine ev_copyi hU lk_m eX6_copyFrom_120 (u := ()) (isC (by decide +kernel)) rfl rfl rfl rfl (by decide) (Nat.le_of_ble_eq_true rfl) ?_
  refine ev_al eX6_copyFrom_123 rfl ?_
  refine ev_getR lk_f (ci := 6) (j := 11) (cd := 3) eX6_copyFrom_124 (isF (by decide +kernel)) rfl rfl ?_
  refine ev_ic eX6_copyFrom_127 (by decide) ?_
  refine ev_al eX6_copyFrom_128 rfl ?_
  refine ev_getR lk_f (ci := 6) (j := 11) (cd := 3) eX6_copyFrom_129 (isF (by decide +kernel)) rfl rfl ?_
  refine ev_ic eX6_copyFrom_132 (by decide) ?_
  refine ev_bp eX6_copyFrom_133 (by decide) (by decide) ?_
  refine ev_copyi hU lk_m eX6_copyFrom_135 (u := ()) (isC (by decide +kernel)) rfl rfl rfl rfl (by decide) (Nat.le_of_ble_eq_true rfl) ?_
  refine ev_al eX6_copyFrom_138 rfl ?_
  refine ev_getR lk_f (ci := 6) (j := 12) (cd := 3) eX6_copyFrom_139 (isF (by decide +kernel)) rfl rfl ?_
  refine ev_ic eX6_copyFrom_142 (by decide) ?_
  refine ev_al eX6_copyFrom_143 rfl ?_
  refine ev_getR lk_f (ci := 6) (j := 12) (cd := 3) eX6_copyFrom_144 (isF (by decide +kernel)) rfl rfl ?_
  refine ev_ic eX6_copyFrom_147 (by decide) ?_
  refine ev_bp eX6_copyFrom_148 (by decide) (by decide) ?_
  refine ev_copyi hU lk_m eX6_copyFrom_150 (u := ()) (isC (by decide +kernel)) rfl rfl rfl rfl (by decide) (Nat.le_of_ble_eq_true rfl) ?_
  refine ev_al eX6_copyFrom_153 rfl ?_
  refine ev_getR lk_f (ci := 6) (j := 13) (cd := 3) eX6_copyFrom_154 (isF (by decide +kernel)) rfl rfl ?_
  refine ev_ic eX6_copyFrom_157 (by decide) ?_
  refine ev_al eX6_copyFrom_158 rfl ?_
  refine ev_getR lk_f (ci := 6) (j := 13) (cd := 3) eX6_copyFrom_159 (isF (by decide +kernel)) rfl rfl ?_
  refine ev_ic eX6_copyFrom_162 (by decide) ?_
  refine ev_bp eX6_copyFrom_163 (by decide) (by decide) ?_
  refine ev_copyi hU lk_m eX6_copyFrom_165 (u := ()) (isC (by decide +kernel)) rfl rfl rfl rfl (by decide) (Nat.le_of_ble_eq_true rfl) ?_
  refine ev_al eX6_copyFrom_168 rfl ?_
  refine ev_getR lk_f (ci := 6) (j := 14) (cd := 3) eX6_copyFrom_169 (isF (by decide +kernel)) rfl rfl ?_
  refine ev_ic eX6_copyFrom_172 (by decide) ?_
  refine ev_al eX6_copyFrom_173 rfl ?_
  refine ev_getR lk_f (ci := 6) (j := 14) (cd := 3) eX6_copyFrom_174 (isF (by decide +kernel)) rfl rfl ?_
  refine ev_ic eX6_copyFrom_177 (by decide) ?_
  refine ev_bp eX6_copyFrom_178 (by decide) (by decide) ?_
  refine ev_copyi hU lk_m eX6_copyFrom_180 (u := ()) (isC (by decide +kernel)) rfl rfl rfl rfl (by decide) (Nat.le_of_ble_eq_true rfl) ?_
  refine ev_al eX6_copyFrom_183 rfl ?_
  refine ev_getR lk_f (ci := 6) (j := 15) (cd := 3) eX6_copyFrom_184 (isF (by decide +kernel)) rfl rfl ?_
  refine ev_ic eX6_copyFrom_187 (by decide) ?_
  refine ev_al eX6_copyFrom_188 rfl ?_
  refine ev_getR lk_f (ci := 6) (j := 15) (cd := 3) eX6_copyFrom_189 (isF (by decide +kernel)) rfl rfl ?_
  refine ev_ic eX6_copyFrom_192 (by decide) ?_
  refine ev_bp eX6_copyFrom_193 (by decide) (by decide) ?_
  refine ev_copyi hU lk_m eX6_copyFrom_195 (u := ()) (isC (by decide +kernel)) rfl rfl rfl rfl (by decide) (Nat.le_of_ble_eq_true rfl) ?_
  refine ev_al eX6_copyFrom_198 rfl ?_
  refine ev_getR lk_f (ci := 6) (j := 16) (cd := 3) eX6_copyFrom_199 (isF (by decide +kernel)) rfl rfl ?_
  refine ev_ic eX6_copyFrom_202 (by decide) ?_
  refine ev_al eX6_copyFrom_203 rfl ?_
  refine ev_getR lk_f (ci := 6) (j := 16) (cd := 3) eX6_copyFrom_204 (isF (by decide +kernel)) rfl rfl ?_
  refine ev_ic eX6_copyFrom_207 (by decide) ?_
  refine ev_bp eX6_copyFrom_208 (by decide) (by decide) ?_
  refine ev_copyi hU lk_m eX6_copyFrom_210 (u := ()) (isC (by decide +kernel)) rfl rfl rfl rfl (by decide) (Nat.le_of_ble_eq_true rfl) ?_
  refine ev_al eX6_copyFrom_213 rfl ?_
  refine ev_getR lk_f (ci := 6) (j := 17) (cd := 3) eX6_copyFrom_214 (isF (by decide +kernel)) rfl rfl ?_
  refine ev_ic eX6_copyFrom_217 (by decide) ?_
  refine ev_al eX6_copyFrom_218 rfl ?_
  refine ev_getR lk_f (ci := 6) (j := 17) (cd := 3) eX6_copyFrom_219 (isF (by decide +kernel)) rfl rfl ?_
  refine ev_ic eX6_copyFrom_222 (by decide) ?_
  refine ev_bp eX6_copyFrom_223 (by decide) (by decide) ?_
  refine ev_copyi hU lk_m eX6_copyFrom_225 (u := ()) (isC (by decide +kernel)) rfl rfl rfl rfl (by decide) (Nat.le_of_ble_eq_true rfl) ?_
  refine ev_al eX6_copyFrom_228 rfl ?_
  refine ev_getR lk_f (ci := 6) (j := 18) (cd := 3) eX6_copyFrom_229 (isF (by decide +kernel)) rfl rfl ?_
  refine ev_ic eX6_copyFrom_232 (by decide) ?_
  refine ev_al eX6_copyFrom_233 rfl ?_
  refine ev_getR lk_f (ci := 6) (j := 18) (cd := 3) eX6_copyFrom_234 (isF (by decide +kernel)) rfl rfl ?_
  refine ev_ic eX6_copyFrom_237 (by decide) ?_
  refine ev_bp eX6_copyFrom_238 (by decide) (by decide) ?_
  refine ev_copyi hU lk_m eX6_copyFrom_240 (u := ()) (isC (by decide +kernel)) rfl rfl rfl rfl (by decide) (Nat.le_of_ble_eq_true rfl) ?_
  refine ev_al eX6_copyFrom_243 rfl ?_
  refine ev_getR lk_f (ci := 6) (j := 19) (cd := 3) eX6_copyFrom_244 (isF (by decide +kernel)) rfl rfl ?_
  refine ev_ic eX6_copyFrom_247 (by decide) ?_
  refine ev_al eX6_copyFrom_248 rfl ?_
  refine ev_getR lk_f (ci := 6) (j := 19) (cd := 3) eX6_copyFrom_249 (isF (by decide +kernel)) rfl rfl ?_
  refine ev_ic eX6_copyFrom_252 (by decide) ?_
  refine ev_bp eX6_copyFrom_253 (by decide) (by decide) ?_
  refine ev_copyi hU lk_m eX6_copyFrom_255 (u := ()) (isC (by decide +kernel)) rfl rfl rfl rfl (by decide) (Nat.le_of_ble_eq_true rfl) ?_
  cases h
  exact ev_vret eX6_copyFrom_258 rfl ⟨rfl, rfl⟩
set_option maxRecDepth 100000 in
theorem m_9_copyFrom_110 (hU : ev_uq ty ev_TR) {C : ev_C} {C' : ev_C} (h : f_9_copyFrom_110 C = some C') : ev_Met l D cys ty ck_tags ev_TR kc_127 [.inr (.inl 9), .inr (.inl 110)] C (fun r0 C0 => r0 = none ∧ C0 = C') := by
  unfold f_9_copyFrom_110 at h
  refine ev_enter (by decide +kernel) (by decide +kernel) (Nat.le_of_ble_eq_true rfl) ?_
  show ev_W l D cys ty ck_tags ev_TR kc_127 0 [(0, .inr (.inl 9)), (1, .inr (.inl 110))] [] C _
  refine ev_al eX9_copyFrom_0 rfl ?_
  refine ev_al eX9_copyFrom_1 rfl ?_
  refine ev_getI lk_f (ci := 9) (j := 0) (cd := 0) eX9_copyFrom_2 (isF (by decide +kernel)) rfl rfl rfl ?_
  refine ev_putI lk_f hU (ci := 9) (j := 0) (cd := 0) eX9_copyFrom_5 (isF (by decide +kernel)) rfl rfl (Or.inl rfl) rfl ?_
  refine ev_al eX9_copyFrom_8 rfl ?_
  refine ev_al eX9_copyFrom_9 rfl ?_
  refine ev_getI lk_f (ci := 9) (j := 1) (cd := 0) eX9_copyFrom_10 (isF (by decide +kernel)) rfl rfl rfl ?_
  refine ev_putI lk_f hU (ci := 9) (j := 1) (cd := 0) eX9_copyFrom_13 (isF (by decide +kernel)) rfl rfl (Or.inl rfl) rfl ?_
  refine ev_al eX9_copyFrom_16 rfl ?_
  refine ev_getR lk_f (ci := 9) (j := 2) (cd := 3) eX9_copyFrom_17 (isF (by decide +kernel)) rfl rfl ?_
  refine ev_ic eX9_copyFrom_20 (by decide) ?_
  refine ev_al eX9_copyFrom_21 rfl ?_
  refine ev_getR lk_f (ci := 9) (j := 2) (cd := 3) eX9_copyFrom_22 (isF (by decide +kernel)) rfl rfl ?_
  refine ev_ic eX9_copyFrom_25 (by decide) ?_
  refine ev_bp eX9_copyFrom_26 (by decide) (by decide) ?_
  refine ev_copyiU hU lk_m eX9_copyFrom_28 (u := ()) (isC (by decide +kernel)) rfl rfl rfl (by decide) (Nat.le_of_ble_eq_true rfl) ?_
  refine ev_al eX9_copyFrom_31 rfl ?_
  refine ev_getR lk_f (ci := 9) (j := 3) (cd := 3) eX9_copyFrom_32 (isF (by decide +kernel)) rfl rfl ?_
  refine ev_ic eX9_copyFrom_35 (by decide) ?_
  refine ev_al eX9_copyFrom_36 rfl ?_
  refine ev_getR lk_f (ci := 9) (j := 3) (cd := 3) eX9_copyFrom_37 (isF (by decide +kernel)) rfl rfl ?_
  refine ev_ic eX9_copyFrom_40 (by decide) ?_
  refine ev_bp eX9_copyFrom_41 (by decide) (by decide) ?_
  refine ev_copyiU hU lk_m eX9_copyFrom_43 (u := ()) (isC (by decide +kernel)) rfl rfl rfl (by decide) (Nat.le_of_ble_eq_true rfl) ?_
  refine ev_al eX9_copyFrom_46 rfl ?_
  refine ev_getR lk_f (ci := 9) (j := 4) (cd := 3) eX9_copyFrom_47 (isF (by decide +kernel)) rfl rfl ?_
  refine ev_ic eX9_copyFrom_50 (by decide) ?_
  refine ev_al eX9_copyFrom_51 rfl ?_
  refine ev_getR lk_f (ci := 9) (j := 4) (cd := 3) eX9_copyFrom_52 (isF (by decide +kernel)) rfl rfl ?_
  refine ev_ic eX9_copyFrom_55 (by decide) ?_
  refine ev_bp eX9_copyFrom_56 (by decide) (by decide) ?_
  refine ev_copyiU hU lk_m eX9_copyFrom_58 (u := ()) (isC (by decide +kernel)) rfl rfl rfl (by decide) (Nat.le_of_ble_eq_true rfl) ?_
  cases h
  exact ev_vret eX9_copyFrom_61 rfl ⟨rfl, rfl⟩
theorem eX11_restore_0 : decode cX11_restore 0 = .ok (.iload_n 1, 1) := by decide +kernel
theorem eX11_restore_1 : decode cX11_restore 1 = .ok (.ifCond .lt 20, 3) := by decide +kernel
theorem eX11_restore_4 : decode cX11_restore 4 = .ok (.iload_n 1, 1) := by decide +kernel
theorem eX11_restore_5 : decode cX11_restore 5 = .ok (.iconst 2, 1) := by decide +kernel
theorem eX11_restore_6 : decode cX11_restore 6 = .ok (.if_icmp .ge 15, 3) := by decide +kernel
theorem eX11_restore_9 : decode cX11_restore 9 = .ok (.aload_n 0, 1) := by decide +kernel
theorem eX11_restore_10 : decode cX11_restore 10 = .ok (.getfield 80, 3) := by decide +kernel
theorem eX11_restore_13 : decode cX11_restore 13 = .ok (.iload_n 1, 1) := by decide +kernel
theorem eX11_restore_14 : decode cX11_restore 14 = .ok (.aaload, 1) := by decide +kernel
theorem eX11_restore_15 : decode cX11_restore 15 = .ok (.getfield 389, 3) := by decide +kernel
theorem eX11_restore_18 : decode cX11_restore 18 = .ok (.ifCond .ne 5, 3) := by decide +kernel
theorem eX11_restore_21 : decode cX11_restore 21 = .ok (.iconst 0, 1) := by decide +kernel
theorem eX11_restore_22 : decode cX11_restore 22 = .ok (.ireturn, 1) := by decide +kernel
theorem eX11_restore_23 : decode cX11_restore 23 = .ok (.aload_n 0, 1) := by decide +kernel
theorem eX11_restore_24 : decode cX11_restore 24 = .ok (.getfield 80, 3) := by decide +kernel
theorem eX11_restore_27 : decode cX11_restore 27 = .ok (.iload_n 1, 1) := by decide +kernel
theorem eX11_restore_28 : decode cX11_restore 28 = .ok (.aaload, 1) := by decide +kernel
theorem eX11_restore_29 : decode cX11_restore 29 = .ok (.astore_n 2, 1) := by decide +kernel
theorem eX11_restore_30 : decode cX11_restore 30 = .ok (.aload_n 0, 1) := by decide +kernel
theorem eX11_restore_31 : decode cX11_restore 31 = .ok (.getfield 26, 3) := by decide +kernel
theorem eX11_restore_34 : decode cX11_restore 34 = .ok (.aload_n 2, 1) := by decide +kernel
theorem eX11_restore_35 : decode cX11_restore 35 = .ok (.getfield 386, 3) := by decide +kernel
theorem eX11_restore_38 : decode cX11_restore 38 = .ok (.invokevirtual 132, 3) := by decide +kernel
theorem eX11_restore_41 : decode cX11_restore 41 = .ok (.aload_n 0, 1) := by decide +kernel
theorem eX11_restore_42 : decode cX11_restore 42 = .ok (.getfield 33, 3) := by decide +kernel
theorem eX11_restore_45 : decode cX11_restore 45 = .ok (.aload_n 2, 1) := by decide +kernel
theorem eX11_restore_46 : decode cX11_restore 46 = .ok (.getfield 387, 3) := by decide +kernel
theorem eX11_restore_49 : decode cX11_restore 49 = .ok (.invokevirtual 353, 3) := by decide +kernel
theorem eX11_restore_52 : decode cX11_restore 52 = .ok (.aload_n 0, 1) := by decide +kernel
theorem eX11_restore_53 : decode cX11_restore 53 = .ok (.getfield 50, 3) := by decide +kernel
theorem eX11_restore_56 : decode cX11_restore 56 = .ok (.aload_n 2, 1) := by decide +kernel
theorem eX11_restore_57 : decode cX11_restore 57 = .ok (.getfield 388, 3) := by decide +kernel
theorem eX11_restore_60 : decode cX11_restore 60 = .ok (.invokevirtual 377, 3) := by decide +kernel
theorem eX11_restore_63 : decode cX11_restore 63 = .ok (.aload_n 0, 1) := by decide +kernel
theorem eX11_restore_64 : decode cX11_restore 64 = .ok (.getfield 43, 3) := by decide +kernel
theorem eX11_restore_67 : decode cX11_restore 67 = .ok (.invokevirtual 142, 3) := by decide +kernel
theorem eX11_restore_70 : decode cX11_restore 70 = .ok (.iconst 1, 1) := by decide +kernel
theorem eX11_restore_71 : decode cX11_restore 71 = .ok (.ireturn, 1) := by decide +kernel
set_option maxRecDepth 100000 in
theorem m_11_restore_k0 (hU : ev_uq ty ev_TR) {C : ev_C} {r : Int} {C' : ev_C} (h : f_11_restore_k0 C = some (r, C')) : ev_Met l D cys ty ck_tags ev_TR kh_11_restore_0 [.inr (.inl 11), .inl 0] C (fun r0 C0 => r0 = some (.inl r) ∧ C0 = C') := by
  unfold f_11_restore_k0 at h
  refine ev_enter (by decide +kernel) (by decide +kernel) (Nat.le_of_ble_eq_true rfl) ?_
  show ev_W l D cys ty ck_tags ev_TR kh_11_restore_0 0 [(0, .inr (.inl 11)), (1, .inl 0)] [] C _
  refine ev_il eX11_restore_0 rfl ?_
  refine ev_z_lt (tgt := 21) eX11_restore_1 (by decide) (fun hc => absurd hc (show ¬ ((0 : Int) < 0) by decide)) (fun _ => ?_)
  refine ev_il eX11_restore_4 rfl ?_
  refine ev_ic eX11_restore_5 (by decide) ?_
  refine ev_c_ge (tgt := 21) eX11_restore_6 (by decide) (fun hc => absurd hc (show ¬ ((2 : Int) ≤ 0) by decide)) (fun _ => ?_)
  refine ev_al eX11_restore_9 rfl ?_
  refine ev_getR lk_f (ci := 11) (j := 11) (cd := 3) eX11_restore_10 (isF (by decide +kernel)) rfl rfl ?_
  refine ev_il eX11_restore_13 rfl ?_
  refine ev_aald (t' := 4) eX11_restore_14 rfl (by decide) (by decide) (by decide) rfl ?_
  refine ev_getI lk_f (ci := 4) (j := 0) (cd := 1) eX11_restore_15 (isF (by decide +kernel)) rfl rfl rfl ?_
  refine ev_z_ne (tgt := 23) eX11_restore_18 (by decide) (fun hc1 => ?_) (fun hc1 => ?_)
  · rw [if_pos (show (C 4 0) ≠ 0 from hc1)] at h
    refine ev_al eX11_restore_23 rfl ?_
    refine ev_getR lk_f (ci := 11) (j := 11) (cd := 3) eX11_restore_24 (isF (by decide +kernel)) rfl rfl ?_
    refine ev_il eX11_restore_27 rfl ?_
    refine ev_aald (t' := 4) eX11_restore_28 rfl (by decide) (by decide) (by decide) rfl ?_
    refine ev_as (L' := [(2, .inr (.inl 4)), (0, .inr (.inl 11)), (1, .inl 0)]) eX11_restore_29 (by decide) rfl ?_
    refine ev_al eX11_restore_30 rfl ?_
    refine ev_getR lk_f (ci := 11) (j := 2) (cd := 3) eX11_restore_31 (isF (by decide +kernel)) rfl rfl ?_
    refine ev_al eX11_restore_34 rfl ?_
    refine ev_getR lk_f (ci := 4) (j := 1) (cd := 3) eX11_restore_35 (isF (by decide +kernel)) rfl rfl ?_
    obtain ⟨C2, hq2, h⟩ := ev_bv_some h
    refine ev_callV (kc := kh_6_copyFrom_pi) (A := [.inr (.inl 51)]) (T := []) (lk_h (11, 132, 0, kh_6_copyFrom_pi) (List.mem_of_getElem? (i := 5) rfl)) eX11_restore_38 (m_6_copyFrom_51 hU hq2) rfl rfl rfl (by decide) (by decide) (Nat.le_of_ble_eq_true rfl) ?_
    rintro _ C2 ⟨rfl, rfl⟩
    show ev_W l D cys ty ck_tags ev_TR kh_11_restore_0 41 [(2, .inr (.inl 4)), (0, .inr (.inl 11)), (1, .inl 0)] [] C2 _
    refine ev_al eX11_restore_41 rfl ?_
    refine ev_getR lk_f (ci := 11) (j := 3) (cd := 3) eX11_restore_42 (isF (by decide +kernel)) rfl rfl ?_
    refine ev_al eX11_restore_45 rfl ?_
    refine ev_getR lk_f (ci := 4) (j := 2) (cd := 3) eX11_restore_46 (isF (by decide +kernel)) rfl rfl ?_
    obtain ⟨C3, hq3, h⟩ := ev_bv_some h
    refine ev_callV (kc := kc_290) (A := [.inr (.inl 2)]) (T := []) (lk_m.1 _ _ 0 [290] (isM (by decide +kernel)) 290 (by decide)) eX11_restore_49 (m_2_copyFrom_2 hU hq3) rfl rfl rfl (by decide) (by decide) (Nat.le_of_ble_eq_true rfl) ?_
    rintro _ C3 ⟨rfl, rfl⟩
    show ev_W l D cys ty ck_tags ev_TR kh_11_restore_0 52 [(2, .inr (.inl 4)), (0, .inr (.inl 11)), (1, .inl 0)] [] C3 _
    refine ev_al eX11_restore_52 rfl ?_
    refine ev_getR lk_f (ci := 11) (j := 6) (cd := 3) eX11_restore_53 (isF (by decide +kernel)) rfl rfl ?_
    refine ev_al eX11_restore_56 rfl ?_
    refine ev_getR lk_f (ci := 4) (j := 3) (cd := 3) eX11_restore_57 (isF (by decide +kernel)) rfl rfl ?_
    obtain ⟨C4, hq4, h⟩ := ev_bv_some h
    refine ev_callV (kc := kc_127) (A := [.inr (.inl 110)]) (T := []) (lk_m.1 _ _ 0 [125, 126, 127, 128, 129] (isM (by decide +kernel)) 127 (by decide)) eX11_restore_60 (m_9_copyFrom_110 hU hq4) rfl rfl rfl (by decide) (by decide) (Nat.le_of_ble_eq_true rfl) ?_
    rintro _ C4 ⟨rfl, rfl⟩
    show ev_W l D cys ty ck_tags ev_TR kh_11_restore_0 63 [(2, .inr (.inl 4)), (0, .inr (.inl 11)), (1, .inl 0)] [] C4 _
    refine ev_al eX11_restore_63 rfl ?_
    refine ev_getR lk_f (ci := 11) (j := 5) (cd := 3) eX11_restore_64 (isF (by decide +kernel)) rfl rfl ?_
    obtain ⟨C5, hq5, h⟩ := ev_bv_some h
    refine ev_callV (kc := kc_89) (A := []) (T := []) (lk_m.1 _ _ 0 [89] (isM (by decide +kernel)) 89 (by decide)) eX11_restore_67 (m_3_forget hU hq5) rfl rfl rfl (by decide) (by decide) (Nat.le_of_ble_eq_true rfl) ?_
    rintro _ C5 ⟨rfl, rfl⟩
    show ev_W l D cys ty ck_tags ev_TR kh_11_restore_0 70 [(2, .inr (.inl 4)), (0, .inr (.inl 11)), (1, .inl 0)] [] C5 _
    refine ev_ic eX11_restore_70 (by decide) ?_
    cases h
    exact ev_zret eX11_restore_71 rfl (by decide) ⟨rfl, rfl⟩
  · rw [if_neg (show ¬ ((C 4 0) ≠ 0) from hc1)] at h
    refine ev_ic eX11_restore_21 (by decide) ?_
    cases h
    exact ev_zret eX11_restore_22 rfl (by decide) ⟨rfl, rfl⟩
set_option maxRecDepth 100000 in
theorem m_6_copyFrom_52_6 (hU : ev_uq ty ev_TR) {C : ev_C} {C' : ev_C} (h : f_6_copyFrom_52_6 C = some C') : ev_Met l D cys ty ck_tags ev_TR kh_6_copyFrom_jp [.inr (.inl 52), .inr (.inl 6)] C (fun r0 C0 => r0 = none ∧ C0 = C') := by
  unfold f_6_copyFrom_52_6 at h
  refine ev_enter (by decide +kernel) (by decide +kernel) (Nat.le_of_ble_eq_true rfl) ?_
  show ev_W l D cys ty ck_tags ev_TR kh_6_copyFrom_jp 0 [(0, .inr (.inl 52)), (1, .inr (.inl 6))] [] C _
  refine ev_al eX6_copyFrom_0 rfl ?_
  refine ev_al eX6_copyFrom_1 rfl ?_
  refine ev_getI lk_f (ci := 6) (j := 0) (cd := 0) eX6_copyFrom_2 (isF (by decide +kernel)) rfl rfl rfl ?_
  refine ev_putI lk_f hU (ci := 6) (j := 0) (cd := 0) eX6_copyFrom_5 (isF (by decide +kernel)) rfl rfl (Or.inl rfl) rfl ?_
  refine ev_al eX6_copyFrom_8 rfl ?_
  refine ev_al eX6_copyFrom_9 rfl ?_
  refine ev_getI lk_f (ci := 6) (j := 1) (cd := 0) eX6_copyFrom_10 (isF (by decide +kernel)) rfl rfl rfl ?_
  refine ev_putI lk_f hU (ci := 6) (j := 1) (cd := 0) eX6_copyFrom_13 (isF (by decide +kernel)) rfl rfl (Or.inl rfl) rfl ?_
  refine ev_al eX6_copyFrom_16 rfl ?_
  refine ev_al eX6_copyFrom_17 rfl ?_
  refine ev_getI lk_f (ci := 6) (j := 2) (cd := 0) eX6_copyFrom_18 (isF (by decide +kernel)) rfl rfl rfl ?_
  refine ev_putI lk_f hU (ci := 6) (j := 2) (cd := 0) eX6_copyFrom_21 (isF (by decide +kernel)) rfl rfl (Or.inl rfl) rfl ?_
  refine ev_al eX6_copyFrom_24 rfl ?_
  refine ev_al eX6_copyFrom_25 rfl ?_
  refine ev_getI lk_f (ci := 6) (j := 3) (cd := 0) eX6_copyFrom_26 (isF (by decide +kernel)) rfl rfl rfl ?_
  refine ev_putI lk_f hU (ci := 6) (j := 3) (cd := 0) eX6_copyFrom_29 (isF (by decide +kernel)) rfl rfl (Or.inl rfl) rfl ?_
  refine ev_al eX6_copyFrom_32 rfl ?_
  refine ev_al eX6_copyFrom_33 rfl ?_
  refine ev_getI lk_f (ci := 6) (j := 4) (cd := 0) eX6_copyFrom_34 (isF (by decide +kernel)) rfl rfl rfl ?_
  refine ev_putI lk_f hU (ci := 6) (j := 4) (cd := 0) eX6_copyFrom_37 (isF (by decide +kernel)) rfl rfl (Or.inl rfl) rfl ?_
  refine ev_al eX6_copyFrom_40 rfl ?_
  refine ev_al eX6_copyFrom_41 rfl ?_
  refine ev_getI lk_f (ci := 6) (j := 5) (cd := 1) eX6_copyFrom_42 (isF (by decide +kernel)) rfl rfl rfl ?_
  obtain ⟨hb1, h⟩ := ev_gd h
  refine ev_putI lk_f hU (ci := 6) (j := 5) (cd := 1) eX6_copyFrom_45 (isF (by decide +kernel)) rfl rfl (Or.inr ⟨rfl, hb1⟩) rfl ?_
  refine ev_al eX6_copyFrom_48 rfl ?_
  refine ev_getR lk_f (ci := 6) (j := 6) (cd := 3) eX6_copyFrom_49 (isF (by decide +kernel)) rfl rfl ?_
  refine ev_ic eX6_copyFrom_52 (by decide) ?_
  refine ev_al eX6_copyFrom_53 rfl ?_
  refine ev_getR lk_f (ci := 6) (j := 6) (cd := 3) eX6_copyFrom_54 (isF (by decide +kernel)) rfl rfl ?_
  refine ev_ic eX6_copyFrom_57 (by decide) ?_
  refine ev_bp eX6_copyFrom_58 (by decide) (by decide) ?_
  refine ev_copyl hU lk_m eX6_copyFrom_60 (u := ()) (isC (by decide +kernel)) rfl rfl rfl rfl (by decide) (Nat.le_of_ble_eq_true rfl) ?_
  refine ev_al eX6_copyFrom_63 rfl ?_
  refine ev_getR lk_f (ci := 6) (j := 7) (cd := 3) eX6_copyFrom_64 (isF (by decide +kernel)) rfl rfl ?_
  refine ev_ic eX6_copyFrom_67 (by decide) ?_
  refine ev_al eX6_copyFrom_68 rfl ?_
  refine ev_getR lk_f (ci := 6) (j := 7) (cd := 3) eX6_copyFrom_69 (isF (by decide +kernel)) rfl rfl ?_
  refine ev_ic eX6_copyFrom_72 (by decide) ?_
  refine ev_bp eX6_copyFrom_73 (by decide) (by decide) ?_
  refine ev_copyl hU lk_m eX6_copyFrom_75 (u := ()) (isC (by decide +kernel)) rfl rfl rfl rfl (by decide) (Nat.le_of_ble_eq_true rfl) ?_
  refine ev_al eX6_copyFrom_78 rfl ?_
  refine ev_getR lk_f (ci := 6) (j := 8) (cd := 3) eX6_copyFrom_79 (isF (by decide +kernel)) rfl rfl ?_
  refine ev_ic eX6_copyFrom_82 (by decide) ?_
  refine ev_al eX6_copyFrom_83 rfl ?_
  refine ev_getR lk_f (ci := 6) (j := 8) (cd := 3) eX6_copyFrom_84 (isF (by decide +kernel)) rfl rfl ?_
  refine ev_ic eX6_copyFrom_87 (by decide) ?_
  refine ev_bp eX6_copyFrom_88 (by decide) (by decide) ?_
  refine ev_copyl hU lk_m eX6_copyFrom_90 (u := ()) (isC (by decide +kernel)) rfl rfl rfl rfl (by decide) (Nat.le_of_ble_eq_true rfl) ?_
  refine ev_al eX6_copyFrom_93 rfl ?_
  refine ev_getR lk_f (ci := 6) (j := 9) (cd := 3) eX6_copyFrom_94 (isF (by decide +kernel)) rfl rfl ?_
  refine ev_ic eX6_copyFrom_97 (by decide) ?_
  refine ev_al eX6_copyFrom_98 rfl ?_
  refine ev_getR lk_f (ci := 6) (j := 9) (cd := 3) eX6_copyFrom_99 (isF (by decide +kernel)) rfl rfl ?_
  refine ev_ic eX6_copyFrom_102 (by decide) ?_
  refine ev_bp eX6_copyFrom_103 (by decide) (by decide) ?_
  refine ev_copyi hU lk_m eX6_copyFrom_105 (u := ()) (isC (by decide +kernel)) rfl rfl rfl rfl (by decide) (Nat.le_of_ble_eq_true rfl) ?_
  refine ev_al eX6_copyFrom_108 rfl ?_
  refine ev_getR lk_f (ci := 6) (j := 10) (cd := 3) eX6_copyFrom_109 (isF (by decide +kernel)) rfl rfl ?_
  refine ev_ic eX6_copyFrom_112 (by decide) ?_
  refine ev_al eX6_copyFrom_113 rfl ?_
  refine ev_getR lk_f (ci := 6) (j := 10) (cd := 3) eX6_copyFrom_114 (isF (by decide +kernel)) rfl rfl ?_
  refine ev_ic eX6_copyFrom_117 (by decide) ?_
  refine ev_bp eX6_copyFrom_118 (by decide) (by decide) ?_
  refine ev_copyi hU lk_m eX6_copyFrom_120 (u := ()) (isC (by decide +kernel)) rfl rfl rfl rfl (by decide) (Nat.le_of_ble_eq_true rfl) ?_
  refine ev_al eX6_copyFrom_123 rfl ?_
  refine ev_getR lk_f (ci := 6) (j := 11) (cd := 3) eX6_copyFrom_124 (isF (by decide +kernel)) rfl rfl ?_
  refine ev_ic eX6_copyFrom_127 (by decide) ?_
  refine ev_al eX6_copyFrom_128 rfl ?_
  refine ev_getR lk_f (ci := 6) (j := 11) (cd := 3) eX6_copyFrom_129 (isF (by decide +kernel)) rfl rfl ?_
  refine ev_ic eX6_copyFrom_132 (by decide) ?_
  refine ev_bp eX6_copyFrom_133 (by decide) (by decide) ?_
  refine ev_copyi hU lk_m eX6_copyFrom_135 (u := ()) (isC (by decide +kernel)) rfl rfl rfl rfl (by decide) (Nat.le_of_ble_eq_true rfl) ?_
  refine ev_al eX6_copyFrom_138 rfl ?_
  refine ev_getR lk_f (ci := 6) (j := 12) (cd := 3) eX6_copyFrom_139 (isF (by decide +kernel)) rfl rfl ?_
  refine ev_ic eX6_copyFrom_142 (by decide) ?_
  refine ev_al eX6_copyFrom_143 rfl ?_
  refine ev_getR lk_f (ci := 6) (j := 12) (cd := 3) eX6_copyFrom_144 (isF (by decide +kernel)) rfl rfl ?_
  refine ev_ic eX6_copyFrom_147 (by decide) ?_
  refine ev_bp eX6_copyFrom_148 (by decide) (by decide) ?_
  refine ev_copyi hU lk_m eX6_copyFrom_150 (u := ()) (isC (by decide +kernel)) rfl rfl rfl rfl (by decide) (Nat.le_of_ble_eq_true rfl) ?_
  refine ev_al eX6_copyFrom_153 rfl ?_
  refine ev_getR lk_f (ci := 6) (j := 13) (cd := 3) eX6_copyFrom_154 (isF (by decide +kernel)) rfl rfl ?_
  refine ev_ic eX6_copyFrom_157 (by decide) ?_
  refine ev_al eX6_copyFrom_158 rfl ?_
  refine ev_getR lk_f (ci := 6) (j := 13) (cd := 3) eX6_copyFrom_159 (isF (by decide +kernel)) rfl rfl ?_
  refine ev_ic eX6_copyFrom_162 (by decide) ?_
  refine ev_bp eX6_copyFrom_163 (by decide) (by decide) ?_
  refine ev_copyi hU lk_m eX6_copyFrom_165 (u := ()) (isC (by decide +kernel)) rfl rfl rfl rfl (by decide) (Nat.le_of_ble_eq_true rfl) ?_
  refine ev_al eX6_copyFrom_168 rfl ?_
  refine ev_getR lk_f (ci := 6) (j := 14) (cd := 3) eX6_copyFrom_169 (isF (by decide +kernel)) rfl rfl ?_
  refine ev_ic eX6_copyFrom_172 (by decide) ?_
  refine ev_al eX6_copyFrom_173 rfl ?_
  refine ev_getR lk_f (ci := 6) (j := 14) (cd := 3) eX6_copyFrom_174 (isF (by decide +kernel)) rfl rfl ?_
  refine ev_ic eX6_copyFrom_177 (by decide) ?_
  refine ev_bp eX6_copyFrom_178 (by decide) (by decide) ?_
  refine ev_copyi hU lk_m eX6_copyFrom_180 (u := ()) (isC (by decide +kernel)) rfl rfl rfl rfl (by decide) (Nat.le_of_ble_eq_true rfl) ?_
  refine ev_al eX6_copyFrom_183 rfl ?_
  refine ev_getR lk_f (ci := 6) (j := 15) (cd := 3) eX6_copyFrom_184 (isF (by decide +kernel)) rfl rfl ?_
  refine ev_ic eX6_copyFrom_187 (by decide) ?_
  refine ev_al eX6_copyFrom_188 rfl ?_
  refine ev_getR lk_f (ci := 6) (j := 15) (cd := 3) eX6_copyFrom_189 (isF (by decide +kernel)) rfl rfl ?_
  refine ev_ic eX6_copyFrom_192 (by decide) ?_
  refine ev_bp eX6_copyFrom_193 (by decide) (by decide) ?_
  refine ev_copyi hU lk_m eX6_copyFrom_195 (u := ()) (isC (by decide +kernel)) rfl rfl rfl rfl (by decide) (Nat.le_of_ble_eq_true rfl) ?_
  refine ev_al eX6_copyFrom_198 rfl ?_
  refine ev_getR lk_f (ci := 6) (j := 16) (cd := 3) eX6_copyFrom_199 (isF (by decide +kernel)) rfl rfl ?_
  refine ev_ic eX6_copyFrom_202 (by decide) ?_
  refine ev_al eX6_copyFrom_203 rfl ?_
  refine ev_getR lk_f (ci := 6) (j := 16) (cd := 3) eX6_copyFrom_204 (isF (by decide +kernel)) rfl rfl ?_
  refine ev_ic eX6_copyFrom_207 (by decide) ?_
  refine ev_bp eX6_copyFrom_208 (by decide) (by decide) ?_
  refine ev_copyi hU lk_m eX6_copyFrom_210 (u := ()) (isC (by decide +kernel)) rfl rfl rfl rfl (by decide) (Nat.le_of_ble_eq_true rfl) ?_
  refine ev_al eX6_copyFrom_213 rfl ?_
  refine ev_getR lk_f (ci := 6) (j := 17) (cd := 3) eX6_copyFrom_214 (isF (by decide +kernel)) rfl rfl ?_
  refine ev_ic eX6_copyFrom_217 (by decide) ?_
  refine ev_al eX6_copyFrom_218 rfl ?_
  refine ev_getR lk_f (ci := 6) (j := 17) (cd := 3) eX6_copyFrom_219 (isF (by decide +kernel)) rfl rfl ?_
  refine ev_ic eX6_copyFrom_222 (by decide) ?_
  refine ev_bp eX6_copyFrom_223 (by decide) (by decide) ?_
  refine ev_copyi hU lk_m eX6_copyFrom_225 (u := ()) (isC (by decide +kernel)) rfl rfl rfl rfl (by decide) (Nat.le_of_ble_eq_true rfl) ?_
  refine ev_al eX6_copyFrom_228 rfl ?_
  refine ev_getR lk_f (ci := 6) (j := 18) (cd := 3) eX6_copyFrom_229 (isF (by decide +kernel)) rfl rfl ?_
  refine ev_ic eX6_copyFrom_232 (by decide) ?_
  refine ev_al eX6_copyFrom_233 rfl ?_
  refine ev_getR lk_f (ci := 6) (j := 18) (cd := 3) eX6_copyFrom_234 (isF (by decide +kernel)) rfl rfl ?_
  refine ev_ic eX6_copyFrom_237 (by decide) ?_
  refine ev_bp eX6_copyFrom_238 (by decide) (by decide) ?_
  refine ev_copyi hU lk_m eX6_copyFrom_240 (u := ()) (isC (by decide +kernel)) rfl rfl rfl rfl (by decide) (Nat.le_of_ble_eq_true rfl) ?_
  refine ev_al eX6_copyFrom_243 rfl ?_
  refine ev_getR lk_f (ci := 6) (j := 19) (cd := 3) eX6_copyFrom_244 (isF (by decide +kernel)) rfl rfl ?_
  refine ev_ic eX6_copyFrom_247 (by decide) ?_
  refine ev_al eX6_copyFrom_248 rfl ?_
  refine ev_getR lk_f (ci := 6) (j := 19) (cd := 3) eX6_copyFrom_249 (isF (by decide +kernel)) rfl rfl ?_
  refine ev_ic eX6_copyFrom_252 (by decide) ?_
  refine ev_bp eX6_copyFrom_253 (by decide) (by decide) ?_
  refine ev_copyi hU lk_m eX6_copyFrom_255 (u := ()) (isC (by decide +kernel)) rfl rfl rfl rfl (by decide) (Nat.le_of_ble_eq_true rfl) ?_
  cases h
  exact ev_vret eX6_copyFrom_258 rfl ⟨rfl, rfl⟩
set_option maxRecDepth 100000 in
theorem m_9_copyFrom_111_9 (hU : ev_uq ty ev_TR) {C : ev_C} {C' : ev_C} (h : f_9_copyFrom_111_9 C = some C') : ev_Met l D cys ty ck_tags ev_TR kc_128 [.inr (.inl 111), .inr (.inl 9)] C (fun r0 C0 => r0 = none ∧ C0 = C') := by
  unfold f_9_copyFrom_111_9 at h
  refine ev_enter (by decide +kernel) (by decide +kernel) (Nat.le_of_ble_eq_true rfl) ?_
  show ev_W l D cys ty ck_tags ev_TR kc_128 0 [(0, .inr (.inl 111)), (1, .inr (.inl 9))] [] C _
  refine ev_al eX9_copyFrom_0 rfl ?_
  refine ev_al eX9_copyFrom_1 rfl ?_
  refine ev_getI lk_f (ci := 9) (j := 0) (cd := 0) eX9_copyFrom_2 (isF (by decide +kernel)) rfl rfl rfl ?_
  refine ev_putI lk_f hU (ci := 9) (j := 0) (cd := 0) eX9_copyFrom_5 (isF (by decide +kernel)) rfl rfl (Or.inl rfl) rfl ?_
  refine ev_al eX9_copyFrom_8 rfl ?_
  refine ev_al eX9_copyFrom_9 rfl ?_
  refine ev_getI lk_f (ci := 9) (j := 1) (cd := 0) eX9_copyFrom_10 (isF (by decide +kernel)) rfl rfl rfl ?_
  refine ev_putI lk_f hU (ci := 9) (j := 1) (cd := 0) eX9_copyFrom_13 (isF (by decide +kernel)) rfl rfl (Or.inl rfl) rfl ?_
  refine ev_al eX9_copyFrom_16 rfl ?_
  refine ev_getR lk_f (ci := 9) (j := 2) (cd := 3) eX9_copyFrom_17 (isF (by decide +kernel)) rfl rfl ?_
  refine ev_ic eX9_copyFrom_20 (by decide) ?_
  refine ev_al eX9_copyFrom_21 rfl ?_
  refine ev_getR lk_f (ci := 9) (j := 2) (cd := 3) eX9_copyFrom_22 (isF (by decide +kernel)) rfl rfl ?_
  refine ev_ic eX9_copyFrom_25 (by decide) ?_
  refine ev_bp eX9_copyFrom_26 (by decide) (by decide) ?_
  refine ev_copyiU hU lk_m eX9_copyFrom_28 (u := ()) (isC (by decide +kernel)) rfl rfl rfl (by decide) (Nat.le_of_ble_eq_true rfl) ?_
  refine ev_al eX9_copyFrom_31 rfl ?_
  refine ev_getR lk_f (ci := 9) (j := 3) (cd := 3) eX9_copyFrom_32 (isF (by decide +kernel)) rfl rfl ?_
  refine ev_ic eX9_copyFrom_35 (by decide) ?_
  refine ev_al eX9_copyFrom_36 rfl ?_
  refine ev_getR lk_f (ci := 9) (j := 3) (cd := 3) eX9_copyFrom_37 (isF (by decide +kernel)) rfl rfl ?_
  refine ev_ic eX9_copyFrom_40 (by decide) ?_
  refine ev_bp eX9_copyFrom_41 (by decide) (by decide) ?_
  refine ev_copyiU hU lk_m eX9_copyFrom_43 (u := ()) (isC (by decide +kernel)) rfl rfl rfl (by decide) (Nat.le_of_ble_eq_true rfl) ?_
  refine ev_al eX9_copyFrom_46 rfl ?_
  refine ev_getR lk_f (ci := 9) (j := 4) (cd := 3) eX9_copyFrom_47 (isF (by decide +kernel)) rfl rfl ?_
  refine ev_ic eX9_copyFrom_50 (by decide) ?_
  refine ev_al eX9_copyFrom_51 rfl ?_
  refine ev_getR lk_f (ci := 9) (j := 4) (cd := 3) eX9_copyFrom_52 (isF (by decide +kernel)) rfl rfl ?_
  refine ev_ic eX9_copyFrom_55 (by decide) ?_
  refine ev_bp eX9_copyFrom_56 (by decide) (by decide) ?_
  refine ev_copyiU hU lk_m eX9_copyFrom_58 (u := ()) (isC (by decide +kernel)) rfl rfl rfl (by decide) (Nat.le_of_ble_eq_true rfl) ?_
  cases h
  exact ev_vret eX9_copyFrom_61 rfl ⟨rfl, rfl⟩
set_option maxRecDepth 100000 in
theorem m_11_image_k1 (hU : ev_uq ty ev_TR) {C : ev_C} {r : Int} {C' : ev_C} (h : f_11_image_k1 C = some (r, C')) : ev_Met l D cys ty ck_tags ev_TR kh_11_image_1 [.inr (.inl 11), .inl 1] C (fun r0 C0 => r0 = some (.inl r) ∧ C0 = C') := by
  unfold f_11_image_k1 at h
  refine ev_enter (by decide +kernel) (by decide +kernel) (Nat.le_of_ble_eq_true rfl) ?_
  show ev_W l D cys ty ck_tags ev_TR kh_11_image_1 0 [(0, .inr (.inl 11)), (1, .inl 1)] [] C _
  refine ev_il eX11_image_0 rfl ?_
  refine ev_z_lt (tgt := 9) eX11_image_1 (by decide) (fun hc => absurd hc (show ¬ ((1 : Int) < 0) by decide)) (fun _ => ?_)
  refine ev_il eX11_image_4 rfl ?_
  refine ev_ic eX11_image_5 (by decide) ?_
  refine ev_c_lt (tgt := 11) eX11_image_6 (by decide) (fun _ => ?_) (fun hc => absurd (show (1 : Int) < 2 by decide) hc)
  refine ev_al eX11_image_11 rfl ?_
  refine ev_getR lk_f (ci := 11) (j := 11) (cd := 3) eX11_image_12 (isF (by decide +kernel)) rfl rfl ?_
  refine ev_il eX11_image_15 rfl ?_
  refine ev_aald (t' := 48) eX11_image_16 rfl (by decide) (by decide) (by decide) rfl ?_
  refine ev_as (L' := [(2, .inr (.inl 48)), (0, .inr (.inl 11)), (1, .inl 1)]) eX11_image_17 (by decide) rfl ?_
  refine ev_al eX11_image_18 rfl ?_
  refine ev_getR lk_f (ci := 4) (j := 1) (cd := 3) eX11_image_19 (isF (by decide +kernel)) rfl rfl ?_
  refine ev_al eX11_image_22 rfl ?_
  refine ev_getR lk_f (ci := 11) (j := 2) (cd := 3) eX11_image_23 (isF (by decide +kernel)) rfl rfl ?_
  obtain ⟨C1, hq1, h⟩ := ev_bv_some h
  refine ev_callV (kc := kh_6_copyFrom_jp) (A := [.inr (.inl 6)]) (T := []) (lk_h (11, 132, 0, kh_6_copyFrom_jp) (List.mem_of_getElem? (i := 4) rfl)) eX11_image_26 (m_6_copyFrom_52_6 hU hq1) rfl rfl rfl (by decide) (by decide) (Nat.le_of_ble_eq_true rfl) ?_
  rintro _ C1 ⟨rfl, rfl⟩
  show ev_W l D cys ty ck_tags ev_TR kh_11_image_1 29 [(2, .inr (.inl 48)), (0, .inr (.inl 11)), (1, .inl 1)] [] C1 _
  refine ev_al eX11_image_29 rfl ?_
  refine ev_getR lk_f (ci := 4) (j := 2) (cd := 3) eX11_image_30 (isF (by decide +kernel)) rfl rfl ?_
  refine ev_al eX11_image_33 rfl ?_
  refine ev_getR lk_f (ci := 11) (j := 3) (cd := 3) eX11_image_34 (isF (by decide +kernel)) rfl rfl ?_
  obtain ⟨C2, hq2, h⟩ := ev_bv_some h
  refine ev_callV (kc := kc_290) (A := [.inr (.inl 2)]) (T := []) (lk_m.1 _ _ 0 [290] (isM (by decide +kernel)) 290 (by decide)) eX11_image_37 (m_2_copyFrom_2 hU hq2) rfl rfl rfl (by decide) (by decide) (Nat.le_of_ble_eq_true rfl) ?_
  rintro _ C2 ⟨rfl, rfl⟩
  show ev_W l D cys ty ck_tags ev_TR kh_11_image_1 40 [(2, .inr (.inl 48)), (0, .inr (.inl 11)), (1, .inl 1)] [] C2 _
  refine ev_al eX11_image_40 rfl ?_
  refine ev_getR lk_f (ci := 4) (j := 3) (cd := 3) eX11_image_41 (isF (by decide +kernel)) rfl rfl ?_
  refine ev_al eX11_image_44 rfl ?_
  refine ev_getR lk_f (ci := 11) (j := 6) (cd := 3) eX11_image_45 (isF (by decide +kernel)) rfl rfl ?_
  obtain ⟨C3, hq3, h⟩ := ev_bv_some h
  refine ev_callV (kc := kc_128) (A := [.inr (.inl 9)]) (T := []) (lk_m.1 _ _ 0 [125, 126, 127, 128, 129] (isM (by decide +kernel)) 128 (by decide)) eX11_image_48 (m_9_copyFrom_111_9 hU hq3) rfl rfl rfl (by decide) (by decide) (Nat.le_of_ble_eq_true rfl) ?_
  rintro _ C3 ⟨rfl, rfl⟩
  show ev_W l D cys ty ck_tags ev_TR kh_11_image_1 51 [(2, .inr (.inl 48)), (0, .inr (.inl 11)), (1, .inl 1)] [] C3 _
  refine ev_al eX11_image_51 rfl ?_
  refine ev_ic eX11_image_52 (by decide) ?_
  refine ev_putI lk_f hU (ci := 4) (j := 0) (cd := 1) eX11_image_53 (isF (by decide +kernel)) rfl rfl (Or.inr ⟨rfl, by decide, by decide⟩) rfl ?_
  refine ev_ic eX11_image_56 (by decide) ?_
  cases h
  exact ev_zret eX11_image_57 rfl (by decide) ⟨rfl, rfl⟩
set_option maxRecDepth 100000 in
theorem m_6_copyFrom_52 (hU : ev_uq ty ev_TR) {C : ev_C} {C' : ev_C} (h : f_6_copyFrom_52 C = some C') : ev_Met l D cys ty ck_tags ev_TR kh_6_copyFrom_pj [.inr (.inl 6), .inr (.inl 52)] C (fun r0 C0 => r0 = none ∧ C0 = C') := by
  unfold f_6_copyFrom_52 at h
  refine ev_enter (by decide +kernel) (by decide +kernel) (Nat.le_of_ble_eq_true rfl) ?_
  show ev_W l D cys ty ck_tags ev_TR kh_6_copyFrom_pj 0 [(0, .inr (.inl 6)), (1, .inr (.inl 52))] [] C _
  refine ev_al eX6_copyFrom_0 rfl ?_
  refine ev_al eX6_copyFrom_1 rfl ?_
  refine ev_getI lk_f (ci := 6) (j := 0) (cd := 0) eX6_copyFrom_2 (isF (by decide +kernel)) rfl rfl rfl ?_
  refine ev_putI lk_f hU (ci := 6) (j := 0) (cd := 0) eX6_copyFrom_5 (isF (by decide +kernel)) rfl rfl (Or.inl rfl) rfl ?_
  refine ev_al eX6_copyFrom_8 rfl ?_
  refine ev_al eX6_copyFrom_9 rfl ?_
  refine ev_getI lk_f (ci := 6) (j := 1) (cd := 0) eX6_copyFrom_10 (isF (by decide +kernel)) rfl rfl rfl ?_
  refine ev_putI lk_f hU (ci := 6) (j := 1) (cd := 0) eX6_copyFrom_13 (isF (by decide +kernel)) rfl rfl (Or.inl rfl) rfl ?_
  refine ev_al eX6_copyFrom_16 rfl ?_
  refine ev_al eX6_copyFrom_17 rfl ?_
  refine ev_getI lk_f (ci := 6) (j := 2) (cd := 0) eX6_copyFrom_18 (isF (by decide +kernel)) rfl rfl rfl ?_
  refine ev_putI lk_f hU (ci := 6) (j := 2) (cd := 0) eX6_copyFrom_21 (isF (by decide +kernel)) rfl rfl (Or.inl rfl) rfl ?_
  refine ev_al eX6_copyFrom_24 rfl ?_
  refine ev_al eX6_copyFrom_25 rfl ?_
  refine ev_getI lk_f (ci := 6) (j := 3) (cd := 0) eX6_copyFrom_26 (isF (by decide +kernel)) rfl rfl rfl ?_
  refine ev_putI lk_f hU (ci := 6) (j := 3) (cd := 0) eX6_copyFrom_29 (isF (by decide +kernel)) rfl rfl (Or.inl rfl) rfl ?_
  refine ev_al eX6_copyFrom_32 rfl ?_
  refine ev_al eX6_copyFrom_33 rfl ?_
  refine ev_getI lk_f (ci := 6) (j := 4) (cd := 0) eX6_copyFrom_34 (isF (by decide +kernel)) rfl rfl rfl ?_
  refine ev_putI lk_f hU (ci := 6) (j := 4) (cd := 0) eX6_copyFrom_37 (isF (by decide +kernel)) rfl rfl (Or.inl rfl) rfl ?_
  refine ev_al eX6_copyFrom_40 rfl ?_
  refine ev_al eX6_copyFrom_41 rfl ?_
  refine ev_getI lk_f (ci := 6) (j := 5) (cd := 1) eX6_copyFrom_42 (isF (by decide +kernel)) rfl rfl rfl ?_
  obtain ⟨hb1, h⟩ := ev_gd h
  refine ev_putI lk_f hU (ci := 6) (j := 5) (cd := 1) eX6_copyFrom_45 (isF (by decide +kernel)) rfl rfl (Or.inr ⟨rfl, hb1⟩) rfl ?_
  refine ev_al eX6_copyFrom_48 rfl ?_
  refine ev_getR lk_f (ci := 6) (j := 6) (cd := 3) eX6_copyFrom_49 (isF (by decide +kernel)) rfl rfl ?_
  refine ev_ic eX6_copyFrom_52 (by decide) ?_
  refine ev_al eX6_copyFrom_53 rfl ?_
  refine ev_getR lk_f (ci := 6) (j := 6) (cd := 3) eX6_copyFrom_54 (isF (by decide +kernel)) rfl rfl ?_
  refine ev_ic eX6_copyFrom_57 (by decide) ?_
  refine ev_bp eX6_copyFrom_58 (by decide) (by decide) ?_
  refine ev_copyl hU lk_m eX6_copyFrom_60 (u := ()) (isC (by decide +kernel)) rfl rfl rfl rfl (by decide) (Nat.le_of_ble_eq_true rfl) ?_
  refine ev_al eX6_copyFrom_63 rfl ?_
  refine ev_getR lk_f (ci := 6) (j := 7) (cd := 3) eX6_copyFrom_64 (isF (by decide +kernel)) rfl rfl ?_
  refine ev_ic eX6_copyFrom_67 (by decide) ?_
  refine ev_al eX6_copyFrom_68 rfl ?_
  refine ev_getR lk_f (ci := 6) (j := 7) (cd := 3) eX6_copyFrom_69 (isF (by decide +kernel)) rfl rfl ?_
  refine ev_ic eX6_copyFrom_72 (by decide) ?_
  refine ev_bp eX6_copyFrom_73 (by decide) (by decide) ?_
  refine ev_copyl hU lk_m eX6_copyFrom_75 (u := ()) (isC (by decide +kernel)) rfl rfl rfl rfl (by decide) (Nat.le_of_ble_eq_true rfl) ?_
  refine ev_al eX6_copyFrom_78 rfl ?_
  refine ev_getR lk_f (ci := 6) (j := 8) (cd := 3) eX6_copyFrom_79 (isF (by decide +kernel)) rfl rfl ?_
  refine ev_ic eX6_copyFrom_82 (by decide) ?_
  refine ev_al eX6_copyFrom_83 rfl ?_
  refine ev_getR lk_f (ci := 6) (j := 8) (cd := 3) eX6_copyFrom_84 (isF (by decide +kernel)) rfl rfl ?_
  refine ev_ic eX6_copyFrom_87 (by decide) ?_
  refine ev_bp eX6_copyFrom_88 (by decide) (by decide) ?_
  refine ev_copyl hU lk_m eX6_copyFrom_90 (u := ()) (isC (by decide +kernel)) rfl rfl rfl rfl (by decide) (Nat.le_of_ble_eq_true rfl) ?_
  refine ev_al eX6_copyFrom_93 rfl ?_
  refine ev_getR lk_f (ci := 6) (j := 9) (cd := 3) eX6_copyFrom_94 (isF (by decide +kernel)) rfl rfl ?_
  refine ev_ic eX6_copyFrom_97 (by decide) ?_
  refine ev_al eX6_copyFrom_98 rfl ?_
  refine ev_getR lk_f (ci := 6) (j := 9) (cd := 3) eX6_copyFrom_99 (isF (by decide +kernel)) rfl rfl ?_
  refine ev_ic eX6_copyFrom_102 (by decide) ?_
  refine ev_bp eX6_copyFrom_103 (by decide) (by decide) ?_
  refine ev_copyi hU lk_m eX6_copyFrom_105 (u := ()) (isC (by decide +kernel)) rfl rfl rfl rfl (by decide) (Nat.le_of_ble_eq_true rfl) ?_
  refine ev_al eX6_copyFrom_108 rfl ?_
  refine ev_getR lk_f (ci := 6) (j := 10) (cd := 3) eX6_copyFrom_109 (isF (by decide +kernel)) rfl rfl ?_
  refine ev_ic eX6_copyFrom_112 (by decide) ?_
  refine ev_al eX6_copyFrom_113 rfl ?_
  refine ev_getR lk_f (ci := 6) (j := 10) (cd := 3) eX6_copyFrom_114 (isF (by decide +kernel)) rfl rfl ?_
  refine ev_ic eX6_copyFrom_117 (by decide) ?_
  refine ev_bp eX6_copyFrom_118 (by decide) (by decide) ?_
  refine ev_copyi hU lk_m eX6_copyFrom_120 (u := ()) (isC (by decide +kernel)) rfl rfl rfl rfl (by decide) (Nat.le_of_ble_eq_true rfl) ?_
  refine ev_al eX6_copyFrom_123 rfl ?_
  refine ev_getR lk_f (ci := 6) (j := 11) (cd := 3) eX6_copyFrom_124 (isF (by decide +kernel)) rfl rfl ?_
  refine ev_ic eX6_copyFrom_127 (by decide) ?_
  refine ev_al eX6_copyFrom_128 rfl ?_
  refine ev_getR lk_f (ci := 6) (j := 11) (cd := 3) eX6_copyFrom_129 (isF (by decide +kernel)) rfl rfl ?_
  refine ev_ic eX6_copyFrom_132 (by decide) ?_
  refine ev_bp eX6_copyFrom_133 (by decide) (by decide) ?_
  refine ev_copyi hU lk_m eX6_copyFrom_135 (u := ()) (isC (by decide +kernel)) rfl rfl rfl rfl (by decide) (Nat.le_of_ble_eq_true rfl) ?_
  refine ev_al eX6_copyFrom_138 rfl ?_
  refine ev_getR lk_f (ci := 6) (j := 12) (cd := 3) eX6_copyFrom_139 (isF (by decide +kernel)) rfl rfl ?_
  refine ev_ic eX6_copyFrom_142 (by decide) ?_
  refine ev_al eX6_copyFrom_143 rfl ?_
  refine ev_getR lk_f (ci := 6) (j := 12) (cd := 3) eX6_copyFrom_144 (isF (by decide +kernel)) rfl rfl ?_
  refine ev_ic eX6_copyFrom_147 (by decide) ?_
  refine ev_bp eX6_copyFrom_148 (by decide) (by decide) ?_
  refine ev_copyi hU lk_m eX6_copyFrom_150 (u := ()) (isC (by decide +kernel)) rfl rfl rfl rfl (by decide) (Nat.le_of_ble_eq_true rfl) ?_
  refine ev_al eX6_copyFrom_153 rfl ?_
  refine ev_getR lk_f (ci := 6) (j := 13) (cd := 3) eX6_copyFrom_154 (isF (by decide +kernel)) rfl rfl ?_
  refine ev_ic eX6_copyFrom_157 (by decide) ?_
  refine ev_al eX6_copyFrom_158 rfl ?_
  refine ev_getR lk_f (ci := 6) (j := 13) (cd := 3) eX6_copyFrom_159 (isF (by decide +kernel)) rfl rfl ?_
  refine ev_ic eX6_copyFrom_162 (by decide) ?_
  refine ev_bp eX6_copyFrom_163 (by decide) (by decide) ?_
  refine ev_copyi hU lk_m eX6_copyFrom_165 (u := ()) (isC (by decide +kernel)) rfl rfl rfl rfl (by decide) (Nat.le_of_ble_eq_true rfl) ?_
  refine ev_al eX6_copyFrom_168 rfl ?_
  refine ev_getR lk_f (ci := 6) (j := 14) (cd := 3) eX6_copyFrom_169 (isF (by decide +kernel)) rfl rfl ?_
  refine ev_ic eX6_copyFrom_172 (by decide) ?_
  refine ev_al eX6_copyFrom_173 rfl ?_
  refine ev_getR lk_f (ci := 6) (j := 14) (cd := 3) eX6_copyFrom_174 (isF (by decide +kernel)) rfl rfl ?_
  refine ev_ic eX6_copyFrom_177 (by decide) ?_
  refine ev_bp eX6_copyFrom_178 (by decide) (by decide) ?_
  refine ev_copyi hU lk_m eX6_copyFrom_180 (u := ()) (isC (by decide +kernel)) rfl rfl rfl rfl (by decide) (Nat.le_of_ble_eq_true rfl) ?_
  refine ev_al eX6_copyFrom_183 rfl ?_
  refine ev_getR lk_f (ci := 6) (j := 15) (cd := 3) eX6_copyFrom_184 (isF (by decide +kernel)) rfl rfl ?_
  refine ev_ic eX6_copyFrom_187 (by decide) ?_
  refine ev_al eX6_copyFrom_188 rfl ?_
  refine ev_getR lk_f (ci := 6) (j := 15) (cd := 3) eX6_copyFrom_189 (isF (by decide +kernel)) rfl rfl ?_
  refine ev_ic eX6_copyFrom_192 (by decide) ?_
  refine ev_bp eX6_copyFrom_193 (by decide) (by decide) ?_
  refine ev_copyi hU lk_m eX6_copyFrom_195 (u := ()) (isC (by decide +kernel)) rfl rfl rfl rfl (by decide) (Nat.le_of_ble_eq_true rfl) ?_
  refine ev_al eX6_copyFrom_198 rfl ?_
  refine ev_getR lk_f (ci := 6) (j := 16) (cd := 3) eX6_copyFrom_199 (isF (by decide +kernel)) rfl rfl ?_
  refine ev_ic eX6_copyFrom_202 (by decide) ?_
  refine ev_al eX6_copyFrom_203 rfl ?_
  refine ev_getR lk_f (ci := 6) (j := 16) (cd := 3) eX6_copyFrom_204 (isF (by decide +kernel)) rfl rfl ?_
  refine ev_ic eX6_copyFrom_207 (by decide) ?_
  refine ev_bp eX6_copyFrom_208 (by decide) (by decide) ?_
  refine ev_copyi hU lk_m eX6_copyFrom_210 (u := ()) (isC (by decide +kernel)) rfl rfl rfl rfl (by decide) (Nat.le_of_ble_eq_true rfl) ?_
  refine ev_al eX6_copyFrom_213 rfl ?_
  refine ev_getR lk_f (ci := 6) (j := 17) (cd := 3) eX6_copyFrom_214 (isF (by decide +kernel)) rfl rfl ?_
  refine ev_ic eX6_copyFrom_217 (by decide) ?_
  refine ev_al eX6_copyFrom_218 rfl ?_
  refine ev_getR lk_f (ci := 6) (j := 17) (cd := 3) eX6_copyFrom_219 (isF (by decide +kernel)) rfl rfl ?_
  refine ev_ic eX6_copyFrom_222 (by decide) ?_
  refine ev_bp eX6_copyFrom_223 (by decide) (by decide) ?_
  refine ev_copyi hU lk_m eX6_copyFrom_225 (u := ()) (isC (by decide +kernel)) rfl rfl rfl rfl (by decide) (Nat.le_of_ble_eq_true rfl) ?_
  refine ev_al eX6_copyFrom_228 rfl ?_
  refine ev_getR lk_f (ci := 6) (j := 18) (cd := 3) eX6_copyFrom_229 (isF (by decide +kernel)) rfl rfl ?_
  refine ev_ic eX6_copyFrom_232 (by decide) ?_
  refine ev_al eX6_copyFrom_233 rfl ?_
  refine ev_getR lk_f (ci := 6) (j := 18) (cd := 3) eX6_copyFrom_234 (isF (by decide +kernel)) rfl rfl ?_
  refine ev_ic eX6_copyFrom_237 (by decide) ?_
  refine ev_bp eX6_copyFrom_238 (by decide) (by decide) ?_
  refine ev_copyi hU lk_m eX6_copyFrom_240 (u := ()) (isC (by decide +kernel)) rfl rfl rfl rfl (by decide) (Nat.le_of_ble_eq_true rfl) ?_
  refine ev_al eX6_copyFrom_243 rfl ?_
  refine ev_getR lk_f (ci := 6) (j := 19) (cd := 3) eX6_copyFrom_244 (isF (by decide +kernel)) rfl rfl ?_
  refine ev_ic eX6_copyFrom_247 (by decide) ?_
  refine ev_al eX6_copyFrom_248 rfl ?_
  refine ev_getR lk_f (ci := 6) (j := 19) (cd := 3) eX6_copyFrom_249 (isF (by decide +kernel)) rfl rfl ?_
  refine ev_ic eX6_copyFrom_252 (by decide) ?_
  refine ev_bp eX6_copyFrom_253 (by decide) (by decide) ?_
  refine ev_copyi hU lk_m eX6_copyFrom_255 (u := ()) (isC (by decide +kernel)) rfl rfl rfl rfl (by decide) (Nat.le_of_ble_eq_true rfl) ?_
  cases h
  exact ev_vret eX6_copyFrom_258 rfl ⟨rfl, rfl⟩
set_option maxRecDepth 100000 in
theorem m_9_copyFrom_111 (hU : ev_uq ty ev_TR) {C : ev_C} {C' : ev_C} (h : f_9_copyFrom_111 C = some C') : ev_Met l D cys ty ck_tags ev_TR kc_129 [.inr (.inl 9), .inr (.inl 111)] C (fun r0 C0 => r0 = none ∧ C0 = C') := by
  unfold f_9_copyFrom_111 at h
  refine ev_enter (by decide +kernel) (by decide +kernel) (Nat.le_of_ble_eq_true rfl) ?_
  show ev_W l D cys ty ck_tags ev_TR kc_129 0 [(0, .inr (.inl 9)), (1, .inr (.inl 111))] [] C _
  refine ev_al eX9_copyFrom_0 rfl ?_
  refine ev_al eX9_copyFrom_1 rfl ?_
  refine ev_getI lk_f (ci := 9) (j := 0) (cd := 0) eX9_copyFrom_2 (isF (by decide +kernel)) rfl rfl rfl ?_
  refine ev_putI lk_f hU (ci := 9) (j := 0) (cd := 0) eX9_copyFrom_5 (isF (by decide +kernel)) rfl rfl (Or.inl rfl) rfl ?_
  refine ev_al eX9_copyFrom_8 rfl ?_
  refine ev_al eX9_copyFrom_9 rfl ?_
  refine ev_getI lk_f (ci := 9) (j := 1) (cd := 0) eX9_copyFrom_10 (isF (by decide +kernel)) rfl rfl rfl ?_
  refine ev_putI lk_f hU (ci := 9) (j := 1) (cd := 0) eX9_copyFrom_13 (isF (by decide +kernel)) rfl rfl (Or.inl rfl) rfl ?_
  refine ev_al eX9_copyFrom_16 rfl ?_
  refine ev_getR lk_f (ci := 9) (j := 2) (cd := 3) eX9_copyFrom_17 (isF (by decide +kernel)) rfl rfl ?_
  refine ev_ic eX9_copyFrom_20 (by decide) ?_
  refine ev_al eX9_copyFrom_21 rfl ?_
  refine ev_getR lk_f (ci := 9) (j := 2) (cd := 3) eX9_copyFrom_22 (isF (by decide +kernel)) rfl rfl ?_
  refine ev_ic eX9_copyFrom_25 (by decide) ?_
  refine ev_bp eX9_copyFrom_26 (by decide) (by decide) ?_
  refine ev_copyiU hU lk_m eX9_copyFrom_28 (u := ()) (isC (by decide +kernel)) rfl rfl rfl (by decide) (Nat.le_of_ble_eq_true rfl) ?_
  refine ev_al eX9_copyFrom_31 rfl ?_
  refine ev_getR lk_f (ci := 9) (j := 3) (cd := 3) eX9_copyFrom_32 (isF (by decide +kernel)) rfl rfl ?_
  refine ev_ic eX9_copyFrom_35 (by decide) ?_
  refine ev_al eX9_copyFrom_36 rfl ?_
  refine ev_getR lk_f (ci := 9) (j := 3) (cd := 3) eX9_copyFrom_37 (isF (by decide +kernel)) rfl rfl ?_
  refine ev_ic eX9_copyFrom_40 (by decide) ?_
  refine ev_bp eX9_copyFrom_41 (by decide) (by decide) ?_
  refine ev_copyiU hU lk_m eX9_copyFrom_43 (u := ()) (isC (by decide +kernel)) rfl rfl rfl (by decide) (Nat.le_of_ble_eq_true rfl) ?_
  refine ev_al eX9_copyFrom_46 rfl ?_
  refine ev_getR lk_f (ci := 9) (j := 4) (cd := 3) eX9_copyFrom_47 (isF (by decide +kernel)) rfl rfl ?_
  refine ev_ic eX9_copyFrom_50 (by decide) ?_
  refine ev_al eX9_copyFrom_51 rfl ?_
  refine ev_getR lk_f (ci := 9) (j := 4) (cd := 3) eX9_copyFrom_52 (isF (by decide +kernel)) rfl rfl ?_
  refine ev_ic eX9_copyFrom_55 (by decide) ?_
  refine ev_bp eX9_copyFrom_56 (by decide) (by decide) ?_
  refine ev_copyiU hU lk_m eX9_copyFrom_58 (u := ()) (isC (by decide +kernel)) rfl rfl rfl (by decide) (Nat.le_of_ble_eq_true rfl) ?_
  cases h
  exact ev_vret eX9_copyFrom_61 rfl ⟨rfl, rfl⟩
set_option maxRecDepth 100000 in
theorem m_11_restore_k1 (hU : ev_uq ty ev_TR) {C : ev_C} {r : Int} {C' : ev_C} (h : f_11_restore_k1 C = some (r, C')) : ev_Met l D cys ty ck_tags ev_TR kh_11_restore_1 [.inr (.inl 11), .inl 1] C (fun r0 C0 => r0 = some (.inl r) ∧ C0 = C') := by
  unfold f_11_restore_k1 at h
  refine ev_enter (by decide +kernel) (by decide +kernel) (Nat.le_of_ble_eq_true rfl) ?_
  show ev_W l D cys ty ck_tags ev_TR kh_11_restore_1 0 [(0, .inr (.inl 11)), (1, .inl 1)] [] C _
  refine ev_il eX11_restore_0 rfl ?_
  refine ev_z_lt (tgt := 21) eX11_restore_1 (by decide) (fun hc => absurd hc (show ¬ ((1 : Int) < 0) by decide)) (fun _ => ?_)
  refine ev_il eX11_restore_4 rfl ?_
  refine ev_ic eX11_restore_5 (by decide) ?_
  refine ev_c_ge (tgt := 21) eX11_restore_6 (by decide) (fun hc => absurd hc (show ¬ ((2 : Int) ≤ 1) by decide)) (fun _ => ?_)
  refine ev_al eX11_restore_9 rfl ?_
  refine ev_getR lk_f (ci := 11) (j := 11) (cd := 3) eX11_restore_10 (isF (by decide +kernel)) rfl rfl ?_
  refine ev_il eX11_restore_13 rfl ?_
  refine ev_aald (t' := 48) eX11_restore_14 rfl (by decide) (by decide) (by decide) rfl ?_
  refine ev_getI lk_f (ci := 4) (j := 0) (cd := 1) eX11_restore_15 (isF (by decide +kernel)) rfl rfl rfl ?_
  refine ev_z_ne (tgt := 23) eX11_restore_18 (by decide) (fun hc1 => ?_) (fun hc1 => ?_)
  · rw [if_pos (show (C 48 0) ≠ 0 from hc1)] at h
    refine ev_al eX11_restore_23 rfl ?_
    refine ev_getR lk_f (ci := 11) (j := 11) (cd := 3) eX11_restore_24 (isF (by decide +kernel)) rfl rfl ?_
    refine ev_il eX11_restore_27 rfl ?_
    refine ev_aald (t' := 48) eX11_restore_28 rfl (by decide) (by decide) (by decide) rfl ?_
    refine ev_as (L' := [(2, .inr (.inl 48)), (0, .inr (.inl 11)), (1, .inl 1)]) eX11_restore_29 (by decide) rfl ?_
    refine ev_al eX11_restore_30 rfl ?_
    refine ev_getR lk_f (ci := 11) (j := 2) (cd := 3) eX11_restore_31 (isF (by decide +kernel)) rfl rfl ?_
    refine ev_al eX11_restore_34 rfl ?_
    refine ev_getR lk_f (ci := 4) (j := 1) (cd := 3) eX11_restore_35 (isF (by decide +kernel)) rfl rfl ?_
    obtain ⟨C2, hq2, h⟩ := ev_bv_some h
    refine ev_callV (kc := kh_6_copyFrom_pj) (A := [.inr (.inl 52)]) (T := []) (lk_h (11, 132, 0, kh_6_copyFrom_pj) (List.mem_of_getElem? (i := 6) rfl)) eX11_restore_38 (m_6_copyFrom_52 hU hq2) rfl rfl rfl (by decide) (by decide) (Nat.le_of_ble_eq_true rfl) ?_
    rintro _ C2 ⟨rfl, rfl⟩
    show ev_W l D cys ty ck_tags ev_TR kh_11_restore_1 41 [(2, .inr (.inl 48)), (0, .inr (.inl 11)), (1, .inl 1)] [] C2 _
    refine ev_al eX11_restore_41 rfl ?_
    refine ev_getR lk_f (ci := 11) (j := 3) (cd := 3) eX11_restore_42 (isF (by decide +kernel)) rfl rfl ?_
    refine ev_al eX11_restore_45 rfl ?_
    refine ev_getR lk_f (ci := 4) (j := 2) (cd := 3) eX11_restore_46 (isF (by decide +kernel)) rfl rfl ?_
    obtain ⟨C3, hq3, h⟩ := ev_bv_some h
    refine ev_callV (kc := kc_290) (A := [.inr (.inl 2)]) (T := []) (lk_m.1 _ _ 0 [290] (isM (by decide +kernel)) 290 (by decide)) eX11_restore_49 (m_2_copyFrom_2 hU hq3) rfl rfl rfl (by decide) (by decide) (Nat.le_of_ble_eq_true rfl) ?_
    rintro _ C3 ⟨rfl, rfl⟩
    show ev_W l D cys ty ck_tags ev_TR kh_11_restore_1 52 [(2, .inr (.inl 48)), (0, .inr (.inl 11)), (1, .inl 1)] [] C3 _
    refine ev_al eX11_restore_52 rfl ?_
    refine ev_getR lk_f (ci := 11) (j := 6) (cd := 3) eX11_restore_53 (isF (by decide +kernel)) rfl rfl ?_
    refine ev_al eX11_restore_56 rfl ?_
    refine ev_getR lk_f (ci := 4) (j := 3) (cd := 3) eX11_restore_57 (isF (by decide +kernel)) rfl rfl ?_
    obtain ⟨C4, hq4, h⟩ := ev_bv_some h
    refine ev_callV (kc := kc_129) (A := [.inr (.inl 111)]) (T := []) (lk_m.1 _ _ 0 [125, 126, 127, 128, 129] (isM (by decide +kernel)) 129 (by decide)) eX11_restore_60 (m_9_copyFrom_111 hU hq4) rfl rfl rfl (by decide) (by decide) (Nat.le_of_ble_eq_true rfl) ?_
    rintro _ C4 ⟨rfl, rfl⟩
    show ev_W l D cys ty ck_tags ev_TR kh_11_restore_1 63 [(2, .inr (.inl 48)), (0, .inr (.inl 11)), (1, .inl 1)] [] C4 _
    refine ev_al eX11_restore_63 rfl ?_
    refine ev_getR lk_f (ci := 11) (j := 5) (cd := 3) eX11_restore_64 (isF (by decide +kernel)) rfl rfl ?_
    obtain ⟨C5, hq5, h⟩ := ev_bv_some h
    refine ev_callV (kc := kc_89) (A := []) (T := []) (lk_m.1 _ _ 0 [89] (isM (by decide +kernel)) 89 (by decide)) eX11_restore_67 (m_3_forget hU hq5) rfl rfl rfl (by decide) (by decide) (Nat.le_of_ble_eq_true rfl) ?_
    rintro _ C5 ⟨rfl, rfl⟩
    show ev_W l D cys ty ck_tags ev_TR kh_11_restore_1 70 [(2, .inr (.inl 48)), (0, .inr (.inl 11)), (1, .inl 1)] [] C5 _
    refine ev_ic eX11_restore_70 (by decide) ?_
    cases h
    exact ev_zret eX11_restore_71 rfl (by decide) ⟨rfl, rfl⟩
  · rw [if_neg (show ¬ ((C 48 0) ≠ 0) from hc1)] at h
    refine ev_ic eX11_restore_21 (by decide) ?_
    cases h
    exact ev_zret eX11_restore_22 rfl (by decide) ⟨rfl, rfl⟩
end GX
