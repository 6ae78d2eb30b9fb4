/-! BY HAND, 16: isIn exactly; bookLine, does. -/
def lineOK (C : Nat → Nat → Int32) (n : Nat) : Prop := (C 36 (3 * n)).toInt = 0 → (0 ≤ (C 36 (3 * n + 1)).toInt ∧ (C 36 (3 * n + 1)).toInt ≤ 7) ∧ 0 ≤ (C 36 (3 * n + 2)).toInt ∧ (C 36 (3 * n + 2)).toInt ≤ 5
section H34
variable {l : Launch} {D : va_G} {cys : Nat → ClassId} {ty : Nat → Option Nat} {pvv : Nat → Int32} {C : Nat → Nat → Int32} {Ex : va_W → Prop}
theorem dX12_isIn_0 : decode cX12_isIn 0 = .ok (.iload_n 0, 1) := by decide +kernel
theorem dX12_isIn_1 : decode cX12_isIn 1 = .ok (.iload_n 1, 1) := by decide +kernel
theorem dX12_isIn_2 : decode cX12_isIn 2 = .ok (.if_icmp .lt 12, 3) := by decide +kernel
theorem dX12_isIn_5 : decode cX12_isIn 5 = .ok (.iload_n 0, 1) := by decide +kernel
theorem dX12_isIn_6 : decode cX12_isIn 6 = .ok (.iload_n 2, 1) := by decide +kernel
theorem dX12_isIn_7 : decode cX12_isIn 7 = .ok (.if_icmp .gt 7, 3) := by decide +kernel
theorem dX12_isIn_10 : decode cX12_isIn 10 = .ok (.iconst 1, 1) := by decide +kernel
theorem dX12_isIn_11 : decode cX12_isIn 11 = .ok (.goto 4, 3) := by decide +kernel
theorem dX12_isIn_14 : decode cX12_isIn 14 = .ok (.iconst 0, 1) := by decide +kernel
theorem dX12_isIn_15 : decode cX12_isIn 15 = .ok (.ireturn, 1) := by decide +kernel
set_option maxRecDepth 100000 in
theorem hs_isIn {x0 x1 x2 : Int32} (h1 : x1.toInt = 0) (h2 : -2 ≤ x2.toInt) (h3 : x2.toInt ≤ 1) : hr_Met l D cys ty ck_tags ck_pvs0 Ex (ck_tab 192) [.int x0, .int x1, .int x2] pvv (fun r pvv' E' => pvv' = pvv ∧ E' = Ex ∧ ∃ z : Int32, r = some (.int z) ∧ ((z.toInt = 0 ∧ (x0.toInt < x1.toInt ∨ x2.toInt < x0.toInt)) ∨ (z.toInt = 1 ∧ x1.toInt ≤ x0.toInt ∧ x0.toInt ≤ x2.toInt))) := by
  refine hr_enter (by decide +kernel) (by decide +kernel) (by decide +kernel) ⟨hr_aF, hr_aI (by omega) (by omega), hr_aI h2 h3, True.intro⟩ ?_
  intro p e s m below meth c ls B hl hW
  have hx := B.1
  have hb : c.code = cX12_isIn := B.2.1
  have hI := pv_inj
  have hS : va_S (ck_own ty) s.heap s.heap [] := va_S.rf
  have hl : lv_has ls 3 [(0, .int x0), (1, .int x1), (2, .int x2)] := hl
  refine lv_iload_n hx hb dX12_isIn_0 rfl (lv_at hl 0 rfl) ?_
  refine lv_iload_n hx hb dX12_isIn_1 rfl (lv_at hl 1 rfl) ?_
  refine hr_lt (tgt := 14) hx hb dX12_isIn_2 (by decide) (fun h2 => ?_) (fun h2 => ?_)
  · refine hr_ic hx hb dX12_isIn_14 (by decide) (fun z14 hz14 => ?_)
    exact hr_zret B hb rfl ⟨by omega, by omega⟩ ⟨rfl, rfl, z14, rfl, by omega⟩ hW hS dX12_isIn_15
  · refine lv_iload_n hx hb dX12_isIn_5 rfl (lv_at hl 0 rfl) ?_
    refine lv_iload_n hx hb dX12_isIn_6 rfl (lv_at hl 2 rfl) ?_
    refine hr_gt (tgt := 14) hx hb dX12_isIn_7 (by decide) (fun h7 => ?_) (fun h7 => ?_)
    · refine hr_ic hx hb dX12_isIn_14 (by decide) (fun z14 hz14 => ?_)
      exact hr_zret B hb rfl ⟨by omega, by omega⟩ ⟨rfl, rfl, z14, rfl, by omega⟩ hW hS dX12_isIn_15
    · refine hr_ic hx hb dX12_isIn_10 (by decide) (fun z10 hz10 => ?_)
      refine lv_goto (tgt := 15) hx hb dX12_isIn_11 (by decide) ?_
      exact hr_zret B hb rfl ⟨by omega, by omega⟩ ⟨rfl, rfl, z10, rfl, by omega⟩ hW hS dX12_isIn_15
theorem dX12_bookLine_0 : decode cX12_bookLine 0 = .ok (.iconst 3, 1) := by decide +kernel
theorem dX12_bookLine_1 : decode cX12_bookLine 1 = .ok (.aload_n 0, 1) := by decide +kernel
theorem dX12_bookLine_2 : decode cX12_bookLine 2 = .ok (.getfield 398, 3) := by decide +kernel
theorem dX12_bookLine_5 : decode cX12_bookLine 5 = .ok (.imul, 1) := by decide +kernel
theorem dX12_bookLine_6 : decode cX12_bookLine 6 = .ok (.istore_n 1, 1) := by decide +kernel
theorem dX12_bookLine_7 : decode cX12_bookLine 7 = .ok (.aload_n 0, 1) := by decide +kernel
theorem dX12_bookLine_8 : decode cX12_bookLine 8 = .ok (.ldc2_w 130, 3) := by decide +kernel
theorem dX12_bookLine_11 : decode cX12_bookLine 11 = .ok (.invokevirtual 220, 3) := by decide +kernel
theorem dX12_bookLine_14 : decode cX12_bookLine 14 = .ok (.ifCond .ne 13, 3) := by decide +kernel
theorem dX12_bookLine_17 : decode cX12_bookLine 17 = .ok (.aload_n 0, 1) := by decide +kernel
theorem dX12_bookLine_18 : decode cX12_bookLine 18 = .ok (.ldc2_w 132, 3) := by decide +kernel
theorem dX12_bookLine_21 : decode cX12_bookLine 21 = .ok (.invokevirtual 220, 3) := by decide +kernel
theorem dX12_bookLine_24 : decode cX12_bookLine 24 = .ok (.ifCond .eq 45, 3) := by decide +kernel
theorem dX12_bookLine_27 : decode cX12_bookLine 27 = .ok (.aload_n 0, 1) := by decide +kernel
theorem dX12_bookLine_28 : decode cX12_bookLine 28 = .ok (.getfield 398, 3) := by decide +kernel
theorem dX12_bookLine_31 : decode cX12_bookLine 31 = .ok (.bipush 40, 2) := by decide +kernel
theorem dX12_bookLine_33 : decode cX12_bookLine 33 = .ok (.if_icmp .ne 9, 3) := by decide +kernel
theorem dX12_bookLine_36 : decode cX12_bookLine 36 = .ok (.aload_n 0, 1) := by decide +kernel
theorem dX12_bookLine_37 : decode cX12_bookLine 37 = .ok (.iconst 4, 1) := by decide +kernel
theorem dX12_bookLine_38 : decode cX12_bookLine 38 = .ok (.invokevirtual 192, 3) := by decide +kernel
theorem dX12_bookLine_41 : decode cX12_bookLine 41 = .ok (.ireturn, 1) := by decide +kernel
theorem dX12_bookLine_42 : decode cX12_bookLine 42 = .ok (.aload_n 0, 1) := by decide +kernel
theorem dX12_bookLine_43 : decode cX12_bookLine 43 = .ok (.getfield 40, 3) := by decide +kernel
theorem dX12_bookLine_46 : decode cX12_bookLine 46 = .ok (.iload_n 1, 1) := by decide +kernel
theorem dX12_bookLine_47 : decode cX12_bookLine 47 = .ok (.aload_n 0, 1) := by decide +kernel
theorem dX12_bookLine_48 : decode cX12_bookLine 48 = .ok (.ldc2_w 130, 3) := by decide +kernel
theorem dX12_bookLine_51 : decode cX12_bookLine 51 = .ok (.invokevirtual 220, 3) := by decide +kernel
theorem dX12_bookLine_54 : decode cX12_bookLine 54 = .ok (.ifCond .eq 7, 3) := by decide +kernel
theorem dX12_bookLine_57 : decode cX12_bookLine 57 = .ok (.iconst 2, 1) := by decide +kernel
theorem dX12_bookLine_58 : decode cX12_bookLine 58 = .ok (.goto 4, 3) := by decide +kernel
theorem dX12_bookLine_61 : decode cX12_bookLine 61 = .ok (.iconst 3, 1) := by decide +kernel
theorem dX12_bookLine_62 : decode cX12_bookLine 62 = .ok (.iastore, 1) := by decide +kernel
theorem dX12_bookLine_63 : decode cX12_bookLine 63 = .ok (.aload_n 0, 1) := by decide +kernel
theorem dX12_bookLine_64 : decode cX12_bookLine 64 = .ok (.invokevirtual 195, 3) := by decide +kernel
theorem dX12_bookLine_67 : decode cX12_bookLine 67 = .ok (.iconst 1, 1) := by decide +kernel
theorem dX12_bookLine_68 : decode cX12_bookLine 68 = .ok (.ireturn, 1) := by decide +kernel
theorem dX12_bookLine_69 : decode cX12_bookLine 69 = .ok (.aload_n 0, 1) := by decide +kernel
theorem dX12_bookLine_70 : decode cX12_bookLine 70 = .ok (.ldc2_w 128, 3) := by decide +kernel
theorem dX12_bookLine_73 : decode cX12_bookLine 73 = .ok (.invokevirtual 220, 3) := by decide +kernel
theorem dX12_bookLine_76 : decode cX12_bookLine 76 = .ok (.istore_n 2, 1) := by decide +kernel
theorem dX12_bookLine_77 : decode cX12_bookLine 77 = .ok (.iload_n 2, 1) := by decide +kernel
theorem dX12_bookLine_78 : decode cX12_bookLine 78 = .ok (.ifCond .eq 18, 3) := by decide +kernel
theorem dX12_bookLine_81 : decode cX12_bookLine 81 = .ok (.aload_n 0, 1) := by decide +kernel
theorem dX12_bookLine_82 : decode cX12_bookLine 82 = .ok (.getfield 398, 3) := by decide +kernel
theorem dX12_bookLine_85 : decode cX12_bookLine 85 = .ok (.bipush 40, 2) := by decide +kernel
theorem dX12_bookLine_87 : decode cX12_bookLine 87 = .ok (.if_icmp .ne 9, 3) := by decide +kernel
theorem dX12_bookLine_90 : decode cX12_bookLine 90 = .ok (.aload_n 0, 1) := by decide +kernel
theorem dX12_bookLine_91 : decode cX12_bookLine 91 = .ok (.iconst 4, 1) := by decide +kernel
theorem dX12_bookLine_92 : decode cX12_bookLine 92 = .ok (.invokevirtual 192, 3) := by decide +kernel
theorem dX12_bookLine_95 : decode cX12_bookLine 95 = .ok (.ireturn, 1) := by decide +kernel
theorem dX12_bookLine_96 : decode cX12_bookLine 96 = .ok (.iload_n 2, 1) := by decide +kernel
theorem dX12_bookLine_97 : decode cX12_bookLine 97 = .ok (.ifCond .eq 7, 3) := by decide +kernel
theorem dX12_bookLine_100 : decode cX12_bookLine 100 = .ok (.aload_n 0, 1) := by decide +kernel
theorem dX12_bookLine_101 : decode cX12_bookLine 101 = .ok (.invokevirtual 195, 3) := by decide +kernel
theorem dX12_bookLine_104 : decode cX12_bookLine 104 = .ok (.aload_n 0, 1) := by decide +kernel
theorem dX12_bookLine_105 : decode cX12_bookLine 105 = .ok (.bipush 12, 2) := by decide +kernel
theorem dX12_bookLine_107 : decode cX12_bookLine 107 = .ok (.aload_n 0, 1) := by decide +kernel
theorem dX12_bookLine_108 : decode cX12_bookLine 108 = .ok (.getfield 33, 3) := by decide +kernel
theorem dX12_bookLine_111 : decode cX12_bookLine 111 = .ok (.iconst 2, 1) := by decide +kernel
theorem dX12_bookLine_112 : decode cX12_bookLine 112 = .ok (.iaload, 1) := by decide +kernel
theorem dX12_bookLine_113 : decode cX12_bookLine 113 = .ok (.invokevirtual 213, 3) := by decide +kernel
theorem dX12_bookLine_116 : decode cX12_bookLine 116 = .ok (.ifCond .ne 5, 3) := by decide +kernel
theorem dX12_bookLine_119 : decode cX12_bookLine 119 = .ok (.iconst 0, 1) := by decide +kernel
theorem dX12_bookLine_120 : decode cX12_bookLine 120 = .ok (.ireturn, 1) := by decide +kernel
theorem dX12_bookLine_121 : decode cX12_bookLine 121 = .ok (.aload_n 0, 1) := by decide +kernel
theorem dX12_bookLine_122 : decode cX12_bookLine 122 = .ok (.getfield 398, 3) := by decide +kernel
theorem dX12_bookLine_125 : decode cX12_bookLine 125 = .ok (.bipush 40, 2) := by decide +kernel
theorem dX12_bookLine_127 : decode cX12_bookLine 127 = .ok (.if_icmp .ne 9, 3) := by decide +kernel
theorem dX12_bookLine_130 : decode cX12_bookLine 130 = .ok (.aload_n 0, 1) := by decide +kernel
theorem dX12_bookLine_131 : decode cX12_bookLine 131 = .ok (.iconst 4, 1) := by decide +kernel
theorem dX12_bookLine_132 : decode cX12_bookLine 132 = .ok (.invokevirtual 192, 3) := by decide +kernel
theorem dX12_bookLine_135 : decode cX12_bookLine 135 = .ok (.ireturn, 1) := by decide +kernel
theorem dX12_bookLine_136 : decode cX12_bookLine 136 = .ok (.aload_n 0, 1) := by decide +kernel
theorem dX12_bookLine_137 : decode cX12_bookLine 137 = .ok (.getfield 40, 3) := by decide +kernel
theorem dX12_bookLine_140 : decode cX12_bookLine 140 = .ok (.iload_n 1, 1) := by decide +kernel
theorem dX12_bookLine_141 : decode cX12_bookLine 141 = .ok (.iload_n 2, 1) := by decide +kernel
theorem dX12_bookLine_142 : decode cX12_bookLine 142 = .ok (.ifCond .eq 7, 3) := by decide +kernel
theorem dX12_bookLine_145 : decode cX12_bookLine 145 = .ok (.iconst 1, 1) := by decide +kernel
theorem dX12_bookLine_146 : decode cX12_bookLine 146 = .ok (.goto 4, 3) := by decide +kernel
theorem dX12_bookLine_149 : decode cX12_bookLine 149 = .ok (.iconst 0, 1) := by decide +kernel
theorem dX12_bookLine_150 : decode cX12_bookLine 150 = .ok (.iastore, 1) := by decide +kernel
theorem dX12_bookLine_151 : decode cX12_bookLine 151 = .ok (.aload_n 0, 1) := by decide +kernel
theorem dX12_bookLine_152 : decode cX12_bookLine 152 = .ok (.getfield 40, 3) := by decide +kernel
theorem dX12_bookLine_155 : decode cX12_bookLine 155 = .ok (.iload_n 1, 1) := by decide +kernel
theorem dX12_bookLine_156 : decode cX12_bookLine 156 = .ok (.iconst 1, 1) := by decide +kernel
theorem dX12_bookLine_157 : decode cX12_bookLine 157 = .ok (.iadd, 1) := by decide +kernel
theorem dX12_bookLine_158 : decode cX12_bookLine 158 = .ok (.aload_n 0, 1) := by decide +kernel
theorem dX12_bookLine_159 : decode cX12_bookLine 159 = .ok (.getfield 202, 3) := by decide +kernel
theorem dX12_bookLine_162 : decode cX12_bookLine 162 = .ok (.iastore, 1) := by decide +kernel
theorem dX12_bookLine_163 : decode cX12_bookLine 163 = .ok (.aload_n 0, 1) := by decide +kernel
theorem dX12_bookLine_164 : decode cX12_bookLine 164 = .ok (.invokevirtual 195, 3) := by decide +kernel
theorem dX12_bookLine_167 : decode cX12_bookLine 167 = .ok (.iload_n 2, 1) := by decide +kernel
theorem dX12_bookLine_168 : decode cX12_bookLine 168 = .ok (.ifCond .ne 23, 3) := by decide +kernel
theorem dX12_bookLine_171 : decode cX12_bookLine 171 = .ok (.aload_n 0, 1) := by decide +kernel
theorem dX12_bookLine_172 : decode cX12_bookLine 172 = .ok (.ldc2_w 126, 3) := by decide +kernel
theorem dX12_bookLine_175 : decode cX12_bookLine 175 = .ok (.invokevirtual 220, 3) := by decide +kernel
theorem dX12_bookLine_178 : decode cX12_bookLine 178 = .ok (.ifCond .ne 9, 3) := by decide +kernel
theorem dX12_bookLine_181 : decode cX12_bookLine 181 = .ok (.aload_n 0, 1) := by decide +kernel
theorem dX12_bookLine_182 : decode cX12_bookLine 182 = .ok (.iconst 1, 1) := by decide +kernel
theorem dX12_bookLine_183 : decode cX12_bookLine 183 = .ok (.invokevirtual 192, 3) := by decide +kernel
theorem dX12_bookLine_186 : decode cX12_bookLine 186 = .ok (.ireturn, 1) := by decide +kernel
theorem dX12_bookLine_187 : decode cX12_bookLine 187 = .ok (.aload_n 0, 1) := by decide +kernel
theorem dX12_bookLine_188 : decode cX12_bookLine 188 = .ok (.invokevirtual 195, 3) := by decide +kernel
theorem dX12_bookLine_191 : decode cX12_bookLine 191 = .ok (.aload_n 0, 1) := by decide +kernel
theorem dX12_bookLine_192 : decode cX12_bookLine 192 = .ok (.iload_n 2, 1) := by decide +kernel
theorem dX12_bookLine_193 : decode cX12_bookLine 193 = .ok (.ifCond .eq 8, 3) := by decide +kernel
theorem dX12_bookLine_196 : decode cX12_bookLine 196 = .ok (.bipush 6, 2) := by decide +kernel
theorem dX12_bookLine_198 : decode cX12_bookLine 198 = .ok (.goto 4, 3) := by decide +kernel
theorem dX12_bookLine_201 : decode cX12_bookLine 201 = .ok (.iconst 0, 1) := by decide +kernel
theorem dX12_bookLine_202 : decode cX12_bookLine 202 = .ok (.aload_n 0, 1) := by decide +kernel
theorem dX12_bookLine_203 : decode cX12_bookLine 203 = .ok (.getfield 33, 3) := by decide +kernel
theorem dX12_bookLine_206 : decode cX12_bookLine 206 = .ok (.iload_n 2, 1) := by decide +kernel
theorem dX12_bookLine_207 : decode cX12_bookLine 207 = .ok (.ifCond .eq 7, 3) := by decide +kernel
theorem dX12_bookLine_210 : decode cX12_bookLine 210 = .ok (.iconst 1, 1) := by decide +kernel
theorem dX12_bookLine_211 : decode cX12_bookLine 211 = .ok (.goto 4, 3) := by decide +kernel
theorem dX12_bookLine_214 : decode cX12_bookLine 214 = .ok (.iconst 0, 1) := by decide +kernel
theorem dX12_bookLine_215 : decode cX12_bookLine 215 = .ok (.iaload, 1) := by decide +kernel
theorem dX12_bookLine_216 : decode cX12_bookLine 216 = .ok (.invokevirtual 213, 3) := by decide +kernel
theorem dX12_bookLine_219 : decode cX12_bookLine 219 = .ok (.ifCond .ne 5, 3) := by decide +kernel
theorem dX12_bookLine_222 : decode cX12_bookLine 222 = .ok (.iconst 0, 1) := by decide +kernel
theorem dX12_bookLine_223 : decode cX12_bookLine 223 = .ok (.ireturn, 1) := by decide +kernel
theorem dX12_bookLine_224 : decode cX12_bookLine 224 = .ok (.aload_n 0, 1) := by decide +kernel
theorem dX12_bookLine_225 : decode cX12_bookLine 225 = .ok (.getfield 40, 3) := by decide +kernel
theorem dX12_bookLine_228 : decode cX12_bookLine 228 = .ok (.iload_n 1, 1) := by decide +kernel
theorem dX12_bookLine_229 : decode cX12_bookLine 229 = .ok (.iconst 2, 1) := by decide +kernel
theorem dX12_bookLine_230 : decode cX12_bookLine 230 = .ok (.iadd, 1) := by decide +kernel
theorem dX12_bookLine_231 : decode cX12_bookLine 231 = .ok (.aload_n 0, 1) := by decide +kernel
theorem dX12_bookLine_232 : decode cX12_bookLine 232 = .ok (.getfield 202, 3) := by decide +kernel
theorem dX12_bookLine_235 : decode cX12_bookLine 235 = .ok (.iastore, 1) := by decide +kernel
theorem dX12_bookLine_236 : decode cX12_bookLine 236 = .ok (.aload_n 0, 1) := by decide +kernel
theorem dX12_bookLine_237 : decode cX12_bookLine 237 = .ok (.invokevirtual 195, 3) := by decide +kernel
theorem dX12_bookLine_240 : decode cX12_bookLine 240 = .ok (.iconst 1, 1) := by decide +kernel
theorem dX12_bookLine_241 : decode cX12_bookLine 241 = .ok (.ireturn, 1) := by decide +kernel
set_option maxRecDepth 100000 in
set_option maxHeartbeats 4000000 in
theorem hs_bookLine (hF : ck_LKf ck_LK) (hC : ck_LKc ck_LK) (hM : ck_LKm ck_tags ck_LK ck_tab) (hMh : ∀ q ∈ ck_hl, ck_mOK ck_tags q.1 q.2.1 q.2.2.1 q.2.2.2) (hU : ck_uq ty ck_pvs0) (hun : ck_un ty) (hH1 : ∀ Ex', ck_ExP ty ck_prot1 Ex' → ∀ j, j < 331 → ck_Holds l D cys ty ck_tags ck_pvs0 Ex' (ck_tab j)) {a0 : Nat} (t0 : ty a0 = some 12) (hp : ck_pvo ty (ck_XE pvv) pPM pvv) (h40 : 0 ≤ (C 12 41).toInt ∧ (C 12 41).toInt ≤ 40) : hr_Met l D cys ty ck_tags ck_pvs0 (tk ty ck_prot1 C) kh_12_bookLine [.ref a0] pvv (fun r pvv' E' => ck_pvo ty (ck_XE pvv') pPM pvv' ∧ (∀ j, j < 32 → j ∉ [13, 14, 24, 31] → pvv' j = pvv j) ∧ ∃ z : Int32, r = some (.int z) ∧ ∃ C' : Nat → Nat → Int32, E' = tk ty ck_prot1 C' ∧ (∀ t j, t ≠ 36 → C' t j = C t j) ∧ (z.toInt = 0 ∨ (z.toInt = 1 ∧ (C 12 41).toInt ≤ 39 ∧ (∀ j, j < 3 * (C 12 41).toInt.toNat → C' 36 j = C 36 j) ∧ lineOK C' (C 12 41).toInt.toNat))) := by
  refine hr_enter (by decide +kernel) (by decide +kernel) (by decide +kernel) ⟨hr_aR t0, True.intro⟩ ?_
  intro p e s m below meth c ls B hl hW
  have hx := B.1
  have hb : c.code = cX12_bookLine := B.2.1
  have hI := pv_inj
  have hS : va_S (ck_own ty) s.heap s.heap [] := va_S.rf
  have hl : lv_has ls 3 [(0, .ref a0)] := hl
  have sm : ∀ j, j < 32 → j ∉ [13, 14, 24, 31] → pvv j = pvv j := fun _ _ _ => rfl
  have l191 : ∀ (n191 : Nat) (wh : Int32) (to : Int32) (pvv1 : Nat → Int32) (C2 : Nat → Nat → Int32) (ls : Array Slot) (H : Heap) (locs : List Loc), (0 : Int) < n191 → (0 ≤ wh.toInt) → (wh.toInt ≤ 1) → (to.toInt = 3 * (C 12 41).toInt) → (∀ j, j < 32 → j ∉ [13, 14, 24, 31] → pvv1 j = pvv j) → ((C 12 41).toInt ≤ 39) → (∀ t j, t ≠ 36 → C2 t j = C t j) → (∀ j, j < 3 * (C 12 41).toInt.toNat → C2 36 j = C 36 j) → (0 ≤ (C2 36 (3 * (C 12 41).toInt.toNat + 1)).toInt ∧ (C2 36 (3 * (C 12 41).toInt.toNat + 1)).toInt ≤ 7) → (ck_pvo ty (ck_XE pvv1) pPM pvv1) → lv_has ls 3 [(2, .int wh), (1, .int to), (0, .ref a0)] → ck_Wo D cys ty ck_tags ck_pvs0 (tk ty ck_prot1 C2) pvv1 H → va_S (ck_own ty) s.heap H locs → W p l e (ck_rm kh_12_bookLine) s m [Value.ref a0].toArray below meth c H locs 0 0 (MQ below (hr_Q D cys ty ck_tags ck_pvs0 (fun r pvv' E' => ck_pvo ty (ck_XE pvv') pPM pvv' ∧ (∀ j, j < 32 → j ∉ [13, 14, 24, 31] → pvv' j = pvv j) ∧ ∃ z : Int32, r = some (.int z) ∧ ∃ C' : Nat → Nat → Int32, E' = tk ty ck_prot1 C' ∧ (∀ t j, t ≠ 36 → C' t j = C t j) ∧ (z.toInt = 0 ∨ (z.toInt = 1 ∧ (C 12 41).toInt ≤ 39 ∧ (∀ j, j < 3 * (C 12 41).toInt.toNat → C' 36 j = C 36 j) ∧ lineOK C' (C 12 41).toInt.toNat)))) [Value.ref a0].toArray s 0 0 (ck_own ty)) (F0 m 191 ls []) := by
    intro n191
    induction n191 with
    | zero => intro wh to pvv1 C2 ls H locs hm191 w1 w2 to1 sm h39 hT hT2 hT3 hp hl hW hS; omega
    | succ n191 ih191 =>
      intro wh to pvv1 C2 ls H locs hm191 w1 w2 to1 sm h39 hT hT2 hT3 hp hl hW hS
      refine lv_aload_n hx hb dX12_bookLine_191 rfl (lv_at hl 2 rfl) ?_
      refine lv_iload_n hx hb dX12_bookLine_192 rfl (lv_at hl 0 rfl) ?_
      refine hr_eq0 (tgt := 201) hx hb dX12_bookLine_193 (by decide) (fun h193 => ?_) (fun h193 => ?_)
      · refine hr_ic hx hb dX12_bookLine_201 (by decide) (fun z201 hz201 => ?_)
        refine lv_aload_n hx hb dX12_bookLine_202 rfl (lv_at hl 2 rfl) ?_
        refine hr_getR B hF hb hW (ci := 12) (j := 6) (cd := 3) t0 rfl (isF (by decide +kernel)) rfl dX12_bookLine_203 (fun az203 tz203 xz203 => ?_)
        refine lv_iload_n hx hb dX12_bookLine_206 rfl (lv_at hl 0 rfl) ?_
        refine hr_eq0 (tgt := 214) hx hb dX12_bookLine_207 (by decide) (fun h207 => ?_) (fun h207 => ?_)
        · refine hr_ic hx hb dX12_bookLine_214 (by decide) (fun z214 hz214 => ?_)
          refine hr_iald B hb hW tz203 rfl (by omega) (by omega) dX12_bookLine_215 (fun z215 iz215 pz215 xz215 => ?_)
          have iz215 := hr_inr iz215 (a := 0) (b := 1) (lo := 0) (hi := 6) (by omega) (by omega) (by decide +kernel)
          have xz215 := tk_xa xz215 (fun _ h => h) (pq := ck_prot1) (C := C2) tz203 ⟨(0, 139), by decide, by dsimp only; omega, by dsimp only; omega⟩; have kz215 := congrArg Int32.toInt xz215
          refine cm_callV (kc := kc_224) B rfl hb hl (hM.1 _ _ 0 [224, 225] (isM (by decide +kernel)) 224 (by decide)) (hH1 _ tk_X1 224 (by decide)) (b := a0) (As := [.int z201, .int z215]) ⟨hr_aR t0, hr_aI (by omega) (by omega), hr_aI (by omega) (by omega), True.intro⟩ hp hW hS rfl (by decide) (by decide) (Nat.le_of_ble_eq_true rfl) dX12_bookLine_216 (fun cs hcs r pvv216 H locs hca hW hS => ?_)
          rcases List.mem_cons.mp hcs with rfl | hcs
          · obtain ⟨hr, hq, hc⟩ := hca
            obtain ⟨z216, rfl, lz216, uz216⟩ := hr_rvI hr
            have hp := hr_std hp hc (by decide +kernel)
            have sm : ∀ j, j < 32 → j ∉ [13, 14, 24, 31] → pvv216 j = pvv j := fun j h1 h2 => (hr_sameX (l := [13, 14, 24, 31]) hc (by decide +kernel) j h1 h2).trans (sm j h1 h2)
            refine hr_ne0 (tgt := 224) hx hb dX12_bookLine_219 (by decide) (fun h219 => ?_) (fun h219 => ?_)
            · omega
            · refine hr_ic hx hb dX12_bookLine_222 (by decide) (fun z222 hz222 => ?_)
              exact hr_zret B hb rfl ⟨by omega, by omega⟩ ⟨hp, sm, z222, rfl, C2, rfl, hT, Or.inl (by omega)⟩ hW hS dX12_bookLine_223
          obtain rfl := List.mem_singleton.mp hcs
          obtain ⟨hr, hq, hc⟩ := hca
          obtain ⟨z216, rfl, lz216, uz216⟩ := hr_rvI hr
          have hp := hr_std hp hc (by decide +kernel)
          have e216r24 := hr_pv hc 24 (lo := 0) (hi := 5) rfl
          have sm : ∀ j, j < 32 → j ∉ [13, 14, 24, 31] → pvv216 j = pvv j := fun j h1 h2 => (hr_sameX (l := [13, 14, 24, 31]) hc (by decide +kernel) j h1 h2).trans (sm j h1 h2)
          refine hr_ne0 (tgt := 224) hx hb dX12_bookLine_219 (by decide) (fun h219 => ?_) (fun h219 => ?_)
          · refine lv_aload_n hx hb dX12_bookLine_224 rfl (lv_at hl 2 rfl) ?_
            refine hr_getR B hF hb hW (ci := 12) (j := 8) (cd := 3) t0 rfl (isF (by decide +kernel)) rfl dX12_bookLine_225 (fun az225 tz225 xz225 => ?_)
            refine lv_iload_n hx hb dX12_bookLine_228 rfl (lv_at hl 1 rfl) ?_
            refine hr_ic hx hb dX12_bookLine_229 (by decide) (fun z229 hz229 => ?_)
            refine hr_add hx hb dX12_bookLine_230 (by omega) (by omega) (fun z230 hz230 => ?_)
            refine lv_aload_n hx hb dX12_bookLine_231 rfl (lv_at hl 2 rfl) ?_
            refine hr_getI B hF hb hW (ci := 12) (j := 18) (cd := 0) t0 rfl (isF (by decide +kernel)) rfl dX12_bookLine_232 (fun z232 lz232 uz232 pz232 xz232 => ?_)
            have pz232 := congrArg Int32.toInt (pz232 24 rfl)
            refine hr_iastN B hb hU hW hS tz225 rfl (by omega) (by omega) ⟨ck_lo _, ck_hi _⟩ (tk_EA tz225 (fun a h => hun 36 (by decide) _ _ tz225 h)) (u := 0) (v := 134) (by omega) (by omega) (by decide) dX12_bookLine_235 (fun H locs hW hS => ?_)
            obtain ⟨C235, c235⟩ : ∃ f, f = tk_upd C2 36 (z230.toInt.toNat) z232 := ⟨_, rfl⟩
            rw [← c235] at hW
            refine lv_aload_n hx hb dX12_bookLine_236 rfl (lv_at hl 2 rfl) ?_
            refine cm_callV (kc := kc_209) B rfl hb hl (hM.1 _ _ 0 [209] (isM (by decide +kernel)) 209 (by decide)) (hH1 _ tk_X1 209 (by decide)) (b := a0) (As := []) ⟨hr_aR t0, True.intro⟩ hp hW hS rfl (by decide) (by decide) (Nat.le_of_ble_eq_true rfl) dX12_bookLine_237 (fun cs hcs r pvv237 H locs hca hW hS => ?_)
            rcases List.mem_cons.mp hcs with rfl | hcs
            · obtain ⟨hr, hq, hc⟩ := hca
              obtain rfl := hr_rv0 hr
              have hp := hr_std hp hc (by decide +kernel)
              have e237w24 := congrArg Int32.toInt (hr_same1 hc (j := 24) (by decide +kernel))
              have sm : ∀ j, j < 32 → j ∉ [13, 14, 24, 31] → pvv237 j = pvv j := fun j h1 h2 => (hr_sameX (l := [13, 14, 24, 31]) hc (by decide +kernel) j h1 h2).trans (sm j h1 h2)
              refine hr_ic hx hb dX12_bookLine_240 (by decide) (fun z240 hz240 => ?_)
              refine hr_zret B hb rfl ⟨by omega, by omega⟩ ⟨hp, sm, z240, rfl, C235, rfl, fun t j h => by rw [c235, tk_unt h]; exact hT t j h, Or.inr ⟨by omega, by omega, fun j hj => by rw [c235, tk_unj (by omega)]; exact hT2 j hj, fun h9 => ⟨?_, ?_⟩⟩⟩ hW hS dX12_bookLine_241
              · rw [c235, tk_unj (by omega)]; exact hT3
              · rw [show 3 * (C 12 41).toInt.toNat + 2 = z230.toInt.toNat by omega, c235, tk_us]; omega
            rcases List.mem_cons.mp hcs with rfl | hcs
            · obtain ⟨hr, hq, hc⟩ := hca
              obtain rfl := hr_rv0 hr
              have hp := hr_std hp hc (by decide +kernel)
              have e237w24 := congrArg Int32.toInt (hr_same1 hc (j := 24) (by decide +kernel))
              have sm : ∀ j, j < 32 → j ∉ [13, 14, 24, 31] → pvv237 j = pvv j := fun j h1 h2 => (hr_sameX (l := [13, 14, 24, 31]) hc (by decide +kernel) j h1 h2).trans (sm j h1 h2)
              refine hr_ic hx hb dX12_bookLine_240 (by decide) (fun z240 hz240 => ?_)
              refine hr_zret B hb rfl ⟨by omega, by omega⟩ ⟨hp, sm, z240, rfl, C235, rfl, fun t j h => by rw [c235, tk_unt h]; exact hT t j h, Or.inr ⟨by omega, by omega, fun j hj => by rw [c235, tk_unj (by omega)]; exact hT2 j hj, fun h9 => ⟨?_, ?_⟩⟩⟩ hW hS dX12_bookLine_241
              · rw [c235, tk_unj (by omega)]; exact hT3
              · rw [show 3 * (C 12 41).toInt.toNat + 2 = z230.toInt.toNat by omega, c235, tk_us]; omega
            rcases List.mem_cons.mp hcs with rfl | hcs
            · obtain ⟨hr, hq, hc⟩ := hca
              obtain rfl := hr_rv0 hr
              have hp := hr_std hp hc (by decide +kernel)
              have e237w24 := congrArg Int32.toInt (hr_same1 hc (j := 24) (by decide +kernel))
              have sm : ∀ j, j < 32 → j ∉ [13, 14, 24, 31] → pvv237 j = pvv j := fun j h1 h2 => (hr_sameX (l := [13, 14, 24, 31]) hc (by decide +kernel) j h1 h2).trans (sm j h1 h2)
              refine hr_ic hx hb dX12_bookLine_240 (by decide) (fun z240 hz240 => ?_)
              refine hr_zret B hb rfl ⟨by omega, by omega⟩ ⟨hp, sm, z240, rfl, C235, rfl, fun t j h => by rw [c235, tk_unt h]; exact hT t j h, Or.inr ⟨by omega, by omega, fun j hj => by rw [c235, tk_unj (by omega)]; exact hT2 j hj, fun h9 => ⟨?_, ?_⟩⟩⟩ hW hS dX12_bookLine_241
              · rw [c235, tk_unj (by omega)]; exact hT3
              · rw [show 3 * (C 12 41).toInt.toNat + 2 = z230.toInt.toNat by omega, c235, tk_us]; omega
            obtain rfl := List.mem_singleton.mp hcs
            obtain ⟨hr, hq, hc⟩ := hca
            obtain rfl := hr_rv0 hr
            have hp := hr_std hp hc (by decide +kernel)
            have e237w24 := congrArg Int32.toInt (hr_same1 hc (j := 24) (by decide +kernel))
            have sm : ∀ j, j < 32 → j ∉ [13, 14, 24, 31] → pvv237 j = pvv j := fun j h1 h2 => (hr_sameX (l := [13, 14, 24, 31]) hc (by decide +kernel) j h1 h2).trans (sm j h1 h2)
            refine hr_ic hx hb dX12_bookLine_240 (by decide) (fun z240 hz240 => ?_)
            refine hr_zret B hb rfl ⟨by omega, by omega⟩ ⟨hp, sm, z240, rfl, C235, rfl, fun t j h => by rw [c235, tk_unt h]; exact hT t j h, Or.inr ⟨by omega, by omega, fun j hj => by rw [c235, tk_unj (by omega)]; exact hT2 j hj, fun h9 => ⟨?_, ?_⟩⟩⟩ hW hS dX12_bookLine_241
            · rw [c235, tk_unj (by omega)]; exact hT3
            · rw [show 3 * (C 12 41).toInt.toNat + 2 = z230.toInt.toNat by omega, c235, tk_us]; omega
          · omega
        · refine hr_ic hx hb dX12_bookLine_210 (by decide) (fun z210 hz210 => ?_)
          refine lv_goto (tgt := 215) hx hb dX12_bookLine_211 (by decide) ?_
          refine hr_iald B hb hW tz203 rfl (by omega) (by omega) dX12_bookLine_215 (fun z215 iz215 pz215 xz215 => ?_)
          have iz215 := hr_inr iz215 (a := 0) (b := 1) (lo := 0) (hi := 6) (by omega) (by omega) (by decide +kernel)
          have xz215 := tk_xa xz215 (fun _ h => h) (pq := ck_prot1) (C := C2) tz203 ⟨(0, 139), by decide, by dsimp only; omega, by dsimp only; omega⟩; have kz215 := congrArg Int32.toInt xz215
          refine cm_callV (kc := kc_224) B rfl hb hl (hM.1 _ _ 0 [224, 225] (isM (by decide +kernel)) 224 (by decide)) (hH1 _ tk_X1 224 (by decide)) (b := a0) (As := [.int z201, .int z215]) ⟨hr_aR t0, hr_aI (by omega) (by omega), hr_aI (by omega) (by omega), True.intro⟩ hp hW hS rfl (by decide) (by decide) (Nat.le_of_ble_eq_true rfl) dX12_bookLine_216 (fun cs hcs r pvv216 H locs hca hW hS => ?_)
          rcases List.mem_cons.mp hcs with rfl | hcs
          · obtain ⟨hr, hq, hc⟩ := hca
            obtain ⟨z216, rfl, lz216, uz216⟩ := hr_rvI hr
            have hp := hr_std hp hc (by decide +kernel)
            have sm : ∀ j, j < 32 → j ∉ [13, 14, 24, 31] → pvv216 j = pvv j := fun j h1 h2 => (hr_sameX (l := [13, 14, 24, 31]) hc (by decide +kernel) j h1 h2).trans (sm j h1 h2)
            refine hr_ne0 (tgt := 224) hx hb dX12_bookLine_219 (by decide) (fun h219 => ?_) (fun h219 => ?_)
            · omega
            · refine hr_ic hx hb dX12_bookLine_222 (by decide) (fun z222 hz222 => ?_)
              exact hr_zret B hb rfl ⟨by omega, by omega⟩ ⟨hp, sm, z222, rfl, C2, rfl, hT, Or.inl (by omega)⟩ hW hS dX12_bookLine_223
          obtain rfl := List.mem_singleton.mp hcs
          obtain ⟨hr, hq, hc⟩ := hca
          obtain ⟨z216, rfl, lz216, uz216⟩ := hr_rvI hr
          have hp := hr_std hp hc (by decide +kernel)
          have e216r24 := hr_pv hc 24 (lo := 0) (hi := 5) rfl
          have sm : ∀ j, j < 32 → j ∉ [13, 14, 24, 31] → pvv216 j = pvv j := fun j h1 h2 => (hr_sameX (l := [13, 14, 24, 31]) hc (by decide +kernel) j h1 h2).trans (sm j h1 h2)
          refine hr_ne0 (tgt := 224) hx hb dX12_bookLine_219 (by decide) (fun h219 => ?_) (fun h219 => ?_)
          · refine lv_aload_n hx hb dX12_bookLine_224 rfl (lv_at hl 2 rfl) ?_
            refine hr_getR B hF hb hW (ci := 12) (j := 8) (cd := 3) t0 rfl (isF (by decide +kernel)) rfl dX12_bookLine_225 (fun az225 tz225 xz225 => ?_)
            refine lv_iload_n hx hb dX12_bookLine_228 rfl (lv_at hl 1 rfl) ?_
            refine hr_ic hx hb dX12_bookLine_229 (by decide) (fun z229 hz229 => ?_)
            refine hr_add hx hb dX12_bookLine_230 (by omega) (by omega) (fun z230 hz230 => ?_)
            refine lv_aload_n hx hb dX12_bookLine_231 rfl (lv_at hl 2 rfl) ?_
            refine hr_getI B hF hb hW (ci := 12) (j := 18) (cd := 0) t0 rfl (isF (by decide +kernel)) rfl dX12_bookLine_232 (fun z232 lz232 uz232 pz232 xz232 => ?_)
            have pz232 := congrArg Int32.toInt (pz232 24 rfl)
            refine hr_iastN B hb hU hW hS tz225 rfl (by omega) (by omega) ⟨ck_lo _, ck_hi _⟩ (tk_EA tz225 (fun a h => hun 36 (by decide) _ _ tz225 h)) (u := 0) (v := 134) (by omega) (by omega) (by decide) dX12_bookLine_235 (fun H locs hW hS => ?_)
            obtain ⟨C235, c235⟩ : ∃ f, f = tk_upd C2 36 (z230.toInt.toNat) z232 := ⟨_, rfl⟩
            rw [← c235] at hW
            refine lv_aload_n hx hb dX12_bookLine_236 rfl (lv_at hl 2 rfl) ?_
            refine cm_callV (kc := kc_209) B rfl hb hl (hM.1 _ _ 0 [209] (isM (by decide +kernel)) 209 (by decide)) (hH1 _ tk_X1 209 (by decide)) (b := a0) (As := []) ⟨hr_aR t0, True.intro⟩ hp hW hS rfl (by decide) (by decide) (Nat.le_of_ble_eq_true rfl) dX12_bookLine_237 (fun cs hcs r pvv237 H locs hca hW hS => ?_)
            rcases List.mem_cons.mp hcs with rfl | hcs
            · obtain ⟨hr, hq, hc⟩ := hca
              obtain rfl := hr_rv0 hr
              have hp := hr_std hp hc (by decide +kernel)
              have e237w24 := congrArg Int32.toInt (hr_same1 hc (j := 24) (by decide +kernel))
              have sm : ∀ j, j < 32 → j ∉ [13, 14, 24, 31] → pvv237 j = pvv j := fun j h1 h2 => (hr_sameX (l := [13, 14, 24, 31]) hc (by decide +kernel) j h1 h2).trans (sm j h1 h2)
              refine hr_ic hx hb dX12_bookLine_240 (by decide) (fun z240 hz240 => ?_)
              refine hr_zret B hb rfl ⟨by omega, by omega⟩ ⟨hp, sm, z240, rfl, C235, rfl, fun t j h => by rw [c235, tk_unt h]; exact hT t j h, Or.inr ⟨by omega, by omega, fun j hj => by rw [c235, tk_unj (by omega)]; exact hT2 j hj, fun h9 => ⟨?_, ?_⟩⟩⟩ hW hS dX12_bookLine_241
              · rw [c235, tk_unj (by omega)]; exact hT3
              · rw [show 3 * (C 12 41).toInt.toNat + 2 = z230.toInt.toNat by omega, c235, tk_us]; omega
            rcases List.mem_cons.mp hcs with rfl | hcs
            · obtain ⟨hr, hq, hc⟩ := hca
              obtain rfl := hr_rv0 hr
              have hp := hr_std hp hc (by decide +kernel)
              have e237w24 := congrArg Int32.toInt (hr_same1 hc (j := 24) (by decide +kernel))
              have sm : ∀ j, j < 32 → j ∉ [13, 14, 24, 31] → pvv237 j = pvv j := fun j h1 h2 => (hr_sameX (l := [13, 14, 24, 31]) hc (by decide +kernel) j h1 h2).trans (sm j h1 h2)
              refine hr_ic hx hb dX12_bookLine_240 (by decide) (fun z240 hz240 => ?_)
              refine hr_zret B hb rfl ⟨by omega, by omega⟩ ⟨hp, sm, z240, rfl, C235, rfl, fun t j h => by rw [c235, tk_unt h]; exact hT t j h, Or.inr ⟨by omega, by omega, fun j hj => by rw [c235, tk_unj (by omega)]; exact hT2 j hj, fun h9 => ⟨?_, ?_⟩⟩⟩ hW hS dX12_bookLine_241
              · rw [c235, tk_unj (by omega)]; exact hT3
              · rw [show 3 * (C 12 41).toInt.toNat + 2 = z230.toInt.toNat by omega, c235, tk_us]; omega
            rcases List.mem_cons.mp hcs with rfl | hcs
            · obtain ⟨hr, hq, hc⟩ := hca
              obtain rfl := hr_rv0 hr
              have hp := hr_std hp hc (by decide +kernel)
              have e237w24 := congrArg Int32.toInt (hr_same1 hc (j := 24) (by decide +kernel))
              have sm : ∀ j, j < 32 → j ∉ [13, 14, 24, 31] → pvv237 j = pvv j := fun j h1 h2 => (hr_sameX (l := [13, 14, 24, 31]) hc (by decide +kernel) j h1 h2).trans (sm j h1 h2)
              refine hr_ic hx hb dX12_bookLine_240 (by decide) (fun z240 hz240 => ?_)
              refine hr_zret B hb rfl ⟨by omega, by omega⟩ ⟨hp, sm, z240, rfl, C235, rfl, fun t j h => by rw [c235, tk_unt h]; exact hT t j h, Or.inr ⟨by omega, by omega, fun j hj => by rw [c235, tk_unj (by omega)]; exact hT2 j hj, fun h9 => ⟨?_, ?_⟩⟩⟩ hW hS dX12_bookLine_241
              · rw [c235, tk_unj (by omega)]; exact hT3
              · rw [show 3 * (C 12 41).toInt.toNat + 2 = z230.toInt.toNat by omega, c235, tk_us]; omega
            obtain rfl := List.mem_singleton.mp hcs
            obtain ⟨hr, hq, hc⟩ := hca
            obtain rfl := hr_rv0 hr
            have hp := hr_std hp hc (by decide +kernel)
            have e237w24 := congrArg Int32.toInt (hr_same1 hc (j := 24) (by decide +kernel))
            have sm : ∀ j, j < 32 → j ∉ [13, 14, 24, 31] → pvv237 j = pvv j := fun j h1 h2 => (hr_sameX (l := [13, 14, 24, 31]) hc (by decide +kernel) j h1 h2).trans (sm j h1 h2)
            refine hr_ic hx hb dX12_bookLine_240 (by decide) (fun z240 hz240 => ?_)
            refine hr_zret B hb rfl ⟨by omega, by omega⟩ ⟨hp, sm, z240, rfl, C235, rfl, fun t j h => by rw [c235, tk_unt h]; exact hT t j h, Or.inr ⟨by omega, by omega, fun j hj => by rw [c235, tk_unj (by omega)]; exact hT2 j hj, fun h9 => ⟨?_, ?_⟩⟩⟩ hW hS dX12_bookLine_241
            · rw [c235, tk_unj (by omega)]; exact hT3
            · rw [show 3 * (C 12 41).toInt.toNat + 2 = z230.toInt.toNat by omega, c235, tk_us]; omega
          · omega
      · refine hr_bp hx hb dX12_bookLine_196 (by decide) (by decide) (fun z196 hz196 => ?_)
        refine lv_goto (tgt := 202) hx hb dX12_bookLine_198 (by decide) ?_
        refine lv_aload_n hx hb dX12_bookLine_202 rfl (lv_at hl 2 rfl) ?_
        refine hr_getR B hF hb hW (ci := 12) (j := 6) (cd := 3) t0 rfl (isF (by decide +kernel)) rfl dX12_bookLine_203 (fun az203 tz203 xz203 => ?_)
        refine lv_iload_n hx hb dX12_bookLine_206 rfl (lv_at hl 0 rfl) ?_
        refine hr_eq0 (tgt := 214) hx hb dX12_bookLine_207 (by decide) (fun h207 => ?_) (fun h207 => ?_)
        · refine hr_ic hx hb dX12_bookLine_214 (by decide) (fun z214 hz214 => ?_)
          refine hr_iald B hb hW tz203 rfl (by omega) (by omega) dX12_bookLine_215 (fun z215 iz215 pz215 xz215 => ?_)
          have iz215 := hr_inr iz215 (a := 0) (b := 1) (lo := 0) (hi := 6) (by omega) (by omega) (by decide +kernel)
          have xz215 := tk_xa xz215 (fun _ h => h) (pq := ck_prot1) (C := C2) tz203 ⟨(0, 139), by decide, by dsimp only; omega, by dsimp only; omega⟩; have kz215 := congrArg Int32.toInt xz215
          refine cm_callV (kc := kc_224) B rfl hb hl (hM.1 _ _ 0 [224, 225] (isM (by decide +kernel)) 224 (by decide)) (hH1 _ tk_X1 224 (by decide)) (b := a0) (As := [.int z196, .int z215]) ⟨hr_aR t0, hr_aI (by omega) (by omega), hr_aI (by omega) (by omega), True.intro⟩ hp hW hS rfl (by decide) (by decide) (Nat.le_of_ble_eq_true rfl) dX12_bookLine_216 (fun cs hcs r pvv216 H locs hca hW hS => ?_)
          rcases List.mem_cons.mp hcs with rfl | hcs
          · obtain ⟨hr, hq, hc⟩ := hca
            obtain ⟨z216, rfl, lz216, uz216⟩ := hr_rvI hr
            have hp := hr_std hp hc (by decide +kernel)
            have sm : ∀ j, j < 32 → j ∉ [13, 14, 24, 31] → pvv216 j = pvv j := fun j h1 h2 => (hr_sameX (l := [13, 14, 24, 31]) hc (by decide +kernel) j h1 h2).trans (sm j h1 h2)
            refine hr_ne0 (tgt := 224) hx hb dX12_bookLine_219 (by decide) (fun h219 => ?_) (fun h219 => ?_)
            · omega
            · refine hr_ic hx hb dX12_bookLine_222 (by decide) (fun z222 hz222 => ?_)
              exact hr_zret B hb rfl ⟨by omega, by omega⟩ ⟨hp, sm, z222, rfl, C2, rfl, hT, Or.inl (by omega)⟩ hW hS dX12_bookLine_223
          obtain rfl := List.mem_singleton.mp hcs
          obtain ⟨hr, hq, hc⟩ := hca
          obtain ⟨z216, rfl, lz216, uz216⟩ := hr_rvI hr
          have hp := hr_std hp hc (by decide +kernel)
          have e216r24 := hr_pv hc 24 (lo := 0) (hi := 5) rfl
          have sm : ∀ j, j < 32 → j ∉ [13, 14, 24, 31] → pvv216 j = pvv j := fun j h1 h2 => (hr_sameX (l := [13, 14, 24, 31]) hc (by decide +kernel) j h1 h2).trans (sm j h1 h2)
          refine hr_ne0 (tgt := 224) hx hb dX12_bookLine_219 (by decide) (fun h219 => ?_) (fun h219 => ?_)
          · refine lv_aload_n hx hb dX12_bookLine_224 rfl (lv_at hl 2 rfl) ?_
            refine hr_getR B hF hb hW (ci := 12) (j := 8) (cd := 3) t0 rfl (isF (by decide +kernel)) rfl dX12_bookLine_225 (fun az225 tz225 xz225 => ?_)
            refine lv_iload_n hx hb dX12_bookLine_228 rfl (lv_at hl 1 rfl) ?_
            refine hr_ic hx hb dX12_bookLine_229 (by decide) (fun z229 hz229 => ?_)
            refine hr_add hx hb dX12_bookLine_230 (by omega) (by omega) (fun z230 hz230 => ?_)
            refine lv_aload_n hx hb dX12_bookLine_231 rfl (lv_at hl 2 rfl) ?_
            refine hr_getI B hF hb hW (ci := 12) (j := 18) (cd := 0) t0 rfl (isF (by decide +kernel)) rfl dX12_bookLine_232 (fun z232 lz232 uz232 pz232 xz232 => ?_)
            have pz232 := congrArg Int32.toInt (pz232 24 rfl)
            refine hr_iastN B hb hU hW hS tz225 rfl (by omega) (by omega) ⟨ck_lo _, ck_hi _⟩ (tk_EA tz225 (fun a h => hun 36 (by decide) _ _ tz225 h)) (u := 0) (v := 134) (by omega) (by omega) (by decide) dX12_bookLine_235 (fun H locs hW hS => ?_)
            obtain ⟨C235, c235⟩ : ∃ f, f = tk_upd C2 36 (z230.toInt.toNat) z232 := ⟨_, rfl⟩
            rw [← c235] at hW
            refine lv_aload_n hx hb dX12_bookLine_236 rfl (lv_at hl 2 rfl) ?_
            refine cm_callV (kc := kc_209) B rfl hb hl (hM.1 _ _ 0 [209] (isM (by decide +kernel)) 209 (by decide)) (hH1 _ tk_X1 209 (by decide)) (b := a0) (As := []) ⟨hr_aR t0, True.intro⟩ hp hW hS rfl (by decide) (by decide) (Nat.le_of_ble_eq_true rfl) dX12_bookLine_237 (fun cs hcs r pvv237 H locs hca hW hS => ?_)
            rcases List.mem_cons.mp hcs with rfl | hcs
            · obtain ⟨hr, hq, hc⟩ := hca
              obtain rfl := hr_rv0 hr
              have hp := hr_std hp hc (by decide +kernel)
              have e237w24 := congrArg Int32.toInt (hr_same1 hc (j := 24) (by decide +kernel))
              have sm : ∀ j, j < 32 → j ∉ [13, 14, 24, 31] → pvv237 j = pvv j := fun j h1 h2 => (hr_sameX (l := [13, 14, 24, 31]) hc (by decide +kernel) j h1 h2).trans (sm j h1 h2)
              refine hr_ic hx hb dX12_bookLine_240 (by decide) (fun z240 hz240 => ?_)
              refine hr_zret B hb rfl ⟨by omega, by omega⟩ ⟨hp, sm, z240, rfl, C235, rfl, fun t j h => by rw [c235, tk_unt h]; exact hT t j h, Or.inr ⟨by omega, by omega, fun j hj => by rw [c235, tk_unj (by omega)]; exact hT2 j hj, fun h9 => ⟨?_, ?_⟩⟩⟩ hW hS dX12_bookLine_241
              · rw [c235, tk_unj (by omega)]; exact hT3
              · rw [show 3 * (C 12 41).toInt.toNat + 2 = z230.toInt.toNat by omega, c235, tk_us]; omega
            rcases List.mem_cons.mp hcs with rfl | hcs
            · obtain ⟨hr, hq, hc⟩ := hca
              obtain rfl := hr_rv0 hr
              have hp := hr_std hp hc (by decide +kernel)
              have e237w24 := congrArg Int32.toInt (hr_same1 hc (j := 24) (by decide +kernel))
              have sm : ∀ j, j < 32 → j ∉ [13, 14, 24, 31] → pvv237 j = pvv j := fun j h1 h2 => (hr_sameX (l := [13, 14, 24, 31]) hc (by decide +kernel) j h1 h2).trans (sm j h1 h2)
              refine hr_ic hx hb dX12_bookLine_240 (by decide) (fun z240 hz240 => ?_)
              refine hr_zret B hb rfl ⟨by omega, by omega⟩ ⟨hp, sm, z240, rfl, C235, rfl, fun t j h => by rw [c235, tk_unt h]; exact hT t j h, Or.inr ⟨by omega, by omega, fun j hj => by rw [c235, tk_unj (by omega)]; exact hT2 j hj, fun h9 => ⟨?_, ?_⟩⟩⟩ hW hS dX12_bookLine_241
              · rw [c235, tk_unj (by omega)]; exact hT3
              · rw [show 3 * (C 12 41).toInt.toNat + 2 = z230.toInt.toNat by omega, c235, tk_us]; omega
            rcases List.mem_cons.mp hcs with rfl | hcs
            · obtain ⟨hr, hq, hc⟩ := hca
              obtain rfl := hr_rv0 hr
              have hp := hr_std hp hc (by decide +kernel)
              have e237w24 := congrArg Int32.toInt (hr_same1 hc (j := 24) (by decide +kernel))
              have sm : ∀ j, j < 32 → j ∉ [13, 14, 24, 31] → pvv237 j = pvv j := fun j h1 h2 => (hr_sameX (l := [13, 14, 24, 31]) hc (by decide +kernel) j h1 h2).trans (sm j h1 h2)
              refine hr_ic hx hb dX12_bookLine_240 (by decide) (fun z240 hz240 => ?_)
              refine hr_zret B hb rfl ⟨by omega, by omega⟩ ⟨hp, sm, z240, rfl, C235, rfl, fun t j h => by rw [c235, tk_unt h]; exact hT t j h, Or.inr ⟨by omega, by omega, fun j hj => by rw [c235, tk_unj (by omega)]; exact hT2 j hj, fun h9 => ⟨?_, ?_⟩⟩⟩ hW hS dX12_bookLine_241
              · rw [c235, tk_unj (by omega)]; exact hT3
              · rw [show 3 * (C 12 41).toInt.toNat + 2 = z230.toInt.toNat by omega, c235, tk_us]; omega
            obtain rfl := List.mem_singleton.mp hcs
            obtain ⟨hr, hq, hc⟩ := hca
            obtain rfl := hr_rv0 hr
            have hp := hr_std hp hc (by decide +kernel)
            have e237w24 := congrArg Int32.toInt (hr_same1 hc (j := 24) (by decide +kernel))
            have sm : ∀ j, j < 32 → j ∉ [13, 14, 24, 31] → pvv237 j = pvv j := fun j h1 h2 => (hr_sameX (l := [13, 14, 24, 31]) hc (by decide +kernel) j h1 h2).trans (sm j h1 h2)
            refine hr_ic hx hb dX12_bookLine_240 (by decide) (fun z240 hz240 => ?_)
            refine hr_zret B hb rfl ⟨by omega, by omega⟩ ⟨hp, sm, z240, rfl, C235, rfl, fun t j h => by rw [c235, tk_unt h]; exact hT t j h, Or.inr ⟨by omega, by omega, fun j hj => by rw [c235, tk_unj (by omega)]; exact hT2 j hj, fun h9 => ⟨?_, ?_⟩⟩⟩ hW hS dX12_bookLine_241
            · rw [c235, tk_unj (by omega)]; exact hT3
            · rw [show 3 * (C 12 41).toInt.toNat + 2 = z230.toInt.toNat by omega, c235, tk_us]; omega
          · omega
        · refine hr_ic hx hb dX12_bookLine_210 (by decide) (fun z210 hz210 => ?_)
          refine lv_goto (tgt := 215) hx hb dX12_bookLine_211 (by decide) ?_
          refine hr_iald B hb hW tz203 rfl (by omega) (by omega) dX12_bookLine_215 (fun z215 iz215 pz215 xz215 => ?_)
          have iz215 := hr_inr iz215 (a := 0) (b := 1) (lo := 0) (hi := 6) (by omega) (by omega) (by decide +kernel)
          have xz215 := tk_xa xz215 (fun _ h => h) (pq := ck_prot1) (C := C2) tz203 ⟨(0, 139), by decide, by dsimp only; omega, by dsimp only; omega⟩; have kz215 := congrArg Int32.toInt xz215
          refine cm_callV (kc := kc_224) B rfl hb hl (hM.1 _ _ 0 [224, 225] (isM (by decide +kernel)) 224 (by decide)) (hH1 _ tk_X1 224 (by decide)) (b := a0) (As := [.int z196, .int z215]) ⟨hr_aR t0, hr_aI (by omega) (by omega), hr_aI (by omega) (by omega), True.intro⟩ hp hW hS rfl (by decide) (by decide) (Nat.le_of_ble_eq_true rfl) dX12_bookLine_216 (fun cs hcs r pvv216 H locs hca hW hS => ?_)
          rcases List.mem_cons.mp hcs with rfl | hcs
          · obtain ⟨hr, hq, hc⟩ := hca
            obtain ⟨z216, rfl, lz216, uz216⟩ := hr_rvI hr
            have hp := hr_std hp hc (by decide +kernel)
            have sm : ∀ j, j < 32 → j ∉ [13, 14, 24, 31] → pvv216 j = pvv j := fun j h1 h2 => (hr_sameX (l := [13, 14, 24, 31]) hc (by decide +kernel) j h1 h2).trans (sm j h1 h2)
            refine hr_ne0 (tgt := 224) hx hb dX12_bookLine_219 (by decide) (fun h219 => ?_) (fun h219 => ?_)
            · omega
            · refine hr_ic hx hb dX12_bookLine_222 (by decide) (fun z222 hz222 => ?_)
              exact hr_zret B hb rfl ⟨by omega, by omega⟩ ⟨hp, sm, z222, rfl, C2, rfl, hT, Or.inl (by omega)⟩ hW hS dX12_bookLine_223
          obtain rfl := List.mem_singleton.mp hcs
          obtain ⟨hr, hq, hc⟩ := hca
          obtain ⟨z216, rfl, lz216, uz216⟩ := hr_rvI hr
          have hp := hr_std hp hc (by decide +kernel)
          have e216r24 := hr_pv hc 24 (lo := 0) (hi := 5) rfl
          have sm : ∀ j, j < 32 → j ∉ [13, 14, 24, 31] → pvv216 j = pvv j := fun j h1 h2 => (hr_sameX (l := [13, 14, 24, 31]) hc (by decide +kernel) j h1 h2).trans (sm j h1 h2)
          refine hr_ne0 (tgt := 224) hx hb dX12_bookLine_219 (by decide) (fun h219 => ?_) (fun h219 => ?_)
          · refine lv_aload_n hx hb dX12_bookLine_224 rfl (lv_at hl 2 rfl) ?_
            refine hr_getR B hF hb hW (ci := 12) (j := 8) (cd := 3) t0 rfl (isF (by decide +kernel)) rfl dX12_bookLine_225 (fun az225 tz225 xz225 => ?_)
            refine lv_iload_n hx hb dX12_bookLine_228 rfl (lv_at hl 1 rfl) ?_
            refine hr_ic hx hb dX12_bookLine_229 (by decide) (fun z229 hz229 => ?_)
            refine hr_add hx hb dX12_bookLine_230 (by omega) (by omega) (fun z230 hz230 => ?_)
            refine lv_aload_n hx hb dX12_bookLine_231 rfl (lv_at hl 2 rfl) ?_
            refine hr_getI B hF hb hW (ci := 12) (j := 18) (cd := 0) t0 rfl (isF (by decide +kernel)) rfl dX12_bookLine_232 (fun z232 lz232 uz232 pz232 xz232 => ?_)
            have pz232 := congrArg Int32.toInt (pz232 24 rfl)
            refine hr_iastN B hb hU hW hS tz225 rfl (by omega) (by omega) ⟨ck_lo _, ck_hi _⟩ (tk_EA tz225 (fun a h => hun 36 (by decide) _ _ tz225 h)) (u := 0) (v := 134) (by omega) (by omega) (by decide) dX12_bookLine_235 (fun H locs hW hS => ?_)
            obtain ⟨C235, c235⟩ : ∃ f, f = tk_upd C2 36 (z230.toInt.toNat) z232 := ⟨_, rfl⟩
            rw [← c235] at hW
            refine lv_aload_n hx hb dX12_bookLine_236 rfl (lv_at hl 2 rfl) ?_
            refine cm_callV (kc := kc_209) B rfl hb hl (hM.1 _ _ 0 [209] (isM (by decide +kernel)) 209 (by decide)) (hH1 _ tk_X1 209 (by decide)) (b := a0) (As := []) ⟨hr_aR t0, True.intro⟩ hp hW hS rfl (by decide) (by decide) (Nat.le_of_ble_eq_true rfl) dX12_bookLine_237 (fun cs hcs r pvv237 H locs hca hW hS => ?_)
            rcases List.mem_cons.mp hcs with rfl | hcs
            · obtain ⟨hr, hq, hc⟩ := hca
              obtain rfl := hr_rv0 hr
              have hp := hr_std hp hc (by decide +kernel)
              have e237w24 := congrArg Int32.toInt (hr_same1 hc (j := 24) (by decide +kernel))
              have sm : ∀ j, j < 32 → j ∉ [13, 14, 24, 31] → pvv237 j = pvv j := fun j h1 h2 => (hr_sameX (l := [13, 14, 24, 31]) hc (by decide +kernel) j h1 h2).trans (sm j h1 h2)
              refine hr_ic hx hb dX12_bookLine_240 (by decide) (fun z240 hz240 => ?_)
              refine hr_zret B hb rfl ⟨by omega, by omega⟩ ⟨hp, sm, z240, rfl, C235, rfl, fun t j h => by rw [c235, tk_unt h]; exact hT t j h, Or.inr ⟨by omega, by omega, fun j hj => by rw [c235, tk_unj (by omega)]; exact hT2 j hj, fun h9 => ⟨?_, ?_⟩⟩⟩ hW hS dX12_bookLine_241
              · rw [c235, tk_unj (by omega)]; exact hT3
              · rw [show 3 * (C 12 41).toInt.toNat + 2 = z230.toInt.toNat by omega, c235, tk_us]; omega
            rcases List.mem_cons.mp hcs with rfl | hcs
            · obtain ⟨hr, hq, hc⟩ := hca
              obtain rfl := hr_rv0 hr
              have hp := hr_std hp hc (by decide +kernel)
              have e237w24 := congrArg Int32.toInt (hr_same1 hc (j := 24) (by decide +kernel))
              have sm : ∀ j, j < 32 → j ∉ [13, 14, 24, 31] → pvv237 j = pvv j := fun j h1 h2 => (hr_sameX (l := [13, 14, 24, 31]) hc (by decide +kernel) j h1 h2).trans (sm j h1 h2)
              refine hr_ic hx hb dX12_bookLine_240 (by decide) (fun z240 hz240 => ?_)
              refine hr_zret B hb rfl ⟨by omega, by omega⟩ ⟨hp, sm, z240, rfl, C235, rfl, fun t j h => by rw [c235, tk_unt h]; exact hT t j h, Or.inr ⟨by omega, by omega, fun j hj => by rw [c235, tk_unj (by omega)]; exact hT2 j hj, fun h9 => ⟨?_, ?_⟩⟩⟩ hW hS dX12_bookLine_241
              · rw [c235, tk_unj (by omega)]; exact hT3
              · rw [show 3 * (C 12 41).toInt.toNat + 2 = z230.toInt.toNat by omega, c235, tk_us]; omega
            rcases List.mem_cons.mp hcs with rfl | hcs
            · obtain ⟨hr, hq, hc⟩ := hca
              obtain rfl := hr_rv0 hr
              have hp := hr_std hp hc (by decide +kernel)
              have e237w24 := congrArg Int32.toInt (hr_same1 hc (j := 24) (by decide +kernel))
              have sm : ∀ j, j < 32 → j ∉ [13, 14, 24, 31] → pvv237 j = pvv j := fun j h1 h2 => (hr_sameX (l := [13, 14, 24, 31]) hc (by decide +kernel) j h1 h2).trans (sm j h1 h2)
              refine hr_ic hx hb dX12_bookLine_240 (by decide) (fun z240 hz240 => ?_)
              refine hr_zret B hb rfl ⟨by omega, by omega⟩ ⟨hp, sm, z240, rfl, C235, rfl, fun t j h => by rw [c235, tk_unt h]; exact hT t j h, Or.inr ⟨by omega, by omega, fun j hj => by rw [c235, tk_unj (by omega)]; exact hT2 j hj, fun h9 => ⟨?_, ?_⟩⟩⟩ hW hS dX12_bookLine_241
              · rw [c235, tk_unj (by omega)]; exact hT3
              · rw [show 3 * (C 12 41).toInt.toNat + 2 = z230.toInt.toNat by omega, c235, tk_us]; omega
            obtain rfl := List.mem_singleton.mp hcs
            obtain ⟨hr, hq, hc⟩ := hca
            obtain rfl := hr_rv0 hr
            have hp := hr_std hp hc (by decide +kernel)
            have e237w24 := congrArg Int32.toInt (hr_same1 hc (j := 24) (by decide +kernel))
            have sm : ∀ j, j < 32 → j ∉ [13, 14, 24, 31] → pvv237 j = pvv j := fun j h1 h2 => (hr_sameX (l := [13, 14, 24, 31]) hc (by decide +kernel) j h1 h2).trans (sm j h1 h2)
            refine hr_ic hx hb dX12_bookLine_240 (by decide) (fun z240 hz240 => ?_)
            refine hr_zret B hb rfl ⟨by omega, by omega⟩ ⟨hp, sm, z240, rfl, C235, rfl, fun t j h => by rw [c235, tk_unt h]; exact hT t j h, Or.inr ⟨by omega, by omega, fun j hj => by rw [c235, tk_unj (by omega)]; exact hT2 j hj, fun h9 => ⟨?_, ?_⟩⟩⟩ hW hS dX12_bookLine_241
            · rw [c235, tk_unj (by omega)]; exact hT3
            · rw [show 3 * (C 12 41).toInt.toNat + 2 = z230.toInt.toNat by omega, c235, tk_us]; omega
          · omega
  have l104 : ∀ (n104 : Nat) (wh : Int32) (to : Int32) (pvv1 : Nat → Int32) (ls : Array Slot) (H : Heap) (locs : List Loc), (0 : Int) < n104 → (0 ≤ wh.toInt) → (wh.toInt ≤ 1) → (to.toInt = 3 * (C 12 41).toInt) → (∀ j, j < 32 → j ∉ [13, 14, 24, 31] → pvv1 j = pvv j) → (ck_pvo ty (ck_XE pvv1) pPM pvv1) → lv_has ls 3 [(2, .int wh), (1, .int to), (0, .ref a0)] → ck_Wo D cys ty ck_tags ck_pvs0 (tk ty ck_prot1 C) pvv1 H → va_S (ck_own ty) s.heap H locs → W p l e (ck_rm kh_12_bookLine) s m [Value.ref a0].toArray below meth c H locs 0 0 (MQ below (hr_Q D cys ty ck_tags ck_pvs0 (fun r pvv' E' => ck_pvo ty (ck_XE pvv') pPM pvv' ∧ (∀ j, j < 32 → j ∉ [13, 14, 24, 31] → pvv' j = pvv j) ∧ ∃ z : Int32, r = some (.int z) ∧ ∃ C' : Nat → Nat → Int32, E' = tk ty ck_prot1 C' ∧ (∀ t j, t ≠ 36 → C' t j = C t j) ∧ (z.toInt = 0 ∨ (z.toInt = 1 ∧ (C 12 41).toInt ≤ 39 ∧ (∀ j, j < 3 * (C 12 41).toInt.toNat → C' 36 j = C 36 j) ∧ lineOK C' (C 12 41).toInt.toNat)))) [Value.ref a0].toArray s 0 0 (ck_own ty)) (F0 m 104 ls []) := by
    intro n104
    induction n104 with
    | zero => intro wh to pvv1 ls H locs hm104 w1 w2 to1 sm hp hl hW hS; omega
    | succ n104 ih104 =>
      intro wh to pvv1 ls H locs hm104 w1 w2 to1 sm hp hl hW hS
      refine lv_aload_n hx hb dX12_bookLine_104 rfl (lv_at hl 2 rfl) ?_
      refine hr_bp hx hb dX12_bookLine_105 (by decide) (by decide) (fun z105 hz105 => ?_)
      refine lv_aload_n hx hb dX12_bookLine_107 rfl (lv_at hl 2 rfl) ?_
      refine hr_getR B hF hb hW (ci := 12) (j := 6) (cd := 3) t0 rfl (isF (by decide +kernel)) rfl dX12_bookLine_108 (fun az108 tz108 xz108 => ?_)
      refine hr_ic hx hb dX12_bookLine_111 (by decide) (fun z111 hz111 => ?_)
      refine hr_iald B hb hW tz108 rfl (by omega) (by omega) dX12_bookLine_112 (fun z112 iz112 pz112 xz112 => ?_)
      have iz112 := hr_inr iz112 (a := 2) (b := 2) (lo := 0) (hi := 8) (by omega) (by omega) (by decide +kernel)
      have xz112 := tk_xa xz112 (fun _ h => h) (pq := ck_prot1) (C := C) tz108 ⟨(0, 139), by decide, by dsimp only; omega, by dsimp only; omega⟩; have kz112 := congrArg Int32.toInt xz112
      refine cm_callV (kc := kc_225) B rfl hb hl (hM.1 _ _ 0 [224, 225] (isM (by decide +kernel)) 225 (by decide)) (hH1 _ tk_X1 225 (by decide)) (b := a0) (As := [.int z105, .int z112]) ⟨hr_aR t0, hr_aI (by omega) (by omega), hr_aI (by omega) (by omega), True.intro⟩ hp hW hS rfl (by decide) (by decide) (Nat.le_of_ble_eq_true rfl) dX12_bookLine_113 (fun cs hcs r pvv113 H locs hca hW hS => ?_)
      rcases List.mem_cons.mp hcs with rfl | hcs
      · obtain ⟨hr, hq, hc⟩ := hca
        obtain ⟨z113, rfl, lz113, uz113⟩ := hr_rvI hr
        have hp := hr_std hp hc (by decide +kernel)
        have sm : ∀ j, j < 32 → j ∉ [13, 14, 24, 31] → pvv113 j = pvv j := fun j h1 h2 => (hr_sameX (l := [13, 14, 24, 31]) hc (by decide +kernel) j h1 h2).trans (sm j h1 h2)
        refine hr_ne0 (tgt := 121) hx hb dX12_bookLine_116 (by decide) (fun h116 => ?_) (fun h116 => ?_)
        · omega
        · refine hr_ic hx hb dX12_bookLine_119 (by decide) (fun z119 hz119 => ?_)
          exact hr_zret B hb rfl ⟨by omega, by omega⟩ ⟨hp, sm, z119, rfl, C, rfl, fun _ _ _ => rfl, Or.inl (by omega)⟩ hW hS dX12_bookLine_120
      obtain rfl := List.mem_singleton.mp hcs
      obtain ⟨hr, hq, hc⟩ := hca
      obtain ⟨z113, rfl, lz113, uz113⟩ := hr_rvI hr
      have hp := hr_std hp hc (by decide +kernel)
      have e113r24 := hr_pv hc 24 (lo := 0) (hi := 7) rfl
      have sm : ∀ j, j < 32 → j ∉ [13, 14, 24, 31] → pvv113 j = pvv j := fun j h1 h2 => (hr_sameX (l := [13, 14, 24, 31]) hc (by decide +kernel) j h1 h2).trans (sm j h1 h2)
      refine hr_ne0 (tgt := 121) hx hb dX12_bookLine_116 (by decide) (fun h116 => ?_) (fun h116 => ?_)
      · refine lv_aload_n hx hb dX12_bookLine_121 rfl (lv_at hl 2 rfl) ?_
        refine hr_getI B hF hb hW (ci := 12) (j := 41) (cd := 0) t0 rfl (isF (by decide +kernel)) rfl dX12_bookLine_122 (fun z122 lz122 uz122 pz122 xz122 => ?_)
        have xz122 := tk_xo xz122 (fun _ h => h) (pq := ck_prot1) (C := C) t0 (by decide); have kz122 := congrArg Int32.toInt xz122
        have e122 : z122.toInt = (C 12 41).toInt := by rw [kz122]
        refine hr_bp hx hb dX12_bookLine_125 (by decide) (by decide) (fun z125 hz125 => ?_)
        refine hr_ne (tgt := 136) hx hb dX12_bookLine_127 (by decide) (fun h127 => ?_) (fun h127 => ?_)
        · refine lv_aload_n hx hb dX12_bookLine_136 rfl (lv_at hl 2 rfl) ?_
          refine hr_getR B hF hb hW (ci := 12) (j := 8) (cd := 3) t0 rfl (isF (by decide +kernel)) rfl dX12_bookLine_137 (fun az137 tz137 xz137 => ?_)
          refine lv_iload_n hx hb dX12_bookLine_140 rfl (lv_at hl 1 rfl) ?_
          refine lv_iload_n hx hb dX12_bookLine_141 rfl (lv_at hl 0 rfl) ?_
          refine hr_eq0 (tgt := 149) hx hb dX12_bookLine_142 (by decide) (fun h142 => ?_) (fun h142 => ?_)
          · refine hr_ic hx hb dX12_bookLine_149 (by decide) (fun z149 hz149 => ?_)
            refine hr_iastN B hb hU hW hS tz137 rfl (by omega) (by omega) ⟨ck_lo _, ck_hi _⟩ (tk_EA tz137 (fun a h => hun 36 (by decide) _ _ tz137 h)) (u := 0) (v := 134) (by omega) (by omega) (by decide) dX12_bookLine_150 (fun H locs hW hS => ?_)
            obtain ⟨C150, c150⟩ : ∃ f, f = tk_upd C 36 (to.toInt.toNat) z149 := ⟨_, rfl⟩
            rw [← c150] at hW
            refine lv_aload_n hx hb dX12_bookLine_151 rfl (lv_at hl 2 rfl) ?_
            refine hr_getR B hF hb hW (ci := 12) (j := 8) (cd := 3) t0 rfl (isF (by decide +kernel)) rfl dX12_bookLine_152 (fun az152 tz152 xz152 => ?_)
            refine lv_iload_n hx hb dX12_bookLine_155 rfl (lv_at hl 1 rfl) ?_
            refine hr_ic hx hb dX12_bookLine_156 (by decide) (fun z156 hz156 => ?_)
            refine hr_add hx hb dX12_bookLine_157 (by omega) (by omega) (fun z157 hz157 => ?_)
            refine lv_aload_n hx hb dX12_bookLine_158 rfl (lv_at hl 2 rfl) ?_
            refine hr_getI B hF hb hW (ci := 12) (j := 18) (cd := 0) t0 rfl (isF (by decide +kernel)) rfl dX12_bookLine_159 (fun z159 lz159 uz159 pz159 xz159 => ?_)
            have pz159 := congrArg Int32.toInt (pz159 24 rfl)
            refine hr_iastN B hb hU hW hS tz152 rfl (by omega) (by omega) ⟨ck_lo _, ck_hi _⟩ (tk_EA tz152 (fun a h => hun 36 (by decide) _ _ tz152 h)) (u := 0) (v := 134) (by omega) (by omega) (by decide) dX12_bookLine_162 (fun H locs hW hS => ?_)
            obtain ⟨C162, c162⟩ : ∃ f, f = tk_upd C150 36 (z157.toInt.toNat) z159 := ⟨_, rfl⟩
            rw [← c162] at hW
            refine lv_aload_n hx hb dX12_bookLine_163 rfl (lv_at hl 2 rfl) ?_
            refine cm_callV (kc := kc_209) B rfl hb hl (hM.1 _ _ 0 [209] (isM (by decide +kernel)) 209 (by decide)) (hH1 _ tk_X1 209 (by decide)) (b := a0) (As := []) ⟨hr_aR t0, True.intro⟩ hp hW hS rfl (by decide) (by decide) (Nat.le_of_ble_eq_true rfl) dX12_bookLine_164 (fun cs hcs r pvv164 H locs hca hW hS => ?_)
            rcases List.mem_cons.mp hcs with rfl | hcs
            · obtain ⟨hr, hq, hc⟩ := hca
              obtain rfl := hr_rv0 hr
              have hp := hr_std hp hc (by decide +kernel)
              have e164w24 := congrArg Int32.toInt (hr_same1 hc (j := 24) (by decide +kernel))
              have sm : ∀ j, j < 32 → j ∉ [13, 14, 24, 31] → pvv164 j = pvv j := fun j h1 h2 => (hr_sameX (l := [13, 14, 24, 31]) hc (by decide +kernel) j h1 h2).trans (sm j h1 h2)
              refine lv_iload_n hx hb dX12_bookLine_167 rfl (lv_at hl 0 rfl) ?_
              refine hr_ne0 (tgt := 191) hx hb dX12_bookLine_168 (by decide) (fun h168 => ?_) (fun h168 => ?_)
              · exact l191 1 wh to pvv164 C162 _ _ _ (by omega) (by omega) (by omega) (by omega) sm (by omega) (fun t j h => by rw [c162, tk_unt h, c150, tk_unt h]) (fun j h => by rw [c162, tk_unj (by omega), c150, tk_unj (by omega)]) (by rw [show 3 * (C 12 41).toInt.toNat + 1 = z157.toInt.toNat by omega, c162, tk_us]; omega) hp hl hW hS
              · have hT : ∀ t j, t ≠ 36 → C162 t j = C t j := fun t j h => by rw [c162, tk_unt h, c150, tk_unt h]
                refine lv_aload_n hx hb dX12_bookLine_171 rfl (lv_at hl 2 rfl) ?_
                refine hr_ldc2 B hC hb (isL (by decide +kernel)) dX12_bookLine_172 (fun z172 => ?_)
                refine cm_callV (kc := kc_211) B rfl hb hl (hM.1 _ _ 0 [211] (isM (by decide +kernel)) 211 (by decide)) (hH1 _ tk_X1 211 (by decide)) (b := a0) (As := [.long z172]) ⟨hr_aR t0, hr_aL, True.intro⟩ hp hW hS rfl (by decide) (by decide) (Nat.le_of_ble_eq_true rfl) dX12_bookLine_175 (fun cs hcs r pvv175 H locs hca hW hS => ?_)
                rcases List.mem_cons.mp hcs with rfl | hcs
                · obtain ⟨hr, hq, hc⟩ := hca
                  obtain ⟨z175, rfl, lz175, uz175⟩ := hr_rvI hr
                  have hW := hr_pvE (hr_sameA hc rfl (by decide +kernel)) hW
                  refine hr_ne0 (tgt := 187) hx hb dX12_bookLine_178 (by decide) (fun h178 => ?_) (fun h178 => ?_)
                  · omega
                  · refine lv_aload_n hx hb dX12_bookLine_181 rfl (lv_at hl 2 rfl) ?_
                    refine hr_ic hx hb dX12_bookLine_182 (by decide) (fun z182 hz182 => ?_)
                    refine cm_callV (kc := kc_205) B rfl hb hl (hM.1 _ _ 0 [205] (isM (by decide +kernel)) 205 (by decide)) (hH1 _ tk_X1 205 (by decide)) (b := a0) (As := [.int z182]) ⟨hr_aR t0, hr_aI (by omega) (by omega), True.intro⟩ hp hW hS rfl (by decide) (by decide) (Nat.le_of_ble_eq_true rfl) dX12_bookLine_183 (fun cs hcs r pvv183 H locs hca hW hS => ?_)
                    obtain rfl := List.mem_singleton.mp hcs
                    obtain ⟨hr, hq, hc⟩ := hca
                    obtain ⟨z183, rfl, lz183, uz183⟩ := hr_rvI hr
                    have hp := hr_std hp hc (by decide +kernel)
                    have e183w24 := congrArg Int32.toInt (hr_same1 hc (j := 24) (by decide +kernel))
                    have sm : ∀ j, j < 32 → j ∉ [13, 14, 24, 31] → pvv183 j = pvv j := fun j h1 h2 => (hr_sameX (l := [13, 14, 24, 31]) hc (by decide +kernel) j h1 h2).trans (sm j h1 h2)
                    exact hr_zret B hb rfl ⟨by omega, by omega⟩ ⟨hp, sm, z183, rfl, C162, rfl, hT, Or.inl (by omega)⟩ hW hS dX12_bookLine_186
                obtain rfl := List.mem_singleton.mp hcs
                obtain ⟨hr, hq, hc⟩ := hca
                obtain ⟨z175, rfl, lz175, uz175⟩ := hr_rvI hr
                have hW := hr_pvE (hr_sameA hc rfl (by decide +kernel)) hW
                refine hr_ne0 (tgt := 187) hx hb dX12_bookLine_178 (by decide) (fun h178 => ?_) (fun h178 => ?_)
                · refine lv_aload_n hx hb dX12_bookLine_187 rfl (lv_at hl 2 rfl) ?_
                  refine cm_callV (kc := kc_209) B rfl hb hl (hM.1 _ _ 0 [209] (isM (by decide +kernel)) 209 (by decide)) (hH1 _ tk_X1 209 (by decide)) (b := a0) (As := []) ⟨hr_aR t0, True.intro⟩ hp hW hS rfl (by decide) (by decide) (Nat.le_of_ble_eq_true rfl) dX12_bookLine_188 (fun cs hcs r pvv188 H locs hca hW hS => ?_)
                  rcases List.mem_cons.mp hcs with rfl | hcs
                  · obtain ⟨hr, hq, hc⟩ := hca
                    obtain rfl := hr_rv0 hr
                    have hp := hr_std hp hc (by decide +kernel)
                    have e188w24 := congrArg Int32.toInt (hr_same1 hc (j := 24) (by decide +kernel))
                    have sm : ∀ j, j < 32 → j ∉ [13, 14, 24, 31] → pvv188 j = pvv j := fun j h1 h2 => (hr_sameX (l := [13, 14, 24, 31]) hc (by decide +kernel) j h1 h2).trans (sm j h1 h2)
                    exact l191 1 wh to pvv188 C162 _ _ _ (by omega) (by omega) (by omega) (by omega) sm (by omega) (fun t j h => by rw [c162, tk_unt h, c150, tk_unt h]) (fun j h => by rw [c162, tk_unj (by omega), c150, tk_unj (by omega)]) (by rw [show 3 * (C 12 41).toInt.toNat + 1 = z157.toInt.toNat by omega, c162, tk_us]; omega) hp hl hW hS
                  rcases List.mem_cons.mp hcs with rfl | hcs
                  · obtain ⟨hr, hq, hc⟩ := hca
                    obtain rfl := hr_rv0 hr
                    have hp := hr_std hp hc (by decide +kernel)
                    have e188w24 := congrArg Int32.toInt (hr_same1 hc (j := 24) (by decide +kernel))
                    have sm : ∀ j, j < 32 → j ∉ [13, 14, 24, 31] → pvv188 j = pvv j := fun j h1 h2 => (hr_sameX (l := [13, 14, 24, 31]) hc (by decide +kernel) j h1 h2).trans (sm j h1 h2)
                    exact l191 1 wh to pvv188 C162 _ _ _ (by omega) (by omega) (by omega) (by omega) sm (by omega) (fun t j h => by rw [c162, tk_unt h, c150, tk_unt h]) (fun j h => by rw [c162, tk_unj (by omega), c150, tk_unj (by omega)]) (by rw [show 3 * (C 12 41).toInt.toNat + 1 = z157.toInt.toNat by omega, c162, tk_us]; omega) hp hl hW hS
                  rcases List.mem_cons.mp hcs with rfl | hcs
                  · obtain ⟨hr, hq, hc⟩ := hca
                    obtain rfl := hr_rv0 hr
                    have hp := hr_std hp hc (by decide +kernel)
                    have e188w24 := congrArg Int32.toInt (hr_same1 hc (j := 24) (by decide +kernel))
                    have sm : ∀ j, j < 32 → j ∉ [13, 14, 24, 31] → pvv188 j = pvv j := fun j h1 h2 => (hr_sameX (l := [13, 14, 24, 31]) hc (by decide +kernel) j h1 h2).trans (sm j h1 h2)
                    exact l191 1 wh to pvv188 C162 _ _ _ (by omega) (by omega) (by omega) (by omega) sm (by omega) (fun t j h => by rw [c162, tk_unt h, c150, tk_unt h]) (fun j h => by rw [c162, tk_unj (by omega), c150, tk_unj (by omega)]) (by rw [show 3 * (C 12 41).toInt.toNat + 1 = z157.toInt.toNat by omega, c162, tk_us]; omega) hp hl hW hS
                  obtain rfl := List.mem_singleton.mp hcs
                  obtain ⟨hr, hq, hc⟩ := hca
                  obtain rfl := hr_rv0 hr
                  have hp := hr_std hp hc (by decide +kernel)
                  have e188w24 := congrArg Int32.toInt (hr_same1 hc (j := 24) (by decide +kernel))
                  have sm : ∀ j, j < 32 → j ∉ [13, 14, 24, 31] → pvv188 j = pvv j := fun j h1 h2 => (hr_sameX (l := [13, 14, 24, 31]) hc (by decide +kernel) j h1 h2).trans (sm j h1 h2)
                  exact l191 1 wh to pvv188 C162 _ _ _ (by omega) (by omega) (by omega) (by omega) sm (by omega) (fun t j h => by rw [c162, tk_unt h, c150, tk_unt h]) (fun j h => by rw [c162, tk_unj (by omega), c150, tk_unj (by omega)]) (by rw [show 3 * (C 12 41).toInt.toNat + 1 = z157.toInt.toNat by omega, c162, tk_us]; omega) hp hl hW hS
                · omega
            rcases List.mem_cons.mp hcs with rfl | hcs
            · obtain ⟨hr, hq, hc⟩ := hca
              obtain rfl := hr_rv0 hr
              have hp := hr_std hp hc (by decide +kernel)
              have e164w24 := congrArg Int32.toInt (hr_same1 hc (j := 24) (by decide +kernel))
              have sm : ∀ j, j < 32 → j ∉ [13, 14, 24, 31] → pvv164 j = pvv j := fun j h1 h2 => (hr_sameX (l := [13, 14, 24, 31]) hc (by decide +kernel) j h1 h2).trans (sm j h1 h2)
              refine lv_iload_n hx hb dX12_bookLine_167 rfl (lv_at hl 0 rfl) ?_
              refine hr_ne0 (tgt := 191) hx hb dX12_bookLine_168 (by decide) (fun h168 => ?_) (fun h168 => ?_)
              · exact l191 1 wh to pvv164 C162 _ _ _ (by omega) (by omega) (by omega) (by omega) sm (by omega) (fun t j h => by rw [c162, tk_unt h, c150, tk_unt h]) (fun j h => by rw [c162, tk_unj (by omega), c150, tk_unj (by omega)]) (by rw [show 3 * (C 12 41).toInt.toNat + 1 = z157.toInt.toNat by omega, c162, tk_us]; omega) hp hl hW hS
              · have hT : ∀ t j, t ≠ 36 → C162 t j = C t j := fun t j h => by rw [c162, tk_unt h, c150, tk_unt h]
                refine lv_aload_n hx hb dX12_bookLine_171 rfl (lv_at hl 2 rfl) ?_
                refine hr_ldc2 B hC hb (isL (by decide +kernel)) dX12_bookLine_172 (fun z172 => ?_)
                refine cm_callV (kc := kc_211) B rfl hb hl (hM.1 _ _ 0 [211] (isM (by decide +kernel)) 211 (by decide)) (hH1 _ tk_X1 211 (by decide)) (b := a0) (As := [.long z172]) ⟨hr_aR t0, hr_aL, True.intro⟩ hp hW hS rfl (by decide) (by decide) (Nat.le_of_ble_eq_true rfl) dX12_bookLine_175 (fun cs hcs r pvv175 H locs hca hW hS => ?_)
                rcases List.mem_cons.mp hcs with rfl | hcs
                · obtain ⟨hr, hq, hc⟩ := hca
                  obtain ⟨z175, rfl, lz175, uz175⟩ := hr_rvI hr
                  have hW := hr_pvE (hr_sameA hc rfl (by decide +kernel)) hW
                  refine hr_ne0 (tgt := 187) hx hb dX12_bookLine_178 (by decide) (fun h178 => ?_) (fun h178 => ?_)
                  · omega
                  · refine lv_aload_n hx hb dX12_bookLine_181 rfl (lv_at hl 2 rfl) ?_
                    refine hr_ic hx hb dX12_bookLine_182 (by decide) (fun z182 hz182 => ?_)
                    refine cm_callV (kc := kc_205) B rfl hb hl (hM.1 _ _ 0 [205] (isM (by decide +kernel)) 205 (by decide)) (hH1 _ tk_X1 205 (by decide)) (b := a0) (As := [.int z182]) ⟨hr_aR t0, hr_aI (by omega) (by omega), True.intro⟩ hp hW hS rfl (by decide) (by decide) (Nat.le_of_ble_eq_true rfl) dX12_bookLine_183 (fun cs hcs r pvv183 H locs hca hW hS => ?_)
                    obtain rfl := List.mem_singleton.mp hcs
                    obtain ⟨hr, hq, hc⟩ := hca
                    obtain ⟨z183, rfl, lz183, uz183⟩ := hr_rvI hr
                    have hp := hr_std hp hc (by decide +kernel)
                    have e183w24 := congrArg Int32.toInt (hr_same1 hc (j := 24) (by decide +kernel))
                    have sm : ∀ j, j < 32 → j ∉ [13, 14, 24, 31] → pvv183 j = pvv j := fun j h1 h2 => (hr_sameX (l := [13, 14, 24, 31]) hc (by decide +kernel) j h1 h2).trans (sm j h1 h2)
                    exact hr_zret B hb rfl ⟨by omega, by omega⟩ ⟨hp, sm, z183, rfl, C162, rfl, hT, Or.inl (by omega)⟩ hW hS dX12_bookLine_186
                obtain rfl := List.mem_singleton.mp hcs
                obtain ⟨hr, hq, hc⟩ := hca
                obtain ⟨z175, rfl, lz175, uz175⟩ := hr_rvI hr
                have hW := hr_pvE (hr_sameA hc rfl (by decide +kernel)) hW
                refine hr_ne0 (tgt := 187) hx hb dX12_bookLine_178 (by decide) (fun h178 => ?_) (fun h178 => ?_)
                · refine lv_aload_n hx hb dX12_bookLine_187 rfl (lv_at hl 2 rfl) ?_
                  refine cm_callV (kc := kc_209) B rfl hb hl (hM.1 _ _ 0 [209] (isM (by decide +kernel)) 209 (by decide)) (hH1 _ tk_X1 209 (by decide)) (b := a0) (As := []) ⟨hr_aR t0, True.intro⟩ hp hW hS rfl (by decide) (by decide) (Nat.le_of_ble_eq_true rfl) dX12_bookLine_188 (fun cs hcs r pvv188 H locs hca hW hS => ?_)
                  rcases List.mem_cons.mp hcs with rfl | hcs
                  · obtain ⟨hr, hq, hc⟩ := hca
                    obtain rfl := hr_rv0 hr
                    have hp := hr_std hp hc (by decide +kernel)
                    have e188w24 := congrArg Int32.toInt (hr_same1 hc (j := 24) (by decide +kernel))
                    have sm : ∀ j, j < 32 → j ∉ [13, 14, 24, 31] → pvv188 j = pvv j := fun j h1 h2 => (hr_sameX (l := [13, 14, 24, 31]) hc (by decide +kernel) j h1 h2).trans (sm j h1 h2)
                    exact l191 1 wh to pvv188 C162 _ _ _ (by omega) (by omega) (by omega) (by omega) sm (by omega) (fun t j h => by rw [c162, tk_unt h, c150, tk_unt h]) (fun j h => by rw [c162, tk_unj (by omega), c150, tk_unj (by omega)]) (by rw [show 3 * (C 12 41).toInt.toNat + 1 = z157.toInt.toNat by omega, c162, tk_us]; omega) hp hl hW hS
                  rcases List.mem_cons.mp hcs with rfl | hcs
                  · obtain ⟨hr, hq, hc⟩ := hca
                    obtain rfl := hr_rv0 hr
                    have hp := hr_std hp hc (by decide +kernel)
                    have e188w24 := congrArg Int32.toInt (hr_same1 hc (j := 24) (by decide +kernel))
                    have sm : ∀ j, j < 32 → j ∉ [13, 14, 24, 31] → pvv188 j = pvv j := fun j h1 h2 => (hr_sameX (l := [13, 14, 24, 31]) hc (by decide +kernel) j h1 h2).trans (sm j h1 h2)
                    exact l191 1 wh to pvv188 C162 _ _ _ (by omega) (by omega) (by omega) (by omega) sm (by omega) (fun t j h => by rw [c162, tk_unt h, c150, tk_unt h]) (fun j h => by rw [c162, tk_unj (by omega), c150, tk_unj (by omega)]) (by rw [show 3 * (C 12 41).toInt.toNat + 1 = z157.toInt.toNat by omega, c162, tk_us]; omega) hp hl hW hS
                  rcases List.mem_cons.mp hcs with rfl | hcs
                  · obtain ⟨hr, hq, hc⟩ := hca
                    obtain rfl := hr_rv0 hr
                    have hp := hr_std hp hc (by decide +kernel)
                    have e188w24 := congrArg Int32.toInt (hr_same1 hc (j := 24) (by decide +kernel))
                    have sm : ∀ j, j < 32 → j ∉ [13, 14, 24, 31] → pvv188 j = pvv j := fun j h1 h2 => (hr_sameX (l := [13, 14, 24, 31]) hc (by decide +kernel) j h1 h2).trans (sm j h1 h2)
                    exact l191 1 wh to pvv188 C162 _ _ _ (by omega) (by omega) (by omega) (by omega) sm (by omega) (fun t j h => by rw [c162, tk_unt h, c150, tk_unt h]) (fun j h => by rw [c162, tk_unj (by omega), c150, tk_unj (by omega)]) (by rw [show 3 * (C 12 41).toInt.toNat + 1 = z157.toInt.toNat by omega, c162, tk_us]; omega) hp hl hW hS
                  obtain rfl := List.mem_singleton.mp hcs
                  obtain ⟨hr, hq, hc⟩ := hca
                  obtain rfl := hr_rv0 hr
                  have hp := hr_std hp hc (by decide +kernel)
                  have e188w24 := congrArg Int32.toInt (hr_same1 hc (j := 24) (by decide +kernel))
                  have sm : ∀ j, j < 32 → j ∉ [13, 14, 24, 31] → pvv188 j = pvv j := fun j h1 h2 => (hr_sameX (l := [13, 14, 24, 31]) hc (by decide +kernel) j h1 h2).trans (sm j h1 h2)
                  exact l191 1 wh to pvv188 C162 _ _ _ (by omega) (by omega) (by omega) (by omega) sm (by omega) (fun t j h => by rw [c162, tk_unt h, c150, tk_unt h]) (fun j h => by rw [c162, tk_unj (by omega), c150, tk_unj (by omega)]) (by rw [show 3 * (C 12 41).toInt.toNat + 1 = z157.toInt.toNat by omega, c162, tk_us]; omega) hp hl hW hS
                · omega
            rcases List.mem_cons.mp hcs with rfl | hcs
            · obtain ⟨hr, hq, hc⟩ := hca
              obtain rfl := hr_rv0 hr
              have hp := hr_std hp hc (by decide +kernel)
              have e164w24 := congrArg Int32.toInt (hr_same1 hc (j := 24) (by decide +kernel))
              have sm : ∀ j, j < 32 → j ∉ [13, 14, 24, 31] → pvv164 j = pvv j := fun j h1 h2 => (hr_sameX (l := [13, 14, 24, 31]) hc (by decide +kernel) j h1 h2).trans (sm j h1 h2)
              refine lv_iload_n hx hb dX12_bookLine_167 rfl (lv_at hl 0 rfl) ?_
              refine hr_ne0 (tgt := 191) hx hb dX12_bookLine_168 (by decide) (fun h168 => ?_) (fun h168 => ?_)
              · exact l191 1 wh to pvv164 C162 _ _ _ (by omega) (by omega) (by omega) (by omega) sm (by omega) (fun t j h => by rw [c162, tk_unt h, c150, tk_unt h]) (fun j h => by rw [c162, tk_unj (by omega), c150, tk_unj (by omega)]) (by rw [show 3 * (C 12 41).toInt.toNat + 1 = z157.toInt.toNat by omega, c162, tk_us]; omega) hp hl hW hS
              · have hT : ∀ t j, t ≠ 36 → C162 t j = C t j := fun t j h => by rw [c162, tk_unt h, c150, tk_unt h]
                refine lv_aload_n hx hb dX12_bookLine_171 rfl (lv_at hl 2 rfl) ?_
                refine hr_ldc2 B hC hb (isL (by decide +kernel)) dX12_bookLine_172 (fun z172 => ?_)
                refine cm_callV (kc := kc_211) B rfl hb hl (hM.1 _ _ 0 [211] (isM (by decide +kernel)) 211 (by decide)) (hH1 _ tk_X1 211 (by decide)) (b := a0) (As := [.long z172]) ⟨hr_aR t0, hr_aL, True.intro⟩ hp hW hS rfl (by decide) (by decide) (Nat.le_of_ble_eq_true rfl) dX12_bookLine_175 (fun cs hcs r pvv175 H locs hca hW hS => ?_)
                rcases List.mem_cons.mp hcs with rfl | hcs
                · obtain ⟨hr, hq, hc⟩ := hca
                  obtain ⟨z175, rfl, lz175, uz175⟩ := hr_rvI hr
                  have hW := hr_pvE (hr_sameA hc rfl (by decide +kernel)) hW
                  refine hr_ne0 (tgt := 187) hx hb dX12_bookLine_178 (by decide) (fun h178 => ?_) (fun h178 => ?_)
                  · omega
                  · refine lv_aload_n hx hb dX12_bookLine_181 rfl (lv_at hl 2 rfl) ?_
                    refine hr_ic hx hb dX12_bookLine_182 (by decide) (fun z182 hz182 => ?_)
                    refine cm_callV (kc := kc_205) B rfl hb hl (hM.1 _ _ 0 [205] (isM (by decide +kernel)) 205 (by decide)) (hH1 _ tk_X1 205 (by decide)) (b := a0) (As := [.int z182]) ⟨hr_aR t0, hr_aI (by omega) (by omega), True.intro⟩ hp hW hS rfl (by decide) (by decide) (Nat.le_of_ble_eq_true rfl) dX12_bookLine_183 (fun cs hcs r pvv183 H locs hca hW hS => ?_)
                    obtain rfl := List.mem_singleton.mp hcs
                    obtain ⟨hr, hq, hc⟩ := hca
                    obtain ⟨z183, rfl, lz183, uz183⟩ := hr_rvI hr
                    have hp := hr_std hp hc (by decide +kernel)
                    have e183w24 := congrArg Int32.toInt (hr_same1 hc (j := 24) (by decide +kernel))
                    have sm : ∀ j, j < 32 → j ∉ [13, 14, 24, 31] → pvv183 j = pvv j := fun j h1 h2 => (hr_sameX (l := [13, 14, 24, 31]) hc (by decide +kernel) j h1 h2).trans (sm j h1 h2)
                    exact hr_zret B hb rfl ⟨by omega, by omega⟩ ⟨hp, sm, z183, rfl, C162, rfl, hT, Or.inl (by omega)⟩ hW hS dX12_bookLine_186
                obtain rfl := List.mem_singleton.mp hcs
                obtain ⟨hr, hq, hc⟩ := hca
                obtain ⟨z175, rfl, lz175, uz175⟩ := hr_rvI hr
                have hW := hr_pvE (hr_sameA hc rfl (by decide +kernel)) hW
                refine hr_ne0 (tgt := 187) hx hb dX12_bookLine_178 (by decide) (fun h178 => ?_) (fun h178 => ?_)
                · refine lv_aload_n hx hb dX12_bookLine_187 rfl (lv_at hl 2 rfl) ?_
                  refine cm_callV (kc := kc_209) B rfl hb hl (hM.1 _ _ 0 [209] (isM (by decide +kernel)) 209 (by decide)) (hH1 _ tk_X1 209 (by decide)) (b := a0) (As := []) ⟨hr_aR t0, True.intro⟩ hp hW hS rfl (by decide) (by decide) (Nat.le_of_ble_eq_true rfl) dX12_bookLine_188 (fun cs hcs r pvv188 H locs hca hW hS => ?_)
                  rcases List.mem_cons.mp hcs with rfl | hcs
                  · obtain ⟨hr, hq, hc⟩ := hca
                    obtain rfl := hr_rv0 hr
                    have hp := hr_std hp hc (by decide +kernel)
                    have e188w24 := congrArg Int32.toInt (hr_same1 hc (j := 24) (by decide +kernel))
                    have sm : ∀ j, j < 32 → j ∉ [13, 14, 24, 31] → pvv188 j = pvv j := fun j h1 h2 => (hr_sameX (l := [13, 14, 24, 31]) hc (by decide +kernel) j h1 h2).trans (sm j h1 h2)
                    exact l191 1 wh to pvv188 C162 _ _ _ (by omega) (by omega) (by omega) (by omega) sm (by omega) (fun t j h => by rw [c162, tk_unt h, c150, tk_unt h]) (fun j h => by rw [c162, tk_unj (by omega), c150, tk_unj (by omega)]) (by rw [show 3 * (C 12 41).toInt.toNat + 1 = z157.toInt.toNat by omega, c162, tk_us]; omega) hp hl hW hS
                  rcases List.mem_cons.mp hcs with rfl | hcs
                  · obtain ⟨hr, hq, hc⟩ := hca
                    obtain rfl := hr_rv0 hr
                    have hp := hr_std hp hc (by decide +kernel)
                    have e188w24 := congrArg Int32.toInt (hr_same1 hc (j := 24) (by decide +kernel))
                    have sm : ∀ j, j < 32 → j ∉ [13, 14, 24, 31] → pvv188 j = pvv j := fun j h1 h2 => (hr_sameX (l := [13, 14, 24, 31]) hc (by decide +kernel) j h1 h2).trans (sm j h1 h2)
                    exact l191 1 wh to pvv188 C162 _ _ _ (by omega) (by omega) (by omega) (by omega) sm (by omega) (fun t j h => by rw [c162, tk_unt h, c150, tk_unt h]) (fun j h => by rw [c162, tk_unj (by omega), c150, tk_unj (by omega)]) (by rw [show 3 * (C 12 41).toInt.toNat + 1 = z157.toInt.toNat by omega, c162, tk_us]; omega) hp hl hW hS
                  rcases List.mem_cons.mp hcs with rfl | hcs
                  · obtain ⟨hr, hq, hc⟩ := hca
                    obtain rfl := hr_rv0 hr
                    have hp := hr_std hp hc (by decide +kernel)
                    have e188w24 := congrArg Int32.toInt (hr_same1 hc (j := 24) (by decide +kernel))
                    have sm : ∀ j, j < 32 → j ∉ [13, 14, 24, 31] → pvv188 j = pvv j := fun j h1 h2 => (hr_sameX (l := [13, 14, 24, 31]) hc (by decide +kernel) j h1 h2).trans (sm j h1 h2)
                    exact l191 1 wh to pvv188 C162 _ _ _ (by omega) (by omega) (by omega) (by omega) sm (by omega) (fun t j h => by rw [c162, tk_unt h, c150, tk_unt h]) (fun j h => by rw [c162, tk_unj (by omega), c150, tk_unj (by omega)]) (by rw [show 3 * (C 12 41).toInt.toNat + 1 = z157.toInt.toNat by omega, c162, tk_us]; omega) hp hl hW hS
                  obtain rfl := List.mem_singleton.mp hcs
                  obtain ⟨hr, hq, hc⟩ := hca
                  obtain rfl := hr_rv0 hr
                  have hp := hr_std hp hc (by decide +kernel)
                  have e188w24 := congrArg Int32.toInt (hr_same1 hc (j := 24) (by decide +kernel))
                  have sm : ∀ j, j < 32 → j ∉ [13, 14, 24, 31] → pvv188 j = pvv j := fun j h1 h2 => (hr_sameX (l := [13, 14, 24, 31]) hc (by decide +kernel) j h1 h2).trans (sm j h1 h2)
                  exact l191 1 wh to pvv188 C162 _ _ _ (by omega) (by omega) (by omega) (by omega) sm (by omega) (fun t j h => by rw [c162, tk_unt h, c150, tk_unt h]) (fun j h => by rw [c162, tk_unj (by omega), c150, tk_unj (by omega)]) (by rw [show 3 * (C 12 41).toInt.toNat + 1 = z157.toInt.toNat by omega, c162, tk_us]; omega) hp hl hW hS
                · omega
            obtain rfl := List.mem_singleton.mp hcs
            obtain ⟨hr, hq, hc⟩ := hca
            obtain rfl := hr_rv0 hr
            have hp := hr_std hp hc (by decide +kernel)
            have e164w24 := congrArg Int32.toInt (hr_same1 hc (j := 24) (by decide +kernel))
            have sm : ∀ j, j < 32 → j ∉ [13, 14, 24, 31] → pvv164 j = pvv j := fun j h1 h2 => (hr_sameX (l := [13, 14, 24, 31]) hc (by decide +kernel) j h1 h2).trans (sm j h1 h2)
            refine lv_iload_n hx hb dX12_bookLine_167 rfl (lv_at hl 0 rfl) ?_
            refine hr_ne0 (tgt := 191) hx hb dX12_bookLine_168 (by decide) (fun h168 => ?_) (fun h168 => ?_)
            · exact l191 1 wh to pvv164 C162 _ _ _ (by omega) (by omega) (by omega) (by omega) sm (by omega) (fun t j h => by rw [c162, tk_unt h, c150, tk_unt h]) (fun j h => by rw [c162, tk_unj (by omega), c150, tk_unj (by omega)]) (by rw [show 3 * (C 12 41).toInt.toNat + 1 = z157.toInt.toNat by omega, c162, tk_us]; omega) hp hl hW hS
            · have hT : ∀ t j, t ≠ 36 → C162 t j = C t j := fun t j h => by rw [c162, tk_unt h, c150, tk_unt h]
              refine lv_aload_n hx hb dX12_bookLine_171 rfl (lv_at hl 2 rfl) ?_
              refine hr_ldc2 B hC hb (isL (by decide +kernel)) dX12_bookLine_172 (fun z172 => ?_)
              refine cm_callV (kc := kc_211) B rfl hb hl (hM.1 _ _ 0 [211] (isM (by decide +kernel)) 211 (by decide)) (hH1 _ tk_X1 211 (by decide)) (b := a0) (As := [.long z172]) ⟨hr_aR t0, hr_aL, True.intro⟩ hp hW hS rfl (by decide) (by decide) (Nat.le_of_ble_eq_true rfl) dX12_bookLine_175 (fun cs hcs r pvv175 H locs hca hW hS => ?_)
              rcases List.mem_cons.mp hcs with rfl | hcs
              · obtain ⟨hr, hq, hc⟩ := hca
                obtain ⟨z175, rfl, lz175, uz175⟩ := hr_rvI hr
                have hW := hr_pvE (hr_sameA hc rfl (by decide +kernel)) hW
                refine hr_ne0 (tgt := 187) hx hb dX12_bookLine_178 (by decide) (fun h178 => ?_) (fun h178 => ?_)
                · omega
                · refine lv_aload_n hx hb dX12_bookLine_181 rfl (lv_at hl 2 rfl) ?_
                  refine hr_ic hx hb dX12_bookLine_182 (by decide) (fun z182 hz182 => ?_)
                  refine cm_callV (kc := kc_205) B rfl hb hl (hM.1 _ _ 0 [205] (isM (by decide +kernel)) 205 (by decide)) (hH1 _ tk_X1 205 (by decide)) (b := a0) (As := [.int z182]) ⟨hr_aR t0, hr_aI (by omega) (by omega), True.intro⟩ hp hW hS rfl (by decide) (by decide) (Nat.le_of_ble_eq_true rfl) dX12_bookLine_183 (fun cs hcs r pvv183 H locs hca hW hS => ?_)
                  obtain rfl := List.mem_singleton.mp hcs
                  obtain ⟨hr, hq, hc⟩ := hca
                  obtain ⟨z183, rfl, lz183, uz183⟩ := hr_rvI hr
                  have hp := hr_std hp hc (by decide +kernel)
                  have e183w24 := congrArg Int32.toInt (hr_same1 hc (j := 24) (by decide +kernel))
                  have sm : ∀ j, j < 32 → j ∉ [13, 14, 24, 31] → pvv183 j = pvv j := fun j h1 h2 => (hr_sameX (l := [13, 14, 24, 31]) hc (by decide +kernel) j h1 h2).trans (sm j h1 h2)
                  exact hr_zret B hb rfl ⟨by omega, by omega⟩ ⟨hp, sm, z183, rfl, C162, rfl, hT, Or.inl (by omega)⟩ hW hS dX12_bookLine_186
              obtain rfl := List.mem_singleton.mp hcs
              obtain ⟨hr, hq, hc⟩ := hca
              obtain ⟨z175, rfl, lz175, uz175⟩ := hr_rvI hr
              have hW := hr_pvE (hr_sameA hc rfl (by decide +kernel)) hW
              refine hr_ne0 (tgt := 187) hx hb dX12_bookLine_178 (by decide) (fun h178 => ?_) (fun h178 => ?_)
              · refine lv_aload_n hx hb dX12_bookLine_187 rfl (lv_at hl 2 rfl) ?_
                refine cm_callV (kc := kc_209) B rfl hb hl (hM.1 _ _ 0 [209] (isM (by decide +kernel)) 209 (by decide)) (hH1 _ tk_X1 209 (by decide)) (b := a0) (As := []) ⟨hr_aR t0, True.intro⟩ hp hW hS rfl (by decide) (by decide) (Nat.le_of_ble_eq_true rfl) dX12_bookLine_188 (fun cs hcs r pvv188 H locs hca hW hS => ?_)
                rcases List.mem_cons.mp hcs with rfl | hcs
                · obtain ⟨hr, hq, hc⟩ := hca
                  obtain rfl := hr_rv0 hr
                  have hp := hr_std hp hc (by decide +kernel)
                  have e188w24 := congrArg Int32.toInt (hr_same1 hc (j := 24) (by decide +kernel))
                  have sm : ∀ j, j < 32 → j ∉ [13, 14, 24, 31] → pvv188 j = pvv j := fun j h1 h2 => (hr_sameX (l := [13, 14, 24, 31]) hc (by decide +kernel) j h1 h2).trans (sm j h1 h2)
                  exact l191 1 wh to pvv188 C162 _ _ _ (by omega) (by omega) (by omega) (by omega) sm (by omega) (fun t j h => by rw [c162, tk_unt h, c150, tk_unt h]) (fun j h => by rw [c162, tk_unj (by omega), c150, tk_unj (by omega)]) (by rw [show 3 * (C 12 41).toInt.toNat + 1 = z157.toInt.toNat by omega, c162, tk_us]; omega) hp hl hW hS
                rcases List.mem_cons.mp hcs with rfl | hcs
                · obtain ⟨hr, hq, hc⟩ := hca
                  obtain rfl := hr_rv0 hr
                  have hp := hr_std hp hc (by decide +kernel)
                  have e188w24 := congrArg Int32.toInt (hr_same1 hc (j := 24) (by decide +kernel))
                  have sm : ∀ j, j < 32 → j ∉ [13, 14, 24, 31] → pvv188 j = pvv j := fun j h1 h2 => (hr_sameX (l := [13, 14, 24, 31]) hc (by decide +kernel) j h1 h2).trans (sm j h1 h2)
                  exact l191 1 wh to pvv188 C162 _ _ _ (by omega) (by omega) (by omega) (by omega) sm (by omega) (fun t j h => by rw [c162, tk_unt h, c150, tk_unt h]) (fun j h => by rw [c162, tk_unj (by omega), c150, tk_unj (by omega)]) (by rw [show 3 * (C 12 41).toInt.toNat + 1 = z157.toInt.toNat by omega, c162, tk_us]; omega) hp hl hW hS
                rcases List.mem_cons.mp hcs with rfl | hcs
                · obtain ⟨hr, hq, hc⟩ := hca
                  obtain rfl := hr_rv0 hr
                  have hp := hr_std hp hc (by decide +kernel)
                  have e188w24 := congrArg Int32.toInt (hr_same1 hc (j := 24) (by decide +kernel))
                  have sm : ∀ j, j < 32 → j ∉ [13, 14, 24, 31] → pvv188 j = pvv j := fun j h1 h2 => (hr_sameX (l := [13, 14, 24, 31]) hc (by decide +kernel) j h1 h2).trans (sm j h1 h2)
                  exact l191 1 wh to pvv188 C162 _ _ _ (by omega) (by omega) (by omega) (by omega) sm (by omega) (fun t j h => by rw [c162, tk_unt h, c150, tk_unt h]) (fun j h => by rw [c162, tk_unj (by omega), c150, tk_unj (by omega)]) (by rw [show 3 * (C 12 41).toInt.toNat + 1 = z157.toInt.toNat by omega, c162, tk_us]; omega) hp hl hW hS
                obtain rfl := List.mem_singleton.mp hcs
                obtain ⟨hr, hq, hc⟩ := hca
                obtain rfl := hr_rv0 hr
                have hp := hr_std hp hc (by decide +kernel)
                have e188w24 := congrArg Int32.toInt (hr_same1 hc (j := 24) (by decide +kernel))
                have sm : ∀ j, j < 32 → j ∉ [13, 14, 24, 31] → pvv188 j = pvv j := fun j h1 h2 => (hr_sameX (l := [13, 14, 24, 31]) hc (by decide +kernel) j h1 h2).trans (sm j h1 h2)
                exact l191 1 wh to pvv188 C162 _ _ _ (by omega) (by omega) (by omega) (by omega) sm (by omega) (fun t j h => by rw [c162, tk_unt h, c150, tk_unt h]) (fun j h => by rw [c162, tk_unj (by omega), c150, tk_unj (by omega)]) (by rw [show 3 * (C 12 41).toInt.toNat + 1 = z157.toInt.toNat by omega, c162, tk_us]; omega) hp hl hW hS
              · omega
          · refine hr_ic hx hb dX12_bookLine_145 (by decide) (fun z145 hz145 => ?_)
            refine lv_goto (tgt := 150) hx hb dX12_bookLine_146 (by decide) ?_
            refine hr_iastN B hb hU hW hS tz137 rfl (by omega) (by omega) ⟨ck_lo _, ck_hi _⟩ (tk_EA tz137 (fun a h => hun 36 (by decide) _ _ tz137 h)) (u := 0) (v := 134) (by omega) (by omega) (by decide) dX12_bookLine_150 (fun H locs hW hS => ?_)
            obtain ⟨C150, c150⟩ : ∃ f, f = tk_upd C 36 (to.toInt.toNat) z145 := ⟨_, rfl⟩
            rw [← c150] at hW
            refine lv_aload_n hx hb dX12_bookLine_151 rfl (lv_at hl 2 rfl) ?_
            refine hr_getR B hF hb hW (ci := 12) (j := 8) (cd := 3) t0 rfl (isF (by decide +kernel)) rfl dX12_bookLine_152 (fun az152 tz152 xz152 => ?_)
            refine lv_iload_n hx hb dX12_bookLine_155 rfl (lv_at hl 1 rfl) ?_
            refine hr_ic hx hb dX12_bookLine_156 (by decide) (fun z156 hz156 => ?_)
            refine hr_add hx hb dX12_bookLine_157 (by omega) (by omega) (fun z157 hz157 => ?_)
            refine lv_aload_n hx hb dX12_bookLine_158 rfl (lv_at hl 2 rfl) ?_
            refine hr_getI B hF hb hW (ci := 12) (j := 18) (cd := 0) t0 rfl (isF (by decide +kernel)) rfl dX12_bookLine_159 (fun z159 lz159 uz159 pz159 xz159 => ?_)
            have pz159 := congrArg Int32.toInt (pz159 24 rfl)
            refine hr_iastN B hb hU hW hS tz152 rfl (by omega) (by omega) ⟨ck_lo _, ck_hi _⟩ (tk_EA tz152 (fun a h => hun 36 (by decide) _ _ tz152 h)) (u := 0) (v := 134) (by omega) (by omega) (by decide) dX12_bookLine_162 (fun H locs hW hS => ?_)
            obtain ⟨C162, c162⟩ : ∃ f, f = tk_upd C150 36 (z157.toInt.toNat) z159 := ⟨_, rfl⟩
            rw [← c162] at hW
            refine lv_aload_n hx hb dX12_bookLine_163 rfl (lv_at hl 2 rfl) ?_
            refine cm_callV (kc := kc_209) B rfl hb hl (hM.1 _ _ 0 [209] (isM (by decide +kernel)) 209 (by decide)) (hH1 _ tk_X1 209 (by decide)) (b := a0) (As := []) ⟨hr_aR t0, True.intro⟩ hp hW hS rfl (by decide) (by decide) (Nat.le_of_ble_eq_true rfl) dX12_bookLine_164 (fun cs hcs r pvv164 H locs hca hW hS => ?_)
            rcases List.mem_cons.mp hcs with rfl | hcs
            · obtain ⟨hr, hq, hc⟩ := hca
              obtain rfl := hr_rv0 hr
              have hp := hr_std hp hc (by decide +kernel)
              have e164w24 := congrArg Int32.toInt (hr_same1 hc (j := 24) (by decide +kernel))
              have sm : ∀ j, j < 32 → j ∉ [13, 14, 24, 31] → pvv164 j = pvv j := fun j h1 h2 => (hr_sameX (l := [13, 14, 24, 31]) hc (by decide +kernel) j h1 h2).trans (sm j h1 h2)
              refine lv_iload_n hx hb dX12_bookLine_167 rfl (lv_at hl 0 rfl) ?_
              refine hr_ne0 (tgt := 191) hx hb dX12_bookLine_168 (by decide) (fun h168 => ?_) (fun h168 => ?_)
              · exact l191 1 wh to pvv164 C162 _ _ _ (by omega) (by omega) (by omega) (by omega) sm (by omega) (fun t j h => by rw [c162, tk_unt h, c150, tk_unt h]) (fun j h => by rw [c162, tk_unj (by omega), c150, tk_unj (by omega)]) (by rw [show 3 * (C 12 41).toInt.toNat + 1 = z157.toInt.toNat by omega, c162, tk_us]; omega) hp hl hW hS
              · have hT : ∀ t j, t ≠ 36 → C162 t j = C t j := fun t j h => by rw [c162, tk_unt h, c150, tk_unt h]
                refine lv_aload_n hx hb dX12_bookLine_171 rfl (lv_at hl 2 rfl) ?_
                refine hr_ldc2 B hC hb (isL (by decide +kernel)) dX12_bookLine_172 (fun z172 => ?_)
                refine cm_callV (kc := kc_211) B rfl hb hl (hM.1 _ _ 0 [211] (isM (by decide +kernel)) 211 (by decide)) (hH1 _ tk_X1 211 (by decide)) (b := a0) (As := [.long z172]) ⟨hr_aR t0, hr_aL, True.intro⟩ hp hW hS rfl (by decide) (by decide) (Nat.le_of_ble_eq_true rfl) dX12_bookLine_175 (fun cs hcs r pvv175 H locs hca hW hS => ?_)
                rcases List.mem_cons.mp hcs with rfl | hcs
                · obtain ⟨hr, hq, hc⟩ := hca
                  obtain ⟨z175, rfl, lz175, uz175⟩ := hr_rvI hr
                  have hW := hr_pvE (hr_sameA hc rfl (by decide +kernel)) hW
                  refine hr_ne0 (tgt := 187) hx hb dX12_bookLine_178 (by decide) (fun h178 => ?_) (fun h178 => ?_)
                  · omega
                  · refine lv_aload_n hx hb dX12_bookLine_181 rfl (lv_at hl 2 rfl) ?_
                    refine hr_ic hx hb dX12_bookLine_182 (by decide) (fun z182 hz182 => ?_)
                    refine cm_callV (kc := kc_205) B rfl hb hl (hM.1 _ _ 0 [205] (isM (by decide +kernel)) 205 (by decide)) (hH1 _ tk_X1 205 (by decide)) (b := a0) (As := [.int z182]) ⟨hr_aR t0, hr_aI (by omega) (by omega), True.intro⟩ hp hW hS rfl (by decide) (by decide) (Nat.le_of_ble_eq_true rfl) dX12_bookLine_183 (fun cs hcs r pvv183 H locs hca hW hS => ?_)
                    obtain rfl := List.mem_singleton.mp hcs
                    obtain ⟨hr, hq, hc⟩ := hca
                    obtain ⟨z183, rfl, lz183, uz183⟩ := hr_rvI hr
                    have hp := hr_std hp hc (by decide +kernel)
                    have e183w24 := congrArg Int32.toInt (hr_same1 hc (j := 24) (by decide +kernel))
                    have sm : ∀ j, j < 32 → j ∉ [13, 14, 24, 31] → pvv183 j = pvv j := fun j h1 h2 => (hr_sameX (l := [13, 14, 24, 31]) hc (by decide +kernel) j h1 h2).trans (sm j h1 h2)
                    exact hr_zret B hb rfl ⟨by omega, by omega⟩ ⟨hp, sm, z183, rfl, C162, rfl, hT, Or.inl (by omega)⟩ hW hS dX12_bookLine_186
                obtain rfl := List.mem_singleton.mp hcs
                obtain ⟨hr, hq, hc⟩ := hca
                obtain ⟨z175, rfl, lz175, uz175⟩ := hr_rvI hr
                have hW := hr_pvE (hr_sameA hc rfl (by decide +kernel)) hW
                refine hr_ne0 (tgt := 187) hx hb dX12_bookLine_178 (by decide) (fun h178 => ?_) (fun h178 => ?_)
                · refine lv_aload_n hx hb dX12_bookLine_187 rfl (lv_at hl 2 rfl) ?_
                  refine cm_callV (kc := kc_209) B rfl hb hl (hM.1 _ _ 0 [209] (isM (by decide +kernel)) 209 (by decide)) (hH1 _ tk_X1 209 (by decide)) (b := a0) (As := []) ⟨hr_aR t0, True.intro⟩ hp hW hS rfl (by decide) (by decide) (Nat.le_of_ble_eq_true rfl) dX12_bookLine_188 (fun cs hcs r pvv188 H locs hca hW hS => ?_)
                  rcases List.mem_cons.mp hcs with rfl | hcs
                  · obtain ⟨hr, hq, hc⟩ := hca
                    obtain rfl := hr_rv0 hr
                    have hp := hr_std hp hc (by decide +kernel)
                    have e188w24 := congrArg Int32.toInt (hr_same1 hc (j := 24) (by decide +kernel))
                    have sm : ∀ j, j < 32 → j ∉ [13, 14, 24, 31] → pvv188 j = pvv j := fun j h1 h2 => (hr_sameX (l := [13, 14, 24, 31]) hc (by decide +kernel) j h1 h2).trans (sm j h1 h2)
                    exact l191 1 wh to pvv188 C162 _ _ _ (by omega) (by omega) (by omega) (by omega) sm (by omega) (fun t j h => by rw [c162, tk_unt h, c150, tk_unt h]) (fun j h => by rw [c162, tk_unj (by omega), c150, tk_unj (by omega)]) (by rw [show 3 * (C 12 41).toInt.toNat + 1 = z157.toInt.toNat by omega, c162, tk_us]; omega) hp hl hW hS
                  rcases List.mem_cons.mp hcs with rfl | hcs
                  · obtain ⟨hr, hq, hc⟩ := hca
                    obtain rfl := hr_rv0 hr
                    have hp := hr_std hp hc (by decide +kernel)
                    have e188w24 := congrArg Int32.toInt (hr_same1 hc (j := 24) (by decide +kernel))
                    have sm : ∀ j, j < 32 → j ∉ [13, 14, 24, 31] → pvv188 j = pvv j := fun j h1 h2 => (hr_sameX (l := [13, 14, 24, 31]) hc (by decide +kernel) j h1 h2).trans (sm j h1 h2)
                    exact l191 1 wh to pvv188 C162 _ _ _ (by omega) (by omega) (by omega) (by omega) sm (by omega) (fun t j h => by rw [c162, tk_unt h, c150, tk_unt h]) (fun j h => by rw [c162, tk_unj (by omega), c150, tk_unj (by omega)]) (by rw [show 3 * (C 12 41).toInt.toNat + 1 = z157.toInt.toNat by omega, c162, tk_us]; omega) hp hl hW hS
                  rcases List.mem_cons.mp hcs with rfl | hcs
                  · obtain ⟨hr, hq, hc⟩ := hca
                    obtain rfl := hr_rv0 hr
                    have hp := hr_std hp hc (by decide +kernel)
                    have e188w24 := congrArg Int32.toInt (hr_same1 hc (j := 24) (by decide +kernel))
                    have sm : ∀ j, j < 32 → j ∉ [13, 14, 24, 31] → pvv188 j = pvv j := fun j h1 h2 => (hr_sameX (l := [13, 14, 24, 31]) hc (by decide +kernel) j h1 h2).trans (sm j h1 h2)
                    exact l191 1 wh to pvv188 C162 _ _ _ (by omega) (by omega) (by omega) (by omega) sm (by omega) (fun t j h => by rw [c162, tk_unt h, c150, tk_unt h]) (fun j h => by rw [c162, tk_unj (by omega), c150, tk_unj (by omega)]) (by rw [show 3 * (C 12 41).toInt.toNat + 1 = z157.toInt.toNat by omega, c162, tk_us]; omega) hp hl hW hS
                  obtain rfl := List.mem_singleton.mp hcs
                  obtain ⟨hr, hq, hc⟩ := hca
                  obtain rfl := hr_rv0 hr
                  have hp := hr_std hp hc (by decide +kernel)
                  have e188w24 := congrArg Int32.toInt (hr_same1 hc (j := 24) (by decide +kernel))
                  have sm : ∀ j, j < 32 → j ∉ [13, 14, 24, 31] → pvv188 j = pvv j := fun j h1 h2 => (hr_sameX (l := [13, 14, 24, 31]) hc (by decide +kernel) j h1 h2).trans (sm j h1 h2)
                  exact l191 1 wh to pvv188 C162 _ _ _ (by omega) (by omega) (by omega) (by omega) sm (by omega) (fun t j h => by rw [c162, tk_unt h, c150, tk_unt h]) (fun j h => by rw [c162, tk_unj (by omega), c150, tk_unj (by omega)]) (by rw [show 3 * (C 12 41).toInt.toNat + 1 = z157.toInt.toNat by omega, c162, tk_us]; omega) hp hl hW hS
                · omega
            rcases List.mem_cons.mp hcs with rfl | hcs
            · obtain ⟨hr, hq, hc⟩ := hca
              obtain rfl := hr_rv0 hr
              have hp := hr_std hp hc (by decide +kernel)
              have e164w24 := congrArg Int32.toInt (hr_same1 hc (j := 24) (by decide +kernel))
              have sm : ∀ j, j < 32 → j ∉ [13, 14, 24, 31] → pvv164 j = pvv j := fun j h1 h2 => (hr_sameX (l := [13, 14, 24, 31]) hc (by decide +kernel) j h1 h2).trans (sm j h1 h2)
              refine lv_iload_n hx hb dX12_bookLine_167 rfl (lv_at hl 0 rfl) ?_
              refine hr_ne0 (tgt := 191) hx hb dX12_bookLine_168 (by decide) (fun h168 => ?_) (fun h168 => ?_)
              · exact l191 1 wh to pvv164 C162 _ _ _ (by omega) (by omega) (by omega) (by omega) sm (by omega) (fun t j h => by rw [c162, tk_unt h, c150, tk_unt h]) (fun j h => by rw [c162, tk_unj (by omega), c150, tk_unj (by omega)]) (by rw [show 3 * (C 12 41).toInt.toNat + 1 = z157.toInt.toNat by omega, c162, tk_us]; omega) hp hl hW hS
              · have hT : ∀ t j, t ≠ 36 → C162 t j = C t j := fun t j h => by rw [c162, tk_unt h, c150, tk_unt h]
                refine lv_aload_n hx hb dX12_bookLine_171 rfl (lv_at hl 2 rfl) ?_
                refine hr_ldc2 B hC hb (isL (by decide +kernel)) dX12_bookLine_172 (fun z172 => ?_)
                refine cm_callV (kc := kc_211) B rfl hb hl (hM.1 _ _ 0 [211] (isM (by decide +kernel)) 211 (by decide)) (hH1 _ tk_X1 211 (by decide)) (b := a0) (As := [.long z172]) ⟨hr_aR t0, hr_aL, True.intro⟩ hp hW hS rfl (by decide) (by decide) (Nat.le_of_ble_eq_true rfl) dX12_bookLine_175 (fun cs hcs r pvv175 H locs hca hW hS => ?_)
                rcases List.mem_cons.mp hcs with rfl | hcs
                · obtain ⟨hr, hq, hc⟩ := hca
                  obtain ⟨z175, rfl, lz175, uz175⟩ := hr_rvI hr
                  have hW := hr_pvE (hr_sameA hc rfl (by decide +kernel)) hW
                  refine hr_ne0 (tgt := 187) hx hb dX12_bookLine_178 (by decide) (fun h178 => ?_) (fun h178 => ?_)
                  · omega
                  · refine lv_aload_n hx hb dX12_bookLine_181 rfl (lv_at hl 2 rfl) ?_
                    refine hr_ic hx hb dX12_bookLine_182 (by decide) (fun z182 hz182 => ?_)
                    refine cm_callV (kc := kc_205) B rfl hb hl (hM.1 _ _ 0 [205] (isM (by decide +kernel)) 205 (by decide)) (hH1 _ tk_X1 205 (by decide)) (b := a0) (As := [.int z182]) ⟨hr_aR t0, hr_aI (by omega) (by omega), True.intro⟩ hp hW hS rfl (by decide) (by decide) (Nat.le_of_ble_eq_true rfl) dX12_bookLine_183 (fun cs hcs r pvv183 H locs hca hW hS => ?_)
                    obtain rfl := List.mem_singleton.mp hcs
                    obtain ⟨hr, hq, hc⟩ := hca
                    obtain ⟨z183, rfl, lz183, uz183⟩ := hr_rvI hr
                    have hp := hr_std hp hc (by decide +kernel)
                    have e183w24 := congrArg Int32.toInt (hr_same1 hc (j := 24) (by decide +kernel))
                    have sm : ∀ j, j < 32 → j ∉ [13, 14, 24, 31] → pvv183 j = pvv j := fun j h1 h2 => (hr_sameX (l := [13, 14, 24, 31]) hc (by decide +kernel) j h1 h2).trans (sm j h1 h2)
                    exact hr_zret B hb rfl ⟨by omega, by omega⟩ ⟨hp, sm, z183, rfl, C162, rfl, hT, Or.inl (by omega)⟩ hW hS dX12_bookLine_186
                obtain rfl := List.mem_singleton.mp hcs
                obtain ⟨hr, hq, hc⟩ := hca
                obtain ⟨z175, rfl, lz175, uz175⟩ := hr_rvI hr
                have hW := hr_pvE (hr_sameA hc rfl (by decide +kernel)) hW
                refine hr_ne0 (tgt := 187) hx hb dX12_bookLine_178 (by decide) (fun h178 => ?_) (fun h178 => ?_)
                · refine lv_aload_n hx hb dX12_bookLine_187 rfl (lv_at hl 2 rfl) ?_
                  refine cm_callV (kc := kc_209) B rfl hb hl (hM.1 _ _ 0 [209] (isM (by decide +kernel)) 209 (by decide)) (hH1 _ tk_X1 209 (by decide)) (b := a0) (As := []) ⟨hr_aR t0, True.intro⟩ hp hW hS rfl (by decide) (by decide) (Nat.le_of_ble_eq_true rfl) dX12_bookLine_188 (fun cs hcs r pvv188 H locs hca hW hS => ?_)
                  rcases List.mem_cons.mp hcs with rfl | hcs
                  · obtain ⟨hr, hq, hc⟩ := hca
                    obtain rfl := hr_rv0 hr
                    have hp := hr_std hp hc (by decide +kernel)
                    have e188w24 := congrArg Int32.toInt (hr_same1 hc (j := 24) (by decide +kernel))
                    have sm : ∀ j, j < 32 → j ∉ [13, 14, 24, 31] → pvv188 j = pvv j := fun j h1 h2 => (hr_sameX (l := [13, 14, 24, 31]) hc (by decide +kernel) j h1 h2).trans (sm j h1 h2)
                    exact l191 1 wh to pvv188 C162 _ _ _ (by omega) (by omega) (by omega) (by omega) sm (by omega) (fun t j h => by rw [c162, tk_unt h, c150, tk_unt h]) (fun j h => by rw [c162, tk_unj (by omega), c150, tk_unj (by omega)]) (by rw [show 3 * (C 12 41).toInt.toNat + 1 = z157.toInt.toNat by omega, c162, tk_us]; omega) hp hl hW hS
                  rcases List.mem_cons.mp hcs with rfl | hcs
                  · obtain ⟨hr, hq, hc⟩ := hca
                    obtain rfl := hr_rv0 hr
                    have hp := hr_std hp hc (by decide +kernel)
                    have e188w24 := congrArg Int32.toInt (hr_same1 hc (j := 24) (by decide +kernel))
                    have sm : ∀ j, j < 32 → j ∉ [13, 14, 24, 31] → pvv188 j = pvv j := fun j h1 h2 => (hr_sameX (l := [13, 14, 24, 31]) hc (by decide +kernel) j h1 h2).trans (sm j h1 h2)
                    exact l191 1 wh to pvv188 C162 _ _ _ (by omega) (by omega) (by omega) (by omega) sm (by omega) (fun t j h => by rw [c162, tk_unt h, c150, tk_unt h]) (fun j h => by rw [c162, tk_unj (by omega), c150, tk_unj (by omega)]) (by rw [show 3 * (C 12 41).toInt.toNat + 1 = z157.toInt.toNat by omega, c162, tk_us]; omega) hp hl hW hS
                  rcases List.mem_cons.mp hcs with rfl | hcs
                  · obtain ⟨hr, hq, hc⟩ := hca
                    obtain rfl := hr_rv0 hr
                    have hp := hr_std hp hc (by decide +kernel)
                    have e188w24 := congrArg Int32.toInt (hr_same1 hc (j := 24) (by decide +kernel))
                    have sm : ∀ j, j < 32 → j ∉ [13, 14, 24, 31] → pvv188 j = pvv j := fun j h1 h2 => (hr_sameX (l := [13, 14, 24, 31]) hc (by decide +kernel) j h1 h2).trans (sm j h1 h2)
                    exact l191 1 wh to pvv188 C162 _ _ _ (by omega) (by omega) (by omega) (by omega) sm (by omega) (fun t j h => by rw [c162, tk_unt h, c150, tk_unt h]) (fun j h => by rw [c162, tk_unj (by omega), c150, tk_unj (by omega)]) (by rw [show 3 * (C 12 41).toInt.toNat + 1 = z157.toInt.toNat by omega, c162, tk_us]; omega) hp hl hW hS
                  obtain rfl := List.mem_singleton.mp hcs
                  obtain ⟨hr, hq, hc⟩ := hca
                  obtain rfl := hr_rv0 hr
                  have hp := hr_std hp hc (by decide +kernel)
                  have e188w24 := congrArg Int32.toInt (hr_same1 hc (j := 24) (by decide +kernel))
                  have sm : ∀ j, j < 32 → j ∉ [13, 14, 24, 31] → pvv188 j = pvv j := fun j h1 h2 => (hr_sameX (l := [13, 14, 24, 31]) hc (by decide +kernel) j h1 h2).trans (sm j h1 h2)
                  exact l191 1 wh to pvv188 C162 _ _ _ (by omega) (by omega) (by omega) (by omega) sm (by omega) (fun t j h => by rw [c162, tk_unt h, c150, tk_unt h]) (fun j h => by rw [c162, tk_unj (by omega), c150, tk_unj (by omega)]) (by rw [show 3 * (C 12 41).toInt.toNat + 1 = z157.toInt.toNat by omega, c162, tk_us]; omega) hp hl hW hS
                · omega
            rcases List.mem_cons.mp hcs with rfl | hcs
            · obtain ⟨hr, hq, hc⟩ := hca
              obtain rfl := hr_rv0 hr
              have hp := hr_std hp hc (by decide +kernel)
              have e164w24 := congrArg Int32.toInt (hr_same1 hc (j := 24) (by decide +kernel))
              have sm : ∀ j, j < 32 → j ∉ [13, 14, 24, 31] → pvv164 j = pvv j := fun j h1 h2 => (hr_sameX (l := [13, 14, 24, 31]) hc (by decide +kernel) j h1 h2).trans (sm j h1 h2)
              refine lv_iload_n hx hb dX12_bookLine_167 rfl (lv_at hl 0 rfl) ?_
              refine hr_ne0 (tgt := 191) hx hb dX12_bookLine_168 (by decide) (fun h168 => ?_) (fun h168 => ?_)
              · exact l191 1 wh to pvv164 C162 _ _ _ (by omega) (by omega) (by omega) (by omega) sm (by omega) (fun t j h => by rw [c162, tk_unt h, c150, tk_unt h]) (fun j h => by rw [c162, tk_unj (by omega), c150, tk_unj (by omega)]) (by rw [show 3 * (C 12 41).toInt.toNat + 1 = z157.toInt.toNat by omega, c162, tk_us]; omega) hp hl hW hS
              · have hT : ∀ t j, t ≠ 36 → C162 t j = C t j := fun t j h => by rw [c162, tk_unt h, c150, tk_unt h]
                refine lv_aload_n hx hb dX12_bookLine_171 rfl (lv_at hl 2 rfl) ?_
                refine hr_ldc2 B hC hb (isL (by decide +kernel)) dX12_bookLine_172 (fun z172 => ?_)
                refine cm_callV (kc := kc_211) B rfl hb hl (hM.1 _ _ 0 [211] (isM (by decide +kernel)) 211 (by decide)) (hH1 _ tk_X1 211 (by decide)) (b := a0) (As := [.long z172]) ⟨hr_aR t0, hr_aL, True.intro⟩ hp hW hS rfl (by decide) (by decide) (Nat.le_of_ble_eq_true rfl) dX12_bookLine_175 (fun cs hcs r pvv175 H locs hca hW hS => ?_)
                rcases List.mem_cons.mp hcs with rfl | hcs
                · obtain ⟨hr, hq, hc⟩ := hca
                  obtain ⟨z175, rfl, lz175, uz175⟩ := hr_rvI hr
                  have hW := hr_pvE (hr_sameA hc rfl (by decide +kernel)) hW
                  refine hr_ne0 (tgt := 187) hx hb dX12_bookLine_178 (by decide) (fun h178 => ?_) (fun h178 => ?_)
                  · omega
                  · refine lv_aload_n hx hb dX12_bookLine_181 rfl (lv_at hl 2 rfl) ?_
                    refine hr_ic hx hb dX12_bookLine_182 (by decide) (fun z182 hz182 => ?_)
                    refine cm_callV (kc := kc_205) B rfl hb hl (hM.1 _ _ 0 [205] (isM (by decide +kernel)) 205 (by decide)) (hH1 _ tk_X1 205 (by decide)) (b := a0) (As := [.int z182]) ⟨hr_aR t0, hr_aI (by omega) (by omega), True.intro⟩ hp hW hS rfl (by decide) (by decide) (Nat.le_of_ble_eq_true rfl) dX12_bookLine_183 (fun cs hcs r pvv183 H locs hca hW hS => ?_)
                    obtain rfl := List.mem_singleton.mp hcs
                    obtain ⟨hr, hq, hc⟩ := hca
                    obtain ⟨z183, rfl, lz183, uz183⟩ := hr_rvI hr
                    have hp := hr_std hp hc (by decide +kernel)
                    have e183w24 := congrArg Int32.toInt (hr_same1 hc (j := 24) (by decide +kernel))
                    have sm : ∀ j, j < 32 → j ∉ [13, 14, 24, 31] → pvv183 j = pvv j := fun j h1 h2 => (hr_sameX (l := [13, 14, 24, 31]) hc (by decide +kernel) j h1 h2).trans (sm j h1 h2)
                    exact hr_zret B hb rfl ⟨by omega, by omega⟩ ⟨hp, sm, z183, rfl, C162, rfl, hT, Or.inl (by omega)⟩ hW hS dX12_bookLine_186
                obtain rfl := List.mem_singleton.mp hcs
                obtain ⟨hr, hq, hc⟩ := hca
                obtain ⟨z175, rfl, lz175, uz175⟩ := hr_rvI hr
                have hW := hr_pvE (hr_sameA hc rfl (by decide +kernel)) hW
                refine hr_ne0 (tgt := 187) hx hb dX12_bookLine_178 (by decide) (fun h178 => ?_) (fun h178 => ?_)
                · refine lv_aload_n hx hb dX12_bookLine_187 rfl (lv_at hl 2 rfl) ?_
                  refine cm_callV (kc := kc_209) B rfl hb hl (hM.1 _ _ 0 [209] (isM (by decide +kernel)) 209 (by decide)) (hH1 _ tk_X1 209 (by decide)) (b := a0) (As := []) ⟨hr_aR t0, True.intro⟩ hp hW hS rfl (by decide) (by decide) (Nat.le_of_ble_eq_true rfl) dX12_bookLine_188 (fun cs hcs r pvv188 H locs hca hW hS => ?_)
                  rcases List.mem_cons.mp hcs with rfl | hcs
                  · obtain ⟨hr, hq, hc⟩ := hca
                    obtain rfl := hr_rv0 hr
                    have hp := hr_std hp hc (by decide +kernel)
                    have e188w24 := congrArg Int32.toInt (hr_same1 hc (j := 24) (by decide +kernel))
                    have sm : ∀ j, j < 32 → j ∉ [13, 14, 24, 31] → pvv188 j = pvv j := fun j h1 h2 => (hr_sameX (l := [13, 14, 24, 31]) hc (by decide +kernel) j h1 h2).trans (sm j h1 h2)
                    exact l191 1 wh to pvv188 C162 _ _ _ (by omega) (by omega) (by omega) (by omega) sm (by omega) (fun t j h => by rw [c162, tk_unt h, c150, tk_unt h]) (fun j h => by rw [c162, tk_unj (by omega), c150, tk_unj (by omega)]) (by rw [show 3 * (C 12 41).toInt.toNat + 1 = z157.toInt.toNat by omega, c162, tk_us]; omega) hp hl hW hS
                  rcases List.mem_cons.mp hcs with rfl | hcs
                  · obtain ⟨hr, hq, hc⟩ := hca
                    obtain rfl := hr_rv0 hr
                    have hp := hr_std hp hc (by decide +kernel)
                    have e188w24 := congrArg Int32.toInt (hr_same1 hc (j := 24) (by decide +kernel))
                    have sm : ∀ j, j < 32 → j ∉ [13, 14, 24, 31] → pvv188 j = pvv j := fun j h1 h2 => (hr_sameX (l := [13, 14, 24, 31]) hc (by decide +kernel) j h1 h2).trans (sm j h1 h2)
                    exact l191 1 wh to pvv188 C162 _ _ _ (by omega) (by omega) (by omega) (by omega) sm (by omega) (fun t j h => by rw [c162, tk_unt h, c150, tk_unt h]) (fun j h => by rw [c162, tk_unj (by omega), c150, tk_unj (by omega)]) (by rw [show 3 * (C 12 41).toInt.toNat + 1 = z157.toInt.toNat by omega, c162, tk_us]; omega) hp hl hW hS
                  rcases List.mem_cons.mp hcs with rfl | hcs
                  · obtain ⟨hr, hq, hc⟩ := hca
                    obtain rfl := hr_rv0 hr
                    have hp := hr_std hp hc (by decide +kernel)
                    have e188w24 := congrArg Int32.toInt (hr_same1 hc (j := 24) (by decide +kernel))
                    have sm : ∀ j, j < 32 → j ∉ [13, 14, 24, 31] → pvv188 j = pvv j := fun j h1 h2 => (hr_sameX (l := [13, 14, 24, 31]) hc (by decide +kernel) j h1 h2).trans (sm j h1 h2)
                    exact l191 1 wh to pvv188 C162 _ _ _ (by omega) (by omega) (by omega) (by omega) sm (by omega) (fun t j h => by rw [c162, tk_unt h, c150, tk_unt h]) (fun j h => by rw [c162, tk_unj (by omega), c150, tk_unj (by omega)]) (by rw [show 3 * (C 12 41).toInt.toNat + 1 = z157.toInt.toNat by omega, c162, tk_us]; omega) hp hl hW hS
                  obtain rfl := List.mem_singleton.mp hcs
                  obtain ⟨hr, hq, hc⟩ := hca
                  obtain rfl := hr_rv0 hr
                  have hp := hr_std hp hc (by decide +kernel)
                  have e188w24 := congrArg Int32.toInt (hr_same1 hc (j := 24) (by decide +kernel))
                  have sm : ∀ j, j < 32 → j ∉ [13, 14, 24, 31] → pvv188 j = pvv j := fun j h1 h2 => (hr_sameX (l := [13, 14, 24, 31]) hc (by decide +kernel) j h1 h2).trans (sm j h1 h2)
                  exact l191 1 wh to pvv188 C162 _ _ _ (by omega) (by omega) (by omega) (by omega) sm (by omega) (fun t j h => by rw [c162, tk_unt h, c150, tk_unt h]) (fun j h => by rw [c162, tk_unj (by omega), c150, tk_unj (by omega)]) (by rw [show 3 * (C 12 41).toInt.toNat + 1 = z157.toInt.toNat by omega, c162, tk_us]; omega) hp hl hW hS
                · omega
            obtain rfl := List.mem_singleton.mp hcs
            obtain ⟨hr, hq, hc⟩ := hca
            obtain rfl := hr_rv0 hr
            have hp := hr_std hp hc (by decide +kernel)
            have e164w24 := congrArg Int32.toInt (hr_same1 hc (j := 24) (by decide +kernel))
            have sm : ∀ j, j < 32 → j ∉ [13, 14, 24, 31] → pvv164 j = pvv j := fun j h1 h2 => (hr_sameX (l := [13, 14, 24, 31]) hc (by decide +kernel) j h1 h2).trans (sm j h1 h2)
            refine lv_iload_n hx hb dX12_bookLine_167 rfl (lv_at hl 0 rfl) ?_
            refine hr_ne0 (tgt := 191) hx hb dX12_bookLine_168 (by decide) (fun h168 => ?_) (fun h168 => ?_)
            · exact l191 1 wh to pvv164 C162 _ _ _ (by omega) (by omega) (by omega) (by omega) sm (by omega) (fun t j h => by rw [c162, tk_unt h, c150, tk_unt h]) (fun j h => by rw [c162, tk_unj (by omega), c150, tk_unj (by omega)]) (by rw [show 3 * (C 12 41).toInt.toNat + 1 = z157.toInt.toNat by omega, c162, tk_us]; omega) hp hl hW hS
            · have hT : ∀ t j, t ≠ 36 → C162 t j = C t j := fun t j h => by rw [c162, tk_unt h, c150, tk_unt h]
              refine lv_aload_n hx hb dX12_bookLine_171 rfl (lv_at hl 2 rfl) ?_
              refine hr_ldc2 B hC hb (isL (by decide +kernel)) dX12_bookLine_172 (fun z172 => ?_)
              refine cm_callV (kc := kc_211) B rfl hb hl (hM.1 _ _ 0 [211] (isM (by decide +kernel)) 211 (by decide)) (hH1 _ tk_X1 211 (by decide)) (b := a0) (As := [.long z172]) ⟨hr_aR t0, hr_aL, True.intro⟩ hp hW hS rfl (by decide) (by decide) (Nat.le_of_ble_eq_true rfl) dX12_bookLine_175 (fun cs hcs r pvv175 H locs hca hW hS => ?_)
              rcases List.mem_cons.mp hcs with rfl | hcs
              · obtain ⟨hr, hq, hc⟩ := hca
                obtain ⟨z175, rfl, lz175, uz175⟩ := hr_rvI hr
                have hW := hr_pvE (hr_sameA hc rfl (by decide +kernel)) hW
                refine hr_ne0 (tgt := 187) hx hb dX12_bookLine_178 (by decide) (fun h178 => ?_) (fun h178 => ?_)
                · omega
                · refine lv_aload_n hx hb dX12_bookLine_181 rfl (lv_at hl 2 rfl) ?_
                  refine hr_ic hx hb dX12_bookLine_182 (by decide) (fun z182 hz182 => ?_)
                  refine cm_callV (kc := kc_205) B rfl hb hl (hM.1 _ _ 0 [205] (isM (by decide +kernel)) 205 (by decide)) (hH1 _ tk_X1 205 (by decide)) (b := a0) (As := [.int z182]) ⟨hr_aR t0, hr_aI (by omega) (by omega), True.intro⟩ hp hW hS rfl (by decide) (by decide) (Nat.le_of_ble_eq_true rfl) dX12_bookLine_183 (fun cs hcs r pvv183 H locs hca hW hS => ?_)
                  obtain rfl := List.mem_singleton.mp hcs
                  obtain ⟨hr, hq, hc⟩ := hca
                  obtain ⟨z183, rfl, lz183, uz183⟩ := hr_rvI hr
                  have hp := hr_std hp hc (by decide +kernel)
                  have e183w24 := congrArg Int32.toInt (hr_same1 hc (j := 24) (by decide +kernel))
                  have sm : ∀ j, j < 32 → j ∉ [13, 14, 24, 31] → pvv183 j = pvv j := fun j h1 h2 => (hr_sameX (l := [13, 14, 24, 31]) hc (by decide +kernel) j h1 h2).trans (sm j h1 h2)
                  exact hr_zret B hb rfl ⟨by omega, by omega⟩ ⟨hp, sm, z183, rfl, C162, rfl, hT, Or.inl (by omega)⟩ hW hS dX12_bookLine_186
              obtain rfl := List.mem_singleton.mp hcs
              obtain ⟨hr, hq, hc⟩ := hca
              obtain ⟨z175, rfl, lz175, uz175⟩ := hr_rvI hr
              have hW := hr_pvE (hr_sameA hc rfl (by decide +kernel)) hW
              refine hr_ne0 (tgt := 187) hx hb dX12_bookLine_178 (by decide) (fun h178 => ?_) (fun h178 => ?_)
              · refine lv_aload_n hx hb dX12_bookLine_187 rfl (lv_at hl 2 rfl) ?_
                refine cm_callV (kc := kc_209) B rfl hb hl (hM.1 _ _ 0 [209] (isM (by decide +kernel)) 209 (by decide)) (hH1 _ tk_X1 209 (by decide)) (b := a0) (As := []) ⟨hr_aR t0, True.intro⟩ hp hW hS rfl (by decide) (by decide) (Nat.le_of_ble_eq_true rfl) dX12_bookLine_188 (fun cs hcs r pvv188 H locs hca hW hS => ?_)
                rcases List.mem_cons.mp hcs with rfl | hcs
                · obtain ⟨hr, hq, hc⟩ := hca
                  obtain rfl := hr_rv0 hr
                  have hp := hr_std hp hc (by decide +kernel)
                  have e188w24 := congrArg Int32.toInt (hr_same1 hc (j := 24) (by decide +kernel))
                  have sm : ∀ j, j < 32 → j ∉ [13, 14, 24, 31] → pvv188 j = pvv j := fun j h1 h2 => (hr_sameX (l := [13, 14, 24, 31]) hc (by decide +kernel) j h1 h2).trans (sm j h1 h2)
                  exact l191 1 wh to pvv188 C162 _ _ _ (by omega) (by omega) (by omega) (by omega) sm (by omega) (fun t j h => by rw [c162, tk_unt h, c150, tk_unt h]) (fun j h => by rw [c162, tk_unj (by omega), c150, tk_unj (by omega)]) (by rw [show 3 * (C 12 41).toInt.toNat + 1 = z157.toInt.toNat by omega, c162, tk_us]; omega) hp hl hW hS
                rcases List.mem_cons.mp hcs with rfl | hcs
                · obtain ⟨hr, hq, hc⟩ := hca
                  obtain rfl := hr_rv0 hr
                  have hp := hr_std hp hc (by decide +kernel)
                  have e188w24 := congrArg Int32.toInt (hr_same1 hc (j := 24) (by decide +kernel))
                  have sm : ∀ j, j < 32 → j ∉ [13, 14, 24, 31] → pvv188 j = pvv j := fun j h1 h2 => (hr_sameX (l := [13, 14, 24, 31]) hc (by decide +kernel) j h1 h2).trans (sm j h1 h2)
                  exact l191 1 wh to pvv188 C162 _ _ _ (by omega) (by omega) (by omega) (by omega) sm (by omega) (fun t j h => by rw [c162, tk_unt h, c150, tk_unt h]) (fun j h => by rw [c162, tk_unj (by omega), c150, tk_unj (by omega)]) (by rw [show 3 * (C 12 41).toInt.toNat + 1 = z157.toInt.toNat by omega, c162, tk_us]; omega) hp hl hW hS
                rcases List.mem_cons.mp hcs with rfl | hcs
                · obtain ⟨hr, hq, hc⟩ := hca
                  obtain rfl := hr_rv0 hr
                  have hp := hr_std hp hc (by decide +kernel)
                  have e188w24 := congrArg Int32.toInt (hr_same1 hc (j := 24) (by decide +kernel))
                  have sm : ∀ j, j < 32 → j ∉ [13, 14, 24, 31] → pvv188 j = pvv j := fun j h1 h2 => (hr_sameX (l := [13, 14, 24, 31]) hc (by decide +kernel) j h1 h2).trans (sm j h1 h2)
                  exact l191 1 wh to pvv188 C162 _ _ _ (by omega) (by omega) (by omega) (by omega) sm (by omega) (fun t j h => by rw [c162, tk_unt h, c150, tk_unt h]) (fun j h => by rw [c162, tk_unj (by omega), c150, tk_unj (by omega)]) (by rw [show 3 * (C 12 41).toInt.toNat + 1 = z157.toInt.toNat by omega, c162, tk_us]; omega) hp hl hW hS
                obtain rfl := List.mem_singleton.mp hcs
                obtain ⟨hr, hq, hc⟩ := hca
                obtain rfl := hr_rv0 hr
                have hp := hr_std hp hc (by decide +kernel)
                have e188w24 := congrArg Int32.toInt (hr_same1 hc (j := 24) (by decide +kernel))
                have sm : ∀ j, j < 32 → j ∉ [13, 14, 24, 31] → pvv188 j = pvv j := fun j h1 h2 => (hr_sameX (l := [13, 14, 24, 31]) hc (by decide +kernel) j h1 h2).trans (sm j h1 h2)
                exact l191 1 wh to pvv188 C162 _ _ _ (by omega) (by omega) (by omega) (by omega) sm (by omega) (fun t j h => by rw [c162, tk_unt h, c150, tk_unt h]) (fun j h => by rw [c162, tk_unj (by omega), c150, tk_unj (by omega)]) (by rw [show 3 * (C 12 41).toInt.toNat + 1 = z157.toInt.toNat by omega, c162, tk_us]; omega) hp hl hW hS
              · omega
        · refine lv_aload_n hx hb dX12_bookLine_130 rfl (lv_at hl 2 rfl) ?_
          refine hr_ic hx hb dX12_bookLine_131 (by decide) (fun z131 hz131 => ?_)
          refine cm_callV (kc := kc_205) B rfl hb hl (hM.1 _ _ 0 [205] (isM (by decide +kernel)) 205 (by decide)) (hH1 _ tk_X1 205 (by decide)) (b := a0) (As := [.int z131]) ⟨hr_aR t0, hr_aI (by omega) (by omega), True.intro⟩ hp hW hS rfl (by decide) (by decide) (Nat.le_of_ble_eq_true rfl) dX12_bookLine_132 (fun cs hcs r pvv132 H locs hca hW hS => ?_)
          obtain rfl := List.mem_singleton.mp hcs
          obtain ⟨hr, hq, hc⟩ := hca
          obtain ⟨z132, rfl, lz132, uz132⟩ := hr_rvI hr
          have hp := hr_std hp hc (by decide +kernel)
          have e132w24 := congrArg Int32.toInt (hr_same1 hc (j := 24) (by decide +kernel))
          have sm : ∀ j, j < 32 → j ∉ [13, 14, 24, 31] → pvv132 j = pvv j := fun j h1 h2 => (hr_sameX (l := [13, 14, 24, 31]) hc (by decide +kernel) j h1 h2).trans (sm j h1 h2)
          exact hr_zret B hb rfl ⟨by omega, by omega⟩ ⟨hp, sm, z132, rfl, C, rfl, fun _ _ _ => rfl, Or.inl (by omega)⟩ hW hS dX12_bookLine_135
      · omega
  refine hr_ic hx hb dX12_bookLine_0 (by decide) (fun z0 hz0 => ?_)
  refine lv_aload_n hx hb dX12_bookLine_1 rfl (lv_at hl 0 rfl) ?_
  refine hr_getI B hF hb hW (ci := 12) (j := 41) (cd := 0) t0 rfl (isF (by decide +kernel)) rfl dX12_bookLine_2 (fun z2 lz2 uz2 pz2 xz2 => ?_)
  have xz2 := tk_xo xz2 (fun _ h => h) (pq := ck_prot1) (C := C) t0 (by decide); have kz2 := congrArg Int32.toInt xz2
  have e2 : z2.toInt = (C 12 41).toInt := by rw [kz2]
  refine hr_mulL hx hb dX12_bookLine_5 hz0 (by omega) (by omega) (fun z5 hz5 => ?_)
  refine lv_istore_n hx hb dX12_bookLine_6 rfl hl (lv' := [(1, .int z5), (0, .ref a0)]) (by decide) rfl (fun ls hl => ?_)
  refine lv_aload_n hx hb dX12_bookLine_7 rfl (lv_at hl 1 rfl) ?_
  refine hr_ldc2 B hC hb (isL (by decide +kernel)) dX12_bookLine_8 (fun z8 => ?_)
  refine cm_callV (kc := kc_211) B rfl hb hl (hM.1 _ _ 0 [211] (isM (by decide +kernel)) 211 (by decide)) (hH1 _ tk_X1 211 (by decide)) (b := a0) (As := [.long z8]) ⟨hr_aR t0, hr_aL, True.intro⟩ hp hW hS rfl (by decide) (by decide) (Nat.le_of_ble_eq_true rfl) dX12_bookLine_11 (fun cs hcs r pvv11 H locs hca hW hS => ?_)
  rcases List.mem_cons.mp hcs with rfl | hcs
  · obtain ⟨hr, hq, hc⟩ := hca
    obtain ⟨z11, rfl, lz11, uz11⟩ := hr_rvI hr
    have hW := hr_pvE (hr_sameA hc rfl (by decide +kernel)) hW
    refine hr_ne0 (tgt := 27) hx hb dX12_bookLine_14 (by decide) (fun h14 => ?_) (fun h14 => ?_)
    · omega
    · refine lv_aload_n hx hb dX12_bookLine_17 rfl (lv_at hl 1 rfl) ?_
      refine hr_ldc2 B hC hb (isL (by decide +kernel)) dX12_bookLine_18 (fun z18 => ?_)
      refine cm_callV (kc := kc_211) B rfl hb hl (hM.1 _ _ 0 [211] (isM (by decide +kernel)) 211 (by decide)) (hH1 _ tk_X1 211 (by decide)) (b := a0) (As := [.long z18]) ⟨hr_aR t0, hr_aL, True.intro⟩ hp hW hS rfl (by decide) (by decide) (Nat.le_of_ble_eq_true rfl) dX12_bookLine_21 (fun cs hcs r pvv21 H locs hca hW hS => ?_)
      rcases List.mem_cons.mp hcs with rfl | hcs
      · obtain ⟨hr, hq, hc⟩ := hca
        obtain ⟨z21, rfl, lz21, uz21⟩ := hr_rvI hr
        have hW := hr_pvE (hr_sameA hc rfl (by decide +kernel)) hW
        refine hr_eq0 (tgt := 69) hx hb dX12_bookLine_24 (by decide) (fun h24 => ?_) (fun h24 => ?_)
        · refine lv_aload_n hx hb dX12_bookLine_69 rfl (lv_at hl 1 rfl) ?_
          refine hr_ldc2 B hC hb (isL (by decide +kernel)) dX12_bookLine_70 (fun z70 => ?_)
          refine cm_callV (kc := kc_211) B rfl hb hl (hM.1 _ _ 0 [211] (isM (by decide +kernel)) 211 (by decide)) (hH1 _ tk_X1 211 (by decide)) (b := a0) (As := [.long z70]) ⟨hr_aR t0, hr_aL, True.intro⟩ hp hW hS rfl (by decide) (by decide) (Nat.le_of_ble_eq_true rfl) dX12_bookLine_73 (fun cs hcs r pvv73 H locs hca hW hS => ?_)
          rcases List.mem_cons.mp hcs with rfl | hcs
          · obtain ⟨hr, hq, hc⟩ := hca
            obtain ⟨z73, rfl, lz73, uz73⟩ := hr_rvI hr
            have hW := hr_pvE (hr_sameA hc rfl (by decide +kernel)) hW
            refine lv_istore_n hx hb dX12_bookLine_76 rfl hl (lv' := [(2, .int z73), (1, .int z5), (0, .ref a0)]) (by decide) rfl (fun ls hl => ?_)
            refine lv_iload_n hx hb dX12_bookLine_77 rfl (lv_at hl 0 rfl) ?_
            refine hr_eq0 (tgt := 96) hx hb dX12_bookLine_78 (by decide) (fun h78 => ?_) (fun h78 => ?_)
            · refine lv_iload_n hx hb dX12_bookLine_96 rfl (lv_at hl 0 rfl) ?_
              refine hr_eq0 (tgt := 104) hx hb dX12_bookLine_97 (by decide) (fun h97 => ?_) (fun h97 => ?_)
              · exact l104 1 z73 z5 pvv _ _ _ (by omega) (by omega) (by omega) (by omega) sm hp hl hW hS
              · omega
            · omega
          obtain rfl := List.mem_singleton.mp hcs
          obtain ⟨hr, hq, hc⟩ := hca
          obtain ⟨z73, rfl, lz73, uz73⟩ := hr_rvI hr
          have hW := hr_pvE (hr_sameA hc rfl (by decide +kernel)) hW
          refine lv_istore_n hx hb dX12_bookLine_76 rfl hl (lv' := [(2, .int z73), (1, .int z5), (0, .ref a0)]) (by decide) rfl (fun ls hl => ?_)
          refine lv_iload_n hx hb dX12_bookLine_77 rfl (lv_at hl 0 rfl) ?_
          refine hr_eq0 (tgt := 96) hx hb dX12_bookLine_78 (by decide) (fun h78 => ?_) (fun h78 => ?_)
          · omega
          · refine lv_aload_n hx hb dX12_bookLine_81 rfl (lv_at hl 2 rfl) ?_
            refine hr_getI B hF hb hW (ci := 12) (j := 41) (cd := 0) t0 rfl (isF (by decide +kernel)) rfl dX12_bookLine_82 (fun z82 lz82 uz82 pz82 xz82 => ?_)
            have xz82 := tk_xo xz82 (fun _ h => h) (pq := ck_prot1) (C := C) t0 (by decide); have kz82 := congrArg Int32.toInt xz82
            have e82 : z82.toInt = (C 12 41).toInt := by rw [kz82]
            refine hr_bp hx hb dX12_bookLine_85 (by decide) (by decide) (fun z85 hz85 => ?_)
            refine hr_ne (tgt := 96) hx hb dX12_bookLine_87 (by decide) (fun h87 => ?_) (fun h87 => ?_)
            · refine lv_iload_n hx hb dX12_bookLine_96 rfl (lv_at hl 0 rfl) ?_
              refine hr_eq0 (tgt := 104) hx hb dX12_bookLine_97 (by decide) (fun h97 => ?_) (fun h97 => ?_)
              · omega
              · refine lv_aload_n hx hb dX12_bookLine_100 rfl (lv_at hl 2 rfl) ?_
                refine cm_callV (kc := kc_209) B rfl hb hl (hM.1 _ _ 0 [209] (isM (by decide +kernel)) 209 (by decide)) (hH1 _ tk_X1 209 (by decide)) (b := a0) (As := []) ⟨hr_aR t0, True.intro⟩ hp hW hS rfl (by decide) (by decide) (Nat.le_of_ble_eq_true rfl) dX12_bookLine_101 (fun cs hcs r pvv101 H locs hca hW hS => ?_)
                rcases List.mem_cons.mp hcs with rfl | hcs
                · obtain ⟨hr, hq, hc⟩ := hca
                  obtain rfl := hr_rv0 hr
                  have hp := hr_std hp hc (by decide +kernel)
                  have e101w24 := congrArg Int32.toInt (hr_same1 hc (j := 24) (by decide +kernel))
                  have sm : ∀ j, j < 32 → j ∉ [13, 14, 24, 31] → pvv101 j = pvv j := fun j h1 h2 => (hr_sameX (l := [13, 14, 24, 31]) hc (by decide +kernel) j h1 h2).trans (sm j h1 h2)
                  exact l104 1 z73 z5 pvv101 _ _ _ (by omega) (by omega) (by omega) (by omega) sm hp hl hW hS
                rcases List.mem_cons.mp hcs with rfl | hcs
                · obtain ⟨hr, hq, hc⟩ := hca
                  obtain rfl := hr_rv0 hr
                  have hp := hr_std hp hc (by decide +kernel)
                  have e101w24 := congrArg Int32.toInt (hr_same1 hc (j := 24) (by decide +kernel))
                  have sm : ∀ j, j < 32 → j ∉ [13, 14, 24, 31] → pvv101 j = pvv j := fun j h1 h2 => (hr_sameX (l := [13, 14, 24, 31]) hc (by decide +kernel) j h1 h2).trans (sm j h1 h2)
                  exact l104 1 z73 z5 pvv101 _ _ _ (by omega) (by omega) (by omega) (by omega) sm hp hl hW hS
                rcases List.mem_cons.mp hcs with rfl | hcs
                · obtain ⟨hr, hq, hc⟩ := hca
                  obtain rfl := hr_rv0 hr
                  have hp := hr_std hp hc (by decide +kernel)
                  have e101w24 := congrArg Int32.toInt (hr_same1 hc (j := 24) (by decide +kernel))
                  have sm : ∀ j, j < 32 → j ∉ [13, 14, 24, 31] → pvv101 j = pvv j := fun j h1 h2 => (hr_sameX (l := [13, 14, 24, 31]) hc (by decide +kernel) j h1 h2).trans (sm j h1 h2)
                  exact l104 1 z73 z5 pvv101 _ _ _ (by omega) (by omega) (by omega) (by omega) sm hp hl hW hS
                obtain rfl := List.mem_singleton.mp hcs
                obtain ⟨hr, hq, hc⟩ := hca
                obtain rfl := hr_rv0 hr
                have hp := hr_std hp hc (by decide +kernel)
                have e101w24 := congrArg Int32.toInt (hr_same1 hc (j := 24) (by decide +kernel))
                have sm : ∀ j, j < 32 → j ∉ [13, 14, 24, 31] → pvv101 j = pvv j := fun j h1 h2 => (hr_sameX (l := [13, 14, 24, 31]) hc (by decide +kernel) j h1 h2).trans (sm j h1 h2)
                exact l104 1 z73 z5 pvv101 _ _ _ (by omega) (by omega) (by omega) (by omega) sm hp hl hW hS
            · refine lv_aload_n hx hb dX12_bookLine_90 rfl (lv_at hl 2 rfl) ?_
              refine hr_ic hx hb dX12_bookLine_91 (by decide) (fun z91 hz91 => ?_)
              refine cm_callV (kc := kc_205) B rfl hb hl (hM.1 _ _ 0 [205] (isM (by decide +kernel)) 205 (by decide)) (hH1 _ tk_X1 205 (by decide)) (b := a0) (As := [.int z91]) ⟨hr_aR t0, hr_aI (by omega) (by omega), True.intro⟩ hp hW hS rfl (by decide) (by decide) (Nat.le_of_ble_eq_true rfl) dX12_bookLine_92 (fun cs hcs r pvv92 H locs hca hW hS => ?_)
              obtain rfl := List.mem_singleton.mp hcs
              obtain ⟨hr, hq, hc⟩ := hca
              obtain ⟨z92, rfl, lz92, uz92⟩ := hr_rvI hr
              have hp := hr_std hp hc (by decide +kernel)
              have e92w24 := congrArg Int32.toInt (hr_same1 hc (j := 24) (by decide +kernel))
              have sm : ∀ j, j < 32 → j ∉ [13, 14, 24, 31] → pvv92 j = pvv j := fun j h1 h2 => (hr_sameX (l := [13, 14, 24, 31]) hc (by decide +kernel) j h1 h2).trans (sm j h1 h2)
              exact hr_zret B hb rfl ⟨by omega, by omega⟩ ⟨hp, sm, z92, rfl, C, rfl, fun _ _ _ => rfl, Or.inl (by omega)⟩ hW hS dX12_bookLine_95
        · omega
      obtain rfl := List.mem_singleton.mp hcs
      obtain ⟨hr, hq, hc⟩ := hca
      obtain ⟨z21, rfl, lz21, uz21⟩ := hr_rvI hr
      have hW := hr_pvE (hr_sameA hc rfl (by decide +kernel)) hW
      refine hr_eq0 (tgt := 69) hx hb dX12_bookLine_24 (by decide) (fun h24 => ?_) (fun h24 => ?_)
      · omega
      · refine lv_aload_n hx hb dX12_bookLine_27 rfl (lv_at hl 1 rfl) ?_
        refine hr_getI B hF hb hW (ci := 12) (j := 41) (cd := 0) t0 rfl (isF (by decide +kernel)) rfl dX12_bookLine_28 (fun z28 lz28 uz28 pz28 xz28 => ?_)
        have xz28 := tk_xo xz28 (fun _ h => h) (pq := ck_prot1) (C := C) t0 (by decide); have kz28 := congrArg Int32.toInt xz28
        have e28 : z28.toInt = (C 12 41).toInt := by rw [kz28]
        refine hr_bp hx hb dX12_bookLine_31 (by decide) (by decide) (fun z31 hz31 => ?_)
        refine hr_ne (tgt := 42) hx hb dX12_bookLine_33 (by decide) (fun h33 => ?_) (fun h33 => ?_)
        · refine lv_aload_n hx hb dX12_bookLine_42 rfl (lv_at hl 1 rfl) ?_
          refine hr_getR B hF hb hW (ci := 12) (j := 8) (cd := 3) t0 rfl (isF (by decide +kernel)) rfl dX12_bookLine_43 (fun az43 tz43 xz43 => ?_)
          refine lv_iload_n hx hb dX12_bookLine_46 rfl (lv_at hl 0 rfl) ?_
          refine lv_aload_n hx hb dX12_bookLine_47 rfl (lv_at hl 1 rfl) ?_
          refine hr_ldc2 B hC hb (isL (by decide +kernel)) dX12_bookLine_48 (fun z48 => ?_)
          refine cm_callV (kc := kc_211) B rfl hb hl (hM.1 _ _ 0 [211] (isM (by decide +kernel)) 211 (by decide)) (hH1 _ tk_X1 211 (by decide)) (b := a0) (As := [.long z48]) ⟨hr_aR t0, hr_aL, True.intro⟩ hp hW hS rfl (by decide) (by decide) (Nat.le_of_ble_eq_true rfl) dX12_bookLine_51 (fun cs hcs r pvv51 H locs hca hW hS => ?_)
          rcases List.mem_cons.mp hcs with rfl | hcs
          · obtain ⟨hr, hq, hc⟩ := hca
            obtain ⟨z51, rfl, lz51, uz51⟩ := hr_rvI hr
            have hW := hr_pvE (hr_sameA hc rfl (by decide +kernel)) hW
            refine hr_eq0 (tgt := 61) hx hb dX12_bookLine_54 (by decide) (fun h54 => ?_) (fun h54 => ?_)
            · refine hr_ic hx hb dX12_bookLine_61 (by decide) (fun z61 hz61 => ?_)
              refine hr_iastN B hb hU hW hS tz43 rfl (by omega) (by omega) ⟨ck_lo _, ck_hi _⟩ (tk_EA tz43 (fun a h => hun 36 (by decide) _ _ tz43 h)) (u := 0) (v := 134) (by omega) (by omega) (by decide) dX12_bookLine_62 (fun H locs hW hS => ?_)
              obtain ⟨C62, c62⟩ : ∃ f, f = tk_upd C 36 (z5.toInt.toNat) z61 := ⟨_, rfl⟩
              rw [← c62] at hW
              refine lv_aload_n hx hb dX12_bookLine_63 rfl (lv_at hl 1 rfl) ?_
              refine cm_callV (kc := kc_209) B rfl hb hl (hM.1 _ _ 0 [209] (isM (by decide +kernel)) 209 (by decide)) (hH1 _ tk_X1 209 (by decide)) (b := a0) (As := []) ⟨hr_aR t0, True.intro⟩ hp hW hS rfl (by decide) (by decide) (Nat.le_of_ble_eq_true rfl) dX12_bookLine_64 (fun cs hcs r pvv64 H locs hca hW hS => ?_)
              rcases List.mem_cons.mp hcs with rfl | hcs
              · obtain ⟨hr, hq, hc⟩ := hca
                obtain rfl := hr_rv0 hr
                have hp := hr_std hp hc (by decide +kernel)
                have e64w24 := congrArg Int32.toInt (hr_same1 hc (j := 24) (by decide +kernel))
                have sm : ∀ j, j < 32 → j ∉ [13, 14, 24, 31] → pvv64 j = pvv j := fun j h1 h2 => (hr_sameX (l := [13, 14, 24, 31]) hc (by decide +kernel) j h1 h2).trans (sm j h1 h2)
                refine hr_ic hx hb dX12_bookLine_67 (by decide) (fun z67 hz67 => ?_)
                refine hr_zret B hb rfl ⟨by omega, by omega⟩ ⟨hp, sm, z67, rfl, C62, rfl, fun t j h => by rw [c62, tk_unt h], Or.inr ⟨by omega, by omega, fun j hj => by rw [c62, tk_unj (by omega)], fun h9 => ?_⟩⟩ hW hS dX12_bookLine_68
                rw [show 3 * (C 12 41).toInt.toNat = z5.toInt.toNat by omega, c62, tk_us] at h9; omega
              rcases List.mem_cons.mp hcs with rfl | hcs
              · obtain ⟨hr, hq, hc⟩ := hca
                obtain rfl := hr_rv0 hr
                have hp := hr_std hp hc (by decide +kernel)
                have e64w24 := congrArg Int32.toInt (hr_same1 hc (j := 24) (by decide +kernel))
                have sm : ∀ j, j < 32 → j ∉ [13, 14, 24, 31] → pvv64 j = pvv j := fun j h1 h2 => (hr_sameX (l := [13, 14, 24, 31]) hc (by decide +kernel) j h1 h2).trans (sm j h1 h2)
                refine hr_ic hx hb dX12_bookLine_67 (by decide) (fun z67 hz67 => ?_)
                refine hr_zret B hb rfl ⟨by omega, by omega⟩ ⟨hp, sm, z67, rfl, C62, rfl, fun t j h => by rw [c62, tk_unt h], Or.inr ⟨by omega, by omega, fun j hj => by rw [c62, tk_unj (by omega)], fun h9 => ?_⟩⟩ hW hS dX12_bookLine_68
                rw [show 3 * (C 12 41).toInt.toNat = z5.toInt.toNat by omega, c62, tk_us] at h9; omega
              rcases List.mem_cons.mp hcs with rfl | hcs
              · obtain ⟨hr, hq, hc⟩ := hca
                obtain rfl := hr_rv0 hr
                have hp := hr_std hp hc (by decide +kernel)
                have e64w24 := congrArg Int32.toInt (hr_same1 hc (j := 24) (by decide +kernel))
                have sm : ∀ j, j < 32 → j ∉ [13, 14, 24, 31] → pvv64 j = pvv j := fun j h1 h2 => (hr_sameX (l := [13, 14, 24, 31]) hc (by decide +kernel) j h1 h2).trans (sm j h1 h2)
                refine hr_ic hx hb dX12_bookLine_67 (by decide) (fun z67 hz67 => ?_)
                refine hr_zret B hb rfl ⟨by omega, by omega⟩ ⟨hp, sm, z67, rfl, C62, rfl, fun t j h => by rw [c62, tk_unt h], Or.inr ⟨by omega, by omega, fun j hj => by rw [c62, tk_unj (by omega)], fun h9 => ?_⟩⟩ hW hS dX12_bookLine_68
                rw [show 3 * (C 12 41).toInt.toNat = z5.toInt.toNat by omega, c62, tk_us] at h9; omega
              obtain rfl := List.mem_singleton.mp hcs
              obtain ⟨hr, hq, hc⟩ := hca
              obtain rfl := hr_rv0 hr
              have hp := hr_std hp hc (by decide +kernel)
              have e64w24 := congrArg Int32.toInt (hr_same1 hc (j := 24) (by decide +kernel))
              have sm : ∀ j, j < 32 → j ∉ [13, 14, 24, 31] → pvv64 j = pvv j := fun j h1 h2 => (hr_sameX (l := [13, 14, 24, 31]) hc (by decide +kernel) j h1 h2).trans (sm j h1 h2)
              refine hr_ic hx hb dX12_bookLine_67 (by decide) (fun z67 hz67 => ?_)
              refine hr_zret B hb rfl ⟨by omega, by omega⟩ ⟨hp, sm, z67, rfl, C62, rfl, fun t j h => by rw [c62, tk_unt h], Or.inr ⟨by omega, by omega, fun j hj => by rw [c62, tk_unj (by omega)], fun h9 => ?_⟩⟩ hW hS dX12_bookLine_68
              rw [show 3 * (C 12 41).toInt.toNat = z5.toInt.toNat by omega, c62, tk_us] at h9; omega
            · omega
          obtain rfl := List.mem_singleton.mp hcs
          obtain ⟨hr, hq, hc⟩ := hca
          obtain ⟨z51, rfl, lz51, uz51⟩ := hr_rvI hr
          have hW := hr_pvE (hr_sameA hc rfl (by decide +kernel)) hW
          refine hr_eq0 (tgt := 61) hx hb dX12_bookLine_54 (by decide) (fun h54 => ?_) (fun h54 => ?_)
          · omega
          · refine hr_ic hx hb dX12_bookLine_57 (by decide) (fun z57 hz57 => ?_)
            refine lv_goto (tgt := 62) hx hb dX12_bookLine_58 (by decide) ?_
            refine hr_iastN B hb hU hW hS tz43 rfl (by omega) (by omega) ⟨ck_lo _, ck_hi _⟩ (tk_EA tz43 (fun a h => hun 36 (by decide) _ _ tz43 h)) (u := 0) (v := 134) (by omega) (by omega) (by decide) dX12_bookLine_62 (fun H locs hW hS => ?_)
            obtain ⟨C62, c62⟩ : ∃ f, f = tk_upd C 36 (z5.toInt.toNat) z57 := ⟨_, rfl⟩
            rw [← c62] at hW
            refine lv_aload_n hx hb dX12_bookLine_63 rfl (lv_at hl 1 rfl) ?_
            refine cm_callV (kc := kc_209) B rfl hb hl (hM.1 _ _ 0 [209] (isM (by decide +kernel)) 209 (by decide)) (hH1 _ tk_X1 209 (by decide)) (b := a0) (As := []) ⟨hr_aR t0, True.intro⟩ hp hW hS rfl (by decide) (by decide) (Nat.le_of_ble_eq_true rfl) dX12_bookLine_64 (fun cs hcs r pvv64 H locs hca hW hS => ?_)
            rcases List.mem_cons.mp hcs with rfl | hcs
            · obtain ⟨hr, hq, hc⟩ := hca
              obtain rfl := hr_rv0 hr
              have hp := hr_std hp hc (by decide +kernel)
              have e64w24 := congrArg Int32.toInt (hr_same1 hc (j := 24) (by decide +kernel))
              have sm : ∀ j, j < 32 → j ∉ [13, 14, 24, 31] → pvv64 j = pvv j := fun j h1 h2 => (hr_sameX (l := [13, 14, 24, 31]) hc (by decide +kernel) j h1 h2).trans (sm j h1 h2)
              refine hr_ic hx hb dX12_bookLine_67 (by decide) (fun z67 hz67 => ?_)
              refine hr_zret B hb rfl ⟨by omega, by omega⟩ ⟨hp, sm, z67, rfl, C62, rfl, fun t j h => by rw [c62, tk_unt h], Or.inr ⟨by omega, by omega, fun j hj => by rw [c62, tk_unj (by omega)], fun h9 => ?_⟩⟩ hW hS dX12_bookLine_68
              rw [show 3 * (C 12 41).toInt.toNat = z5.toInt.toNat by omega, c62, tk_us] at h9; omega
            rcases List.mem_cons.mp hcs with rfl | hcs
            · obtain ⟨hr, hq, hc⟩ := hca
              obtain rfl := hr_rv0 hr
              have hp := hr_std hp hc (by decide +kernel)
              have e64w24 := congrArg Int32.toInt (hr_same1 hc (j := 24) (by decide +kernel))
              have sm : ∀ j, j < 32 → j ∉ [13, 14, 24, 31] → pvv64 j = pvv j := fun j h1 h2 => (hr_sameX (l := [13, 14, 24, 31]) hc (by decide +kernel) j h1 h2).trans (sm j h1 h2)
              refine hr_ic hx hb dX12_bookLine_67 (by decide) (fun z67 hz67 => ?_)
              refine hr_zret B hb rfl ⟨by omega, by omega⟩ ⟨hp, sm, z67, rfl, C62, rfl, fun t j h => by rw [c62, tk_unt h], Or.inr ⟨by omega, by omega, fun j hj => by rw [c62, tk_unj (by omega)], fun h9 => ?_⟩⟩ hW hS dX12_bookLine_68
              rw [show 3 * (C 12 41).toInt.toNat = z5.toInt.toNat by omega, c62, tk_us] at h9; omega
            rcases List.mem_cons.mp hcs with rfl | hcs
            · obtain ⟨hr, hq, hc⟩ := hca
              obtain rfl := hr_rv0 hr
              have hp := hr_std hp hc (by decide +kernel)
              have e64w24 := congrArg Int32.toInt (hr_same1 hc (j := 24) (by decide +kernel))
              have sm : ∀ j, j < 32 → j ∉ [13, 14, 24, 31] → pvv64 j = pvv j := fun j h1 h2 => (hr_sameX (l := [13, 14, 24, 31]) hc (by decide +kernel) j h1 h2).trans (sm j h1 h2)
              refine hr_ic hx hb dX12_bookLine_67 (by decide) (fun z67 hz67 => ?_)
              refine hr_zret B hb rfl ⟨by omega, by omega⟩ ⟨hp, sm, z67, rfl, C62, rfl, fun t j h => by rw [c62, tk_unt h], Or.inr ⟨by omega, by omega, fun j hj => by rw [c62, tk_unj (by omega)], fun h9 => ?_⟩⟩ hW hS dX12_bookLine_68
              rw [show 3 * (C 12 41).toInt.toNat = z5.toInt.toNat by omega, c62, tk_us] at h9; omega
            obtain rfl := List.mem_singleton.mp hcs
            obtain ⟨hr, hq, hc⟩ := hca
            obtain rfl := hr_rv0 hr
            have hp := hr_std hp hc (by decide +kernel)
            have e64w24 := congrArg Int32.toInt (hr_same1 hc (j := 24) (by decide +kernel))
            have sm : ∀ j, j < 32 → j ∉ [13, 14, 24, 31] → pvv64 j = pvv j := fun j h1 h2 => (hr_sameX (l := [13, 14, 24, 31]) hc (by decide +kernel) j h1 h2).trans (sm j h1 h2)
            refine hr_ic hx hb dX12_bookLine_67 (by decide) (fun z67 hz67 => ?_)
            refine hr_zret B hb rfl ⟨by omega, by omega⟩ ⟨hp, sm, z67, rfl, C62, rfl, fun t j h => by rw [c62, tk_unt h], Or.inr ⟨by omega, by omega, fun j hj => by rw [c62, tk_unj (by omega)], fun h9 => ?_⟩⟩ hW hS dX12_bookLine_68
            rw [show 3 * (C 12 41).toInt.toNat = z5.toInt.toNat by omega, c62, tk_us] at h9; omega
        · refine lv_aload_n hx hb dX12_bookLine_36 rfl (lv_at hl 1 rfl) ?_
          refine hr_ic hx hb dX12_bookLine_37 (by decide) (fun z37 hz37 => ?_)
          refine cm_callV (kc := kc_205) B rfl hb hl (hM.1 _ _ 0 [205] (isM (by decide +kernel)) 205 (by decide)) (hH1 _ tk_X1 205 (by decide)) (b := a0) (As := [.int z37]) ⟨hr_aR t0, hr_aI (by omega) (by omega), True.intro⟩ hp hW hS rfl (by decide) (by decide) (Nat.le_of_ble_eq_true rfl) dX12_bookLine_38 (fun cs hcs r pvv38 H locs hca hW hS => ?_)
          obtain rfl := List.mem_singleton.mp hcs
          obtain ⟨hr, hq, hc⟩ := hca
          obtain ⟨z38, rfl, lz38, uz38⟩ := hr_rvI hr
          have hp := hr_std hp hc (by decide +kernel)
          have e38w24 := congrArg Int32.toInt (hr_same1 hc (j := 24) (by decide +kernel))
          have sm : ∀ j, j < 32 → j ∉ [13, 14, 24, 31] → pvv38 j = pvv j := fun j h1 h2 => (hr_sameX (l := [13, 14, 24, 31]) hc (by decide +kernel) j h1 h2).trans (sm j h1 h2)
          exact hr_zret B hb rfl ⟨by omega, by omega⟩ ⟨hp, sm, z38, rfl, C, rfl, fun _ _ _ => rfl, Or.inl (by omega)⟩ hW hS dX12_bookLine_41
  obtain rfl := List.mem_singleton.mp hcs
  obtain ⟨hr, hq, hc⟩ := hca
  obtain ⟨z11, rfl, lz11, uz11⟩ := hr_rvI hr
  have hW := hr_pvE (hr_sameA hc rfl (by decide +kernel)) hW
  refine hr_ne0 (tgt := 27) hx hb dX12_bookLine_14 (by decide) (fun h14 => ?_) (fun h14 => ?_)
  · refine lv_aload_n hx hb dX12_bookLine_27 rfl (lv_at hl 1 rfl) ?_
    refine hr_getI B hF hb hW (ci := 12) (j := 41) (cd := 0) t0 rfl (isF (by decide +kernel)) rfl dX12_bookLine_28 (fun z28 lz28 uz28 pz28 xz28 => ?_)
    have xz28 := tk_xo xz28 (fun _ h => h) (pq := ck_prot1) (C := C) t0 (by decide); have kz28 := congrArg Int32.toInt xz28
    have e28 : z28.toInt = (C 12 41).toInt := by rw [kz28]
    refine hr_bp hx hb dX12_bookLine_31 (by decide) (by decide) (fun z31 hz31 => ?_)
    refine hr_ne (tgt := 42) hx hb dX12_bookLine_33 (by decide) (fun h33 => ?_) (fun h33 => ?_)
    · refine lv_aload_n hx hb dX12_bookLine_42 rfl (lv_at hl 1 rfl) ?_
      refine hr_getR B hF hb hW (ci := 12) (j := 8) (cd := 3) t0 rfl (isF (by decide +kernel)) rfl dX12_bookLine_43 (fun az43 tz43 xz43 => ?_)
      refine lv_iload_n hx hb dX12_bookLine_46 rfl (lv_at hl 0 rfl) ?_
      refine lv_aload_n hx hb dX12_bookLine_47 rfl (lv_at hl 1 rfl) ?_
      refine hr_ldc2 B hC hb (isL (by decide +kernel)) dX12_bookLine_48 (fun z48 => ?_)
      refine cm_callV (kc := kc_211) B rfl hb hl (hM.1 _ _ 0 [211] (isM (by decide +kernel)) 211 (by decide)) (hH1 _ tk_X1 211 (by decide)) (b := a0) (As := [.long z48]) ⟨hr_aR t0, hr_aL, True.intro⟩ hp hW hS rfl (by decide) (by decide) (Nat.le_of_ble_eq_true rfl) dX12_bookLine_51 (fun cs hcs r pvv51 H locs hca hW hS => ?_)
      rcases List.mem_cons.mp hcs with rfl | hcs
      · obtain ⟨hr, hq, hc⟩ := hca
        obtain ⟨z51, rfl, lz51, uz51⟩ := hr_rvI hr
        have hW := hr_pvE (hr_sameA hc rfl (by decide +kernel)) hW
        refine hr_eq0 (tgt := 61) hx hb dX12_bookLine_54 (by decide) (fun h54 => ?_) (fun h54 => ?_)
        · refine hr_ic hx hb dX12_bookLine_61 (by decide) (fun z61 hz61 => ?_)
          refine hr_iastN B hb hU hW hS tz43 rfl (by omega) (by omega) ⟨ck_lo _, ck_hi _⟩ (tk_EA tz43 (fun a h => hun 36 (by decide) _ _ tz43 h)) (u := 0) (v := 134) (by omega) (by omega) (by decide) dX12_bookLine_62 (fun H locs hW hS => ?_)
          obtain ⟨C62, c62⟩ : ∃ f, f = tk_upd C 36 (z5.toInt.toNat) z61 := ⟨_, rfl⟩
          rw [← c62] at hW
          refine lv_aload_n hx hb dX12_bookLine_63 rfl (lv_at hl 1 rfl) ?_
          refine cm_callV (kc := kc_209) B rfl hb hl (hM.1 _ _ 0 [209] (isM (by decide +kernel)) 209 (by decide)) (hH1 _ tk_X1 209 (by decide)) (b := a0) (As := []) ⟨hr_aR t0, True.intro⟩ hp hW hS rfl (by decide) (by decide) (Nat.le_of_ble_eq_true rfl) dX12_bookLine_64 (fun cs hcs r pvv64 H locs hca hW hS => ?_)
          rcases List.mem_cons.mp hcs with rfl | hcs
          · obtain ⟨hr, hq, hc⟩ := hca
            obtain rfl := hr_rv0 hr
            have hp := hr_std hp hc (by decide +kernel)
            have e64w24 := congrArg Int32.toInt (hr_same1 hc (j := 24) (by decide +kernel))
            have sm : ∀ j, j < 32 → j ∉ [13, 14, 24, 31] → pvv64 j = pvv j := fun j h1 h2 => (hr_sameX (l := [13, 14, 24, 31]) hc (by decide +kernel) j h1 h2).trans (sm j h1 h2)
            refine hr_ic hx hb dX12_bookLine_67 (by decide) (fun z67 hz67 => ?_)
            refine hr_zret B hb rfl ⟨by omega, by omega⟩ ⟨hp, sm, z67, rfl, C62, rfl, fun t j h => by rw [c62, tk_unt h], Or.inr ⟨by omega, by omega, fun j hj => by rw [c62, tk_unj (by omega)], fun h9 => ?_⟩⟩ hW hS dX12_bookLine_68
            rw [show 3 * (C 12 41).toInt.toNat = z5.toInt.toNat by omega, c62, tk_us] at h9; omega
          rcases List.mem_cons.mp hcs with rfl | hcs
          · obtain ⟨hr, hq, hc⟩ := hca
            obtain rfl := hr_rv0 hr
            have hp := hr_std hp hc (by decide +kernel)
            have e64w24 := congrArg Int32.toInt (hr_same1 hc (j := 24) (by decide +kernel))
            have sm : ∀ j, j < 32 → j ∉ [13, 14, 24, 31] → pvv64 j = pvv j := fun j h1 h2 => (hr_sameX (l := [13, 14, 24, 31]) hc (by decide +kernel) j h1 h2).trans (sm j h1 h2)
            refine hr_ic hx hb dX12_bookLine_67 (by decide) (fun z67 hz67 => ?_)
            refine hr_zret B hb rfl ⟨by omega, by omega⟩ ⟨hp, sm, z67, rfl, C62, rfl, fun t j h => by rw [c62, tk_unt h], Or.inr ⟨by omega, by omega, fun j hj => by rw [c62, tk_unj (by omega)], fun h9 => ?_⟩⟩ hW hS dX12_bookLine_68
            rw [show 3 * (C 12 41).toInt.toNat = z5.toInt.toNat by omega, c62, tk_us] at h9; omega
          rcases List.mem_cons.mp hcs with rfl | hcs
          · obtain ⟨hr, hq, hc⟩ := hca
            obtain rfl := hr_rv0 hr
            have hp := hr_std hp hc (by decide +kernel)
            have e64w24 := congrArg Int32.toInt (hr_same1 hc (j := 24) (by decide +kernel))
            have sm : ∀ j, j < 32 → j ∉ [13, 14, 24, 31] → pvv64 j = pvv j := fun j h1 h2 => (hr_sameX (l := [13, 14, 24, 31]) hc (by decide +kernel) j h1 h2).trans (sm j h1 h2)
            refine hr_ic hx hb dX12_bookLine_67 (by decide) (fun z67 hz67 => ?_)
            refine hr_zret B hb rfl ⟨by omega, by omega⟩ ⟨hp, sm, z67, rfl, C62, rfl, fun t j h => by rw [c62, tk_unt h], Or.inr ⟨by omega, by omega, fun j hj => by rw [c62, tk_unj (by omega)], fun h9 => ?_⟩⟩ hW hS dX12_bookLine_68
            rw [show 3 * (C 12 41).toInt.toNat = z5.toInt.toNat by omega, c62, tk_us] at h9; omega
          obtain rfl := List.mem_singleton.mp hcs
          obtain ⟨hr, hq, hc⟩ := hca
          obtain rfl := hr_rv0 hr
          have hp := hr_std hp hc (by decide +kernel)
          have e64w24 := congrArg Int32.toInt (hr_same1 hc (j := 24) (by decide +kernel))
          have sm : ∀ j, j < 32 → j ∉ [13, 14, 24, 31] → pvv64 j = pvv j := fun j h1 h2 => (hr_sameX (l := [13, 14, 24, 31]) hc (by decide +kernel) j h1 h2).trans (sm j h1 h2)
          refine hr_ic hx hb dX12_bookLine_67 (by decide) (fun z67 hz67 => ?_)
          refine hr_zret B hb rfl ⟨by omega, by omega⟩ ⟨hp, sm, z67, rfl, C62, rfl, fun t j h => by rw [c62, tk_unt h], Or.inr ⟨by omega, by omega, fun j hj => by rw [c62, tk_unj (by omega)], fun h9 => ?_⟩⟩ hW hS dX12_bookLine_68
          rw [show 3 * (C 12 41).toInt.toNat = z5.toInt.toNat by omega, c62, tk_us] at h9; omega
        · omega
      obtain rfl := List.mem_singleton.mp hcs
      obtain ⟨hr, hq, hc⟩ := hca
      obtain ⟨z51, rfl, lz51, uz51⟩ := hr_rvI hr
      have hW := hr_pvE (hr_sameA hc rfl (by decide +kernel)) hW
      refine hr_eq0 (tgt := 61) hx hb dX12_bookLine_54 (by decide) (fun h54 => ?_) (fun h54 => ?_)
      · omega
      · refine hr_ic hx hb dX12_bookLine_57 (by decide) (fun z57 hz57 => ?_)
        refine lv_goto (tgt := 62) hx hb dX12_bookLine_58 (by decide) ?_
        refine hr_iastN B hb hU hW hS tz43 rfl (by omega) (by omega) ⟨ck_lo _, ck_hi _⟩ (tk_EA tz43 (fun a h => hun 36 (by decide) _ _ tz43 h)) (u := 0) (v := 134) (by omega) (by omega) (by decide) dX12_bookLine_62 (fun H locs hW hS => ?_)
        obtain ⟨C62, c62⟩ : ∃ f, f = tk_upd C 36 (z5.toInt.toNat) z57 := ⟨_, rfl⟩
        rw [← c62] at hW
        refine lv_aload_n hx hb dX12_bookLine_63 rfl (lv_at hl 1 rfl) ?_
        refine cm_callV (kc := kc_209) B rfl hb hl (hM.1 _ _ 0 [209] (isM (by decide +kernel)) 209 (by decide)) (hH1 _ tk_X1 209 (by decide)) (b := a0) (As := []) ⟨hr_aR t0, True.intro⟩ hp hW hS rfl (by decide) (by decide) (Nat.le_of_ble_eq_true rfl) dX12_bookLine_64 (fun cs hcs r pvv64 H locs hca hW hS => ?_)
        rcases List.mem_cons.mp hcs with rfl | hcs
        · obtain ⟨hr, hq, hc⟩ := hca
          obtain rfl := hr_rv0 hr
          have hp := hr_std hp hc (by decide +kernel)
          have e64w24 := congrArg Int32.toInt (hr_same1 hc (j := 24) (by decide +kernel))
          have sm : ∀ j, j < 32 → j ∉ [13, 14, 24, 31] → pvv64 j = pvv j := fun j h1 h2 => (hr_sameX (l := [13, 14, 24, 31]) hc (by decide +kernel) j h1 h2).trans (sm j h1 h2)
          refine hr_ic hx hb dX12_bookLine_67 (by decide) (fun z67 hz67 => ?_)
          refine hr_zret B hb rfl ⟨by omega, by omega⟩ ⟨hp, sm, z67, rfl, C62, rfl, fun t j h => by rw [c62, tk_unt h], Or.inr ⟨by omega, by omega, fun j hj => by rw [c62, tk_unj (by omega)], fun h9 => ?_⟩⟩ hW hS dX12_bookLine_68
          rw [show 3 * (C 12 41).toInt.toNat = z5.toInt.toNat by omega, c62, tk_us] at h9; omega
        rcases List.mem_cons.mp hcs with rfl | hcs
        · obtain ⟨hr, hq, hc⟩ := hca
          obtain rfl := hr_rv0 hr
          have hp := hr_std hp hc (by decide +kernel)
          have e64w24 := congrArg Int32.toInt (hr_same1 hc (j := 24) (by decide +kernel))
          have sm : ∀ j, j < 32 → j ∉ [13, 14, 24, 31] → pvv64 j = pvv j := fun j h1 h2 => (hr_sameX (l := [13, 14, 24, 31]) hc (by decide +kernel) j h1 h2).trans (sm j h1 h2)
          refine hr_ic hx hb dX12_bookLine_67 (by decide) (fun z67 hz67 => ?_)
          refine hr_zret B hb rfl ⟨by omega, by omega⟩ ⟨hp, sm, z67, rfl, C62, rfl, fun t j h => by rw [c62, tk_unt h], Or.inr ⟨by omega, by omega, fun j hj => by rw [c62, tk_unj (by omega)], fun h9 => ?_⟩⟩ hW hS dX12_bookLine_68
          rw [show 3 * (C 12 41).toInt.toNat = z5.toInt.toNat by omega, c62, tk_us] at h9; omega
        rcases List.mem_cons.mp hcs with rfl | hcs
        · obtain ⟨hr, hq, hc⟩ := hca
          obtain rfl := hr_rv0 hr
          have hp := hr_std hp hc (by decide +kernel)
          have e64w24 := congrArg Int32.toInt (hr_same1 hc (j := 24) (by decide +kernel))
          have sm : ∀ j, j < 32 → j ∉ [13, 14, 24, 31] → pvv64 j = pvv j := fun j h1 h2 => (hr_sameX (l := [13, 14, 24, 31]) hc (by decide +kernel) j h1 h2).trans (sm j h1 h2)
          refine hr_ic hx hb dX12_bookLine_67 (by decide) (fun z67 hz67 => ?_)
          refine hr_zret B hb rfl ⟨by omega, by omega⟩ ⟨hp, sm, z67, rfl, C62, rfl, fun t j h => by rw [c62, tk_unt h], Or.inr ⟨by omega, by omega, fun j hj => by rw [c62, tk_unj (by omega)], fun h9 => ?_⟩⟩ hW hS dX12_bookLine_68
          rw [show 3 * (C 12 41).toInt.toNat = z5.toInt.toNat by omega, c62, tk_us] at h9; omega
        obtain rfl := List.mem_singleton.mp hcs
        obtain ⟨hr, hq, hc⟩ := hca
        obtain rfl := hr_rv0 hr
        have hp := hr_std hp hc (by decide +kernel)
        have e64w24 := congrArg Int32.toInt (hr_same1 hc (j := 24) (by decide +kernel))
        have sm : ∀ j, j < 32 → j ∉ [13, 14, 24, 31] → pvv64 j = pvv j := fun j h1 h2 => (hr_sameX (l := [13, 14, 24, 31]) hc (by decide +kernel) j h1 h2).trans (sm j h1 h2)
        refine hr_ic hx hb dX12_bookLine_67 (by decide) (fun z67 hz67 => ?_)
        refine hr_zret B hb rfl ⟨by omega, by omega⟩ ⟨hp, sm, z67, rfl, C62, rfl, fun t j h => by rw [c62, tk_unt h], Or.inr ⟨by omega, by omega, fun j hj => by rw [c62, tk_unj (by omega)], fun h9 => ?_⟩⟩ hW hS dX12_bookLine_68
        rw [show 3 * (C 12 41).toInt.toNat = z5.toInt.toNat by omega, c62, tk_us] at h9; omega
    · refine lv_aload_n hx hb dX12_bookLine_36 rfl (lv_at hl 1 rfl) ?_
      refine hr_ic hx hb dX12_bookLine_37 (by decide) (fun z37 hz37 => ?_)
      refine cm_callV (kc := kc_205) B rfl hb hl (hM.1 _ _ 0 [205] (isM (by decide +kernel)) 205 (by decide)) (hH1 _ tk_X1 205 (by decide)) (b := a0) (As := [.int z37]) ⟨hr_aR t0, hr_aI (by omega) (by omega), True.intro⟩ hp hW hS rfl (by decide) (by decide) (Nat.le_of_ble_eq_true rfl) dX12_bookLine_38 (fun cs hcs r pvv38 H locs hca hW hS => ?_)
      obtain rfl := List.mem_singleton.mp hcs
      obtain ⟨hr, hq, hc⟩ := hca
      obtain ⟨z38, rfl, lz38, uz38⟩ := hr_rvI hr
      have hp := hr_std hp hc (by decide +kernel)
      have e38w24 := congrArg Int32.toInt (hr_same1 hc (j := 24) (by decide +kernel))
      have sm : ∀ j, j < 32 → j ∉ [13, 14, 24, 31] → pvv38 j = pvv j := fun j h1 h2 => (hr_sameX (l := [13, 14, 24, 31]) hc (by decide +kernel) j h1 h2).trans (sm j h1 h2)
      exact hr_zret B hb rfl ⟨by omega, by omega⟩ ⟨hp, sm, z38, rfl, C, rfl, fun _ _ _ => rfl, Or.inl (by omega)⟩ hW hS dX12_bookLine_41
  · omega
theorem dX12_does_0 : decode cX12_does 0 = .ok (.aload_n 0, 1) := by decide +kernel
theorem dX12_does_1 : decode cX12_does 1 = .ok (.getfield 40, 3) := by decide +kernel
theorem dX12_does_4 : decode cX12_does 4 = .ok (.iload_n 1, 1) := by decide +kernel
theorem dX12_does_5 : decode cX12_does 5 = .ok (.iconst 1, 1) := by decide +kernel
theorem dX12_does_6 : decode cX12_does 6 = .ok (.iadd, 1) := by decide +kernel
theorem dX12_does_7 : decode cX12_does 7 = .ok (.iaload, 1) := by decide +kernel
theorem dX12_does_8 : decode cX12_does 8 = .ok (.istore_n 2, 1) := by decide +kernel
theorem dX12_does_9 : decode cX12_does 9 = .ok (.aload_n 0, 1) := by decide +kernel
theorem dX12_does_10 : decode cX12_does 10 = .ok (.getfield 40, 3) := by decide +kernel
theorem dX12_does_13 : decode cX12_does 13 = .ok (.iload_n 1, 1) := by decide +kernel
theorem dX12_does_14 : decode cX12_does 14 = .ok (.iconst 2, 1) := by decide +kernel
theorem dX12_does_15 : decode cX12_does 15 = .ok (.iadd, 1) := by decide +kernel
theorem dX12_does_16 : decode cX12_does 16 = .ok (.iaload, 1) := by decide +kernel
theorem dX12_does_17 : decode cX12_does 17 = .ok (.istore_n 3, 1) := by decide +kernel
theorem dX12_does_18 : decode cX12_does 18 = .ok (.aload_n 0, 1) := by decide +kernel
theorem dX12_does_19 : decode cX12_does 19 = .ok (.getfield 40, 3) := by decide +kernel
theorem dX12_does_22 : decode cX12_does 22 = .ok (.iload_n 1, 1) := by decide +kernel
theorem dX12_does_23 : decode cX12_does 23 = .ok (.iaload, 1) := by decide +kernel
theorem dX12_does_24 : decode cX12_does 24 = .ok (.tableswitch 93 0 2 #[28, 57, 77], 28) := by decide +kernel
theorem dX12_does_52 : decode cX12_does 52 = .ok (.aload_n 0, 1) := by decide +kernel
theorem dX12_does_53 : decode cX12_does 53 = .ok (.iload_n 2, 1) := by decide +kernel
theorem dX12_does_54 : decode cX12_does 54 = .ok (.iload_n 3, 1) := by decide +kernel
theorem dX12_does_55 : decode cX12_does 55 = .ok (.invokevirtual 292, 3) := by decide +kernel
theorem dX12_does_58 : decode cX12_does 58 = .ok (.istore 4, 2) := by decide +kernel
theorem dX12_does_60 : decode cX12_does 60 = .ok (.iload 4, 2) := by decide +kernel
theorem dX12_does_62 : decode cX12_does 62 = .ok (.ifCond .ne 16, 3) := by decide +kernel
theorem dX12_does_65 : decode cX12_does 65 = .ok (.aload_n 0, 1) := by decide +kernel
theorem dX12_does_66 : decode cX12_does 66 = .ok (.getfield 33, 3) := by decide +kernel
theorem dX12_does_69 : decode cX12_does 69 = .ok (.sipush 146, 3) := by decide +kernel
theorem dX12_does_72 : decode cX12_does 72 = .ok (.iload_n 2, 1) := by decide +kernel
theorem dX12_does_73 : decode cX12_does 73 = .ok (.iadd, 1) := by decide +kernel
theorem dX12_does_74 : decode cX12_does 74 = .ok (.iload_n 3, 1) := by decide +kernel
theorem dX12_does_75 : decode cX12_does 75 = .ok (.iconst 1, 1) := by decide +kernel
theorem dX12_does_76 : decode cX12_does 76 = .ok (.iadd, 1) := by decide +kernel
theorem dX12_does_77 : decode cX12_does 77 = .ok (.iastore, 1) := by decide +kernel
theorem dX12_does_78 : decode cX12_does 78 = .ok (.iload 4, 2) := by decide +kernel
theorem dX12_does_80 : decode cX12_does 80 = .ok (.ireturn, 1) := by decide +kernel
theorem dX12_does_81 : decode cX12_does 81 = .ok (.aload_n 0, 1) := by decide +kernel
theorem dX12_does_82 : decode cX12_does 82 = .ok (.iload_n 2, 1) := by decide +kernel
theorem dX12_does_83 : decode cX12_does 83 = .ok (.iload_n 3, 1) := by decide +kernel
theorem dX12_does_84 : decode cX12_does 84 = .ok (.invokevirtual 317, 3) := by decide +kernel
theorem dX12_does_87 : decode cX12_does 87 = .ok (.ifCond .ne 6, 3) := by decide +kernel
theorem dX12_does_90 : decode cX12_does 90 = .ok (.bipush 12, 2) := by decide +kernel
theorem dX12_does_92 : decode cX12_does 92 = .ok (.ireturn, 1) := by decide +kernel
theorem dX12_does_93 : decode cX12_does 93 = .ok (.aload_n 0, 1) := by decide +kernel
theorem dX12_does_94 : decode cX12_does 94 = .ok (.iload_n 2, 1) := by decide +kernel
theorem dX12_does_95 : decode cX12_does 95 = .ok (.iload_n 3, 1) := by decide +kernel
theorem dX12_does_96 : decode cX12_does 96 = .ok (.invokevirtual 320, 3) := by decide +kernel
theorem dX12_does_99 : decode cX12_does 99 = .ok (.iconst 0, 1) := by decide +kernel
theorem dX12_does_100 : decode cX12_does 100 = .ok (.ireturn, 1) := by decide +kernel
theorem dX12_does_101 : decode cX12_does 101 = .ok (.aload_n 0, 1) := by decide +kernel
theorem dX12_does_102 : decode cX12_does 102 = .ok (.invokevirtual 311, 3) := by decide +kernel
theorem dX12_does_105 : decode cX12_does 105 = .ok (.ifCond .ne 6, 3) := by decide +kernel
theorem dX12_does_108 : decode cX12_does 108 = .ok (.bipush 11, 2) := by decide +kernel
theorem dX12_does_110 : decode cX12_does 110 = .ok (.ireturn, 1) := by decide +kernel
theorem dX12_does_111 : decode cX12_does 111 = .ok (.aload_n 0, 1) := by decide +kernel
theorem dX12_does_112 : decode cX12_does 112 = .ok (.invokevirtual 314, 3) := by decide +kernel
theorem dX12_does_115 : decode cX12_does 115 = .ok (.iconst 0, 1) := by decide +kernel
theorem dX12_does_116 : decode cX12_does 116 = .ok (.ireturn, 1) := by decide +kernel
theorem dX12_does_117 : decode cX12_does 117 = .ok (.aload_n 0, 1) := by decide +kernel
theorem dX12_does_118 : decode cX12_does 118 = .ok (.iconst 0, 1) := by decide +kernel
theorem dX12_does_119 : decode cX12_does 119 = .ok (.iconst 0, 1) := by decide +kernel
theorem dX12_does_120 : decode cX12_does 120 = .ok (.invokevirtual 354, 3) := by decide +kernel
theorem dX12_does_123 : decode cX12_does 123 = .ok (.aload_n 0, 1) := by decide +kernel
theorem dX12_does_124 : decode cX12_does 124 = .ok (.getfield 329, 3) := by decide +kernel
theorem dX12_does_127 : decode cX12_does 127 = .ok (.ifCond .le 14, 3) := by decide +kernel
theorem dX12_does_130 : decode cX12_does 130 = .ok (.aload_n 0, 1) := by decide +kernel
theorem dX12_does_131 : decode cX12_does 131 = .ok (.invokevirtual 373, 3) := by decide +kernel
theorem dX12_does_134 : decode cX12_does 134 = .ok (.ifCond .eq 7, 3) := by decide +kernel
theorem dX12_does_137 : decode cX12_does 137 = .ok (.iconst 0, 1) := by decide +kernel
theorem dX12_does_138 : decode cX12_does 138 = .ok (.goto 5, 3) := by decide +kernel
theorem dX12_does_141 : decode cX12_does 141 = .ok (.bipush 13, 2) := by decide +kernel
theorem dX12_does_143 : decode cX12_does 143 = .ok (.ireturn, 1) := by decide +kernel
set_option maxRecDepth 100000 in
set_option maxHeartbeats 4000000 in
theorem hs_does (hF : ck_LKf ck_LK) (hC : ck_LKc ck_LK) (hM : ck_LKm ck_tags ck_LK ck_tab) (hMh : ∀ q ∈ ck_hl, ck_mOK ck_tags q.1 q.2.1 q.2.2.1 q.2.2.2) (hU : ck_uq ty ck_pvs0) (hun : ck_un ty) (hH1 : ∀ Ex', ck_ExP ty ck_prot1 Ex' → ∀ j, j < 331 → ck_Holds l D cys ty ck_tags ck_pvs0 Ex' (ck_tab j)) {a0 : Nat} {x1 : Int32} (t0 : ty a0 = some 12) (hp : ck_pvo ty (ck_XE pvv) pPM pvv) (l1 : 0 ≤ x1.toInt) (u1 : x1.toInt ≤ 117) (hk : (C 36 x1.toInt.toNat).toInt = 0 → (0 ≤ (C 36 (x1.toInt.toNat + 1)).toInt ∧ (C 36 (x1.toInt.toNat + 1)).toInt ≤ 7) ∧ 0 ≤ (C 36 (x1.toInt.toNat + 2)).toInt ∧ (C 36 (x1.toInt.toNat + 2)).toInt ≤ 5) : hr_Met l D cys ty ck_tags ck_pvs0 (tk ty ck_prot1 C) kh_12_does [.ref a0, .int x1] pvv (fun r pvv' E' => ck_pvo ty (ck_XE pvv') pPM pvv' ∧ (∀ j, j < 32 → j ∉ [16] → pvv' j = pvv j) ∧ E' = tk ty ck_prot1 C ∧ ∃ z : Int32, r = some (.int z)) := by
  refine hr_enter (by decide +kernel) (by decide +kernel) (by decide +kernel) ⟨hr_aR t0, hr_aI l1 u1, True.intro⟩ ?_
  intro p e s m below meth c ls B hl hW
  have hx := B.1
  have hb : c.code = cX12_does := B.2.1
  have hI := pv_inj
  have hS : va_S (ck_own ty) s.heap s.heap [] := va_S.rf
  have hl : lv_has ls 5 [(0, .ref a0), (1, .int x1)] := hl
  have sm : ∀ j, j < 32 → j ∉ [16] → pvv j = pvv j := fun _ _ _ => rfl
  refine lv_aload_n hx hb dX12_does_0 rfl (lv_at hl 0 rfl) ?_
  refine hr_getR B hF hb hW (ci := 12) (j := 8) (cd := 3) t0 rfl (isF (by decide +kernel)) rfl dX12_does_1 (fun az1 tz1 xz1 => ?_)
  refine lv_iload_n hx hb dX12_does_4 rfl (lv_at hl 1 rfl) ?_
  refine hr_ic hx hb dX12_does_5 (by decide) (fun z5 hz5 => ?_)
  refine hr_add hx hb dX12_does_6 (by omega) (by omega) (fun z6 hz6 => ?_)
  refine hr_iald B hb hW tz1 rfl (by omega) (by omega) dX12_does_7 (fun z7 iz7 pz7 xz7 => ?_)
  have xz7 := tk_xa xz7 (fun _ h => h) (pq := ck_prot1) (C := C) tz1 ⟨(0, 134), by decide, by dsimp only; omega, by dsimp only; omega⟩; have kz7 := congrArg Int32.toInt xz7
  refine lv_istore_n hx hb dX12_does_8 rfl hl (lv' := [(2, .int z7), (0, .ref a0), (1, .int x1)]) (by decide) rfl (fun ls hl => ?_)
  refine lv_aload_n hx hb dX12_does_9 rfl (lv_at hl 1 rfl) ?_
  refine hr_getR B hF hb hW (ci := 12) (j := 8) (cd := 3) t0 rfl (isF (by decide +kernel)) rfl dX12_does_10 (fun az10 tz10 xz10 => ?_)
  refine lv_iload_n hx hb dX12_does_13 rfl (lv_at hl 2 rfl) ?_
  refine hr_ic hx hb dX12_does_14 (by decide) (fun z14 hz14 => ?_)
  refine hr_add hx hb dX12_does_15 (by omega) (by omega) (fun z15 hz15 => ?_)
  refine hr_iald B hb hW tz10 rfl (by omega) (by omega) dX12_does_16 (fun z16 iz16 pz16 xz16 => ?_)
  have xz16 := tk_xa xz16 (fun _ h => h) (pq := ck_prot1) (C := C) tz10 ⟨(0, 134), by decide, by dsimp only; omega, by dsimp only; omega⟩; have kz16 := congrArg Int32.toInt xz16
  refine lv_istore_n hx hb dX12_does_17 rfl hl (lv' := [(3, .int z16), (2, .int z7), (0, .ref a0), (1, .int x1)]) (by decide) rfl (fun ls hl => ?_)
  refine lv_aload_n hx hb dX12_does_18 rfl (lv_at hl 2 rfl) ?_
  refine hr_getR B hF hb hW (ci := 12) (j := 8) (cd := 3) t0 rfl (isF (by decide +kernel)) rfl dX12_does_19 (fun az19 tz19 xz19 => ?_)
  refine lv_iload_n hx hb dX12_does_22 rfl (lv_at hl 3 rfl) ?_
  refine hr_iald B hb hW tz19 rfl (by omega) (by omega) dX12_does_23 (fun z23 iz23 pz23 xz23 => ?_)
  have xz23 := tk_xa xz23 (fun _ h => h) (pq := ck_prot1) (C := C) tz19 ⟨(0, 134), by decide, by dsimp only; omega, by dsimp only; omega⟩; have kz23 := congrArg Int32.toInt xz23
  have e7 : z7.toInt = (C 36 (x1.toInt.toNat + 1)).toInt := by rw [kz7, show z6.toInt.toNat = x1.toInt.toNat + 1 by omega]
  have e16 : z16.toInt = (C 36 (x1.toInt.toNat + 2)).toInt := by rw [kz16, show z15.toInt.toNat = x1.toInt.toNat + 2 by omega]
  by_cases h24_0 : z23.toInt = 0
  · refine lv_tableIn (tgt := 52) hx hb dX12_does_24 (by omega) (by omega) (by rw [h24_0]; rfl) (by decide) ?_
    have hk := hk (by omega)
    refine lv_aload_n hx hb dX12_does_52 rfl (lv_at hl 2 rfl) ?_
    refine lv_iload_n hx hb dX12_does_53 rfl (lv_at hl 1 rfl) ?_
    refine lv_iload_n hx hb dX12_does_54 rfl (lv_at hl 0 rfl) ?_
    refine cm_callV (kc := kc_236) B rfl hb hl (hM.1 _ _ 0 [236] (isM (by decide +kernel)) 236 (by decide)) (hH1 _ tk_X1 236 (by decide)) (b := a0) (As := [.int z7, .int z16]) ⟨hr_aR t0, hr_aI (by omega) (by omega), hr_aI (by omega) (by omega), True.intro⟩ hp hW hS rfl (by decide) (by decide) (Nat.le_of_ble_eq_true rfl) dX12_does_55 (fun cs hcs r pvv55 H locs hca hW hS => ?_)
    obtain rfl := List.mem_singleton.mp hcs
    obtain ⟨hr, hq, hc⟩ := hca
    obtain ⟨z55, rfl, lz55, uz55⟩ := hr_rvI hr
    have hW := hr_pvE (hr_sameA hc rfl (by decide +kernel)) hW
    refine lv_istore hx hb dX12_does_58 hl (lv' := [(4, .int z55), (3, .int z16), (2, .int z7), (0, .ref a0), (1, .int x1)]) (by decide) rfl (fun ls hl => ?_)
    refine lv_iload hx hb dX12_does_60 (lv_at hl 0 rfl) ?_
    refine hr_ne0 (tgt := 78) hx hb dX12_does_62 (by decide) (fun h62 => ?_) (fun h62 => ?_)
    · refine lv_iload hx hb dX12_does_78 (lv_at hl 0 rfl) ?_
      exact hr_iret B hb rfl ⟨hp, sm, rfl, z55, rfl⟩ hW hS dX12_does_80
    · refine lv_aload_n hx hb dX12_does_65 rfl (lv_at hl 3 rfl) ?_
      refine hr_getR B hF hb hW (ci := 12) (j := 6) (cd := 3) t0 rfl (isF (by decide +kernel)) rfl dX12_does_66 (fun az66 tz66 xz66 => ?_)
      refine hr_sp hx hb dX12_does_69 (by decide) (by decide) (fun z69 hz69 => ?_)
      refine lv_iload_n hx hb dX12_does_72 rfl (lv_at hl 2 rfl) ?_
      refine hr_add hx hb dX12_does_73 (by omega) (by omega) (fun z73 hz73 => ?_)
      refine lv_iload_n hx hb dX12_does_74 rfl (lv_at hl 1 rfl) ?_
      refine hr_ic hx hb dX12_does_75 (by decide) (fun z75 hz75 => ?_)
      refine hr_add hx hb dX12_does_76 (by omega) (by omega) (fun z76 hz76 => ?_)
      refine hr_iastN B hb hU hW hS tz66 rfl (by omega) (by omega) (hr_ins (a := 146) (b := 153) (lo := 0) (hi := 6) (by omega) (by omega) (by decide +kernel) (by omega) (by omega)) (hr_EA (i := z73) (tk_X1 (C := C)) tz66 (u := 146) (v := 153) (by omega) (by omega) (by decide)) (u := 146) (v := 153) (by omega) (by omega) (by decide) dX12_does_77 (fun H locs hW hS => ?_)
      refine lv_iload hx hb dX12_does_78 (lv_at hl 0 rfl) ?_
      exact hr_iret B hb rfl ⟨hp, sm, rfl, z55, rfl⟩ hW hS dX12_does_80
  by_cases h24_1 : z23.toInt = 1
  · refine lv_tableIn (tgt := 81) hx hb dX12_does_24 (by omega) (by omega) (by rw [h24_1]; rfl) (by decide) ?_
    refine lv_aload_n hx hb dX12_does_81 rfl (lv_at hl 2 rfl) ?_
    refine lv_iload_n hx hb dX12_does_82 rfl (lv_at hl 1 rfl) ?_
    refine lv_iload_n hx hb dX12_does_83 rfl (lv_at hl 0 rfl) ?_
    refine cm_callV (kc := kc_229) B rfl hb hl (hM.1 _ _ 0 [229] (isM (by decide +kernel)) 229 (by decide)) (hH1 _ tk_X1 229 (by decide)) (b := a0) (As := [.int z7, .int z16]) ⟨hr_aR t0, hr_aF, hr_aF, True.intro⟩ hp hW hS rfl (by decide) (by decide) (Nat.le_of_ble_eq_true rfl) dX12_does_84 (fun cs hcs r pvv84 H locs hca hW hS => ?_)
    rcases List.mem_cons.mp hcs with rfl | hcs
    · obtain ⟨hr, hq, hc⟩ := hca
      obtain ⟨z84, rfl, lz84, uz84⟩ := hr_rvI hr
      have hW := hr_pvE (hr_sameA hc rfl (by decide +kernel)) hW
      refine hr_ne0 (tgt := 93) hx hb dX12_does_87 (by decide) (fun h87 => ?_) (fun h87 => ?_)
      · omega
      · refine hr_bp hx hb dX12_does_90 (by decide) (by decide) (fun z90 hz90 => ?_)
        exact hr_iret B hb rfl ⟨hp, sm, rfl, z90, rfl⟩ hW hS dX12_does_92
    obtain rfl := List.mem_singleton.mp hcs
    obtain ⟨hr, hq, hc⟩ := hca
    obtain ⟨z84, rfl, lz84, uz84⟩ := hr_rvI hr
    have hW := hr_pvE (hr_sameA hc rfl (by decide +kernel)) hW
    have hq84_1 := hr_q hq (i := 1) (lo := 0) (hi := 7) (by decide) rfl
    have hq84_2 := hr_q hq (i := 2) (lo := 0) (hi := 5) (by decide) rfl
    refine hr_ne0 (tgt := 93) hx hb dX12_does_87 (by decide) (fun h87 => ?_) (fun h87 => ?_)
    · refine lv_aload_n hx hb dX12_does_93 rfl (lv_at hl 2 rfl) ?_
      refine lv_iload_n hx hb dX12_does_94 rfl (lv_at hl 1 rfl) ?_
      refine lv_iload_n hx hb dX12_does_95 rfl (lv_at hl 0 rfl) ?_
      refine cm_callV (kc := kc_235) B rfl hb hl (hM.1 _ _ 0 [235] (isM (by decide +kernel)) 235 (by decide)) (hH1 _ tk_X1 235 (by decide)) (b := a0) (As := [.int z7, .int z16]) ⟨hr_aR t0, hr_aI (by omega) (by omega), hr_aF, True.intro⟩ hp hW hS rfl (by decide) (by decide) (Nat.le_of_ble_eq_true rfl) dX12_does_96 (fun cs hcs r pvv96 H locs hca hW hS => ?_)
      obtain rfl := List.mem_singleton.mp hcs
      obtain ⟨hr, hq, hc⟩ := hca
      obtain rfl := hr_rv0 hr
      have hW := hr_pvE (hr_sameA hc rfl (by decide +kernel)) hW
      refine hr_ic hx hb dX12_does_99 (by decide) (fun z99 hz99 => ?_)
      exact hr_iret B hb rfl ⟨hp, sm, rfl, z99, rfl⟩ hW hS dX12_does_100
    · omega
  by_cases h24_2 : z23.toInt = 2
  · refine lv_tableIn (tgt := 101) hx hb dX12_does_24 (by omega) (by omega) (by rw [h24_2]; rfl) (by decide) ?_
    refine lv_aload_n hx hb dX12_does_101 rfl (lv_at hl 2 rfl) ?_
    refine cm_callV (kc := kc_227) B rfl hb hl (hM.1 _ _ 0 [227] (isM (by decide +kernel)) 227 (by decide)) (hH1 _ tk_X1 227 (by decide)) (b := a0) (As := []) ⟨hr_aR t0, True.intro⟩ hp hW hS rfl (by decide) (by decide) (Nat.le_of_ble_eq_true rfl) dX12_does_102 (fun cs hcs r pvv102 H locs hca hW hS => ?_)
    rcases List.mem_cons.mp hcs with rfl | hcs
    · obtain ⟨hr, hq, hc⟩ := hca
      obtain ⟨z102, rfl, lz102, uz102⟩ := hr_rvI hr
      have hW := hr_pvE (hr_sameA hc rfl (by decide +kernel)) hW
      refine hr_ne0 (tgt := 111) hx hb dX12_does_105 (by decide) (fun h105 => ?_) (fun h105 => ?_)
      · omega
      · refine hr_bp hx hb dX12_does_108 (by decide) (by decide) (fun z108 hz108 => ?_)
        exact hr_iret B hb rfl ⟨hp, sm, rfl, z108, rfl⟩ hW hS dX12_does_110
    obtain rfl := List.mem_singleton.mp hcs
    have hp102 := hp
    obtain ⟨hr, hq, hc⟩ := hca
    obtain ⟨z102, rfl, lz102, uz102⟩ := hr_rvI hr
    have hp := hr_std hp hc (by decide +kernel)
    have hpR := hr_std2 (Q := k_pr (ck_tab 234)) hp102 hc (by decide +kernel)
    have sm : ∀ j, j < 32 → j ∉ [16] → pvv102 j = pvv j := fun j h1 h2 => (hr_sameX (l := [16]) hc (by decide +kernel) j h1 h2).trans (sm j h1 h2)
    refine hr_ne0 (tgt := 111) hx hb dX12_does_105 (by decide) (fun h105 => ?_) (fun h105 => ?_)
    · refine lv_aload_n hx hb dX12_does_111 rfl (lv_at hl 2 rfl) ?_
      refine cm_callV (kc := kc_234) B rfl hb hl (hM.1 _ _ 0 [234] (isM (by decide +kernel)) 234 (by decide)) (hH1 _ tk_X1 234 (by decide)) (b := a0) (As := []) ⟨hr_aR t0, True.intro⟩ hpR hW hS rfl (by decide) (by decide) (Nat.le_of_ble_eq_true rfl) dX12_does_112 (fun cs hcs r pvv112 H locs hca hW hS => ?_)
      obtain rfl := List.mem_singleton.mp hcs
      obtain ⟨hr, hq, hc⟩ := hca
      obtain rfl := hr_rv0 hr
      have hp := hr_std2 (Q := pPM) hpR hc (by decide +kernel)
      have sm : ∀ j, j < 32 → j ∉ [16] → pvv112 j = pvv j := fun j h1 h2 => (hr_sameX (l := [16]) hc (by decide +kernel) j h1 h2).trans (sm j h1 h2)
      refine hr_ic hx hb dX12_does_115 (by decide) (fun z115 hz115 => ?_)
      exact hr_iret B hb rfl ⟨hp, sm, rfl, z115, rfl⟩ hW hS dX12_does_116
    · omega
  refine lv_tableOut (tgt := 117) hx hb dX12_does_24 (by omega) (by decide) ?_
  refine lv_aload_n hx hb dX12_does_117 rfl (lv_at hl 2 rfl) ?_
  refine hr_ic hx hb dX12_does_118 (by decide) (fun z118 hz118 => ?_)
  refine hr_ic hx hb dX12_does_119 (by decide) (fun z119 hz119 => ?_)
  refine cm_callV (kc := kc_318) B rfl hb hl (hM.1 _ _ 0 [318] (isM (by decide +kernel)) 318 (by decide)) (hH1 _ tk_X1 318 (by decide)) (b := a0) (As := [.int z118, .int z119]) ⟨hr_aR t0, hr_aI (by omega) (by omega), hr_aF, True.intro⟩ hp hW hS rfl (by decide) (by decide) (Nat.le_of_ble_eq_true rfl) dX12_does_120 (fun cs hcs r pvv120 H locs hca hW hS => ?_)
  obtain rfl := List.mem_singleton.mp hcs
  obtain ⟨hr, hq, hc⟩ := hca
  obtain rfl := hr_rv0 hr
  have hW := hr_pvE (hr_sameA hc rfl (by decide +kernel)) hW
  refine lv_aload_n hx hb dX12_does_123 rfl (lv_at hl 2 rfl) ?_
  refine hr_getI B hF hb hW (ci := 12) (j := 26) (cd := 0) t0 rfl (isF (by decide +kernel)) rfl dX12_does_124 (fun z124 lz124 uz124 pz124 xz124 => ?_)
  refine hr_le0 (tgt := 141) hx hb dX12_does_127 (by decide) (fun h127 => ?_) (fun h127 => ?_)
  · refine hr_bp hx hb dX12_does_141 (by decide) (by decide) (fun z141 hz141 => ?_)
    exact hr_iret B hb rfl ⟨hp, sm, rfl, z141, rfl⟩ hW hS dX12_does_143
  · refine lv_aload_n hx hb dX12_does_130 rfl (lv_at hl 2 rfl) ?_
    refine cm_callV (kc := kc_320) B rfl hb hl (hM.1 _ _ 0 [320] (isM (by decide +kernel)) 320 (by decide)) (hH1 _ tk_X1 320 (by decide)) (b := a0) (As := []) ⟨hr_aR t0, True.intro⟩ hp hW hS rfl (by decide) (by decide) (Nat.le_of_ble_eq_true rfl) dX12_does_131 (fun cs hcs r pvv131 H locs hca hW hS => ?_)
    rcases List.mem_cons.mp hcs with rfl | hcs
    · obtain ⟨hr, hq, hc⟩ := hca
      obtain ⟨z131, rfl, lz131, uz131⟩ := hr_rvI hr
      have hW := hr_pvE (hr_sameA hc rfl (by decide +kernel)) hW
      refine hr_eq0 (tgt := 141) hx hb dX12_does_134 (by decide) (fun h134 => ?_) (fun h134 => ?_)
      · refine hr_bp hx hb dX12_does_141 (by decide) (by decide) (fun z141 hz141 => ?_)
        exact hr_iret B hb rfl ⟨hp, sm, rfl, z141, rfl⟩ hW hS dX12_does_143
      · omega
    obtain rfl := List.mem_singleton.mp hcs
    obtain ⟨hr, hq, hc⟩ := hca
    obtain ⟨z131, rfl, lz131, uz131⟩ := hr_rvI hr
    have hW := hr_pvE (hr_sameA hc rfl (by decide +kernel)) hW
    refine hr_eq0 (tgt := 141) hx hb dX12_does_134 (by decide) (fun h134 => ?_) (fun h134 => ?_)
    · omega
    · refine hr_ic hx hb dX12_does_137 (by decide) (fun z137 hz137 => ?_)
      refine lv_goto (tgt := 143) hx hb dX12_does_138 (by decide) ?_
      exact hr_iret B hb rfl ⟨hp, sm, rfl, z137, rfl⟩ hW hS dX12_does_143
end H34
