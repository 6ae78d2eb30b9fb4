/-! BY HAND, 17: book. -/
section H35
variable {l : Launch} {D : va_G} {cys : Nat → ClassId} {ty : Nat → Option Nat}
theorem hr_bk {f g : Nat → Int32} (h : ck_pvo ty (ck_XE f) pPM f) (hc : ck_pvo ty (ck_XE f) (pU.set 16 (.inl (0, 6, [(2036, 0, 0)]))) g) (h1 : 0 ≤ (g 16).toInt) (h2 : (g 16).toInt ≤ 6) (h3 : -6 ≤ (g 16).toInt - (g 17).toInt) (h4 : (g 16).toInt - (g 17).toInt ≤ 0) : ck_pvo ty (ck_XE g) pPM g := by
  have e : ∀ j, j < 32 → j ∉ [16] → g j = f j := hr_sameX hc (by decide +kernel)
  intro j av hj
  have hl : j < 32 := (List.getElem?_eq_some_iff.mp hj).1
  by_cases ej : j = 16
  · subst ej
    have hav : some (.inl (0, 6, [(2034, -6, 0)]) : ck_AV) = some av := hj
    cases hav
    exact hr_vd (q := 17) h1 h2 h3 h4
  · have e1 := e j hl (by simpa using ej)
    have key : (List.range 32).all (fun j => decide (j = 16) || (match pPM[j]? with
      | some (.inl r) => r.2.2.isEmpty
      | _ => false)) = true := by decide +kernel
    have k1 := List.all_eq_true.mp key j (List.mem_range.mpr hl)
    rw [hj] at k1
    simp only [ej, decide_false, Bool.false_or] at k1
    match av, k1, hj with
    | .inl r, k1, hj =>
      rw [e1]
      obtain ⟨y, ey, a1, a2, -⟩ := h j _ hj
      exact ⟨y, ey, a1, a2, fun d hd => by rw [List.isEmpty_iff.mp k1] at hd; cases hd⟩
theorem dX12_book_0 : decode cX12_book 0 = .ok (.aload_n 0, 1) := by decide +kernel
theorem dX12_book_1 : decode cX12_book 1 = .ok (.iconst 0, 1) := by decide +kernel
theorem dX12_book_2 : decode cX12_book 2 = .ok (.putfield 1, 3) := by decide +kernel
theorem dX12_book_5 : decode cX12_book 5 = .ok (.iload_n 1, 1) := by decide +kernel
theorem dX12_book_6 : decode cX12_book 6 = .ok (.iconst 0, 1) := by decide +kernel
theorem dX12_book_7 : decode cX12_book 7 = .ok (.iconst 1, 1) := by decide +kernel
theorem dX12_book_8 : decode cX12_book 8 = .ok (.invokestatic 198, 3) := by decide +kernel
theorem dX12_book_11 : decode cX12_book 11 = .ok (.ifCond .ne 7, 3) := by decide +kernel
theorem dX12_book_14 : decode cX12_book 14 = .ok (.sipush (-1000), 3) := by decide +kernel
theorem dX12_book_17 : decode cX12_book 17 = .ok (.ireturn, 1) := by decide +kernel
theorem dX12_book_18 : decode cX12_book 18 = .ok (.aload_n 0, 1) := by decide +kernel
theorem dX12_book_19 : decode cX12_book 19 = .ok (.sipush 400, 3) := by decide +kernel
theorem dX12_book_22 : decode cX12_book 22 = .ok (.invokevirtual 242, 3) := by decide +kernel
theorem dX12_book_25 : decode cX12_book 25 = .ok (.aload_n 0, 1) := by decide +kernel
theorem dX12_book_26 : decode cX12_book 26 = .ok (.iconst 0, 1) := by decide +kernel
theorem dX12_book_27 : decode cX12_book 27 = .ok (.putfield 183, 3) := by decide +kernel
theorem dX12_book_30 : decode cX12_book 30 = .ok (.aload_n 0, 1) := by decide +kernel
theorem dX12_book_31 : decode cX12_book 31 = .ok (.iconst 0, 1) := by decide +kernel
theorem dX12_book_32 : decode cX12_book 32 = .ok (.putfield 398, 3) := by decide +kernel
theorem dX12_book_35 : decode cX12_book 35 = .ok (.aload_n 0, 1) := by decide +kernel
theorem dX12_book_36 : decode cX12_book 36 = .ok (.invokevirtual 195, 3) := by decide +kernel
theorem dX12_book_39 : decode cX12_book 39 = .ok (.aload_n 0, 1) := by decide +kernel
theorem dX12_book_40 : decode cX12_book 40 = .ok (.getfield 166, 3) := by decide +kernel
theorem dX12_book_43 : decode cX12_book 43 = .ok (.ifCond .eq 40, 3) := by decide +kernel
theorem dX12_book_46 : decode cX12_book 46 = .ok (.aload_n 0, 1) := by decide +kernel
theorem dX12_book_47 : decode cX12_book 47 = .ok (.invokevirtual 401, 3) := by decide +kernel
theorem dX12_book_50 : decode cX12_book 50 = .ok (.ifCond .eq 12, 3) := by decide +kernel
theorem dX12_book_53 : decode cX12_book 53 = .ok (.aload_n 0, 1) := by decide +kernel
theorem dX12_book_54 : decode cX12_book 54 = .ok (.bipush 59, 2) := by decide +kernel
theorem dX12_book_56 : decode cX12_book 56 = .ok (.invokevirtual 251, 3) := by decide +kernel
theorem dX12_book_59 : decode cX12_book 59 = .ok (.ifCond .ne 11, 3) := by decide +kernel
theorem dX12_book_62 : decode cX12_book 62 = .ok (.bipush (-2), 2) := by decide +kernel
theorem dX12_book_64 : decode cX12_book 64 = .ok (.aload_n 0, 1) := by decide +kernel
theorem dX12_book_65 : decode cX12_book 65 = .ok (.getfield 186, 3) := by decide +kernel
theorem dX12_book_68 : decode cX12_book 68 = .ok (.isub, 1) := by decide +kernel
theorem dX12_book_69 : decode cX12_book 69 = .ok (.ireturn, 1) := by decide +kernel
theorem dX12_book_70 : decode cX12_book 70 = .ok (.aload_n 0, 1) := by decide +kernel
theorem dX12_book_71 : decode cX12_book 71 = .ok (.dup, 1) := by decide +kernel
theorem dX12_book_72 : decode cX12_book 72 = .ok (.getfield 398, 3) := by decide +kernel
theorem dX12_book_75 : decode cX12_book 75 = .ok (.iconst 1, 1) := by decide +kernel
theorem dX12_book_76 : decode cX12_book 76 = .ok (.iadd, 1) := by decide +kernel
theorem dX12_book_77 : decode cX12_book 77 = .ok (.putfield 398, 3) := by decide +kernel
theorem dX12_book_80 : decode cX12_book 80 = .ok (.goto (-41), 3) := by decide +kernel
theorem dX12_book_83 : decode cX12_book 83 = .ok (.aload_n 0, 1) := by decide +kernel
theorem dX12_book_84 : decode cX12_book 84 = .ok (.invokevirtual 370, 3) := by decide +kernel
theorem dX12_book_87 : decode cX12_book 87 = .ok (.iconst 0, 1) := by decide +kernel
theorem dX12_book_88 : decode cX12_book 88 = .ok (.istore_n 2, 1) := by decide +kernel
theorem dX12_book_89 : decode cX12_book 89 = .ok (.iload_n 2, 1) := by decide +kernel
theorem dX12_book_90 : decode cX12_book 90 = .ok (.iconst 4, 1) := by decide +kernel
theorem dX12_book_91 : decode cX12_book 91 = .ok (.if_icmp .ge 16, 3) := by decide +kernel
theorem dX12_book_94 : decode cX12_book 94 = .ok (.aload_n 0, 1) := by decide +kernel
theorem dX12_book_95 : decode cX12_book 95 = .ok (.getfield 83, 3) := by decide +kernel
theorem dX12_book_98 : decode cX12_book 98 = .ok (.iload_n 2, 1) := by decide +kernel
theorem dX12_book_99 : decode cX12_book 99 = .ok (.iconst 0, 1) := by decide +kernel
theorem dX12_book_100 : decode cX12_book 100 = .ok (.iastore, 1) := by decide +kernel
theorem dX12_book_101 : decode cX12_book 101 = .ok (.iinc 2 1, 3) := by decide +kernel
theorem dX12_book_104 : decode cX12_book 104 = .ok (.goto (-15), 3) := by decide +kernel
theorem dX12_book_107 : decode cX12_book 107 = .ok (.aload_n 0, 1) := by decide +kernel
theorem dX12_book_108 : decode cX12_book 108 = .ok (.getfield 33, 3) := by decide +kernel
theorem dX12_book_111 : decode cX12_book 111 = .ok (.sipush 141, 3) := by decide +kernel
theorem dX12_book_114 : decode cX12_book 114 = .ok (.iaload, 1) := by decide +kernel
theorem dX12_book_115 : decode cX12_book 115 = .ok (.istore_n 2, 1) := by decide +kernel
theorem dX12_book_116 : decode cX12_book 116 = .ok (.iconst (-1), 1) := by decide +kernel
theorem dX12_book_117 : decode cX12_book 117 = .ok (.istore_n 3, 1) := by decide +kernel
theorem dX12_book_118 : decode cX12_book 118 = .ok (.iconst 0, 1) := by decide +kernel
theorem dX12_book_119 : decode cX12_book 119 = .ok (.istore 4, 2) := by decide +kernel
theorem dX12_book_121 : decode cX12_book 121 = .ok (.iload 4, 2) := by decide +kernel
theorem dX12_book_123 : decode cX12_book 123 = .ok (.aload_n 0, 1) := by decide +kernel
theorem dX12_book_124 : decode cX12_book 124 = .ok (.getfield 398, 3) := by decide +kernel
theorem dX12_book_127 : decode cX12_book 127 = .ok (.if_icmp .ge 52, 3) := by decide +kernel
theorem dX12_book_130 : decode cX12_book 130 = .ok (.iload_n 3, 1) := by decide +kernel
theorem dX12_book_131 : decode cX12_book 131 = .ok (.ifCond .ge 48, 3) := by decide +kernel
theorem dX12_book_134 : decode cX12_book 134 = .ok (.aload_n 0, 1) := by decide +kernel
theorem dX12_book_135 : decode cX12_book 135 = .ok (.getfield 83, 3) := by decide +kernel
theorem dX12_book_138 : decode cX12_book 138 = .ok (.iconst 0, 1) := by decide +kernel
theorem dX12_book_139 : decode cX12_book 139 = .ok (.aload_n 0, 1) := by decide +kernel
theorem dX12_book_140 : decode cX12_book 140 = .ok (.iconst 3, 1) := by decide +kernel
theorem dX12_book_141 : decode cX12_book 141 = .ok (.iload 4, 2) := by decide +kernel
theorem dX12_book_143 : decode cX12_book 143 = .ok (.imul, 1) := by decide +kernel
theorem dX12_book_144 : decode cX12_book 144 = .ok (.invokevirtual 404, 3) := by decide +kernel
theorem dX12_book_147 : decode cX12_book 147 = .ok (.iastore, 1) := by decide +kernel
theorem dX12_book_148 : decode cX12_book 148 = .ok (.aload_n 0, 1) := by decide +kernel
theorem dX12_book_149 : decode cX12_book 149 = .ok (.getfield 83, 3) := by decide +kernel
theorem dX12_book_152 : decode cX12_book 152 = .ok (.iconst 0, 1) := by decide +kernel
theorem dX12_book_153 : decode cX12_book 153 = .ok (.iaload, 1) := by decide +kernel
theorem dX12_book_154 : decode cX12_book 154 = .ok (.ifCond .le 9, 3) := by decide +kernel
theorem dX12_book_157 : decode cX12_book 157 = .ok (.iload 4, 2) := by decide +kernel
theorem dX12_book_159 : decode cX12_book 159 = .ok (.istore_n 3, 1) := by decide +kernel
theorem dX12_book_160 : decode cX12_book 160 = .ok (.goto 13, 3) := by decide +kernel
theorem dX12_book_163 : decode cX12_book 163 = .ok (.aload_n 0, 1) := by decide +kernel
theorem dX12_book_164 : decode cX12_book 164 = .ok (.getfield 83, 3) := by decide +kernel
theorem dX12_book_167 : decode cX12_book 167 = .ok (.iconst 1, 1) := by decide +kernel
theorem dX12_book_168 : decode cX12_book 168 = .ok (.dup2, 1) := by decide +kernel
theorem dX12_book_169 : decode cX12_book 169 = .ok (.iaload, 1) := by decide +kernel
theorem dX12_book_170 : decode cX12_book 170 = .ok (.iconst 1, 1) := by decide +kernel
theorem dX12_book_171 : decode cX12_book 171 = .ok (.iadd, 1) := by decide +kernel
theorem dX12_book_172 : decode cX12_book 172 = .ok (.iastore, 1) := by decide +kernel
theorem dX12_book_173 : decode cX12_book 173 = .ok (.iinc 4 1, 3) := by decide +kernel
theorem dX12_book_176 : decode cX12_book 176 = .ok (.goto (-55), 3) := by decide +kernel
theorem dX12_book_179 : decode cX12_book 179 = .ok (.aload_n 0, 1) := by decide +kernel
theorem dX12_book_180 : decode cX12_book 180 = .ok (.getfield 83, 3) := by decide +kernel
theorem dX12_book_183 : decode cX12_book 183 = .ok (.iconst 2, 1) := by decide +kernel
theorem dX12_book_184 : decode cX12_book 184 = .ok (.aload_n 0, 1) := by decide +kernel
theorem dX12_book_185 : decode cX12_book 185 = .ok (.getfield 33, 3) := by decide +kernel
theorem dX12_book_188 : decode cX12_book 188 = .ok (.sipush 140, 3) := by decide +kernel
theorem dX12_book_191 : decode cX12_book 191 = .ok (.iaload, 1) := by decide +kernel
theorem dX12_book_192 : decode cX12_book 192 = .ok (.iastore, 1) := by decide +kernel
theorem dX12_book_193 : decode cX12_book 193 = .ok (.aload_n 0, 1) := by decide +kernel
theorem dX12_book_194 : decode cX12_book 194 = .ok (.getfield 83, 3) := by decide +kernel
theorem dX12_book_197 : decode cX12_book 197 = .ok (.iconst 3, 1) := by decide +kernel
theorem dX12_book_198 : decode cX12_book 198 = .ok (.aload_n 0, 1) := by decide +kernel
theorem dX12_book_199 : decode cX12_book 199 = .ok (.getfield 33, 3) := by decide +kernel
theorem dX12_book_202 : decode cX12_book 202 = .ok (.sipush 141, 3) := by decide +kernel
theorem dX12_book_205 : decode cX12_book 205 = .ok (.iaload, 1) := by decide +kernel
theorem dX12_book_206 : decode cX12_book 206 = .ok (.iload_n 2, 1) := by decide +kernel
theorem dX12_book_207 : decode cX12_book 207 = .ok (.isub, 1) := by decide +kernel
theorem dX12_book_208 : decode cX12_book 208 = .ok (.iastore, 1) := by decide +kernel
theorem dX12_book_209 : decode cX12_book 209 = .ok (.aload_n 0, 1) := by decide +kernel
theorem dX12_book_210 : decode cX12_book 210 = .ok (.iconst 1, 1) := by decide +kernel
theorem dX12_book_211 : decode cX12_book 211 = .ok (.putfield 407, 3) := by decide +kernel
theorem dX12_book_214 : decode cX12_book 214 = .ok (.iload_n 1, 1) := by decide +kernel
theorem dX12_book_215 : decode cX12_book 215 = .ok (.iconst 1, 1) := by decide +kernel
theorem dX12_book_216 : decode cX12_book 216 = .ok (.if_icmp .ne 56, 3) := by decide +kernel
theorem dX12_book_219 : decode cX12_book 219 = .ok (.aload_n 0, 1) := by decide +kernel
theorem dX12_book_220 : decode cX12_book 220 = .ok (.getfield 83, 3) := by decide +kernel
theorem dX12_book_223 : decode cX12_book 223 = .ok (.iconst 1, 1) := by decide +kernel
theorem dX12_book_224 : decode cX12_book 224 = .ok (.iaload, 1) := by decide +kernel
theorem dX12_book_225 : decode cX12_book 225 = .ok (.ifCond .le 47, 3) := by decide +kernel
theorem dX12_book_228 : decode cX12_book 228 = .ok (.aload_n 0, 1) := by decide +kernel
theorem dX12_book_229 : decode cX12_book 229 = .ok (.invokevirtual 295, 3) := by decide +kernel
theorem dX12_book_232 : decode cX12_book 232 = .ok (.iconst 0, 1) := by decide +kernel
theorem dX12_book_233 : decode cX12_book 233 = .ok (.istore 4, 2) := by decide +kernel
theorem dX12_book_235 : decode cX12_book 235 = .ok (.iload 4, 2) := by decide +kernel
theorem dX12_book_237 : decode cX12_book 237 = .ok (.bipush 46, 2) := by decide +kernel
theorem dX12_book_239 : decode cX12_book 239 = .ok (.if_icmp .ge 33, 3) := by decide +kernel
theorem dX12_book_242 : decode cX12_book 242 = .ok (.aload_n 0, 1) := by decide +kernel
theorem dX12_book_243 : decode cX12_book 243 = .ok (.getfield 50, 3) := by decide +kernel
theorem dX12_book_246 : decode cX12_book 246 = .ok (.bipush 46, 2) := by decide +kernel
theorem dX12_book_248 : decode cX12_book 248 = .ok (.aload_n 0, 1) := by decide +kernel
theorem dX12_book_249 : decode cX12_book 249 = .ok (.getfield 254, 3) := by decide +kernel
theorem dX12_book_252 : decode cX12_book 252 = .ok (.iconst 1, 1) := by decide +kernel
theorem dX12_book_253 : decode cX12_book 253 = .ok (.isub, 1) := by decide +kernel
theorem dX12_book_254 : decode cX12_book 254 = .ok (.imul, 1) := by decide +kernel
theorem dX12_book_255 : decode cX12_book 255 = .ok (.iload 4, 2) := by decide +kernel
theorem dX12_book_257 : decode cX12_book 257 = .ok (.iadd, 1) := by decide +kernel
theorem dX12_book_258 : decode cX12_book 258 = .ok (.aload_n 0, 1) := by decide +kernel
theorem dX12_book_259 : decode cX12_book 259 = .ok (.getfield 53, 3) := by decide +kernel
theorem dX12_book_262 : decode cX12_book 262 = .ok (.iload 4, 2) := by decide +kernel
theorem dX12_book_264 : decode cX12_book 264 = .ok (.iaload, 1) := by decide +kernel
theorem dX12_book_265 : decode cX12_book 265 = .ok (.iastore, 1) := by decide +kernel
theorem dX12_book_266 : decode cX12_book 266 = .ok (.iinc 4 1, 3) := by decide +kernel
theorem dX12_book_269 : decode cX12_book 269 = .ok (.goto (-34), 3) := by decide +kernel
theorem dX12_book_272 : decode cX12_book 272 = .ok (.iload_n 1, 1) := by decide +kernel
theorem dX12_book_273 : decode cX12_book 273 = .ok (.ifCond .ne 7, 3) := by decide +kernel
theorem dX12_book_276 : decode cX12_book 276 = .ok (.aload_n 0, 1) := by decide +kernel
theorem dX12_book_277 : decode cX12_book 277 = .ok (.invokevirtual 379, 3) := by decide +kernel
theorem dX12_book_280 : decode cX12_book 280 = .ok (.iload_n 3, 1) := by decide +kernel
theorem dX12_book_281 : decode cX12_book 281 = .ok (.ireturn, 1) := by decide +kernel
set_option maxRecDepth 100000 in
set_option maxHeartbeats 4000000 in
theorem hk_12_book (hF : ck_LKf ck_LK) (hM : ck_LKm ck_tags ck_LK ck_tab) (hU : ck_uq ty ck_pvs0) (hun : ck_un ty) (hC : ck_LKc ck_LK) (hMh : ∀ q ∈ ck_hl, ck_mOK ck_tags q.1 q.2.1 q.2.2.1 q.2.2.2) (hH1 : ∀ Ex', ck_ExP ty ck_prot1 Ex' → ∀ j, j < 331 → ck_Holds l D cys ty ck_tags ck_pvs0 Ex' (ck_tab j)) (hH : ∀ j, j < 337 → ck_Holds l D cys ty ck_tags ck_pvs0 (GE ty) (ck_tab j)) : ck_Holds l D cys ty ck_tags ck_pvs0 (GE ty) (ck_tab 337) := by
  refine cm_enter (by decide +kernel) (by decide +kernel) (by decide +kernel) ?_
  intro vs pvv0 p e s m below meth c ls ha hp B hl hW
  have hx := B.1
  have hb : c.code = cX12_book := B.2.1
  have hI := pv_inj
  have hS : va_S (ck_own ty) s.heap s.heap [] := va_S.rf
  obtain ⟨C, hG, hW⟩ := ge_out hW
  obtain ⟨_, _, rfl, ⟨a0, rfl, t0⟩, ⟨x1, rfl, l1, u1, -⟩⟩ := cm_a2 ha
  dsimp only at l1 u1
  have hl : lv_has ls 5 [(0, .ref a0), (1, .int x1)] := hl
  have hp0 := hp
  have hG0 := hG
  obtain ⟨G5, G1, G2, G3, G4⟩ := hG
  obtain ⟨bs, ts⟩ := hr_fld hW t0 rfl (j := 6) (t' := 34) rfl
  obtain ⟨x01, hx01⟩ : ∃ b : Prop, b = (0 ≤ x1.toInt ∧ x1.toInt ≤ 1) := ⟨_, rfl⟩
  have l272 : ∀ (n272 : Nat) (wr : Int32) (pvv : Nat → Int32) (ls : Array Slot) (H : Heap) (locs : List Loc), (0 : Int) < n272 → (0 ≤ x1.toInt ∧ x1.toInt ≤ 1) → (∀ j, j < 32 → j ∉ [11, 12, 13, 14, 24, 15, 16, 18, 31] → pvv j = pvv0 j) → ((pvv 11).toInt = 0) → ((pvv 18).toInt ≤ (pvv0 17).toInt) → (ck_pvo ty (ck_XE pvv) pPM pvv) → lv_has ls 5 [(3, .int wr), (1, .int x1), (0, .ref a0)] → ck_Wo D cys ty ck_tags ck_pvs0 (GE ty) pvv H → va_S (ck_own ty) s.heap H locs → W p l e (ck_rm (ck_tab 337)) s m [Value.ref a0, Value.int x1].toArray below meth c H locs 0 0 (MQ below (ck_Qc D cys ty ck_tags ck_pvs0 (GE ty) (ck_tab 337) [Value.ref a0, Value.int x1] pvv0) [Value.ref a0, Value.int x1].toArray s 0 0 (ck_own ty)) (F0 m 272 ls []) := by
    intro n272
    induction n272 with
    | zero => intro wr pvv ls H locs hm272 hX1 sm len hb18 hp hl hW hS; omega
    | succ n272 ih272 =>
      intro wr pvv ls H locs hm272 hX1 sm len hb18 hp hl hW hS
      refine lv_iload_n hx hb dX12_book_272 rfl (lv_at hl 1 rfl) ?_
      refine hr_ne0 (tgt := 280) hx hb dX12_book_273 (by decide) (fun h273 => ?_) (fun h273 => ?_)
      · refine lv_iload_n hx hb dX12_book_280 rfl (lv_at hl 0 rfl) ?_
        have r11 := hr_pv hp 11 (lo := 0) (hi := 940) rfl
        have r12 := hr_pv hp 12 (lo := 0) (hi := 940) rfl
        have r13 := hr_pv hp 13 (lo := 0) (hi := 940) rfl
        have r14 := hr_pv hp 14 (lo := 0) (hi := 4) rfl
        have r15 := hr_pv hp 15 (lo := 0) (hi := 8) rfl
        have r16 := hr_pv hp 16 (lo := 0) (hi := 6) rfl
        have r18 := hr_pv hp 18 (lo := 0) (hi := 6) rfl
        have r31 := hr_pv hp 31 (lo := 0) (hi := 4) rfl
        have rd := hr_pd hp 16 17 (lo := 0) (hi := 6) (a := -6) (b := 0) rfl (by decide)
        have rs := congrArg Int32.toInt (sm 17 (by decide) (by decide))
        refine cm_iret B hb rfl ⟨_, List.mem_cons_self, hr_aF (ty := ty), (fun q h => by obtain rfl := List.mem_singleton.mp h; exact ⟨x1, rfl, by show (0 : Int) ≤ _; omega, by show _ ≤ (1 : Int); omega⟩), ?_⟩ hW hS dX12_book_281
        refine hr_mk (n := 32) [11, 12, 13, 14, 24, 15, 16, 18, 31] hp0 sm (by decide +kernel) (fun j hj av hav => ?_)
        rcases List.mem_cons.mp hj with rfl | hj
        · have hav : some (.inl (0, 0, []) : ck_AV) = some av := hav
          cases hav
          exact hr_aI (by omega) (by omega)
        rcases List.mem_cons.mp hj with rfl | hj
        · have hav : some (.inl (0, 940, []) : ck_AV) = some av := hav
          cases hav
          exact hr_aI (by omega) (by omega)
        rcases List.mem_cons.mp hj with rfl | hj
        · have hav : some (.inl (0, 940, []) : ck_AV) = some av := hav
          cases hav
          exact hr_aI (by omega) (by omega)
        rcases List.mem_cons.mp hj with rfl | hj
        · have hav : some (.inl (0, 4, []) : ck_AV) = some av := hav
          cases hav
          exact hr_aI (by omega) (by omega)
        rcases List.mem_cons.mp hj with rfl | hj
        · have hav : some (.inl (-2147483648, 2147483647, []) : ck_AV) = some av := hav
          cases hav
          exact hr_aF
        rcases List.mem_cons.mp hj with rfl | hj
        · have hav : some (.inl (0, 8, []) : ck_AV) = some av := hav
          cases hav
          exact hr_aI (by omega) (by omega)
        rcases List.mem_cons.mp hj with rfl | hj
        · have hav : some (.inl (0, 6, [(2034, -6, 0)]) : ck_AV) = some av := hav
          cases hav
          exact hr_vd (q := 17) (by omega) (by omega) (by omega) (by omega)
        rcases List.mem_cons.mp hj with rfl | hj
        · have hav : some (.inl (0, 6, []) : ck_AV) = some av := hav
          cases hav
          exact hr_aI (by omega) (by omega)
        obtain rfl := List.mem_singleton.mp hj
        have hav : some (.inl (0, 4, []) : ck_AV) = some av := hav
        cases hav
        exact hr_aI (by omega) (by omega)
      · refine lv_aload_n hx hb dX12_book_276 rfl (lv_at hl 2 rfl) ?_
        refine cm_callV (kc := kc_204) B rfl hb hl (hM.1 _ _ 0 [204] (isM (by decide +kernel)) 204 (by decide)) (hH 204 (by decide)) (b := a0) (As := []) ⟨hr_aR t0, True.intro⟩ hp hW hS rfl (by decide) (by decide) (Nat.le_of_ble_eq_true rfl) dX12_book_277 (fun cs hcs r pvv277 H locs hca hW hS => ?_)
        obtain rfl := List.mem_singleton.mp hcs
        have rs := congrArg Int32.toInt (sm 17 (by decide) (by decide))
        have r18 := hr_pv hp 18 (lo := 0) (hi := 6) rfl
        have hp277 := hp
        obtain ⟨hr, hq, hc⟩ := hca
        obtain rfl := hr_rv0 hr
        have d16 := hr_pd hc 16 18 (lo := 0) (hi := 6) (a := 0) (b := 0) rfl (by decide)
        have d17 := congrArg Int32.toInt (hr_same1 hc (j := 17) (by decide +kernel))
        have r16 := hr_pv hc 16 (lo := 0) (hi := 6) rfl
        have r17 := hr_pv hp 17 (lo := 0) (hi := 6) rfl
        have hp : ck_pvo ty (ck_XE pvv277) pPM pvv277 := hr_bk hp277 hc (by omega) (by omega) (by omega) (by omega)
        have sm : ∀ j, j < 32 → j ∉ [11, 12, 13, 14, 24, 15, 16, 18, 31] → pvv277 j = pvv0 j := fun j h1 h2 => (hr_sameX (l := [11, 12, 13, 14, 24, 15, 16, 18, 31]) hc (by decide +kernel) j h1 h2).trans (sm j h1 h2)
        have len : (pvv277 11).toInt = 0 := by rw [hr_same1 hc (j := 11) (by decide +kernel)]; exact len
        refine lv_iload_n hx hb dX12_book_280 rfl (lv_at hl 0 rfl) ?_
        have r11 := hr_pv hp 11 (lo := 0) (hi := 940) rfl
        have r12 := hr_pv hp 12 (lo := 0) (hi := 940) rfl
        have r13 := hr_pv hp 13 (lo := 0) (hi := 940) rfl
        have r14 := hr_pv hp 14 (lo := 0) (hi := 4) rfl
        have r15 := hr_pv hp 15 (lo := 0) (hi := 8) rfl
        have r16 := hr_pv hp 16 (lo := 0) (hi := 6) rfl
        have r18 := hr_pv hp 18 (lo := 0) (hi := 6) rfl
        have r31 := hr_pv hp 31 (lo := 0) (hi := 4) rfl
        have rd := hr_pd hp 16 17 (lo := 0) (hi := 6) (a := -6) (b := 0) rfl (by decide)
        have rs := congrArg Int32.toInt (sm 17 (by decide) (by decide))
        refine cm_iret B hb rfl ⟨_, List.mem_cons_self, hr_aF (ty := ty), (fun q h => by obtain rfl := List.mem_singleton.mp h; exact ⟨x1, rfl, by show (0 : Int) ≤ _; omega, by show _ ≤ (1 : Int); omega⟩), ?_⟩ hW hS dX12_book_281
        refine hr_mk (n := 32) [11, 12, 13, 14, 24, 15, 16, 18, 31] hp0 sm (by decide +kernel) (fun j hj av hav => ?_)
        rcases List.mem_cons.mp hj with rfl | hj
        · have hav : some (.inl (0, 0, []) : ck_AV) = some av := hav
          cases hav
          exact hr_aI (by omega) (by omega)
        rcases List.mem_cons.mp hj with rfl | hj
        · have hav : some (.inl (0, 940, []) : ck_AV) = some av := hav
          cases hav
          exact hr_aI (by omega) (by omega)
        rcases List.mem_cons.mp hj with rfl | hj
        · have hav : some (.inl (0, 940, []) : ck_AV) = some av := hav
          cases hav
          exact hr_aI (by omega) (by omega)
        rcases List.mem_cons.mp hj with rfl | hj
        · have hav : some (.inl (0, 4, []) : ck_AV) = some av := hav
          cases hav
          exact hr_aI (by omega) (by omega)
        rcases List.mem_cons.mp hj with rfl | hj
        · have hav : some (.inl (-2147483648, 2147483647, []) : ck_AV) = some av := hav
          cases hav
          exact hr_aF
        rcases List.mem_cons.mp hj with rfl | hj
        · have hav : some (.inl (0, 8, []) : ck_AV) = some av := hav
          cases hav
          exact hr_aI (by omega) (by omega)
        rcases List.mem_cons.mp hj with rfl | hj
        · have hav : some (.inl (0, 6, [(2034, -6, 0)]) : ck_AV) = some av := hav
          cases hav
          exact hr_vd (q := 17) (by omega) (by omega) (by omega) (by omega)
        rcases List.mem_cons.mp hj with rfl | hj
        · have hav : some (.inl (0, 6, []) : ck_AV) = some av := hav
          cases hav
          exact hr_aI (by omega) (by omega)
        obtain rfl := List.mem_singleton.mp hj
        have hav : some (.inl (0, 4, []) : ck_AV) = some av := hav
        cases hav
        exact hr_aI (by omega) (by omega)
  have lu : ∀ (pvv : Nat → Int32) (C3 : Nat → Nat → Int32) (wr z0 : Int32) (ls : Array Slot) (H : Heap) (locs : List Loc), z0.toInt = 0 → (0 ≤ x1.toInt ∧ x1.toInt ≤ 1) → ck_pvo ty (ck_XE pvv) pPM pvv → (∀ j, j < 32 → j ∉ [11, 12, 13, 14, 24, 15, 16, 18, 31] → pvv j = pvv0 j) → (pvv 11).toInt = 0 → ((pvv 18).toInt ≤ (pvv0 17).toInt) → 1 ≤ (pvv 15).toInt → gC C3 → lv_has ls 5 [(4, .int z0), (3, .int wr), (1, .int x1), (0, .ref a0)] → ck_Wo D cys ty ck_tags ck_pvs0 (tk ty ck_prot1 C3) pvv H → va_S (ck_own ty) s.heap H locs → W p l e (ck_rm (ck_tab 337)) s m [Value.ref a0, Value.int x1].toArray below meth c H locs 0 0 (MQ below (ck_Qc D cys ty ck_tags ck_pvs0 (GE ty) (ck_tab 337) [Value.ref a0, Value.int x1] pvv0) [Value.ref a0, Value.int x1].toArray s 0 0 (ck_own ty)) (F0 m 235 ls []) := by
    intro pvv C3 wr z0 ls0 H0 locs0 hz0 hX1 hp sm len hb18 um1 hG3 hl0 hW0 hS0
    obtain ⟨G5, G1, G2, G3, G4⟩ := id hG3
    have k17 := congrArg Int32.toInt (hr_lnk hW0 (pq := ck_prot1) (fun _ h => h) ts (q := 17) (k := 3) rfl (by decide))
    have k15 := congrArg Int32.toInt (hr_lnk hW0 (pq := ck_prot1) (fun _ h => h) t0 (q := 15) (k := 22) rfl (by decide))
    have rs := congrArg Int32.toInt (sm 17 (by decide) (by decide))
    have r15 := hr_pv hp 15 (lo := 0) (hi := 8) rfl
    have r18 := hr_pv hp 18 (lo := 0) (hi := 6) rfl
    have l235 : ∀ (n235 : Nat) (i : Int32) (C2 : Nat → Nat → Int32) (ls : Array Slot) (H : Heap) (locs : List Loc), 46 - i.toInt < n235 → (0 ≤ i.toInt) → (i.toInt ≤ 46) → (∀ t j, t ≠ 37 → C2 t j = C3 t j) → (∀ j : Nat, (j : Int) < (pvv 15).toInt → (C2 37 (46 * j)).toInt ≤ (C3 34 3).toInt) → lv_has ls 5 [(4, .int i), (3, .int wr), (1, .int x1), (0, .ref a0)] → ck_Wo D cys ty ck_tags ck_pvs0 (tk ty ck_prot1 C2) pvv H → va_S (ck_own ty) s.heap H locs → W p l e (ck_rm (ck_tab 337)) s m [Value.ref a0, Value.int x1].toArray below meth c H locs 0 0 (MQ below (ck_Qc D cys ty ck_tags ck_pvs0 (GE ty) (ck_tab 337) [Value.ref a0, Value.int x1] pvv0) [Value.ref a0, Value.int x1].toArray s 0 0 (ck_own ty)) (F0 m 235 ls []) := by
      intro n235
      induction n235 with
      | zero => intro i C2 ls H locs hm235 i1 i2 hT hu hl hW hS; omega
      | succ n235 ih235 =>
        intro i C2 ls H locs hm235 i1 i2 hT hu hl hW hS
        refine lv_iload hx hb dX12_book_235 (lv_at hl 0 rfl) ?_
        refine hr_bp hx hb dX12_book_237 (by decide) (by decide) (fun z237 hz237 => ?_)
        refine hr_ge (tgt := 272) hx hb dX12_book_239 (by decide) (fun h239 => ?_) (fun h239 => ?_)
        · have hGn : gC C2 := by
            refine ⟨g5_of G5 (fun j => hT 15 j (by decide)) (fun j => hT 49 j (by decide)) (fun j => hT 16 j (by decide)) (fun j => hT 50 j (by decide)) (fun t j ht => hT t j (g6_ne ht (by decide))) (fun j _ => hT 34 j (by decide)), fun k hk => ?_, fun j hj => ?_, fun k hk hk2 => ?_, ?_⟩
            · rw [hT 0 0 (by decide)] at hk
              rw [hT 29 k (by decide), hT 30 k (by decide), hT 31 k (by decide)]
              exact G1 k hk
            · rw [hT 12 22 (by decide)] at hj
              rw [hT 34 3 (by decide)]
              exact hu j (by omega)
            · rw [hT 46 k (by decide)] at hk2
              rw [hT 45 _ (by decide), hT 45 _ (by decide)]
              refine ⟨(G3 k hk hk2).1, ?_⟩
              have e9 : (fun i => C2 45 (367 * k + 186 + i)) = (fun i => C3 45 (367 * k + 186 + i)) := funext (fun i => hT 45 _ (by decide))
              rw [e9]; exact (G3 k hk hk2).2
            · have e9 : (fun i => C2 34 (186 + i)) = (fun i => C3 34 (186 + i)) := funext (fun i => hT 34 _ (by decide))
              unfold g4C; rw [e9]; exact G4
          have hW := ge_in hW hGn
          exact l272 1 wr pvv _ _ _ (by decide) hX1 sm len hb18 hp (lv_sub hl [1, 2, 3] rfl) hW hS
        · refine lv_aload_n hx hb dX12_book_242 rfl (lv_at hl 3 rfl) ?_
          refine hr_getR B hF hb hW (ci := 12) (j := 20) (cd := 3) t0 rfl (isF (by decide +kernel)) rfl dX12_book_243 (fun az243 tz243 xz243 => ?_)
          refine hr_bp hx hb dX12_book_246 (by decide) (by decide) (fun z246 hz246 => ?_)
          refine lv_aload_n hx hb dX12_book_248 rfl (lv_at hl 3 rfl) ?_
          refine hr_getI B hF hb hW (ci := 12) (j := 22) (cd := 0) t0 rfl (isF (by decide +kernel)) rfl dX12_book_249 (fun z249 lz249 uz249 pz249 xz249 => ?_)
          have pz249 := congrArg Int32.toInt (pz249 15 rfl)
          have xz249 := tk_xo xz249 (fun _ h => h) (pq := ck_prot1) (C := C2) t0 (by decide); have kz249 := congrArg Int32.toInt xz249
          refine hr_ic hx hb dX12_book_252 (by decide) (fun z252 hz252 => ?_)
          refine hr_sub hx hb dX12_book_253 (by omega) (by omega) (fun z253 hz253 => ?_)
          refine hr_mulL hx hb dX12_book_254 hz246 (by omega) (by omega) (fun z254 hz254 => ?_)
          refine lv_iload hx hb dX12_book_255 (lv_at hl 0 rfl) ?_
          refine hr_add hx hb dX12_book_257 (by omega) (by omega) (fun z257 hz257 => ?_)
          refine lv_aload_n hx hb dX12_book_258 rfl (lv_at hl 3 rfl) ?_
          refine hr_getR B hF hb hW (ci := 12) (j := 21) (cd := 3) t0 rfl (isF (by decide +kernel)) rfl dX12_book_259 (fun az259 tz259 xz259 => ?_)
          refine lv_iload hx hb dX12_book_262 (lv_at hl 0 rfl) ?_
          refine hr_iald B hb hW tz259 rfl (by omega) (by omega) dX12_book_264 (fun z264 iz264 pz264 xz264 => ?_)
          have e1 := sg_US z253.toInt.toNat (by omega) i.toInt.toNat (by omega)
          have e2 := sg_BS i.toInt.toNat (by omega)
          rw [show 46 * z253.toInt.toNat + i.toInt.toNat = z257.toInt.toNat by omega] at e1
          refine hr_iastN (Ex' := tk ty ck_prot1 (tk_upd C2 37 (z257.toInt.toNat) z264)) B hb hU hW hS tz243 rfl (by omega) (by omega) (by unfold ck_in; rw [e1, ← e2]; exact iz264) (tk_EA tz243 (fun a h => hun 37 (by decide) _ _ tz243 h)) (u := 0) (v := 367) (by omega) (by omega) (by decide +kernel) dX12_book_265 (fun H locs hW hS => ?_)
          obtain ⟨C265, c265⟩ : ∃ f, f = tk_upd C2 37 (z257.toInt.toNat) z264 := ⟨_, rfl⟩
          rw [← c265] at hW
          refine hr_inc hx hb dX12_book_266 hl (kq := 0) (lv' := fun v => [(4, .int v), (3, .int wr), (1, .int x1), (0, .ref a0)]) rfl (by decide) (by decide) (by omega) (by omega) (fun _ => rfl) (fun z266 ls hz266 hl => ?_)
          refine lv_goto (tgt := 235) hx hb dX12_book_269 (by decide) ?_
          refine ih235 z266 C265 _ _ _ (by omega) (by omega) (by omega) (fun t j h => ?_) (fun j hj => ?_) (lv_sub hl [0, 1, 2, 3] rfl) hW hS
          · rw [c265, tk_unt h]; exact hT t j h
          · by_cases e9 : 46 * j = z257.toInt.toNat
            · rw [e9, c265, tk_us]
              have i0 : i.toInt = 0 := by omega
              have := congrArg Int32.toInt (pz264 18 (by rw [i0]; rfl))
              omega
            · rw [c265, tk_unj e9]; exact hu j hj
    exact l235 47 z0 C3 _ _ _ (by omega) (by omega) (by omega) (fun _ _ _ => rfl) (fun j hj => G2 j (by omega)) hl0 hW0 hS0
  have l121 : ∀ (n121 : Nat) (i : Int32) (wr : Int32) (had : Int32) (pvv : Nat → Int32) (C2 : Nat → Nat → Int32) (ls : Array Slot) (H : Heap) (locs : List Loc), (C2 12 41).toInt - i.toInt < n121 → (0 ≤ i.toInt) → (0 ≤ x1.toInt ∧ x1.toInt ≤ 1) → (∀ j, j < 32 → j ∉ [11, 12, 13, 14, 24, 15, 16, 18, 31] → pvv j = pvv0 j) → ((pvv 11).toInt = 0) → ((pvv 18).toInt ≤ (pvv0 17).toInt) → (∀ t j, t ≠ 36 → ¬ (t = 12 ∧ j = 41) → C2 t j = C t j) → (∀ i : Nat, (i : Int) < (C2 12 41).toInt → lineOK C2 i) → (0 ≤ (C2 12 41).toInt ∧ (C2 12 41).toInt ≤ 40) → (i.toInt ≤ (C2 12 41).toInt) → (ck_pvo ty (ck_XE pvv) pPM pvv) → lv_has ls 5 [(4, .int i), (3, .int wr), (2, .int had), (1, .int x1), (0, .ref a0)] → ck_Wo D cys ty ck_tags ck_pvs0 (tk ty ck_prot1 C2) pvv H → va_S (ck_own ty) s.heap H locs → W p l e (ck_rm (ck_tab 337)) s m [Value.ref a0, Value.int x1].toArray below meth c H locs 0 0 (MQ below (ck_Qc D cys ty ck_tags ck_pvs0 (GE ty) (ck_tab 337) [Value.ref a0, Value.int x1] pvv0) [Value.ref a0, Value.int x1].toArray s 0 0 (ck_own ty)) (F0 m 121 ls []) := by
    intro n121
    induction n121 with
    | zero => intro i wr had pvv C2 ls H locs hm121 i1 hX1 sm len hb18 hT hBL tl i2 hp hl hW hS; omega
    | succ n121 ih121 =>
      intro i wr had pvv C2 ls H locs hm121 i1 hX1 sm len hb18 hT hBL tl i2 hp hl hW hS
      refine lv_iload hx hb dX12_book_121 (lv_at hl 0 rfl) ?_
      refine lv_aload_n hx hb dX12_book_123 rfl (lv_at hl 4 rfl) ?_
      refine hr_getI B hF hb hW (ci := 12) (j := 41) (cd := 0) t0 rfl (isF (by decide +kernel)) rfl dX12_book_124 (fun z124 lz124 uz124 pz124 xz124 => ?_)
      have xz124 := tk_xo xz124 (fun _ h => h) (pq := ck_prot1) (C := C2) t0 (by decide); have kz124 := congrArg Int32.toInt xz124
      refine hr_ge (tgt := 179) hx hb dX12_book_127 (by decide) (fun h127 => ?_) (fun h127 => ?_)
      · refine lv_aload_n hx hb dX12_book_179 rfl (lv_at hl 4 rfl) ?_
        refine hr_getR B hF hb hW (ci := 12) (j := 42) (cd := 3) t0 rfl (isF (by decide +kernel)) rfl dX12_book_180 (fun az180 tz180 xz180 => ?_)
        refine hr_ic hx hb dX12_book_183 (by decide) (fun z183 hz183 => ?_)
        refine lv_aload_n hx hb dX12_book_184 rfl (lv_at hl 4 rfl) ?_
        refine hr_getR B hF hb hW (ci := 12) (j := 6) (cd := 3) t0 rfl (isF (by decide +kernel)) rfl dX12_book_185 (fun az185 tz185 xz185 => ?_)
        refine hr_sp hx hb dX12_book_188 (by decide) (by decide) (fun z188 hz188 => ?_)
        refine hr_iald B hb hW tz185 rfl (by omega) (by omega) dX12_book_191 (fun z191 iz191 pz191 xz191 => ?_)
        have iz191 := hr_inr iz191 (a := 140) (b := 140) (lo := 0) (hi := 6) (by omega) (by omega) (by decide +kernel)
        have pz191 := congrArg Int32.toInt (pz191 16 (by rw [show z188.toInt.toNat = 140 by omega]; rfl))
        refine hr_iastN B hb hU hW hS tz180 rfl (by omega) (by omega) ⟨ck_lo _, ck_hi _⟩ (hr_EA (i := z183) (tk_X1 (C := C2)) tz180 (u := 2) (v := 2) (by omega) (by omega) (by decide)) (u := 2) (v := 2) (by omega) (by omega) (by decide) dX12_book_192 (fun H locs hW hS => ?_)
        refine lv_aload_n hx hb dX12_book_193 rfl (lv_at hl 4 rfl) ?_
        refine hr_getR B hF hb hW (ci := 12) (j := 42) (cd := 3) t0 rfl (isF (by decide +kernel)) rfl dX12_book_194 (fun az194 tz194 xz194 => ?_)
        refine hr_ic hx hb dX12_book_197 (by decide) (fun z197 hz197 => ?_)
        refine lv_aload_n hx hb dX12_book_198 rfl (lv_at hl 4 rfl) ?_
        refine hr_getR B hF hb hW (ci := 12) (j := 6) (cd := 3) t0 rfl (isF (by decide +kernel)) rfl dX12_book_199 (fun az199 tz199 xz199 => ?_)
        refine hr_sp hx hb dX12_book_202 (by decide) (by decide) (fun z202 hz202 => ?_)
        refine hr_iald B hb hW tz199 rfl (by omega) (by omega) dX12_book_205 (fun z205 iz205 pz205 xz205 => ?_)
        refine lv_iload_n hx hb dX12_book_206 rfl (lv_at hl 2 rfl) ?_
        refine lv_isub hx hb dX12_book_207 (lv_topi (fun z207 hz207 => ?_))
        refine hr_iastN B hb hU hW hS tz194 rfl (by omega) (by omega) ⟨ck_lo _, ck_hi _⟩ (hr_EA (i := z197) (tk_X1 (C := C2)) tz194 (u := 3) (v := 3) (by omega) (by omega) (by decide)) (u := 3) (v := 3) (by omega) (by omega) (by decide) dX12_book_208 (fun H locs hW hS => ?_)
        refine lv_aload_n hx hb dX12_book_209 rfl (lv_at hl 4 rfl) ?_
        refine hr_ic hx hb dX12_book_210 (by decide) (fun z210 hz210 => ?_)
        refine hr_putN B hF hb hU hW hS (ci := 12) (j := 43) (cd := 1) t0 rfl (isF (by decide +kernel)) rfl (by omega) (by omega) (Or.inr ⟨rfl, by omega, by omega⟩) (hr_EO (tk_X1 (C := C2)) t0 (by decide)) (by decide) dX12_book_211 (fun H locs hW hS => ?_)
        refine lv_iload_n hx hb dX12_book_214 rfl (lv_at hl 3 rfl) ?_
        refine hr_ic hx hb dX12_book_215 (by decide) (fun z215 hz215 => ?_)
        refine hr_ne (tgt := 272) hx hb dX12_book_216 (by decide) (fun h216 => ?_) (fun h216 => ?_)
        · have hGn : gC C2 := by
            refine ⟨g5_of G5 (fun j => hT 15 j (by decide) (by simp)) (fun j => hT 49 j (by decide) (by simp)) (fun j => hT 16 j (by decide) (by simp)) (fun j => hT 50 j (by decide) (by simp)) (fun t j ht => hT t j (g6_ne ht (by decide)) (fun q => g6_ne ht (n := 12) (by decide) q.1)) (fun j _ => hT 34 j (by decide) (by simp)), fun k hk => ?_, fun j hj => ?_, fun k hk hk2 => ?_, ?_⟩
            · rw [hT 0 0 (by decide) (by decide)] at hk
              rw [hT 29 k (by decide) (by simp), hT 30 k (by decide) (by simp), hT 31 k (by decide) (by simp)]
              exact G1 k hk
            · rw [hT 12 22 (by decide) (by decide)] at hj
              rw [hT 37 _ (by decide) (by simp), hT 34 _ (by decide) (by simp)]
              exact G2 j hj
            · rw [hT 46 k (by decide) (by simp)] at hk2
              rw [hT 45 _ (by decide) (by simp), hT 45 _ (by decide) (by simp)]
              refine ⟨(G3 k hk hk2).1, ?_⟩
              have e9 : (fun i => C2 45 (367 * k + 186 + i)) = (fun i => C 45 (367 * k + 186 + i)) := funext (fun i => hT 45 _ (by decide) (by simp))
              rw [e9]; exact (G3 k hk hk2).2
            · have e9 : (fun i => C2 34 (186 + i)) = (fun i => C 34 (186 + i)) := funext (fun i => hT 34 _ (by decide) (by simp))
              unfold g4C; rw [e9]; exact G4
          have hW := ge_in hW hGn
          exact l272 1 wr pvv _ _ _ (by decide) hX1 sm len hb18 hp (lv_sub hl [1, 3, 4] rfl) hW hS
        · refine lv_aload_n hx hb dX12_book_219 rfl (lv_at hl 4 rfl) ?_
          refine hr_getR B hF hb hW (ci := 12) (j := 42) (cd := 3) t0 rfl (isF (by decide +kernel)) rfl dX12_book_220 (fun az220 tz220 xz220 => ?_)
          refine hr_ic hx hb dX12_book_223 (by decide) (fun z223 hz223 => ?_)
          refine hr_iald B hb hW tz220 rfl (by omega) (by omega) dX12_book_224 (fun z224 iz224 pz224 xz224 => ?_)
          refine hr_le0 (tgt := 272) hx hb dX12_book_225 (by decide) (fun h225 => ?_) (fun h225 => ?_)
          · have hGn : gC C2 := by
              refine ⟨g5_of G5 (fun j => hT 15 j (by decide) (by simp)) (fun j => hT 49 j (by decide) (by simp)) (fun j => hT 16 j (by decide) (by simp)) (fun j => hT 50 j (by decide) (by simp)) (fun t j ht => hT t j (g6_ne ht (by decide)) (fun q => g6_ne ht (n := 12) (by decide) q.1)) (fun j _ => hT 34 j (by decide) (by simp)), fun k hk => ?_, fun j hj => ?_, fun k hk hk2 => ?_, ?_⟩
              · rw [hT 0 0 (by decide) (by decide)] at hk
                rw [hT 29 k (by decide) (by simp), hT 30 k (by decide) (by simp), hT 31 k (by decide) (by simp)]
                exact G1 k hk
              · rw [hT 12 22 (by decide) (by decide)] at hj
                rw [hT 37 _ (by decide) (by simp), hT 34 _ (by decide) (by simp)]
                exact G2 j hj
              · rw [hT 46 k (by decide) (by simp)] at hk2
                rw [hT 45 _ (by decide) (by simp), hT 45 _ (by decide) (by simp)]
                refine ⟨(G3 k hk hk2).1, ?_⟩
                have e9 : (fun i => C2 45 (367 * k + 186 + i)) = (fun i => C 45 (367 * k + 186 + i)) := funext (fun i => hT 45 _ (by decide) (by simp))
                rw [e9]; exact (G3 k hk hk2).2
              · have e9 : (fun i => C2 34 (186 + i)) = (fun i => C 34 (186 + i)) := funext (fun i => hT 34 _ (by decide) (by simp))
                unfold g4C; rw [e9]; exact G4
            have hW := ge_in hW hGn
            exact l272 1 wr pvv _ _ _ (by decide) hX1 sm len hb18 hp (lv_sub hl [1, 3, 4] rfl) hW hS
          · refine lv_aload_n hx hb dX12_book_228 rfl (lv_at hl 4 rfl) ?_
            have hGn : gC C2 := by
              refine ⟨g5_of G5 (fun j => hT 15 j (by decide) (by simp)) (fun j => hT 49 j (by decide) (by simp)) (fun j => hT 16 j (by decide) (by simp)) (fun j => hT 50 j (by decide) (by simp)) (fun t j ht => hT t j (g6_ne ht (by decide)) (fun q => g6_ne ht (n := 12) (by decide) q.1)) (fun j _ => hT 34 j (by decide) (by simp)), fun k hk => ?_, fun j hj => ?_, fun k hk hk2 => ?_, ?_⟩
              · rw [hT 0 0 (by decide) (by decide)] at hk
                rw [hT 29 k (by decide) (by simp), hT 30 k (by decide) (by simp), hT 31 k (by decide) (by simp)]
                exact G1 k hk
              · rw [hT 12 22 (by decide) (by decide)] at hj
                rw [hT 37 _ (by decide) (by simp), hT 34 _ (by decide) (by simp)]
                exact G2 j hj
              · rw [hT 46 k (by decide) (by simp)] at hk2
                rw [hT 45 _ (by decide) (by simp), hT 45 _ (by decide) (by simp)]
                refine ⟨(G3 k hk hk2).1, ?_⟩
                have e9 : (fun i => C2 45 (367 * k + 186 + i)) = (fun i => C 45 (367 * k + 186 + i)) := funext (fun i => hT 45 _ (by decide) (by simp))
                rw [e9]; exact (G3 k hk hk2).2
              · have e9 : (fun i => C2 34 (186 + i)) = (fun i => C 34 (186 + i)) := funext (fun i => hT 34 _ (by decide) (by simp))
                unfold g4C; rw [e9]; exact G4
            have hW := ge_in hW hGn
            refine cm_callV (kc := kc_336) B rfl hb hl (hM.1 _ _ 0 [336] (isM (by decide +kernel)) 336 (by decide)) (hH 336 (by decide)) (b := a0) (As := []) ⟨hr_aR t0, True.intro⟩ hp hW hS rfl (by decide) (by decide) (Nat.le_of_ble_eq_true rfl) dX12_book_229 (fun cs hcs r pvv229 H locs hca hW hS => ?_)
            obtain rfl := List.mem_singleton.mp hcs
            obtain ⟨hr, hq, hc⟩ := hca
            obtain rfl := hr_rv0 hr
            have hp := hr_std hp hc (by decide +kernel)
            have e229w11 := congrArg Int32.toInt (hr_same1 hc (j := 11) (by decide +kernel))
            have e229w16 := congrArg Int32.toInt (hr_same1 hc (j := 16) (by decide +kernel))
            have e229w17 := congrArg Int32.toInt (hr_same1 hc (j := 17) (by decide +kernel))
            have e229w18 := congrArg Int32.toInt (hr_same1 hc (j := 18) (by decide +kernel))
            have e229r15 := hr_pv hc 15 (lo := 1) (hi := 8) rfl
            have sm : ∀ j, j < 32 → j ∉ [11, 12, 13, 14, 24, 15, 16, 18, 31] → pvv229 j = pvv0 j := fun j h1 h2 => (hr_sameX (l := [11, 12, 13, 14, 24, 15, 16, 18, 31]) hc (by decide +kernel) j h1 h2).trans (sm j h1 h2)
            have len : (pvv229 11).toInt = 0 := by omega
            refine hr_ic hx hb dX12_book_232 (by decide) (fun z232 hz232 => ?_)
            refine lv_istore hx hb dX12_book_233 hl (lv' := [(4, .int z232), (3, .int wr), (2, .int had), (1, .int x1), (0, .ref a0)]) (by decide) rfl (fun ls hl => ?_)
            obtain ⟨C3, hG3, hW⟩ := ge_out hW
            have hb18 : (pvv229 18).toInt ≤ (pvv0 17).toInt := by omega
            exact lu pvv229 C3 wr z232 _ _ _ (by omega) hX1 hp sm len hb18 (by omega) hG3 (lv_sub hl [0, 1, 3, 4] rfl) hW hS
      · refine lv_iload_n hx hb dX12_book_130 rfl (lv_at hl 1 rfl) ?_
        refine hr_ge0 (tgt := 179) hx hb dX12_book_131 (by decide) (fun h131 => ?_) (fun h131 => ?_)
        · refine lv_aload_n hx hb dX12_book_179 rfl (lv_at hl 4 rfl) ?_
          refine hr_getR B hF hb hW (ci := 12) (j := 42) (cd := 3) t0 rfl (isF (by decide +kernel)) rfl dX12_book_180 (fun az180 tz180 xz180 => ?_)
          refine hr_ic hx hb dX12_book_183 (by decide) (fun z183 hz183 => ?_)
          refine lv_aload_n hx hb dX12_book_184 rfl (lv_at hl 4 rfl) ?_
          refine hr_getR B hF hb hW (ci := 12) (j := 6) (cd := 3) t0 rfl (isF (by decide +kernel)) rfl dX12_book_185 (fun az185 tz185 xz185 => ?_)
          refine hr_sp hx hb dX12_book_188 (by decide) (by decide) (fun z188 hz188 => ?_)
          refine hr_iald B hb hW tz185 rfl (by omega) (by omega) dX12_book_191 (fun z191 iz191 pz191 xz191 => ?_)
          have iz191 := hr_inr iz191 (a := 140) (b := 140) (lo := 0) (hi := 6) (by omega) (by omega) (by decide +kernel)
          have pz191 := congrArg Int32.toInt (pz191 16 (by rw [show z188.toInt.toNat = 140 by omega]; rfl))
          refine hr_iastN B hb hU hW hS tz180 rfl (by omega) (by omega) ⟨ck_lo _, ck_hi _⟩ (hr_EA (i := z183) (tk_X1 (C := C2)) tz180 (u := 2) (v := 2) (by omega) (by omega) (by decide)) (u := 2) (v := 2) (by omega) (by omega) (by decide) dX12_book_192 (fun H locs hW hS => ?_)
          refine lv_aload_n hx hb dX12_book_193 rfl (lv_at hl 4 rfl) ?_
          refine hr_getR B hF hb hW (ci := 12) (j := 42) (cd := 3) t0 rfl (isF (by decide +kernel)) rfl dX12_book_194 (fun az194 tz194 xz194 => ?_)
          refine hr_ic hx hb dX12_book_197 (by decide) (fun z197 hz197 => ?_)
          refine lv_aload_n hx hb dX12_book_198 rfl (lv_at hl 4 rfl) ?_
          refine hr_getR B hF hb hW (ci := 12) (j := 6) (cd := 3) t0 rfl (isF (by decide +kernel)) rfl dX12_book_199 (fun az199 tz199 xz199 => ?_)
          refine hr_sp hx hb dX12_book_202 (by decide) (by decide) (fun z202 hz202 => ?_)
          refine hr_iald B hb hW tz199 rfl (by omega) (by omega) dX12_book_205 (fun z205 iz205 pz205 xz205 => ?_)
          refine lv_iload_n hx hb dX12_book_206 rfl (lv_at hl 2 rfl) ?_
          refine lv_isub hx hb dX12_book_207 (lv_topi (fun z207 hz207 => ?_))
          refine hr_iastN B hb hU hW hS tz194 rfl (by omega) (by omega) ⟨ck_lo _, ck_hi _⟩ (hr_EA (i := z197) (tk_X1 (C := C2)) tz194 (u := 3) (v := 3) (by omega) (by omega) (by decide)) (u := 3) (v := 3) (by omega) (by omega) (by decide) dX12_book_208 (fun H locs hW hS => ?_)
          refine lv_aload_n hx hb dX12_book_209 rfl (lv_at hl 4 rfl) ?_
          refine hr_ic hx hb dX12_book_210 (by decide) (fun z210 hz210 => ?_)
          refine hr_putN B hF hb hU hW hS (ci := 12) (j := 43) (cd := 1) t0 rfl (isF (by decide +kernel)) rfl (by omega) (by omega) (Or.inr ⟨rfl, by omega, by omega⟩) (hr_EO (tk_X1 (C := C2)) t0 (by decide)) (by decide) dX12_book_211 (fun H locs hW hS => ?_)
          refine lv_iload_n hx hb dX12_book_214 rfl (lv_at hl 3 rfl) ?_
          refine hr_ic hx hb dX12_book_215 (by decide) (fun z215 hz215 => ?_)
          refine hr_ne (tgt := 272) hx hb dX12_book_216 (by decide) (fun h216 => ?_) (fun h216 => ?_)
          · have hGn : gC C2 := by
              refine ⟨g5_of G5 (fun j => hT 15 j (by decide) (by simp)) (fun j => hT 49 j (by decide) (by simp)) (fun j => hT 16 j (by decide) (by simp)) (fun j => hT 50 j (by decide) (by simp)) (fun t j ht => hT t j (g6_ne ht (by decide)) (fun q => g6_ne ht (n := 12) (by decide) q.1)) (fun j _ => hT 34 j (by decide) (by simp)), fun k hk => ?_, fun j hj => ?_, fun k hk hk2 => ?_, ?_⟩
              · rw [hT 0 0 (by decide) (by decide)] at hk
                rw [hT 29 k (by decide) (by simp), hT 30 k (by decide) (by simp), hT 31 k (by decide) (by simp)]
                exact G1 k hk
              · rw [hT 12 22 (by decide) (by decide)] at hj
                rw [hT 37 _ (by decide) (by simp), hT 34 _ (by decide) (by simp)]
                exact G2 j hj
              · rw [hT 46 k (by decide) (by simp)] at hk2
                rw [hT 45 _ (by decide) (by simp), hT 45 _ (by decide) (by simp)]
                refine ⟨(G3 k hk hk2).1, ?_⟩
                have e9 : (fun i => C2 45 (367 * k + 186 + i)) = (fun i => C 45 (367 * k + 186 + i)) := funext (fun i => hT 45 _ (by decide) (by simp))
                rw [e9]; exact (G3 k hk hk2).2
              · have e9 : (fun i => C2 34 (186 + i)) = (fun i => C 34 (186 + i)) := funext (fun i => hT 34 _ (by decide) (by simp))
                unfold g4C; rw [e9]; exact G4
            have hW := ge_in hW hGn
            exact l272 1 wr pvv _ _ _ (by decide) hX1 sm len hb18 hp (lv_sub hl [1, 3, 4] rfl) hW hS
          · refine lv_aload_n hx hb dX12_book_219 rfl (lv_at hl 4 rfl) ?_
            refine hr_getR B hF hb hW (ci := 12) (j := 42) (cd := 3) t0 rfl (isF (by decide +kernel)) rfl dX12_book_220 (fun az220 tz220 xz220 => ?_)
            refine hr_ic hx hb dX12_book_223 (by decide) (fun z223 hz223 => ?_)
            refine hr_iald B hb hW tz220 rfl (by omega) (by omega) dX12_book_224 (fun z224 iz224 pz224 xz224 => ?_)
            refine hr_le0 (tgt := 272) hx hb dX12_book_225 (by decide) (fun h225 => ?_) (fun h225 => ?_)
            · have hGn : gC C2 := by
                refine ⟨g5_of G5 (fun j => hT 15 j (by decide) (by simp)) (fun j => hT 49 j (by decide) (by simp)) (fun j => hT 16 j (by decide) (by simp)) (fun j => hT 50 j (by decide) (by simp)) (fun t j ht => hT t j (g6_ne ht (by decide)) (fun q => g6_ne ht (n := 12) (by decide) q.1)) (fun j _ => hT 34 j (by decide) (by simp)), fun k hk => ?_, fun j hj => ?_, fun k hk hk2 => ?_, ?_⟩
                · rw [hT 0 0 (by decide) (by decide)] at hk
                  rw [hT 29 k (by decide) (by simp), hT 30 k (by decide) (by simp), hT 31 k (by decide) (by simp)]
                  exact G1 k hk
                · rw [hT 12 22 (by decide) (by decide)] at hj
                  rw [hT 37 _ (by decide) (by simp), hT 34 _ (by decide) (by simp)]
                  exact G2 j hj
                · rw [hT 46 k (by decide) (by simp)] at hk2
                  rw [hT 45 _ (by decide) (by simp), hT 45 _ (by decide) (by simp)]
                  refine ⟨(G3 k hk hk2).1, ?_⟩
                  have e9 : (fun i => C2 45 (367 * k + 186 + i)) = (fun i => C 45 (367 * k + 186 + i)) := funext (fun i => hT 45 _ (by decide) (by simp))
                  rw [e9]; exact (G3 k hk hk2).2
                · have e9 : (fun i => C2 34 (186 + i)) = (fun i => C 34 (186 + i)) := funext (fun i => hT 34 _ (by decide) (by simp))
                  unfold g4C; rw [e9]; exact G4
              have hW := ge_in hW hGn
              exact l272 1 wr pvv _ _ _ (by decide) hX1 sm len hb18 hp (lv_sub hl [1, 3, 4] rfl) hW hS
            · refine lv_aload_n hx hb dX12_book_228 rfl (lv_at hl 4 rfl) ?_
              have hGn : gC C2 := by
                refine ⟨g5_of G5 (fun j => hT 15 j (by decide) (by simp)) (fun j => hT 49 j (by decide) (by simp)) (fun j => hT 16 j (by decide) (by simp)) (fun j => hT 50 j (by decide) (by simp)) (fun t j ht => hT t j (g6_ne ht (by decide)) (fun q => g6_ne ht (n := 12) (by decide) q.1)) (fun j _ => hT 34 j (by decide) (by simp)), fun k hk => ?_, fun j hj => ?_, fun k hk hk2 => ?_, ?_⟩
                · rw [hT 0 0 (by decide) (by decide)] at hk
                  rw [hT 29 k (by decide) (by simp), hT 30 k (by decide) (by simp), hT 31 k (by decide) (by simp)]
                  exact G1 k hk
                · rw [hT 12 22 (by decide) (by decide)] at hj
                  rw [hT 37 _ (by decide) (by simp), hT 34 _ (by decide) (by simp)]
                  exact G2 j hj
                · rw [hT 46 k (by decide) (by simp)] at hk2
                  rw [hT 45 _ (by decide) (by simp), hT 45 _ (by decide) (by simp)]
                  refine ⟨(G3 k hk hk2).1, ?_⟩
                  have e9 : (fun i => C2 45 (367 * k + 186 + i)) = (fun i => C 45 (367 * k + 186 + i)) := funext (fun i => hT 45 _ (by decide) (by simp))
                  rw [e9]; exact (G3 k hk hk2).2
                · have e9 : (fun i => C2 34 (186 + i)) = (fun i => C 34 (186 + i)) := funext (fun i => hT 34 _ (by decide) (by simp))
                  unfold g4C; rw [e9]; exact G4
              have hW := ge_in hW hGn
              refine cm_callV (kc := kc_336) B rfl hb hl (hM.1 _ _ 0 [336] (isM (by decide +kernel)) 336 (by decide)) (hH 336 (by decide)) (b := a0) (As := []) ⟨hr_aR t0, True.intro⟩ hp hW hS rfl (by decide) (by decide) (Nat.le_of_ble_eq_true rfl) dX12_book_229 (fun cs hcs r pvv229 H locs hca hW hS => ?_)
              obtain rfl := List.mem_singleton.mp hcs
              obtain ⟨hr, hq, hc⟩ := hca
              obtain rfl := hr_rv0 hr
              have hp := hr_std hp hc (by decide +kernel)
              have e229w11 := congrArg Int32.toInt (hr_same1 hc (j := 11) (by decide +kernel))
              have e229w16 := congrArg Int32.toInt (hr_same1 hc (j := 16) (by decide +kernel))
              have e229w17 := congrArg Int32.toInt (hr_same1 hc (j := 17) (by decide +kernel))
              have e229w18 := congrArg Int32.toInt (hr_same1 hc (j := 18) (by decide +kernel))
              have e229r15 := hr_pv hc 15 (lo := 1) (hi := 8) rfl
              have sm : ∀ j, j < 32 → j ∉ [11, 12, 13, 14, 24, 15, 16, 18, 31] → pvv229 j = pvv0 j := fun j h1 h2 => (hr_sameX (l := [11, 12, 13, 14, 24, 15, 16, 18, 31]) hc (by decide +kernel) j h1 h2).trans (sm j h1 h2)
              have len : (pvv229 11).toInt = 0 := by omega
              refine hr_ic hx hb dX12_book_232 (by decide) (fun z232 hz232 => ?_)
              refine lv_istore hx hb dX12_book_233 hl (lv' := [(4, .int z232), (3, .int wr), (2, .int had), (1, .int x1), (0, .ref a0)]) (by decide) rfl (fun ls hl => ?_)
              obtain ⟨C3, hG3, hW⟩ := ge_out hW
              have hb18 : (pvv229 18).toInt ≤ (pvv0 17).toInt := by omega
              exact lu pvv229 C3 wr z232 _ _ _ (by omega) hX1 hp sm len hb18 (by omega) hG3 (lv_sub hl [0, 1, 3, 4] rfl) hW hS
        · refine lv_aload_n hx hb dX12_book_134 rfl (lv_at hl 4 rfl) ?_
          refine hr_getR B hF hb hW (ci := 12) (j := 42) (cd := 3) t0 rfl (isF (by decide +kernel)) rfl dX12_book_135 (fun az135 tz135 xz135 => ?_)
          refine hr_ic hx hb dX12_book_138 (by decide) (fun z138 hz138 => ?_)
          refine lv_aload_n hx hb dX12_book_139 rfl (lv_at hl 4 rfl) ?_
          refine hr_ic hx hb dX12_book_140 (by decide) (fun z140 hz140 => ?_)
          refine lv_iload hx hb dX12_book_141 (lv_at hl 0 rfl) ?_
          refine hr_mulL hx hb dX12_book_143 hz140 (by omega) (by omega) (fun z143 hz143 => ?_)
          have e143 : z143.toInt.toNat = 3 * i.toInt.toNat := by omega
          have hk := hBL i.toInt.toNat (by omega)
          unfold lineOK at hk
          rw [← e143] at hk
          refine hr_callV (kc := kh_12_does) B rfl hb hl (hMh _ (List.mem_of_getElem? (i := 10) rfl)) (b := a0) (As := [.int z143]) (hs_does hF hC hM hMh hU hun hH1 t0 hp (by omega) (by omega) hk) ⟨hr_aR t0, hr_aI (by omega) (by omega), True.intro⟩ hW hS rfl (by decide) (by decide) (Nat.le_of_ble_eq_true rfl) dX12_book_144 (fun r pvv144 E144 H locs hpost hW hS => ?_)
          obtain ⟨hp, sm1, rfl, z144, rfl⟩ := hpost
          have sm : ∀ j, j < 32 → j ∉ [11, 12, 13, 14, 24, 15, 16, 18, 31] → pvv144 j = pvv0 j := fun j h1 h2 => (sm1 j h1 (fun q => h2 (by rw [List.mem_singleton.mp q]; decide))).trans (sm j h1 h2)
          have len : (pvv144 11).toInt = 0 := by rw [sm1 11 (by decide) (by decide)]; exact len
          have hb18 : (pvv144 18).toInt ≤ (pvv0 17).toInt := by rw [sm1 18 (by decide) (by decide)]; exact hb18
          refine hr_iastN B hb hU hW hS tz135 rfl (by omega) (by omega) ⟨ck_lo _, ck_hi _⟩ (hr_EA (i := z138) (tk_X1 (C := C2)) tz135 (u := 0) (v := 0) (by omega) (by omega) (by decide)) (u := 0) (v := 0) (by omega) (by omega) (by decide) dX12_book_147 (fun H locs hW hS => ?_)
          refine lv_aload_n hx hb dX12_book_148 rfl (lv_at hl 4 rfl) ?_
          refine hr_getR B hF hb hW (ci := 12) (j := 42) (cd := 3) t0 rfl (isF (by decide +kernel)) rfl dX12_book_149 (fun az149 tz149 xz149 => ?_)
          refine hr_ic hx hb dX12_book_152 (by decide) (fun z152 hz152 => ?_)
          refine hr_iald B hb hW tz149 rfl (by omega) (by omega) dX12_book_153 (fun z153 iz153 pz153 xz153 => ?_)
          refine hr_le0 (tgt := 163) hx hb dX12_book_154 (by decide) (fun h154 => ?_) (fun h154 => ?_)
          · refine lv_aload_n hx hb dX12_book_163 rfl (lv_at hl 4 rfl) ?_
            refine hr_getR B hF hb hW (ci := 12) (j := 42) (cd := 3) t0 rfl (isF (by decide +kernel)) rfl dX12_book_164 (fun az164 tz164 xz164 => ?_)
            refine hr_ic hx hb dX12_book_167 (by decide) (fun z167 hz167 => ?_)
            refine lv_dup2_11 hx hb dX12_book_168 rfl rfl ?_
            refine hr_iald B hb hW tz164 rfl (by omega) (by omega) dX12_book_169 (fun z169 iz169 pz169 xz169 => ?_)
            refine hr_ic hx hb dX12_book_170 (by decide) (fun z170 hz170 => ?_)
            refine lv_iadd hx hb dX12_book_171 (lv_topi (fun z171 hz171 => ?_))
            refine hr_iastN B hb hU hW hS tz164 rfl (by omega) (by omega) ⟨ck_lo _, ck_hi _⟩ (hr_EA (i := z167) (tk_X1 (C := C2)) tz164 (u := 1) (v := 1) (by omega) (by omega) (by decide)) (u := 1) (v := 1) (by omega) (by omega) (by decide) dX12_book_172 (fun H locs hW hS => ?_)
            refine hr_inc hx hb dX12_book_173 hl (kq := 0) (lv' := fun v => [(4, .int v), (3, .int wr), (2, .int had), (1, .int x1), (0, .ref a0)]) rfl (by decide) (by decide) (by omega) (by omega) (fun _ => rfl) (fun z173 ls hz173 hl => ?_)
            refine lv_goto (tgt := 121) hx hb dX12_book_176 (by decide) ?_
            exact ih121 z173 wr had pvv144 C2 _ _ _ (by omega) (by omega) hX1 sm len hb18 hT hBL tl (by omega) hp hl hW hS
          · refine lv_iload hx hb dX12_book_157 (lv_at hl 0 rfl) ?_
            refine lv_istore_n hx hb dX12_book_159 rfl hl (lv' := [(3, .int i), (4, .int i), (2, .int had), (1, .int x1), (0, .ref a0)]) (by decide) rfl (fun ls hl => ?_)
            refine lv_goto (tgt := 173) hx hb dX12_book_160 (by decide) ?_
            refine hr_inc hx hb dX12_book_173 hl (kq := 1) (lv' := fun v => [(4, .int v), (3, .int i), (2, .int had), (1, .int x1), (0, .ref a0)]) rfl (by decide) (by decide) (by omega) (by omega) (fun _ => rfl) (fun z173 ls hz173 hl => ?_)
            refine lv_goto (tgt := 121) hx hb dX12_book_176 (by decide) ?_
            exact ih121 z173 i had pvv144 C2 _ _ _ (by omega) (by omega) hX1 sm len hb18 hT hBL tl (by omega) hp hl hW hS
  have l89 : ∀ (n89 : Nat) (i : Int32) (pvv : Nat → Int32) (C2 : Nat → Nat → Int32) (ls : Array Slot) (H : Heap) (locs : List Loc), 4 - i.toInt < n89 → (0 ≤ i.toInt) → (i.toInt ≤ 4) → (0 ≤ x1.toInt ∧ x1.toInt ≤ 1) → (∀ j, j < 32 → j ∉ [11, 12, 13, 14, 24, 15, 16, 18, 31] → pvv j = pvv0 j) → ((pvv 11).toInt = 0) → ((pvv 18).toInt ≤ (pvv0 17).toInt) → (∀ t j, t ≠ 36 → ¬ (t = 12 ∧ j = 41) → C2 t j = C t j) → (∀ i : Nat, (i : Int) < (C2 12 41).toInt → lineOK C2 i) → (0 ≤ (C2 12 41).toInt ∧ (C2 12 41).toInt ≤ 40) → (ck_pvo ty (ck_XE pvv) pPM pvv) → lv_has ls 5 [(2, .int i), (1, .int x1), (0, .ref a0)] → ck_Wo D cys ty ck_tags ck_pvs0 (tk ty ck_prot1 C2) pvv H → va_S (ck_own ty) s.heap H locs → W p l e (ck_rm (ck_tab 337)) s m [Value.ref a0, Value.int x1].toArray below meth c H locs 0 0 (MQ below (ck_Qc D cys ty ck_tags ck_pvs0 (GE ty) (ck_tab 337) [Value.ref a0, Value.int x1] pvv0) [Value.ref a0, Value.int x1].toArray s 0 0 (ck_own ty)) (F0 m 89 ls []) := by
    intro n89
    induction n89 with
    | zero => intro i pvv C2 ls H locs hm89 i1 i2 hX1 sm len hb18 hT hBL tl hp hl hW hS; omega
    | succ n89 ih89 =>
      intro i pvv C2 ls H locs hm89 i1 i2 hX1 sm len hb18 hT hBL tl hp hl hW hS
      refine lv_iload_n hx hb dX12_book_89 rfl (lv_at hl 0 rfl) ?_
      refine hr_ic hx hb dX12_book_90 (by decide) (fun z90 hz90 => ?_)
      refine hr_ge (tgt := 107) hx hb dX12_book_91 (by decide) (fun h91 => ?_) (fun h91 => ?_)
      · refine lv_aload_n hx hb dX12_book_107 rfl (lv_at hl 2 rfl) ?_
        refine hr_getR B hF hb hW (ci := 12) (j := 6) (cd := 3) t0 rfl (isF (by decide +kernel)) rfl dX12_book_108 (fun az108 tz108 xz108 => ?_)
        refine hr_sp hx hb dX12_book_111 (by decide) (by decide) (fun z111 hz111 => ?_)
        refine hr_iald B hb hW tz108 rfl (by omega) (by omega) dX12_book_114 (fun z114 iz114 pz114 xz114 => ?_)
        refine lv_istore_n hx hb dX12_book_115 rfl hl (lv' := [(2, .int z114), (1, .int x1), (0, .ref a0)]) (by decide) rfl (fun ls hl => ?_)
        refine hr_ic hx hb dX12_book_116 (by decide) (fun z116 hz116 => ?_)
        refine lv_istore_n hx hb dX12_book_117 rfl hl (lv' := [(3, .int z116), (2, .int z114), (1, .int x1), (0, .ref a0)]) (by decide) rfl (fun ls hl => ?_)
        refine hr_ic hx hb dX12_book_118 (by decide) (fun z118 hz118 => ?_)
        refine lv_istore hx hb dX12_book_119 hl (lv' := [(4, .int z118), (3, .int z116), (2, .int z114), (1, .int x1), (0, .ref a0)]) (by decide) rfl (fun ls hl => ?_)
        exact l121 41 z118 z116 z114 pvv C2 _ _ _ (by omega) (by omega) hX1 sm len hb18 hT hBL tl (by omega) hp (lv_sub hl [0, 1, 2, 3, 4] rfl) hW hS
      · refine lv_aload_n hx hb dX12_book_94 rfl (lv_at hl 2 rfl) ?_
        refine hr_getR B hF hb hW (ci := 12) (j := 42) (cd := 3) t0 rfl (isF (by decide +kernel)) rfl dX12_book_95 (fun az95 tz95 xz95 => ?_)
        refine lv_iload_n hx hb dX12_book_98 rfl (lv_at hl 0 rfl) ?_
        refine hr_ic hx hb dX12_book_99 (by decide) (fun z99 hz99 => ?_)
        refine hr_iastN B hb hU hW hS tz95 rfl (by omega) (by omega) ⟨ck_lo _, ck_hi _⟩ (hr_EA (i := i) (tk_X1 (C := C2)) tz95 (u := 0) (v := 3) (by omega) (by omega) (by decide)) (u := 0) (v := 3) (by omega) (by omega) (by decide) dX12_book_100 (fun H locs hW hS => ?_)
        refine hr_inc hx hb dX12_book_101 hl (kq := 0) (lv' := fun v => [(2, .int v), (1, .int x1), (0, .ref a0)]) rfl (by decide) (by decide) (by omega) (by omega) (fun _ => rfl) (fun z101 ls hz101 hl => ?_)
        refine lv_goto (tgt := 89) hx hb dX12_book_104 (by decide) ?_
        exact ih89 z101 pvv C2 _ _ _ (by omega) (by omega) (by omega) hX1 sm len hb18 hT hBL tl hp hl hW hS
  have l39 : ∀ (n39 : Nat)  (pvv : Nat → Int32) (C2 : Nat → Nat → Int32) (ls : Array Slot) (H : Heap) (locs : List Loc), 41 - (C2 12 41).toInt < n39 → (0 ≤ x1.toInt ∧ x1.toInt ≤ 1) → (∀ j, j < 32 → j ∉ [11, 12, 13, 14, 24, 15, 16, 18, 31] → pvv j = pvv0 j) → ((pvv 11).toInt = 0) → (∀ t j, t ≠ 36 → ¬ (t = 12 ∧ j = 41) → C2 t j = C t j) → (∀ i : Nat, (i : Int) < (C2 12 41).toInt → lineOK C2 i) → (0 ≤ (C2 12 41).toInt ∧ (C2 12 41).toInt ≤ 40) → (ck_pvo ty (ck_XE pvv) pPM pvv) → lv_has ls 5 [(0, .ref a0), (1, .int x1)] → ck_Wo D cys ty ck_tags ck_pvs0 (tk ty ck_prot1 C2) pvv H → va_S (ck_own ty) s.heap H locs → W p l e (ck_rm (ck_tab 337)) s m [Value.ref a0, Value.int x1].toArray below meth c H locs 0 0 (MQ below (ck_Qc D cys ty ck_tags ck_pvs0 (GE ty) (ck_tab 337) [Value.ref a0, Value.int x1] pvv0) [Value.ref a0, Value.int x1].toArray s 0 0 (ck_own ty)) (F0 m 39 ls []) := by
    intro n39
    induction n39 with
    | zero => intro pvv C2 ls H locs hm39 hX1 sm len hT hBL tl hp hl hW hS; omega
    | succ n39 ih39 =>
      intro pvv C2 ls H locs hm39 hX1 sm len hT hBL tl hp hl hW hS
      refine lv_aload_n hx hb dX12_book_39 rfl (lv_at hl 0 rfl) ?_
      refine hr_getI B hF hb hW (ci := 12) (j := 11) (cd := 0) t0 rfl (isF (by decide +kernel)) rfl dX12_book_40 (fun z40 lz40 uz40 pz40 xz40 => ?_)
      have pz40 := congrArg Int32.toInt (pz40 14 rfl)
      refine hr_eq0 (tgt := 83) hx hb dX12_book_43 (by decide) (fun h43 => ?_) (fun h43 => ?_)
      · refine lv_aload_n hx hb dX12_book_83 rfl (lv_at hl 0 rfl) ?_
        refine cm_callV (kc := kc_242) B rfl hb hl (hM.1 _ _ 0 [242] (isM (by decide +kernel)) 242 (by decide)) (hH1 _ tk_X1 242 (by decide)) (b := a0) (As := []) ⟨hr_aR t0, True.intro⟩ hp hW hS rfl (by decide) (by decide) (Nat.le_of_ble_eq_true rfl) dX12_book_84 (fun cs hcs r pvv84 H locs hca hW hS => ?_)
        obtain rfl := List.mem_singleton.mp hcs
        obtain ⟨hr, hq, hc⟩ := hca
        obtain rfl := hr_rv0 hr
        have hp := hr_std hp hc (by decide +kernel)
        have e84w11 := congrArg Int32.toInt (hr_same1 hc (j := 11) (by decide +kernel))
        have e84w16 := congrArg Int32.toInt (hr_same1 hc (j := 16) (by decide +kernel))
        have e84w17 := congrArg Int32.toInt (hr_same1 hc (j := 17) (by decide +kernel))
        have e84r18 := hr_pv hc 18 (lo := 0) (hi := 6) rfl
        have e84d18_2032 := hr_pd hc 18 16 (lo := 0) (hi := 6) (a := 0) (b := 0) rfl (by decide)
        have e84w15 := congrArg Int32.toInt (hr_same1 hc (j := 15) (by decide +kernel))
        have sm : ∀ j, j < 32 → j ∉ [11, 12, 13, 14, 24, 15, 16, 18, 31] → pvv84 j = pvv0 j := fun j h1 h2 => (hr_sameX (l := [11, 12, 13, 14, 24, 15, 16, 18, 31]) hc (by decide +kernel) j h1 h2).trans (sm j h1 h2)
        have len : (pvv84 11).toInt = 0 := by omega
        have rd := hr_pd hp 16 17 (lo := 0) (hi := 6) (a := -6) (b := 0) rfl (by decide)
        have rs := congrArg Int32.toInt (sm 17 (by decide) (by decide))
        have hb18 : (pvv84 18).toInt ≤ (pvv0 17).toInt := by omega
        refine hr_ic hx hb dX12_book_87 (by decide) (fun z87 hz87 => ?_)
        refine lv_istore_n hx hb dX12_book_88 rfl hl (lv' := [(2, .int z87), (0, .ref a0), (1, .int x1)]) (by decide) rfl (fun ls hl => ?_)
        exact l89 5 z87 pvv84 C2 _ _ _ (by omega) (by omega) (by omega) hX1 sm len hb18 hT hBL tl hp (lv_sub hl [0, 2, 1] rfl) hW hS
      · refine lv_aload_n hx hb dX12_book_46 rfl (lv_at hl 0 rfl) ?_
        refine hr_callV (kc := kh_12_bookLine) B rfl hb hl (hMh _ (List.mem_of_getElem? (i := 9) rfl)) (b := a0) (As := []) (hs_bookLine hF hC hM hMh hU hun hH1 t0 hp tl) ⟨hr_aR t0, True.intro⟩ hW hS rfl (by decide) (by decide) (Nat.le_of_ble_eq_true rfl) dX12_book_47 (fun r pvv47 E47 H locs hpost hW hS => ?_)
        obtain ⟨hp, sm1, z47, rfl, C47, rfl, f1, hz⟩ := hpost
        have sm : ∀ j, j < 32 → j ∉ [11, 12, 13, 14, 24, 15, 16, 18, 31] → pvv47 j = pvv0 j := fun j h1 h2 => (sm1 j h1 (fun q => h2 (by simp only [List.mem_cons, List.not_mem_nil, or_false] at q ⊢; omega))).trans (sm j h1 h2)
        have len : (pvv47 11).toInt = 0 := by rw [sm1 11 (by decide) (by decide)]; exact len
        have hT2 : ∀ t j, t ≠ 36 → ¬ (t = 12 ∧ j = 41) → C47 t j = C t j := fun t j h1 h2 => (f1 t j h1).trans (hT t j h1 h2)
        have et : (C47 12 41).toInt = (C2 12 41).toInt := by rw [f1 12 41 (by decide)]
        rcases hz with hz | ⟨hz, q1, q2, q3⟩
        · refine hr_eq0 (tgt := 62) hx hb dX12_book_50 (by decide) (fun h9 => ?_) (fun h9 => ?_)
          · refine hr_bp hx hb dX12_book_62 (by decide) (by decide) (fun z62 hz62 => ?_)
            refine lv_aload_n hx hb dX12_book_64 rfl (lv_at hl 0 rfl) ?_
            refine hr_getI B hF hb hW (ci := 12) (j := 16) (cd := 0) t0 rfl (isF (by decide +kernel)) rfl dX12_book_65 (fun z65 lz65 uz65 pz65 xz65 => ?_)
            refine lv_isub hx hb dX12_book_68 (lv_topi (fun z68 hz68 => ?_))
            have r11 := hr_pv hp 11 (lo := 0) (hi := 940) rfl
            have r12 := hr_pv hp 12 (lo := 0) (hi := 940) rfl
            have r13 := hr_pv hp 13 (lo := 0) (hi := 940) rfl
            have r14 := hr_pv hp 14 (lo := 0) (hi := 4) rfl
            have r15 := hr_pv hp 15 (lo := 0) (hi := 8) rfl
            have r16 := hr_pv hp 16 (lo := 0) (hi := 6) rfl
            have r18 := hr_pv hp 18 (lo := 0) (hi := 6) rfl
            have r31 := hr_pv hp 31 (lo := 0) (hi := 4) rfl
            have rd := hr_pd hp 16 17 (lo := 0) (hi := 6) (a := -6) (b := 0) rfl (by decide)
            have rs := congrArg Int32.toInt (sm 17 (by decide) (by decide))
            have hGn : gC C47 := by
              refine ⟨g5_of G5 (fun j => hT2 15 j (by decide) (by simp)) (fun j => hT2 49 j (by decide) (by simp)) (fun j => hT2 16 j (by decide) (by simp)) (fun j => hT2 50 j (by decide) (by simp)) (fun t j ht => hT2 t j (g6_ne ht (by decide)) (fun q => g6_ne ht (n := 12) (by decide) q.1)) (fun j _ => hT2 34 j (by decide) (by simp)), fun k hk => ?_, fun j hj => ?_, fun k hk hk2 => ?_, ?_⟩
              · rw [hT2 0 0 (by decide) (by decide)] at hk
                rw [hT2 29 k (by decide) (by simp), hT2 30 k (by decide) (by simp), hT2 31 k (by decide) (by simp)]
                exact G1 k hk
              · rw [hT2 12 22 (by decide) (by decide)] at hj
                rw [hT2 37 _ (by decide) (by simp), hT2 34 _ (by decide) (by simp)]
                exact G2 j hj
              · rw [hT2 46 k (by decide) (by simp)] at hk2
                rw [hT2 45 _ (by decide) (by simp), hT2 45 _ (by decide) (by simp)]
                refine ⟨(G3 k hk hk2).1, ?_⟩
                have e9 : (fun i => C47 45 (367 * k + 186 + i)) = (fun i => C 45 (367 * k + 186 + i)) := funext (fun i => hT2 45 _ (by decide) (by simp))
                rw [e9]; exact (G3 k hk hk2).2
              · have e9 : (fun i => C47 34 (186 + i)) = (fun i => C 34 (186 + i)) := funext (fun i => hT2 34 _ (by decide) (by simp))
                unfold g4C; rw [e9]; exact G4
            refine cm_iret B hb rfl ⟨_, List.mem_cons_self, hr_aF (ty := ty), (fun q h => by obtain rfl := List.mem_singleton.mp h; exact ⟨x1, rfl, by show (0 : Int) ≤ _; omega, by show _ ≤ (1 : Int); omega⟩), ?_⟩ (ge_in hW hGn) hS dX12_book_69
            refine hr_mk (n := 32) [11, 12, 13, 14, 24, 15, 16, 18, 31] hp0 sm (by decide +kernel) (fun j hj av hav => ?_)
            rcases List.mem_cons.mp hj with rfl | hj
            · have hav : some (.inl (0, 0, []) : ck_AV) = some av := hav
              cases hav
              exact hr_aI (by omega) (by omega)
            rcases List.mem_cons.mp hj with rfl | hj
            · have hav : some (.inl (0, 940, []) : ck_AV) = some av := hav
              cases hav
              exact hr_aI (by omega) (by omega)
            rcases List.mem_cons.mp hj with rfl | hj
            · have hav : some (.inl (0, 940, []) : ck_AV) = some av := hav
              cases hav
              exact hr_aI (by omega) (by omega)
            rcases List.mem_cons.mp hj with rfl | hj
            · have hav : some (.inl (0, 4, []) : ck_AV) = some av := hav
              cases hav
              exact hr_aI (by omega) (by omega)
            rcases List.mem_cons.mp hj with rfl | hj
            · have hav : some (.inl (-2147483648, 2147483647, []) : ck_AV) = some av := hav
              cases hav
              exact hr_aF
            rcases List.mem_cons.mp hj with rfl | hj
            · have hav : some (.inl (0, 8, []) : ck_AV) = some av := hav
              cases hav
              exact hr_aI (by omega) (by omega)
            rcases List.mem_cons.mp hj with rfl | hj
            · have hav : some (.inl (0, 6, [(2034, -6, 0)]) : ck_AV) = some av := hav
              cases hav
              exact hr_vd (q := 17) (by omega) (by omega) (by omega) (by omega)
            rcases List.mem_cons.mp hj with rfl | hj
            · have hav : some (.inl (0, 6, []) : ck_AV) = some av := hav
              cases hav
              exact hr_aI (by omega) (by omega)
            obtain rfl := List.mem_singleton.mp hj
            have hav : some (.inl (0, 4, []) : ck_AV) = some av := hav
            cases hav
            exact hr_aI (by omega) (by omega)
          · omega
        · refine hr_eq0 (tgt := 62) hx hb dX12_book_50 (by decide) (fun h9 => ?_) (fun h9 => ?_)
          · omega
          refine lv_aload_n hx hb dX12_book_53 rfl (lv_at hl 0 rfl) ?_
          refine hr_bp hx hb dX12_book_54 (by decide) (by decide) (fun z54 hz54 => ?_)
          refine cm_callV (kc := kc_240) B rfl hb hl (hM.1 _ _ 0 [237, 238, 239, 240] (isM (by decide +kernel)) 240 (by decide)) (hH1 _ tk_X1 240 (by decide)) (b := a0) (As := [.int z54]) ⟨hr_aR t0, hr_aF, True.intro⟩ hp hW hS rfl (by decide) (by decide) (Nat.le_of_ble_eq_true rfl) dX12_book_56 (fun cs hcs r pvv56 H locs hca hW hS => ?_)
          rcases List.mem_cons.mp hcs with rfl | hcs
          · obtain ⟨hr, hq, hc⟩ := hca
            obtain ⟨z56, rfl, lz56, uz56⟩ := hr_rvI hr
            have hp := hr_std hp hc (by decide +kernel)
            have e56w11 := congrArg Int32.toInt (hr_same1 hc (j := 11) (by decide +kernel))
            have e56w16 := congrArg Int32.toInt (hr_same1 hc (j := 16) (by decide +kernel))
            have e56w17 := congrArg Int32.toInt (hr_same1 hc (j := 17) (by decide +kernel))
            have e56w18 := congrArg Int32.toInt (hr_same1 hc (j := 18) (by decide +kernel))
            have e56w15 := congrArg Int32.toInt (hr_same1 hc (j := 15) (by decide +kernel))
            have sm : ∀ j, j < 32 → j ∉ [11, 12, 13, 14, 24, 15, 16, 18, 31] → pvv56 j = pvv0 j := fun j h1 h2 => (hr_sameX (l := [11, 12, 13, 14, 24, 15, 16, 18, 31]) hc (by decide +kernel) j h1 h2).trans (sm j h1 h2)
            have len : (pvv56 11).toInt = 0 := by omega
            refine hr_ne0 (tgt := 70) hx hb dX12_book_59 (by decide) (fun h59 => ?_) (fun h59 => ?_)
            · omega
            · refine hr_bp hx hb dX12_book_62 (by decide) (by decide) (fun z62 hz62 => ?_)
              refine lv_aload_n hx hb dX12_book_64 rfl (lv_at hl 0 rfl) ?_
              refine hr_getI B hF hb hW (ci := 12) (j := 16) (cd := 0) t0 rfl (isF (by decide +kernel)) rfl dX12_book_65 (fun z65 lz65 uz65 pz65 xz65 => ?_)
              refine lv_isub hx hb dX12_book_68 (lv_topi (fun z68 hz68 => ?_))
              have r11 := hr_pv hp 11 (lo := 0) (hi := 940) rfl
              have r12 := hr_pv hp 12 (lo := 0) (hi := 940) rfl
              have r13 := hr_pv hp 13 (lo := 0) (hi := 940) rfl
              have r14 := hr_pv hp 14 (lo := 0) (hi := 4) rfl
              have r15 := hr_pv hp 15 (lo := 0) (hi := 8) rfl
              have r16 := hr_pv hp 16 (lo := 0) (hi := 6) rfl
              have r18 := hr_pv hp 18 (lo := 0) (hi := 6) rfl
              have r31 := hr_pv hp 31 (lo := 0) (hi := 4) rfl
              have rd := hr_pd hp 16 17 (lo := 0) (hi := 6) (a := -6) (b := 0) rfl (by decide)
              have rs := congrArg Int32.toInt (sm 17 (by decide) (by decide))
              have hGn : gC C47 := by
                refine ⟨g5_of G5 (fun j => hT2 15 j (by decide) (by simp)) (fun j => hT2 49 j (by decide) (by simp)) (fun j => hT2 16 j (by decide) (by simp)) (fun j => hT2 50 j (by decide) (by simp)) (fun t j ht => hT2 t j (g6_ne ht (by decide)) (fun q => g6_ne ht (n := 12) (by decide) q.1)) (fun j _ => hT2 34 j (by decide) (by simp)), fun k hk => ?_, fun j hj => ?_, fun k hk hk2 => ?_, ?_⟩
                · rw [hT2 0 0 (by decide) (by decide)] at hk
                  rw [hT2 29 k (by decide) (by simp), hT2 30 k (by decide) (by simp), hT2 31 k (by decide) (by simp)]
                  exact G1 k hk
                · rw [hT2 12 22 (by decide) (by decide)] at hj
                  rw [hT2 37 _ (by decide) (by simp), hT2 34 _ (by decide) (by simp)]
                  exact G2 j hj
                · rw [hT2 46 k (by decide) (by simp)] at hk2
                  rw [hT2 45 _ (by decide) (by simp), hT2 45 _ (by decide) (by simp)]
                  refine ⟨(G3 k hk hk2).1, ?_⟩
                  have e9 : (fun i => C47 45 (367 * k + 186 + i)) = (fun i => C 45 (367 * k + 186 + i)) := funext (fun i => hT2 45 _ (by decide) (by simp))
                  rw [e9]; exact (G3 k hk hk2).2
                · have e9 : (fun i => C47 34 (186 + i)) = (fun i => C 34 (186 + i)) := funext (fun i => hT2 34 _ (by decide) (by simp))
                  unfold g4C; rw [e9]; exact G4
              refine cm_iret B hb rfl ⟨_, List.mem_cons_self, hr_aF (ty := ty), (fun q h => by obtain rfl := List.mem_singleton.mp h; exact ⟨x1, rfl, by show (0 : Int) ≤ _; omega, by show _ ≤ (1 : Int); omega⟩), ?_⟩ (ge_in hW hGn) hS dX12_book_69
              refine hr_mk (n := 32) [11, 12, 13, 14, 24, 15, 16, 18, 31] hp0 sm (by decide +kernel) (fun j hj av hav => ?_)
              rcases List.mem_cons.mp hj with rfl | hj
              · have hav : some (.inl (0, 0, []) : ck_AV) = some av := hav
                cases hav
                exact hr_aI (by omega) (by omega)
              rcases List.mem_cons.mp hj with rfl | hj
              · have hav : some (.inl (0, 940, []) : ck_AV) = some av := hav
                cases hav
                exact hr_aI (by omega) (by omega)
              rcases List.mem_cons.mp hj with rfl | hj
              · have hav : some (.inl (0, 940, []) : ck_AV) = some av := hav
                cases hav
                exact hr_aI (by omega) (by omega)
              rcases List.mem_cons.mp hj with rfl | hj
              · have hav : some (.inl (0, 4, []) : ck_AV) = some av := hav
                cases hav
                exact hr_aI (by omega) (by omega)
              rcases List.mem_cons.mp hj with rfl | hj
              · have hav : some (.inl (-2147483648, 2147483647, []) : ck_AV) = some av := hav
                cases hav
                exact hr_aF
              rcases List.mem_cons.mp hj with rfl | hj
              · have hav : some (.inl (0, 8, []) : ck_AV) = some av := hav
                cases hav
                exact hr_aI (by omega) (by omega)
              rcases List.mem_cons.mp hj with rfl | hj
              · have hav : some (.inl (0, 6, [(2034, -6, 0)]) : ck_AV) = some av := hav
                cases hav
                exact hr_vd (q := 17) (by omega) (by omega) (by omega) (by omega)
              rcases List.mem_cons.mp hj with rfl | hj
              · have hav : some (.inl (0, 6, []) : ck_AV) = some av := hav
                cases hav
                exact hr_aI (by omega) (by omega)
              obtain rfl := List.mem_singleton.mp hj
              have hav : some (.inl (0, 4, []) : ck_AV) = some av := hav
              cases hav
              exact hr_aI (by omega) (by omega)
          obtain rfl := List.mem_singleton.mp hcs
          obtain ⟨hr, hq, hc⟩ := hca
          obtain ⟨z56, rfl, lz56, uz56⟩ := hr_rvI hr
          have hp := hr_std hp hc (by decide +kernel)
          have e56w11 := congrArg Int32.toInt (hr_same1 hc (j := 11) (by decide +kernel))
          have e56w16 := congrArg Int32.toInt (hr_same1 hc (j := 16) (by decide +kernel))
          have e56w17 := congrArg Int32.toInt (hr_same1 hc (j := 17) (by decide +kernel))
          have e56w18 := congrArg Int32.toInt (hr_same1 hc (j := 18) (by decide +kernel))
          have e56w15 := congrArg Int32.toInt (hr_same1 hc (j := 15) (by decide +kernel))
          have sm : ∀ j, j < 32 → j ∉ [11, 12, 13, 14, 24, 15, 16, 18, 31] → pvv56 j = pvv0 j := fun j h1 h2 => (hr_sameX (l := [11, 12, 13, 14, 24, 15, 16, 18, 31]) hc (by decide +kernel) j h1 h2).trans (sm j h1 h2)
          have len : (pvv56 11).toInt = 0 := by omega
          refine hr_ne0 (tgt := 70) hx hb dX12_book_59 (by decide) (fun h59 => ?_) (fun h59 => ?_)
          · refine lv_aload_n hx hb dX12_book_70 rfl (lv_at hl 0 rfl) ?_
            refine lv_dup hx hb dX12_book_71 rfl ?_
            refine hr_getI B hF hb hW (ci := 12) (j := 41) (cd := 0) t0 rfl (isF (by decide +kernel)) rfl dX12_book_72 (fun z72 lz72 uz72 pz72 xz72 => ?_)
            have xz72 := tk_xo xz72 (fun _ h => h) (pq := ck_prot1) (C := C47) t0 (by decide); have kz72 := congrArg Int32.toInt xz72
            have e72 : z72.toInt = (C2 12 41).toInt := by rw [kz72]; exact et
            refine hr_ic hx hb dX12_book_75 (by decide) (fun z75 hz75 => ?_)
            refine hr_add hx hb dX12_book_76 (by omega) (by omega) (fun z76 hz76 => ?_)
            refine hr_putN B hF hb hU hW hS (ci := 12) (j := 41) (cd := 0) t0 rfl (isF (by decide +kernel)) rfl (by omega) (by omega) (Or.inl rfl) (tk_EO t0 (fun a h => hun 12 (by decide) _ _ t0 h) (by decide)) (by decide) dX12_book_77 (fun H locs hW hS => ?_)
            obtain ⟨C77, c77⟩ : ∃ f, f = tk_upd C47 12 (41) z76 := ⟨_, rfl⟩
            rw [← c77] at hW
            refine lv_goto (tgt := 39) hx hb dX12_book_80 (by decide) ?_
            refine ih39 pvv56 C77 _ _ _ ?_ hX1 sm len (fun t j h1 h2 => ?_) (fun i hi => ?_) ?_ hp hl hW hS
            · rw [c77, tk_us]; omega
            · rw [c77, tk_un h2]; exact hT2 t j h1 h2
            · have hi : (i : Int) < z76.toInt := by rw [c77, tk_us] at hi; exact hi
              have e9 : ∀ j, C77 36 j = C47 36 j := fun j => by rw [c77, tk_unt (by decide)]
              unfold lineOK; rw [e9, e9, e9]
              by_cases e8 : i = (C2 12 41).toInt.toNat
              · rw [e8]; exact q3
              · rw [q2 _ (by omega), q2 _ (by omega), q2 _ (by omega)]; exact hBL i (by omega)
            · rw [c77, tk_us]; omega
          · omega
  refine lv_aload_n hx hb dX12_book_0 rfl (lv_at hl 0 rfl) ?_
  refine hr_ic hx hb dX12_book_1 (by decide) (fun z1 hz1 => ?_)
  refine hr_putN B hF hb hU hW hS (ci := 12) (j := 0) (cd := 0) t0 rfl (isF (by decide +kernel)) rfl (by omega) (by omega) (Or.inl rfl) (hr_EO (tk_X1 (C := C)) t0 (by decide)) (by decide) dX12_book_2 (fun H locs hW hS => ?_)
  refine lv_iload_n hx hb dX12_book_5 rfl (lv_at hl 1 rfl) ?_
  refine hr_ic hx hb dX12_book_6 (by decide) (fun z6 hz6 => ?_)
  refine hr_ic hx hb dX12_book_7 (by decide) (fun z7 hz7 => ?_)
  refine hr_callS (kc := ck_tab 192) B rfl hb hl (hM.1 _ _ 1 [190, 191, 192, 193, 194, 195, 196, 197, 198, 199] (isM (by decide +kernel)) 192 (by decide)) (hs_isIn (by omega) (by omega) (by omega)) ⟨hr_aF, hr_aI (by omega) (by omega), hr_aI (by omega) (by omega), True.intro⟩ hW hS rfl (by decide) (by decide) (Nat.le_of_ble_eq_true rfl) dX12_book_8 (fun r pvv8 E8 H locs hpost hW hS => ?_)
  obtain ⟨ep, rfl, z8, rfl, b8⟩ := hpost
  rw [ep] at hW
  refine hr_ne0 (tgt := 18) hx hb dX12_book_11 (by decide) (fun h11 => ?_) (fun h11 => ?_)
  · have hX1 : 0 ≤ x1.toInt ∧ x1.toInt ≤ 1 := by omega
    refine lv_aload_n hx hb dX12_book_18 rfl (lv_at hl 0 rfl) ?_
    refine hr_sp hx hb dX12_book_19 (by decide) (by decide) (fun z19 hz19 => ?_)
    refine cm_callV (kc := kc_241) B rfl hb hl (hM.1 _ _ 0 [241] (isM (by decide +kernel)) 241 (by decide)) (hH1 _ tk_X1 241 (by decide)) (b := a0) (As := [.int z19]) ⟨hr_aR t0, hr_aI (by omega) (by omega), True.intro⟩ hp hW hS rfl (by decide) (by decide) (Nat.le_of_ble_eq_true rfl) dX12_book_22 (fun cs hcs r pvv22 H locs hca hW hS => ?_)
    obtain rfl := List.mem_singleton.mp hcs
    obtain ⟨hr, hq, hc⟩ := hca
    obtain rfl := hr_rv0 hr
    have hp := hr_std hp hc (by decide +kernel)
    have e22r11 := hr_pv hc 11 (lo := 0) (hi := 0) rfl
    have e22w16 := congrArg Int32.toInt (hr_same1 hc (j := 16) (by decide +kernel))
    have e22w17 := congrArg Int32.toInt (hr_same1 hc (j := 17) (by decide +kernel))
    have e22w18 := congrArg Int32.toInt (hr_same1 hc (j := 18) (by decide +kernel))
    have e22w15 := congrArg Int32.toInt (hr_same1 hc (j := 15) (by decide +kernel))
    have sm : ∀ j, j < 32 → j ∉ [11, 12, 13, 14, 24, 15, 16, 18, 31] → pvv22 j = pvv0 j := hr_sameX hc (by decide +kernel)
    have len : (pvv22 11).toInt = 0 := by omega
    refine lv_aload_n hx hb dX12_book_25 rfl (lv_at hl 0 rfl) ?_
    refine hr_ic hx hb dX12_book_26 (by decide) (fun z26 hz26 => ?_)
    refine hr_putP B hF hb hU hW hS (ci := 12) (j := 15) (cd := 0) t0 rfl (isF (by decide +kernel)) rfl (by omega) (by omega) (Or.inl rfl) (hr_EO (tk_X1 (C := C)) t0 (by decide)) hI (q0 := 31) rfl dX12_book_27 (fun H locs hW hS => ?_)
    obtain ⟨pvv27, e27⟩ : ∃ f, f = upd pvv22 31 z26 := ⟨_, rfl⟩
    rw [← e27] at hW
    have e27q : pvv27 31 = z26 := by rw [e27, pk_us]
    have e27qi := congrArg Int32.toInt e27q
    have e27w11 : (pvv27 11).toInt = (pvv22 11).toInt := by rw [e27, pk_un (by decide)]
    have e27w16 : (pvv27 16).toInt = (pvv22 16).toInt := by rw [e27, pk_un (by decide)]
    have e27w17 : (pvv27 17).toInt = (pvv22 17).toInt := by rw [e27, pk_un (by decide)]
    have e27w18 : (pvv27 18).toInt = (pvv22 18).toInt := by rw [e27, pk_un (by decide)]
    have e27w15 : (pvv27 15).toInt = (pvv22 15).toInt := by rw [e27, pk_un (by decide)]
    have hp := hr_updS hp (q := 31) (x := z26) (lo := 0) (hi := 4) rfl (by omega) (by omega) (by decide +kernel); rw [← e27] at hp
    have sm : ∀ j, j < 32 → j ∉ [11, 12, 13, 14, 24, 15, 16, 18, 31] → pvv27 j = pvv0 j := fun j h1 h2 => (by rw [e27, pk_un (fun q => h2 (by rw [q]; decide))]; exact sm j h1 h2)
    have len : (pvv27 11).toInt = 0 := by rw [e27, pk_un (by decide)]; exact len
    refine lv_aload_n hx hb dX12_book_30 rfl (lv_at hl 0 rfl) ?_
    refine hr_ic hx hb dX12_book_31 (by decide) (fun z31 hz31 => ?_)
    refine hr_putN B hF hb hU hW hS (ci := 12) (j := 41) (cd := 0) t0 rfl (isF (by decide +kernel)) rfl (by omega) (by omega) (Or.inl rfl) (tk_EO t0 (fun a h => hun 12 (by decide) _ _ t0 h) (by decide)) (by decide) dX12_book_32 (fun H locs hW hS => ?_)
    obtain ⟨C32, c32⟩ : ∃ f, f = tk_upd C 12 (41) z31 := ⟨_, rfl⟩
    rw [← c32] at hW
    refine lv_aload_n hx hb dX12_book_35 rfl (lv_at hl 0 rfl) ?_
    refine cm_callV (kc := kc_209) B rfl hb hl (hM.1 _ _ 0 [209] (isM (by decide +kernel)) 209 (by decide)) (hH1 _ tk_X1 209 (by decide)) (b := a0) (As := []) ⟨hr_aR t0, True.intro⟩ hp hW hS rfl (by decide) (by decide) (Nat.le_of_ble_eq_true rfl) dX12_book_36 (fun cs hcs r pvv36 H locs hca hW hS => ?_)
    rcases List.mem_cons.mp hcs with rfl | hcs
    · obtain ⟨hr, hq, hc⟩ := hca
      obtain rfl := hr_rv0 hr
      have hp := hr_std hp hc (by decide +kernel)
      have e36w11 := congrArg Int32.toInt (hr_same1 hc (j := 11) (by decide +kernel))
      have e36w16 := congrArg Int32.toInt (hr_same1 hc (j := 16) (by decide +kernel))
      have e36w17 := congrArg Int32.toInt (hr_same1 hc (j := 17) (by decide +kernel))
      have e36w18 := congrArg Int32.toInt (hr_same1 hc (j := 18) (by decide +kernel))
      have e36w15 := congrArg Int32.toInt (hr_same1 hc (j := 15) (by decide +kernel))
      have sm : ∀ j, j < 32 → j ∉ [11, 12, 13, 14, 24, 15, 16, 18, 31] → pvv36 j = pvv0 j := fun j h1 h2 => (hr_sameX (l := [11, 12, 13, 14, 24, 15, 16, 18, 31]) hc (by decide +kernel) j h1 h2).trans (sm j h1 h2)
      have len : (pvv36 11).toInt = 0 := by omega
      refine l39 42 pvv36 C32 _ _ _ ?_ hX1 sm len (fun t j h1 h2 => ?_) (fun i hi => ?_) ?_ hp hl hW hS
      · rw [c32, tk_us]; omega
      · rw [c32, tk_un h2]
      · rw [c32, tk_us] at hi; omega
      · rw [c32, tk_us]; omega
    rcases List.mem_cons.mp hcs with rfl | hcs
    · obtain ⟨hr, hq, hc⟩ := hca
      obtain rfl := hr_rv0 hr
      have hp := hr_std hp hc (by decide +kernel)
      have e36w11 := congrArg Int32.toInt (hr_same1 hc (j := 11) (by decide +kernel))
      have e36w16 := congrArg Int32.toInt (hr_same1 hc (j := 16) (by decide +kernel))
      have e36w17 := congrArg Int32.toInt (hr_same1 hc (j := 17) (by decide +kernel))
      have e36w18 := congrArg Int32.toInt (hr_same1 hc (j := 18) (by decide +kernel))
      have e36w15 := congrArg Int32.toInt (hr_same1 hc (j := 15) (by decide +kernel))
      have sm : ∀ j, j < 32 → j ∉ [11, 12, 13, 14, 24, 15, 16, 18, 31] → pvv36 j = pvv0 j := fun j h1 h2 => (hr_sameX (l := [11, 12, 13, 14, 24, 15, 16, 18, 31]) hc (by decide +kernel) j h1 h2).trans (sm j h1 h2)
      have len : (pvv36 11).toInt = 0 := by omega
      refine l39 42 pvv36 C32 _ _ _ ?_ hX1 sm len (fun t j h1 h2 => ?_) (fun i hi => ?_) ?_ hp hl hW hS
      · rw [c32, tk_us]; omega
      · rw [c32, tk_un h2]
      · rw [c32, tk_us] at hi; omega
      · rw [c32, tk_us]; omega
    rcases List.mem_cons.mp hcs with rfl | hcs
    · obtain ⟨hr, hq, hc⟩ := hca
      obtain rfl := hr_rv0 hr
      have hp := hr_std hp hc (by decide +kernel)
      have e36w11 := congrArg Int32.toInt (hr_same1 hc (j := 11) (by decide +kernel))
      have e36w16 := congrArg Int32.toInt (hr_same1 hc (j := 16) (by decide +kernel))
      have e36w17 := congrArg Int32.toInt (hr_same1 hc (j := 17) (by decide +kernel))
      have e36w18 := congrArg Int32.toInt (hr_same1 hc (j := 18) (by decide +kernel))
      have e36w15 := congrArg Int32.toInt (hr_same1 hc (j := 15) (by decide +kernel))
      have sm : ∀ j, j < 32 → j ∉ [11, 12, 13, 14, 24, 15, 16, 18, 31] → pvv36 j = pvv0 j := fun j h1 h2 => (hr_sameX (l := [11, 12, 13, 14, 24, 15, 16, 18, 31]) hc (by decide +kernel) j h1 h2).trans (sm j h1 h2)
      have len : (pvv36 11).toInt = 0 := by omega
      refine l39 42 pvv36 C32 _ _ _ ?_ hX1 sm len (fun t j h1 h2 => ?_) (fun i hi => ?_) ?_ hp hl hW hS
      · rw [c32, tk_us]; omega
      · rw [c32, tk_un h2]
      · rw [c32, tk_us] at hi; omega
      · rw [c32, tk_us]; omega
    obtain rfl := List.mem_singleton.mp hcs
    obtain ⟨hr, hq, hc⟩ := hca
    obtain rfl := hr_rv0 hr
    have hp := hr_std hp hc (by decide +kernel)
    have e36w11 := congrArg Int32.toInt (hr_same1 hc (j := 11) (by decide +kernel))
    have e36w16 := congrArg Int32.toInt (hr_same1 hc (j := 16) (by decide +kernel))
    have e36w17 := congrArg Int32.toInt (hr_same1 hc (j := 17) (by decide +kernel))
    have e36w18 := congrArg Int32.toInt (hr_same1 hc (j := 18) (by decide +kernel))
    have e36w15 := congrArg Int32.toInt (hr_same1 hc (j := 15) (by decide +kernel))
    have sm : ∀ j, j < 32 → j ∉ [11, 12, 13, 14, 24, 15, 16, 18, 31] → pvv36 j = pvv0 j := fun j h1 h2 => (hr_sameX (l := [11, 12, 13, 14, 24, 15, 16, 18, 31]) hc (by decide +kernel) j h1 h2).trans (sm j h1 h2)
    have len : (pvv36 11).toInt = 0 := by omega
    refine l39 42 pvv36 C32 _ _ _ ?_ hX1 sm len (fun t j h1 h2 => ?_) (fun i hi => ?_) ?_ hp hl hW hS
    · rw [c32, tk_us]; omega
    · rw [c32, tk_un h2]
    · rw [c32, tk_us] at hi; omega
    · rw [c32, tk_us]; omega
  · refine hr_sp hx hb dX12_book_14 (by decide) (by decide) (fun z14 hz14 => ?_)
    by_cases hneg : x1.toInt < 0
    · exact cm_iret B hb rfl ⟨_, (List.mem_cons_of_mem _ List.mem_cons_self), hr_aI (ty := ty) (by omega) (by omega), (fun q h => by obtain rfl := List.mem_singleton.mp h; exact ⟨x1, rfl, ck_lo _, by show _ ≤ (-1 : Int); omega⟩), hr_wk (hr_self hp0) (by decide +kernel)⟩ (ge_in hW hG0) hS dX12_book_17
    · exact cm_iret B hb rfl ⟨_, (List.mem_cons_of_mem _ (List.mem_cons_of_mem _ List.mem_cons_self)), hr_aI (ty := ty) (by omega) (by omega), (fun q h => by obtain rfl := List.mem_singleton.mp h; exact ⟨x1, rfl, by show (2 : Int) ≤ _; omega, ck_hi _⟩), hr_wk (hr_self hp0) (by decide +kernel)⟩ (ge_in hW hG0) hS dX12_book_17
end H35
