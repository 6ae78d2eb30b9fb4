/-! BY HAND, 12: isSaid. -/
theorem dp_not {f : Nat → Int32} {i : Nat} (h : (f (1 + 3 * i)).toInt = 20) : dp f (i + 1) = dp f i := by
  show dp f i + _ = _
  rw [if_pos h]; omega
theorem dp_bin {f : Nat → Int32} {i : Nat} (h : (f (1 + 3 * i)).toInt = 21 ∨ (f (1 + 3 * i)).toInt = 22) : dp f (i + 1) = dp f i - 1 := by
  show dp f i + _ = _
  rw [if_neg (by omega), if_pos h]; omega
theorem dp_leaf {f : Nat → Int32} {i : Nat} (h0 : (f (1 + 3 * i)).toInt ≠ 20) (h1 : (f (1 + 3 * i)).toInt ≠ 21) (h2 : (f (1 + 3 * i)).toInt ≠ 22) : dp f (i + 1) = dp f i + 1 := by
  show dp f i + _ = _
  rw [if_neg h0, if_neg (by omega)]
theorem dp_le {f : Nat → Int32} : ∀ i : Nat, dp f i ≤ i
  | 0 => Int.le_refl _
  | i + 1 => by
    have := dp_le (f := f) i
    show dp f i + _ ≤ _
    split
    · omega
    · split <;> omega
theorem dp_nn {f : Nat → Int32} (h : cwf f) : ∀ i : Nat, (i : Int) ≤ (f 0).toInt → 0 ≤ dp f i
  | 0, _ => Int.le_refl _
  | i + 1, hi => by
    have h1 := dp_nn h i (by omega)
    have h2 := h i (by omega)
    show 0 ≤ dp f i + _
    split
    · omega
    · split
      · next h3 => have := h2.2 h3; omega
      · omega
section H30
variable {l : Launch} {D : va_G} {cys : Nat → ClassId} {ty : Nat → Option Nat}
theorem dX12_isSaid_0 : decode cX12_isSaid 0 = .ok (.iconst 0, 1) := by decide +kernel
theorem dX12_isSaid_1 : decode cX12_isSaid 1 = .ok (.istore_n 2, 1) := by decide +kernel
theorem dX12_isSaid_2 : decode cX12_isSaid 2 = .ok (.iconst 0, 1) := by decide +kernel
theorem dX12_isSaid_3 : decode cX12_isSaid 3 = .ok (.istore_n 3, 1) := by decide +kernel
theorem dX12_isSaid_4 : decode cX12_isSaid 4 = .ok (.iload_n 3, 1) := by decide +kernel
theorem dX12_isSaid_5 : decode cX12_isSaid 5 = .ok (.aload_n 0, 1) := by decide +kernel
theorem dX12_isSaid_6 : decode cX12_isSaid 6 = .ok (.getfield 33, 3) := by decide +kernel
theorem dX12_isSaid_9 : decode cX12_isSaid 9 = .ok (.sipush 186, 3) := by decide +kernel
theorem dX12_isSaid_12 : decode cX12_isSaid 12 = .ok (.iaload, 1) := by decide +kernel
theorem dX12_isSaid_13 : decode cX12_isSaid 13 = .ok (.if_icmp .ge 199, 3) := by decide +kernel
theorem dX12_isSaid_16 : decode cX12_isSaid 16 = .ok (.sipush 187, 3) := by decide +kernel
theorem dX12_isSaid_19 : decode cX12_isSaid 19 = .ok (.iconst 3, 1) := by decide +kernel
theorem dX12_isSaid_20 : decode cX12_isSaid 20 = .ok (.iload_n 3, 1) := by decide +kernel
theorem dX12_isSaid_21 : decode cX12_isSaid 21 = .ok (.imul, 1) := by decide +kernel
theorem dX12_isSaid_22 : decode cX12_isSaid 22 = .ok (.iadd, 1) := by decide +kernel
theorem dX12_isSaid_23 : decode cX12_isSaid 23 = .ok (.istore 4, 2) := by decide +kernel
theorem dX12_isSaid_25 : decode cX12_isSaid 25 = .ok (.aload_n 0, 1) := by decide +kernel
theorem dX12_isSaid_26 : decode cX12_isSaid 26 = .ok (.getfield 33, 3) := by decide +kernel
theorem dX12_isSaid_29 : decode cX12_isSaid 29 = .ok (.iload 4, 2) := by decide +kernel
theorem dX12_isSaid_31 : decode cX12_isSaid 31 = .ok (.iaload, 1) := by decide +kernel
theorem dX12_isSaid_32 : decode cX12_isSaid 32 = .ok (.bipush 20, 2) := by decide +kernel
theorem dX12_isSaid_34 : decode cX12_isSaid 34 = .ok (.if_icmp .ne 30, 3) := by decide +kernel
theorem dX12_isSaid_37 : decode cX12_isSaid 37 = .ok (.aload_n 0, 1) := by decide +kernel
theorem dX12_isSaid_38 : decode cX12_isSaid 38 = .ok (.getfield 89, 3) := by decide +kernel
theorem dX12_isSaid_41 : decode cX12_isSaid 41 = .ok (.iload_n 2, 1) := by decide +kernel
theorem dX12_isSaid_42 : decode cX12_isSaid 42 = .ok (.iconst 1, 1) := by decide +kernel
theorem dX12_isSaid_43 : decode cX12_isSaid 43 = .ok (.isub, 1) := by decide +kernel
theorem dX12_isSaid_44 : decode cX12_isSaid 44 = .ok (.aload_n 0, 1) := by decide +kernel
theorem dX12_isSaid_45 : decode cX12_isSaid 45 = .ok (.getfield 89, 3) := by decide +kernel
theorem dX12_isSaid_48 : decode cX12_isSaid 48 = .ok (.iload_n 2, 1) := by decide +kernel
theorem dX12_isSaid_49 : decode cX12_isSaid 49 = .ok (.iconst 1, 1) := by decide +kernel
theorem dX12_isSaid_50 : decode cX12_isSaid 50 = .ok (.isub, 1) := by decide +kernel
theorem dX12_isSaid_51 : decode cX12_isSaid 51 = .ok (.baload, 1) := by decide +kernel
theorem dX12_isSaid_52 : decode cX12_isSaid 52 = .ok (.ifCond .ne 7, 3) := by decide +kernel
theorem dX12_isSaid_55 : decode cX12_isSaid 55 = .ok (.iconst 1, 1) := by decide +kernel
theorem dX12_isSaid_56 : decode cX12_isSaid 56 = .ok (.goto 4, 3) := by decide +kernel
theorem dX12_isSaid_59 : decode cX12_isSaid 59 = .ok (.iconst 0, 1) := by decide +kernel
theorem dX12_isSaid_60 : decode cX12_isSaid 60 = .ok (.bastore, 1) := by decide +kernel
theorem dX12_isSaid_61 : decode cX12_isSaid 61 = .ok (.goto 145, 3) := by decide +kernel
theorem dX12_isSaid_64 : decode cX12_isSaid 64 = .ok (.aload_n 0, 1) := by decide +kernel
theorem dX12_isSaid_65 : decode cX12_isSaid 65 = .ok (.getfield 33, 3) := by decide +kernel
theorem dX12_isSaid_68 : decode cX12_isSaid 68 = .ok (.iload 4, 2) := by decide +kernel
theorem dX12_isSaid_70 : decode cX12_isSaid 70 = .ok (.iaload, 1) := by decide +kernel
theorem dX12_isSaid_71 : decode cX12_isSaid 71 = .ok (.bipush 21, 2) := by decide +kernel
theorem dX12_isSaid_73 : decode cX12_isSaid 73 = .ok (.if_icmp .eq 15, 3) := by decide +kernel
theorem dX12_isSaid_76 : decode cX12_isSaid 76 = .ok (.aload_n 0, 1) := by decide +kernel
theorem dX12_isSaid_77 : decode cX12_isSaid 77 = .ok (.getfield 33, 3) := by decide +kernel
theorem dX12_isSaid_80 : decode cX12_isSaid 80 = .ok (.iload 4, 2) := by decide +kernel
theorem dX12_isSaid_82 : decode cX12_isSaid 82 = .ok (.iaload, 1) := by decide +kernel
theorem dX12_isSaid_83 : decode cX12_isSaid 83 = .ok (.bipush 22, 2) := by decide +kernel
theorem dX12_isSaid_85 : decode cX12_isSaid 85 = .ok (.if_icmp .ne 82, 3) := by decide +kernel
theorem dX12_isSaid_88 : decode cX12_isSaid 88 = .ok (.iinc 2 (-1), 3) := by decide +kernel
theorem dX12_isSaid_91 : decode cX12_isSaid 91 = .ok (.aload_n 0, 1) := by decide +kernel
theorem dX12_isSaid_92 : decode cX12_isSaid 92 = .ok (.getfield 89, 3) := by decide +kernel
theorem dX12_isSaid_95 : decode cX12_isSaid 95 = .ok (.iload_n 2, 1) := by decide +kernel
theorem dX12_isSaid_96 : decode cX12_isSaid 96 = .ok (.iconst 1, 1) := by decide +kernel
theorem dX12_isSaid_97 : decode cX12_isSaid 97 = .ok (.isub, 1) := by decide +kernel
theorem dX12_isSaid_98 : decode cX12_isSaid 98 = .ok (.aload_n 0, 1) := by decide +kernel
theorem dX12_isSaid_99 : decode cX12_isSaid 99 = .ok (.getfield 33, 3) := by decide +kernel
theorem dX12_isSaid_102 : decode cX12_isSaid 102 = .ok (.iload 4, 2) := by decide +kernel
theorem dX12_isSaid_104 : decode cX12_isSaid 104 = .ok (.iaload, 1) := by decide +kernel
theorem dX12_isSaid_105 : decode cX12_isSaid 105 = .ok (.bipush 21, 2) := by decide +kernel
theorem dX12_isSaid_107 : decode cX12_isSaid 107 = .ok (.if_icmp .ne 31, 3) := by decide +kernel
theorem dX12_isSaid_110 : decode cX12_isSaid 110 = .ok (.aload_n 0, 1) := by decide +kernel
theorem dX12_isSaid_111 : decode cX12_isSaid 111 = .ok (.getfield 89, 3) := by decide +kernel
theorem dX12_isSaid_114 : decode cX12_isSaid 114 = .ok (.iload_n 2, 1) := by decide +kernel
theorem dX12_isSaid_115 : decode cX12_isSaid 115 = .ok (.iconst 1, 1) := by decide +kernel
theorem dX12_isSaid_116 : decode cX12_isSaid 116 = .ok (.isub, 1) := by decide +kernel
theorem dX12_isSaid_117 : decode cX12_isSaid 117 = .ok (.baload, 1) := by decide +kernel
theorem dX12_isSaid_118 : decode cX12_isSaid 118 = .ok (.ifCond .eq 16, 3) := by decide +kernel
theorem dX12_isSaid_121 : decode cX12_isSaid 121 = .ok (.aload_n 0, 1) := by decide +kernel
theorem dX12_isSaid_122 : decode cX12_isSaid 122 = .ok (.getfield 89, 3) := by decide +kernel
theorem dX12_isSaid_125 : decode cX12_isSaid 125 = .ok (.iload_n 2, 1) := by decide +kernel
theorem dX12_isSaid_126 : decode cX12_isSaid 126 = .ok (.baload, 1) := by decide +kernel
theorem dX12_isSaid_127 : decode cX12_isSaid 127 = .ok (.ifCond .eq 7, 3) := by decide +kernel
theorem dX12_isSaid_130 : decode cX12_isSaid 130 = .ok (.iconst 1, 1) := by decide +kernel
theorem dX12_isSaid_131 : decode cX12_isSaid 131 = .ok (.goto 32, 3) := by decide +kernel
theorem dX12_isSaid_134 : decode cX12_isSaid 134 = .ok (.iconst 0, 1) := by decide +kernel
theorem dX12_isSaid_135 : decode cX12_isSaid 135 = .ok (.goto 28, 3) := by decide +kernel
theorem dX12_isSaid_138 : decode cX12_isSaid 138 = .ok (.aload_n 0, 1) := by decide +kernel
theorem dX12_isSaid_139 : decode cX12_isSaid 139 = .ok (.getfield 89, 3) := by decide +kernel
theorem dX12_isSaid_142 : decode cX12_isSaid 142 = .ok (.iload_n 2, 1) := by decide +kernel
theorem dX12_isSaid_143 : decode cX12_isSaid 143 = .ok (.iconst 1, 1) := by decide +kernel
theorem dX12_isSaid_144 : decode cX12_isSaid 144 = .ok (.isub, 1) := by decide +kernel
theorem dX12_isSaid_145 : decode cX12_isSaid 145 = .ok (.baload, 1) := by decide +kernel
theorem dX12_isSaid_146 : decode cX12_isSaid 146 = .ok (.ifCond .ne 12, 3) := by decide +kernel
theorem dX12_isSaid_149 : decode cX12_isSaid 149 = .ok (.aload_n 0, 1) := by decide +kernel
theorem dX12_isSaid_150 : decode cX12_isSaid 150 = .ok (.getfield 89, 3) := by decide +kernel
theorem dX12_isSaid_153 : decode cX12_isSaid 153 = .ok (.iload_n 2, 1) := by decide +kernel
theorem dX12_isSaid_154 : decode cX12_isSaid 154 = .ok (.baload, 1) := by decide +kernel
theorem dX12_isSaid_155 : decode cX12_isSaid 155 = .ok (.ifCond .eq 7, 3) := by decide +kernel
theorem dX12_isSaid_158 : decode cX12_isSaid 158 = .ok (.iconst 1, 1) := by decide +kernel
theorem dX12_isSaid_159 : decode cX12_isSaid 159 = .ok (.goto 4, 3) := by decide +kernel
theorem dX12_isSaid_162 : decode cX12_isSaid 162 = .ok (.iconst 0, 1) := by decide +kernel
theorem dX12_isSaid_163 : decode cX12_isSaid 163 = .ok (.bastore, 1) := by decide +kernel
theorem dX12_isSaid_164 : decode cX12_isSaid 164 = .ok (.goto 42, 3) := by decide +kernel
theorem dX12_isSaid_167 : decode cX12_isSaid 167 = .ok (.aload_n 0, 1) := by decide +kernel
theorem dX12_isSaid_168 : decode cX12_isSaid 168 = .ok (.getfield 89, 3) := by decide +kernel
theorem dX12_isSaid_171 : decode cX12_isSaid 171 = .ok (.iload_n 2, 1) := by decide +kernel
theorem dX12_isSaid_172 : decode cX12_isSaid 172 = .ok (.aload_n 0, 1) := by decide +kernel
theorem dX12_isSaid_173 : decode cX12_isSaid 173 = .ok (.iload_n 1, 1) := by decide +kernel
theorem dX12_isSaid_174 : decode cX12_isSaid 174 = .ok (.aload_n 0, 1) := by decide +kernel
theorem dX12_isSaid_175 : decode cX12_isSaid 175 = .ok (.getfield 33, 3) := by decide +kernel
theorem dX12_isSaid_178 : decode cX12_isSaid 178 = .ok (.iload 4, 2) := by decide +kernel
theorem dX12_isSaid_180 : decode cX12_isSaid 180 = .ok (.iaload, 1) := by decide +kernel
theorem dX12_isSaid_181 : decode cX12_isSaid 181 = .ok (.aload_n 0, 1) := by decide +kernel
theorem dX12_isSaid_182 : decode cX12_isSaid 182 = .ok (.getfield 33, 3) := by decide +kernel
theorem dX12_isSaid_185 : decode cX12_isSaid 185 = .ok (.iload 4, 2) := by decide +kernel
theorem dX12_isSaid_187 : decode cX12_isSaid 187 = .ok (.iconst 1, 1) := by decide +kernel
theorem dX12_isSaid_188 : decode cX12_isSaid 188 = .ok (.iadd, 1) := by decide +kernel
theorem dX12_isSaid_189 : decode cX12_isSaid 189 = .ok (.iaload, 1) := by decide +kernel
theorem dX12_isSaid_190 : decode cX12_isSaid 190 = .ok (.aload_n 0, 1) := by decide +kernel
theorem dX12_isSaid_191 : decode cX12_isSaid 191 = .ok (.getfield 33, 3) := by decide +kernel
theorem dX12_isSaid_194 : decode cX12_isSaid 194 = .ok (.iload 4, 2) := by decide +kernel
theorem dX12_isSaid_196 : decode cX12_isSaid 196 = .ok (.iconst 2, 1) := by decide +kernel
theorem dX12_isSaid_197 : decode cX12_isSaid 197 = .ok (.iadd, 1) := by decide +kernel
theorem dX12_isSaid_198 : decode cX12_isSaid 198 = .ok (.iaload, 1) := by decide +kernel
theorem dX12_isSaid_199 : decode cX12_isSaid 199 = .ok (.invokevirtual 445, 3) := by decide +kernel
theorem dX12_isSaid_202 : decode cX12_isSaid 202 = .ok (.bastore, 1) := by decide +kernel
theorem dX12_isSaid_203 : decode cX12_isSaid 203 = .ok (.iinc 2 1, 3) := by decide +kernel
theorem dX12_isSaid_206 : decode cX12_isSaid 206 = .ok (.iinc 3 1, 3) := by decide +kernel
theorem dX12_isSaid_209 : decode cX12_isSaid 209 = .ok (.goto (-205), 3) := by decide +kernel
theorem dX12_isSaid_212 : decode cX12_isSaid 212 = .ok (.aload_n 0, 1) := by decide +kernel
theorem dX12_isSaid_213 : decode cX12_isSaid 213 = .ok (.getfield 89, 3) := by decide +kernel
theorem dX12_isSaid_216 : decode cX12_isSaid 216 = .ok (.iconst 0, 1) := by decide +kernel
theorem dX12_isSaid_217 : decode cX12_isSaid 217 = .ok (.baload, 1) := by decide +kernel
theorem dX12_isSaid_218 : decode cX12_isSaid 218 = .ok (.ireturn, 1) := by decide +kernel
set_option maxRecDepth 100000 in
set_option maxHeartbeats 4000000 in
theorem hk_12_isSaid (hF : ck_LKf ck_LK) (hM : ck_LKm ck_tags ck_LK ck_tab) (hU : ck_uq ty ck_pvs0) (hun : ck_un ty) (hH1 : ∀ Ex', ck_ExP ty ck_prot1 Ex' → ∀ j, j < 331 → ck_Holds l D cys ty ck_tags ck_pvs0 Ex' (ck_tab j)) (hH : ∀ j, j < 344 → ck_Holds l D cys ty ck_tags ck_pvs0 (GE ty) (ck_tab j)) : ck_Holds l D cys ty ck_tags ck_pvs0 (GE ty) (ck_tab 344) := by
  refine cm_enter (by decide +kernel) (by decide +kernel) (by decide +kernel) ?_
  intro vs pvv0 p e s m below meth c ls ha hp B hl hW
  have hx := B.1
  have hb : c.code = cX12_isSaid := B.2.1
  have hI := pv_inj
  have hS : va_S (ck_own ty) s.heap s.heap [] := va_S.rf
  obtain ⟨C, hG, hW⟩ := ge_out hW
  obtain ⟨_, _, rfl, ⟨a0, rfl, t0⟩, ⟨x1, rfl, l1, u1, -⟩⟩ := cm_a2 ha
  dsimp only at l1 u1
  have hl : lv_has ls 5 [(0, .ref a0), (1, .int x1)] := hl
  have hp0 := hp
  have hG0 := hG
  obtain ⟨G5, G1, G2, G3, G4⟩ := hG
  obtain ⟨f, hf⟩ : ∃ f : Nat → Int32, f = fun i => C 34 (186 + i) := ⟨_, rfl⟩
  have G4 : cwf f := by rw [hf]; exact G4
  have l4 : ∀ (n4 : Nat) (i : Int32) (nn : Int32) (ls : Array Slot) (H : Heap) (locs : List Loc), (f 0).toInt - i.toInt < n4 → (0 ≤ i.toInt) → (i.toInt ≤ (f 0).toInt) → (nn.toInt = dp f i.toInt.toNat) → lv_has ls 5 [(3, .int i), (2, .int nn), (0, .ref a0), (1, .int x1)] → ck_Wo D cys ty ck_tags ck_pvs0 (tk ty ck_prot1 C) pvv0 H → va_S (ck_own ty) s.heap H locs → W p l e (ck_rm (ck_tab 344)) s m [Value.ref a0, Value.int x1].toArray below meth c H locs 0 0 (MQ below (ck_Qc D cys ty ck_tags ck_pvs0 (GE ty) (ck_tab 344) [Value.ref a0, Value.int x1] pvv0) [Value.ref a0, Value.int x1].toArray s 0 0 (ck_own ty)) (F0 m 4 ls []) := by
    intro n4
    induction n4 with
    | zero => intro i nn ls H locs hm4 i1 i2 hn hl hW hS; omega
    | succ n4 ih4 =>
      intro i nn ls H locs hm4 i1 i2 hn hl hW hS
      refine lv_iload_n hx hb dX12_isSaid_4 rfl (lv_at hl 0 rfl) ?_
      refine lv_aload_n hx hb dX12_isSaid_5 rfl (lv_at hl 2 rfl) ?_
      refine hr_getR B hF hb hW (ci := 12) (j := 6) (cd := 3) t0 rfl (isF (by decide +kernel)) rfl dX12_isSaid_6 (fun az6 tz6 xz6 => ?_)
      refine hr_sp hx hb dX12_isSaid_9 (by decide) (by decide) (fun z9 hz9 => ?_)
      refine hr_iald B hb hW tz6 rfl (by omega) (by omega) dX12_isSaid_12 (fun z12 iz12 pz12 xz12 => ?_)
      have iz12 := hr_inr iz12 (a := 186) (b := 186) (lo := 0) (hi := 45) (by omega) (by omega) (by decide +kernel)
      have xz12 := tk_xa xz12 (fun _ h => h) (pq := ck_prot1) (C := C) tz6 ⟨(186, 366), by decide, by dsimp only; omega, by dsimp only; omega⟩; have kz12 := congrArg Int32.toInt xz12
      have e12 : z12.toInt = (f 0).toInt := by rw [kz12, hf, show z9.toInt.toNat = 186 by omega]
      refine hr_ge (tgt := 212) hx hb dX12_isSaid_13 (by decide) (fun h13 => ?_) (fun h13 => ?_)
      · refine lv_aload_n hx hb dX12_isSaid_212 rfl (lv_at hl 2 rfl) ?_
        refine hr_getR B hF hb hW (ci := 12) (j := 50) (cd := 3) t0 rfl (isF (by decide +kernel)) rfl dX12_isSaid_213 (fun az213 tz213 xz213 => ?_)
        refine hr_ic hx hb dX12_isSaid_216 (by decide) (fun z216 hz216 => ?_)
        refine hr_zald B hb hW tz213 rfl (by omega) (by omega) dX12_isSaid_217 (fun z217 iz217 pz217 xz217 => ?_)
        have iz217 := hr_inr iz217 (a := 0) (b := 0) (lo := 0) (hi := 1) (by omega) (by omega) (by decide +kernel)
        exact cm_zret B hb rfl ⟨by omega, by omega⟩ ⟨_, List.mem_cons_self, hr_aI (ty := ty) (by omega) (by omega), (fun q h => nomatch h), hr_wk (hr_self hp0) (by decide +kernel)⟩ (ge_in hW hG0) hS dX12_isSaid_218
      · refine hr_sp hx hb dX12_isSaid_16 (by decide) (by decide) (fun z16 hz16 => ?_)
        refine hr_ic hx hb dX12_isSaid_19 (by decide) (fun z19 hz19 => ?_)
        refine lv_iload_n hx hb dX12_isSaid_20 rfl (lv_at hl 0 rfl) ?_
        refine hr_mulL hx hb dX12_isSaid_21 hz19 (by omega) (by omega) (fun z21 hz21 => ?_)
        refine hr_add hx hb dX12_isSaid_22 (by omega) (by omega) (fun z22 hz22 => ?_)
        have e0 : z22.toInt.toNat = 186 + (1 + 3 * i.toInt.toNat) := by omega
        have ef : f (1 + 3 * i.toInt.toNat) = C 34 (186 + (1 + 3 * i.toInt.toNat)) := by rw [hf]
        have ef := congrArg Int32.toInt ef
        have g4 := G4 i.toInt.toNat (by omega)
        have dn := dp_nn G4 i.toInt.toNat (by omega)
        have dl := dp_le (f := f) i.toInt.toNat
        refine lv_istore hx hb dX12_isSaid_23 hl (lv' := [(4, .int z22), (3, .int i), (2, .int nn), (0, .ref a0), (1, .int x1)]) (by decide) rfl (fun ls hl => ?_)
        refine lv_aload_n hx hb dX12_isSaid_25 rfl (lv_at hl 3 rfl) ?_
        refine hr_getR B hF hb hW (ci := 12) (j := 6) (cd := 3) t0 rfl (isF (by decide +kernel)) rfl dX12_isSaid_26 (fun az26 tz26 xz26 => ?_)
        refine lv_iload hx hb dX12_isSaid_29 (lv_at hl 0 rfl) ?_
        refine hr_iald B hb hW tz26 rfl (by omega) (by omega) dX12_isSaid_31 (fun z31 iz31 pz31 xz31 => ?_)
        have xz31 := tk_xa xz31 (fun _ h => h) (pq := ck_prot1) (C := C) tz26 ⟨(186, 366), by decide, by dsimp only; omega, by dsimp only; omega⟩; have kz31 := congrArg Int32.toInt xz31
        rw [e0] at kz31
        refine hr_bp hx hb dX12_isSaid_32 (by decide) (by decide) (fun z32 hz32 => ?_)
        refine hr_ne (tgt := 64) hx hb dX12_isSaid_34 (by decide) (fun h34 => ?_) (fun h34 => ?_)
        · refine lv_aload_n hx hb dX12_isSaid_64 rfl (lv_at hl 3 rfl) ?_
          refine hr_getR B hF hb hW (ci := 12) (j := 6) (cd := 3) t0 rfl (isF (by decide +kernel)) rfl dX12_isSaid_65 (fun az65 tz65 xz65 => ?_)
          refine lv_iload hx hb dX12_isSaid_68 (lv_at hl 0 rfl) ?_
          refine hr_iald B hb hW tz65 rfl (by omega) (by omega) dX12_isSaid_70 (fun z70 iz70 pz70 xz70 => ?_)
          have xz70 := tk_xa xz70 (fun _ h => h) (pq := ck_prot1) (C := C) tz65 ⟨(186, 366), by decide, by dsimp only; omega, by dsimp only; omega⟩; have kz70 := congrArg Int32.toInt xz70
          rw [e0] at kz70
          refine hr_bp hx hb dX12_isSaid_71 (by decide) (by decide) (fun z71 hz71 => ?_)
          refine hr_eq (tgt := 88) hx hb dX12_isSaid_73 (by decide) (fun h73 => ?_) (fun h73 => ?_)
          · have d2 : 2 ≤ dp f i.toInt.toNat := g4.2 (by omega)
            refine hr_inc hx hb dX12_isSaid_88 hl (kq := 2) (lv' := fun v => [(2, .int v), (4, .int z22), (3, .int i), (0, .ref a0), (1, .int x1)]) rfl (by decide) (by decide) (by omega) (by omega) (fun _ => rfl) (fun z88 ls hz88 hl => ?_)
            refine lv_aload_n hx hb dX12_isSaid_91 rfl (lv_at hl 3 rfl) ?_
            refine hr_getR B hF hb hW (ci := 12) (j := 50) (cd := 3) t0 rfl (isF (by decide +kernel)) rfl dX12_isSaid_92 (fun az92 tz92 xz92 => ?_)
            refine lv_iload_n hx hb dX12_isSaid_95 rfl (lv_at hl 0 rfl) ?_
            refine hr_ic hx hb dX12_isSaid_96 (by decide) (fun z96 hz96 => ?_)
            refine hr_sub hx hb dX12_isSaid_97 (by omega) (by omega) (fun z97 hz97 => ?_)
            refine lv_aload_n hx hb dX12_isSaid_98 rfl (lv_at hl 3 rfl) ?_
            refine hr_getR B hF hb hW (ci := 12) (j := 6) (cd := 3) t0 rfl (isF (by decide +kernel)) rfl dX12_isSaid_99 (fun az99 tz99 xz99 => ?_)
            refine lv_iload hx hb dX12_isSaid_102 (lv_at hl 1 rfl) ?_
            refine hr_iald B hb hW tz99 rfl (by omega) (by omega) dX12_isSaid_104 (fun z104 iz104 pz104 xz104 => ?_)
            have xz104 := tk_xa xz104 (fun _ h => h) (pq := ck_prot1) (C := C) tz99 ⟨(186, 366), by decide, by dsimp only; omega, by dsimp only; omega⟩; have kz104 := congrArg Int32.toInt xz104
            refine hr_bp hx hb dX12_isSaid_105 (by decide) (by decide) (fun z105 hz105 => ?_)
            refine hr_ne (tgt := 138) hx hb dX12_isSaid_107 (by decide) (fun h107 => ?_) (fun h107 => ?_)
            · refine lv_aload_n hx hb dX12_isSaid_138 rfl (lv_at hl 3 rfl) ?_
              refine hr_getR B hF hb hW (ci := 12) (j := 50) (cd := 3) t0 rfl (isF (by decide +kernel)) rfl dX12_isSaid_139 (fun az139 tz139 xz139 => ?_)
              refine lv_iload_n hx hb dX12_isSaid_142 rfl (lv_at hl 0 rfl) ?_
              refine hr_ic hx hb dX12_isSaid_143 (by decide) (fun z143 hz143 => ?_)
              refine hr_sub hx hb dX12_isSaid_144 (by omega) (by omega) (fun z144 hz144 => ?_)
              refine hr_zald B hb hW tz139 rfl (by omega) (by omega) dX12_isSaid_145 (fun z145 iz145 pz145 xz145 => ?_)
              have iz145 := hr_inr iz145 (a := 0) (b := 44) (lo := 0) (hi := 1) (by omega) (by omega) (by decide +kernel)
              refine hr_ne0 (tgt := 158) hx hb dX12_isSaid_146 (by decide) (fun h146 => ?_) (fun h146 => ?_)
              · refine hr_ic hx hb dX12_isSaid_158 (by decide) (fun z158 hz158 => ?_)
                refine lv_goto (tgt := 163) hx hb dX12_isSaid_159 (by decide) ?_
                refine hr_zastN B hb hU hW hS tz92 rfl (by omega) (by omega) (hr_ins (a := 0) (b := 44) (lo := 0) (hi := 1) (by omega) (by omega) (by decide +kernel) (by omega) (by omega)) ⟨by omega, by omega⟩ (hr_EA (i := z97) (tk_X1 (C := C)) tz92 (u := 0) (v := 44) (by omega) (by omega) (by decide)) (u := 0) (v := 44) (by omega) (by omega) (by decide) dX12_isSaid_163 (fun H locs hW hS => ?_)
                refine lv_goto (tgt := 206) hx hb dX12_isSaid_164 (by decide) ?_
                refine hr_inc hx hb dX12_isSaid_206 hl (kq := 2) (lv' := fun v => [(3, .int v), (2, .int z88), (4, .int z22), (0, .ref a0), (1, .int x1)]) rfl (by decide) (by decide) (by omega) (by omega) (fun _ => rfl) (fun z206 ls hz206 hl => ?_)
                refine lv_goto (tgt := 4) hx hb dX12_isSaid_209 (by decide) ?_
                exact ih4 z206 z88 _ _ _ (by omega) (by omega) (by omega) (by rw [show z206.toInt.toNat = i.toInt.toNat + 1 by omega, dp_bin (by omega)]; omega) (lv_sub hl [0, 1, 3, 4] rfl) hW hS
              · refine lv_aload_n hx hb dX12_isSaid_149 rfl (lv_at hl 3 rfl) ?_
                refine hr_getR B hF hb hW (ci := 12) (j := 50) (cd := 3) t0 rfl (isF (by decide +kernel)) rfl dX12_isSaid_150 (fun az150 tz150 xz150 => ?_)
                refine lv_iload_n hx hb dX12_isSaid_153 rfl (lv_at hl 0 rfl) ?_
                refine hr_zald B hb hW tz150 rfl (by omega) (by omega) dX12_isSaid_154 (fun z154 iz154 pz154 xz154 => ?_)
                have iz154 := hr_inr iz154 (a := 0) (b := 44) (lo := 0) (hi := 1) (by omega) (by omega) (by decide +kernel)
                refine hr_eq0 (tgt := 162) hx hb dX12_isSaid_155 (by decide) (fun h155 => ?_) (fun h155 => ?_)
                · refine hr_ic hx hb dX12_isSaid_162 (by decide) (fun z162 hz162 => ?_)
                  refine hr_zastN B hb hU hW hS tz92 rfl (by omega) (by omega) (hr_ins (a := 0) (b := 44) (lo := 0) (hi := 1) (by omega) (by omega) (by decide +kernel) (by omega) (by omega)) ⟨by omega, by omega⟩ (hr_EA (i := z97) (tk_X1 (C := C)) tz92 (u := 0) (v := 44) (by omega) (by omega) (by decide)) (u := 0) (v := 44) (by omega) (by omega) (by decide) dX12_isSaid_163 (fun H locs hW hS => ?_)
                  refine lv_goto (tgt := 206) hx hb dX12_isSaid_164 (by decide) ?_
                  refine hr_inc hx hb dX12_isSaid_206 hl (kq := 2) (lv' := fun v => [(3, .int v), (2, .int z88), (4, .int z22), (0, .ref a0), (1, .int x1)]) rfl (by decide) (by decide) (by omega) (by omega) (fun _ => rfl) (fun z206 ls hz206 hl => ?_)
                  refine lv_goto (tgt := 4) hx hb dX12_isSaid_209 (by decide) ?_
                  exact ih4 z206 z88 _ _ _ (by omega) (by omega) (by omega) (by rw [show z206.toInt.toNat = i.toInt.toNat + 1 by omega, dp_bin (by omega)]; omega) (lv_sub hl [0, 1, 3, 4] rfl) hW hS
                · refine hr_ic hx hb dX12_isSaid_158 (by decide) (fun z158 hz158 => ?_)
                  refine lv_goto (tgt := 163) hx hb dX12_isSaid_159 (by decide) ?_
                  refine hr_zastN B hb hU hW hS tz92 rfl (by omega) (by omega) (hr_ins (a := 0) (b := 44) (lo := 0) (hi := 1) (by omega) (by omega) (by decide +kernel) (by omega) (by omega)) ⟨by omega, by omega⟩ (hr_EA (i := z97) (tk_X1 (C := C)) tz92 (u := 0) (v := 44) (by omega) (by omega) (by decide)) (u := 0) (v := 44) (by omega) (by omega) (by decide) dX12_isSaid_163 (fun H locs hW hS => ?_)
                  refine lv_goto (tgt := 206) hx hb dX12_isSaid_164 (by decide) ?_
                  refine hr_inc hx hb dX12_isSaid_206 hl (kq := 2) (lv' := fun v => [(3, .int v), (2, .int z88), (4, .int z22), (0, .ref a0), (1, .int x1)]) rfl (by decide) (by decide) (by omega) (by omega) (fun _ => rfl) (fun z206 ls hz206 hl => ?_)
                  refine lv_goto (tgt := 4) hx hb dX12_isSaid_209 (by decide) ?_
                  exact ih4 z206 z88 _ _ _ (by omega) (by omega) (by omega) (by rw [show z206.toInt.toNat = i.toInt.toNat + 1 by omega, dp_bin (by omega)]; omega) (lv_sub hl [0, 1, 3, 4] rfl) hW hS
            · refine lv_aload_n hx hb dX12_isSaid_110 rfl (lv_at hl 3 rfl) ?_
              refine hr_getR B hF hb hW (ci := 12) (j := 50) (cd := 3) t0 rfl (isF (by decide +kernel)) rfl dX12_isSaid_111 (fun az111 tz111 xz111 => ?_)
              refine lv_iload_n hx hb dX12_isSaid_114 rfl (lv_at hl 0 rfl) ?_
              refine hr_ic hx hb dX12_isSaid_115 (by decide) (fun z115 hz115 => ?_)
              refine hr_sub hx hb dX12_isSaid_116 (by omega) (by omega) (fun z116 hz116 => ?_)
              refine hr_zald B hb hW tz111 rfl (by omega) (by omega) dX12_isSaid_117 (fun z117 iz117 pz117 xz117 => ?_)
              have iz117 := hr_inr iz117 (a := 0) (b := 44) (lo := 0) (hi := 1) (by omega) (by omega) (by decide +kernel)
              refine hr_eq0 (tgt := 134) hx hb dX12_isSaid_118 (by decide) (fun h118 => ?_) (fun h118 => ?_)
              · refine hr_ic hx hb dX12_isSaid_134 (by decide) (fun z134 hz134 => ?_)
                refine lv_goto (tgt := 163) hx hb dX12_isSaid_135 (by decide) ?_
                refine hr_zastN B hb hU hW hS tz92 rfl (by omega) (by omega) (hr_ins (a := 0) (b := 44) (lo := 0) (hi := 1) (by omega) (by omega) (by decide +kernel) (by omega) (by omega)) ⟨by omega, by omega⟩ (hr_EA (i := z97) (tk_X1 (C := C)) tz92 (u := 0) (v := 44) (by omega) (by omega) (by decide)) (u := 0) (v := 44) (by omega) (by omega) (by decide) dX12_isSaid_163 (fun H locs hW hS => ?_)
                refine lv_goto (tgt := 206) hx hb dX12_isSaid_164 (by decide) ?_
                refine hr_inc hx hb dX12_isSaid_206 hl (kq := 2) (lv' := fun v => [(3, .int v), (2, .int z88), (4, .int z22), (0, .ref a0), (1, .int x1)]) rfl (by decide) (by decide) (by omega) (by omega) (fun _ => rfl) (fun z206 ls hz206 hl => ?_)
                refine lv_goto (tgt := 4) hx hb dX12_isSaid_209 (by decide) ?_
                exact ih4 z206 z88 _ _ _ (by omega) (by omega) (by omega) (by rw [show z206.toInt.toNat = i.toInt.toNat + 1 by omega, dp_bin (by omega)]; omega) (lv_sub hl [0, 1, 3, 4] rfl) hW hS
              · refine lv_aload_n hx hb dX12_isSaid_121 rfl (lv_at hl 3 rfl) ?_
                refine hr_getR B hF hb hW (ci := 12) (j := 50) (cd := 3) t0 rfl (isF (by decide +kernel)) rfl dX12_isSaid_122 (fun az122 tz122 xz122 => ?_)
                refine lv_iload_n hx hb dX12_isSaid_125 rfl (lv_at hl 0 rfl) ?_
                refine hr_zald B hb hW tz122 rfl (by omega) (by omega) dX12_isSaid_126 (fun z126 iz126 pz126 xz126 => ?_)
                have iz126 := hr_inr iz126 (a := 0) (b := 44) (lo := 0) (hi := 1) (by omega) (by omega) (by decide +kernel)
                refine hr_eq0 (tgt := 134) hx hb dX12_isSaid_127 (by decide) (fun h127 => ?_) (fun h127 => ?_)
                · refine hr_ic hx hb dX12_isSaid_134 (by decide) (fun z134 hz134 => ?_)
                  refine lv_goto (tgt := 163) hx hb dX12_isSaid_135 (by decide) ?_
                  refine hr_zastN B hb hU hW hS tz92 rfl (by omega) (by omega) (hr_ins (a := 0) (b := 44) (lo := 0) (hi := 1) (by omega) (by omega) (by decide +kernel) (by omega) (by omega)) ⟨by omega, by omega⟩ (hr_EA (i := z97) (tk_X1 (C := C)) tz92 (u := 0) (v := 44) (by omega) (by omega) (by decide)) (u := 0) (v := 44) (by omega) (by omega) (by decide) dX12_isSaid_163 (fun H locs hW hS => ?_)
                  refine lv_goto (tgt := 206) hx hb dX12_isSaid_164 (by decide) ?_
                  refine hr_inc hx hb dX12_isSaid_206 hl (kq := 2) (lv' := fun v => [(3, .int v), (2, .int z88), (4, .int z22), (0, .ref a0), (1, .int x1)]) rfl (by decide) (by decide) (by omega) (by omega) (fun _ => rfl) (fun z206 ls hz206 hl => ?_)
                  refine lv_goto (tgt := 4) hx hb dX12_isSaid_209 (by decide) ?_
                  exact ih4 z206 z88 _ _ _ (by omega) (by omega) (by omega) (by rw [show z206.toInt.toNat = i.toInt.toNat + 1 by omega, dp_bin (by omega)]; omega) (lv_sub hl [0, 1, 3, 4] rfl) hW hS
                · refine hr_ic hx hb dX12_isSaid_130 (by decide) (fun z130 hz130 => ?_)
                  refine lv_goto (tgt := 163) hx hb dX12_isSaid_131 (by decide) ?_
                  refine hr_zastN B hb hU hW hS tz92 rfl (by omega) (by omega) (hr_ins (a := 0) (b := 44) (lo := 0) (hi := 1) (by omega) (by omega) (by decide +kernel) (by omega) (by omega)) ⟨by omega, by omega⟩ (hr_EA (i := z97) (tk_X1 (C := C)) tz92 (u := 0) (v := 44) (by omega) (by omega) (by decide)) (u := 0) (v := 44) (by omega) (by omega) (by decide) dX12_isSaid_163 (fun H locs hW hS => ?_)
                  refine lv_goto (tgt := 206) hx hb dX12_isSaid_164 (by decide) ?_
                  refine hr_inc hx hb dX12_isSaid_206 hl (kq := 2) (lv' := fun v => [(3, .int v), (2, .int z88), (4, .int z22), (0, .ref a0), (1, .int x1)]) rfl (by decide) (by decide) (by omega) (by omega) (fun _ => rfl) (fun z206 ls hz206 hl => ?_)
                  refine lv_goto (tgt := 4) hx hb dX12_isSaid_209 (by decide) ?_
                  exact ih4 z206 z88 _ _ _ (by omega) (by omega) (by omega) (by rw [show z206.toInt.toNat = i.toInt.toNat + 1 by omega, dp_bin (by omega)]; omega) (lv_sub hl [0, 1, 3, 4] rfl) hW hS
          · refine lv_aload_n hx hb dX12_isSaid_76 rfl (lv_at hl 3 rfl) ?_
            refine hr_getR B hF hb hW (ci := 12) (j := 6) (cd := 3) t0 rfl (isF (by decide +kernel)) rfl dX12_isSaid_77 (fun az77 tz77 xz77 => ?_)
            refine lv_iload hx hb dX12_isSaid_80 (lv_at hl 0 rfl) ?_
            refine hr_iald B hb hW tz77 rfl (by omega) (by omega) dX12_isSaid_82 (fun z82 iz82 pz82 xz82 => ?_)
            have xz82 := tk_xa xz82 (fun _ h => h) (pq := ck_prot1) (C := C) tz77 ⟨(186, 366), by decide, by dsimp only; omega, by dsimp only; omega⟩; have kz82 := congrArg Int32.toInt xz82
            rw [e0] at kz82
            refine hr_bp hx hb dX12_isSaid_83 (by decide) (by decide) (fun z83 hz83 => ?_)
            refine hr_ne (tgt := 167) hx hb dX12_isSaid_85 (by decide) (fun h85 => ?_) (fun h85 => ?_)
            · refine lv_aload_n hx hb dX12_isSaid_167 rfl (lv_at hl 3 rfl) ?_
              refine hr_getR B hF hb hW (ci := 12) (j := 50) (cd := 3) t0 rfl (isF (by decide +kernel)) rfl dX12_isSaid_168 (fun az168 tz168 xz168 => ?_)
              refine lv_iload_n hx hb dX12_isSaid_171 rfl (lv_at hl 2 rfl) ?_
              refine lv_aload_n hx hb dX12_isSaid_172 rfl (lv_at hl 3 rfl) ?_
              refine lv_iload_n hx hb dX12_isSaid_173 rfl (lv_at hl 4 rfl) ?_
              refine lv_aload_n hx hb dX12_isSaid_174 rfl (lv_at hl 3 rfl) ?_
              refine hr_getR B hF hb hW (ci := 12) (j := 6) (cd := 3) t0 rfl (isF (by decide +kernel)) rfl dX12_isSaid_175 (fun az175 tz175 xz175 => ?_)
              refine lv_iload hx hb dX12_isSaid_178 (lv_at hl 0 rfl) ?_
              refine hr_iald B hb hW tz175 rfl (by omega) (by omega) dX12_isSaid_180 (fun z180 iz180 pz180 xz180 => ?_)
              have xz180 := tk_xa xz180 (fun _ h => h) (pq := ck_prot1) (C := C) tz175 ⟨(186, 366), by decide, by dsimp only; omega, by dsimp only; omega⟩; have kz180 := congrArg Int32.toInt xz180
              refine lv_aload_n hx hb dX12_isSaid_181 rfl (lv_at hl 3 rfl) ?_
              refine hr_getR B hF hb hW (ci := 12) (j := 6) (cd := 3) t0 rfl (isF (by decide +kernel)) rfl dX12_isSaid_182 (fun az182 tz182 xz182 => ?_)
              refine lv_iload hx hb dX12_isSaid_185 (lv_at hl 0 rfl) ?_
              refine hr_ic hx hb dX12_isSaid_187 (by decide) (fun z187 hz187 => ?_)
              refine hr_add hx hb dX12_isSaid_188 (by omega) (by omega) (fun z188 hz188 => ?_)
              refine hr_iald B hb hW tz182 rfl (by omega) (by omega) dX12_isSaid_189 (fun z189 iz189 pz189 xz189 => ?_)
              have xz189 := tk_xa xz189 (fun _ h => h) (pq := ck_prot1) (C := C) tz182 ⟨(186, 366), by decide, by dsimp only; omega, by dsimp only; omega⟩; have kz189 := congrArg Int32.toInt xz189
              refine lv_aload_n hx hb dX12_isSaid_190 rfl (lv_at hl 3 rfl) ?_
              refine hr_getR B hF hb hW (ci := 12) (j := 6) (cd := 3) t0 rfl (isF (by decide +kernel)) rfl dX12_isSaid_191 (fun az191 tz191 xz191 => ?_)
              refine lv_iload hx hb dX12_isSaid_194 (lv_at hl 0 rfl) ?_
              refine hr_ic hx hb dX12_isSaid_196 (by decide) (fun z196 hz196 => ?_)
              refine hr_add hx hb dX12_isSaid_197 (by omega) (by omega) (fun z197 hz197 => ?_)
              refine hr_iald B hb hW tz191 rfl (by omega) (by omega) dX12_isSaid_198 (fun z198 iz198 pz198 xz198 => ?_)
              have xz198 := tk_xa xz198 (fun _ h => h) (pq := ck_prot1) (C := C) tz191 ⟨(186, 366), by decide, by dsimp only; omega, by dsimp only; omega⟩; have kz198 := congrArg Int32.toInt xz198
              refine cm_callV (kc := kc_254) B rfl hb hl (hM.1 _ _ 0 [254] (isM (by decide +kernel)) 254 (by decide)) (hH1 _ tk_X1 254 (by decide)) (b := a0) (As := [.int x1, .int z180, .int z189, .int z198]) ⟨hr_aR t0, hr_aI (by omega) (by omega), hr_aF, hr_aF, hr_aF, True.intro⟩ hp hW hS rfl (by decide) (by decide) (Nat.le_of_ble_eq_true rfl) dX12_isSaid_199 (fun cs hcs r pvv199 H locs hca hW hS => ?_)
              rcases List.mem_cons.mp hcs with rfl | hcs
              · obtain ⟨hr, hq, hc⟩ := hca
                obtain ⟨z199, rfl, lz199, uz199⟩ := hr_rvI hr
                have hW := hr_pvE (hr_sameA hc rfl (by decide +kernel)) hW
                refine hr_zastN B hb hU hW hS tz168 rfl (by omega) (by omega) (hr_ins (a := 0) (b := 44) (lo := 0) (hi := 1) (by omega) (by omega) (by decide +kernel) (by omega) (by omega)) ⟨by omega, by omega⟩ (hr_EA (i := nn) (tk_X1 (C := C)) tz168 (u := 0) (v := 44) (by omega) (by omega) (by decide)) (u := 0) (v := 44) (by omega) (by omega) (by decide) dX12_isSaid_202 (fun H locs hW hS => ?_)
                refine hr_inc hx hb dX12_isSaid_203 hl (kq := 2) (lv' := fun v => [(2, .int v), (4, .int z22), (3, .int i), (0, .ref a0), (1, .int x1)]) rfl (by decide) (by decide) (by omega) (by omega) (fun _ => rfl) (fun z203 ls hz203 hl => ?_)
                refine hr_inc hx hb dX12_isSaid_206 hl (kq := 2) (lv' := fun v => [(3, .int v), (2, .int z203), (4, .int z22), (0, .ref a0), (1, .int x1)]) rfl (by decide) (by decide) (by omega) (by omega) (fun _ => rfl) (fun z206 ls hz206 hl => ?_)
                refine lv_goto (tgt := 4) hx hb dX12_isSaid_209 (by decide) ?_
                exact ih4 z206 z203 _ _ _ (by omega) (by omega) (by omega) (by rw [show z206.toInt.toNat = i.toInt.toNat + 1 by omega, dp_leaf (by omega) (by omega) (by omega)]; omega) (lv_sub hl [0, 1, 3, 4] rfl) hW hS
              obtain rfl := List.mem_singleton.mp hcs
              obtain ⟨hr, hq, hc⟩ := hca
              obtain ⟨z199, rfl, lz199, uz199⟩ := hr_rvI hr
              have hW := hr_pvE (hr_sameA hc rfl (by decide +kernel)) hW
              refine hr_zastN B hb hU hW hS tz168 rfl (by omega) (by omega) (hr_ins (a := 0) (b := 44) (lo := 0) (hi := 1) (by omega) (by omega) (by decide +kernel) (by omega) (by omega)) ⟨by omega, by omega⟩ (hr_EA (i := nn) (tk_X1 (C := C)) tz168 (u := 0) (v := 44) (by omega) (by omega) (by decide)) (u := 0) (v := 44) (by omega) (by omega) (by decide) dX12_isSaid_202 (fun H locs hW hS => ?_)
              refine hr_inc hx hb dX12_isSaid_203 hl (kq := 2) (lv' := fun v => [(2, .int v), (4, .int z22), (3, .int i), (0, .ref a0), (1, .int x1)]) rfl (by decide) (by decide) (by omega) (by omega) (fun _ => rfl) (fun z203 ls hz203 hl => ?_)
              refine hr_inc hx hb dX12_isSaid_206 hl (kq := 2) (lv' := fun v => [(3, .int v), (2, .int z203), (4, .int z22), (0, .ref a0), (1, .int x1)]) rfl (by decide) (by decide) (by omega) (by omega) (fun _ => rfl) (fun z206 ls hz206 hl => ?_)
              refine lv_goto (tgt := 4) hx hb dX12_isSaid_209 (by decide) ?_
              exact ih4 z206 z203 _ _ _ (by omega) (by omega) (by omega) (by rw [show z206.toInt.toNat = i.toInt.toNat + 1 by omega, dp_leaf (by omega) (by omega) (by omega)]; omega) (lv_sub hl [0, 1, 3, 4] rfl) hW hS
            · have d2 : 2 ≤ dp f i.toInt.toNat := g4.2 (by omega)
              refine hr_inc hx hb dX12_isSaid_88 hl (kq := 2) (lv' := fun v => [(2, .int v), (4, .int z22), (3, .int i), (0, .ref a0), (1, .int x1)]) rfl (by decide) (by decide) (by omega) (by omega) (fun _ => rfl) (fun z88 ls hz88 hl => ?_)
              refine lv_aload_n hx hb dX12_isSaid_91 rfl (lv_at hl 3 rfl) ?_
              refine hr_getR B hF hb hW (ci := 12) (j := 50) (cd := 3) t0 rfl (isF (by decide +kernel)) rfl dX12_isSaid_92 (fun az92 tz92 xz92 => ?_)
              refine lv_iload_n hx hb dX12_isSaid_95 rfl (lv_at hl 0 rfl) ?_
              refine hr_ic hx hb dX12_isSaid_96 (by decide) (fun z96 hz96 => ?_)
              refine hr_sub hx hb dX12_isSaid_97 (by omega) (by omega) (fun z97 hz97 => ?_)
              refine lv_aload_n hx hb dX12_isSaid_98 rfl (lv_at hl 3 rfl) ?_
              refine hr_getR B hF hb hW (ci := 12) (j := 6) (cd := 3) t0 rfl (isF (by decide +kernel)) rfl dX12_isSaid_99 (fun az99 tz99 xz99 => ?_)
              refine lv_iload hx hb dX12_isSaid_102 (lv_at hl 1 rfl) ?_
              refine hr_iald B hb hW tz99 rfl (by omega) (by omega) dX12_isSaid_104 (fun z104 iz104 pz104 xz104 => ?_)
              have xz104 := tk_xa xz104 (fun _ h => h) (pq := ck_prot1) (C := C) tz99 ⟨(186, 366), by decide, by dsimp only; omega, by dsimp only; omega⟩; have kz104 := congrArg Int32.toInt xz104
              refine hr_bp hx hb dX12_isSaid_105 (by decide) (by decide) (fun z105 hz105 => ?_)
              refine hr_ne (tgt := 138) hx hb dX12_isSaid_107 (by decide) (fun h107 => ?_) (fun h107 => ?_)
              · refine lv_aload_n hx hb dX12_isSaid_138 rfl (lv_at hl 3 rfl) ?_
                refine hr_getR B hF hb hW (ci := 12) (j := 50) (cd := 3) t0 rfl (isF (by decide +kernel)) rfl dX12_isSaid_139 (fun az139 tz139 xz139 => ?_)
                refine lv_iload_n hx hb dX12_isSaid_142 rfl (lv_at hl 0 rfl) ?_
                refine hr_ic hx hb dX12_isSaid_143 (by decide) (fun z143 hz143 => ?_)
                refine hr_sub hx hb dX12_isSaid_144 (by omega) (by omega) (fun z144 hz144 => ?_)
                refine hr_zald B hb hW tz139 rfl (by omega) (by omega) dX12_isSaid_145 (fun z145 iz145 pz145 xz145 => ?_)
                have iz145 := hr_inr iz145 (a := 0) (b := 44) (lo := 0) (hi := 1) (by omega) (by omega) (by decide +kernel)
                refine hr_ne0 (tgt := 158) hx hb dX12_isSaid_146 (by decide) (fun h146 => ?_) (fun h146 => ?_)
                · refine hr_ic hx hb dX12_isSaid_158 (by decide) (fun z158 hz158 => ?_)
                  refine lv_goto (tgt := 163) hx hb dX12_isSaid_159 (by decide) ?_
                  refine hr_zastN B hb hU hW hS tz92 rfl (by omega) (by omega) (hr_ins (a := 0) (b := 44) (lo := 0) (hi := 1) (by omega) (by omega) (by decide +kernel) (by omega) (by omega)) ⟨by omega, by omega⟩ (hr_EA (i := z97) (tk_X1 (C := C)) tz92 (u := 0) (v := 44) (by omega) (by omega) (by decide)) (u := 0) (v := 44) (by omega) (by omega) (by decide) dX12_isSaid_163 (fun H locs hW hS => ?_)
                  refine lv_goto (tgt := 206) hx hb dX12_isSaid_164 (by decide) ?_
                  refine hr_inc hx hb dX12_isSaid_206 hl (kq := 2) (lv' := fun v => [(3, .int v), (2, .int z88), (4, .int z22), (0, .ref a0), (1, .int x1)]) rfl (by decide) (by decide) (by omega) (by omega) (fun _ => rfl) (fun z206 ls hz206 hl => ?_)
                  refine lv_goto (tgt := 4) hx hb dX12_isSaid_209 (by decide) ?_
                  exact ih4 z206 z88 _ _ _ (by omega) (by omega) (by omega) (by rw [show z206.toInt.toNat = i.toInt.toNat + 1 by omega, dp_bin (by omega)]; omega) (lv_sub hl [0, 1, 3, 4] rfl) hW hS
                · refine lv_aload_n hx hb dX12_isSaid_149 rfl (lv_at hl 3 rfl) ?_
                  refine hr_getR B hF hb hW (ci := 12) (j := 50) (cd := 3) t0 rfl (isF (by decide +kernel)) rfl dX12_isSaid_150 (fun az150 tz150 xz150 => ?_)
                  refine lv_iload_n hx hb dX12_isSaid_153 rfl (lv_at hl 0 rfl) ?_
                  refine hr_zald B hb hW tz150 rfl (by omega) (by omega) dX12_isSaid_154 (fun z154 iz154 pz154 xz154 => ?_)
                  have iz154 := hr_inr iz154 (a := 0) (b := 44) (lo := 0) (hi := 1) (by omega) (by omega) (by decide +kernel)
                  refine hr_eq0 (tgt := 162) hx hb dX12_isSaid_155 (by decide) (fun h155 => ?_) (fun h155 => ?_)
                  · refine hr_ic hx hb dX12_isSaid_162 (by decide) (fun z162 hz162 => ?_)
                    refine hr_zastN B hb hU hW hS tz92 rfl (by omega) (by omega) (hr_ins (a := 0) (b := 44) (lo := 0) (hi := 1) (by omega) (by omega) (by decide +kernel) (by omega) (by omega)) ⟨by omega, by omega⟩ (hr_EA (i := z97) (tk_X1 (C := C)) tz92 (u := 0) (v := 44) (by omega) (by omega) (by decide)) (u := 0) (v := 44) (by omega) (by omega) (by decide) dX12_isSaid_163 (fun H locs hW hS => ?_)
                    refine lv_goto (tgt := 206) hx hb dX12_isSaid_164 (by decide) ?_
                    refine hr_inc hx hb dX12_isSaid_206 hl (kq := 2) (lv' := fun v => [(3, .int v), (2, .int z88), (4, .int z22), (0, .ref a0), (1, .int x1)]) rfl (by decide) (by decide) (by omega) (by omega) (fun _ => rfl) (fun z206 ls hz206 hl => ?_)
                    refine lv_goto (tgt := 4) hx hb dX12_isSaid_209 (by decide) ?_
                    exact ih4 z206 z88 _ _ _ (by omega) (by omega) (by omega) (by rw [show z206.toInt.toNat = i.toInt.toNat + 1 by omega, dp_bin (by omega)]; omega) (lv_sub hl [0, 1, 3, 4] rfl) hW hS
                  · refine hr_ic hx hb dX12_isSaid_158 (by decide) (fun z158 hz158 => ?_)
                    refine lv_goto (tgt := 163) hx hb dX12_isSaid_159 (by decide) ?_
                    refine hr_zastN B hb hU hW hS tz92 rfl (by omega) (by omega) (hr_ins (a := 0) (b := 44) (lo := 0) (hi := 1) (by omega) (by omega) (by decide +kernel) (by omega) (by omega)) ⟨by omega, by omega⟩ (hr_EA (i := z97) (tk_X1 (C := C)) tz92 (u := 0) (v := 44) (by omega) (by omega) (by decide)) (u := 0) (v := 44) (by omega) (by omega) (by decide) dX12_isSaid_163 (fun H locs hW hS => ?_)
                    refine lv_goto (tgt := 206) hx hb dX12_isSaid_164 (by decide) ?_
                    refine hr_inc hx hb dX12_isSaid_206 hl (kq := 2) (lv' := fun v => [(3, .int v), (2, .int z88), (4, .int z22), (0, .ref a0), (1, .int x1)]) rfl (by decide) (by decide) (by omega) (by omega) (fun _ => rfl) (fun z206 ls hz206 hl => ?_)
                    refine lv_goto (tgt := 4) hx hb dX12_isSaid_209 (by decide) ?_
                    exact ih4 z206 z88 _ _ _ (by omega) (by omega) (by omega) (by rw [show z206.toInt.toNat = i.toInt.toNat + 1 by omega, dp_bin (by omega)]; omega) (lv_sub hl [0, 1, 3, 4] rfl) hW hS
              · refine lv_aload_n hx hb dX12_isSaid_110 rfl (lv_at hl 3 rfl) ?_
                refine hr_getR B hF hb hW (ci := 12) (j := 50) (cd := 3) t0 rfl (isF (by decide +kernel)) rfl dX12_isSaid_111 (fun az111 tz111 xz111 => ?_)
                refine lv_iload_n hx hb dX12_isSaid_114 rfl (lv_at hl 0 rfl) ?_
                refine hr_ic hx hb dX12_isSaid_115 (by decide) (fun z115 hz115 => ?_)
                refine hr_sub hx hb dX12_isSaid_116 (by omega) (by omega) (fun z116 hz116 => ?_)
                refine hr_zald B hb hW tz111 rfl (by omega) (by omega) dX12_isSaid_117 (fun z117 iz117 pz117 xz117 => ?_)
                have iz117 := hr_inr iz117 (a := 0) (b := 44) (lo := 0) (hi := 1) (by omega) (by omega) (by decide +kernel)
                refine hr_eq0 (tgt := 134) hx hb dX12_isSaid_118 (by decide) (fun h118 => ?_) (fun h118 => ?_)
                · refine hr_ic hx hb dX12_isSaid_134 (by decide) (fun z134 hz134 => ?_)
                  refine lv_goto (tgt := 163) hx hb dX12_isSaid_135 (by decide) ?_
                  refine hr_zastN B hb hU hW hS tz92 rfl (by omega) (by omega) (hr_ins (a := 0) (b := 44) (lo := 0) (hi := 1) (by omega) (by omega) (by decide +kernel) (by omega) (by omega)) ⟨by omega, by omega⟩ (hr_EA (i := z97) (tk_X1 (C := C)) tz92 (u := 0) (v := 44) (by omega) (by omega) (by decide)) (u := 0) (v := 44) (by omega) (by omega) (by decide) dX12_isSaid_163 (fun H locs hW hS => ?_)
                  refine lv_goto (tgt := 206) hx hb dX12_isSaid_164 (by decide) ?_
                  refine hr_inc hx hb dX12_isSaid_206 hl (kq := 2) (lv' := fun v => [(3, .int v), (2, .int z88), (4, .int z22), (0, .ref a0), (1, .int x1)]) rfl (by decide) (by decide) (by omega) (by omega) (fun _ => rfl) (fun z206 ls hz206 hl => ?_)
                  refine lv_goto (tgt := 4) hx hb dX12_isSaid_209 (by decide) ?_
                  exact ih4 z206 z88 _ _ _ (by omega) (by omega) (by omega) (by rw [show z206.toInt.toNat = i.toInt.toNat + 1 by omega, dp_bin (by omega)]; omega) (lv_sub hl [0, 1, 3, 4] rfl) hW hS
                · refine lv_aload_n hx hb dX12_isSaid_121 rfl (lv_at hl 3 rfl) ?_
                  refine hr_getR B hF hb hW (ci := 12) (j := 50) (cd := 3) t0 rfl (isF (by decide +kernel)) rfl dX12_isSaid_122 (fun az122 tz122 xz122 => ?_)
                  refine lv_iload_n hx hb dX12_isSaid_125 rfl (lv_at hl 0 rfl) ?_
                  refine hr_zald B hb hW tz122 rfl (by omega) (by omega) dX12_isSaid_126 (fun z126 iz126 pz126 xz126 => ?_)
                  have iz126 := hr_inr iz126 (a := 0) (b := 44) (lo := 0) (hi := 1) (by omega) (by omega) (by decide +kernel)
                  refine hr_eq0 (tgt := 134) hx hb dX12_isSaid_127 (by decide) (fun h127 => ?_) (fun h127 => ?_)
                  · refine hr_ic hx hb dX12_isSaid_134 (by decide) (fun z134 hz134 => ?_)
                    refine lv_goto (tgt := 163) hx hb dX12_isSaid_135 (by decide) ?_
                    refine hr_zastN B hb hU hW hS tz92 rfl (by omega) (by omega) (hr_ins (a := 0) (b := 44) (lo := 0) (hi := 1) (by omega) (by omega) (by decide +kernel) (by omega) (by omega)) ⟨by omega, by omega⟩ (hr_EA (i := z97) (tk_X1 (C := C)) tz92 (u := 0) (v := 44) (by omega) (by omega) (by decide)) (u := 0) (v := 44) (by omega) (by omega) (by decide) dX12_isSaid_163 (fun H locs hW hS => ?_)
                    refine lv_goto (tgt := 206) hx hb dX12_isSaid_164 (by decide) ?_
                    refine hr_inc hx hb dX12_isSaid_206 hl (kq := 2) (lv' := fun v => [(3, .int v), (2, .int z88), (4, .int z22), (0, .ref a0), (1, .int x1)]) rfl (by decide) (by decide) (by omega) (by omega) (fun _ => rfl) (fun z206 ls hz206 hl => ?_)
                    refine lv_goto (tgt := 4) hx hb dX12_isSaid_209 (by decide) ?_
                    exact ih4 z206 z88 _ _ _ (by omega) (by omega) (by omega) (by rw [show z206.toInt.toNat = i.toInt.toNat + 1 by omega, dp_bin (by omega)]; omega) (lv_sub hl [0, 1, 3, 4] rfl) hW hS
                  · refine hr_ic hx hb dX12_isSaid_130 (by decide) (fun z130 hz130 => ?_)
                    refine lv_goto (tgt := 163) hx hb dX12_isSaid_131 (by decide) ?_
                    refine hr_zastN B hb hU hW hS tz92 rfl (by omega) (by omega) (hr_ins (a := 0) (b := 44) (lo := 0) (hi := 1) (by omega) (by omega) (by decide +kernel) (by omega) (by omega)) ⟨by omega, by omega⟩ (hr_EA (i := z97) (tk_X1 (C := C)) tz92 (u := 0) (v := 44) (by omega) (by omega) (by decide)) (u := 0) (v := 44) (by omega) (by omega) (by decide) dX12_isSaid_163 (fun H locs hW hS => ?_)
                    refine lv_goto (tgt := 206) hx hb dX12_isSaid_164 (by decide) ?_
                    refine hr_inc hx hb dX12_isSaid_206 hl (kq := 2) (lv' := fun v => [(3, .int v), (2, .int z88), (4, .int z22), (0, .ref a0), (1, .int x1)]) rfl (by decide) (by decide) (by omega) (by omega) (fun _ => rfl) (fun z206 ls hz206 hl => ?_)
                    refine lv_goto (tgt := 4) hx hb dX12_isSaid_209 (by decide) ?_
                    exact ih4 z206 z88 _ _ _ (by omega) (by omega) (by omega) (by rw [show z206.toInt.toNat = i.toInt.toNat + 1 by omega, dp_bin (by omega)]; omega) (lv_sub hl [0, 1, 3, 4] rfl) hW hS
        · have d1 : 1 ≤ dp f i.toInt.toNat := g4.1 (by omega)
          refine lv_aload_n hx hb dX12_isSaid_37 rfl (lv_at hl 3 rfl) ?_
          refine hr_getR B hF hb hW (ci := 12) (j := 50) (cd := 3) t0 rfl (isF (by decide +kernel)) rfl dX12_isSaid_38 (fun az38 tz38 xz38 => ?_)
          refine lv_iload_n hx hb dX12_isSaid_41 rfl (lv_at hl 2 rfl) ?_
          refine hr_ic hx hb dX12_isSaid_42 (by decide) (fun z42 hz42 => ?_)
          refine hr_sub hx hb dX12_isSaid_43 (by omega) (by omega) (fun z43 hz43 => ?_)
          refine lv_aload_n hx hb dX12_isSaid_44 rfl (lv_at hl 3 rfl) ?_
          refine hr_getR B hF hb hW (ci := 12) (j := 50) (cd := 3) t0 rfl (isF (by decide +kernel)) rfl dX12_isSaid_45 (fun az45 tz45 xz45 => ?_)
          refine lv_iload_n hx hb dX12_isSaid_48 rfl (lv_at hl 2 rfl) ?_
          refine hr_ic hx hb dX12_isSaid_49 (by decide) (fun z49 hz49 => ?_)
          refine hr_sub hx hb dX12_isSaid_50 (by omega) (by omega) (fun z50 hz50 => ?_)
          refine hr_zald B hb hW tz45 rfl (by omega) (by omega) dX12_isSaid_51 (fun z51 iz51 pz51 xz51 => ?_)
          have iz51 := hr_inr iz51 (a := 0) (b := 44) (lo := 0) (hi := 1) (by omega) (by omega) (by decide +kernel)
          refine hr_ne0 (tgt := 59) hx hb dX12_isSaid_52 (by decide) (fun h52 => ?_) (fun h52 => ?_)
          · refine hr_ic hx hb dX12_isSaid_59 (by decide) (fun z59 hz59 => ?_)
            refine hr_zastN B hb hU hW hS tz38 rfl (by omega) (by omega) (hr_ins (a := 0) (b := 44) (lo := 0) (hi := 1) (by omega) (by omega) (by decide +kernel) (by omega) (by omega)) ⟨by omega, by omega⟩ (hr_EA (i := z43) (tk_X1 (C := C)) tz38 (u := 0) (v := 44) (by omega) (by omega) (by decide)) (u := 0) (v := 44) (by omega) (by omega) (by decide) dX12_isSaid_60 (fun H locs hW hS => ?_)
            refine lv_goto (tgt := 206) hx hb dX12_isSaid_61 (by decide) ?_
            refine hr_inc hx hb dX12_isSaid_206 hl (kq := 1) (lv' := fun v => [(3, .int v), (4, .int z22), (2, .int nn), (0, .ref a0), (1, .int x1)]) rfl (by decide) (by decide) (by omega) (by omega) (fun _ => rfl) (fun z206 ls hz206 hl => ?_)
            refine lv_goto (tgt := 4) hx hb dX12_isSaid_209 (by decide) ?_
            exact ih4 z206 nn _ _ _ (by omega) (by omega) (by omega) (by rw [show z206.toInt.toNat = i.toInt.toNat + 1 by omega, dp_not (by omega)]; omega) (lv_sub hl [0, 2, 3, 4] rfl) hW hS
          · refine hr_ic hx hb dX12_isSaid_55 (by decide) (fun z55 hz55 => ?_)
            refine lv_goto (tgt := 60) hx hb dX12_isSaid_56 (by decide) ?_
            refine hr_zastN B hb hU hW hS tz38 rfl (by omega) (by omega) (hr_ins (a := 0) (b := 44) (lo := 0) (hi := 1) (by omega) (by omega) (by decide +kernel) (by omega) (by omega)) ⟨by omega, by omega⟩ (hr_EA (i := z43) (tk_X1 (C := C)) tz38 (u := 0) (v := 44) (by omega) (by omega) (by decide)) (u := 0) (v := 44) (by omega) (by omega) (by decide) dX12_isSaid_60 (fun H locs hW hS => ?_)
            refine lv_goto (tgt := 206) hx hb dX12_isSaid_61 (by decide) ?_
            refine hr_inc hx hb dX12_isSaid_206 hl (kq := 1) (lv' := fun v => [(3, .int v), (4, .int z22), (2, .int nn), (0, .ref a0), (1, .int x1)]) rfl (by decide) (by decide) (by omega) (by omega) (fun _ => rfl) (fun z206 ls hz206 hl => ?_)
            refine lv_goto (tgt := 4) hx hb dX12_isSaid_209 (by decide) ?_
            exact ih4 z206 nn _ _ _ (by omega) (by omega) (by omega) (by rw [show z206.toInt.toNat = i.toInt.toNat + 1 by omega, dp_not (by omega)]; omega) (lv_sub hl [0, 2, 3, 4] rfl) hW hS
  obtain ⟨bs, ts⟩ := hr_fld hW t0 rfl (j := 6) (t' := 34) rfl
  have f0 : 0 ≤ (f 0).toInt ∧ (f 0).toInt ≤ 45 := by rw [hf]; exact hr_tkA hW (fun _ h => h) (pq := ck_prot1) ts rfl (i := 186) (by decide) (by decide +kernel) ⟨(186, 366), by decide, by decide, by decide⟩
  refine hr_ic hx hb dX12_isSaid_0 (by decide) (fun z0 hz0 => ?_)
  refine lv_istore_n hx hb dX12_isSaid_1 rfl hl (lv' := [(2, .int z0), (0, .ref a0), (1, .int x1)]) (by decide) rfl (fun ls hl => ?_)
  refine hr_ic hx hb dX12_isSaid_2 (by decide) (fun z2 hz2 => ?_)
  refine lv_istore_n hx hb dX12_isSaid_3 rfl hl (lv' := [(3, .int z2), (2, .int z0), (0, .ref a0), (1, .int x1)]) (by decide) rfl (fun ls hl => ?_)
  exact l4 46 z2 z0 _ _ _ (by omega) (by omega) (by omega) (by rw [show z2.toInt.toNat = 0 by omega, hz0]; rfl) (lv_sub hl [0, 1, 2, 3] rfl) hW hS
end H30
