/-! BY HAND, 15: sentence. -/
theorem cwf_coN {f g : Nat → Int32} (h0 : 0 ≤ (f 0).toInt) (h : ∀ j : Nat, (j : Int) < 1 + 3 * (f 0).toInt → g j = f j) (hf : cwf f) : cwf g := by
  intro i hi
  rw [h 0 (by omega)] at hi
  have e : dp g i = dp f i := dp_co2 (fun j hj => h _ (by omega))
  rw [h (1 + 3 * i) (by omega), e]
  exact hf i hi
section H33
variable {l : Launch} {D : va_G} {cys : Nat → ClassId} {ty : Nat → Option Nat}
theorem dX12_sentence_0 : decode cX12_sentence 0 = .ok (.aload_n 0, 1) := by decide +kernel
theorem dX12_sentence_1 : decode cX12_sentence 1 = .ok (.iconst 0, 1) := by decide +kernel
theorem dX12_sentence_2 : decode cX12_sentence 2 = .ok (.putfield 1, 3) := by decide +kernel
theorem dX12_sentence_5 : decode cX12_sentence 5 = .ok (.aload_n 0, 1) := by decide +kernel
theorem dX12_sentence_6 : decode cX12_sentence 6 = .ok (.sipush 200, 3) := by decide +kernel
theorem dX12_sentence_9 : decode cX12_sentence 9 = .ok (.invokevirtual 242, 3) := by decide +kernel
theorem dX12_sentence_12 : decode cX12_sentence 12 = .ok (.aload_n 0, 1) := by decide +kernel
theorem dX12_sentence_13 : decode cX12_sentence 13 = .ok (.iconst 0, 1) := by decide +kernel
theorem dX12_sentence_14 : decode cX12_sentence 14 = .ok (.putfield 183, 3) := by decide +kernel
theorem dX12_sentence_17 : decode cX12_sentence 17 = .ok (.aload_n 0, 1) := by decide +kernel
theorem dX12_sentence_18 : decode cX12_sentence 18 = .ok (.iconst 0, 1) := by decide +kernel
theorem dX12_sentence_19 : decode cX12_sentence 19 = .ok (.putfield 411, 3) := by decide +kernel
theorem dX12_sentence_22 : decode cX12_sentence 22 = .ok (.aload_n 0, 1) := by decide +kernel
theorem dX12_sentence_23 : decode cX12_sentence 23 = .ok (.iconst 0, 1) := by decide +kernel
theorem dX12_sentence_24 : decode cX12_sentence 24 = .ok (.putfield 427, 3) := by decide +kernel
theorem dX12_sentence_27 : decode cX12_sentence 27 = .ok (.aload_n 0, 1) := by decide +kernel
theorem dX12_sentence_28 : decode cX12_sentence 28 = .ok (.iconst 0, 1) := by decide +kernel
theorem dX12_sentence_29 : decode cX12_sentence 29 = .ok (.putfield 414, 3) := by decide +kernel
theorem dX12_sentence_32 : decode cX12_sentence 32 = .ok (.aload_n 0, 1) := by decide +kernel
theorem dX12_sentence_33 : decode cX12_sentence 33 = .ok (.iconst 1, 1) := by decide +kernel
theorem dX12_sentence_34 : decode cX12_sentence 34 = .ok (.putfield 421, 3) := by decide +kernel
theorem dX12_sentence_37 : decode cX12_sentence 37 = .ok (.aload_n 0, 1) := by decide +kernel
theorem dX12_sentence_38 : decode cX12_sentence 38 = .ok (.iconst 0, 1) := by decide +kernel
theorem dX12_sentence_39 : decode cX12_sentence 39 = .ok (.putfield 430, 3) := by decide +kernel
theorem dX12_sentence_42 : decode cX12_sentence 42 = .ok (.aload_n 0, 1) := by decide +kernel
theorem dX12_sentence_43 : decode cX12_sentence 43 = .ok (.invokevirtual 195, 3) := by decide +kernel
theorem dX12_sentence_46 : decode cX12_sentence 46 = .ok (.iconst 1, 1) := by decide +kernel
theorem dX12_sentence_47 : decode cX12_sentence 47 = .ok (.istore_n 1, 1) := by decide +kernel
theorem dX12_sentence_48 : decode cX12_sentence 48 = .ok (.iload_n 1, 1) := by decide +kernel
theorem dX12_sentence_49 : decode cX12_sentence 49 = .ok (.ifCond .eq 83, 3) := by decide +kernel
theorem dX12_sentence_52 : decode cX12_sentence 52 = .ok (.aload_n 0, 1) := by decide +kernel
theorem dX12_sentence_53 : decode cX12_sentence 53 = .ok (.getfield 430, 3) := by decide +kernel
theorem dX12_sentence_56 : decode cX12_sentence 56 = .ok (.ifCond .eq 45, 3) := by decide +kernel
theorem dX12_sentence_59 : decode cX12_sentence 59 = .ok (.aload_n 0, 1) := by decide +kernel
theorem dX12_sentence_60 : decode cX12_sentence 60 = .ok (.getfield 166, 3) := by decide +kernel
theorem dX12_sentence_63 : decode cX12_sentence 63 = .ok (.ifCond .ne 38, 3) := by decide +kernel
theorem dX12_sentence_66 : decode cX12_sentence 66 = .ok (.aload_n 0, 1) := by decide +kernel
theorem dX12_sentence_67 : decode cX12_sentence 67 = .ok (.invokevirtual 433, 3) := by decide +kernel
theorem dX12_sentence_70 : decode cX12_sentence 70 = .ok (.aload_n 0, 1) := by decide +kernel
theorem dX12_sentence_71 : decode cX12_sentence 71 = .ok (.bipush 22, 2) := by decide +kernel
theorem dX12_sentence_73 : decode cX12_sentence 73 = .ok (.invokevirtual 436, 3) := by decide +kernel
theorem dX12_sentence_76 : decode cX12_sentence 76 = .ok (.aload_n 0, 1) := by decide +kernel
theorem dX12_sentence_77 : decode cX12_sentence 77 = .ok (.getfield 414, 3) := by decide +kernel
theorem dX12_sentence_80 : decode cX12_sentence 80 = .ok (.ifCond .le 16, 3) := by decide +kernel
theorem dX12_sentence_83 : decode cX12_sentence 83 = .ok (.aload_n 0, 1) := by decide +kernel
theorem dX12_sentence_84 : decode cX12_sentence 84 = .ok (.iconst 1, 1) := by decide +kernel
theorem dX12_sentence_85 : decode cX12_sentence 85 = .ok (.invokevirtual 192, 3) := by decide +kernel
theorem dX12_sentence_88 : decode cX12_sentence 88 = .ok (.pop, 1) := by decide +kernel
theorem dX12_sentence_89 : decode cX12_sentence 89 = .ok (.iconst (-1), 1) := by decide +kernel
theorem dX12_sentence_90 : decode cX12_sentence 90 = .ok (.aload_n 0, 1) := by decide +kernel
theorem dX12_sentence_91 : decode cX12_sentence 91 = .ok (.getfield 186, 3) := by decide +kernel
theorem dX12_sentence_94 : decode cX12_sentence 94 = .ok (.isub, 1) := by decide +kernel
theorem dX12_sentence_95 : decode cX12_sentence 95 = .ok (.ireturn, 1) := by decide +kernel
theorem dX12_sentence_96 : decode cX12_sentence 96 = .ok (.iconst 0, 1) := by decide +kernel
theorem dX12_sentence_97 : decode cX12_sentence 97 = .ok (.istore_n 1, 1) := by decide +kernel
theorem dX12_sentence_98 : decode cX12_sentence 98 = .ok (.goto (-50), 3) := by decide +kernel
theorem dX12_sentence_101 : decode cX12_sentence 101 = .ok (.aload_n 0, 1) := by decide +kernel
theorem dX12_sentence_102 : decode cX12_sentence 102 = .ok (.getfield 430, 3) := by decide +kernel
theorem dX12_sentence_105 : decode cX12_sentence 105 = .ok (.ifCond .eq 13, 3) := by decide +kernel
theorem dX12_sentence_108 : decode cX12_sentence 108 = .ok (.aload_n 0, 1) := by decide +kernel
theorem dX12_sentence_109 : decode cX12_sentence 109 = .ok (.invokevirtual 439, 3) := by decide +kernel
theorem dX12_sentence_112 : decode cX12_sentence 112 = .ok (.ifCond .ne (-64), 3) := by decide +kernel
theorem dX12_sentence_115 : decode cX12_sentence 115 = .ok (.goto 10, 3) := by decide +kernel
theorem dX12_sentence_118 : decode cX12_sentence 118 = .ok (.aload_n 0, 1) := by decide +kernel
theorem dX12_sentence_119 : decode cX12_sentence 119 = .ok (.invokevirtual 442, 3) := by decide +kernel
theorem dX12_sentence_122 : decode cX12_sentence 122 = .ok (.ifCond .ne (-74), 3) := by decide +kernel
theorem dX12_sentence_125 : decode cX12_sentence 125 = .ok (.iconst (-1), 1) := by decide +kernel
theorem dX12_sentence_126 : decode cX12_sentence 126 = .ok (.aload_n 0, 1) := by decide +kernel
theorem dX12_sentence_127 : decode cX12_sentence 127 = .ok (.getfield 186, 3) := by decide +kernel
theorem dX12_sentence_130 : decode cX12_sentence 130 = .ok (.isub, 1) := by decide +kernel
theorem dX12_sentence_131 : decode cX12_sentence 131 = .ok (.ireturn, 1) := by decide +kernel
theorem dX12_sentence_132 : decode cX12_sentence 132 = .ok (.aload_n 0, 1) := by decide +kernel
theorem dX12_sentence_133 : decode cX12_sentence 133 = .ok (.getfield 33, 3) := by decide +kernel
theorem dX12_sentence_136 : decode cX12_sentence 136 = .ok (.sipush 186, 3) := by decide +kernel
theorem dX12_sentence_139 : decode cX12_sentence 139 = .ok (.aload_n 0, 1) := by decide +kernel
theorem dX12_sentence_140 : decode cX12_sentence 140 = .ok (.getfield 411, 3) := by decide +kernel
theorem dX12_sentence_143 : decode cX12_sentence 143 = .ok (.iastore, 1) := by decide +kernel
theorem dX12_sentence_144 : decode cX12_sentence 144 = .ok (.iconst 0, 1) := by decide +kernel
theorem dX12_sentence_145 : decode cX12_sentence 145 = .ok (.istore_n 2, 1) := by decide +kernel
theorem dX12_sentence_146 : decode cX12_sentence 146 = .ok (.iload_n 2, 1) := by decide +kernel
theorem dX12_sentence_147 : decode cX12_sentence 147 = .ok (.iconst 3, 1) := by decide +kernel
theorem dX12_sentence_148 : decode cX12_sentence 148 = .ok (.aload_n 0, 1) := by decide +kernel
theorem dX12_sentence_149 : decode cX12_sentence 149 = .ok (.getfield 411, 3) := by decide +kernel
theorem dX12_sentence_152 : decode cX12_sentence 152 = .ok (.imul, 1) := by decide +kernel
theorem dX12_sentence_153 : decode cX12_sentence 153 = .ok (.if_icmp .ge 25, 3) := by decide +kernel
theorem dX12_sentence_156 : decode cX12_sentence 156 = .ok (.aload_n 0, 1) := by decide +kernel
theorem dX12_sentence_157 : decode cX12_sentence 157 = .ok (.getfield 33, 3) := by decide +kernel
theorem dX12_sentence_160 : decode cX12_sentence 160 = .ok (.sipush 187, 3) := by decide +kernel
theorem dX12_sentence_163 : decode cX12_sentence 163 = .ok (.iload_n 2, 1) := by decide +kernel
theorem dX12_sentence_164 : decode cX12_sentence 164 = .ok (.iadd, 1) := by decide +kernel
theorem dX12_sentence_165 : decode cX12_sentence 165 = .ok (.aload_n 0, 1) := by decide +kernel
theorem dX12_sentence_166 : decode cX12_sentence 166 = .ok (.getfield 40, 3) := by decide +kernel
theorem dX12_sentence_169 : decode cX12_sentence 169 = .ok (.iload_n 2, 1) := by decide +kernel
theorem dX12_sentence_170 : decode cX12_sentence 170 = .ok (.iaload, 1) := by decide +kernel
theorem dX12_sentence_171 : decode cX12_sentence 171 = .ok (.iastore, 1) := by decide +kernel
theorem dX12_sentence_172 : decode cX12_sentence 172 = .ok (.iinc 2 1, 3) := by decide +kernel
theorem dX12_sentence_175 : decode cX12_sentence 175 = .ok (.goto (-29), 3) := by decide +kernel
theorem dX12_sentence_178 : decode cX12_sentence 178 = .ok (.aload_n 0, 1) := by decide +kernel
theorem dX12_sentence_179 : decode cX12_sentence 179 = .ok (.getfield 427, 3) := by decide +kernel
theorem dX12_sentence_182 : decode cX12_sentence 182 = .ok (.ireturn, 1) := by decide +kernel
set_option maxRecDepth 100000 in
set_option maxHeartbeats 4000000 in
theorem hk_12_sentence (hF : ck_LKf ck_LK) (hM : ck_LKm ck_tags ck_LK ck_tab) (hU : ck_uq ty ck_pvs0) (hun : ck_un ty) (hC : ck_LKc ck_LK) (hMh : ∀ q ∈ ck_hl, ck_mOK ck_tags q.1 q.2.1 q.2.2.1 q.2.2.2) (hH1 : ∀ Ex', ck_ExP ty ck_prot1 Ex' → ∀ j, j < 331 → ck_Holds l D cys ty ck_tags ck_pvs0 Ex' (ck_tab j)) (hH : ∀ j, j < 348 → ck_Holds l D cys ty ck_tags ck_pvs0 (GE ty) (ck_tab j)) : ck_Holds l D cys ty ck_tags ck_pvs0 (GE ty) (ck_tab 348) := by
  refine cm_enter (by decide +kernel) (by decide +kernel) (by decide +kernel) ?_
  intro vs pvv0 p e s m below meth c ls ha hp B hl hW
  have hx := B.1
  have hb : c.code = cX12_sentence := B.2.1
  have hI := pv_inj
  have hS : va_S (ck_own ty) s.heap s.heap [] := va_S.rf
  obtain ⟨C, hG, hW⟩ := ge_out hW
  obtain ⟨_, rfl, ⟨a0, rfl, t0⟩⟩ := cm_a1 ha
  have hl : lv_has ls 3 [(0, .ref a0)] := hl
  have hp0 := hp
  have hG0 := hG
  obtain ⟨G5, G1, G2, G3, G4⟩ := hG
  have part2 : ∀ (gg : Int32) (pvv : Nat → Int32) (D0 : Nat → Nat → Int32) (ls : Array Slot) (H : Heap) (locs : List Loc), ck_pvo ty (ck_XE pvv) pPM pvv → (∀ j, j < 32 → j ∉ [11, 12, 13, 14, 24, 31] → pvv j = pvv0 j) → (pvv 11).toInt = 0 → SI D0 → sfr C D0 → lv_has ls 3 [(1, .int gg), (0, .ref a0)] → ck_Wo D cys ty ck_tags ck_pvs0 (tk ty ck_prot1 D0) pvv H → va_S (ck_own ty) s.heap H locs → W p l e (ck_rm (ck_tab 348)) s m [Value.ref a0].toArray below meth c H locs 0 0 (MQ below (ck_Qc D cys ty ck_tags ck_pvs0 (GE ty) (ck_tab 348) [Value.ref a0] pvv0) [Value.ref a0].toArray s 0 0 (ck_own ty)) (F0 m 132 ls []) := by
    intro gg pvv D0 ls H locs hp sm len sI hfr hl hW hS
    obtain ⟨s1, s2, s3, s4, s5, s6, s7, s8⟩ := id sI
    refine lv_aload_n hx hb dX12_sentence_132 rfl (lv_at hl 1 rfl) ?_
    refine hr_getR B hF hb hW (ci := 12) (j := 6) (cd := 3) t0 rfl (isF (by decide +kernel)) rfl dX12_sentence_133 (fun az133 tz133 xz133 => ?_)
    refine hr_sp hx hb dX12_sentence_136 (by decide) (by decide) (fun z136 hz136 => ?_)
    refine lv_aload_n hx hb dX12_sentence_139 rfl (lv_at hl 1 rfl) ?_
    refine hr_getI B hF hb hW (ci := 12) (j := 45) (cd := 0) t0 rfl (isF (by decide +kernel)) rfl dX12_sentence_140 (fun z140 lz140 uz140 pz140 xz140 => ?_)
    have xz140 := tk_xo xz140 (fun _ h => h) (pq := ck_prot1) (C := D0) t0 (by decide); have kz140 := congrArg Int32.toInt xz140
    refine hr_iastN B hb hU hW hS tz133 rfl (by omega) (by omega) (hr_ins (a := 186) (b := 186) (lo := 0) (hi := 45) (by omega) (by omega) (by decide +kernel) (by omega) (by omega)) (tk_EA tz133 (fun a h => hun 34 (by decide) _ _ tz133 h)) (u := 186) (v := 186) (by omega) (by omega) (by decide) dX12_sentence_143 (fun H locs hW hS => ?_)
    obtain ⟨C143, c143⟩ : ∃ f, f = tk_upd D0 34 (z136.toInt.toNat) z140 := ⟨_, rfl⟩
    rw [← c143] at hW
    refine hr_ic hx hb dX12_sentence_144 (by decide) (fun z144 hz144 => ?_)
    refine lv_istore_n hx hb dX12_sentence_145 rfl hl (lv' := [(2, .int z144), (1, .int gg), (0, .ref a0)]) (by decide) rfl (fun ls hl => ?_)
    have l146 : ∀ (n146 : Nat) (i : Int32) (C2 : Nat → Nat → Int32) (ls : Array Slot) (H : Heap) (locs : List Loc), 3 * (D0 12 45).toInt - i.toInt < n146 → (0 ≤ i.toInt) → (i.toInt ≤ 3 * (D0 12 45).toInt) → (∀ t j, t ≠ 34 → C2 t j = D0 t j) → (∀ j, j < 140 → C2 34 j = D0 34 j) → (C2 34 186 = D0 12 45) → (∀ j : Nat, (j : Int) < i.toInt → C2 34 (187 + j) = D0 36 j) → lv_has ls 3 [(2, .int i), (1, .int gg), (0, .ref a0)] → ck_Wo D cys ty ck_tags ck_pvs0 (tk ty ck_prot1 C2) pvv H → va_S (ck_own ty) s.heap H locs → W p l e (ck_rm (ck_tab 348)) s m [Value.ref a0].toArray below meth c H locs 0 0 (MQ below (ck_Qc D cys ty ck_tags ck_pvs0 (GE ty) (ck_tab 348) [Value.ref a0] pvv0) [Value.ref a0].toArray s 0 0 (ck_own ty)) (F0 m 146 ls []) := by
      intro n146
      induction n146 with
      | zero => intro i C2 ls H locs hm146 i1 i2 hT hT2 h186 hcp hl hW hS; omega
      | succ n146 ih146 =>
        intro i C2 ls H locs hm146 i1 i2 hT hT2 h186 hcp hl hW hS
        refine lv_iload_n hx hb dX12_sentence_146 rfl (lv_at hl 0 rfl) ?_
        refine hr_ic hx hb dX12_sentence_147 (by decide) (fun z147 hz147 => ?_)
        refine lv_aload_n hx hb dX12_sentence_148 rfl (lv_at hl 2 rfl) ?_
        refine hr_getI B hF hb hW (ci := 12) (j := 45) (cd := 0) t0 rfl (isF (by decide +kernel)) rfl dX12_sentence_149 (fun z149 lz149 uz149 pz149 xz149 => ?_)
        have xz149 := tk_xo xz149 (fun _ h => h) (pq := ck_prot1) (C := C2) t0 (by decide); have kz149 := congrArg Int32.toInt xz149
        have e149 : z149.toInt = (D0 12 45).toInt := by rw [kz149, hT 12 45 (by decide)]
        refine hr_mulL hx hb dX12_sentence_152 hz147 (by omega) (by omega) (fun z152 hz152 => ?_)
        refine hr_ge (tgt := 178) hx hb dX12_sentence_153 (by decide) (fun h153 => ?_) (fun h153 => ?_)
        · refine lv_aload_n hx hb dX12_sentence_178 rfl (lv_at hl 2 rfl) ?_
          refine hr_getI B hF hb hW (ci := 12) (j := 46) (cd := 0) t0 rfl (isF (by decide +kernel)) rfl dX12_sentence_179 (fun z179 lz179 uz179 pz179 xz179 => ?_)
          have xz179 := tk_xo xz179 (fun _ h => h) (pq := ck_prot1) (C := C2) t0 (by decide); have kz179 := congrArg Int32.toInt xz179
          have r11 := hr_pv hp 11 (lo := 0) (hi := 940) rfl
          have r12 := hr_pv hp 12 (lo := 0) (hi := 940) rfl
          have r13 := hr_pv hp 13 (lo := 0) (hi := 940) rfl
          have r14 := hr_pv hp 14 (lo := 0) (hi := 4) rfl
          have r31 := hr_pv hp 31 (lo := 0) (hi := 4) rfl
          have hGn : gC C2 := by
            have hCC : ∀ t j, t ≠ 34 → t ≠ 36 → t ≠ 43 → ¬ (t = 12 ∧ (j = 45 ∨ j = 46 ∨ j = 47 ∨ j = 49)) → C2 t j = C t j := fun t j h0 h1 h2 h3 => by rw [hT t j h0]; exact hfr t j h1 h2 h3
            have hC3 : ∀ j, j < 140 → C2 34 j = C 34 j := fun j hj => by rw [hT2 j hj]; exact hfr 34 j (by decide) (by decide) (by simp)
            refine ⟨g5_of G5 (fun j => hCC 15 j (by decide) (by decide) (by decide) (by simp)) (fun j => hCC 49 j (by decide) (by decide) (by decide) (by simp)) (fun j => hCC 16 j (by decide) (by decide) (by decide) (by simp)) (fun j => hCC 50 j (by decide) (by decide) (by decide) (by simp)) (fun t j ht => hCC t j (g6_ne ht (by decide)) (g6_ne ht (by decide)) (g6_ne ht (by decide)) (fun q => g6_ne ht (n := 12) (by decide) q.1)) hC3, fun k hk => ?_, fun j hj => ?_, fun k hk hk2 => ?_, ?_⟩
            · rw [hCC 0 0 (by decide) (by decide) (by decide) (by decide)] at hk
              rw [hCC 29 k (by decide) (by decide) (by decide) (by simp), hCC 30 k (by decide) (by decide) (by decide) (by simp), hCC 31 k (by decide) (by decide) (by decide) (by simp)]
              exact G1 k hk
            · rw [hCC 12 22 (by decide) (by decide) (by decide) (by decide)] at hj
              rw [hCC 37 _ (by decide) (by decide) (by decide) (by simp), hC3 3 (by decide)]
              exact G2 j hj
            · rw [hCC 46 k (by decide) (by decide) (by decide) (by simp)] at hk2
              rw [hCC 45 _ (by decide) (by decide) (by decide) (by simp), hCC 45 _ (by decide) (by decide) (by decide) (by simp)]
              refine ⟨(G3 k hk hk2).1, ?_⟩
              have e9 : (fun i => C2 45 (367 * k + 186 + i)) = (fun i => C 45 (367 * k + 186 + i)) := funext (fun i => hCC 45 _ (by decide) (by decide) (by decide) (by simp))
              rw [e9]; exact (G3 k hk hk2).2
            · refine cwf_coN (f := rf D0) (show 0 ≤ (D0 12 45).toInt from sI.1) (fun j hj => ?_) sI.2.2.2.2.2.2.1
              have hj : (j : Int) < 1 + 3 * (D0 12 45).toInt := hj
              match j with
              | 0 => exact h186
              | j + 1 => show C2 34 (186 + (j + 1)) = D0 36 j; rw [show 186 + (j + 1) = 187 + j by omega]; exact hcp j (by omega)
          refine cm_iret B hb rfl ⟨_, List.mem_cons_self, hr_aF (ty := ty), (fun q h => nomatch h), ?_⟩ (ge_in hW hGn) hS dX12_sentence_182
          refine hr_mk (n := 32) [11, 12, 13, 14, 24, 31] hp0 sm (by decide +kernel) (fun j hj av hav => ?_)
          rcases List.mem_cons.mp hj with rfl | hj
          · have hav : some (.inl (0, 0, []) : ck_AV) = some av := hav
            cases hav
            exact hr_aI (by omega) (by omega)
          rcases List.mem_cons.mp hj with rfl | hj
          · have hav : some (.inl (0, 940, []) : ck_AV) = some av := hav
            cases hav
            exact hr_aI (by omega) (by omega)
          rcases List.mem_cons.mp hj with rfl | hj
          · have hav : some (.inl (0, 940, []) : ck_AV) = some av := hav
            cases hav
            exact hr_aI (by omega) (by omega)
          rcases List.mem_cons.mp hj with rfl | hj
          · have hav : some (.inl (0, 4, []) : ck_AV) = some av := hav
            cases hav
            exact hr_aI (by omega) (by omega)
          rcases List.mem_cons.mp hj with rfl | hj
          · have hav : some (.inl (-2147483648, 2147483647, []) : ck_AV) = some av := hav
            cases hav
            exact hr_aF
          obtain rfl := List.mem_singleton.mp hj
          have hav : some (.inl (0, 4, []) : ck_AV) = some av := hav
          cases hav
          exact hr_aI (by omega) (by omega)
        · refine lv_aload_n hx hb dX12_sentence_156 rfl (lv_at hl 2 rfl) ?_
          refine hr_getR B hF hb hW (ci := 12) (j := 6) (cd := 3) t0 rfl (isF (by decide +kernel)) rfl dX12_sentence_157 (fun az157 tz157 xz157 => ?_)
          refine hr_sp hx hb dX12_sentence_160 (by decide) (by decide) (fun z160 hz160 => ?_)
          refine lv_iload_n hx hb dX12_sentence_163 rfl (lv_at hl 0 rfl) ?_
          refine hr_add hx hb dX12_sentence_164 (by omega) (by omega) (fun z164 hz164 => ?_)
          refine lv_aload_n hx hb dX12_sentence_165 rfl (lv_at hl 2 rfl) ?_
          refine hr_getR B hF hb hW (ci := 12) (j := 8) (cd := 3) t0 rfl (isF (by decide +kernel)) rfl dX12_sentence_166 (fun az166 tz166 xz166 => ?_)
          refine lv_iload_n hx hb dX12_sentence_169 rfl (lv_at hl 0 rfl) ?_
          refine hr_iald B hb hW tz166 rfl (by omega) (by omega) dX12_sentence_170 (fun z170 iz170 pz170 xz170 => ?_)
          have xz170 := tk_xa xz170 (fun _ h => h) (pq := ck_prot1) (C := C2) tz166 ⟨(0, 134), by decide, by dsimp only; omega, by dsimp only; omega⟩; have kz170 := congrArg Int32.toInt xz170
          refine hr_iastN B hb hU hW hS tz157 rfl (by omega) (by omega) (hr_ins (a := 187) (b := 366) (lo := -2147483648) (hi := 2147483647) (by omega) (by omega) (by decide +kernel) (ck_lo _) (ck_hi _)) (tk_EA tz157 (fun a h => hun 34 (by decide) _ _ tz157 h)) (u := 187) (v := 366) (by omega) (by omega) (by decide) dX12_sentence_171 (fun H locs hW hS => ?_)
          obtain ⟨C171, c171⟩ : ∃ f, f = tk_upd C2 34 (z164.toInt.toNat) z170 := ⟨_, rfl⟩
          rw [← c171] at hW
          refine hr_inc hx hb dX12_sentence_172 hl (kq := 0) (lv' := fun v => [(2, .int v), (1, .int gg), (0, .ref a0)]) rfl (by decide) (by decide) (by omega) (by omega) (fun _ => rfl) (fun z172 ls hz172 hl => ?_)
          refine lv_goto (tgt := 146) hx hb dX12_sentence_175 (by decide) ?_
          refine ih146 z172 C171 _ _ _ (by omega) (by omega) (by omega) (fun t j h => ?_) (fun j h => ?_) ?_ (fun j h => ?_) (lv_sub hl [0, 1, 2] rfl) hW hS
          · rw [c171, tk_unt h]; exact hT t j h
          · rw [c171, tk_unj (by omega)]; exact hT2 j h
          · rw [c171, tk_unj (by omega)]; exact h186
          · by_cases e9 : j = i.toInt.toNat
            · rw [show 187 + j = z164.toInt.toNat by omega, c171, tk_us, xz170, hT 36 _ (by decide), e9]
            · rw [c171, tk_unj (by omega)]; exact hcp j (by omega)
    exact l146 200 z144 C143 _ _ _ (by omega) (by omega) (by omega) (fun t j h => by rw [c143, tk_unt h]) (fun j h => by rw [c143, tk_unj (by omega)]) (by rw [c143, show 186 = z136.toInt.toNat by omega, tk_us]; exact xz140) (fun j h => absurd h (by omega)) (lv_sub hl [0, 1, 2] rfl) hW hS
  have l48 : ∀ (n48 : Nat) (gg : Int32) (pvv : Nat → Int32) (C2 : Nat → Nat → Int32) (ls : Array Slot) (H : Heap) (locs : List Loc), 100 * (20 - (C2 12 46).toInt) + (C2 12 47).toInt + 10 * (C2 12 49).toInt + gg.toInt < n48 → (0 ≤ gg.toInt) → (gg.toInt ≤ 1) → (∀ j, j < 32 → j ∉ [11, 12, 13, 14, 24, 31] → pvv j = pvv0 j) → ((pvv 11).toInt = 0) → (SI C2) → (sfr C C2) → (ck_pvo ty (ck_XE pvv) pPM pvv) → lv_has ls 3 [(1, .int gg), (0, .ref a0)] → ck_Wo D cys ty ck_tags ck_pvs0 (tk ty ck_prot1 C2) pvv H → va_S (ck_own ty) s.heap H locs → W p l e (ck_rm (ck_tab 348)) s m [Value.ref a0].toArray below meth c H locs 0 0 (MQ below (ck_Qc D cys ty ck_tags ck_pvs0 (GE ty) (ck_tab 348) [Value.ref a0] pvv0) [Value.ref a0].toArray s 0 0 (ck_own ty)) (F0 m 48 ls []) := by
    intro n48
    induction n48 with
    | zero => intro gg pvv C2 ls H locs hm48 g1 g2 sm len sI hfr hp hl hW hS; obtain ⟨s1, s2, s3, s4, s5, s6, s7, s8⟩ := sI; omega
    | succ n48 ih48 =>
      intro gg pvv C2 ls H locs hm48 g1 g2 sm len sI hfr hp hl hW hS
      obtain ⟨s1, s2, s3, s4, s5, s6, s7, s8⟩ := id sI
      refine lv_iload_n hx hb dX12_sentence_48 rfl (lv_at hl 0 rfl) ?_
      refine hr_eq0 (tgt := 132) hx hb dX12_sentence_49 (by decide) (fun h49 => ?_) (fun h49 => ?_)
      · exact part2 gg pvv C2 _ _ _ hp sm len sI hfr (lv_sub hl [0, 1] rfl) hW hS
      · refine lv_aload_n hx hb dX12_sentence_52 rfl (lv_at hl 1 rfl) ?_
        refine hr_getI B hF hb hW (ci := 12) (j := 49) (cd := 1) t0 rfl (isF (by decide +kernel)) rfl dX12_sentence_53 (fun z53 lz53 uz53 pz53 xz53 => ?_)
        have xz53 := tk_xo xz53 (fun _ h => h) (pq := ck_prot1) (C := C2) t0 (by decide); have kz53 := congrArg Int32.toInt xz53
        refine hr_eq0 (tgt := 101) hx hb dX12_sentence_56 (by decide) (fun h56 => ?_) (fun h56 => ?_)
        · refine lv_aload_n hx hb dX12_sentence_101 rfl (lv_at hl 1 rfl) ?_
          refine hr_getI B hF hb hW (ci := 12) (j := 49) (cd := 1) t0 rfl (isF (by decide +kernel)) rfl dX12_sentence_102 (fun z102 lz102 uz102 pz102 xz102 => ?_)
          have xz102 := tk_xo xz102 (fun _ h => h) (pq := ck_prot1) (C := C2) t0 (by decide); have kz102 := congrArg Int32.toInt xz102
          refine hr_eq0 (tgt := 118) hx hb dX12_sentence_105 (by decide) (fun h105 => ?_) (fun h105 => ?_)
          · refine lv_aload_n hx hb dX12_sentence_118 rfl (lv_at hl 1 rfl) ?_
            refine hr_callV (kc := kh_12_operand) B rfl hb hl (hMh _ (List.mem_of_getElem? (i := 15) rfl)) (b := a0) (As := []) (hs_operand hF hC hM hMh hU hun hH1 t0 hp sI (by omega)) ⟨hr_aR t0, True.intro⟩ hW hS rfl (by decide) (by decide) (Nat.le_of_ble_eq_true rfl) dX12_sentence_119 (fun r pvv119 E119 H locs hpost hW hS => ?_)
            obtain ⟨hp, sm1, z119, rfl, C119, rfl, f1, hz⟩ := hpost
            have sm : ∀ j, j < 32 → j ∉ [11, 12, 13, 14, 24, 31] → pvv119 j = pvv0 j := fun j h1 h2 => (sm1 j h1 (fun q => h2 (by simp only [List.mem_cons, List.not_mem_nil, or_false] at q ⊢; omega))).trans (sm j h1 h2)
            have len : (pvv119 11).toInt = 0 := by rw [sm1 11 (by decide) (by decide)]; exact len
            have hfr := sfr_tr hfr f1
            rcases hz with hz | hz
            · refine hr_ne0 (tgt := 48) hx hb dX12_sentence_122 (by decide) (fun h9 => ?_) (fun h9 => ?_)
              · omega
              refine hr_ic hx hb dX12_sentence_125 (by decide) (fun z125 hz125 => ?_)
              refine lv_aload_n hx hb dX12_sentence_126 rfl (lv_at hl 1 rfl) ?_
              refine hr_getI B hF hb hW (ci := 12) (j := 16) (cd := 0) t0 rfl (isF (by decide +kernel)) rfl dX12_sentence_127 (fun z127 lz127 uz127 pz127 xz127 => ?_)
              refine lv_isub hx hb dX12_sentence_130 (lv_topi (fun z130 hz130 => ?_))
              have r11 := hr_pv hp 11 (lo := 0) (hi := 940) rfl
              have r12 := hr_pv hp 12 (lo := 0) (hi := 940) rfl
              have r13 := hr_pv hp 13 (lo := 0) (hi := 940) rfl
              have r14 := hr_pv hp 14 (lo := 0) (hi := 4) rfl
              have r31 := hr_pv hp 31 (lo := 0) (hi := 4) rfl
              have hGn : gC C119 := by
                refine ⟨g5_of G5 (fun j => hfr 15 j (by decide) (by decide) (by simp)) (fun j => hfr 49 j (by decide) (by decide) (by simp)) (fun j => hfr 16 j (by decide) (by decide) (by simp)) (fun j => hfr 50 j (by decide) (by decide) (by simp)) (fun t j ht => hfr t j (g6_ne ht (by decide)) (g6_ne ht (by decide)) (fun q => g6_ne ht (n := 12) (by decide) q.1)) (fun j _ => hfr 34 j (by decide) (by decide) (by simp)), fun k hk => ?_, fun j hj => ?_, fun k hk hk2 => ?_, ?_⟩
                · rw [hfr 0 0 (by decide) (by decide) (by decide)] at hk
                  rw [hfr 29 k (by decide) (by decide) (by simp), hfr 30 k (by decide) (by decide) (by simp), hfr 31 k (by decide) (by decide) (by simp)]
                  exact G1 k hk
                · rw [hfr 12 22 (by decide) (by decide) (by decide)] at hj
                  rw [hfr 37 _ (by decide) (by decide) (by simp), hfr 34 _ (by decide) (by decide) (by simp)]
                  exact G2 j hj
                · rw [hfr 46 k (by decide) (by decide) (by simp)] at hk2
                  rw [hfr 45 _ (by decide) (by decide) (by simp), hfr 45 _ (by decide) (by decide) (by simp)]
                  refine ⟨(G3 k hk hk2).1, ?_⟩
                  have e9 : (fun i => C119 45 (367 * k + 186 + i)) = (fun i => C 45 (367 * k + 186 + i)) := funext (fun i => hfr 45 _ (by decide) (by decide) (by simp))
                  rw [e9]; exact (G3 k hk hk2).2
                · have e9 : (fun i => C119 34 (186 + i)) = (fun i => C 34 (186 + i)) := funext (fun i => hfr 34 _ (by decide) (by decide) (by simp))
                  unfold g4C; rw [e9]; exact G4
              refine cm_iret B hb rfl ⟨_, List.mem_cons_self, hr_aF (ty := ty), (fun q h => nomatch h), ?_⟩ (ge_in hW hGn) hS dX12_sentence_131
              refine hr_mk (n := 32) [11, 12, 13, 14, 24, 31] hp0 sm (by decide +kernel) (fun j hj av hav => ?_)
              rcases List.mem_cons.mp hj with rfl | hj
              · have hav : some (.inl (0, 0, []) : ck_AV) = some av := hav
                cases hav
                exact hr_aI (by omega) (by omega)
              rcases List.mem_cons.mp hj with rfl | hj
              · have hav : some (.inl (0, 940, []) : ck_AV) = some av := hav
                cases hav
                exact hr_aI (by omega) (by omega)
              rcases List.mem_cons.mp hj with rfl | hj
              · have hav : some (.inl (0, 940, []) : ck_AV) = some av := hav
                cases hav
                exact hr_aI (by omega) (by omega)
              rcases List.mem_cons.mp hj with rfl | hj
              · have hav : some (.inl (0, 4, []) : ck_AV) = some av := hav
                cases hav
                exact hr_aI (by omega) (by omega)
              rcases List.mem_cons.mp hj with rfl | hj
              · have hav : some (.inl (-2147483648, 2147483647, []) : ck_AV) = some av := hav
                cases hav
                exact hr_aF
              obtain rfl := List.mem_singleton.mp hj
              have hav : some (.inl (0, 4, []) : ck_AV) = some av := hav
              cases hav
              exact hr_aI (by omega) (by omega)
            · obtain ⟨hz, sI, q1, q2⟩ := hz
              have v4 := sI.2.2.2.1
              refine hr_ne0 (tgt := 48) hx hb dX12_sentence_122 (by decide) (fun h9 => ?_) (fun h9 => ?_)
              · exact ih48 gg pvv119 C119 _ _ _ (by omega) (by omega) (by omega) sm len sI hfr hp hl hW hS
              · omega
          · refine lv_aload_n hx hb dX12_sentence_108 rfl (lv_at hl 1 rfl) ?_
            refine hr_callV (kc := kh_12_behind) B rfl hb hl (hMh _ (List.mem_of_getElem? (i := 14) rfl)) (b := a0) (As := []) (hs_behind hF hC hM hMh hU hun hH1 t0 hp sI (by omega)) ⟨hr_aR t0, True.intro⟩ hW hS rfl (by decide) (by decide) (Nat.le_of_ble_eq_true rfl) dX12_sentence_109 (fun r pvv109 E109 H locs hpost hW hS => ?_)
            obtain ⟨hp, sm1, z109, rfl, C109, rfl, f1, hz⟩ := hpost
            have sm : ∀ j, j < 32 → j ∉ [11, 12, 13, 14, 24, 31] → pvv109 j = pvv0 j := fun j h1 h2 => (sm1 j h1 (fun q => h2 (by simp only [List.mem_cons, List.not_mem_nil, or_false] at q ⊢; omega))).trans (sm j h1 h2)
            have len : (pvv109 11).toInt = 0 := by rw [sm1 11 (by decide) (by decide)]; exact len
            have hfr := sfr_tr hfr f1
            rcases hz with hz | hz
            · refine hr_ne0 (tgt := 48) hx hb dX12_sentence_112 (by decide) (fun h9 => ?_) (fun h9 => ?_)
              · omega
              refine lv_goto (tgt := 125) hx hb dX12_sentence_115 (by decide) ?_
              refine hr_ic hx hb dX12_sentence_125 (by decide) (fun z125 hz125 => ?_)
              refine lv_aload_n hx hb dX12_sentence_126 rfl (lv_at hl 1 rfl) ?_
              refine hr_getI B hF hb hW (ci := 12) (j := 16) (cd := 0) t0 rfl (isF (by decide +kernel)) rfl dX12_sentence_127 (fun z127 lz127 uz127 pz127 xz127 => ?_)
              refine lv_isub hx hb dX12_sentence_130 (lv_topi (fun z130 hz130 => ?_))
              have r11 := hr_pv hp 11 (lo := 0) (hi := 940) rfl
              have r12 := hr_pv hp 12 (lo := 0) (hi := 940) rfl
              have r13 := hr_pv hp 13 (lo := 0) (hi := 940) rfl
              have r14 := hr_pv hp 14 (lo := 0) (hi := 4) rfl
              have r31 := hr_pv hp 31 (lo := 0) (hi := 4) rfl
              have hGn : gC C109 := by
                refine ⟨g5_of G5 (fun j => hfr 15 j (by decide) (by decide) (by simp)) (fun j => hfr 49 j (by decide) (by decide) (by simp)) (fun j => hfr 16 j (by decide) (by decide) (by simp)) (fun j => hfr 50 j (by decide) (by decide) (by simp)) (fun t j ht => hfr t j (g6_ne ht (by decide)) (g6_ne ht (by decide)) (fun q => g6_ne ht (n := 12) (by decide) q.1)) (fun j _ => hfr 34 j (by decide) (by decide) (by simp)), fun k hk => ?_, fun j hj => ?_, fun k hk hk2 => ?_, ?_⟩
                · rw [hfr 0 0 (by decide) (by decide) (by decide)] at hk
                  rw [hfr 29 k (by decide) (by decide) (by simp), hfr 30 k (by decide) (by decide) (by simp), hfr 31 k (by decide) (by decide) (by simp)]
                  exact G1 k hk
                · rw [hfr 12 22 (by decide) (by decide) (by decide)] at hj
                  rw [hfr 37 _ (by decide) (by decide) (by simp), hfr 34 _ (by decide) (by decide) (by simp)]
                  exact G2 j hj
                · rw [hfr 46 k (by decide) (by decide) (by simp)] at hk2
                  rw [hfr 45 _ (by decide) (by decide) (by simp), hfr 45 _ (by decide) (by decide) (by simp)]
                  refine ⟨(G3 k hk hk2).1, ?_⟩
                  have e9 : (fun i => C109 45 (367 * k + 186 + i)) = (fun i => C 45 (367 * k + 186 + i)) := funext (fun i => hfr 45 _ (by decide) (by decide) (by simp))
                  rw [e9]; exact (G3 k hk hk2).2
                · have e9 : (fun i => C109 34 (186 + i)) = (fun i => C 34 (186 + i)) := funext (fun i => hfr 34 _ (by decide) (by decide) (by simp))
                  unfold g4C; rw [e9]; exact G4
              refine cm_iret B hb rfl ⟨_, List.mem_cons_self, hr_aF (ty := ty), (fun q h => nomatch h), ?_⟩ (ge_in hW hGn) hS dX12_sentence_131
              refine hr_mk (n := 32) [11, 12, 13, 14, 24, 31] hp0 sm (by decide +kernel) (fun j hj av hav => ?_)
              rcases List.mem_cons.mp hj with rfl | hj
              · have hav : some (.inl (0, 0, []) : ck_AV) = some av := hav
                cases hav
                exact hr_aI (by omega) (by omega)
              rcases List.mem_cons.mp hj with rfl | hj
              · have hav : some (.inl (0, 940, []) : ck_AV) = some av := hav
                cases hav
                exact hr_aI (by omega) (by omega)
              rcases List.mem_cons.mp hj with rfl | hj
              · have hav : some (.inl (0, 940, []) : ck_AV) = some av := hav
                cases hav
                exact hr_aI (by omega) (by omega)
              rcases List.mem_cons.mp hj with rfl | hj
              · have hav : some (.inl (0, 4, []) : ck_AV) = some av := hav
                cases hav
                exact hr_aI (by omega) (by omega)
              rcases List.mem_cons.mp hj with rfl | hj
              · have hav : some (.inl (-2147483648, 2147483647, []) : ck_AV) = some av := hav
                cases hav
                exact hr_aF
              obtain rfl := List.mem_singleton.mp hj
              have hav : some (.inl (0, 4, []) : ck_AV) = some av := hav
              cases hav
              exact hr_aI (by omega) (by omega)
            · obtain ⟨hz, sI, q1, q2⟩ := hz
              have v4 := sI.2.2.2.1
              refine hr_ne0 (tgt := 48) hx hb dX12_sentence_112 (by decide) (fun h9 => ?_) (fun h9 => ?_)
              · exact ih48 gg pvv109 C109 _ _ _ (by omega) (by omega) (by omega) sm len sI hfr hp hl hW hS
              · omega
        · refine lv_aload_n hx hb dX12_sentence_59 rfl (lv_at hl 1 rfl) ?_
          refine hr_getI B hF hb hW (ci := 12) (j := 11) (cd := 0) t0 rfl (isF (by decide +kernel)) rfl dX12_sentence_60 (fun z60 lz60 uz60 pz60 xz60 => ?_)
          have pz60 := congrArg Int32.toInt (pz60 14 rfl)
          refine hr_ne0 (tgt := 101) hx hb dX12_sentence_63 (by decide) (fun h63 => ?_) (fun h63 => ?_)
          · refine lv_aload_n hx hb dX12_sentence_101 rfl (lv_at hl 1 rfl) ?_
            refine hr_getI B hF hb hW (ci := 12) (j := 49) (cd := 1) t0 rfl (isF (by decide +kernel)) rfl dX12_sentence_102 (fun z102 lz102 uz102 pz102 xz102 => ?_)
            have xz102 := tk_xo xz102 (fun _ h => h) (pq := ck_prot1) (C := C2) t0 (by decide); have kz102 := congrArg Int32.toInt xz102
            refine hr_eq0 (tgt := 118) hx hb dX12_sentence_105 (by decide) (fun h105 => ?_) (fun h105 => ?_)
            · refine lv_aload_n hx hb dX12_sentence_118 rfl (lv_at hl 1 rfl) ?_
              refine hr_callV (kc := kh_12_operand) B rfl hb hl (hMh _ (List.mem_of_getElem? (i := 15) rfl)) (b := a0) (As := []) (hs_operand hF hC hM hMh hU hun hH1 t0 hp sI (by omega)) ⟨hr_aR t0, True.intro⟩ hW hS rfl (by decide) (by decide) (Nat.le_of_ble_eq_true rfl) dX12_sentence_119 (fun r pvv119 E119 H locs hpost hW hS => ?_)
              obtain ⟨hp, sm1, z119, rfl, C119, rfl, f1, hz⟩ := hpost
              have sm : ∀ j, j < 32 → j ∉ [11, 12, 13, 14, 24, 31] → pvv119 j = pvv0 j := fun j h1 h2 => (sm1 j h1 (fun q => h2 (by simp only [List.mem_cons, List.not_mem_nil, or_false] at q ⊢; omega))).trans (sm j h1 h2)
              have len : (pvv119 11).toInt = 0 := by rw [sm1 11 (by decide) (by decide)]; exact len
              have hfr := sfr_tr hfr f1
              rcases hz with hz | hz
              · refine hr_ne0 (tgt := 48) hx hb dX12_sentence_122 (by decide) (fun h9 => ?_) (fun h9 => ?_)
                · omega
                refine hr_ic hx hb dX12_sentence_125 (by decide) (fun z125 hz125 => ?_)
                refine lv_aload_n hx hb dX12_sentence_126 rfl (lv_at hl 1 rfl) ?_
                refine hr_getI B hF hb hW (ci := 12) (j := 16) (cd := 0) t0 rfl (isF (by decide +kernel)) rfl dX12_sentence_127 (fun z127 lz127 uz127 pz127 xz127 => ?_)
                refine lv_isub hx hb dX12_sentence_130 (lv_topi (fun z130 hz130 => ?_))
                have r11 := hr_pv hp 11 (lo := 0) (hi := 940) rfl
                have r12 := hr_pv hp 12 (lo := 0) (hi := 940) rfl
                have r13 := hr_pv hp 13 (lo := 0) (hi := 940) rfl
                have r14 := hr_pv hp 14 (lo := 0) (hi := 4) rfl
                have r31 := hr_pv hp 31 (lo := 0) (hi := 4) rfl
                have hGn : gC C119 := by
                  refine ⟨g5_of G5 (fun j => hfr 15 j (by decide) (by decide) (by simp)) (fun j => hfr 49 j (by decide) (by decide) (by simp)) (fun j => hfr 16 j (by decide) (by decide) (by simp)) (fun j => hfr 50 j (by decide) (by decide) (by simp)) (fun t j ht => hfr t j (g6_ne ht (by decide)) (g6_ne ht (by decide)) (fun q => g6_ne ht (n := 12) (by decide) q.1)) (fun j _ => hfr 34 j (by decide) (by decide) (by simp)), fun k hk => ?_, fun j hj => ?_, fun k hk hk2 => ?_, ?_⟩
                  · rw [hfr 0 0 (by decide) (by decide) (by decide)] at hk
                    rw [hfr 29 k (by decide) (by decide) (by simp), hfr 30 k (by decide) (by decide) (by simp), hfr 31 k (by decide) (by decide) (by simp)]
                    exact G1 k hk
                  · rw [hfr 12 22 (by decide) (by decide) (by decide)] at hj
                    rw [hfr 37 _ (by decide) (by decide) (by simp), hfr 34 _ (by decide) (by decide) (by simp)]
                    exact G2 j hj
                  · rw [hfr 46 k (by decide) (by decide) (by simp)] at hk2
                    rw [hfr 45 _ (by decide) (by decide) (by simp), hfr 45 _ (by decide) (by decide) (by simp)]
                    refine ⟨(G3 k hk hk2).1, ?_⟩
                    have e9 : (fun i => C119 45 (367 * k + 186 + i)) = (fun i => C 45 (367 * k + 186 + i)) := funext (fun i => hfr 45 _ (by decide) (by decide) (by simp))
                    rw [e9]; exact (G3 k hk hk2).2
                  · have e9 : (fun i => C119 34 (186 + i)) = (fun i => C 34 (186 + i)) := funext (fun i => hfr 34 _ (by decide) (by decide) (by simp))
                    unfold g4C; rw [e9]; exact G4
                refine cm_iret B hb rfl ⟨_, List.mem_cons_self, hr_aF (ty := ty), (fun q h => nomatch h), ?_⟩ (ge_in hW hGn) hS dX12_sentence_131
                refine hr_mk (n := 32) [11, 12, 13, 14, 24, 31] hp0 sm (by decide +kernel) (fun j hj av hav => ?_)
                rcases List.mem_cons.mp hj with rfl | hj
                · have hav : some (.inl (0, 0, []) : ck_AV) = some av := hav
                  cases hav
                  exact hr_aI (by omega) (by omega)
                rcases List.mem_cons.mp hj with rfl | hj
                · have hav : some (.inl (0, 940, []) : ck_AV) = some av := hav
                  cases hav
                  exact hr_aI (by omega) (by omega)
                rcases List.mem_cons.mp hj with rfl | hj
                · have hav : some (.inl (0, 940, []) : ck_AV) = some av := hav
                  cases hav
                  exact hr_aI (by omega) (by omega)
                rcases List.mem_cons.mp hj with rfl | hj
                · have hav : some (.inl (0, 4, []) : ck_AV) = some av := hav
                  cases hav
                  exact hr_aI (by omega) (by omega)
                rcases List.mem_cons.mp hj with rfl | hj
                · have hav : some (.inl (-2147483648, 2147483647, []) : ck_AV) = some av := hav
                  cases hav
                  exact hr_aF
                obtain rfl := List.mem_singleton.mp hj
                have hav : some (.inl (0, 4, []) : ck_AV) = some av := hav
                cases hav
                exact hr_aI (by omega) (by omega)
              · obtain ⟨hz, sI, q1, q2⟩ := hz
                have v4 := sI.2.2.2.1
                refine hr_ne0 (tgt := 48) hx hb dX12_sentence_122 (by decide) (fun h9 => ?_) (fun h9 => ?_)
                · exact ih48 gg pvv119 C119 _ _ _ (by omega) (by omega) (by omega) sm len sI hfr hp hl hW hS
                · omega
            · refine lv_aload_n hx hb dX12_sentence_108 rfl (lv_at hl 1 rfl) ?_
              refine hr_callV (kc := kh_12_behind) B rfl hb hl (hMh _ (List.mem_of_getElem? (i := 14) rfl)) (b := a0) (As := []) (hs_behind hF hC hM hMh hU hun hH1 t0 hp sI (by omega)) ⟨hr_aR t0, True.intro⟩ hW hS rfl (by decide) (by decide) (Nat.le_of_ble_eq_true rfl) dX12_sentence_109 (fun r pvv109 E109 H locs hpost hW hS => ?_)
              obtain ⟨hp, sm1, z109, rfl, C109, rfl, f1, hz⟩ := hpost
              have sm : ∀ j, j < 32 → j ∉ [11, 12, 13, 14, 24, 31] → pvv109 j = pvv0 j := fun j h1 h2 => (sm1 j h1 (fun q => h2 (by simp only [List.mem_cons, List.not_mem_nil, or_false] at q ⊢; omega))).trans (sm j h1 h2)
              have len : (pvv109 11).toInt = 0 := by rw [sm1 11 (by decide) (by decide)]; exact len
              have hfr := sfr_tr hfr f1
              rcases hz with hz | hz
              · refine hr_ne0 (tgt := 48) hx hb dX12_sentence_112 (by decide) (fun h9 => ?_) (fun h9 => ?_)
                · omega
                refine lv_goto (tgt := 125) hx hb dX12_sentence_115 (by decide) ?_
                refine hr_ic hx hb dX12_sentence_125 (by decide) (fun z125 hz125 => ?_)
                refine lv_aload_n hx hb dX12_sentence_126 rfl (lv_at hl 1 rfl) ?_
                refine hr_getI B hF hb hW (ci := 12) (j := 16) (cd := 0) t0 rfl (isF (by decide +kernel)) rfl dX12_sentence_127 (fun z127 lz127 uz127 pz127 xz127 => ?_)
                refine lv_isub hx hb dX12_sentence_130 (lv_topi (fun z130 hz130 => ?_))
                have r11 := hr_pv hp 11 (lo := 0) (hi := 940) rfl
                have r12 := hr_pv hp 12 (lo := 0) (hi := 940) rfl
                have r13 := hr_pv hp 13 (lo := 0) (hi := 940) rfl
                have r14 := hr_pv hp 14 (lo := 0) (hi := 4) rfl
                have r31 := hr_pv hp 31 (lo := 0) (hi := 4) rfl
                have hGn : gC C109 := by
                  refine ⟨g5_of G5 (fun j => hfr 15 j (by decide) (by decide) (by simp)) (fun j => hfr 49 j (by decide) (by decide) (by simp)) (fun j => hfr 16 j (by decide) (by decide) (by simp)) (fun j => hfr 50 j (by decide) (by decide) (by simp)) (fun t j ht => hfr t j (g6_ne ht (by decide)) (g6_ne ht (by decide)) (fun q => g6_ne ht (n := 12) (by decide) q.1)) (fun j _ => hfr 34 j (by decide) (by decide) (by simp)), fun k hk => ?_, fun j hj => ?_, fun k hk hk2 => ?_, ?_⟩
                  · rw [hfr 0 0 (by decide) (by decide) (by decide)] at hk
                    rw [hfr 29 k (by decide) (by decide) (by simp), hfr 30 k (by decide) (by decide) (by simp), hfr 31 k (by decide) (by decide) (by simp)]
                    exact G1 k hk
                  · rw [hfr 12 22 (by decide) (by decide) (by decide)] at hj
                    rw [hfr 37 _ (by decide) (by decide) (by simp), hfr 34 _ (by decide) (by decide) (by simp)]
                    exact G2 j hj
                  · rw [hfr 46 k (by decide) (by decide) (by simp)] at hk2
                    rw [hfr 45 _ (by decide) (by decide) (by simp), hfr 45 _ (by decide) (by decide) (by simp)]
                    refine ⟨(G3 k hk hk2).1, ?_⟩
                    have e9 : (fun i => C109 45 (367 * k + 186 + i)) = (fun i => C 45 (367 * k + 186 + i)) := funext (fun i => hfr 45 _ (by decide) (by decide) (by simp))
                    rw [e9]; exact (G3 k hk hk2).2
                  · have e9 : (fun i => C109 34 (186 + i)) = (fun i => C 34 (186 + i)) := funext (fun i => hfr 34 _ (by decide) (by decide) (by simp))
                    unfold g4C; rw [e9]; exact G4
                refine cm_iret B hb rfl ⟨_, List.mem_cons_self, hr_aF (ty := ty), (fun q h => nomatch h), ?_⟩ (ge_in hW hGn) hS dX12_sentence_131
                refine hr_mk (n := 32) [11, 12, 13, 14, 24, 31] hp0 sm (by decide +kernel) (fun j hj av hav => ?_)
                rcases List.mem_cons.mp hj with rfl | hj
                · have hav : some (.inl (0, 0, []) : ck_AV) = some av := hav
                  cases hav
                  exact hr_aI (by omega) (by omega)
                rcases List.mem_cons.mp hj with rfl | hj
                · have hav : some (.inl (0, 940, []) : ck_AV) = some av := hav
                  cases hav
                  exact hr_aI (by omega) (by omega)
                rcases List.mem_cons.mp hj with rfl | hj
                · have hav : some (.inl (0, 940, []) : ck_AV) = some av := hav
                  cases hav
                  exact hr_aI (by omega) (by omega)
                rcases List.mem_cons.mp hj with rfl | hj
                · have hav : some (.inl (0, 4, []) : ck_AV) = some av := hav
                  cases hav
                  exact hr_aI (by omega) (by omega)
                rcases List.mem_cons.mp hj with rfl | hj
                · have hav : some (.inl (-2147483648, 2147483647, []) : ck_AV) = some av := hav
                  cases hav
                  exact hr_aF
                obtain rfl := List.mem_singleton.mp hj
                have hav : some (.inl (0, 4, []) : ck_AV) = some av := hav
                cases hav
                exact hr_aI (by omega) (by omega)
              · obtain ⟨hz, sI, q1, q2⟩ := hz
                have v4 := sI.2.2.2.1
                refine hr_ne0 (tgt := 48) hx hb dX12_sentence_112 (by decide) (fun h9 => ?_) (fun h9 => ?_)
                · exact ih48 gg pvv109 C109 _ _ _ (by omega) (by omega) (by omega) sm len sI hfr hp hl hW hS
                · omega
          · refine lv_aload_n hx hb dX12_sentence_66 rfl (lv_at hl 1 rfl) ?_
            refine hr_callV (kc := kh_12_nots) B rfl hb hl (hMh _ (List.mem_of_getElem? (i := 12) rfl)) (b := a0) (As := []) (hs_nots hF hC hM hMh hU hun hH1 t0 sI (by omega)) ⟨hr_aR t0, True.intro⟩ hW hS rfl (by decide) (by decide) (Nat.le_of_ble_eq_true rfl) dX12_sentence_67 (fun r pvv67 E67 H locs hpost hW hS => ?_)
            obtain ⟨rfl, ep, C67, rfl, I1, f1, w1, o1, p1⟩ := hpost
            rw [ep] at hW
            refine lv_aload_n hx hb dX12_sentence_70 rfl (lv_at hl 1 rfl) ?_
            refine hr_bp hx hb dX12_sentence_71 (by decide) (by decide) (fun z71 hz71 => ?_)
            refine hr_callV (kc := kh_12_joins) B rfl hb hl (hMh _ (List.mem_of_getElem? (i := 13) rfl)) (b := a0) (As := [.int z71]) (hs_joins hF hC hM hMh hU hun hH1 t0 I1 w1) ⟨hr_aR t0, hr_aF, True.intro⟩ hW hS rfl (by decide) (by decide) (Nat.le_of_ble_eq_true rfl) dX12_sentence_73 (fun r pvv73 E73 H locs hpost hW hS => ?_)
            obtain ⟨rfl, ep, C73, rfl, I2, f2, w2, o2, p2, n2⟩ := hpost
            rw [ep] at hW
            have hfr := sfr_tr hfr (sfr_tr f1 f2)
            have sI := I2
            obtain ⟨v1, v2, v3, v4, v5, v6, v7, v8⟩ := id I2
            refine lv_aload_n hx hb dX12_sentence_76 rfl (lv_at hl 1 rfl) ?_
            refine hr_getI B hF hb hW (ci := 12) (j := 47) (cd := 0) t0 rfl (isF (by decide +kernel)) rfl dX12_sentence_77 (fun z77 lz77 uz77 pz77 xz77 => ?_)
            have xz77 := tk_xo xz77 (fun _ h => h) (pq := ck_prot1) (C := C73) t0 (by decide); have kz77 := congrArg Int32.toInt xz77
            refine hr_le0 (tgt := 96) hx hb dX12_sentence_80 (by decide) (fun h80 => ?_) (fun h80 => ?_)
            · refine hr_ic hx hb dX12_sentence_96 (by decide) (fun z96 hz96 => ?_)
              refine lv_istore_n hx hb dX12_sentence_97 rfl hl (lv' := [(1, .int z96), (0, .ref a0)]) (by decide) rfl (fun ls hl => ?_)
              refine lv_goto (tgt := 48) hx hb dX12_sentence_98 (by decide) ?_
              exact ih48 z96 pvv C73 _ _ _ (by omega) (by omega) (by omega) sm len sI hfr hp hl hW hS
            · refine lv_aload_n hx hb dX12_sentence_83 rfl (lv_at hl 1 rfl) ?_
              refine hr_ic hx hb dX12_sentence_84 (by decide) (fun z84 hz84 => ?_)
              refine cm_callV (kc := kc_205) B rfl hb hl (hM.1 _ _ 0 [205] (isM (by decide +kernel)) 205 (by decide)) (hH1 _ tk_X1 205 (by decide)) (b := a0) (As := [.int z84]) ⟨hr_aR t0, hr_aI (by omega) (by omega), True.intro⟩ hp hW hS rfl (by decide) (by decide) (Nat.le_of_ble_eq_true rfl) dX12_sentence_85 (fun cs hcs r pvv85 H locs hca hW hS => ?_)
              obtain rfl := List.mem_singleton.mp hcs
              obtain ⟨hr, hq, hc⟩ := hca
              obtain ⟨z85, rfl, lz85, uz85⟩ := hr_rvI hr
              have hp := hr_std hp hc (by decide +kernel)
              have e85w11 := congrArg Int32.toInt (hr_same1 hc (j := 11) (by decide +kernel))
              have e85w14 := congrArg Int32.toInt (hr_same1 hc (j := 14) (by decide +kernel))
              have sm : ∀ j, j < 32 → j ∉ [11, 12, 13, 14, 24, 31] → pvv85 j = pvv0 j := fun j h1 h2 => (hr_sameX (l := [11, 12, 13, 14, 24, 31]) hc (by decide +kernel) j h1 h2).trans (sm j h1 h2)
              have len : (pvv85 11).toInt = 0 := by omega
              refine lv_pop hx hb dX12_sentence_88 rfl ?_
              refine hr_ic hx hb dX12_sentence_89 (by decide) (fun z89 hz89 => ?_)
              refine lv_aload_n hx hb dX12_sentence_90 rfl (lv_at hl 1 rfl) ?_
              refine hr_getI B hF hb hW (ci := 12) (j := 16) (cd := 0) t0 rfl (isF (by decide +kernel)) rfl dX12_sentence_91 (fun z91 lz91 uz91 pz91 xz91 => ?_)
              refine lv_isub hx hb dX12_sentence_94 (lv_topi (fun z94 hz94 => ?_))
              have r11 := hr_pv hp 11 (lo := 0) (hi := 940) rfl
              have r12 := hr_pv hp 12 (lo := 0) (hi := 940) rfl
              have r13 := hr_pv hp 13 (lo := 0) (hi := 940) rfl
              have r14 := hr_pv hp 14 (lo := 0) (hi := 4) rfl
              have r31 := hr_pv hp 31 (lo := 0) (hi := 4) rfl
              have hGn : gC C73 := by
                refine ⟨g5_of G5 (fun j => hfr 15 j (by decide) (by decide) (by simp)) (fun j => hfr 49 j (by decide) (by decide) (by simp)) (fun j => hfr 16 j (by decide) (by decide) (by simp)) (fun j => hfr 50 j (by decide) (by decide) (by simp)) (fun t j ht => hfr t j (g6_ne ht (by decide)) (g6_ne ht (by decide)) (fun q => g6_ne ht (n := 12) (by decide) q.1)) (fun j _ => hfr 34 j (by decide) (by decide) (by simp)), fun k hk => ?_, fun j hj => ?_, fun k hk hk2 => ?_, ?_⟩
                · rw [hfr 0 0 (by decide) (by decide) (by decide)] at hk
                  rw [hfr 29 k (by decide) (by decide) (by simp), hfr 30 k (by decide) (by decide) (by simp), hfr 31 k (by decide) (by decide) (by simp)]
                  exact G1 k hk
                · rw [hfr 12 22 (by decide) (by decide) (by decide)] at hj
                  rw [hfr 37 _ (by decide) (by decide) (by simp), hfr 34 _ (by decide) (by decide) (by simp)]
                  exact G2 j hj
                · rw [hfr 46 k (by decide) (by decide) (by simp)] at hk2
                  rw [hfr 45 _ (by decide) (by decide) (by simp), hfr 45 _ (by decide) (by decide) (by simp)]
                  refine ⟨(G3 k hk hk2).1, ?_⟩
                  have e9 : (fun i => C73 45 (367 * k + 186 + i)) = (fun i => C 45 (367 * k + 186 + i)) := funext (fun i => hfr 45 _ (by decide) (by decide) (by simp))
                  rw [e9]; exact (G3 k hk hk2).2
                · have e9 : (fun i => C73 34 (186 + i)) = (fun i => C 34 (186 + i)) := funext (fun i => hfr 34 _ (by decide) (by decide) (by simp))
                  unfold g4C; rw [e9]; exact G4
              refine cm_iret B hb rfl ⟨_, List.mem_cons_self, hr_aF (ty := ty), (fun q h => nomatch h), ?_⟩ (ge_in hW hGn) hS dX12_sentence_95
              refine hr_mk (n := 32) [11, 12, 13, 14, 24, 31] hp0 sm (by decide +kernel) (fun j hj av hav => ?_)
              rcases List.mem_cons.mp hj with rfl | hj
              · have hav : some (.inl (0, 0, []) : ck_AV) = some av := hav
                cases hav
                exact hr_aI (by omega) (by omega)
              rcases List.mem_cons.mp hj with rfl | hj
              · have hav : some (.inl (0, 940, []) : ck_AV) = some av := hav
                cases hav
                exact hr_aI (by omega) (by omega)
              rcases List.mem_cons.mp hj with rfl | hj
              · have hav : some (.inl (0, 940, []) : ck_AV) = some av := hav
                cases hav
                exact hr_aI (by omega) (by omega)
              rcases List.mem_cons.mp hj with rfl | hj
              · have hav : some (.inl (0, 4, []) : ck_AV) = some av := hav
                cases hav
                exact hr_aI (by omega) (by omega)
              rcases List.mem_cons.mp hj with rfl | hj
              · have hav : some (.inl (-2147483648, 2147483647, []) : ck_AV) = some av := hav
                cases hav
                exact hr_aF
              obtain rfl := List.mem_singleton.mp hj
              have hav : some (.inl (0, 4, []) : ck_AV) = some av := hav
              cases hav
              exact hr_aI (by omega) (by omega)
  refine lv_aload_n hx hb dX12_sentence_0 rfl (lv_at hl 0 rfl) ?_
  refine hr_ic hx hb dX12_sentence_1 (by decide) (fun z1 hz1 => ?_)
  refine hr_putN B hF hb hU hW hS (ci := 12) (j := 0) (cd := 0) t0 rfl (isF (by decide +kernel)) rfl (by omega) (by omega) (Or.inl rfl) (hr_EO (tk_X1 (C := C)) t0 (by decide)) (by decide) dX12_sentence_2 (fun H locs hW hS => ?_)
  refine lv_aload_n hx hb dX12_sentence_5 rfl (lv_at hl 0 rfl) ?_
  refine hr_sp hx hb dX12_sentence_6 (by decide) (by decide) (fun z6 hz6 => ?_)
  refine cm_callV (kc := kc_241) B rfl hb hl (hM.1 _ _ 0 [241] (isM (by decide +kernel)) 241 (by decide)) (hH1 _ tk_X1 241 (by decide)) (b := a0) (As := [.int z6]) ⟨hr_aR t0, hr_aI (by omega) (by omega), True.intro⟩ hp hW hS rfl (by decide) (by decide) (Nat.le_of_ble_eq_true rfl) dX12_sentence_9 (fun cs hcs r pvv9 H locs hca hW hS => ?_)
  obtain rfl := List.mem_singleton.mp hcs
  obtain ⟨hr, hq, hc⟩ := hca
  obtain rfl := hr_rv0 hr
  have hp := hr_std hp hc (by decide +kernel)
  have e9r11 := hr_pv hc 11 (lo := 0) (hi := 0) rfl
  have e9w14 := congrArg Int32.toInt (hr_same1 hc (j := 14) (by decide +kernel))
  have sm : ∀ j, j < 32 → j ∉ [11, 12, 13, 14, 24, 31] → pvv9 j = pvv0 j := hr_sameX hc (by decide +kernel)
  have len : (pvv9 11).toInt = 0 := by omega
  refine lv_aload_n hx hb dX12_sentence_12 rfl (lv_at hl 0 rfl) ?_
  refine hr_ic hx hb dX12_sentence_13 (by decide) (fun z13 hz13 => ?_)
  refine hr_putP B hF hb hU hW hS (ci := 12) (j := 15) (cd := 0) t0 rfl (isF (by decide +kernel)) rfl (by omega) (by omega) (Or.inl rfl) (hr_EO (tk_X1 (C := C)) t0 (by decide)) hI (q0 := 31) rfl dX12_sentence_14 (fun H locs hW hS => ?_)
  obtain ⟨pvv14, e14⟩ : ∃ f, f = upd pvv9 31 z13 := ⟨_, rfl⟩
  rw [← e14] at hW
  have e14q : pvv14 31 = z13 := by rw [e14, pk_us]
  have e14qi := congrArg Int32.toInt e14q
  have e14w11 : (pvv14 11).toInt = (pvv9 11).toInt := by rw [e14, pk_un (by decide)]
  have e14w14 : (pvv14 14).toInt = (pvv9 14).toInt := by rw [e14, pk_un (by decide)]
  have hp := hr_updS hp (q := 31) (x := z13) (lo := 0) (hi := 4) rfl (by omega) (by omega) (by decide +kernel); rw [← e14] at hp
  have sm : ∀ j, j < 32 → j ∉ [11, 12, 13, 14, 24, 31] → pvv14 j = pvv0 j := fun j h1 h2 => (by rw [e14, pk_un (fun q => h2 (by rw [q]; decide))]; exact sm j h1 h2)
  have len : (pvv14 11).toInt = 0 := by rw [e14, pk_un (by decide)]; exact len
  refine lv_aload_n hx hb dX12_sentence_17 rfl (lv_at hl 0 rfl) ?_
  refine hr_ic hx hb dX12_sentence_18 (by decide) (fun z18 hz18 => ?_)
  refine hr_putN B hF hb hU hW hS (ci := 12) (j := 45) (cd := 0) t0 rfl (isF (by decide +kernel)) rfl (by omega) (by omega) (Or.inl rfl) (tk_EO t0 (fun a h => hun 12 (by decide) _ _ t0 h) (by decide)) (by decide) dX12_sentence_19 (fun H locs hW hS => ?_)
  obtain ⟨C19, c19⟩ : ∃ f, f = tk_upd C 12 (45) z18 := ⟨_, rfl⟩
  rw [← c19] at hW
  refine lv_aload_n hx hb dX12_sentence_22 rfl (lv_at hl 0 rfl) ?_
  refine hr_ic hx hb dX12_sentence_23 (by decide) (fun z23 hz23 => ?_)
  refine hr_putN B hF hb hU hW hS (ci := 12) (j := 46) (cd := 0) t0 rfl (isF (by decide +kernel)) rfl (by omega) (by omega) (Or.inl rfl) (tk_EO t0 (fun a h => hun 12 (by decide) _ _ t0 h) (by decide)) (by decide) dX12_sentence_24 (fun H locs hW hS => ?_)
  obtain ⟨C24, c24⟩ : ∃ f, f = tk_upd C19 12 (46) z23 := ⟨_, rfl⟩
  rw [← c24] at hW
  refine lv_aload_n hx hb dX12_sentence_27 rfl (lv_at hl 0 rfl) ?_
  refine hr_ic hx hb dX12_sentence_28 (by decide) (fun z28 hz28 => ?_)
  refine hr_putN B hF hb hU hW hS (ci := 12) (j := 47) (cd := 0) t0 rfl (isF (by decide +kernel)) rfl (by omega) (by omega) (Or.inl rfl) (tk_EO t0 (fun a h => hun 12 (by decide) _ _ t0 h) (by decide)) (by decide) dX12_sentence_29 (fun H locs hW hS => ?_)
  obtain ⟨C29, c29⟩ : ∃ f, f = tk_upd C24 12 (47) z28 := ⟨_, rfl⟩
  rw [← c29] at hW
  refine lv_aload_n hx hb dX12_sentence_32 rfl (lv_at hl 0 rfl) ?_
  refine hr_ic hx hb dX12_sentence_33 (by decide) (fun z33 hz33 => ?_)
  refine hr_putN B hF hb hU hW hS (ci := 12) (j := 48) (cd := 0) t0 rfl (isF (by decide +kernel)) rfl (ck_lo _) (ck_hi _) (Or.inl rfl) (hr_EO (tk_X1 (C := C29)) t0 (by decide)) (by decide) dX12_sentence_34 (fun H locs hW hS => ?_)
  refine lv_aload_n hx hb dX12_sentence_37 rfl (lv_at hl 0 rfl) ?_
  refine hr_ic hx hb dX12_sentence_38 (by decide) (fun z38 hz38 => ?_)
  refine hr_putN B hF hb hU hW hS (ci := 12) (j := 49) (cd := 1) t0 rfl (isF (by decide +kernel)) rfl (by omega) (by omega) (Or.inr ⟨rfl, by omega, by omega⟩) (tk_EO t0 (fun a h => hun 12 (by decide) _ _ t0 h) (by decide)) (by decide) dX12_sentence_39 (fun H locs hW hS => ?_)
  obtain ⟨C39, c39⟩ : ∃ f, f = tk_upd C29 12 (49) z38 := ⟨_, rfl⟩
  rw [← c39] at hW
  have k1 : (C39 12 45).toInt = 0 := by rw [c39, tk_unj (by decide), c29, tk_unj (by decide), c24, tk_unj (by decide), c19, tk_us]; omega
  have k2 : (C39 12 46).toInt = 0 := by rw [c39, tk_unj (by decide), c29, tk_unj (by decide), c24, tk_us]; omega
  have k3 : (C39 12 47).toInt = 0 := by rw [c39, tk_unj (by decide), c29, tk_us]; omega
  have k4 : (C39 12 49).toInt = 0 := by rw [c39, tk_us]; omega
  have sI : SI C39 := by
    refine ⟨by omega, by omega, by omega, by omega, by omega, by omega, fun i hi => absurd (show (i : Int) < (C39 12 45).toInt from hi) (by omega), ?_⟩
    rw [k1, k3, k4]; rfl
  have hfr : sfr C C39 := fun t j h1 h2 h3 => by rw [c39, tk_un (fun q => h3 ⟨q.1, Or.inr (Or.inr (Or.inr q.2))⟩), c29, tk_un (fun q => h3 ⟨q.1, Or.inr (Or.inr (Or.inl q.2))⟩), c24, tk_un (fun q => h3 ⟨q.1, Or.inr (Or.inl q.2)⟩), c19, tk_un (fun q => h3 ⟨q.1, Or.inl q.2⟩)]
  refine lv_aload_n hx hb dX12_sentence_42 rfl (lv_at hl 0 rfl) ?_
  refine cm_callV (kc := kc_209) B rfl hb hl (hM.1 _ _ 0 [209] (isM (by decide +kernel)) 209 (by decide)) (hH1 _ tk_X1 209 (by decide)) (b := a0) (As := []) ⟨hr_aR t0, True.intro⟩ hp hW hS rfl (by decide) (by decide) (Nat.le_of_ble_eq_true rfl) dX12_sentence_43 (fun cs hcs r pvv43 H locs hca hW hS => ?_)
  rcases List.mem_cons.mp hcs with rfl | hcs
  · obtain ⟨hr, hq, hc⟩ := hca
    obtain rfl := hr_rv0 hr
    have hp := hr_std hp hc (by decide +kernel)
    have e43w11 := congrArg Int32.toInt (hr_same1 hc (j := 11) (by decide +kernel))
    have e43r14 := hr_pv hc 14 (lo := 0) (hi := 0) rfl
    have sm : ∀ j, j < 32 → j ∉ [11, 12, 13, 14, 24, 31] → pvv43 j = pvv0 j := fun j h1 h2 => (hr_sameX (l := [11, 12, 13, 14, 24, 31]) hc (by decide +kernel) j h1 h2).trans (sm j h1 h2)
    have len : (pvv43 11).toInt = 0 := by omega
    refine hr_ic hx hb dX12_sentence_46 (by decide) (fun z46 hz46 => ?_)
    refine lv_istore_n hx hb dX12_sentence_47 rfl hl (lv' := [(1, .int z46), (0, .ref a0)]) (by decide) rfl (fun ls hl => ?_)
    exact l48 2100 z46 pvv43 C39 _ _ _ (by omega) (by omega) (by omega) sm len sI hfr hp (lv_sub hl [0, 1] rfl) hW hS
  rcases List.mem_cons.mp hcs with rfl | hcs
  · obtain ⟨hr, hq, hc⟩ := hca
    obtain rfl := hr_rv0 hr
    have hp := hr_std hp hc (by decide +kernel)
    have e43w11 := congrArg Int32.toInt (hr_same1 hc (j := 11) (by decide +kernel))
    have e43r14 := hr_pv hc 14 (lo := 4) (hi := 4) rfl
    have sm : ∀ j, j < 32 → j ∉ [11, 12, 13, 14, 24, 31] → pvv43 j = pvv0 j := fun j h1 h2 => (hr_sameX (l := [11, 12, 13, 14, 24, 31]) hc (by decide +kernel) j h1 h2).trans (sm j h1 h2)
    have len : (pvv43 11).toInt = 0 := by omega
    refine hr_ic hx hb dX12_sentence_46 (by decide) (fun z46 hz46 => ?_)
    refine lv_istore_n hx hb dX12_sentence_47 rfl hl (lv' := [(1, .int z46), (0, .ref a0)]) (by decide) rfl (fun ls hl => ?_)
    exact l48 2100 z46 pvv43 C39 _ _ _ (by omega) (by omega) (by omega) sm len sI hfr hp (lv_sub hl [0, 1] rfl) hW hS
  rcases List.mem_cons.mp hcs with rfl | hcs
  · obtain ⟨hr, hq, hc⟩ := hca
    obtain rfl := hr_rv0 hr
    have hp := hr_std hp hc (by decide +kernel)
    have e43w11 := congrArg Int32.toInt (hr_same1 hc (j := 11) (by decide +kernel))
    have e43r14 := hr_pv hc 14 (lo := 3) (hi := 3) rfl
    have sm : ∀ j, j < 32 → j ∉ [11, 12, 13, 14, 24, 31] → pvv43 j = pvv0 j := fun j h1 h2 => (hr_sameX (l := [11, 12, 13, 14, 24, 31]) hc (by decide +kernel) j h1 h2).trans (sm j h1 h2)
    have len : (pvv43 11).toInt = 0 := by omega
    refine hr_ic hx hb dX12_sentence_46 (by decide) (fun z46 hz46 => ?_)
    refine lv_istore_n hx hb dX12_sentence_47 rfl hl (lv' := [(1, .int z46), (0, .ref a0)]) (by decide) rfl (fun ls hl => ?_)
    exact l48 2100 z46 pvv43 C39 _ _ _ (by omega) (by omega) (by omega) sm len sI hfr hp (lv_sub hl [0, 1] rfl) hW hS
  obtain rfl := List.mem_singleton.mp hcs
  obtain ⟨hr, hq, hc⟩ := hca
  obtain rfl := hr_rv0 hr
  have hp := hr_std hp hc (by decide +kernel)
  have e43w11 := congrArg Int32.toInt (hr_same1 hc (j := 11) (by decide +kernel))
  have e43r14 := hr_pv hc 14 (lo := 1) (hi := 2) rfl
  have sm : ∀ j, j < 32 → j ∉ [11, 12, 13, 14, 24, 31] → pvv43 j = pvv0 j := fun j h1 h2 => (hr_sameX (l := [11, 12, 13, 14, 24, 31]) hc (by decide +kernel) j h1 h2).trans (sm j h1 h2)
  have len : (pvv43 11).toInt = 0 := by omega
  refine hr_ic hx hb dX12_sentence_46 (by decide) (fun z46 hz46 => ?_)
  refine lv_istore_n hx hb dX12_sentence_47 rfl hl (lv' := [(1, .int z46), (0, .ref a0)]) (by decide) rfl (fun ls hl => ?_)
  exact l48 2100 z46 pvv43 C39 _ _ _ (by omega) (by omega) (by omega) sm len sI hfr hp (lv_sub hl [0, 1] rfl) hW hS
end H33
