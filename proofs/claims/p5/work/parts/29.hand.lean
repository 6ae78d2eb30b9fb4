/-! BY HAND, 11: play. -/
section H29
variable {l : Launch} {D : va_G} {cys : Nat → ClassId} {ty : Nat → Option Nat}
theorem dX12_play_0 : decode cX12_play 0 = .ok (.aload_n 0, 1) := by decide +kernel
theorem dX12_play_1 : decode cX12_play 1 = .ok (.iconst 0, 1) := by decide +kernel
theorem dX12_play_2 : decode cX12_play 2 = .ok (.putfield 1, 3) := by decide +kernel
theorem dX12_play_5 : decode cX12_play 5 = .ok (.aload_n 0, 1) := by decide +kernel
theorem dX12_play_6 : decode cX12_play 6 = .ok (.sipush 900, 3) := by decide +kernel
theorem dX12_play_9 : decode cX12_play 9 = .ok (.invokevirtual 242, 3) := by decide +kernel
theorem dX12_play_12 : decode cX12_play 12 = .ok (.aload_n 0, 1) := by decide +kernel
theorem dX12_play_13 : decode cX12_play 13 = .ok (.iconst 0, 1) := by decide +kernel
theorem dX12_play_14 : decode cX12_play 14 = .ok (.putfield 183, 3) := by decide +kernel
theorem dX12_play_17 : decode cX12_play 17 = .ok (.aload_n 0, 1) := by decide +kernel
theorem dX12_play_18 : decode cX12_play 18 = .ok (.iconst 0, 1) := by decide +kernel
theorem dX12_play_19 : decode cX12_play 19 = .ok (.putfield 245, 3) := by decide +kernel
theorem dX12_play_22 : decode cX12_play 22 = .ok (.iconst 0, 1) := by decide +kernel
theorem dX12_play_23 : decode cX12_play 23 = .ok (.istore_n 1, 1) := by decide +kernel
theorem dX12_play_24 : decode cX12_play 24 = .ok (.iload_n 1, 1) := by decide +kernel
theorem dX12_play_25 : decode cX12_play 25 = .ok (.sipush 140, 3) := by decide +kernel
theorem dX12_play_28 : decode cX12_play 28 = .ok (.if_icmp .ge 16, 3) := by decide +kernel
theorem dX12_play_31 : decode cX12_play 31 = .ok (.aload_n 0, 1) := by decide +kernel
theorem dX12_play_32 : decode cX12_play 32 = .ok (.getfield 37, 3) := by decide +kernel
theorem dX12_play_35 : decode cX12_play 35 = .ok (.iload_n 1, 1) := by decide +kernel
theorem dX12_play_36 : decode cX12_play 36 = .ok (.iconst 0, 1) := by decide +kernel
theorem dX12_play_37 : decode cX12_play 37 = .ok (.iastore, 1) := by decide +kernel
theorem dX12_play_38 : decode cX12_play 38 = .ok (.iinc 1 1, 3) := by decide +kernel
theorem dX12_play_41 : decode cX12_play 41 = .ok (.goto (-17), 3) := by decide +kernel
theorem dX12_play_44 : decode cX12_play 44 = .ok (.aload_n 0, 1) := by decide +kernel
theorem dX12_play_45 : decode cX12_play 45 = .ok (.invokevirtual 195, 3) := by decide +kernel
theorem dX12_play_48 : decode cX12_play 48 = .ok (.aload_n 0, 1) := by decide +kernel
theorem dX12_play_49 : decode cX12_play 49 = .ok (.getfield 166, 3) := by decide +kernel
theorem dX12_play_52 : decode cX12_play 52 = .ok (.ifCond .eq 39, 3) := by decide +kernel
theorem dX12_play_55 : decode cX12_play 55 = .ok (.aload_n 0, 1) := by decide +kernel
theorem dX12_play_56 : decode cX12_play 56 = .ok (.invokevirtual 248, 3) := by decide +kernel
theorem dX12_play_59 : decode cX12_play 59 = .ok (.ifCond .eq 12, 3) := by decide +kernel
theorem dX12_play_62 : decode cX12_play 62 = .ok (.aload_n 0, 1) := by decide +kernel
theorem dX12_play_63 : decode cX12_play 63 = .ok (.bipush 59, 2) := by decide +kernel
theorem dX12_play_65 : decode cX12_play 65 = .ok (.invokevirtual 251, 3) := by decide +kernel
theorem dX12_play_68 : decode cX12_play 68 = .ok (.ifCond .ne 10, 3) := by decide +kernel
theorem dX12_play_71 : decode cX12_play 71 = .ok (.iconst (-1), 1) := by decide +kernel
theorem dX12_play_72 : decode cX12_play 72 = .ok (.aload_n 0, 1) := by decide +kernel
theorem dX12_play_73 : decode cX12_play 73 = .ok (.getfield 186, 3) := by decide +kernel
theorem dX12_play_76 : decode cX12_play 76 = .ok (.isub, 1) := by decide +kernel
theorem dX12_play_77 : decode cX12_play 77 = .ok (.ireturn, 1) := by decide +kernel
theorem dX12_play_78 : decode cX12_play 78 = .ok (.aload_n 0, 1) := by decide +kernel
theorem dX12_play_79 : decode cX12_play 79 = .ok (.dup, 1) := by decide +kernel
theorem dX12_play_80 : decode cX12_play 80 = .ok (.getfield 245, 3) := by decide +kernel
theorem dX12_play_83 : decode cX12_play 83 = .ok (.iconst 1, 1) := by decide +kernel
theorem dX12_play_84 : decode cX12_play 84 = .ok (.iadd, 1) := by decide +kernel
theorem dX12_play_85 : decode cX12_play 85 = .ok (.putfield 245, 3) := by decide +kernel
theorem dX12_play_88 : decode cX12_play 88 = .ok (.goto (-40), 3) := by decide +kernel
theorem dX12_play_91 : decode cX12_play 91 = .ok (.iconst 0, 1) := by decide +kernel
theorem dX12_play_92 : decode cX12_play 92 = .ok (.istore_n 1, 1) := by decide +kernel
theorem dX12_play_93 : decode cX12_play 93 = .ok (.iload_n 1, 1) := by decide +kernel
theorem dX12_play_94 : decode cX12_play 94 = .ok (.sipush 367, 3) := by decide +kernel
theorem dX12_play_97 : decode cX12_play 97 = .ok (.if_icmp .ge 32, 3) := by decide +kernel
theorem dX12_play_100 : decode cX12_play 100 = .ok (.aload_n 0, 1) := by decide +kernel
theorem dX12_play_101 : decode cX12_play 101 = .ok (.getfield 33, 3) := by decide +kernel
theorem dX12_play_104 : decode cX12_play 104 = .ok (.iload_n 1, 1) := by decide +kernel
theorem dX12_play_105 : decode cX12_play 105 = .ok (.iload_n 1, 1) := by decide +kernel
theorem dX12_play_106 : decode cX12_play 106 = .ok (.sipush 140, 3) := by decide +kernel
theorem dX12_play_109 : decode cX12_play 109 = .ok (.if_icmp .ge 12, 3) := by decide +kernel
theorem dX12_play_112 : decode cX12_play 112 = .ok (.aload_n 0, 1) := by decide +kernel
theorem dX12_play_113 : decode cX12_play 113 = .ok (.getfield 37, 3) := by decide +kernel
theorem dX12_play_116 : decode cX12_play 116 = .ok (.iload_n 1, 1) := by decide +kernel
theorem dX12_play_117 : decode cX12_play 117 = .ok (.iaload, 1) := by decide +kernel
theorem dX12_play_118 : decode cX12_play 118 = .ok (.goto 4, 3) := by decide +kernel
theorem dX12_play_121 : decode cX12_play 121 = .ok (.iconst 0, 1) := by decide +kernel
theorem dX12_play_122 : decode cX12_play 122 = .ok (.iastore, 1) := by decide +kernel
theorem dX12_play_123 : decode cX12_play 123 = .ok (.iinc 1 1, 3) := by decide +kernel
theorem dX12_play_126 : decode cX12_play 126 = .ok (.goto (-33), 3) := by decide +kernel
theorem dX12_play_129 : decode cX12_play 129 = .ok (.iconst 0, 1) := by decide +kernel
theorem dX12_play_130 : decode cX12_play 130 = .ok (.istore_n 1, 1) := by decide +kernel
theorem dX12_play_131 : decode cX12_play 131 = .ok (.iload_n 1, 1) := by decide +kernel
theorem dX12_play_132 : decode cX12_play 132 = .ok (.bipush 20, 2) := by decide +kernel
theorem dX12_play_134 : decode cX12_play 134 = .ok (.if_icmp .ge 24, 3) := by decide +kernel
theorem dX12_play_137 : decode cX12_play 137 = .ok (.aload_n 0, 1) := by decide +kernel
theorem dX12_play_138 : decode cX12_play 138 = .ok (.getfield 43, 3) := by decide +kernel
theorem dX12_play_141 : decode cX12_play 141 = .ok (.iload_n 1, 1) := by decide +kernel
theorem dX12_play_142 : decode cX12_play 142 = .ok (.aload_n 0, 1) := by decide +kernel
theorem dX12_play_143 : decode cX12_play 143 = .ok (.getfield 43, 3) := by decide +kernel
theorem dX12_play_146 : decode cX12_play 146 = .ok (.bipush 20, 2) := by decide +kernel
theorem dX12_play_148 : decode cX12_play 148 = .ok (.iload_n 1, 1) := by decide +kernel
theorem dX12_play_149 : decode cX12_play 149 = .ok (.iadd, 1) := by decide +kernel
theorem dX12_play_150 : decode cX12_play 150 = .ok (.laload, 1) := by decide +kernel
theorem dX12_play_151 : decode cX12_play 151 = .ok (.lastore, 1) := by decide +kernel
theorem dX12_play_152 : decode cX12_play 152 = .ok (.iinc 1 1, 3) := by decide +kernel
theorem dX12_play_155 : decode cX12_play 155 = .ok (.goto (-24), 3) := by decide +kernel
theorem dX12_play_158 : decode cX12_play 158 = .ok (.aload_n 0, 1) := by decide +kernel
theorem dX12_play_159 : decode cX12_play 159 = .ok (.iconst 0, 1) := by decide +kernel
theorem dX12_play_160 : decode cX12_play 160 = .ok (.putfield 254, 3) := by decide +kernel
theorem dX12_play_163 : decode cX12_play 163 = .ok (.aload_n 0, 1) := by decide +kernel
theorem dX12_play_164 : decode cX12_play 164 = .ok (.getfield 245, 3) := by decide +kernel
theorem dX12_play_167 : decode cX12_play 167 = .ok (.ireturn, 1) := by decide +kernel
set_option maxRecDepth 100000 in
set_option maxHeartbeats 4000000 in
theorem hk_12_play (hF : ck_LKf ck_LK) (hM : ck_LKm ck_tags ck_LK ck_tab) (hU : ck_uq ty ck_pvs0) (hun : ck_un ty) (hH1 : ∀ Ex', ck_ExP ty ck_prot1 Ex' → ∀ j, j < 331 → ck_Holds l D cys ty ck_tags ck_pvs0 Ex' (ck_tab j)) {K : Nat → Nat → Int32} : ck_Holds l D cys ty ck_tags ck_pvs0 (GX ty ck_protR gx_r K) kh_12_play := by
  refine cm_enter (by decide +kernel) (by decide +kernel) (by decide +kernel) ?_
  intro vs pvv0 p e s m below meth c ls ha hp B hl hW
  have hx := B.1
  have hb : c.code = cX12_play := B.2.1
  have hI := pv_inj
  have hS : va_S (ck_own ty) s.heap s.heap [] := va_S.rf
  obtain ⟨C, hG, hK0, hW⟩ := gx_out hW
  obtain ⟨_, rfl, ⟨a0, rfl, t0⟩⟩ := cm_a1 ha
  have hl : lv_has ls 2 [(0, .ref a0)] := hl
  have hp0 := hp
  have hG0 := hG
  obtain ⟨G5, G1, G2, G3, G4⟩ := hG
  obtain ⟨bs, ts⟩ := hr_fld hW t0 rfl (j := 6) (t' := 34) rfl
  have part2 : ∀ i0 : Int32, ∀ (pvv1 : Nat → Int32) (ls : Array Slot) (H : Heap) (locs : List Loc), ck_pvo ty (ck_XE pvv1) pPM pvv1 → (∀ j, j < 32 → j ∉ [11, 12, 13, 14, 24, 19, 20, 21, 22, 23, 31] → pvv1 j = pvv0 j) → (pvv1 11).toInt = 0 → lv_has ls 2 [(1, .int i0), (0, .ref a0)] → ck_Wo D cys ty ck_tags ck_pvs0 (tk ty ck_protR C) pvv1 H → va_S (ck_own ty) s.heap H locs → W p l e (ck_rm kh_12_play) s m [Value.ref a0].toArray below meth c H locs 0 0 (MQ below (ck_Qc D cys ty ck_tags ck_pvs0 (GX ty ck_protR gx_r K) kh_12_play [Value.ref a0] pvv0) [Value.ref a0].toArray s 0 0 (ck_own ty)) (F0 m 91 ls []) := by
    intro i0 pvv1 ls H locs hp1 sm1 len1 hl hW hS
    have l131 : ∀ (n131 : Nat) (i : Int32) (pvv : Nat → Int32) (C2 : Nat → Nat → Int32) (ls : Array Slot) (H : Heap) (locs : List Loc), 20 - i.toInt < n131 → (0 ≤ i.toInt) → (i.toInt ≤ 20) → (∀ t j, t ≠ 34 → C2 t j = C t j) → (186 < (367 : Int) → (C2 34 186).toInt = 0) → (∀ j, j ≠ 16 → j ≠ 17 → pvv j = pvv1 j) → (140 < (367 : Int) → (pvv 16).toInt = 0) → lv_has ls 2 [(1, .int i), (0, .ref a0)] → ck_Wo D cys ty ck_tags ck_pvs0 (tk ty ck_protR C2) pvv H → va_S (ck_own ty) s.heap H locs → W p l e (ck_rm kh_12_play) s m [Value.ref a0].toArray below meth c H locs 0 0 (MQ below (ck_Qc D cys ty ck_tags ck_pvs0 (GX ty ck_protR gx_r K) kh_12_play [Value.ref a0] pvv0) [Value.ref a0].toArray s 0 0 (ck_own ty)) (F0 m 131 ls []) := by
      intro n131
      induction n131 with
      | zero => intro i pvv C2 ls H locs hm131 i1 i2 hC h186 hq h140 hl hW hS; omega
      | succ n131 ih131 =>
        intro i pvv C2 ls H locs hm131 i1 i2 hC h186 hq h140 hl hW hS
        refine lv_iload_n hx hb dX12_play_131 rfl (lv_at hl 0 rfl) ?_
        refine hr_bp hx hb dX12_play_132 (by decide) (by decide) (fun z132 hz132 => ?_)
        refine hr_ge (tgt := 158) hx hb dX12_play_134 (by decide) (fun h134 => ?_) (fun h134 => ?_)
        · refine lv_aload_n hx hb dX12_play_158 rfl (lv_at hl 1 rfl) ?_
          refine hr_ic hx hb dX12_play_159 (by decide) (fun z159 hz159 => ?_)
          refine hr_putP B hF hb hU hW hS (ci := 12) (j := 22) (cd := 0) t0 rfl (isF (by decide +kernel)) rfl (by omega) (by omega) (Or.inl rfl) (tk_EO t0 (fun a h => hun 12 (by decide) _ _ t0 h) (by decide)) hI (q0 := 15) rfl dX12_play_160 (fun H locs hW hS => ?_)
          obtain ⟨pvv160, e160⟩ : ∃ f, f = upd pvv 15 z159 := ⟨_, rfl⟩
          rw [← e160] at hW
          have e160q : pvv160 15 = z159 := by rw [e160, pk_us]
          have e160qi := congrArg Int32.toInt e160q
          have e160w11 : (pvv160 11).toInt = (pvv 11).toInt := by rw [e160, pk_un (by decide)]
          have e160w13 : (pvv160 13).toInt = (pvv 13).toInt := by rw [e160, pk_un (by decide)]
          have e160w14 : (pvv160 14).toInt = (pvv 14).toInt := by rw [e160, pk_un (by decide)]
          obtain ⟨C160, c160⟩ : ∃ f, f = tk_upd C2 12 (22) z159 := ⟨_, rfl⟩
          rw [← c160] at hW
          refine lv_aload_n hx hb dX12_play_163 rfl (lv_at hl 1 rfl) ?_
          refine hr_getI B hF hb hW (ci := 12) (j := 19) (cd := 0) t0 rfl (isF (by decide +kernel)) rfl dX12_play_164 (fun z164 lz164 uz164 pz164 xz164 => ?_)
          have hGn : g0C C160 := by
            have hCC : ∀ t j, t ≠ 34 → t ≠ 12 → C160 t j = C t j := fun t j h1 h2 => by rw [c160, tk_unt h2]; exact hC t j h1
            refine ⟨g50_of G5 (fun j => hCC 15 j (by decide) (by decide)) (fun j => hCC 49 j (by decide) (by decide)) (fun j => hCC 16 j (by decide) (by decide)) (fun j => hCC 50 j (by decide) (by decide)), fun k hk => ?_, fun j hj => ?_, fun k hk hk2 => ?_, fun i9 hi9 => ?_⟩
            · rw [hCC 0 0 (by decide) (by decide)] at hk
              rw [hCC 29 k (by decide) (by decide), hCC 30 k (by decide) (by decide), hCC 31 k (by decide) (by decide)]
              exact G1 k hk
            · rw [show C160 12 22 = z159 by rw [c160, tk_us]] at hj; omega
            · rw [hCC 46 k (by decide) (by decide)] at hk2
              rw [hCC 45 _ (by decide) (by decide), hCC 45 _ (by decide) (by decide)]
              refine ⟨(G3 k hk hk2).1, ?_⟩
              have e9 : (fun i => C160 45 (367 * k + 186 + i)) = (fun i => C 45 (367 * k + 186 + i)) := funext (fun i => hCC 45 _ (by decide) (by decide))
              rw [e9]; exact (G3 k hk hk2).2
            · have hi9 : (i9 : Int) < (C160 34 186).toInt := hi9
              rw [c160, tk_unt (by decide), h186 (by omega)] at hi9
              omega
          have hKn : ∀ t, gx_r t = true → ∀ j, C160 t j = K t j := fun t ht j => by
            have hCC : ∀ t j, t ≠ 34 → t ≠ 12 → C160 t j = C t j := fun t j h1 h2 => by rw [c160, tk_unt h2]; exact hC t j h1
            exact (hCC t j (gx_ne ht (by decide)) (gx_ne ht (by decide))).trans (hK0 t ht j)
          have s17 := hr_pvA hW ts rfl (q := 17) (k := 3) (lo := 0) (hi := 6) rfl (by decide) (by decide +kernel)
          have u16 : (pvv160 16).toInt = 0 := by rw [e160, pk_un (by decide)]; exact h140 (by omega)
          have u11 : pvv160 11 = pvv1 11 := by rw [e160, pk_un (by decide)]; exact hq 11 (by decide) (by decide)
          have r11 := hr_pv hp1 11 (lo := 0) (hi := 940) rfl; rw [← u11] at r11
          have u12 : pvv160 12 = pvv1 12 := by rw [e160, pk_un (by decide)]; exact hq 12 (by decide) (by decide)
          have r12 := hr_pv hp1 12 (lo := 0) (hi := 940) rfl; rw [← u12] at r12
          have u13 : pvv160 13 = pvv1 13 := by rw [e160, pk_un (by decide)]; exact hq 13 (by decide) (by decide)
          have r13 := hr_pv hp1 13 (lo := 0) (hi := 940) rfl; rw [← u13] at r13
          have u14 : pvv160 14 = pvv1 14 := by rw [e160, pk_un (by decide)]; exact hq 14 (by decide) (by decide)
          have r14 := hr_pv hp1 14 (lo := 0) (hi := 4) rfl; rw [← u14] at r14
          have u24 : pvv160 24 = pvv1 24 := by rw [e160, pk_un (by decide)]; exact hq 24 (by decide) (by decide)
          have u19 : pvv160 19 = pvv1 19 := by rw [e160, pk_un (by decide)]; exact hq 19 (by decide) (by decide)
          have r19 := hr_pv hp1 19 (lo := 0) (hi := 6) rfl; rw [← u19] at r19
          have u20 : pvv160 20 = pvv1 20 := by rw [e160, pk_un (by decide)]; exact hq 20 (by decide) (by decide)
          have r20 := hr_pv hp1 20 (lo := 0) (hi := 6) rfl; rw [← u20] at r20
          have u21 : pvv160 21 = pvv1 21 := by rw [e160, pk_un (by decide)]; exact hq 21 (by decide) (by decide)
          have r21 := hr_pv hp1 21 (lo := 0) (hi := 8) rfl; rw [← u21] at r21
          have u22 : pvv160 22 = pvv1 22 := by rw [e160, pk_un (by decide)]; exact hq 22 (by decide) (by decide)
          have r22 := hr_pv hp1 22 (lo := 0) (hi := 6) rfl; rw [← u22] at r22
          have u23 : pvv160 23 = pvv1 23 := by rw [e160, pk_un (by decide)]; exact hq 23 (by decide) (by decide)
          have r23 := hr_pv hp1 23 (lo := 0) (hi := 12) rfl; rw [← u23] at r23
          have u31 : pvv160 31 = pvv1 31 := by rw [e160, pk_un (by decide)]; exact hq 31 (by decide) (by decide)
          have r31 := hr_pv hp1 31 (lo := 0) (hi := 4) rfl; rw [← u31] at r31
          have len := len1; rw [← u11] at len
          refine cm_iret B hb rfl ⟨_, List.mem_cons_of_mem _ List.mem_cons_self, hr_aF (ty := ty), (fun q h => nomatch h), ?_⟩ (gx_in hW hGn hKn) hS dX12_play_167
          refine hr_mk (n := 32) [11, 12, 13, 14, 24, 19, 20, 21, 22, 23, 31, 15, 16, 17] hp0 (fun j h1 h2 => by rw [e160, pk_un (fun q => h2 (by rw [q]; decide)), hq j (fun q => h2 (by rw [q]; decide)) (fun q => h2 (by rw [q]; decide))]; exact sm1 j h1 (fun q => h2 (by simp only [List.mem_cons, List.not_mem_nil, or_false] at q ⊢; omega))) (by decide +kernel) (fun j hj av hav => ?_)
          rcases List.mem_cons.mp hj with rfl | hj
          · have hav : some (.inl (0, 0, []) : ck_AV) = some av := hav
            cases hav
            exact hr_aI (by omega) (by omega)
          rcases List.mem_cons.mp hj with rfl | hj
          · have hav : some (.inl (0, 940, []) : ck_AV) = some av := hav
            cases hav
            exact hr_aI (by omega) (by omega)
          rcases List.mem_cons.mp hj with rfl | hj
          · have hav : some (.inl (0, 940, []) : ck_AV) = some av := hav
            cases hav
            exact hr_aI (by omega) (by omega)
          rcases List.mem_cons.mp hj with rfl | hj
          · have hav : some (.inl (0, 4, []) : ck_AV) = some av := hav
            cases hav
            exact hr_aI (by omega) (by omega)
          rcases List.mem_cons.mp hj with rfl | hj
          · have hav : some (.inl (-2147483648, 2147483647, []) : ck_AV) = some av := hav
            cases hav
            exact hr_aF
          rcases List.mem_cons.mp hj with rfl | hj
          · have hav : some (.inl (0, 6, []) : ck_AV) = some av := hav
            cases hav
            exact hr_aI (by omega) (by omega)
          rcases List.mem_cons.mp hj with rfl | hj
          · have hav : some (.inl (0, 6, []) : ck_AV) = some av := hav
            cases hav
            exact hr_aI (by omega) (by omega)
          rcases List.mem_cons.mp hj with rfl | hj
          · have hav : some (.inl (0, 8, []) : ck_AV) = some av := hav
            cases hav
            exact hr_aI (by omega) (by omega)
          rcases List.mem_cons.mp hj with rfl | hj
          · have hav : some (.inl (0, 6, []) : ck_AV) = some av := hav
            cases hav
            exact hr_aI (by omega) (by omega)
          rcases List.mem_cons.mp hj with rfl | hj
          · have hav : some (.inl (0, 12, []) : ck_AV) = some av := hav
            cases hav
            exact hr_aI (by omega) (by omega)
          rcases List.mem_cons.mp hj with rfl | hj
          · have hav : some (.inl (0, 4, []) : ck_AV) = some av := hav
            cases hav
            exact hr_aI (by omega) (by omega)
          rcases List.mem_cons.mp hj with rfl | hj
          · have hav : some (.inl (0, 0, []) : ck_AV) = some av := hav
            cases hav
            exact hr_aI (by omega) (by omega)
          rcases List.mem_cons.mp hj with rfl | hj
          · have hav : some (.inl (0, 0, []) : ck_AV) = some av := hav
            cases hav
            exact hr_aI (by omega) (by omega)
          obtain rfl := List.mem_singleton.mp hj
          have hav : some (.inl (0, 6, []) : ck_AV) = some av := hav
          cases hav
          exact hr_aI (by omega) (by omega)
        · refine lv_aload_n hx hb dX12_play_137 rfl (lv_at hl 1 rfl) ?_
          refine hr_getR B hF hb hW (ci := 12) (j := 9) (cd := 3) t0 rfl (isF (by decide +kernel)) rfl dX12_play_138 (fun az138 tz138 xz138 => ?_)
          refine lv_iload_n hx hb dX12_play_141 rfl (lv_at hl 0 rfl) ?_
          refine lv_aload_n hx hb dX12_play_142 rfl (lv_at hl 1 rfl) ?_
          refine hr_getR B hF hb hW (ci := 12) (j := 9) (cd := 3) t0 rfl (isF (by decide +kernel)) rfl dX12_play_143 (fun az143 tz143 xz143 => ?_)
          refine hr_bp hx hb dX12_play_146 (by decide) (by decide) (fun z146 hz146 => ?_)
          refine lv_iload_n hx hb dX12_play_148 rfl (lv_at hl 0 rfl) ?_
          refine hr_add hx hb dX12_play_149 (by omega) (by omega) (fun z149 hz149 => ?_)
          refine ck_lald B.1 hb B.2.2.2.2.2.2.2.1 hW tz143 rfl (by omega) (by omega) dX12_play_150 (fun z150 => ?_)
          refine ck_last B.1 hb B.2.2.2.2.2.2.2.1 (prot := ck_protR) (tk_YR (C := C2)) hW hS (ck_nfa_ok (by decide)) tz138 rfl (by omega) (by omega) (fun j hj => absurd hj (pr_e rfl)) dX12_play_151 (fun H locs hW hS => ?_)
          refine hr_inc hx hb dX12_play_152 hl (kq := 0) (lv' := fun v => [(1, .int v), (0, .ref a0)]) rfl (by decide) (by decide) (by omega) (by omega) (fun _ => rfl) (fun z152 ls hz152 hl => ?_)
          refine lv_goto (tgt := 131) hx hb dX12_play_155 (by decide) ?_
          exact ih131 z152 pvv C2 _ _ _ (by omega) (by omega) (by omega) hC h186 hq h140 hl hW hS
    have l93 : ∀ (n93 : Nat) (i : Int32) (pvv : Nat → Int32) (C2 : Nat → Nat → Int32) (ls : Array Slot) (H : Heap) (locs : List Loc), 367 - i.toInt < n93 → (0 ≤ i.toInt) → (i.toInt ≤ 367) → (∀ t j, t ≠ 34 → C2 t j = C t j) → (186 < i.toInt → (C2 34 186).toInt = 0) → (∀ j, j ≠ 16 → j ≠ 17 → pvv j = pvv1 j) → (140 < i.toInt → (pvv 16).toInt = 0) → lv_has ls 2 [(1, .int i), (0, .ref a0)] → ck_Wo D cys ty ck_tags ck_pvs0 (tk ty ck_protR C2) pvv H → va_S (ck_own ty) s.heap H locs → W p l e (ck_rm kh_12_play) s m [Value.ref a0].toArray below meth c H locs 0 0 (MQ below (ck_Qc D cys ty ck_tags ck_pvs0 (GX ty ck_protR gx_r K) kh_12_play [Value.ref a0] pvv0) [Value.ref a0].toArray s 0 0 (ck_own ty)) (F0 m 93 ls []) := by
      intro n93
      induction n93 with
      | zero => intro i pvv C2 ls H locs hm93 i1 i2 hC h186 hq h140 hl hW hS; omega
      | succ n93 ih93 =>
        intro i pvv C2 ls H locs hm93 i1 i2 hC h186 hq h140 hl hW hS
        refine lv_iload_n hx hb dX12_play_93 rfl (lv_at hl 0 rfl) ?_
        refine hr_sp hx hb dX12_play_94 (by decide) (by decide) (fun z94 hz94 => ?_)
        refine hr_ge (tgt := 129) hx hb dX12_play_97 (by decide) (fun h97 => ?_) (fun h97 => ?_)
        · refine hr_ic hx hb dX12_play_129 (by decide) (fun z129 hz129 => ?_)
          refine lv_istore_n hx hb dX12_play_130 rfl hl (lv' := [(1, .int z129), (0, .ref a0)]) (by decide) rfl (fun ls hl => ?_)
          have h186 : 186 < (367 : Int) → (C2 34 186).toInt = 0 := fun _ => h186 (by omega)
          have h140 : 140 < (367 : Int) → (pvv 16).toInt = 0 := fun _ => h140 (by omega)
          exact l131 21 z129 pvv C2 _ _ _ (by omega) (by omega) (by omega) hC h186 hq h140 hl hW hS
        · refine lv_aload_n hx hb dX12_play_100 rfl (lv_at hl 1 rfl) ?_
          refine hr_getR B hF hb hW (ci := 12) (j := 6) (cd := 3) t0 rfl (isF (by decide +kernel)) rfl dX12_play_101 (fun az101 tz101 xz101 => ?_)
          refine lv_iload_n hx hb dX12_play_104 rfl (lv_at hl 0 rfl) ?_
          refine lv_iload_n hx hb dX12_play_105 rfl (lv_at hl 0 rfl) ?_
          refine hr_sp hx hb dX12_play_106 (by decide) (by decide) (fun z106 hz106 => ?_)
          refine hr_ge (tgt := 121) hx hb dX12_play_109 (by decide) (fun h109 => ?_) (fun h109 => ?_)
          · refine hr_ic hx hb dX12_play_121 (by decide) (fun z121 hz121 => ?_)
            have g9 := sg_S0 i.toInt.toNat (by omega)
            refine hr_iastG (Ex' := tk ty ck_protR (tk_upd C2 34 (i.toInt.toNat) z121)) B hb hU hW hS tz101 rfl (by omega) (by omega) ⟨by omega, by omega⟩ (tk_EA tz101 (fun a h => hun 34 (by decide) _ _ tz101 h)) dX12_play_122 (fun H locs pvv' hW hS w1 w2 => ?_)
            obtain ⟨C122, c122⟩ : ∃ f, f = tk_upd C2 34 (i.toInt.toNat) z121 := ⟨_, rfl⟩
            rw [← c122] at hW
            refine hr_inc hx hb dX12_play_123 hl (kq := 0) (lv' := fun v => [(1, .int v), (0, .ref a0)]) rfl (by decide) (by decide) (by omega) (by omega) (fun _ => rfl) (fun z123 ls hz123 hl => ?_)
            refine lv_goto (tgt := 93) hx hb dX12_play_126 (by decide) ?_
            refine ih93 z123 pvv' C122 _ _ _ (by omega) (by omega) (by omega) (fun t j ht => ?_) (fun h1 => ?_) (fun j h1 h2 => ?_) (fun h1 => ?_) hl hW hS
            · rw [c122, tk_unt ht]; exact hC t j ht
            · by_cases e9 : 186 = i.toInt.toNat
              · rw [e9, c122, tk_us]; exact hz121
              · rw [c122, tk_unj e9]; exact h186 (by omega)
            · refine (w2 j (fun h9 => ?_)).trans (hq j h1 h2)
              rcases pv_o2 (a := 16) (b := 140) (a' := 17) (b' := 3) (by decide +kernel) h9 with h | h <;> omega
            · by_cases e9 : i.toInt = 140
              · rw [w1 16 (by rw [e9]; rfl)]; exact hz121
              · rw [w2 16 (fun h9 => by rcases pv_o2 (a := 16) (b := 140) (a' := 17) (b' := 3) (by decide +kernel) h9 with h | h <;> omega)]; exact h140 (by omega)
          · refine lv_aload_n hx hb dX12_play_112 rfl (lv_at hl 1 rfl) ?_
            refine hr_getR B hF hb hW (ci := 12) (j := 7) (cd := 3) t0 rfl (isF (by decide +kernel)) rfl dX12_play_113 (fun az113 tz113 xz113 => ?_)
            refine lv_iload_n hx hb dX12_play_116 rfl (lv_at hl 0 rfl) ?_
            refine hr_iald B hb hW tz113 rfl (by omega) (by omega) dX12_play_117 (fun z117 iz117 pz117 xz117 => ?_)
            refine lv_goto (tgt := 122) hx hb dX12_play_118 (by decide) ?_
            have e1 := sg_HS i.toInt.toNat (by omega)
            refine hr_iastG (Ex' := tk ty ck_protR (tk_upd C2 34 (i.toInt.toNat) z117)) B hb hU hW hS tz101 rfl (by omega) (by omega) (by unfold ck_in; rw [← e1]; exact iz117) (tk_EA tz101 (fun a h => hun 34 (by decide) _ _ tz101 h)) dX12_play_122 (fun H locs pvv' hW hS w1 w2 => ?_)
            obtain ⟨C122, c122⟩ : ∃ f, f = tk_upd C2 34 (i.toInt.toNat) z117 := ⟨_, rfl⟩
            rw [← c122] at hW
            refine hr_inc hx hb dX12_play_123 hl (kq := 0) (lv' := fun v => [(1, .int v), (0, .ref a0)]) rfl (by decide) (by decide) (by omega) (by omega) (fun _ => rfl) (fun z123 ls hz123 hl => ?_)
            refine lv_goto (tgt := 93) hx hb dX12_play_126 (by decide) ?_
            refine ih93 z123 pvv' C122 _ _ _ (by omega) (by omega) (by omega) (fun t j ht => ?_) (fun h1 => ?_) (fun j h1 h2 => ?_) (fun h1 => ?_) hl hW hS
            · rw [c122, tk_unt ht]; exact hC t j ht
            · omega
            · refine (w2 j (fun h9 => ?_)).trans (hq j h1 h2)
              rcases pv_o2 (a := 16) (b := 140) (a' := 17) (b' := 3) (by decide +kernel) h9 with h | h <;> omega
            · omega
    refine hr_ic hx hb dX12_play_91 (by decide) (fun z91 hz91 => ?_)
    refine lv_istore_n hx hb dX12_play_92 rfl hl (lv' := [(1, .int z91), (0, .ref a0)]) (by decide) rfl (fun ls hl => ?_)
    exact l93 368 z91 pvv1 C _ _ _ (by omega) (by omega) (by omega) (fun _ _ _ => rfl) (fun h => absurd h (by omega)) (fun _ _ _ => rfl) (fun h => absurd h (by omega)) hl hW hS
  have l48 : ∀ (n48 : Nat) (i : Int32) (pvv : Nat → Int32) (ls : Array Slot) (H : Heap) (locs : List Loc), 940 - (pvv 13).toInt < n48 → (∀ j, j < 32 → j ∉ [11, 12, 13, 14, 24, 19, 20, 21, 22, 23, 31] → pvv j = pvv0 j) → ((pvv 11).toInt = 0) → (ck_pvo ty (ck_XE pvv) pPM pvv) → lv_has ls 2 [(1, .int i), (0, .ref a0)] → ck_Wo D cys ty ck_tags ck_pvs0 (tk ty ck_protR C) pvv H → va_S (ck_own ty) s.heap H locs → W p l e (ck_rm kh_12_play) s m [Value.ref a0].toArray below meth c H locs 0 0 (MQ below (ck_Qc D cys ty ck_tags ck_pvs0 (GX ty ck_protR gx_r K) kh_12_play [Value.ref a0] pvv0) [Value.ref a0].toArray s 0 0 (ck_own ty)) (F0 m 48 ls []) := by
    intro n48
    induction n48 with
    | zero => intro i pvv ls H locs hm48 sm len hp hl hW hS; have := hr_pv hp 13 (lo := 0) (hi := 940) rfl; omega
    | succ n48 ih48 =>
      intro i pvv ls H locs hm48 sm len hp hl hW hS
      refine lv_aload_n hx hb dX12_play_48 rfl (lv_at hl 1 rfl) ?_
      refine hr_getI B hF hb hW (ci := 12) (j := 11) (cd := 0) t0 rfl (isF (by decide +kernel)) rfl dX12_play_49 (fun z49 lz49 uz49 pz49 xz49 => ?_)
      have pz49 := congrArg Int32.toInt (pz49 14 rfl)
      refine hr_eq0 (tgt := 91) hx hb dX12_play_52 (by decide) (fun h52 => ?_) (fun h52 => ?_)
      · exact part2 i pvv _ _ _ hp sm len hl hW hS
      · refine lv_aload_n hx hb dX12_play_55 rfl (lv_at hl 1 rfl) ?_
        refine cm_callV (kc := kc_317) B rfl hb hl (hM.1 _ _ 0 [317] (isM (by decide +kernel)) 317 (by decide)) (hH1 _ tk_XR 317 (by decide)) (b := a0) (As := []) ⟨hr_aR t0, True.intro⟩ hp hW hS rfl (by decide) (by decide) (Nat.le_of_ble_eq_true rfl) dX12_play_56 (fun cs hcs r pvv56 H locs hca hW hS => ?_)
        rcases List.mem_cons.mp hcs with rfl | hcs
        · have hp56 := hp
          obtain ⟨hr, hq, hc⟩ := hca
          obtain ⟨z56, rfl, lz56, uz56⟩ := hr_rvI hr
          have hp := hr_std hp hc (by decide +kernel)
          have e56w11 := congrArg Int32.toInt (hr_same1 hc (j := 11) (by decide +kernel))
          have e56r13 := hr_pv hc 13 (lo := 0) (hi := 940) rfl
          have e56d13_2026 := hr_pd hc 13 13 (lo := 0) (hi := 940) (a := 0) (b := 940) rfl (by decide)
          have e56r14 := hr_pv hc 14 (lo := 4) (hi := 4) rfl
          have sm : ∀ j, j < 32 → j ∉ [11, 12, 13, 14, 24, 19, 20, 21, 22, 23, 31] → pvv56 j = pvv0 j := fun j h1 h2 => (hr_sameX (l := [11, 12, 13, 14, 24, 19, 20, 21, 22, 23, 31]) hc (by decide +kernel) j h1 h2).trans (sm j h1 h2)
          have len : (pvv56 11).toInt = 0 := by omega
          refine hr_eq0 (tgt := 71) hx hb dX12_play_59 (by decide) (fun h59 => ?_) (fun h59 => ?_)
          · refine hr_ic hx hb dX12_play_71 (by decide) (fun z71 hz71 => ?_)
            refine lv_aload_n hx hb dX12_play_72 rfl (lv_at hl 1 rfl) ?_
            refine hr_getI B hF hb hW (ci := 12) (j := 16) (cd := 0) t0 rfl (isF (by decide +kernel)) rfl dX12_play_73 (fun z73 lz73 uz73 pz73 xz73 => ?_)
            refine lv_isub hx hb dX12_play_76 (lv_topi (fun z76 hz76 => ?_))
            have r11 := hr_pv hp 11 (lo := 0) (hi := 940) rfl
            have r12 := hr_pv hp 12 (lo := 0) (hi := 940) rfl
            have r13 := hr_pv hp 13 (lo := 0) (hi := 940) rfl
            have r14 := hr_pv hp 14 (lo := 0) (hi := 4) rfl
            have r19 := hr_pv hp 19 (lo := 0) (hi := 6) rfl
            have r20 := hr_pv hp 20 (lo := 0) (hi := 6) rfl
            have r21 := hr_pv hp 21 (lo := 0) (hi := 8) rfl
            have r22 := hr_pv hp 22 (lo := 0) (hi := 6) rfl
            have r23 := hr_pv hp 23 (lo := 0) (hi := 12) rfl
            have r31 := hr_pv hp 31 (lo := 0) (hi := 4) rfl
            refine cm_iret B hb rfl ⟨_, List.mem_cons_self, hr_aF (ty := ty), (fun q h => nomatch h), ?_⟩ (gx_in hW hG0 hK0) hS dX12_play_77
            refine hr_mk (n := 32) [11, 12, 13, 14, 24, 19, 20, 21, 22, 23, 31] hp0 sm (by decide +kernel) (fun j hj av hav => ?_)
            rcases List.mem_cons.mp hj with rfl | hj
            · have hav : some (.inl (0, 0, []) : ck_AV) = some av := hav
              cases hav
              exact hr_aI (by omega) (by omega)
            rcases List.mem_cons.mp hj with rfl | hj
            · have hav : some (.inl (0, 940, []) : ck_AV) = some av := hav
              cases hav
              exact hr_aI (by omega) (by omega)
            rcases List.mem_cons.mp hj with rfl | hj
            · have hav : some (.inl (0, 940, []) : ck_AV) = some av := hav
              cases hav
              exact hr_aI (by omega) (by omega)
            rcases List.mem_cons.mp hj with rfl | hj
            · have hav : some (.inl (0, 4, []) : ck_AV) = some av := hav
              cases hav
              exact hr_aI (by omega) (by omega)
            rcases List.mem_cons.mp hj with rfl | hj
            · have hav : some (.inl (-2147483648, 2147483647, []) : ck_AV) = some av := hav
              cases hav
              exact hr_aF
            rcases List.mem_cons.mp hj with rfl | hj
            · have hav : some (.inl (0, 6, []) : ck_AV) = some av := hav
              cases hav
              exact hr_aI (by omega) (by omega)
            rcases List.mem_cons.mp hj with rfl | hj
            · have hav : some (.inl (0, 6, []) : ck_AV) = some av := hav
              cases hav
              exact hr_aI (by omega) (by omega)
            rcases List.mem_cons.mp hj with rfl | hj
            · have hav : some (.inl (0, 8, []) : ck_AV) = some av := hav
              cases hav
              exact hr_aI (by omega) (by omega)
            rcases List.mem_cons.mp hj with rfl | hj
            · have hav : some (.inl (0, 6, []) : ck_AV) = some av := hav
              cases hav
              exact hr_aI (by omega) (by omega)
            rcases List.mem_cons.mp hj with rfl | hj
            · have hav : some (.inl (0, 12, []) : ck_AV) = some av := hav
              cases hav
              exact hr_aI (by omega) (by omega)
            obtain rfl := List.mem_singleton.mp hj
            have hav : some (.inl (0, 4, []) : ck_AV) = some av := hav
            cases hav
            exact hr_aI (by omega) (by omega)
          · omega
        rcases List.mem_cons.mp hcs with rfl | hcs
        · have hp56 := hp
          obtain ⟨hr, hq, hc⟩ := hca
          obtain ⟨z56, rfl, lz56, uz56⟩ := hr_rvI hr
          have hp := hr_std hp hc (by decide +kernel)
          have e56w11 := congrArg Int32.toInt (hr_same1 hc (j := 11) (by decide +kernel))
          have e56r13 := hr_pv hc 13 (lo := 0) (hi := 940) rfl
          have e56d13_2026 := hr_pd hc 13 13 (lo := 0) (hi := 940) (a := 0) (b := 940) rfl (by decide)
          have e56r14 := hr_pv hc 14 (lo := 1) (hi := 2) rfl
          have sm : ∀ j, j < 32 → j ∉ [11, 12, 13, 14, 24, 19, 20, 21, 22, 23, 31] → pvv56 j = pvv0 j := fun j h1 h2 => (hr_sameX (l := [11, 12, 13, 14, 24, 19, 20, 21, 22, 23, 31]) hc (by decide +kernel) j h1 h2).trans (sm j h1 h2)
          have len : (pvv56 11).toInt = 0 := by omega
          refine hr_eq0 (tgt := 71) hx hb dX12_play_59 (by decide) (fun h59 => ?_) (fun h59 => ?_)
          · refine hr_ic hx hb dX12_play_71 (by decide) (fun z71 hz71 => ?_)
            refine lv_aload_n hx hb dX12_play_72 rfl (lv_at hl 1 rfl) ?_
            refine hr_getI B hF hb hW (ci := 12) (j := 16) (cd := 0) t0 rfl (isF (by decide +kernel)) rfl dX12_play_73 (fun z73 lz73 uz73 pz73 xz73 => ?_)
            refine lv_isub hx hb dX12_play_76 (lv_topi (fun z76 hz76 => ?_))
            have r11 := hr_pv hp 11 (lo := 0) (hi := 940) rfl
            have r12 := hr_pv hp 12 (lo := 0) (hi := 940) rfl
            have r13 := hr_pv hp 13 (lo := 0) (hi := 940) rfl
            have r14 := hr_pv hp 14 (lo := 0) (hi := 4) rfl
            have r19 := hr_pv hp 19 (lo := 0) (hi := 6) rfl
            have r20 := hr_pv hp 20 (lo := 0) (hi := 6) rfl
            have r21 := hr_pv hp 21 (lo := 0) (hi := 8) rfl
            have r22 := hr_pv hp 22 (lo := 0) (hi := 6) rfl
            have r23 := hr_pv hp 23 (lo := 0) (hi := 12) rfl
            have r31 := hr_pv hp 31 (lo := 0) (hi := 4) rfl
            refine cm_iret B hb rfl ⟨_, List.mem_cons_self, hr_aF (ty := ty), (fun q h => nomatch h), ?_⟩ (gx_in hW hG0 hK0) hS dX12_play_77
            refine hr_mk (n := 32) [11, 12, 13, 14, 24, 19, 20, 21, 22, 23, 31] hp0 sm (by decide +kernel) (fun j hj av hav => ?_)
            rcases List.mem_cons.mp hj with rfl | hj
            · have hav : some (.inl (0, 0, []) : ck_AV) = some av := hav
              cases hav
              exact hr_aI (by omega) (by omega)
            rcases List.mem_cons.mp hj with rfl | hj
            · have hav : some (.inl (0, 940, []) : ck_AV) = some av := hav
              cases hav
              exact hr_aI (by omega) (by omega)
            rcases List.mem_cons.mp hj with rfl | hj
            · have hav : some (.inl (0, 940, []) : ck_AV) = some av := hav
              cases hav
              exact hr_aI (by omega) (by omega)
            rcases List.mem_cons.mp hj with rfl | hj
            · have hav : some (.inl (0, 4, []) : ck_AV) = some av := hav
              cases hav
              exact hr_aI (by omega) (by omega)
            rcases List.mem_cons.mp hj with rfl | hj
            · have hav : some (.inl (-2147483648, 2147483647, []) : ck_AV) = some av := hav
              cases hav
              exact hr_aF
            rcases List.mem_cons.mp hj with rfl | hj
            · have hav : some (.inl (0, 6, []) : ck_AV) = some av := hav
              cases hav
              exact hr_aI (by omega) (by omega)
            rcases List.mem_cons.mp hj with rfl | hj
            · have hav : some (.inl (0, 6, []) : ck_AV) = some av := hav
              cases hav
              exact hr_aI (by omega) (by omega)
            rcases List.mem_cons.mp hj with rfl | hj
            · have hav : some (.inl (0, 8, []) : ck_AV) = some av := hav
              cases hav
              exact hr_aI (by omega) (by omega)
            rcases List.mem_cons.mp hj with rfl | hj
            · have hav : some (.inl (0, 6, []) : ck_AV) = some av := hav
              cases hav
              exact hr_aI (by omega) (by omega)
            rcases List.mem_cons.mp hj with rfl | hj
            · have hav : some (.inl (0, 12, []) : ck_AV) = some av := hav
              cases hav
              exact hr_aI (by omega) (by omega)
            obtain rfl := List.mem_singleton.mp hj
            have hav : some (.inl (0, 4, []) : ck_AV) = some av := hav
            cases hav
            exact hr_aI (by omega) (by omega)
          · omega
        rcases List.mem_cons.mp hcs with rfl | hcs
        · have hp56 := hp
          obtain ⟨hr, hq, hc⟩ := hca
          obtain ⟨z56, rfl, lz56, uz56⟩ := hr_rvI hr
          have hp := hr_std hp hc (by decide +kernel)
          have e56w11 := congrArg Int32.toInt (hr_same1 hc (j := 11) (by decide +kernel))
          have e56r13 := hr_pv hc 13 (lo := 1) (hi := 940) rfl
          have e56d13_2026 := hr_pd hc 13 13 (lo := 1) (hi := 940) (a := 1) (b := 940) rfl (by decide)
          have e56r14 := hr_pv hc 14 (lo := 3) (hi := 3) rfl
          have sm : ∀ j, j < 32 → j ∉ [11, 12, 13, 14, 24, 19, 20, 21, 22, 23, 31] → pvv56 j = pvv0 j := fun j h1 h2 => (hr_sameX (l := [11, 12, 13, 14, 24, 19, 20, 21, 22, 23, 31]) hc (by decide +kernel) j h1 h2).trans (sm j h1 h2)
          have len : (pvv56 11).toInt = 0 := by omega
          refine hr_eq0 (tgt := 71) hx hb dX12_play_59 (by decide) (fun h59 => ?_) (fun h59 => ?_)
          · refine hr_ic hx hb dX12_play_71 (by decide) (fun z71 hz71 => ?_)
            refine lv_aload_n hx hb dX12_play_72 rfl (lv_at hl 1 rfl) ?_
            refine hr_getI B hF hb hW (ci := 12) (j := 16) (cd := 0) t0 rfl (isF (by decide +kernel)) rfl dX12_play_73 (fun z73 lz73 uz73 pz73 xz73 => ?_)
            refine lv_isub hx hb dX12_play_76 (lv_topi (fun z76 hz76 => ?_))
            have r11 := hr_pv hp 11 (lo := 0) (hi := 940) rfl
            have r12 := hr_pv hp 12 (lo := 0) (hi := 940) rfl
            have r13 := hr_pv hp 13 (lo := 0) (hi := 940) rfl
            have r14 := hr_pv hp 14 (lo := 0) (hi := 4) rfl
            have r19 := hr_pv hp 19 (lo := 0) (hi := 6) rfl
            have r20 := hr_pv hp 20 (lo := 0) (hi := 6) rfl
            have r21 := hr_pv hp 21 (lo := 0) (hi := 8) rfl
            have r22 := hr_pv hp 22 (lo := 0) (hi := 6) rfl
            have r23 := hr_pv hp 23 (lo := 0) (hi := 12) rfl
            have r31 := hr_pv hp 31 (lo := 0) (hi := 4) rfl
            refine cm_iret B hb rfl ⟨_, List.mem_cons_self, hr_aF (ty := ty), (fun q h => nomatch h), ?_⟩ (gx_in hW hG0 hK0) hS dX12_play_77
            refine hr_mk (n := 32) [11, 12, 13, 14, 24, 19, 20, 21, 22, 23, 31] hp0 sm (by decide +kernel) (fun j hj av hav => ?_)
            rcases List.mem_cons.mp hj with rfl | hj
            · have hav : some (.inl (0, 0, []) : ck_AV) = some av := hav
              cases hav
              exact hr_aI (by omega) (by omega)
            rcases List.mem_cons.mp hj with rfl | hj
            · have hav : some (.inl (0, 940, []) : ck_AV) = some av := hav
              cases hav
              exact hr_aI (by omega) (by omega)
            rcases List.mem_cons.mp hj with rfl | hj
            · have hav : some (.inl (0, 940, []) : ck_AV) = some av := hav
              cases hav
              exact hr_aI (by omega) (by omega)
            rcases List.mem_cons.mp hj with rfl | hj
            · have hav : some (.inl (0, 4, []) : ck_AV) = some av := hav
              cases hav
              exact hr_aI (by omega) (by omega)
            rcases List.mem_cons.mp hj with rfl | hj
            · have hav : some (.inl (-2147483648, 2147483647, []) : ck_AV) = some av := hav
              cases hav
              exact hr_aF
            rcases List.mem_cons.mp hj with rfl | hj
            · have hav : some (.inl (0, 6, []) : ck_AV) = some av := hav
              cases hav
              exact hr_aI (by omega) (by omega)
            rcases List.mem_cons.mp hj with rfl | hj
            · have hav : some (.inl (0, 6, []) : ck_AV) = some av := hav
              cases hav
              exact hr_aI (by omega) (by omega)
            rcases List.mem_cons.mp hj with rfl | hj
            · have hav : some (.inl (0, 8, []) : ck_AV) = some av := hav
              cases hav
              exact hr_aI (by omega) (by omega)
            rcases List.mem_cons.mp hj with rfl | hj
            · have hav : some (.inl (0, 6, []) : ck_AV) = some av := hav
              cases hav
              exact hr_aI (by omega) (by omega)
            rcases List.mem_cons.mp hj with rfl | hj
            · have hav : some (.inl (0, 12, []) : ck_AV) = some av := hav
              cases hav
              exact hr_aI (by omega) (by omega)
            obtain rfl := List.mem_singleton.mp hj
            have hav : some (.inl (0, 4, []) : ck_AV) = some av := hav
            cases hav
            exact hr_aI (by omega) (by omega)
          · omega
        rcases List.mem_cons.mp hcs with rfl | hcs
        · have hp56 := hp
          obtain ⟨hr, hq, hc⟩ := hca
          obtain ⟨z56, rfl, lz56, uz56⟩ := hr_rvI hr
          have hp := hr_std hp hc (by decide +kernel)
          have e56w11 := congrArg Int32.toInt (hr_same1 hc (j := 11) (by decide +kernel))
          have e56r13 := hr_pv hc 13 (lo := 0) (hi := 940) rfl
          have e56d13_2026 := hr_pd hc 13 13 (lo := 0) (hi := 940) (a := 0) (b := 940) rfl (by decide)
          have e56r14 := hr_pv hc 14 (lo := 0) (hi := 4) rfl
          have sm : ∀ j, j < 32 → j ∉ [11, 12, 13, 14, 24, 19, 20, 21, 22, 23, 31] → pvv56 j = pvv0 j := fun j h1 h2 => (hr_sameX (l := [11, 12, 13, 14, 24, 19, 20, 21, 22, 23, 31]) hc (by decide +kernel) j h1 h2).trans (sm j h1 h2)
          have len : (pvv56 11).toInt = 0 := by omega
          refine hr_eq0 (tgt := 71) hx hb dX12_play_59 (by decide) (fun h59 => ?_) (fun h59 => ?_)
          · refine hr_ic hx hb dX12_play_71 (by decide) (fun z71 hz71 => ?_)
            refine lv_aload_n hx hb dX12_play_72 rfl (lv_at hl 1 rfl) ?_
            refine hr_getI B hF hb hW (ci := 12) (j := 16) (cd := 0) t0 rfl (isF (by decide +kernel)) rfl dX12_play_73 (fun z73 lz73 uz73 pz73 xz73 => ?_)
            refine lv_isub hx hb dX12_play_76 (lv_topi (fun z76 hz76 => ?_))
            have r11 := hr_pv hp 11 (lo := 0) (hi := 940) rfl
            have r12 := hr_pv hp 12 (lo := 0) (hi := 940) rfl
            have r13 := hr_pv hp 13 (lo := 0) (hi := 940) rfl
            have r14 := hr_pv hp 14 (lo := 0) (hi := 4) rfl
            have r19 := hr_pv hp 19 (lo := 0) (hi := 6) rfl
            have r20 := hr_pv hp 20 (lo := 0) (hi := 6) rfl
            have r21 := hr_pv hp 21 (lo := 0) (hi := 8) rfl
            have r22 := hr_pv hp 22 (lo := 0) (hi := 6) rfl
            have r23 := hr_pv hp 23 (lo := 0) (hi := 12) rfl
            have r31 := hr_pv hp 31 (lo := 0) (hi := 4) rfl
            refine cm_iret B hb rfl ⟨_, List.mem_cons_self, hr_aF (ty := ty), (fun q h => nomatch h), ?_⟩ (gx_in hW hG0 hK0) hS dX12_play_77
            refine hr_mk (n := 32) [11, 12, 13, 14, 24, 19, 20, 21, 22, 23, 31] hp0 sm (by decide +kernel) (fun j hj av hav => ?_)
            rcases List.mem_cons.mp hj with rfl | hj
            · have hav : some (.inl (0, 0, []) : ck_AV) = some av := hav
              cases hav
              exact hr_aI (by omega) (by omega)
            rcases List.mem_cons.mp hj with rfl | hj
            · have hav : some (.inl (0, 940, []) : ck_AV) = some av := hav
              cases hav
              exact hr_aI (by omega) (by omega)
            rcases List.mem_cons.mp hj with rfl | hj
            · have hav : some (.inl (0, 940, []) : ck_AV) = some av := hav
              cases hav
              exact hr_aI (by omega) (by omega)
            rcases List.mem_cons.mp hj with rfl | hj
            · have hav : some (.inl (0, 4, []) : ck_AV) = some av := hav
              cases hav
              exact hr_aI (by omega) (by omega)
            rcases List.mem_cons.mp hj with rfl | hj
            · have hav : some (.inl (-2147483648, 2147483647, []) : ck_AV) = some av := hav
              cases hav
              exact hr_aF
            rcases List.mem_cons.mp hj with rfl | hj
            · have hav : some (.inl (0, 6, []) : ck_AV) = some av := hav
              cases hav
              exact hr_aI (by omega) (by omega)
            rcases List.mem_cons.mp hj with rfl | hj
            · have hav : some (.inl (0, 6, []) : ck_AV) = some av := hav
              cases hav
              exact hr_aI (by omega) (by omega)
            rcases List.mem_cons.mp hj with rfl | hj
            · have hav : some (.inl (0, 8, []) : ck_AV) = some av := hav
              cases hav
              exact hr_aI (by omega) (by omega)
            rcases List.mem_cons.mp hj with rfl | hj
            · have hav : some (.inl (0, 6, []) : ck_AV) = some av := hav
              cases hav
              exact hr_aI (by omega) (by omega)
            rcases List.mem_cons.mp hj with rfl | hj
            · have hav : some (.inl (0, 12, []) : ck_AV) = some av := hav
              cases hav
              exact hr_aI (by omega) (by omega)
            obtain rfl := List.mem_singleton.mp hj
            have hav : some (.inl (0, 4, []) : ck_AV) = some av := hav
            cases hav
            exact hr_aI (by omega) (by omega)
          · omega
        rcases List.mem_cons.mp hcs with rfl | hcs
        · have hp56 := hp
          obtain ⟨hr, hq, hc⟩ := hca
          obtain ⟨z56, rfl, lz56, uz56⟩ := hr_rvI hr
          have hp := hr_std hp hc (by decide +kernel)
          have e56w11 := congrArg Int32.toInt (hr_same1 hc (j := 11) (by decide +kernel))
          have e56r13 := hr_pv hc 13 (lo := 0) (hi := 940) rfl
          have e56d13_2026 := hr_pd hc 13 13 (lo := 0) (hi := 940) (a := 0) (b := 940) rfl (by decide)
          have e56r14 := hr_pv hc 14 (lo := 4) (hi := 4) rfl
          have sm : ∀ j, j < 32 → j ∉ [11, 12, 13, 14, 24, 19, 20, 21, 22, 23, 31] → pvv56 j = pvv0 j := fun j h1 h2 => (hr_sameX (l := [11, 12, 13, 14, 24, 19, 20, 21, 22, 23, 31]) hc (by decide +kernel) j h1 h2).trans (sm j h1 h2)
          have len : (pvv56 11).toInt = 0 := by omega
          have hp65 := hr_std2 (Q := k_pr (ck_tab 239)) hp56 hc (by decide +kernel)
          refine hr_eq0 (tgt := 71) hx hb dX12_play_59 (by decide) (fun h59 => ?_) (fun h59 => ?_)
          · omega
          · refine lv_aload_n hx hb dX12_play_62 rfl (lv_at hl 1 rfl) ?_
            refine hr_bp hx hb dX12_play_63 (by decide) (by decide) (fun z63 hz63 => ?_)
            refine cm_callV (kc := kc_239) B rfl hb hl (hM.1 _ _ 0 [237, 238, 239, 240] (isM (by decide +kernel)) 239 (by decide)) (hH1 _ tk_XR 239 (by decide)) (b := a0) (As := [.int z63]) ⟨hr_aR t0, hr_aF, True.intro⟩ hp65 hW hS rfl (by decide) (by decide) (Nat.le_of_ble_eq_true rfl) dX12_play_65 (fun cs hcs r pvv65 H locs hca hW hS => ?_)
            obtain rfl := List.mem_singleton.mp hcs
            obtain ⟨hr, hq, hc⟩ := hca
            obtain ⟨z65, rfl, lz65, uz65⟩ := hr_rvI hr
            have hp := hr_std hp hc (by decide +kernel)
            have e65w11 := congrArg Int32.toInt (hr_same1 hc (j := 11) (by decide +kernel))
            have e65w13 := congrArg Int32.toInt (hr_same1 hc (j := 13) (by decide +kernel))
            have e65w14 := congrArg Int32.toInt (hr_same1 hc (j := 14) (by decide +kernel))
            have sm : ∀ j, j < 32 → j ∉ [11, 12, 13, 14, 24, 19, 20, 21, 22, 23, 31] → pvv65 j = pvv0 j := fun j h1 h2 => (hr_sameX (l := [11, 12, 13, 14, 24, 19, 20, 21, 22, 23, 31]) hc (by decide +kernel) j h1 h2).trans (sm j h1 h2)
            have len : (pvv65 11).toInt = 0 := by omega
            refine hr_ne0 (tgt := 78) hx hb dX12_play_68 (by decide) (fun h68 => ?_) (fun h68 => ?_)
            · omega
            · refine hr_ic hx hb dX12_play_71 (by decide) (fun z71 hz71 => ?_)
              refine lv_aload_n hx hb dX12_play_72 rfl (lv_at hl 1 rfl) ?_
              refine hr_getI B hF hb hW (ci := 12) (j := 16) (cd := 0) t0 rfl (isF (by decide +kernel)) rfl dX12_play_73 (fun z73 lz73 uz73 pz73 xz73 => ?_)
              refine lv_isub hx hb dX12_play_76 (lv_topi (fun z76 hz76 => ?_))
              have r11 := hr_pv hp 11 (lo := 0) (hi := 940) rfl
              have r12 := hr_pv hp 12 (lo := 0) (hi := 940) rfl
              have r13 := hr_pv hp 13 (lo := 0) (hi := 940) rfl
              have r14 := hr_pv hp 14 (lo := 0) (hi := 4) rfl
              have r19 := hr_pv hp 19 (lo := 0) (hi := 6) rfl
              have r20 := hr_pv hp 20 (lo := 0) (hi := 6) rfl
              have r21 := hr_pv hp 21 (lo := 0) (hi := 8) rfl
              have r22 := hr_pv hp 22 (lo := 0) (hi := 6) rfl
              have r23 := hr_pv hp 23 (lo := 0) (hi := 12) rfl
              have r31 := hr_pv hp 31 (lo := 0) (hi := 4) rfl
              refine cm_iret B hb rfl ⟨_, List.mem_cons_self, hr_aF (ty := ty), (fun q h => nomatch h), ?_⟩ (gx_in hW hG0 hK0) hS dX12_play_77
              refine hr_mk (n := 32) [11, 12, 13, 14, 24, 19, 20, 21, 22, 23, 31] hp0 sm (by decide +kernel) (fun j hj av hav => ?_)
              rcases List.mem_cons.mp hj with rfl | hj
              · have hav : some (.inl (0, 0, []) : ck_AV) = some av := hav
                cases hav
                exact hr_aI (by omega) (by omega)
              rcases List.mem_cons.mp hj with rfl | hj
              · have hav : some (.inl (0, 940, []) : ck_AV) = some av := hav
                cases hav
                exact hr_aI (by omega) (by omega)
              rcases List.mem_cons.mp hj with rfl | hj
              · have hav : some (.inl (0, 940, []) : ck_AV) = some av := hav
                cases hav
                exact hr_aI (by omega) (by omega)
              rcases List.mem_cons.mp hj with rfl | hj
              · have hav : some (.inl (0, 4, []) : ck_AV) = some av := hav
                cases hav
                exact hr_aI (by omega) (by omega)
              rcases List.mem_cons.mp hj with rfl | hj
              · have hav : some (.inl (-2147483648, 2147483647, []) : ck_AV) = some av := hav
                cases hav
                exact hr_aF
              rcases List.mem_cons.mp hj with rfl | hj
              · have hav : some (.inl (0, 6, []) : ck_AV) = some av := hav
                cases hav
                exact hr_aI (by omega) (by omega)
              rcases List.mem_cons.mp hj with rfl | hj
              · have hav : some (.inl (0, 6, []) : ck_AV) = some av := hav
                cases hav
                exact hr_aI (by omega) (by omega)
              rcases List.mem_cons.mp hj with rfl | hj
              · have hav : some (.inl (0, 8, []) : ck_AV) = some av := hav
                cases hav
                exact hr_aI (by omega) (by omega)
              rcases List.mem_cons.mp hj with rfl | hj
              · have hav : some (.inl (0, 6, []) : ck_AV) = some av := hav
                cases hav
                exact hr_aI (by omega) (by omega)
              rcases List.mem_cons.mp hj with rfl | hj
              · have hav : some (.inl (0, 12, []) : ck_AV) = some av := hav
                cases hav
                exact hr_aI (by omega) (by omega)
              obtain rfl := List.mem_singleton.mp hj
              have hav : some (.inl (0, 4, []) : ck_AV) = some av := hav
              cases hav
              exact hr_aI (by omega) (by omega)
        rcases List.mem_cons.mp hcs with rfl | hcs
        · have hp56 := hp
          obtain ⟨hr, hq, hc⟩ := hca
          obtain ⟨z56, rfl, lz56, uz56⟩ := hr_rvI hr
          have hp := hr_std hp hc (by decide +kernel)
          have e56w11 := congrArg Int32.toInt (hr_same1 hc (j := 11) (by decide +kernel))
          have e56r13 := hr_pv hc 13 (lo := 0) (hi := 940) rfl
          have e56d13_2026 := hr_pd hc 13 13 (lo := 0) (hi := 940) (a := 0) (b := 940) rfl (by decide)
          have e56r14 := hr_pv hc 14 (lo := 0) (hi := 0) rfl
          have sm : ∀ j, j < 32 → j ∉ [11, 12, 13, 14, 24, 19, 20, 21, 22, 23, 31] → pvv56 j = pvv0 j := fun j h1 h2 => (hr_sameX (l := [11, 12, 13, 14, 24, 19, 20, 21, 22, 23, 31]) hc (by decide +kernel) j h1 h2).trans (sm j h1 h2)
          have len : (pvv56 11).toInt = 0 := by omega
          have hp65 := hr_std2 (Q := k_pr (ck_tab 238)) hp56 hc (by decide +kernel)
          refine hr_eq0 (tgt := 71) hx hb dX12_play_59 (by decide) (fun h59 => ?_) (fun h59 => ?_)
          · omega
          · refine lv_aload_n hx hb dX12_play_62 rfl (lv_at hl 1 rfl) ?_
            refine hr_bp hx hb dX12_play_63 (by decide) (by decide) (fun z63 hz63 => ?_)
            refine cm_callV (kc := kc_238) B rfl hb hl (hM.1 _ _ 0 [237, 238, 239, 240] (isM (by decide +kernel)) 238 (by decide)) (hH1 _ tk_XR 238 (by decide)) (b := a0) (As := [.int z63]) ⟨hr_aR t0, hr_aF, True.intro⟩ hp65 hW hS rfl (by decide) (by decide) (Nat.le_of_ble_eq_true rfl) dX12_play_65 (fun cs hcs r pvv65 H locs hca hW hS => ?_)
            obtain rfl := List.mem_singleton.mp hcs
            obtain ⟨hr, hq, hc⟩ := hca
            obtain ⟨z65, rfl, lz65, uz65⟩ := hr_rvI hr
            have hp := hr_std hp hc (by decide +kernel)
            have e65w11 := congrArg Int32.toInt (hr_same1 hc (j := 11) (by decide +kernel))
            have e65w13 := congrArg Int32.toInt (hr_same1 hc (j := 13) (by decide +kernel))
            have e65w14 := congrArg Int32.toInt (hr_same1 hc (j := 14) (by decide +kernel))
            have sm : ∀ j, j < 32 → j ∉ [11, 12, 13, 14, 24, 19, 20, 21, 22, 23, 31] → pvv65 j = pvv0 j := fun j h1 h2 => (hr_sameX (l := [11, 12, 13, 14, 24, 19, 20, 21, 22, 23, 31]) hc (by decide +kernel) j h1 h2).trans (sm j h1 h2)
            have len : (pvv65 11).toInt = 0 := by omega
            refine hr_ne0 (tgt := 78) hx hb dX12_play_68 (by decide) (fun h68 => ?_) (fun h68 => ?_)
            · omega
            · refine hr_ic hx hb dX12_play_71 (by decide) (fun z71 hz71 => ?_)
              refine lv_aload_n hx hb dX12_play_72 rfl (lv_at hl 1 rfl) ?_
              refine hr_getI B hF hb hW (ci := 12) (j := 16) (cd := 0) t0 rfl (isF (by decide +kernel)) rfl dX12_play_73 (fun z73 lz73 uz73 pz73 xz73 => ?_)
              refine lv_isub hx hb dX12_play_76 (lv_topi (fun z76 hz76 => ?_))
              have r11 := hr_pv hp 11 (lo := 0) (hi := 940) rfl
              have r12 := hr_pv hp 12 (lo := 0) (hi := 940) rfl
              have r13 := hr_pv hp 13 (lo := 0) (hi := 940) rfl
              have r14 := hr_pv hp 14 (lo := 0) (hi := 4) rfl
              have r19 := hr_pv hp 19 (lo := 0) (hi := 6) rfl
              have r20 := hr_pv hp 20 (lo := 0) (hi := 6) rfl
              have r21 := hr_pv hp 21 (lo := 0) (hi := 8) rfl
              have r22 := hr_pv hp 22 (lo := 0) (hi := 6) rfl
              have r23 := hr_pv hp 23 (lo := 0) (hi := 12) rfl
              have r31 := hr_pv hp 31 (lo := 0) (hi := 4) rfl
              refine cm_iret B hb rfl ⟨_, List.mem_cons_self, hr_aF (ty := ty), (fun q h => nomatch h), ?_⟩ (gx_in hW hG0 hK0) hS dX12_play_77
              refine hr_mk (n := 32) [11, 12, 13, 14, 24, 19, 20, 21, 22, 23, 31] hp0 sm (by decide +kernel) (fun j hj av hav => ?_)
              rcases List.mem_cons.mp hj with rfl | hj
              · have hav : some (.inl (0, 0, []) : ck_AV) = some av := hav
                cases hav
                exact hr_aI (by omega) (by omega)
              rcases List.mem_cons.mp hj with rfl | hj
              · have hav : some (.inl (0, 940, []) : ck_AV) = some av := hav
                cases hav
                exact hr_aI (by omega) (by omega)
              rcases List.mem_cons.mp hj with rfl | hj
              · have hav : some (.inl (0, 940, []) : ck_AV) = some av := hav
                cases hav
                exact hr_aI (by omega) (by omega)
              rcases List.mem_cons.mp hj with rfl | hj
              · have hav : some (.inl (0, 4, []) : ck_AV) = some av := hav
                cases hav
                exact hr_aI (by omega) (by omega)
              rcases List.mem_cons.mp hj with rfl | hj
              · have hav : some (.inl (-2147483648, 2147483647, []) : ck_AV) = some av := hav
                cases hav
                exact hr_aF
              rcases List.mem_cons.mp hj with rfl | hj
              · have hav : some (.inl (0, 6, []) : ck_AV) = some av := hav
                cases hav
                exact hr_aI (by omega) (by omega)
              rcases List.mem_cons.mp hj with rfl | hj
              · have hav : some (.inl (0, 6, []) : ck_AV) = some av := hav
                cases hav
                exact hr_aI (by omega) (by omega)
              rcases List.mem_cons.mp hj with rfl | hj
              · have hav : some (.inl (0, 8, []) : ck_AV) = some av := hav
                cases hav
                exact hr_aI (by omega) (by omega)
              rcases List.mem_cons.mp hj with rfl | hj
              · have hav : some (.inl (0, 6, []) : ck_AV) = some av := hav
                cases hav
                exact hr_aI (by omega) (by omega)
              rcases List.mem_cons.mp hj with rfl | hj
              · have hav : some (.inl (0, 12, []) : ck_AV) = some av := hav
                cases hav
                exact hr_aI (by omega) (by omega)
              obtain rfl := List.mem_singleton.mp hj
              have hav : some (.inl (0, 4, []) : ck_AV) = some av := hav
              cases hav
              exact hr_aI (by omega) (by omega)
        rcases List.mem_cons.mp hcs with rfl | hcs
        · have hp56 := hp
          obtain ⟨hr, hq, hc⟩ := hca
          obtain ⟨z56, rfl, lz56, uz56⟩ := hr_rvI hr
          have hp := hr_std hp hc (by decide +kernel)
          have e56w11 := congrArg Int32.toInt (hr_same1 hc (j := 11) (by decide +kernel))
          have e56r13 := hr_pv hc 13 (lo := 1) (hi := 940) rfl
          have e56d13_2026 := hr_pd hc 13 13 (lo := 1) (hi := 940) (a := 1) (b := 940) rfl (by decide)
          have e56r14 := hr_pv hc 14 (lo := 3) (hi := 3) rfl
          have sm : ∀ j, j < 32 → j ∉ [11, 12, 13, 14, 24, 19, 20, 21, 22, 23, 31] → pvv56 j = pvv0 j := fun j h1 h2 => (hr_sameX (l := [11, 12, 13, 14, 24, 19, 20, 21, 22, 23, 31]) hc (by decide +kernel) j h1 h2).trans (sm j h1 h2)
          have len : (pvv56 11).toInt = 0 := by omega
          have hp65 := hr_std2 (Q := k_pr (ck_tab 237)) hp56 hc (by decide +kernel)
          refine hr_eq0 (tgt := 71) hx hb dX12_play_59 (by decide) (fun h59 => ?_) (fun h59 => ?_)
          · omega
          · refine lv_aload_n hx hb dX12_play_62 rfl (lv_at hl 1 rfl) ?_
            refine hr_bp hx hb dX12_play_63 (by decide) (by decide) (fun z63 hz63 => ?_)
            refine cm_callV (kc := kc_237) B rfl hb hl (hM.1 _ _ 0 [237, 238, 239, 240] (isM (by decide +kernel)) 237 (by decide)) (hH1 _ tk_XR 237 (by decide)) (b := a0) (As := [.int z63]) ⟨hr_aR t0, hr_aF, True.intro⟩ hp65 hW hS rfl (by decide) (by decide) (Nat.le_of_ble_eq_true rfl) dX12_play_65 (fun cs hcs r pvv65 H locs hca hW hS => ?_)
            rcases List.mem_cons.mp hcs with rfl | hcs
            · obtain ⟨hr, hq, hc⟩ := hca
              obtain ⟨z65, rfl, lz65, uz65⟩ := hr_rvI hr
              have hp := hr_std hp hc (by decide +kernel)
              have e65w11 := congrArg Int32.toInt (hr_same1 hc (j := 11) (by decide +kernel))
              have e65w13 := congrArg Int32.toInt (hr_same1 hc (j := 13) (by decide +kernel))
              have e65w14 := congrArg Int32.toInt (hr_same1 hc (j := 14) (by decide +kernel))
              have sm : ∀ j, j < 32 → j ∉ [11, 12, 13, 14, 24, 19, 20, 21, 22, 23, 31] → pvv65 j = pvv0 j := fun j h1 h2 => (hr_sameX (l := [11, 12, 13, 14, 24, 19, 20, 21, 22, 23, 31]) hc (by decide +kernel) j h1 h2).trans (sm j h1 h2)
              have len : (pvv65 11).toInt = 0 := by omega
              refine hr_ne0 (tgt := 78) hx hb dX12_play_68 (by decide) (fun h68 => ?_) (fun h68 => ?_)
              · omega
              · refine hr_ic hx hb dX12_play_71 (by decide) (fun z71 hz71 => ?_)
                refine lv_aload_n hx hb dX12_play_72 rfl (lv_at hl 1 rfl) ?_
                refine hr_getI B hF hb hW (ci := 12) (j := 16) (cd := 0) t0 rfl (isF (by decide +kernel)) rfl dX12_play_73 (fun z73 lz73 uz73 pz73 xz73 => ?_)
                refine lv_isub hx hb dX12_play_76 (lv_topi (fun z76 hz76 => ?_))
                have r11 := hr_pv hp 11 (lo := 0) (hi := 940) rfl
                have r12 := hr_pv hp 12 (lo := 0) (hi := 940) rfl
                have r13 := hr_pv hp 13 (lo := 0) (hi := 940) rfl
                have r14 := hr_pv hp 14 (lo := 0) (hi := 4) rfl
                have r19 := hr_pv hp 19 (lo := 0) (hi := 6) rfl
                have r20 := hr_pv hp 20 (lo := 0) (hi := 6) rfl
                have r21 := hr_pv hp 21 (lo := 0) (hi := 8) rfl
                have r22 := hr_pv hp 22 (lo := 0) (hi := 6) rfl
                have r23 := hr_pv hp 23 (lo := 0) (hi := 12) rfl
                have r31 := hr_pv hp 31 (lo := 0) (hi := 4) rfl
                refine cm_iret B hb rfl ⟨_, List.mem_cons_self, hr_aF (ty := ty), (fun q h => nomatch h), ?_⟩ (gx_in hW hG0 hK0) hS dX12_play_77
                refine hr_mk (n := 32) [11, 12, 13, 14, 24, 19, 20, 21, 22, 23, 31] hp0 sm (by decide +kernel) (fun j hj av hav => ?_)
                rcases List.mem_cons.mp hj with rfl | hj
                · have hav : some (.inl (0, 0, []) : ck_AV) = some av := hav
                  cases hav
                  exact hr_aI (by omega) (by omega)
                rcases List.mem_cons.mp hj with rfl | hj
                · have hav : some (.inl (0, 940, []) : ck_AV) = some av := hav
                  cases hav
                  exact hr_aI (by omega) (by omega)
                rcases List.mem_cons.mp hj with rfl | hj
                · have hav : some (.inl (0, 940, []) : ck_AV) = some av := hav
                  cases hav
                  exact hr_aI (by omega) (by omega)
                rcases List.mem_cons.mp hj with rfl | hj
                · have hav : some (.inl (0, 4, []) : ck_AV) = some av := hav
                  cases hav
                  exact hr_aI (by omega) (by omega)
                rcases List.mem_cons.mp hj with rfl | hj
                · have hav : some (.inl (-2147483648, 2147483647, []) : ck_AV) = some av := hav
                  cases hav
                  exact hr_aF
                rcases List.mem_cons.mp hj with rfl | hj
                · have hav : some (.inl (0, 6, []) : ck_AV) = some av := hav
                  cases hav
                  exact hr_aI (by omega) (by omega)
                rcases List.mem_cons.mp hj with rfl | hj
                · have hav : some (.inl (0, 6, []) : ck_AV) = some av := hav
                  cases hav
                  exact hr_aI (by omega) (by omega)
                rcases List.mem_cons.mp hj with rfl | hj
                · have hav : some (.inl (0, 8, []) : ck_AV) = some av := hav
                  cases hav
                  exact hr_aI (by omega) (by omega)
                rcases List.mem_cons.mp hj with rfl | hj
                · have hav : some (.inl (0, 6, []) : ck_AV) = some av := hav
                  cases hav
                  exact hr_aI (by omega) (by omega)
                rcases List.mem_cons.mp hj with rfl | hj
                · have hav : some (.inl (0, 12, []) : ck_AV) = some av := hav
                  cases hav
                  exact hr_aI (by omega) (by omega)
                obtain rfl := List.mem_singleton.mp hj
                have hav : some (.inl (0, 4, []) : ck_AV) = some av := hav
                cases hav
                exact hr_aI (by omega) (by omega)
            obtain rfl := List.mem_singleton.mp hcs
            obtain ⟨hr, hq, hc⟩ := hca
            obtain ⟨z65, rfl, lz65, uz65⟩ := hr_rvI hr
            have hp := hr_std hp hc (by decide +kernel)
            have e65w11 := congrArg Int32.toInt (hr_same1 hc (j := 11) (by decide +kernel))
            have e65r13 := hr_pv hc 13 (lo := 0) (hi := 940) rfl
            have e65d13_2026 := hr_pd hc 13 13 (lo := 0) (hi := 940) (a := 0) (b := 940) rfl (by decide)
            have e65r14 := hr_pv hc 14 (lo := 0) (hi := 4) rfl
            have sm : ∀ j, j < 32 → j ∉ [11, 12, 13, 14, 24, 19, 20, 21, 22, 23, 31] → pvv65 j = pvv0 j := fun j h1 h2 => (hr_sameX (l := [11, 12, 13, 14, 24, 19, 20, 21, 22, 23, 31]) hc (by decide +kernel) j h1 h2).trans (sm j h1 h2)
            have len : (pvv65 11).toInt = 0 := by omega
            refine hr_ne0 (tgt := 78) hx hb dX12_play_68 (by decide) (fun h68 => ?_) (fun h68 => ?_)
            · refine lv_aload_n hx hb dX12_play_78 rfl (lv_at hl 1 rfl) ?_
              refine lv_dup hx hb dX12_play_79 rfl ?_
              refine hr_getI B hF hb hW (ci := 12) (j := 19) (cd := 0) t0 rfl (isF (by decide +kernel)) rfl dX12_play_80 (fun z80 lz80 uz80 pz80 xz80 => ?_)
              refine hr_ic hx hb dX12_play_83 (by decide) (fun z83 hz83 => ?_)
              refine lv_iadd hx hb dX12_play_84 (lv_topi (fun z84 hz84 => ?_))
              refine hr_putN B hF hb hU hW hS (ci := 12) (j := 19) (cd := 0) t0 rfl (isF (by decide +kernel)) rfl (ck_lo _) (ck_hi _) (Or.inl rfl) (hr_EO (tk_XR (C := C)) t0 (by decide)) (by decide) dX12_play_85 (fun H locs hW hS => ?_)
              refine lv_goto (tgt := 48) hx hb dX12_play_88 (by decide) ?_
              exact ih48 i pvv65 _ _ _ (by have := hr_pv hp 13 (lo := 0) (hi := 940) rfl; omega) sm len hp hl hW hS
            · omega
        obtain rfl := List.mem_singleton.mp hcs
        have hp56 := hp
        obtain ⟨hr, hq, hc⟩ := hca
        obtain ⟨z56, rfl, lz56, uz56⟩ := hr_rvI hr
        have hp := hr_std hp hc (by decide +kernel)
        have e56w11 := congrArg Int32.toInt (hr_same1 hc (j := 11) (by decide +kernel))
        have e56r13 := hr_pv hc 13 (lo := 0) (hi := 940) rfl
        have e56d13_2026 := hr_pd hc 13 13 (lo := 0) (hi := 940) (a := 0) (b := 940) rfl (by decide)
        have e56r14 := hr_pv hc 14 (lo := 1) (hi := 2) rfl
        have sm : ∀ j, j < 32 → j ∉ [11, 12, 13, 14, 24, 19, 20, 21, 22, 23, 31] → pvv56 j = pvv0 j := fun j h1 h2 => (hr_sameX (l := [11, 12, 13, 14, 24, 19, 20, 21, 22, 23, 31]) hc (by decide +kernel) j h1 h2).trans (sm j h1 h2)
        have len : (pvv56 11).toInt = 0 := by omega
        have hp65 := hr_std2 (Q := k_pr (ck_tab 238)) hp56 hc (by decide +kernel)
        refine hr_eq0 (tgt := 71) hx hb dX12_play_59 (by decide) (fun h59 => ?_) (fun h59 => ?_)
        · omega
        · refine lv_aload_n hx hb dX12_play_62 rfl (lv_at hl 1 rfl) ?_
          refine hr_bp hx hb dX12_play_63 (by decide) (by decide) (fun z63 hz63 => ?_)
          refine cm_callV (kc := kc_238) B rfl hb hl (hM.1 _ _ 0 [237, 238, 239, 240] (isM (by decide +kernel)) 238 (by decide)) (hH1 _ tk_XR 238 (by decide)) (b := a0) (As := [.int z63]) ⟨hr_aR t0, hr_aF, True.intro⟩ hp65 hW hS rfl (by decide) (by decide) (Nat.le_of_ble_eq_true rfl) dX12_play_65 (fun cs hcs r pvv65 H locs hca hW hS => ?_)
          obtain rfl := List.mem_singleton.mp hcs
          obtain ⟨hr, hq, hc⟩ := hca
          obtain ⟨z65, rfl, lz65, uz65⟩ := hr_rvI hr
          have hp := hr_std hp hc (by decide +kernel)
          have e65w11 := congrArg Int32.toInt (hr_same1 hc (j := 11) (by decide +kernel))
          have e65w13 := congrArg Int32.toInt (hr_same1 hc (j := 13) (by decide +kernel))
          have e65w14 := congrArg Int32.toInt (hr_same1 hc (j := 14) (by decide +kernel))
          have sm : ∀ j, j < 32 → j ∉ [11, 12, 13, 14, 24, 19, 20, 21, 22, 23, 31] → pvv65 j = pvv0 j := fun j h1 h2 => (hr_sameX (l := [11, 12, 13, 14, 24, 19, 20, 21, 22, 23, 31]) hc (by decide +kernel) j h1 h2).trans (sm j h1 h2)
          have len : (pvv65 11).toInt = 0 := by omega
          refine hr_ne0 (tgt := 78) hx hb dX12_play_68 (by decide) (fun h68 => ?_) (fun h68 => ?_)
          · omega
          · refine hr_ic hx hb dX12_play_71 (by decide) (fun z71 hz71 => ?_)
            refine lv_aload_n hx hb dX12_play_72 rfl (lv_at hl 1 rfl) ?_
            refine hr_getI B hF hb hW (ci := 12) (j := 16) (cd := 0) t0 rfl (isF (by decide +kernel)) rfl dX12_play_73 (fun z73 lz73 uz73 pz73 xz73 => ?_)
            refine lv_isub hx hb dX12_play_76 (lv_topi (fun z76 hz76 => ?_))
            have r11 := hr_pv hp 11 (lo := 0) (hi := 940) rfl
            have r12 := hr_pv hp 12 (lo := 0) (hi := 940) rfl
            have r13 := hr_pv hp 13 (lo := 0) (hi := 940) rfl
            have r14 := hr_pv hp 14 (lo := 0) (hi := 4) rfl
            have r19 := hr_pv hp 19 (lo := 0) (hi := 6) rfl
            have r20 := hr_pv hp 20 (lo := 0) (hi := 6) rfl
            have r21 := hr_pv hp 21 (lo := 0) (hi := 8) rfl
            have r22 := hr_pv hp 22 (lo := 0) (hi := 6) rfl
            have r23 := hr_pv hp 23 (lo := 0) (hi := 12) rfl
            have r31 := hr_pv hp 31 (lo := 0) (hi := 4) rfl
            refine cm_iret B hb rfl ⟨_, List.mem_cons_self, hr_aF (ty := ty), (fun q h => nomatch h), ?_⟩ (gx_in hW hG0 hK0) hS dX12_play_77
            refine hr_mk (n := 32) [11, 12, 13, 14, 24, 19, 20, 21, 22, 23, 31] hp0 sm (by decide +kernel) (fun j hj av hav => ?_)
            rcases List.mem_cons.mp hj with rfl | hj
            · have hav : some (.inl (0, 0, []) : ck_AV) = some av := hav
              cases hav
              exact hr_aI (by omega) (by omega)
            rcases List.mem_cons.mp hj with rfl | hj
            · have hav : some (.inl (0, 940, []) : ck_AV) = some av := hav
              cases hav
              exact hr_aI (by omega) (by omega)
            rcases List.mem_cons.mp hj with rfl | hj
            · have hav : some (.inl (0, 940, []) : ck_AV) = some av := hav
              cases hav
              exact hr_aI (by omega) (by omega)
            rcases List.mem_cons.mp hj with rfl | hj
            · have hav : some (.inl (0, 4, []) : ck_AV) = some av := hav
              cases hav
              exact hr_aI (by omega) (by omega)
            rcases List.mem_cons.mp hj with rfl | hj
            · have hav : some (.inl (-2147483648, 2147483647, []) : ck_AV) = some av := hav
              cases hav
              exact hr_aF
            rcases List.mem_cons.mp hj with rfl | hj
            · have hav : some (.inl (0, 6, []) : ck_AV) = some av := hav
              cases hav
              exact hr_aI (by omega) (by omega)
            rcases List.mem_cons.mp hj with rfl | hj
            · have hav : some (.inl (0, 6, []) : ck_AV) = some av := hav
              cases hav
              exact hr_aI (by omega) (by omega)
            rcases List.mem_cons.mp hj with rfl | hj
            · have hav : some (.inl (0, 8, []) : ck_AV) = some av := hav
              cases hav
              exact hr_aI (by omega) (by omega)
            rcases List.mem_cons.mp hj with rfl | hj
            · have hav : some (.inl (0, 6, []) : ck_AV) = some av := hav
              cases hav
              exact hr_aI (by omega) (by omega)
            rcases List.mem_cons.mp hj with rfl | hj
            · have hav : some (.inl (0, 12, []) : ck_AV) = some av := hav
              cases hav
              exact hr_aI (by omega) (by omega)
            obtain rfl := List.mem_singleton.mp hj
            have hav : some (.inl (0, 4, []) : ck_AV) = some av := hav
            cases hav
            exact hr_aI (by omega) (by omega)
  have l24 : ∀ (n24 : Nat) (i : Int32) (pvv : Nat → Int32) (ls : Array Slot) (H : Heap) (locs : List Loc), 140 - i.toInt < n24 → (0 ≤ i.toInt) → (i.toInt ≤ 140) → (∀ j, j < 32 → j ∉ [11, 12, 13, 14, 24, 19, 20, 21, 22, 23, 31] → pvv j = pvv0 j) → ((pvv 11).toInt = 0) → (ck_pvo ty (ck_XE pvv) pPM pvv) → lv_has ls 2 [(1, .int i), (0, .ref a0)] → ck_Wo D cys ty ck_tags ck_pvs0 (tk ty ck_protR C) pvv H → va_S (ck_own ty) s.heap H locs → W p l e (ck_rm kh_12_play) s m [Value.ref a0].toArray below meth c H locs 0 0 (MQ below (ck_Qc D cys ty ck_tags ck_pvs0 (GX ty ck_protR gx_r K) kh_12_play [Value.ref a0] pvv0) [Value.ref a0].toArray s 0 0 (ck_own ty)) (F0 m 24 ls []) := by
    intro n24
    induction n24 with
    | zero => intro i pvv ls H locs hm24 i1 i2 sm len hp hl hW hS; omega
    | succ n24 ih24 =>
      intro i pvv ls H locs hm24 i1 i2 sm len hp hl hW hS
      refine lv_iload_n hx hb dX12_play_24 rfl (lv_at hl 0 rfl) ?_
      refine hr_sp hx hb dX12_play_25 (by decide) (by decide) (fun z25 hz25 => ?_)
      refine hr_ge (tgt := 44) hx hb dX12_play_28 (by decide) (fun h28 => ?_) (fun h28 => ?_)
      · refine lv_aload_n hx hb dX12_play_44 rfl (lv_at hl 1 rfl) ?_
        refine cm_callV (kc := kc_209) B rfl hb hl (hM.1 _ _ 0 [209] (isM (by decide +kernel)) 209 (by decide)) (hH1 _ tk_XR 209 (by decide)) (b := a0) (As := []) ⟨hr_aR t0, True.intro⟩ hp hW hS rfl (by decide) (by decide) (Nat.le_of_ble_eq_true rfl) dX12_play_45 (fun cs hcs r pvv45 H locs hca hW hS => ?_)
        rcases List.mem_cons.mp hcs with rfl | hcs
        · obtain ⟨hr, hq, hc⟩ := hca
          obtain rfl := hr_rv0 hr
          have hp := hr_std hp hc (by decide +kernel)
          have e45w11 := congrArg Int32.toInt (hr_same1 hc (j := 11) (by decide +kernel))
          have e45r13 := hr_pv hc 13 (lo := 0) (hi := 940) rfl
          have e45d13_2026 := hr_pd hc 13 13 (lo := 0) (hi := 940) (a := 0) (b := 940) rfl (by decide)
          have e45r14 := hr_pv hc 14 (lo := 0) (hi := 0) rfl
          have sm : ∀ j, j < 32 → j ∉ [11, 12, 13, 14, 24, 19, 20, 21, 22, 23, 31] → pvv45 j = pvv0 j := fun j h1 h2 => (hr_sameX (l := [11, 12, 13, 14, 24, 19, 20, 21, 22, 23, 31]) hc (by decide +kernel) j h1 h2).trans (sm j h1 h2)
          have len : (pvv45 11).toInt = 0 := by omega
          exact l48 941 i pvv45 _ _ _ (by have := hr_pv hp 13 (lo := 0) (hi := 940) rfl; omega) sm len hp hl hW hS
        rcases List.mem_cons.mp hcs with rfl | hcs
        · obtain ⟨hr, hq, hc⟩ := hca
          obtain rfl := hr_rv0 hr
          have hp := hr_std hp hc (by decide +kernel)
          have e45w11 := congrArg Int32.toInt (hr_same1 hc (j := 11) (by decide +kernel))
          have e45r13 := hr_pv hc 13 (lo := 0) (hi := 940) rfl
          have e45d13_2026 := hr_pd hc 13 13 (lo := 0) (hi := 940) (a := 0) (b := 940) rfl (by decide)
          have e45r14 := hr_pv hc 14 (lo := 4) (hi := 4) rfl
          have sm : ∀ j, j < 32 → j ∉ [11, 12, 13, 14, 24, 19, 20, 21, 22, 23, 31] → pvv45 j = pvv0 j := fun j h1 h2 => (hr_sameX (l := [11, 12, 13, 14, 24, 19, 20, 21, 22, 23, 31]) hc (by decide +kernel) j h1 h2).trans (sm j h1 h2)
          have len : (pvv45 11).toInt = 0 := by omega
          exact l48 941 i pvv45 _ _ _ (by have := hr_pv hp 13 (lo := 0) (hi := 940) rfl; omega) sm len hp hl hW hS
        rcases List.mem_cons.mp hcs with rfl | hcs
        · obtain ⟨hr, hq, hc⟩ := hca
          obtain rfl := hr_rv0 hr
          have hp := hr_std hp hc (by decide +kernel)
          have e45w11 := congrArg Int32.toInt (hr_same1 hc (j := 11) (by decide +kernel))
          have e45r13 := hr_pv hc 13 (lo := 1) (hi := 940) rfl
          have e45d13_2026 := hr_pd hc 13 13 (lo := 1) (hi := 940) (a := 1) (b := 940) rfl (by decide)
          have e45r14 := hr_pv hc 14 (lo := 3) (hi := 3) rfl
          have sm : ∀ j, j < 32 → j ∉ [11, 12, 13, 14, 24, 19, 20, 21, 22, 23, 31] → pvv45 j = pvv0 j := fun j h1 h2 => (hr_sameX (l := [11, 12, 13, 14, 24, 19, 20, 21, 22, 23, 31]) hc (by decide +kernel) j h1 h2).trans (sm j h1 h2)
          have len : (pvv45 11).toInt = 0 := by omega
          exact l48 941 i pvv45 _ _ _ (by have := hr_pv hp 13 (lo := 0) (hi := 940) rfl; omega) sm len hp hl hW hS
        obtain rfl := List.mem_singleton.mp hcs
        obtain ⟨hr, hq, hc⟩ := hca
        obtain rfl := hr_rv0 hr
        have hp := hr_std hp hc (by decide +kernel)
        have e45w11 := congrArg Int32.toInt (hr_same1 hc (j := 11) (by decide +kernel))
        have e45r13 := hr_pv hc 13 (lo := 0) (hi := 940) rfl
        have e45d13_2026 := hr_pd hc 13 13 (lo := 0) (hi := 940) (a := 0) (b := 940) rfl (by decide)
        have e45r14 := hr_pv hc 14 (lo := 1) (hi := 2) rfl
        have sm : ∀ j, j < 32 → j ∉ [11, 12, 13, 14, 24, 19, 20, 21, 22, 23, 31] → pvv45 j = pvv0 j := fun j h1 h2 => (hr_sameX (l := [11, 12, 13, 14, 24, 19, 20, 21, 22, 23, 31]) hc (by decide +kernel) j h1 h2).trans (sm j h1 h2)
        have len : (pvv45 11).toInt = 0 := by omega
        exact l48 941 i pvv45 _ _ _ (by have := hr_pv hp 13 (lo := 0) (hi := 940) rfl; omega) sm len hp hl hW hS
      · refine lv_aload_n hx hb dX12_play_31 rfl (lv_at hl 1 rfl) ?_
        refine hr_getR B hF hb hW (ci := 12) (j := 7) (cd := 3) t0 rfl (isF (by decide +kernel)) rfl dX12_play_32 (fun az32 tz32 xz32 => ?_)
        refine lv_iload_n hx hb dX12_play_35 rfl (lv_at hl 0 rfl) ?_
        refine hr_ic hx hb dX12_play_36 (by decide) (fun z36 hz36 => ?_)
        have g9 := sg_H0 i.toInt.toNat (by omega)
        refine hr_iastG B hb hU hW hS tz32 rfl (by omega) (by omega) ⟨by omega, by omega⟩ (hr_EA (i := i) tk_XR tz32 (u := 0) (v := 139) (by omega) (by omega) (by decide)) dX12_play_37 (fun H locs pvv' hW hS w1 w2 => ?_)
        have hp := hr_stz hp w1 w2 hz36 (by decide +kernel)
        have sm : ∀ j, j < 32 → j ∉ [11, 12, 13, 14, 24, 19, 20, 21, 22, 23, 31] → pvv' j = pvv0 j := by
          intro j h1 h2
          refine (w2 j (fun h9 => ?_)).trans (sm j h1 h2)
          have h8 := pv_only (l := [(19, 0), (20, 1), (21, 2), (22, 3), (23, 4)]) (by decide +kernel) h9
          simp only [List.mem_cons, Prod.mk.injEq, List.not_mem_nil, or_false] at h8 h2
          omega
        have len : (pvv' 11).toInt = 0 := by
          rw [w2 11 ?_]
          · exact len
          · intro h9
            have h8 := pv_only (l := [(19, 0), (20, 1), (21, 2), (22, 3), (23, 4)]) (by decide +kernel) h9
            simp only [List.mem_cons, Prod.mk.injEq, List.not_mem_nil, or_false] at h8
            omega
        refine hr_inc hx hb dX12_play_38 hl (kq := 0) (lv' := fun v => [(1, .int v), (0, .ref a0)]) rfl (by decide) (by decide) (by omega) (by omega) (fun _ => rfl) (fun z38 ls hz38 hl => ?_)
        refine lv_goto (tgt := 24) hx hb dX12_play_41 (by decide) ?_
        exact ih24 z38 pvv' _ _ _ (by omega) (by omega) (by omega) sm len hp hl hW hS
  refine lv_aload_n hx hb dX12_play_0 rfl (lv_at hl 0 rfl) ?_
  refine hr_ic hx hb dX12_play_1 (by decide) (fun z1 hz1 => ?_)
  refine hr_putN B hF hb hU hW hS (ci := 12) (j := 0) (cd := 0) t0 rfl (isF (by decide +kernel)) rfl (by omega) (by omega) (Or.inl rfl) (hr_EO (tk_XR (C := C)) t0 (by decide)) (by decide) dX12_play_2 (fun H locs hW hS => ?_)
  refine lv_aload_n hx hb dX12_play_5 rfl (lv_at hl 0 rfl) ?_
  refine hr_sp hx hb dX12_play_6 (by decide) (by decide) (fun z6 hz6 => ?_)
  refine cm_callV (kc := kc_241) B rfl hb hl (hM.1 _ _ 0 [241] (isM (by decide +kernel)) 241 (by decide)) (hH1 _ tk_XR 241 (by decide)) (b := a0) (As := [.int z6]) ⟨hr_aR t0, hr_aI (by omega) (by omega), True.intro⟩ hp hW hS rfl (by decide) (by decide) (Nat.le_of_ble_eq_true rfl) dX12_play_9 (fun cs hcs r pvv9 H locs hca hW hS => ?_)
  obtain rfl := List.mem_singleton.mp hcs
  obtain ⟨hr, hq, hc⟩ := hca
  obtain rfl := hr_rv0 hr
  have hp := hr_std hp hc (by decide +kernel)
  have e9r11 := hr_pv hc 11 (lo := 0) (hi := 0) rfl
  have e9r13 := hr_pv hc 13 (lo := 0) (hi := 0) rfl
  have e9w14 := congrArg Int32.toInt (hr_same1 hc (j := 14) (by decide +kernel))
  have sm : ∀ j, j < 32 → j ∉ [11, 12, 13, 14, 24, 19, 20, 21, 22, 23, 31] → pvv9 j = pvv0 j := hr_sameX hc (by decide +kernel)
  have len : (pvv9 11).toInt = 0 := by omega
  refine lv_aload_n hx hb dX12_play_12 rfl (lv_at hl 0 rfl) ?_
  refine hr_ic hx hb dX12_play_13 (by decide) (fun z13 hz13 => ?_)
  refine hr_putP B hF hb hU hW hS (ci := 12) (j := 15) (cd := 0) t0 rfl (isF (by decide +kernel)) rfl (by omega) (by omega) (Or.inl rfl) (hr_EO (tk_XR (C := C)) t0 (by decide)) hI (q0 := 31) rfl dX12_play_14 (fun H locs hW hS => ?_)
  obtain ⟨pvv14, e14⟩ : ∃ f, f = upd pvv9 31 z13 := ⟨_, rfl⟩
  rw [← e14] at hW
  have e14q : pvv14 31 = z13 := by rw [e14, pk_us]
  have e14qi := congrArg Int32.toInt e14q
  have e14w11 : (pvv14 11).toInt = (pvv9 11).toInt := by rw [e14, pk_un (by decide)]
  have e14w13 : (pvv14 13).toInt = (pvv9 13).toInt := by rw [e14, pk_un (by decide)]
  have e14w14 : (pvv14 14).toInt = (pvv9 14).toInt := by rw [e14, pk_un (by decide)]
  have hp := hr_updS hp (q := 31) (x := z13) (lo := 0) (hi := 4) rfl (by omega) (by omega) (by decide +kernel); rw [← e14] at hp
  have sm : ∀ j, j < 32 → j ∉ [11, 12, 13, 14, 24, 19, 20, 21, 22, 23, 31] → pvv14 j = pvv0 j := fun j h1 h2 => (by rw [e14, pk_un (fun q => h2 (by rw [q]; decide))]; exact sm j h1 h2)
  have len : (pvv14 11).toInt = 0 := by rw [e14, pk_un (by decide)]; exact len
  refine lv_aload_n hx hb dX12_play_17 rfl (lv_at hl 0 rfl) ?_
  refine hr_ic hx hb dX12_play_18 (by decide) (fun z18 hz18 => ?_)
  refine hr_putN B hF hb hU hW hS (ci := 12) (j := 19) (cd := 0) t0 rfl (isF (by decide +kernel)) rfl (ck_lo _) (ck_hi _) (Or.inl rfl) (hr_EO (tk_XR (C := C)) t0 (by decide)) (by decide) dX12_play_19 (fun H locs hW hS => ?_)
  refine hr_ic hx hb dX12_play_22 (by decide) (fun z22 hz22 => ?_)
  refine lv_istore_n hx hb dX12_play_23 rfl hl (lv' := [(1, .int z22), (0, .ref a0)]) (by decide) rfl (fun ls hl => ?_)
  exact l24 141 z22 pvv14 _ _ _ (by omega) (by omega) (by omega) sm len hp hl hW hS
end H29
