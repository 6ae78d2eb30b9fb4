/-! BY HAND, 18: the class's own book: readLine, read, whyWrong, judge. -/
section H36
variable {l : Launch} {D : va_G} {cys : Nat → ClassId} {ty : Nat → Option Nat} {pvv : Nat → Int32} {C : Nat → Nat → Int32}
theorem dX0_readLine_0 : decode cX0_readLine 0 = .ok (.aload_n 1, 1) := by decide +kernel
theorem dX0_readLine_1 : decode cX0_readLine 1 = .ok (.invokevirtual 58, 3) := by decide +kernel
theorem dX0_readLine_4 : decode cX0_readLine 4 = .ok (.ifCond .eq 8, 3) := by decide +kernel
theorem dX0_readLine_7 : decode cX0_readLine 7 = .ok (.bipush 12, 2) := by decide +kernel
theorem dX0_readLine_9 : decode cX0_readLine 9 = .ok (.goto 7, 3) := by decide +kernel
theorem dX0_readLine_12 : decode cX0_readLine 12 = .ok (.aload_n 1, 1) := by decide +kernel
theorem dX0_readLine_13 : decode cX0_readLine 13 = .ok (.invokevirtual 61, 3) := by decide +kernel
theorem dX0_readLine_16 : decode cX0_readLine 16 = .ok (.istore_n 3, 1) := by decide +kernel
theorem dX0_readLine_17 : decode cX0_readLine 17 = .ok (.aload_n 1, 1) := by decide +kernel
theorem dX0_readLine_18 : decode cX0_readLine 18 = .ok (.iload_n 3, 1) := by decide +kernel
theorem dX0_readLine_19 : decode cX0_readLine 19 = .ok (.invokestatic 65, 3) := by decide +kernel
theorem dX0_readLine_22 : decode cX0_readLine 22 = .ok (.ifCond .ne 9, 3) := by decide +kernel
theorem dX0_readLine_25 : decode cX0_readLine 25 = .ok (.aload_n 1, 1) := by decide +kernel
theorem dX0_readLine_26 : decode cX0_readLine 26 = .ok (.iconst 1, 1) := by decide +kernel
theorem dX0_readLine_27 : decode cX0_readLine 27 = .ok (.invokevirtual 69, 3) := by decide +kernel
theorem dX0_readLine_30 : decode cX0_readLine 30 = .ok (.return_, 1) := by decide +kernel
theorem dX0_readLine_31 : decode cX0_readLine 31 = .ok (.iconst (-1), 1) := by decide +kernel
theorem dX0_readLine_32 : decode cX0_readLine 32 = .ok (.istore 4, 2) := by decide +kernel
theorem dX0_readLine_34 : decode cX0_readLine 34 = .ok (.iload_n 3, 1) := by decide +kernel
theorem dX0_readLine_35 : decode cX0_readLine 35 = .ok (.bipush 12, 2) := by decide +kernel
theorem dX0_readLine_37 : decode cX0_readLine 37 = .ok (.if_icmp .ne 17, 3) := by decide +kernel
theorem dX0_readLine_40 : decode cX0_readLine 40 = .ok (.aload_n 1, 1) := by decide +kernel
theorem dX0_readLine_41 : decode cX0_readLine 41 = .ok (.aload_n 2, 1) := by decide +kernel
theorem dX0_readLine_42 : decode cX0_readLine 42 = .ok (.getfield 72, 3) := by decide +kernel
theorem dX0_readLine_45 : decode cX0_readLine 45 = .ok (.aload_n 2, 1) := by decide +kernel
theorem dX0_readLine_46 : decode cX0_readLine 46 = .ok (.getfield 78, 3) := by decide +kernel
theorem dX0_readLine_49 : decode cX0_readLine 49 = .ok (.invokevirtual 80, 3) := by decide +kernel
theorem dX0_readLine_52 : decode cX0_readLine 52 = .ok (.istore 4, 2) := by decide +kernel
theorem dX0_readLine_54 : decode cX0_readLine 54 = .ok (.aload_n 0, 1) := by decide +kernel
theorem dX0_readLine_55 : decode cX0_readLine 55 = .ok (.getfield 9, 3) := by decide +kernel
theorem dX0_readLine_58 : decode cX0_readLine 58 = .ok (.bipush 40, 2) := by decide +kernel
theorem dX0_readLine_60 : decode cX0_readLine 60 = .ok (.if_icmp .lt 8, 3) := by decide +kernel
theorem dX0_readLine_63 : decode cX0_readLine 63 = .ok (.aload_n 1, 1) := by decide +kernel
theorem dX0_readLine_64 : decode cX0_readLine 64 = .ok (.iconst 4, 1) := by decide +kernel
theorem dX0_readLine_65 : decode cX0_readLine 65 = .ok (.invokevirtual 69, 3) := by decide +kernel
theorem dX0_readLine_68 : decode cX0_readLine 68 = .ok (.aload_n 1, 1) := by decide +kernel
theorem dX0_readLine_69 : decode cX0_readLine 69 = .ok (.invokevirtual 50, 3) := by decide +kernel
theorem dX0_readLine_72 : decode cX0_readLine 72 = .ok (.ifCond .ne 4, 3) := by decide +kernel
theorem dX0_readLine_75 : decode cX0_readLine 75 = .ok (.return_, 1) := by decide +kernel
theorem dX0_readLine_76 : decode cX0_readLine 76 = .ok (.aload_n 1, 1) := by decide +kernel
theorem dX0_readLine_77 : decode cX0_readLine 77 = .ok (.invokevirtual 84, 3) := by decide +kernel
theorem dX0_readLine_80 : decode cX0_readLine 80 = .ok (.aload_n 0, 1) := by decide +kernel
theorem dX0_readLine_81 : decode cX0_readLine 81 = .ok (.getfield 15, 3) := by decide +kernel
theorem dX0_readLine_84 : decode cX0_readLine 84 = .ok (.aload_n 0, 1) := by decide +kernel
theorem dX0_readLine_85 : decode cX0_readLine 85 = .ok (.getfield 9, 3) := by decide +kernel
theorem dX0_readLine_88 : decode cX0_readLine 88 = .ok (.iload_n 3, 1) := by decide +kernel
theorem dX0_readLine_89 : decode cX0_readLine 89 = .ok (.iastore, 1) := by decide +kernel
theorem dX0_readLine_90 : decode cX0_readLine 90 = .ok (.aload_n 0, 1) := by decide +kernel
theorem dX0_readLine_91 : decode cX0_readLine 91 = .ok (.getfield 19, 3) := by decide +kernel
theorem dX0_readLine_94 : decode cX0_readLine 94 = .ok (.aload_n 0, 1) := by decide +kernel
theorem dX0_readLine_95 : decode cX0_readLine 95 = .ok (.getfield 9, 3) := by decide +kernel
theorem dX0_readLine_98 : decode cX0_readLine 98 = .ok (.iload 4, 2) := by decide +kernel
theorem dX0_readLine_100 : decode cX0_readLine 100 = .ok (.iastore, 1) := by decide +kernel
theorem dX0_readLine_101 : decode cX0_readLine 101 = .ok (.iload_n 3, 1) := by decide +kernel
theorem dX0_readLine_102 : decode cX0_readLine 102 = .ok (.bipush 12, 2) := by decide +kernel
theorem dX0_readLine_104 : decode cX0_readLine 104 = .ok (.if_icmp .ne 40, 3) := by decide +kernel
theorem dX0_readLine_107 : decode cX0_readLine 107 = .ok (.aload_n 1, 1) := by decide +kernel
theorem dX0_readLine_108 : decode cX0_readLine 108 = .ok (.bipush 12, 2) := by decide +kernel
theorem dX0_readLine_110 : decode cX0_readLine 110 = .ok (.invokevirtual 87, 3) := by decide +kernel
theorem dX0_readLine_113 : decode cX0_readLine 113 = .ok (.aload_n 1, 1) := by decide +kernel
theorem dX0_readLine_114 : decode cX0_readLine 114 = .ok (.invokevirtual 50, 3) := by decide +kernel
theorem dX0_readLine_117 : decode cX0_readLine 117 = .ok (.ifCond .eq 82, 3) := by decide +kernel
theorem dX0_readLine_120 : decode cX0_readLine 120 = .ok (.aload_n 0, 1) := by decide +kernel
theorem dX0_readLine_121 : decode cX0_readLine 121 = .ok (.getfield 22, 3) := by decide +kernel
theorem dX0_readLine_124 : decode cX0_readLine 124 = .ok (.aload_n 0, 1) := by decide +kernel
theorem dX0_readLine_125 : decode cX0_readLine 125 = .ok (.getfield 9, 3) := by decide +kernel
theorem dX0_readLine_128 : decode cX0_readLine 128 = .ok (.aload_n 1, 1) := by decide +kernel
theorem dX0_readLine_129 : decode cX0_readLine 129 = .ok (.aload_n 2, 1) := by decide +kernel
theorem dX0_readLine_130 : decode cX0_readLine 130 = .ok (.getfield 90, 3) := by decide +kernel
theorem dX0_readLine_133 : decode cX0_readLine 133 = .ok (.aload_n 2, 1) := by decide +kernel
theorem dX0_readLine_134 : decode cX0_readLine 134 = .ok (.getfield 93, 3) := by decide +kernel
theorem dX0_readLine_137 : decode cX0_readLine 137 = .ok (.invokevirtual 96, 3) := by decide +kernel
theorem dX0_readLine_140 : decode cX0_readLine 140 = .ok (.iastore, 1) := by decide +kernel
theorem dX0_readLine_141 : decode cX0_readLine 141 = .ok (.goto 58, 3) := by decide +kernel
theorem dX0_readLine_144 : decode cX0_readLine 144 = .ok (.iload_n 3, 1) := by decide +kernel
theorem dX0_readLine_145 : decode cX0_readLine 145 = .ok (.bipush 13, 2) := by decide +kernel
theorem dX0_readLine_147 : decode cX0_readLine 147 = .ok (.if_icmp .ne 52, 3) := by decide +kernel
theorem dX0_readLine_150 : decode cX0_readLine 150 = .ok (.aload_n 0, 1) := by decide +kernel
theorem dX0_readLine_151 : decode cX0_readLine 151 = .ok (.getfield 19, 3) := by decide +kernel
theorem dX0_readLine_154 : decode cX0_readLine 154 = .ok (.aload_n 0, 1) := by decide +kernel
theorem dX0_readLine_155 : decode cX0_readLine 155 = .ok (.getfield 9, 3) := by decide +kernel
theorem dX0_readLine_158 : decode cX0_readLine 158 = .ok (.aload_n 1, 1) := by decide +kernel
theorem dX0_readLine_159 : decode cX0_readLine 159 = .ok (.aload_n 2, 1) := by decide +kernel
theorem dX0_readLine_160 : decode cX0_readLine 160 = .ok (.getfield 72, 3) := by decide +kernel
theorem dX0_readLine_163 : decode cX0_readLine 163 = .ok (.aload_n 2, 1) := by decide +kernel
theorem dX0_readLine_164 : decode cX0_readLine 164 = .ok (.getfield 78, 3) := by decide +kernel
theorem dX0_readLine_167 : decode cX0_readLine 167 = .ok (.invokevirtual 96, 3) := by decide +kernel
theorem dX0_readLine_170 : decode cX0_readLine 170 = .ok (.iastore, 1) := by decide +kernel
theorem dX0_readLine_171 : decode cX0_readLine 171 = .ok (.aload_n 1, 1) := by decide +kernel
theorem dX0_readLine_172 : decode cX0_readLine 172 = .ok (.invokevirtual 50, 3) := by decide +kernel
theorem dX0_readLine_175 : decode cX0_readLine 175 = .ok (.ifCond .eq 24, 3) := by decide +kernel
theorem dX0_readLine_178 : decode cX0_readLine 178 = .ok (.aload_n 0, 1) := by decide +kernel
theorem dX0_readLine_179 : decode cX0_readLine 179 = .ok (.getfield 22, 3) := by decide +kernel
theorem dX0_readLine_182 : decode cX0_readLine 182 = .ok (.aload_n 0, 1) := by decide +kernel
theorem dX0_readLine_183 : decode cX0_readLine 183 = .ok (.getfield 9, 3) := by decide +kernel
theorem dX0_readLine_186 : decode cX0_readLine 186 = .ok (.aload_n 1, 1) := by decide +kernel
theorem dX0_readLine_187 : decode cX0_readLine 187 = .ok (.aload_n 2, 1) := by decide +kernel
theorem dX0_readLine_188 : decode cX0_readLine 188 = .ok (.getfield 99, 3) := by decide +kernel
theorem dX0_readLine_191 : decode cX0_readLine 191 = .ok (.aload_n 2, 1) := by decide +kernel
theorem dX0_readLine_192 : decode cX0_readLine 192 = .ok (.getfield 102, 3) := by decide +kernel
theorem dX0_readLine_195 : decode cX0_readLine 195 = .ok (.invokevirtual 96, 3) := by decide +kernel
theorem dX0_readLine_198 : decode cX0_readLine 198 = .ok (.iastore, 1) := by decide +kernel
theorem dX0_readLine_199 : decode cX0_readLine 199 = .ok (.return_, 1) := by decide +kernel
set_option maxRecDepth 100000 in
set_option maxHeartbeats 4000000 in
theorem hs_readLine (hF : ck_LKf ck_LK) (hC : ck_LKc ck_LK) (hM : ck_LKm ck_tags ck_LK ck_tab) (hMh : ∀ q ∈ ck_hl, ck_mOK ck_tags q.1 q.2.1 q.2.2.1 q.2.2.2) (hU : ck_uq ty ck_pvs0) (hun : ck_un ty) (hH1 : ∀ Ex', ck_ExP ty ck_prot1 Ex' → ∀ j, j < 331 → ck_Holds l D cys ty ck_tags ck_pvs0 Ex' (ck_tab j)) {a0 a1 a2 : Nat} (t0 : ty a0 = some 0) (t1 : ty a1 = some 8) (t2 : ty a2 = some 6) (hp : ck_pvo ty (ck_XE pvv) pP pvv) (hL : 0 ≤ (C 0 0).toInt ∧ (C 0 0).toInt ≤ 40) : hr_Met l D cys ty ck_tags ck_pvs0 (tk ty ck_prot1 C) kh_0_readLine [.ref a0, .ref a1, .ref a2] pvv (fun r pvv' E' => r = none ∧ ck_pvo ty (ck_XE pvv') pP pvv' ∧ (∀ j, j < 32 → j ∉ [1, 25] → pvv' j = pvv j) ∧ ∃ C' : Nat → Nat → Int32, E' = tk ty ck_prot1 C' ∧ (∀ t j, t ∉ [29, 30, 31] → C' t j = C t j) ∧ (∀ k, k < (C 0 0).toInt.toNat → C' 29 k = C 29 k ∧ C' 30 k = C 30 k ∧ C' 31 k = C 31 k) ∧ ((pvv' 25).toInt = 0 → (C 0 0).toInt ≤ 39 ∧ ((C' 29 (C 0 0).toInt.toNat).toInt = 12 ∨ (C' 29 (C 0 0).toInt.toNat).toInt = 13 → 0 ≤ (C' 30 (C 0 0).toInt.toNat).toInt ∧ 0 ≤ (C' 31 (C 0 0).toInt.toNat).toInt))) := by
  refine hr_enter (by decide +kernel) (by decide +kernel) (by decide +kernel) ⟨hr_aR t0, hr_aR t1, hr_aR t2, True.intro⟩ ?_
  intro p e s m below meth c ls B hl hW
  have hx := B.1
  have hb : c.code = cX0_readLine := B.2.1
  have hI := pv_inj
  have hS : va_S (ck_own ty) s.heap s.heap [] := va_S.rf
  have hl : lv_has ls 5 [(0, .ref a0), (1, .ref a1), (2, .ref a2)] := hl
  have sm : ∀ j, j < 32 → j ∉ [1, 25] → pvv j = pvv j := fun _ _ _ => rfl
  have l54 : ∀ (n54 : Nat) (mm : Int32) (de : Int32) (pvv1 : Nat → Int32) (ls : Array Slot) (H : Heap) (locs : List Loc), (0 : Int) < n54 → (-1 ≤ mm.toInt) → (mm.toInt ≤ 7) → (de.toInt = 12 → 0 ≤ mm.toInt ∨ (pvv1 25).toInt ≠ 0) → (∀ j, j < 32 → j ∉ [1, 25] → pvv1 j = pvv j) → (ck_pvo ty (ck_XE pvv1) pP pvv1) → lv_has ls 5 [(4, .int mm), (3, .int de), (0, .ref a0), (1, .ref a1), (2, .ref a2)] → ck_Wo D cys ty ck_tags ck_pvs0 (tk ty ck_prot1 C) pvv1 H → va_S (ck_own ty) s.heap H locs → W p l e (ck_rm kh_0_readLine) s m [Value.ref a0, Value.ref a1, Value.ref a2].toArray below meth c H locs 0 0 (MQ below (hr_Q D cys ty ck_tags ck_pvs0 (fun r pvv' E' => r = none ∧ ck_pvo ty (ck_XE pvv') pP pvv' ∧ (∀ j, j < 32 → j ∉ [1, 25] → pvv' j = pvv j) ∧ ∃ C' : Nat → Nat → Int32, E' = tk ty ck_prot1 C' ∧ (∀ t j, t ∉ [29, 30, 31] → C' t j = C t j) ∧ (∀ k, k < (C 0 0).toInt.toNat → C' 29 k = C 29 k ∧ C' 30 k = C 30 k ∧ C' 31 k = C 31 k) ∧ ((pvv' 25).toInt = 0 → (C 0 0).toInt ≤ 39 ∧ ((C' 29 (C 0 0).toInt.toNat).toInt = 12 ∨ (C' 29 (C 0 0).toInt.toNat).toInt = 13 → 0 ≤ (C' 30 (C 0 0).toInt.toNat).toInt ∧ 0 ≤ (C' 31 (C 0 0).toInt.toNat).toInt)))) [Value.ref a0, Value.ref a1, Value.ref a2].toArray s 0 0 (ck_own ty)) (F0 m 54 ls []) := by
    intro n54
    induction n54 with
    | zero => intro mm de pvv1 ls H locs hm54 m1 m2 m3 sm hp hl hW hS; omega
    | succ n54 ih54 =>
      intro mm de pvv1 ls H locs hm54 m1 m2 m3 sm hp hl hW hS
      refine lv_aload_n hx hb dX0_readLine_54 rfl (lv_at hl 2 rfl) ?_
      refine hr_getI B hF hb hW (ci := 0) (j := 0) (cd := 0) t0 rfl (isF (by decide +kernel)) rfl dX0_readLine_55 (fun z55 lz55 uz55 pz55 xz55 => ?_)
      have xz55 := tk_xo xz55 (fun _ h => h) (pq := ck_prot1) (C := C) t0 (by decide); have kz55 := congrArg Int32.toInt xz55
      have e55 : z55.toInt = (C 0 0).toInt := by rw [kz55]
      refine hr_bp hx hb dX0_readLine_58 (by decide) (by decide) (fun z58 hz58 => ?_)
      refine hr_lt (tgt := 68) hx hb dX0_readLine_60 (by decide) (fun h60 => ?_) (fun h60 => ?_)
      · refine lv_aload_n hx hb dX0_readLine_68 rfl (lv_at hl 3 rfl) ?_
        refine cm_callV (kc := kc_36) B rfl hb hl (hM.1 _ _ 0 [36] (isM (by decide +kernel)) 36 (by decide)) (hH1 _ tk_X1 36 (by decide)) (b := a1) (As := []) ⟨hr_aR t1, True.intro⟩ hp hW hS rfl (by decide) (by decide) (Nat.le_of_ble_eq_true rfl) dX0_readLine_69 (fun cs hcs r pvv69 H locs hca hW hS => ?_)
        rcases List.mem_cons.mp hcs with rfl | hcs
        · obtain ⟨hr, hq, hc⟩ := hca
          obtain ⟨z69, rfl, lz69, uz69⟩ := hr_rvI hr
          have e69r25 := hr_pv hc 25 (lo := 1) (hi := 4) rfl; rw [hr_same1 hc (j := 25) (by decide +kernel)] at e69r25
          have hW := hr_pvE (hr_sameA hc rfl (by decide +kernel)) hW
          refine hr_ne0 (tgt := 76) hx hb dX0_readLine_72 (by decide) (fun h72 => ?_) (fun h72 => ?_)
          · omega
          · refine hr_vret B hb rfl ⟨rfl, hp, sm, C, rfl, fun t j h => ?_, fun k hk => ⟨?_, ?_, ?_⟩, fun hz => ?_⟩ hW hS dX0_readLine_75
            · rfl
            · rfl
            · rfl
            · rfl
            · omega
        obtain rfl := List.mem_singleton.mp hcs
        obtain ⟨hr, hq, hc⟩ := hca
        obtain ⟨z69, rfl, lz69, uz69⟩ := hr_rvI hr
        have e69r25 := hr_pv hc 25 (lo := 0) (hi := 0) rfl; rw [hr_same1 hc (j := 25) (by decide +kernel)] at e69r25
        have hW := hr_pvE (hr_sameA hc rfl (by decide +kernel)) hW
        refine hr_ne0 (tgt := 76) hx hb dX0_readLine_72 (by decide) (fun h72 => ?_) (fun h72 => ?_)
        · refine lv_aload_n hx hb dX0_readLine_76 rfl (lv_at hl 3 rfl) ?_
          refine cm_callV (kc := kc_57) B rfl hb hl (hM.1 _ _ 0 [57] (isM (by decide +kernel)) 57 (by decide)) (hH1 _ tk_X1 57 (by decide)) (b := a1) (As := []) ⟨hr_aR t1, True.intro⟩ hp hW hS rfl (by decide) (by decide) (Nat.le_of_ble_eq_true rfl) dX0_readLine_77 (fun cs hcs r pvv77 H locs hca hW hS => ?_)
          obtain rfl := List.mem_singleton.mp hcs
          obtain ⟨hr, hq, hc⟩ := hca
          obtain rfl := hr_rv0 hr
          have hp := hr_std hp hc (by decide +kernel)
          have e77w25 := congrArg Int32.toInt (hr_same1 hc (j := 25) (by decide +kernel))
          have sm : ∀ j, j < 32 → j ∉ [1, 25] → pvv77 j = pvv j := fun j h1 h2 => (hr_sameX (l := [1, 25]) hc (by decide +kernel) j h1 h2).trans (sm j h1 h2)
          refine lv_aload_n hx hb dX0_readLine_80 rfl (lv_at hl 2 rfl) ?_
          refine hr_getR B hF hb hW (ci := 0) (j := 1) (cd := 3) t0 rfl (isF (by decide +kernel)) rfl dX0_readLine_81 (fun az81 tz81 xz81 => ?_)
          refine lv_aload_n hx hb dX0_readLine_84 rfl (lv_at hl 2 rfl) ?_
          refine hr_getI B hF hb hW (ci := 0) (j := 0) (cd := 0) t0 rfl (isF (by decide +kernel)) rfl dX0_readLine_85 (fun z85 lz85 uz85 pz85 xz85 => ?_)
          have xz85 := tk_xo xz85 (fun _ h => h) (pq := ck_prot1) (C := C) t0 (by decide); have kz85 := congrArg Int32.toInt xz85
          have e85 : z85.toInt = (C 0 0).toInt := by rw [kz85]
          refine lv_iload_n hx hb dX0_readLine_88 rfl (lv_at hl 1 rfl) ?_
          refine hr_iastN B hb hU hW hS tz81 rfl (by omega) (by omega) ⟨ck_lo _, ck_hi _⟩ (tk_EA tz81 (fun a h => hun 29 (by decide) _ _ tz81 h)) (u := 0) (v := 39) (by omega) (by omega) (by decide) dX0_readLine_89 (fun H locs hW hS => ?_)
          obtain ⟨C89, c89⟩ : ∃ f, f = tk_upd C 29 (z85.toInt.toNat) de := ⟨_, rfl⟩
          rw [← c89] at hW
          refine lv_aload_n hx hb dX0_readLine_90 rfl (lv_at hl 2 rfl) ?_
          refine hr_getR B hF hb hW (ci := 0) (j := 2) (cd := 3) t0 rfl (isF (by decide +kernel)) rfl dX0_readLine_91 (fun az91 tz91 xz91 => ?_)
          refine lv_aload_n hx hb dX0_readLine_94 rfl (lv_at hl 2 rfl) ?_
          refine hr_getI B hF hb hW (ci := 0) (j := 0) (cd := 0) t0 rfl (isF (by decide +kernel)) rfl dX0_readLine_95 (fun z95 lz95 uz95 pz95 xz95 => ?_)
          have xz95 := tk_xo xz95 (fun _ h => h) (pq := ck_prot1) (C := C89) t0 (by decide); have kz95 := congrArg Int32.toInt xz95
          have e95 : z95.toInt = (C 0 0).toInt := by rw [kz95, c89, tk_unt (by decide)]
          refine lv_iload hx hb dX0_readLine_98 (lv_at hl 0 rfl) ?_
          refine hr_iastN B hb hU hW hS tz91 rfl (by omega) (by omega) (hr_ins (a := 0) (b := 39) (lo := -1) (hi := 7) (by omega) (by omega) (by decide +kernel) (by omega) (by omega)) (tk_EA tz91 (fun a h => hun 30 (by decide) _ _ tz91 h)) (u := 0) (v := 39) (by omega) (by omega) (by decide) dX0_readLine_100 (fun H locs hW hS => ?_)
          obtain ⟨C100, c100⟩ : ∃ f, f = tk_upd C89 30 (z95.toInt.toNat) mm := ⟨_, rfl⟩
          rw [← c100] at hW
          refine lv_iload_n hx hb dX0_readLine_101 rfl (lv_at hl 1 rfl) ?_
          refine hr_bp hx hb dX0_readLine_102 (by decide) (by decide) (fun z102 hz102 => ?_)
          refine hr_ne (tgt := 144) hx hb dX0_readLine_104 (by decide) (fun h104 => ?_) (fun h104 => ?_)
          · refine lv_iload_n hx hb dX0_readLine_144 rfl (lv_at hl 1 rfl) ?_
            refine hr_bp hx hb dX0_readLine_145 (by decide) (by decide) (fun z145 hz145 => ?_)
            refine hr_ne (tgt := 199) hx hb dX0_readLine_147 (by decide) (fun h147 => ?_) (fun h147 => ?_)
            · refine hr_vret B hb rfl ⟨rfl, hp, sm, C100, rfl, fun t j h => ?_, fun k hk => ⟨?_, ?_, ?_⟩, fun hz => ?_⟩ hW hS dX0_readLine_199
              · rw [c100, tk_unt (by intro q; subst q; simp at h), c89, tk_unt (by intro q; subst q; simp at h)]
              · rw [c100, tk_unt (by decide), c89, tk_unj (by omega)]
              · rw [c100, tk_unj (by omega), c89, tk_unt (by decide)]
              · rw [c100, tk_unt (by decide), c89, tk_unt (by decide)]
              · refine ⟨by omega, fun h9 => ⟨?_, ?_⟩⟩
                · rw [c100, tk_unt (by decide), c89, show (C 0 0).toInt.toNat = z85.toInt.toNat by omega, tk_us] at h9
                  rw [c100, show (C 0 0).toInt.toNat = z95.toInt.toNat by omega, tk_us]; omega
                · rw [c100, tk_unt (by decide), c89, show (C 0 0).toInt.toNat = z85.toInt.toNat by omega, tk_us] at h9
                  omega
            · refine lv_aload_n hx hb dX0_readLine_150 rfl (lv_at hl 2 rfl) ?_
              refine hr_getR B hF hb hW (ci := 0) (j := 2) (cd := 3) t0 rfl (isF (by decide +kernel)) rfl dX0_readLine_151 (fun az151 tz151 xz151 => ?_)
              refine lv_aload_n hx hb dX0_readLine_154 rfl (lv_at hl 2 rfl) ?_
              refine hr_getI B hF hb hW (ci := 0) (j := 0) (cd := 0) t0 rfl (isF (by decide +kernel)) rfl dX0_readLine_155 (fun z155 lz155 uz155 pz155 xz155 => ?_)
              have xz155 := tk_xo xz155 (fun _ h => h) (pq := ck_prot1) (C := C100) t0 (by decide); have kz155 := congrArg Int32.toInt xz155
              have e155 : z155.toInt = (C 0 0).toInt := by rw [kz155, c100, tk_unt (by decide), c89, tk_unt (by decide)]
              refine lv_aload_n hx hb dX0_readLine_158 rfl (lv_at hl 3 rfl) ?_
              refine lv_aload_n hx hb dX0_readLine_159 rfl (lv_at hl 4 rfl) ?_
              refine hr_getR B hF hb hW (ci := 6) (j := 8) (cd := 3) t2 rfl (isF (by decide +kernel)) rfl dX0_readLine_160 (fun az160 tz160 xz160 => ?_)
              refine lv_aload_n hx hb dX0_readLine_163 rfl (lv_at hl 4 rfl) ?_
              refine hr_getI B hF hb hW (ci := 6) (j := 2) (cd := 0) t2 rfl (isF (by decide +kernel)) rfl dX0_readLine_164 (fun z164 lz164 uz164 pz164 xz164 => ?_)
              have xz164 := tk_xo xz164 (fun _ h => h) (pq := ck_prot1) (C := C100) t2 (by decide); have kz164 := congrArg Int32.toInt xz164
              refine cm_callV (kc := kc_63) B rfl hb hl (hM.1 _ _ 0 [58, 59, 60, 61, 62, 63] (isM (by decide +kernel)) 63 (by decide)) (hH1 _ tk_X1 63 (by decide)) (b := a1) (As := [.ref az160, .int z164]) ⟨hr_aR t1, hr_aR tz160, hr_aF, True.intro⟩ hp hW hS rfl (by decide) (by decide) (Nat.le_of_ble_eq_true rfl) dX0_readLine_167 (fun cs hcs r pvv167 H locs hca hW hS => ?_)
              rcases List.mem_cons.mp hcs with rfl | hcs
              · obtain ⟨hr, hq, hc⟩ := hca
                obtain ⟨z167, rfl, lz167, uz167⟩ := hr_rvI hr
                have hp := hr_std hp hc (by decide +kernel)
                have e167r25 := hr_pv hc 25 (lo := 1) (hi := 4) rfl
                have sm : ∀ j, j < 32 → j ∉ [1, 25] → pvv167 j = pvv j := fun j h1 h2 => (hr_sameX (l := [1, 25]) hc (by decide +kernel) j h1 h2).trans (sm j h1 h2)
                refine hr_iastN B hb hU hW hS tz151 rfl (by omega) (by omega) (hr_ins (a := 0) (b := 39) (lo := -1) (hi := 7) (by omega) (by omega) (by decide +kernel) (by omega) (by omega)) (tk_EA tz151 (fun a h => hun 30 (by decide) _ _ tz151 h)) (u := 0) (v := 39) (by omega) (by omega) (by decide) dX0_readLine_170 (fun H locs hW hS => ?_)
                obtain ⟨C170, c170⟩ : ∃ f, f = tk_upd C100 30 (z155.toInt.toNat) z167 := ⟨_, rfl⟩
                rw [← c170] at hW
                refine lv_aload_n hx hb dX0_readLine_171 rfl (lv_at hl 3 rfl) ?_
                refine cm_callV (kc := kc_36) B rfl hb hl (hM.1 _ _ 0 [36] (isM (by decide +kernel)) 36 (by decide)) (hH1 _ tk_X1 36 (by decide)) (b := a1) (As := []) ⟨hr_aR t1, True.intro⟩ hp hW hS rfl (by decide) (by decide) (Nat.le_of_ble_eq_true rfl) dX0_readLine_172 (fun cs hcs r pvv172 H locs hca hW hS => ?_)
                rcases List.mem_cons.mp hcs with rfl | hcs
                · obtain ⟨hr, hq, hc⟩ := hca
                  obtain ⟨z172, rfl, lz172, uz172⟩ := hr_rvI hr
                  have e172r25 := hr_pv hc 25 (lo := 1) (hi := 4) rfl; rw [hr_same1 hc (j := 25) (by decide +kernel)] at e172r25
                  have hW := hr_pvE (hr_sameA hc rfl (by decide +kernel)) hW
                  refine hr_eq0 (tgt := 199) hx hb dX0_readLine_175 (by decide) (fun h175 => ?_) (fun h175 => ?_)
                  · refine hr_vret B hb rfl ⟨rfl, hp, sm, C170, rfl, fun t j h => ?_, fun k hk => ⟨?_, ?_, ?_⟩, fun hz => ?_⟩ hW hS dX0_readLine_199
                    · rw [c170, tk_unt (by intro q; subst q; simp at h), c100, tk_unt (by intro q; subst q; simp at h), c89, tk_unt (by intro q; subst q; simp at h)]
                    · rw [c170, tk_unt (by decide), c100, tk_unt (by decide), c89, tk_unj (by omega)]
                    · rw [c170, tk_unj (by omega), c100, tk_unj (by omega), c89, tk_unt (by decide)]
                    · rw [c170, tk_unt (by decide), c100, tk_unt (by decide), c89, tk_unt (by decide)]
                    · refine ⟨by omega, fun h9 => ⟨?_, ?_⟩⟩
                      · rw [c170, tk_unt (by decide), c100, tk_unt (by decide), c89, show (C 0 0).toInt.toNat = z85.toInt.toNat by omega, tk_us] at h9
                        rw [c170, show (C 0 0).toInt.toNat = z155.toInt.toNat by omega, tk_us]; omega
                      · rw [c170, tk_unt (by decide), c100, tk_unt (by decide), c89, show (C 0 0).toInt.toNat = z85.toInt.toNat by omega, tk_us] at h9
                        omega
                  · omega
                obtain rfl := List.mem_singleton.mp hcs
                obtain ⟨hr, hq, hc⟩ := hca
                obtain ⟨z172, rfl, lz172, uz172⟩ := hr_rvI hr
                have e172r25 := hr_pv hc 25 (lo := 0) (hi := 0) rfl; rw [hr_same1 hc (j := 25) (by decide +kernel)] at e172r25
                have hW := hr_pvE (hr_sameA hc rfl (by decide +kernel)) hW
                refine hr_eq0 (tgt := 199) hx hb dX0_readLine_175 (by decide) (fun h175 => ?_) (fun h175 => ?_)
                · omega
                · refine lv_aload_n hx hb dX0_readLine_178 rfl (lv_at hl 2 rfl) ?_
                  refine hr_getR B hF hb hW (ci := 0) (j := 3) (cd := 3) t0 rfl (isF (by decide +kernel)) rfl dX0_readLine_179 (fun az179 tz179 xz179 => ?_)
                  refine lv_aload_n hx hb dX0_readLine_182 rfl (lv_at hl 2 rfl) ?_
                  refine hr_getI B hF hb hW (ci := 0) (j := 0) (cd := 0) t0 rfl (isF (by decide +kernel)) rfl dX0_readLine_183 (fun z183 lz183 uz183 pz183 xz183 => ?_)
                  have xz183 := tk_xo xz183 (fun _ h => h) (pq := ck_prot1) (C := C170) t0 (by decide); have kz183 := congrArg Int32.toInt xz183
                  have e183 : z183.toInt = (C 0 0).toInt := by rw [kz183, c170, tk_unt (by decide), c100, tk_unt (by decide), c89, tk_unt (by decide)]
                  refine lv_aload_n hx hb dX0_readLine_186 rfl (lv_at hl 3 rfl) ?_
                  refine lv_aload_n hx hb dX0_readLine_187 rfl (lv_at hl 4 rfl) ?_
                  refine hr_getR B hF hb hW (ci := 6) (j := 7) (cd := 3) t2 rfl (isF (by decide +kernel)) rfl dX0_readLine_188 (fun az188 tz188 xz188 => ?_)
                  refine lv_aload_n hx hb dX0_readLine_191 rfl (lv_at hl 4 rfl) ?_
                  refine hr_getI B hF hb hW (ci := 6) (j := 1) (cd := 0) t2 rfl (isF (by decide +kernel)) rfl dX0_readLine_192 (fun z192 lz192 uz192 pz192 xz192 => ?_)
                  have xz192 := tk_xo xz192 (fun _ h => h) (pq := ck_prot1) (C := C170) t2 (by decide); have kz192 := congrArg Int32.toInt xz192
                  refine cm_callV (kc := kc_62) B rfl hb hl (hM.1 _ _ 0 [58, 59, 60, 61, 62, 63] (isM (by decide +kernel)) 62 (by decide)) (hH1 _ tk_X1 62 (by decide)) (b := a1) (As := [.ref az188, .int z192]) ⟨hr_aR t1, hr_aR tz188, hr_aF, True.intro⟩ hp hW hS rfl (by decide) (by decide) (Nat.le_of_ble_eq_true rfl) dX0_readLine_195 (fun cs hcs r pvv195 H locs hca hW hS => ?_)
                  rcases List.mem_cons.mp hcs with rfl | hcs
                  · obtain ⟨hr, hq, hc⟩ := hca
                    obtain ⟨z195, rfl, lz195, uz195⟩ := hr_rvI hr
                    have hp := hr_std hp hc (by decide +kernel)
                    have e195r25 := hr_pv hc 25 (lo := 1) (hi := 4) rfl
                    have sm : ∀ j, j < 32 → j ∉ [1, 25] → pvv195 j = pvv j := fun j h1 h2 => (hr_sameX (l := [1, 25]) hc (by decide +kernel) j h1 h2).trans (sm j h1 h2)
                    refine hr_iastN B hb hU hW hS tz179 rfl (by omega) (by omega) (hr_ins (a := 0) (b := 39) (lo := -1) (hi := 5) (by omega) (by omega) (by decide +kernel) (by omega) (by omega)) (tk_EA tz179 (fun a h => hun 31 (by decide) _ _ tz179 h)) (u := 0) (v := 39) (by omega) (by omega) (by decide) dX0_readLine_198 (fun H locs hW hS => ?_)
                    obtain ⟨C198, c198⟩ : ∃ f, f = tk_upd C170 31 (z183.toInt.toNat) z195 := ⟨_, rfl⟩
                    rw [← c198] at hW
                    refine hr_vret B hb rfl ⟨rfl, hp, sm, C198, rfl, fun t j h => ?_, fun k hk => ⟨?_, ?_, ?_⟩, fun hz => ?_⟩ hW hS dX0_readLine_199
                    · rw [c198, tk_unt (by intro q; subst q; simp at h), c170, tk_unt (by intro q; subst q; simp at h), c100, tk_unt (by intro q; subst q; simp at h), c89, tk_unt (by intro q; subst q; simp at h)]
                    · rw [c198, tk_unt (by decide), c170, tk_unt (by decide), c100, tk_unt (by decide), c89, tk_unj (by omega)]
                    · rw [c198, tk_unt (by decide), c170, tk_unj (by omega), c100, tk_unj (by omega), c89, tk_unt (by decide)]
                    · rw [c198, tk_unj (by omega), c170, tk_unt (by decide), c100, tk_unt (by decide), c89, tk_unt (by decide)]
                    · refine ⟨by omega, fun h9 => ⟨?_, ?_⟩⟩
                      · rw [c198, tk_unt (by decide), c170, tk_unt (by decide), c100, tk_unt (by decide), c89, show (C 0 0).toInt.toNat = z85.toInt.toNat by omega, tk_us] at h9
                        rw [c198, tk_unt (by decide), c170, show (C 0 0).toInt.toNat = z155.toInt.toNat by omega, tk_us]; omega
                      · rw [c198, tk_unt (by decide), c170, tk_unt (by decide), c100, tk_unt (by decide), c89, show (C 0 0).toInt.toNat = z85.toInt.toNat by omega, tk_us] at h9
                        rw [c198, show (C 0 0).toInt.toNat = z183.toInt.toNat by omega, tk_us]; omega
                  obtain rfl := List.mem_singleton.mp hcs
                  obtain ⟨hr, hq, hc⟩ := hca
                  obtain ⟨z195, rfl, lz195, uz195⟩ := hr_rvI hr
                  have hp := hr_std hp hc (by decide +kernel)
                  have e195w25 := congrArg Int32.toInt (hr_same1 hc (j := 25) (by decide +kernel))
                  have sm : ∀ j, j < 32 → j ∉ [1, 25] → pvv195 j = pvv j := fun j h1 h2 => (hr_sameX (l := [1, 25]) hc (by decide +kernel) j h1 h2).trans (sm j h1 h2)
                  refine hr_iastN B hb hU hW hS tz179 rfl (by omega) (by omega) (hr_ins (a := 0) (b := 39) (lo := -1) (hi := 5) (by omega) (by omega) (by decide +kernel) (by omega) (by omega)) (tk_EA tz179 (fun a h => hun 31 (by decide) _ _ tz179 h)) (u := 0) (v := 39) (by omega) (by omega) (by decide) dX0_readLine_198 (fun H locs hW hS => ?_)
                  obtain ⟨C198, c198⟩ : ∃ f, f = tk_upd C170 31 (z183.toInt.toNat) z195 := ⟨_, rfl⟩
                  rw [← c198] at hW
                  refine hr_vret B hb rfl ⟨rfl, hp, sm, C198, rfl, fun t j h => ?_, fun k hk => ⟨?_, ?_, ?_⟩, fun hz => ?_⟩ hW hS dX0_readLine_199
                  · rw [c198, tk_unt (by intro q; subst q; simp at h), c170, tk_unt (by intro q; subst q; simp at h), c100, tk_unt (by intro q; subst q; simp at h), c89, tk_unt (by intro q; subst q; simp at h)]
                  · rw [c198, tk_unt (by decide), c170, tk_unt (by decide), c100, tk_unt (by decide), c89, tk_unj (by omega)]
                  · rw [c198, tk_unt (by decide), c170, tk_unj (by omega), c100, tk_unj (by omega), c89, tk_unt (by decide)]
                  · rw [c198, tk_unj (by omega), c170, tk_unt (by decide), c100, tk_unt (by decide), c89, tk_unt (by decide)]
                  · refine ⟨by omega, fun h9 => ⟨?_, ?_⟩⟩
                    · rw [c198, tk_unt (by decide), c170, tk_unt (by decide), c100, tk_unt (by decide), c89, show (C 0 0).toInt.toNat = z85.toInt.toNat by omega, tk_us] at h9
                      rw [c198, tk_unt (by decide), c170, show (C 0 0).toInt.toNat = z155.toInt.toNat by omega, tk_us]; omega
                    · rw [c198, tk_unt (by decide), c170, tk_unt (by decide), c100, tk_unt (by decide), c89, show (C 0 0).toInt.toNat = z85.toInt.toNat by omega, tk_us] at h9
                      rw [c198, show (C 0 0).toInt.toNat = z183.toInt.toNat by omega, tk_us]; omega
              obtain rfl := List.mem_singleton.mp hcs
              obtain ⟨hr, hq, hc⟩ := hca
              obtain ⟨z167, rfl, lz167, uz167⟩ := hr_rvI hr
              have hp := hr_std hp hc (by decide +kernel)
              have e167w25 := congrArg Int32.toInt (hr_same1 hc (j := 25) (by decide +kernel))
              have sm : ∀ j, j < 32 → j ∉ [1, 25] → pvv167 j = pvv j := fun j h1 h2 => (hr_sameX (l := [1, 25]) hc (by decide +kernel) j h1 h2).trans (sm j h1 h2)
              refine hr_iastN B hb hU hW hS tz151 rfl (by omega) (by omega) (hr_ins (a := 0) (b := 39) (lo := -1) (hi := 7) (by omega) (by omega) (by decide +kernel) (by omega) (by omega)) (tk_EA tz151 (fun a h => hun 30 (by decide) _ _ tz151 h)) (u := 0) (v := 39) (by omega) (by omega) (by decide) dX0_readLine_170 (fun H locs hW hS => ?_)
              obtain ⟨C170, c170⟩ : ∃ f, f = tk_upd C100 30 (z155.toInt.toNat) z167 := ⟨_, rfl⟩
              rw [← c170] at hW
              refine lv_aload_n hx hb dX0_readLine_171 rfl (lv_at hl 3 rfl) ?_
              refine cm_callV (kc := kc_36) B rfl hb hl (hM.1 _ _ 0 [36] (isM (by decide +kernel)) 36 (by decide)) (hH1 _ tk_X1 36 (by decide)) (b := a1) (As := []) ⟨hr_aR t1, True.intro⟩ hp hW hS rfl (by decide) (by decide) (Nat.le_of_ble_eq_true rfl) dX0_readLine_172 (fun cs hcs r pvv172 H locs hca hW hS => ?_)
              rcases List.mem_cons.mp hcs with rfl | hcs
              · obtain ⟨hr, hq, hc⟩ := hca
                obtain ⟨z172, rfl, lz172, uz172⟩ := hr_rvI hr
                have e172r25 := hr_pv hc 25 (lo := 1) (hi := 4) rfl; rw [hr_same1 hc (j := 25) (by decide +kernel)] at e172r25
                have hW := hr_pvE (hr_sameA hc rfl (by decide +kernel)) hW
                refine hr_eq0 (tgt := 199) hx hb dX0_readLine_175 (by decide) (fun h175 => ?_) (fun h175 => ?_)
                · refine hr_vret B hb rfl ⟨rfl, hp, sm, C170, rfl, fun t j h => ?_, fun k hk => ⟨?_, ?_, ?_⟩, fun hz => ?_⟩ hW hS dX0_readLine_199
                  · rw [c170, tk_unt (by intro q; subst q; simp at h), c100, tk_unt (by intro q; subst q; simp at h), c89, tk_unt (by intro q; subst q; simp at h)]
                  · rw [c170, tk_unt (by decide), c100, tk_unt (by decide), c89, tk_unj (by omega)]
                  · rw [c170, tk_unj (by omega), c100, tk_unj (by omega), c89, tk_unt (by decide)]
                  · rw [c170, tk_unt (by decide), c100, tk_unt (by decide), c89, tk_unt (by decide)]
                  · refine ⟨by omega, fun h9 => ⟨?_, ?_⟩⟩
                    · rw [c170, tk_unt (by decide), c100, tk_unt (by decide), c89, show (C 0 0).toInt.toNat = z85.toInt.toNat by omega, tk_us] at h9
                      rw [c170, show (C 0 0).toInt.toNat = z155.toInt.toNat by omega, tk_us]; omega
                    · rw [c170, tk_unt (by decide), c100, tk_unt (by decide), c89, show (C 0 0).toInt.toNat = z85.toInt.toNat by omega, tk_us] at h9
                      omega
                · omega
              obtain rfl := List.mem_singleton.mp hcs
              obtain ⟨hr, hq, hc⟩ := hca
              obtain ⟨z172, rfl, lz172, uz172⟩ := hr_rvI hr
              have e172r25 := hr_pv hc 25 (lo := 0) (hi := 0) rfl; rw [hr_same1 hc (j := 25) (by decide +kernel)] at e172r25
              have hW := hr_pvE (hr_sameA hc rfl (by decide +kernel)) hW
              refine hr_eq0 (tgt := 199) hx hb dX0_readLine_175 (by decide) (fun h175 => ?_) (fun h175 => ?_)
              · omega
              · refine lv_aload_n hx hb dX0_readLine_178 rfl (lv_at hl 2 rfl) ?_
                refine hr_getR B hF hb hW (ci := 0) (j := 3) (cd := 3) t0 rfl (isF (by decide +kernel)) rfl dX0_readLine_179 (fun az179 tz179 xz179 => ?_)
                refine lv_aload_n hx hb dX0_readLine_182 rfl (lv_at hl 2 rfl) ?_
                refine hr_getI B hF hb hW (ci := 0) (j := 0) (cd := 0) t0 rfl (isF (by decide +kernel)) rfl dX0_readLine_183 (fun z183 lz183 uz183 pz183 xz183 => ?_)
                have xz183 := tk_xo xz183 (fun _ h => h) (pq := ck_prot1) (C := C170) t0 (by decide); have kz183 := congrArg Int32.toInt xz183
                have e183 : z183.toInt = (C 0 0).toInt := by rw [kz183, c170, tk_unt (by decide), c100, tk_unt (by decide), c89, tk_unt (by decide)]
                refine lv_aload_n hx hb dX0_readLine_186 rfl (lv_at hl 3 rfl) ?_
                refine lv_aload_n hx hb dX0_readLine_187 rfl (lv_at hl 4 rfl) ?_
                refine hr_getR B hF hb hW (ci := 6) (j := 7) (cd := 3) t2 rfl (isF (by decide +kernel)) rfl dX0_readLine_188 (fun az188 tz188 xz188 => ?_)
                refine lv_aload_n hx hb dX0_readLine_191 rfl (lv_at hl 4 rfl) ?_
                refine hr_getI B hF hb hW (ci := 6) (j := 1) (cd := 0) t2 rfl (isF (by decide +kernel)) rfl dX0_readLine_192 (fun z192 lz192 uz192 pz192 xz192 => ?_)
                have xz192 := tk_xo xz192 (fun _ h => h) (pq := ck_prot1) (C := C170) t2 (by decide); have kz192 := congrArg Int32.toInt xz192
                refine cm_callV (kc := kc_62) B rfl hb hl (hM.1 _ _ 0 [58, 59, 60, 61, 62, 63] (isM (by decide +kernel)) 62 (by decide)) (hH1 _ tk_X1 62 (by decide)) (b := a1) (As := [.ref az188, .int z192]) ⟨hr_aR t1, hr_aR tz188, hr_aF, True.intro⟩ hp hW hS rfl (by decide) (by decide) (Nat.le_of_ble_eq_true rfl) dX0_readLine_195 (fun cs hcs r pvv195 H locs hca hW hS => ?_)
                rcases List.mem_cons.mp hcs with rfl | hcs
                · obtain ⟨hr, hq, hc⟩ := hca
                  obtain ⟨z195, rfl, lz195, uz195⟩ := hr_rvI hr
                  have hp := hr_std hp hc (by decide +kernel)
                  have e195r25 := hr_pv hc 25 (lo := 1) (hi := 4) rfl
                  have sm : ∀ j, j < 32 → j ∉ [1, 25] → pvv195 j = pvv j := fun j h1 h2 => (hr_sameX (l := [1, 25]) hc (by decide +kernel) j h1 h2).trans (sm j h1 h2)
                  refine hr_iastN B hb hU hW hS tz179 rfl (by omega) (by omega) (hr_ins (a := 0) (b := 39) (lo := -1) (hi := 5) (by omega) (by omega) (by decide +kernel) (by omega) (by omega)) (tk_EA tz179 (fun a h => hun 31 (by decide) _ _ tz179 h)) (u := 0) (v := 39) (by omega) (by omega) (by decide) dX0_readLine_198 (fun H locs hW hS => ?_)
                  obtain ⟨C198, c198⟩ : ∃ f, f = tk_upd C170 31 (z183.toInt.toNat) z195 := ⟨_, rfl⟩
                  rw [← c198] at hW
                  refine hr_vret B hb rfl ⟨rfl, hp, sm, C198, rfl, fun t j h => ?_, fun k hk => ⟨?_, ?_, ?_⟩, fun hz => ?_⟩ hW hS dX0_readLine_199
                  · rw [c198, tk_unt (by intro q; subst q; simp at h), c170, tk_unt (by intro q; subst q; simp at h), c100, tk_unt (by intro q; subst q; simp at h), c89, tk_unt (by intro q; subst q; simp at h)]
                  · rw [c198, tk_unt (by decide), c170, tk_unt (by decide), c100, tk_unt (by decide), c89, tk_unj (by omega)]
                  · rw [c198, tk_unt (by decide), c170, tk_unj (by omega), c100, tk_unj (by omega), c89, tk_unt (by decide)]
                  · rw [c198, tk_unj (by omega), c170, tk_unt (by decide), c100, tk_unt (by decide), c89, tk_unt (by decide)]
                  · refine ⟨by omega, fun h9 => ⟨?_, ?_⟩⟩
                    · rw [c198, tk_unt (by decide), c170, tk_unt (by decide), c100, tk_unt (by decide), c89, show (C 0 0).toInt.toNat = z85.toInt.toNat by omega, tk_us] at h9
                      rw [c198, tk_unt (by decide), c170, show (C 0 0).toInt.toNat = z155.toInt.toNat by omega, tk_us]; omega
                    · rw [c198, tk_unt (by decide), c170, tk_unt (by decide), c100, tk_unt (by decide), c89, show (C 0 0).toInt.toNat = z85.toInt.toNat by omega, tk_us] at h9
                      rw [c198, show (C 0 0).toInt.toNat = z183.toInt.toNat by omega, tk_us]; omega
                obtain rfl := List.mem_singleton.mp hcs
                obtain ⟨hr, hq, hc⟩ := hca
                obtain ⟨z195, rfl, lz195, uz195⟩ := hr_rvI hr
                have hp := hr_std hp hc (by decide +kernel)
                have e195w25 := congrArg Int32.toInt (hr_same1 hc (j := 25) (by decide +kernel))
                have sm : ∀ j, j < 32 → j ∉ [1, 25] → pvv195 j = pvv j := fun j h1 h2 => (hr_sameX (l := [1, 25]) hc (by decide +kernel) j h1 h2).trans (sm j h1 h2)
                refine hr_iastN B hb hU hW hS tz179 rfl (by omega) (by omega) (hr_ins (a := 0) (b := 39) (lo := -1) (hi := 5) (by omega) (by omega) (by decide +kernel) (by omega) (by omega)) (tk_EA tz179 (fun a h => hun 31 (by decide) _ _ tz179 h)) (u := 0) (v := 39) (by omega) (by omega) (by decide) dX0_readLine_198 (fun H locs hW hS => ?_)
                obtain ⟨C198, c198⟩ : ∃ f, f = tk_upd C170 31 (z183.toInt.toNat) z195 := ⟨_, rfl⟩
                rw [← c198] at hW
                refine hr_vret B hb rfl ⟨rfl, hp, sm, C198, rfl, fun t j h => ?_, fun k hk => ⟨?_, ?_, ?_⟩, fun hz => ?_⟩ hW hS dX0_readLine_199
                · rw [c198, tk_unt (by intro q; subst q; simp at h), c170, tk_unt (by intro q; subst q; simp at h), c100, tk_unt (by intro q; subst q; simp at h), c89, tk_unt (by intro q; subst q; simp at h)]
                · rw [c198, tk_unt (by decide), c170, tk_unt (by decide), c100, tk_unt (by decide), c89, tk_unj (by omega)]
                · rw [c198, tk_unt (by decide), c170, tk_unj (by omega), c100, tk_unj (by omega), c89, tk_unt (by decide)]
                · rw [c198, tk_unj (by omega), c170, tk_unt (by decide), c100, tk_unt (by decide), c89, tk_unt (by decide)]
                · refine ⟨by omega, fun h9 => ⟨?_, ?_⟩⟩
                  · rw [c198, tk_unt (by decide), c170, tk_unt (by decide), c100, tk_unt (by decide), c89, show (C 0 0).toInt.toNat = z85.toInt.toNat by omega, tk_us] at h9
                    rw [c198, tk_unt (by decide), c170, show (C 0 0).toInt.toNat = z155.toInt.toNat by omega, tk_us]; omega
                  · rw [c198, tk_unt (by decide), c170, tk_unt (by decide), c100, tk_unt (by decide), c89, show (C 0 0).toInt.toNat = z85.toInt.toNat by omega, tk_us] at h9
                    rw [c198, show (C 0 0).toInt.toNat = z183.toInt.toNat by omega, tk_us]; omega
          · refine lv_aload_n hx hb dX0_readLine_107 rfl (lv_at hl 3 rfl) ?_
            refine hr_bp hx hb dX0_readLine_108 (by decide) (by decide) (fun z108 hz108 => ?_)
            refine cm_callV (kc := kc_65) B rfl hb hl (hM.1 _ _ 0 [65] (isM (by decide +kernel)) 65 (by decide)) (hH1 _ tk_X1 65 (by decide)) (b := a1) (As := [.int z108]) ⟨hr_aR t1, hr_aF, True.intro⟩ hp hW hS rfl (by decide) (by decide) (Nat.le_of_ble_eq_true rfl) dX0_readLine_110 (fun cs hcs r pvv110 H locs hca hW hS => ?_)
            obtain rfl := List.mem_singleton.mp hcs
            obtain ⟨hr, hq, hc⟩ := hca
            obtain rfl := hr_rv0 hr
            have hp := hr_std hp hc (by decide +kernel)
            have e110r25 := hr_pv hc 25 (lo := 0) (hi := 4) rfl
            have sm : ∀ j, j < 32 → j ∉ [1, 25] → pvv110 j = pvv j := fun j h1 h2 => (hr_sameX (l := [1, 25]) hc (by decide +kernel) j h1 h2).trans (sm j h1 h2)
            refine lv_aload_n hx hb dX0_readLine_113 rfl (lv_at hl 3 rfl) ?_
            refine cm_callV (kc := kc_36) B rfl hb hl (hM.1 _ _ 0 [36] (isM (by decide +kernel)) 36 (by decide)) (hH1 _ tk_X1 36 (by decide)) (b := a1) (As := []) ⟨hr_aR t1, True.intro⟩ hp hW hS rfl (by decide) (by decide) (Nat.le_of_ble_eq_true rfl) dX0_readLine_114 (fun cs hcs r pvv114 H locs hca hW hS => ?_)
            rcases List.mem_cons.mp hcs with rfl | hcs
            · obtain ⟨hr, hq, hc⟩ := hca
              obtain ⟨z114, rfl, lz114, uz114⟩ := hr_rvI hr
              have e114r25 := hr_pv hc 25 (lo := 1) (hi := 4) rfl; rw [hr_same1 hc (j := 25) (by decide +kernel)] at e114r25
              have hW := hr_pvE (hr_sameA hc rfl (by decide +kernel)) hW
              refine hr_eq0 (tgt := 199) hx hb dX0_readLine_117 (by decide) (fun h117 => ?_) (fun h117 => ?_)
              · refine hr_vret B hb rfl ⟨rfl, hp, sm, C100, rfl, fun t j h => ?_, fun k hk => ⟨?_, ?_, ?_⟩, fun hz => ?_⟩ hW hS dX0_readLine_199
                · rw [c100, tk_unt (by intro q; subst q; simp at h), c89, tk_unt (by intro q; subst q; simp at h)]
                · rw [c100, tk_unt (by decide), c89, tk_unj (by omega)]
                · rw [c100, tk_unj (by omega), c89, tk_unt (by decide)]
                · rw [c100, tk_unt (by decide), c89, tk_unt (by decide)]
                · refine ⟨by omega, fun h9 => ⟨?_, ?_⟩⟩
                  · rw [c100, tk_unt (by decide), c89, show (C 0 0).toInt.toNat = z85.toInt.toNat by omega, tk_us] at h9
                    rw [c100, show (C 0 0).toInt.toNat = z95.toInt.toNat by omega, tk_us]; omega
                  · rw [c100, tk_unt (by decide), c89, show (C 0 0).toInt.toNat = z85.toInt.toNat by omega, tk_us] at h9
                    omega
              · omega
            obtain rfl := List.mem_singleton.mp hcs
            obtain ⟨hr, hq, hc⟩ := hca
            obtain ⟨z114, rfl, lz114, uz114⟩ := hr_rvI hr
            have e114r25 := hr_pv hc 25 (lo := 0) (hi := 0) rfl; rw [hr_same1 hc (j := 25) (by decide +kernel)] at e114r25
            have hW := hr_pvE (hr_sameA hc rfl (by decide +kernel)) hW
            refine hr_eq0 (tgt := 199) hx hb dX0_readLine_117 (by decide) (fun h117 => ?_) (fun h117 => ?_)
            · omega
            · refine lv_aload_n hx hb dX0_readLine_120 rfl (lv_at hl 2 rfl) ?_
              refine hr_getR B hF hb hW (ci := 0) (j := 3) (cd := 3) t0 rfl (isF (by decide +kernel)) rfl dX0_readLine_121 (fun az121 tz121 xz121 => ?_)
              refine lv_aload_n hx hb dX0_readLine_124 rfl (lv_at hl 2 rfl) ?_
              refine hr_getI B hF hb hW (ci := 0) (j := 0) (cd := 0) t0 rfl (isF (by decide +kernel)) rfl dX0_readLine_125 (fun z125 lz125 uz125 pz125 xz125 => ?_)
              have xz125 := tk_xo xz125 (fun _ h => h) (pq := ck_prot1) (C := C100) t0 (by decide); have kz125 := congrArg Int32.toInt xz125
              have e125 : z125.toInt = (C 0 0).toInt := by rw [kz125, c100, tk_unt (by decide), c89, tk_unt (by decide)]
              refine lv_aload_n hx hb dX0_readLine_128 rfl (lv_at hl 3 rfl) ?_
              refine lv_aload_n hx hb dX0_readLine_129 rfl (lv_at hl 4 rfl) ?_
              refine hr_getR B hF hb hW (ci := 6) (j := 6) (cd := 3) t2 rfl (isF (by decide +kernel)) rfl dX0_readLine_130 (fun az130 tz130 xz130 => ?_)
              refine lv_aload_n hx hb dX0_readLine_133 rfl (lv_at hl 4 rfl) ?_
              refine hr_getI B hF hb hW (ci := 6) (j := 0) (cd := 0) t2 rfl (isF (by decide +kernel)) rfl dX0_readLine_134 (fun z134 lz134 uz134 pz134 xz134 => ?_)
              have xz134 := tk_xo xz134 (fun _ h => h) (pq := ck_prot1) (C := C100) t2 (by decide); have kz134 := congrArg Int32.toInt xz134
              refine cm_callV (kc := kc_61) B rfl hb hl (hM.1 _ _ 0 [58, 59, 60, 61, 62, 63] (isM (by decide +kernel)) 61 (by decide)) (hH1 _ tk_X1 61 (by decide)) (b := a1) (As := [.ref az130, .int z134]) ⟨hr_aR t1, hr_aR tz130, hr_aF, True.intro⟩ hp hW hS rfl (by decide) (by decide) (Nat.le_of_ble_eq_true rfl) dX0_readLine_137 (fun cs hcs r pvv137 H locs hca hW hS => ?_)
              rcases List.mem_cons.mp hcs with rfl | hcs
              · obtain ⟨hr, hq, hc⟩ := hca
                obtain ⟨z137, rfl, lz137, uz137⟩ := hr_rvI hr
                have hp := hr_std hp hc (by decide +kernel)
                have e137r25 := hr_pv hc 25 (lo := 1) (hi := 4) rfl
                have sm : ∀ j, j < 32 → j ∉ [1, 25] → pvv137 j = pvv j := fun j h1 h2 => (hr_sameX (l := [1, 25]) hc (by decide +kernel) j h1 h2).trans (sm j h1 h2)
                refine hr_iastN B hb hU hW hS tz121 rfl (by omega) (by omega) (hr_ins (a := 0) (b := 39) (lo := -1) (hi := 5) (by omega) (by omega) (by decide +kernel) (by omega) (by omega)) (tk_EA tz121 (fun a h => hun 31 (by decide) _ _ tz121 h)) (u := 0) (v := 39) (by omega) (by omega) (by decide) dX0_readLine_140 (fun H locs hW hS => ?_)
                obtain ⟨C140, c140⟩ : ∃ f, f = tk_upd C100 31 (z125.toInt.toNat) z137 := ⟨_, rfl⟩
                rw [← c140] at hW
                refine lv_goto (tgt := 199) hx hb dX0_readLine_141 (by decide) ?_
                refine hr_vret B hb rfl ⟨rfl, hp, sm, C140, rfl, fun t j h => ?_, fun k hk => ⟨?_, ?_, ?_⟩, fun hz => ?_⟩ hW hS dX0_readLine_199
                · rw [c140, tk_unt (by intro q; subst q; simp at h), c100, tk_unt (by intro q; subst q; simp at h), c89, tk_unt (by intro q; subst q; simp at h)]
                · rw [c140, tk_unt (by decide), c100, tk_unt (by decide), c89, tk_unj (by omega)]
                · rw [c140, tk_unt (by decide), c100, tk_unj (by omega), c89, tk_unt (by decide)]
                · rw [c140, tk_unj (by omega), c100, tk_unt (by decide), c89, tk_unt (by decide)]
                · refine ⟨by omega, fun h9 => ⟨?_, ?_⟩⟩
                  · rw [c140, tk_unt (by decide), c100, tk_unt (by decide), c89, show (C 0 0).toInt.toNat = z85.toInt.toNat by omega, tk_us] at h9
                    rw [c140, tk_unt (by decide), c100, show (C 0 0).toInt.toNat = z95.toInt.toNat by omega, tk_us]; omega
                  · rw [c140, tk_unt (by decide), c100, tk_unt (by decide), c89, show (C 0 0).toInt.toNat = z85.toInt.toNat by omega, tk_us] at h9
                    rw [c140, show (C 0 0).toInt.toNat = z125.toInt.toNat by omega, tk_us]; omega
              obtain rfl := List.mem_singleton.mp hcs
              obtain ⟨hr, hq, hc⟩ := hca
              obtain ⟨z137, rfl, lz137, uz137⟩ := hr_rvI hr
              have hp := hr_std hp hc (by decide +kernel)
              have e137w25 := congrArg Int32.toInt (hr_same1 hc (j := 25) (by decide +kernel))
              have sm : ∀ j, j < 32 → j ∉ [1, 25] → pvv137 j = pvv j := fun j h1 h2 => (hr_sameX (l := [1, 25]) hc (by decide +kernel) j h1 h2).trans (sm j h1 h2)
              refine hr_iastN B hb hU hW hS tz121 rfl (by omega) (by omega) (hr_ins (a := 0) (b := 39) (lo := -1) (hi := 5) (by omega) (by omega) (by decide +kernel) (by omega) (by omega)) (tk_EA tz121 (fun a h => hun 31 (by decide) _ _ tz121 h)) (u := 0) (v := 39) (by omega) (by omega) (by decide) dX0_readLine_140 (fun H locs hW hS => ?_)
              obtain ⟨C140, c140⟩ : ∃ f, f = tk_upd C100 31 (z125.toInt.toNat) z137 := ⟨_, rfl⟩
              rw [← c140] at hW
              refine lv_goto (tgt := 199) hx hb dX0_readLine_141 (by decide) ?_
              refine hr_vret B hb rfl ⟨rfl, hp, sm, C140, rfl, fun t j h => ?_, fun k hk => ⟨?_, ?_, ?_⟩, fun hz => ?_⟩ hW hS dX0_readLine_199
              · rw [c140, tk_unt (by intro q; subst q; simp at h), c100, tk_unt (by intro q; subst q; simp at h), c89, tk_unt (by intro q; subst q; simp at h)]
              · rw [c140, tk_unt (by decide), c100, tk_unt (by decide), c89, tk_unj (by omega)]
              · rw [c140, tk_unt (by decide), c100, tk_unj (by omega), c89, tk_unt (by decide)]
              · rw [c140, tk_unj (by omega), c100, tk_unt (by decide), c89, tk_unt (by decide)]
              · refine ⟨by omega, fun h9 => ⟨?_, ?_⟩⟩
                · rw [c140, tk_unt (by decide), c100, tk_unt (by decide), c89, show (C 0 0).toInt.toNat = z85.toInt.toNat by omega, tk_us] at h9
                  rw [c140, tk_unt (by decide), c100, show (C 0 0).toInt.toNat = z95.toInt.toNat by omega, tk_us]; omega
                · rw [c140, tk_unt (by decide), c100, tk_unt (by decide), c89, show (C 0 0).toInt.toNat = z85.toInt.toNat by omega, tk_us] at h9
                  rw [c140, show (C 0 0).toInt.toNat = z125.toInt.toNat by omega, tk_us]; omega
        · omega
      · refine lv_aload_n hx hb dX0_readLine_63 rfl (lv_at hl 3 rfl) ?_
        refine hr_ic hx hb dX0_readLine_64 (by decide) (fun z64 hz64 => ?_)
        refine cm_callV (kc := kc_35) B rfl hb hl (hM.1 _ _ 0 [35] (isM (by decide +kernel)) 35 (by decide)) (hH1 _ tk_X1 35 (by decide)) (b := a1) (As := [.int z64]) ⟨hr_aR t1, hr_aI (by omega) (by omega), True.intro⟩ hp hW hS rfl (by decide) (by decide) (Nat.le_of_ble_eq_true rfl) dX0_readLine_65 (fun cs hcs r pvv65 H locs hca hW hS => ?_)
        obtain rfl := List.mem_singleton.mp hcs
        obtain ⟨hr, hq, hc⟩ := hca
        obtain rfl := hr_rv0 hr
        have hp := hr_std hp hc (by decide +kernel)
        have e65r25 := hr_pv hc 25 (lo := 1) (hi := 4) rfl
        have sm : ∀ j, j < 32 → j ∉ [1, 25] → pvv65 j = pvv j := fun j h1 h2 => (hr_sameX (l := [1, 25]) hc (by decide +kernel) j h1 h2).trans (sm j h1 h2)
        refine lv_aload_n hx hb dX0_readLine_68 rfl (lv_at hl 3 rfl) ?_
        refine cm_callV (kc := kc_36) B rfl hb hl (hM.1 _ _ 0 [36] (isM (by decide +kernel)) 36 (by decide)) (hH1 _ tk_X1 36 (by decide)) (b := a1) (As := []) ⟨hr_aR t1, True.intro⟩ hp hW hS rfl (by decide) (by decide) (Nat.le_of_ble_eq_true rfl) dX0_readLine_69 (fun cs hcs r pvv69 H locs hca hW hS => ?_)
        rcases List.mem_cons.mp hcs with rfl | hcs
        · obtain ⟨hr, hq, hc⟩ := hca
          obtain ⟨z69, rfl, lz69, uz69⟩ := hr_rvI hr
          have e69r25 := hr_pv hc 25 (lo := 1) (hi := 4) rfl; rw [hr_same1 hc (j := 25) (by decide +kernel)] at e69r25
          have hW := hr_pvE (hr_sameA hc rfl (by decide +kernel)) hW
          refine hr_ne0 (tgt := 76) hx hb dX0_readLine_72 (by decide) (fun h72 => ?_) (fun h72 => ?_)
          · omega
          · refine hr_vret B hb rfl ⟨rfl, hp, sm, C, rfl, fun t j h => ?_, fun k hk => ⟨?_, ?_, ?_⟩, fun hz => ?_⟩ hW hS dX0_readLine_75
            · rfl
            · rfl
            · rfl
            · rfl
            · omega
        obtain rfl := List.mem_singleton.mp hcs
        obtain ⟨hr, hq, hc⟩ := hca
        obtain ⟨z69, rfl, lz69, uz69⟩ := hr_rvI hr
        have e69r25 := hr_pv hc 25 (lo := 0) (hi := 0) rfl; rw [hr_same1 hc (j := 25) (by decide +kernel)] at e69r25
        have hW := hr_pvE (hr_sameA hc rfl (by decide +kernel)) hW
        refine hr_ne0 (tgt := 76) hx hb dX0_readLine_72 (by decide) (fun h72 => ?_) (fun h72 => ?_)
        · refine lv_aload_n hx hb dX0_readLine_76 rfl (lv_at hl 3 rfl) ?_
          refine cm_callV (kc := kc_57) B rfl hb hl (hM.1 _ _ 0 [57] (isM (by decide +kernel)) 57 (by decide)) (hH1 _ tk_X1 57 (by decide)) (b := a1) (As := []) ⟨hr_aR t1, True.intro⟩ hp hW hS rfl (by decide) (by decide) (Nat.le_of_ble_eq_true rfl) dX0_readLine_77 (fun cs hcs r pvv77 H locs hca hW hS => ?_)
          obtain rfl := List.mem_singleton.mp hcs
          obtain ⟨hr, hq, hc⟩ := hca
          obtain rfl := hr_rv0 hr
          have hp := hr_std hp hc (by decide +kernel)
          have e77w25 := congrArg Int32.toInt (hr_same1 hc (j := 25) (by decide +kernel))
          have sm : ∀ j, j < 32 → j ∉ [1, 25] → pvv77 j = pvv j := fun j h1 h2 => (hr_sameX (l := [1, 25]) hc (by decide +kernel) j h1 h2).trans (sm j h1 h2)
          refine lv_aload_n hx hb dX0_readLine_80 rfl (lv_at hl 2 rfl) ?_
          refine hr_getR B hF hb hW (ci := 0) (j := 1) (cd := 3) t0 rfl (isF (by decide +kernel)) rfl dX0_readLine_81 (fun az81 tz81 xz81 => ?_)
          refine lv_aload_n hx hb dX0_readLine_84 rfl (lv_at hl 2 rfl) ?_
          refine hr_getI B hF hb hW (ci := 0) (j := 0) (cd := 0) t0 rfl (isF (by decide +kernel)) rfl dX0_readLine_85 (fun z85 lz85 uz85 pz85 xz85 => ?_)
          have xz85 := tk_xo xz85 (fun _ h => h) (pq := ck_prot1) (C := C) t0 (by decide); have kz85 := congrArg Int32.toInt xz85
          have e85 : z85.toInt = (C 0 0).toInt := by rw [kz85]
          refine lv_iload_n hx hb dX0_readLine_88 rfl (lv_at hl 1 rfl) ?_
          refine hr_iastN B hb hU hW hS tz81 rfl (by omega) (by omega) ⟨ck_lo _, ck_hi _⟩ (tk_EA tz81 (fun a h => hun 29 (by decide) _ _ tz81 h)) (u := 0) (v := 39) (by omega) (by omega) (by decide) dX0_readLine_89 (fun H locs hW hS => ?_)
          obtain ⟨C89, c89⟩ : ∃ f, f = tk_upd C 29 (z85.toInt.toNat) de := ⟨_, rfl⟩
          rw [← c89] at hW
          refine lv_aload_n hx hb dX0_readLine_90 rfl (lv_at hl 2 rfl) ?_
          refine hr_getR B hF hb hW (ci := 0) (j := 2) (cd := 3) t0 rfl (isF (by decide +kernel)) rfl dX0_readLine_91 (fun az91 tz91 xz91 => ?_)
          refine lv_aload_n hx hb dX0_readLine_94 rfl (lv_at hl 2 rfl) ?_
          refine hr_getI B hF hb hW (ci := 0) (j := 0) (cd := 0) t0 rfl (isF (by decide +kernel)) rfl dX0_readLine_95 (fun z95 lz95 uz95 pz95 xz95 => ?_)
          have xz95 := tk_xo xz95 (fun _ h => h) (pq := ck_prot1) (C := C89) t0 (by decide); have kz95 := congrArg Int32.toInt xz95
          have e95 : z95.toInt = (C 0 0).toInt := by rw [kz95, c89, tk_unt (by decide)]
          refine lv_iload hx hb dX0_readLine_98 (lv_at hl 0 rfl) ?_
          refine hr_iastN B hb hU hW hS tz91 rfl (by omega) (by omega) (hr_ins (a := 0) (b := 39) (lo := -1) (hi := 7) (by omega) (by omega) (by decide +kernel) (by omega) (by omega)) (tk_EA tz91 (fun a h => hun 30 (by decide) _ _ tz91 h)) (u := 0) (v := 39) (by omega) (by omega) (by decide) dX0_readLine_100 (fun H locs hW hS => ?_)
          obtain ⟨C100, c100⟩ : ∃ f, f = tk_upd C89 30 (z95.toInt.toNat) mm := ⟨_, rfl⟩
          rw [← c100] at hW
          refine lv_iload_n hx hb dX0_readLine_101 rfl (lv_at hl 1 rfl) ?_
          refine hr_bp hx hb dX0_readLine_102 (by decide) (by decide) (fun z102 hz102 => ?_)
          refine hr_ne (tgt := 144) hx hb dX0_readLine_104 (by decide) (fun h104 => ?_) (fun h104 => ?_)
          · refine lv_iload_n hx hb dX0_readLine_144 rfl (lv_at hl 1 rfl) ?_
            refine hr_bp hx hb dX0_readLine_145 (by decide) (by decide) (fun z145 hz145 => ?_)
            refine hr_ne (tgt := 199) hx hb dX0_readLine_147 (by decide) (fun h147 => ?_) (fun h147 => ?_)
            · refine hr_vret B hb rfl ⟨rfl, hp, sm, C100, rfl, fun t j h => ?_, fun k hk => ⟨?_, ?_, ?_⟩, fun hz => ?_⟩ hW hS dX0_readLine_199
              · rw [c100, tk_unt (by intro q; subst q; simp at h), c89, tk_unt (by intro q; subst q; simp at h)]
              · rw [c100, tk_unt (by decide), c89, tk_unj (by omega)]
              · rw [c100, tk_unj (by omega), c89, tk_unt (by decide)]
              · rw [c100, tk_unt (by decide), c89, tk_unt (by decide)]
              · refine ⟨by omega, fun h9 => ⟨?_, ?_⟩⟩
                · rw [c100, tk_unt (by decide), c89, show (C 0 0).toInt.toNat = z85.toInt.toNat by omega, tk_us] at h9
                  rw [c100, show (C 0 0).toInt.toNat = z95.toInt.toNat by omega, tk_us]; omega
                · rw [c100, tk_unt (by decide), c89, show (C 0 0).toInt.toNat = z85.toInt.toNat by omega, tk_us] at h9
                  omega
            · refine lv_aload_n hx hb dX0_readLine_150 rfl (lv_at hl 2 rfl) ?_
              refine hr_getR B hF hb hW (ci := 0) (j := 2) (cd := 3) t0 rfl (isF (by decide +kernel)) rfl dX0_readLine_151 (fun az151 tz151 xz151 => ?_)
              refine lv_aload_n hx hb dX0_readLine_154 rfl (lv_at hl 2 rfl) ?_
              refine hr_getI B hF hb hW (ci := 0) (j := 0) (cd := 0) t0 rfl (isF (by decide +kernel)) rfl dX0_readLine_155 (fun z155 lz155 uz155 pz155 xz155 => ?_)
              have xz155 := tk_xo xz155 (fun _ h => h) (pq := ck_prot1) (C := C100) t0 (by decide); have kz155 := congrArg Int32.toInt xz155
              have e155 : z155.toInt = (C 0 0).toInt := by rw [kz155, c100, tk_unt (by decide), c89, tk_unt (by decide)]
              refine lv_aload_n hx hb dX0_readLine_158 rfl (lv_at hl 3 rfl) ?_
              refine lv_aload_n hx hb dX0_readLine_159 rfl (lv_at hl 4 rfl) ?_
              refine hr_getR B hF hb hW (ci := 6) (j := 8) (cd := 3) t2 rfl (isF (by decide +kernel)) rfl dX0_readLine_160 (fun az160 tz160 xz160 => ?_)
              refine lv_aload_n hx hb dX0_readLine_163 rfl (lv_at hl 4 rfl) ?_
              refine hr_getI B hF hb hW (ci := 6) (j := 2) (cd := 0) t2 rfl (isF (by decide +kernel)) rfl dX0_readLine_164 (fun z164 lz164 uz164 pz164 xz164 => ?_)
              have xz164 := tk_xo xz164 (fun _ h => h) (pq := ck_prot1) (C := C100) t2 (by decide); have kz164 := congrArg Int32.toInt xz164
              refine cm_callV (kc := kc_63) B rfl hb hl (hM.1 _ _ 0 [58, 59, 60, 61, 62, 63] (isM (by decide +kernel)) 63 (by decide)) (hH1 _ tk_X1 63 (by decide)) (b := a1) (As := [.ref az160, .int z164]) ⟨hr_aR t1, hr_aR tz160, hr_aF, True.intro⟩ hp hW hS rfl (by decide) (by decide) (Nat.le_of_ble_eq_true rfl) dX0_readLine_167 (fun cs hcs r pvv167 H locs hca hW hS => ?_)
              rcases List.mem_cons.mp hcs with rfl | hcs
              · obtain ⟨hr, hq, hc⟩ := hca
                obtain ⟨z167, rfl, lz167, uz167⟩ := hr_rvI hr
                have hp := hr_std hp hc (by decide +kernel)
                have e167r25 := hr_pv hc 25 (lo := 1) (hi := 4) rfl
                have sm : ∀ j, j < 32 → j ∉ [1, 25] → pvv167 j = pvv j := fun j h1 h2 => (hr_sameX (l := [1, 25]) hc (by decide +kernel) j h1 h2).trans (sm j h1 h2)
                refine hr_iastN B hb hU hW hS tz151 rfl (by omega) (by omega) (hr_ins (a := 0) (b := 39) (lo := -1) (hi := 7) (by omega) (by omega) (by decide +kernel) (by omega) (by omega)) (tk_EA tz151 (fun a h => hun 30 (by decide) _ _ tz151 h)) (u := 0) (v := 39) (by omega) (by omega) (by decide) dX0_readLine_170 (fun H locs hW hS => ?_)
                obtain ⟨C170, c170⟩ : ∃ f, f = tk_upd C100 30 (z155.toInt.toNat) z167 := ⟨_, rfl⟩
                rw [← c170] at hW
                refine lv_aload_n hx hb dX0_readLine_171 rfl (lv_at hl 3 rfl) ?_
                refine cm_callV (kc := kc_36) B rfl hb hl (hM.1 _ _ 0 [36] (isM (by decide +kernel)) 36 (by decide)) (hH1 _ tk_X1 36 (by decide)) (b := a1) (As := []) ⟨hr_aR t1, True.intro⟩ hp hW hS rfl (by decide) (by decide) (Nat.le_of_ble_eq_true rfl) dX0_readLine_172 (fun cs hcs r pvv172 H locs hca hW hS => ?_)
                rcases List.mem_cons.mp hcs with rfl | hcs
                · obtain ⟨hr, hq, hc⟩ := hca
                  obtain ⟨z172, rfl, lz172, uz172⟩ := hr_rvI hr
                  have e172r25 := hr_pv hc 25 (lo := 1) (hi := 4) rfl; rw [hr_same1 hc (j := 25) (by decide +kernel)] at e172r25
                  have hW := hr_pvE (hr_sameA hc rfl (by decide +kernel)) hW
                  refine hr_eq0 (tgt := 199) hx hb dX0_readLine_175 (by decide) (fun h175 => ?_) (fun h175 => ?_)
                  · refine hr_vret B hb rfl ⟨rfl, hp, sm, C170, rfl, fun t j h => ?_, fun k hk => ⟨?_, ?_, ?_⟩, fun hz => ?_⟩ hW hS dX0_readLine_199
                    · rw [c170, tk_unt (by intro q; subst q; simp at h), c100, tk_unt (by intro q; subst q; simp at h), c89, tk_unt (by intro q; subst q; simp at h)]
                    · rw [c170, tk_unt (by decide), c100, tk_unt (by decide), c89, tk_unj (by omega)]
                    · rw [c170, tk_unj (by omega), c100, tk_unj (by omega), c89, tk_unt (by decide)]
                    · rw [c170, tk_unt (by decide), c100, tk_unt (by decide), c89, tk_unt (by decide)]
                    · refine ⟨by omega, fun h9 => ⟨?_, ?_⟩⟩
                      · rw [c170, tk_unt (by decide), c100, tk_unt (by decide), c89, show (C 0 0).toInt.toNat = z85.toInt.toNat by omega, tk_us] at h9
                        rw [c170, show (C 0 0).toInt.toNat = z155.toInt.toNat by omega, tk_us]; omega
                      · rw [c170, tk_unt (by decide), c100, tk_unt (by decide), c89, show (C 0 0).toInt.toNat = z85.toInt.toNat by omega, tk_us] at h9
                        omega
                  · omega
                obtain rfl := List.mem_singleton.mp hcs
                obtain ⟨hr, hq, hc⟩ := hca
                obtain ⟨z172, rfl, lz172, uz172⟩ := hr_rvI hr
                have e172r25 := hr_pv hc 25 (lo := 0) (hi := 0) rfl; rw [hr_same1 hc (j := 25) (by decide +kernel)] at e172r25
                have hW := hr_pvE (hr_sameA hc rfl (by decide +kernel)) hW
                refine hr_eq0 (tgt := 199) hx hb dX0_readLine_175 (by decide) (fun h175 => ?_) (fun h175 => ?_)
                · omega
                · refine lv_aload_n hx hb dX0_readLine_178 rfl (lv_at hl 2 rfl) ?_
                  refine hr_getR B hF hb hW (ci := 0) (j := 3) (cd := 3) t0 rfl (isF (by decide +kernel)) rfl dX0_readLine_179 (fun az179 tz179 xz179 => ?_)
                  refine lv_aload_n hx hb dX0_readLine_182 rfl (lv_at hl 2 rfl) ?_
                  refine hr_getI B hF hb hW (ci := 0) (j := 0) (cd := 0) t0 rfl (isF (by decide +kernel)) rfl dX0_readLine_183 (fun z183 lz183 uz183 pz183 xz183 => ?_)
                  have xz183 := tk_xo xz183 (fun _ h => h) (pq := ck_prot1) (C := C170) t0 (by decide); have kz183 := congrArg Int32.toInt xz183
                  have e183 : z183.toInt = (C 0 0).toInt := by rw [kz183, c170, tk_unt (by decide), c100, tk_unt (by decide), c89, tk_unt (by decide)]
                  refine lv_aload_n hx hb dX0_readLine_186 rfl (lv_at hl 3 rfl) ?_
                  refine lv_aload_n hx hb dX0_readLine_187 rfl (lv_at hl 4 rfl) ?_
                  refine hr_getR B hF hb hW (ci := 6) (j := 7) (cd := 3) t2 rfl (isF (by decide +kernel)) rfl dX0_readLine_188 (fun az188 tz188 xz188 => ?_)
                  refine lv_aload_n hx hb dX0_readLine_191 rfl (lv_at hl 4 rfl) ?_
                  refine hr_getI B hF hb hW (ci := 6) (j := 1) (cd := 0) t2 rfl (isF (by decide +kernel)) rfl dX0_readLine_192 (fun z192 lz192 uz192 pz192 xz192 => ?_)
                  have xz192 := tk_xo xz192 (fun _ h => h) (pq := ck_prot1) (C := C170) t2 (by decide); have kz192 := congrArg Int32.toInt xz192
                  refine cm_callV (kc := kc_62) B rfl hb hl (hM.1 _ _ 0 [58, 59, 60, 61, 62, 63] (isM (by decide +kernel)) 62 (by decide)) (hH1 _ tk_X1 62 (by decide)) (b := a1) (As := [.ref az188, .int z192]) ⟨hr_aR t1, hr_aR tz188, hr_aF, True.intro⟩ hp hW hS rfl (by decide) (by decide) (Nat.le_of_ble_eq_true rfl) dX0_readLine_195 (fun cs hcs r pvv195 H locs hca hW hS => ?_)
                  rcases List.mem_cons.mp hcs with rfl | hcs
                  · obtain ⟨hr, hq, hc⟩ := hca
                    obtain ⟨z195, rfl, lz195, uz195⟩ := hr_rvI hr
                    have hp := hr_std hp hc (by decide +kernel)
                    have e195r25 := hr_pv hc 25 (lo := 1) (hi := 4) rfl
                    have sm : ∀ j, j < 32 → j ∉ [1, 25] → pvv195 j = pvv j := fun j h1 h2 => (hr_sameX (l := [1, 25]) hc (by decide +kernel) j h1 h2).trans (sm j h1 h2)
                    refine hr_iastN B hb hU hW hS tz179 rfl (by omega) (by omega) (hr_ins (a := 0) (b := 39) (lo := -1) (hi := 5) (by omega) (by omega) (by decide +kernel) (by omega) (by omega)) (tk_EA tz179 (fun a h => hun 31 (by decide) _ _ tz179 h)) (u := 0) (v := 39) (by omega) (by omega) (by decide) dX0_readLine_198 (fun H locs hW hS => ?_)
                    obtain ⟨C198, c198⟩ : ∃ f, f = tk_upd C170 31 (z183.toInt.toNat) z195 := ⟨_, rfl⟩
                    rw [← c198] at hW
                    refine hr_vret B hb rfl ⟨rfl, hp, sm, C198, rfl, fun t j h => ?_, fun k hk => ⟨?_, ?_, ?_⟩, fun hz => ?_⟩ hW hS dX0_readLine_199
                    · rw [c198, tk_unt (by intro q; subst q; simp at h), c170, tk_unt (by intro q; subst q; simp at h), c100, tk_unt (by intro q; subst q; simp at h), c89, tk_unt (by intro q; subst q; simp at h)]
                    · rw [c198, tk_unt (by decide), c170, tk_unt (by decide), c100, tk_unt (by decide), c89, tk_unj (by omega)]
                    · rw [c198, tk_unt (by decide), c170, tk_unj (by omega), c100, tk_unj (by omega), c89, tk_unt (by decide)]
                    · rw [c198, tk_unj (by omega), c170, tk_unt (by decide), c100, tk_unt (by decide), c89, tk_unt (by decide)]
                    · refine ⟨by omega, fun h9 => ⟨?_, ?_⟩⟩
                      · rw [c198, tk_unt (by decide), c170, tk_unt (by decide), c100, tk_unt (by decide), c89, show (C 0 0).toInt.toNat = z85.toInt.toNat by omega, tk_us] at h9
                        rw [c198, tk_unt (by decide), c170, show (C 0 0).toInt.toNat = z155.toInt.toNat by omega, tk_us]; omega
                      · rw [c198, tk_unt (by decide), c170, tk_unt (by decide), c100, tk_unt (by decide), c89, show (C 0 0).toInt.toNat = z85.toInt.toNat by omega, tk_us] at h9
                        rw [c198, show (C 0 0).toInt.toNat = z183.toInt.toNat by omega, tk_us]; omega
                  obtain rfl := List.mem_singleton.mp hcs
                  obtain ⟨hr, hq, hc⟩ := hca
                  obtain ⟨z195, rfl, lz195, uz195⟩ := hr_rvI hr
                  have hp := hr_std hp hc (by decide +kernel)
                  have e195w25 := congrArg Int32.toInt (hr_same1 hc (j := 25) (by decide +kernel))
                  have sm : ∀ j, j < 32 → j ∉ [1, 25] → pvv195 j = pvv j := fun j h1 h2 => (hr_sameX (l := [1, 25]) hc (by decide +kernel) j h1 h2).trans (sm j h1 h2)
                  refine hr_iastN B hb hU hW hS tz179 rfl (by omega) (by omega) (hr_ins (a := 0) (b := 39) (lo := -1) (hi := 5) (by omega) (by omega) (by decide +kernel) (by omega) (by omega)) (tk_EA tz179 (fun a h => hun 31 (by decide) _ _ tz179 h)) (u := 0) (v := 39) (by omega) (by omega) (by decide) dX0_readLine_198 (fun H locs hW hS => ?_)
                  obtain ⟨C198, c198⟩ : ∃ f, f = tk_upd C170 31 (z183.toInt.toNat) z195 := ⟨_, rfl⟩
                  rw [← c198] at hW
                  refine hr_vret B hb rfl ⟨rfl, hp, sm, C198, rfl, fun t j h => ?_, fun k hk => ⟨?_, ?_, ?_⟩, fun hz => ?_⟩ hW hS dX0_readLine_199
                  · rw [c198, tk_unt (by intro q; subst q; simp at h), c170, tk_unt (by intro q; subst q; simp at h), c100, tk_unt (by intro q; subst q; simp at h), c89, tk_unt (by intro q; subst q; simp at h)]
                  · rw [c198, tk_unt (by decide), c170, tk_unt (by decide), c100, tk_unt (by decide), c89, tk_unj (by omega)]
                  · rw [c198, tk_unt (by decide), c170, tk_unj (by omega), c100, tk_unj (by omega), c89, tk_unt (by decide)]
                  · rw [c198, tk_unj (by omega), c170, tk_unt (by decide), c100, tk_unt (by decide), c89, tk_unt (by decide)]
                  · refine ⟨by omega, fun h9 => ⟨?_, ?_⟩⟩
                    · rw [c198, tk_unt (by decide), c170, tk_unt (by decide), c100, tk_unt (by decide), c89, show (C 0 0).toInt.toNat = z85.toInt.toNat by omega, tk_us] at h9
                      rw [c198, tk_unt (by decide), c170, show (C 0 0).toInt.toNat = z155.toInt.toNat by omega, tk_us]; omega
                    · rw [c198, tk_unt (by decide), c170, tk_unt (by decide), c100, tk_unt (by decide), c89, show (C 0 0).toInt.toNat = z85.toInt.toNat by omega, tk_us] at h9
                      rw [c198, show (C 0 0).toInt.toNat = z183.toInt.toNat by omega, tk_us]; omega
              obtain rfl := List.mem_singleton.mp hcs
              obtain ⟨hr, hq, hc⟩ := hca
              obtain ⟨z167, rfl, lz167, uz167⟩ := hr_rvI hr
              have hp := hr_std hp hc (by decide +kernel)
              have e167w25 := congrArg Int32.toInt (hr_same1 hc (j := 25) (by decide +kernel))
              have sm : ∀ j, j < 32 → j ∉ [1, 25] → pvv167 j = pvv j := fun j h1 h2 => (hr_sameX (l := [1, 25]) hc (by decide +kernel) j h1 h2).trans (sm j h1 h2)
              refine hr_iastN B hb hU hW hS tz151 rfl (by omega) (by omega) (hr_ins (a := 0) (b := 39) (lo := -1) (hi := 7) (by omega) (by omega) (by decide +kernel) (by omega) (by omega)) (tk_EA tz151 (fun a h => hun 30 (by decide) _ _ tz151 h)) (u := 0) (v := 39) (by omega) (by omega) (by decide) dX0_readLine_170 (fun H locs hW hS => ?_)
              obtain ⟨C170, c170⟩ : ∃ f, f = tk_upd C100 30 (z155.toInt.toNat) z167 := ⟨_, rfl⟩
              rw [← c170] at hW
              refine lv_aload_n hx hb dX0_readLine_171 rfl (lv_at hl 3 rfl) ?_
              refine cm_callV (kc := kc_36) B rfl hb hl (hM.1 _ _ 0 [36] (isM (by decide +kernel)) 36 (by decide)) (hH1 _ tk_X1 36 (by decide)) (b := a1) (As := []) ⟨hr_aR t1, True.intro⟩ hp hW hS rfl (by decide) (by decide) (Nat.le_of_ble_eq_true rfl) dX0_readLine_172 (fun cs hcs r pvv172 H locs hca hW hS => ?_)
              rcases List.mem_cons.mp hcs with rfl | hcs
              · obtain ⟨hr, hq, hc⟩ := hca
                obtain ⟨z172, rfl, lz172, uz172⟩ := hr_rvI hr
                have e172r25 := hr_pv hc 25 (lo := 1) (hi := 4) rfl; rw [hr_same1 hc (j := 25) (by decide +kernel)] at e172r25
                have hW := hr_pvE (hr_sameA hc rfl (by decide +kernel)) hW
                refine hr_eq0 (tgt := 199) hx hb dX0_readLine_175 (by decide) (fun h175 => ?_) (fun h175 => ?_)
                · refine hr_vret B hb rfl ⟨rfl, hp, sm, C170, rfl, fun t j h => ?_, fun k hk => ⟨?_, ?_, ?_⟩, fun hz => ?_⟩ hW hS dX0_readLine_199
                  · rw [c170, tk_unt (by intro q; subst q; simp at h), c100, tk_unt (by intro q; subst q; simp at h), c89, tk_unt (by intro q; subst q; simp at h)]
                  · rw [c170, tk_unt (by decide), c100, tk_unt (by decide), c89, tk_unj (by omega)]
                  · rw [c170, tk_unj (by omega), c100, tk_unj (by omega), c89, tk_unt (by decide)]
                  · rw [c170, tk_unt (by decide), c100, tk_unt (by decide), c89, tk_unt (by decide)]
                  · refine ⟨by omega, fun h9 => ⟨?_, ?_⟩⟩
                    · rw [c170, tk_unt (by decide), c100, tk_unt (by decide), c89, show (C 0 0).toInt.toNat = z85.toInt.toNat by omega, tk_us] at h9
                      rw [c170, show (C 0 0).toInt.toNat = z155.toInt.toNat by omega, tk_us]; omega
                    · rw [c170, tk_unt (by decide), c100, tk_unt (by decide), c89, show (C 0 0).toInt.toNat = z85.toInt.toNat by omega, tk_us] at h9
                      omega
                · omega
              obtain rfl := List.mem_singleton.mp hcs
              obtain ⟨hr, hq, hc⟩ := hca
              obtain ⟨z172, rfl, lz172, uz172⟩ := hr_rvI hr
              have e172r25 := hr_pv hc 25 (lo := 0) (hi := 0) rfl; rw [hr_same1 hc (j := 25) (by decide +kernel)] at e172r25
              have hW := hr_pvE (hr_sameA hc rfl (by decide +kernel)) hW
              refine hr_eq0 (tgt := 199) hx hb dX0_readLine_175 (by decide) (fun h175 => ?_) (fun h175 => ?_)
              · omega
              · refine lv_aload_n hx hb dX0_readLine_178 rfl (lv_at hl 2 rfl) ?_
                refine hr_getR B hF hb hW (ci := 0) (j := 3) (cd := 3) t0 rfl (isF (by decide +kernel)) rfl dX0_readLine_179 (fun az179 tz179 xz179 => ?_)
                refine lv_aload_n hx hb dX0_readLine_182 rfl (lv_at hl 2 rfl) ?_
                refine hr_getI B hF hb hW (ci := 0) (j := 0) (cd := 0) t0 rfl (isF (by decide +kernel)) rfl dX0_readLine_183 (fun z183 lz183 uz183 pz183 xz183 => ?_)
                have xz183 := tk_xo xz183 (fun _ h => h) (pq := ck_prot1) (C := C170) t0 (by decide); have kz183 := congrArg Int32.toInt xz183
                have e183 : z183.toInt = (C 0 0).toInt := by rw [kz183, c170, tk_unt (by decide), c100, tk_unt (by decide), c89, tk_unt (by decide)]
                refine lv_aload_n hx hb dX0_readLine_186 rfl (lv_at hl 3 rfl) ?_
                refine lv_aload_n hx hb dX0_readLine_187 rfl (lv_at hl 4 rfl) ?_
                refine hr_getR B hF hb hW (ci := 6) (j := 7) (cd := 3) t2 rfl (isF (by decide +kernel)) rfl dX0_readLine_188 (fun az188 tz188 xz188 => ?_)
                refine lv_aload_n hx hb dX0_readLine_191 rfl (lv_at hl 4 rfl) ?_
                refine hr_getI B hF hb hW (ci := 6) (j := 1) (cd := 0) t2 rfl (isF (by decide +kernel)) rfl dX0_readLine_192 (fun z192 lz192 uz192 pz192 xz192 => ?_)
                have xz192 := tk_xo xz192 (fun _ h => h) (pq := ck_prot1) (C := C170) t2 (by decide); have kz192 := congrArg Int32.toInt xz192
                refine cm_callV (kc := kc_62) B rfl hb hl (hM.1 _ _ 0 [58, 59, 60, 61, 62, 63] (isM (by decide +kernel)) 62 (by decide)) (hH1 _ tk_X1 62 (by decide)) (b := a1) (As := [.ref az188, .int z192]) ⟨hr_aR t1, hr_aR tz188, hr_aF, True.intro⟩ hp hW hS rfl (by decide) (by decide) (Nat.le_of_ble_eq_true rfl) dX0_readLine_195 (fun cs hcs r pvv195 H locs hca hW hS => ?_)
                rcases List.mem_cons.mp hcs with rfl | hcs
                · obtain ⟨hr, hq, hc⟩ := hca
                  obtain ⟨z195, rfl, lz195, uz195⟩ := hr_rvI hr
                  have hp := hr_std hp hc (by decide +kernel)
                  have e195r25 := hr_pv hc 25 (lo := 1) (hi := 4) rfl
                  have sm : ∀ j, j < 32 → j ∉ [1, 25] → pvv195 j = pvv j := fun j h1 h2 => (hr_sameX (l := [1, 25]) hc (by decide +kernel) j h1 h2).trans (sm j h1 h2)
                  refine hr_iastN B hb hU hW hS tz179 rfl (by omega) (by omega) (hr_ins (a := 0) (b := 39) (lo := -1) (hi := 5) (by omega) (by omega) (by decide +kernel) (by omega) (by omega)) (tk_EA tz179 (fun a h => hun 31 (by decide) _ _ tz179 h)) (u := 0) (v := 39) (by omega) (by omega) (by decide) dX0_readLine_198 (fun H locs hW hS => ?_)
                  obtain ⟨C198, c198⟩ : ∃ f, f = tk_upd C170 31 (z183.toInt.toNat) z195 := ⟨_, rfl⟩
                  rw [← c198] at hW
                  refine hr_vret B hb rfl ⟨rfl, hp, sm, C198, rfl, fun t j h => ?_, fun k hk => ⟨?_, ?_, ?_⟩, fun hz => ?_⟩ hW hS dX0_readLine_199
                  · rw [c198, tk_unt (by intro q; subst q; simp at h), c170, tk_unt (by intro q; subst q; simp at h), c100, tk_unt (by intro q; subst q; simp at h), c89, tk_unt (by intro q; subst q; simp at h)]
                  · rw [c198, tk_unt (by decide), c170, tk_unt (by decide), c100, tk_unt (by decide), c89, tk_unj (by omega)]
                  · rw [c198, tk_unt (by decide), c170, tk_unj (by omega), c100, tk_unj (by omega), c89, tk_unt (by decide)]
                  · rw [c198, tk_unj (by omega), c170, tk_unt (by decide), c100, tk_unt (by decide), c89, tk_unt (by decide)]
                  · refine ⟨by omega, fun h9 => ⟨?_, ?_⟩⟩
                    · rw [c198, tk_unt (by decide), c170, tk_unt (by decide), c100, tk_unt (by decide), c89, show (C 0 0).toInt.toNat = z85.toInt.toNat by omega, tk_us] at h9
                      rw [c198, tk_unt (by decide), c170, show (C 0 0).toInt.toNat = z155.toInt.toNat by omega, tk_us]; omega
                    · rw [c198, tk_unt (by decide), c170, tk_unt (by decide), c100, tk_unt (by decide), c89, show (C 0 0).toInt.toNat = z85.toInt.toNat by omega, tk_us] at h9
                      rw [c198, show (C 0 0).toInt.toNat = z183.toInt.toNat by omega, tk_us]; omega
                obtain rfl := List.mem_singleton.mp hcs
                obtain ⟨hr, hq, hc⟩ := hca
                obtain ⟨z195, rfl, lz195, uz195⟩ := hr_rvI hr
                have hp := hr_std hp hc (by decide +kernel)
                have e195w25 := congrArg Int32.toInt (hr_same1 hc (j := 25) (by decide +kernel))
                have sm : ∀ j, j < 32 → j ∉ [1, 25] → pvv195 j = pvv j := fun j h1 h2 => (hr_sameX (l := [1, 25]) hc (by decide +kernel) j h1 h2).trans (sm j h1 h2)
                refine hr_iastN B hb hU hW hS tz179 rfl (by omega) (by omega) (hr_ins (a := 0) (b := 39) (lo := -1) (hi := 5) (by omega) (by omega) (by decide +kernel) (by omega) (by omega)) (tk_EA tz179 (fun a h => hun 31 (by decide) _ _ tz179 h)) (u := 0) (v := 39) (by omega) (by omega) (by decide) dX0_readLine_198 (fun H locs hW hS => ?_)
                obtain ⟨C198, c198⟩ : ∃ f, f = tk_upd C170 31 (z183.toInt.toNat) z195 := ⟨_, rfl⟩
                rw [← c198] at hW
                refine hr_vret B hb rfl ⟨rfl, hp, sm, C198, rfl, fun t j h => ?_, fun k hk => ⟨?_, ?_, ?_⟩, fun hz => ?_⟩ hW hS dX0_readLine_199
                · rw [c198, tk_unt (by intro q; subst q; simp at h), c170, tk_unt (by intro q; subst q; simp at h), c100, tk_unt (by intro q; subst q; simp at h), c89, tk_unt (by intro q; subst q; simp at h)]
                · rw [c198, tk_unt (by decide), c170, tk_unt (by decide), c100, tk_unt (by decide), c89, tk_unj (by omega)]
                · rw [c198, tk_unt (by decide), c170, tk_unj (by omega), c100, tk_unj (by omega), c89, tk_unt (by decide)]
                · rw [c198, tk_unj (by omega), c170, tk_unt (by decide), c100, tk_unt (by decide), c89, tk_unt (by decide)]
                · refine ⟨by omega, fun h9 => ⟨?_, ?_⟩⟩
                  · rw [c198, tk_unt (by decide), c170, tk_unt (by decide), c100, tk_unt (by decide), c89, show (C 0 0).toInt.toNat = z85.toInt.toNat by omega, tk_us] at h9
                    rw [c198, tk_unt (by decide), c170, show (C 0 0).toInt.toNat = z155.toInt.toNat by omega, tk_us]; omega
                  · rw [c198, tk_unt (by decide), c170, tk_unt (by decide), c100, tk_unt (by decide), c89, show (C 0 0).toInt.toNat = z85.toInt.toNat by omega, tk_us] at h9
                    rw [c198, show (C 0 0).toInt.toNat = z183.toInt.toNat by omega, tk_us]; omega
          · refine lv_aload_n hx hb dX0_readLine_107 rfl (lv_at hl 3 rfl) ?_
            refine hr_bp hx hb dX0_readLine_108 (by decide) (by decide) (fun z108 hz108 => ?_)
            refine cm_callV (kc := kc_65) B rfl hb hl (hM.1 _ _ 0 [65] (isM (by decide +kernel)) 65 (by decide)) (hH1 _ tk_X1 65 (by decide)) (b := a1) (As := [.int z108]) ⟨hr_aR t1, hr_aF, True.intro⟩ hp hW hS rfl (by decide) (by decide) (Nat.le_of_ble_eq_true rfl) dX0_readLine_110 (fun cs hcs r pvv110 H locs hca hW hS => ?_)
            obtain rfl := List.mem_singleton.mp hcs
            obtain ⟨hr, hq, hc⟩ := hca
            obtain rfl := hr_rv0 hr
            have hp := hr_std hp hc (by decide +kernel)
            have e110r25 := hr_pv hc 25 (lo := 0) (hi := 4) rfl
            have sm : ∀ j, j < 32 → j ∉ [1, 25] → pvv110 j = pvv j := fun j h1 h2 => (hr_sameX (l := [1, 25]) hc (by decide +kernel) j h1 h2).trans (sm j h1 h2)
            refine lv_aload_n hx hb dX0_readLine_113 rfl (lv_at hl 3 rfl) ?_
            refine cm_callV (kc := kc_36) B rfl hb hl (hM.1 _ _ 0 [36] (isM (by decide +kernel)) 36 (by decide)) (hH1 _ tk_X1 36 (by decide)) (b := a1) (As := []) ⟨hr_aR t1, True.intro⟩ hp hW hS rfl (by decide) (by decide) (Nat.le_of_ble_eq_true rfl) dX0_readLine_114 (fun cs hcs r pvv114 H locs hca hW hS => ?_)
            rcases List.mem_cons.mp hcs with rfl | hcs
            · obtain ⟨hr, hq, hc⟩ := hca
              obtain ⟨z114, rfl, lz114, uz114⟩ := hr_rvI hr
              have e114r25 := hr_pv hc 25 (lo := 1) (hi := 4) rfl; rw [hr_same1 hc (j := 25) (by decide +kernel)] at e114r25
              have hW := hr_pvE (hr_sameA hc rfl (by decide +kernel)) hW
              refine hr_eq0 (tgt := 199) hx hb dX0_readLine_117 (by decide) (fun h117 => ?_) (fun h117 => ?_)
              · refine hr_vret B hb rfl ⟨rfl, hp, sm, C100, rfl, fun t j h => ?_, fun k hk => ⟨?_, ?_, ?_⟩, fun hz => ?_⟩ hW hS dX0_readLine_199
                · rw [c100, tk_unt (by intro q; subst q; simp at h), c89, tk_unt (by intro q; subst q; simp at h)]
                · rw [c100, tk_unt (by decide), c89, tk_unj (by omega)]
                · rw [c100, tk_unj (by omega), c89, tk_unt (by decide)]
                · rw [c100, tk_unt (by decide), c89, tk_unt (by decide)]
                · refine ⟨by omega, fun h9 => ⟨?_, ?_⟩⟩
                  · rw [c100, tk_unt (by decide), c89, show (C 0 0).toInt.toNat = z85.toInt.toNat by omega, tk_us] at h9
                    rw [c100, show (C 0 0).toInt.toNat = z95.toInt.toNat by omega, tk_us]; omega
                  · rw [c100, tk_unt (by decide), c89, show (C 0 0).toInt.toNat = z85.toInt.toNat by omega, tk_us] at h9
                    omega
              · omega
            obtain rfl := List.mem_singleton.mp hcs
            obtain ⟨hr, hq, hc⟩ := hca
            obtain ⟨z114, rfl, lz114, uz114⟩ := hr_rvI hr
            have e114r25 := hr_pv hc 25 (lo := 0) (hi := 0) rfl; rw [hr_same1 hc (j := 25) (by decide +kernel)] at e114r25
            have hW := hr_pvE (hr_sameA hc rfl (by decide +kernel)) hW
            refine hr_eq0 (tgt := 199) hx hb dX0_readLine_117 (by decide) (fun h117 => ?_) (fun h117 => ?_)
            · omega
            · refine lv_aload_n hx hb dX0_readLine_120 rfl (lv_at hl 2 rfl) ?_
              refine hr_getR B hF hb hW (ci := 0) (j := 3) (cd := 3) t0 rfl (isF (by decide +kernel)) rfl dX0_readLine_121 (fun az121 tz121 xz121 => ?_)
              refine lv_aload_n hx hb dX0_readLine_124 rfl (lv_at hl 2 rfl) ?_
              refine hr_getI B hF hb hW (ci := 0) (j := 0) (cd := 0) t0 rfl (isF (by decide +kernel)) rfl dX0_readLine_125 (fun z125 lz125 uz125 pz125 xz125 => ?_)
              have xz125 := tk_xo xz125 (fun _ h => h) (pq := ck_prot1) (C := C100) t0 (by decide); have kz125 := congrArg Int32.toInt xz125
              have e125 : z125.toInt = (C 0 0).toInt := by rw [kz125, c100, tk_unt (by decide), c89, tk_unt (by decide)]
              refine lv_aload_n hx hb dX0_readLine_128 rfl (lv_at hl 3 rfl) ?_
              refine lv_aload_n hx hb dX0_readLine_129 rfl (lv_at hl 4 rfl) ?_
              refine hr_getR B hF hb hW (ci := 6) (j := 6) (cd := 3) t2 rfl (isF (by decide +kernel)) rfl dX0_readLine_130 (fun az130 tz130 xz130 => ?_)
              refine lv_aload_n hx hb dX0_readLine_133 rfl (lv_at hl 4 rfl) ?_
              refine hr_getI B hF hb hW (ci := 6) (j := 0) (cd := 0) t2 rfl (isF (by decide +kernel)) rfl dX0_readLine_134 (fun z134 lz134 uz134 pz134 xz134 => ?_)
              have xz134 := tk_xo xz134 (fun _ h => h) (pq := ck_prot1) (C := C100) t2 (by decide); have kz134 := congrArg Int32.toInt xz134
              refine cm_callV (kc := kc_61) B rfl hb hl (hM.1 _ _ 0 [58, 59, 60, 61, 62, 63] (isM (by decide +kernel)) 61 (by decide)) (hH1 _ tk_X1 61 (by decide)) (b := a1) (As := [.ref az130, .int z134]) ⟨hr_aR t1, hr_aR tz130, hr_aF, True.intro⟩ hp hW hS rfl (by decide) (by decide) (Nat.le_of_ble_eq_true rfl) dX0_readLine_137 (fun cs hcs r pvv137 H locs hca hW hS => ?_)
              rcases List.mem_cons.mp hcs with rfl | hcs
              · obtain ⟨hr, hq, hc⟩ := hca
                obtain ⟨z137, rfl, lz137, uz137⟩ := hr_rvI hr
                have hp := hr_std hp hc (by decide +kernel)
                have e137r25 := hr_pv hc 25 (lo := 1) (hi := 4) rfl
                have sm : ∀ j, j < 32 → j ∉ [1, 25] → pvv137 j = pvv j := fun j h1 h2 => (hr_sameX (l := [1, 25]) hc (by decide +kernel) j h1 h2).trans (sm j h1 h2)
                refine hr_iastN B hb hU hW hS tz121 rfl (by omega) (by omega) (hr_ins (a := 0) (b := 39) (lo := -1) (hi := 5) (by omega) (by omega) (by decide +kernel) (by omega) (by omega)) (tk_EA tz121 (fun a h => hun 31 (by decide) _ _ tz121 h)) (u := 0) (v := 39) (by omega) (by omega) (by decide) dX0_readLine_140 (fun H locs hW hS => ?_)
                obtain ⟨C140, c140⟩ : ∃ f, f = tk_upd C100 31 (z125.toInt.toNat) z137 := ⟨_, rfl⟩
                rw [← c140] at hW
                refine lv_goto (tgt := 199) hx hb dX0_readLine_141 (by decide) ?_
                refine hr_vret B hb rfl ⟨rfl, hp, sm, C140, rfl, fun t j h => ?_, fun k hk => ⟨?_, ?_, ?_⟩, fun hz => ?_⟩ hW hS dX0_readLine_199
                · rw [c140, tk_unt (by intro q; subst q; simp at h), c100, tk_unt (by intro q; subst q; simp at h), c89, tk_unt (by intro q; subst q; simp at h)]
                · rw [c140, tk_unt (by decide), c100, tk_unt (by decide), c89, tk_unj (by omega)]
                · rw [c140, tk_unt (by decide), c100, tk_unj (by omega), c89, tk_unt (by decide)]
                · rw [c140, tk_unj (by omega), c100, tk_unt (by decide), c89, tk_unt (by decide)]
                · refine ⟨by omega, fun h9 => ⟨?_, ?_⟩⟩
                  · rw [c140, tk_unt (by decide), c100, tk_unt (by decide), c89, show (C 0 0).toInt.toNat = z85.toInt.toNat by omega, tk_us] at h9
                    rw [c140, tk_unt (by decide), c100, show (C 0 0).toInt.toNat = z95.toInt.toNat by omega, tk_us]; omega
                  · rw [c140, tk_unt (by decide), c100, tk_unt (by decide), c89, show (C 0 0).toInt.toNat = z85.toInt.toNat by omega, tk_us] at h9
                    rw [c140, show (C 0 0).toInt.toNat = z125.toInt.toNat by omega, tk_us]; omega
              obtain rfl := List.mem_singleton.mp hcs
              obtain ⟨hr, hq, hc⟩ := hca
              obtain ⟨z137, rfl, lz137, uz137⟩ := hr_rvI hr
              have hp := hr_std hp hc (by decide +kernel)
              have e137w25 := congrArg Int32.toInt (hr_same1 hc (j := 25) (by decide +kernel))
              have sm : ∀ j, j < 32 → j ∉ [1, 25] → pvv137 j = pvv j := fun j h1 h2 => (hr_sameX (l := [1, 25]) hc (by decide +kernel) j h1 h2).trans (sm j h1 h2)
              refine hr_iastN B hb hU hW hS tz121 rfl (by omega) (by omega) (hr_ins (a := 0) (b := 39) (lo := -1) (hi := 5) (by omega) (by omega) (by decide +kernel) (by omega) (by omega)) (tk_EA tz121 (fun a h => hun 31 (by decide) _ _ tz121 h)) (u := 0) (v := 39) (by omega) (by omega) (by decide) dX0_readLine_140 (fun H locs hW hS => ?_)
              obtain ⟨C140, c140⟩ : ∃ f, f = tk_upd C100 31 (z125.toInt.toNat) z137 := ⟨_, rfl⟩
              rw [← c140] at hW
              refine lv_goto (tgt := 199) hx hb dX0_readLine_141 (by decide) ?_
              refine hr_vret B hb rfl ⟨rfl, hp, sm, C140, rfl, fun t j h => ?_, fun k hk => ⟨?_, ?_, ?_⟩, fun hz => ?_⟩ hW hS dX0_readLine_199
              · rw [c140, tk_unt (by intro q; subst q; simp at h), c100, tk_unt (by intro q; subst q; simp at h), c89, tk_unt (by intro q; subst q; simp at h)]
              · rw [c140, tk_unt (by decide), c100, tk_unt (by decide), c89, tk_unj (by omega)]
              · rw [c140, tk_unt (by decide), c100, tk_unj (by omega), c89, tk_unt (by decide)]
              · rw [c140, tk_unj (by omega), c100, tk_unt (by decide), c89, tk_unt (by decide)]
              · refine ⟨by omega, fun h9 => ⟨?_, ?_⟩⟩
                · rw [c140, tk_unt (by decide), c100, tk_unt (by decide), c89, show (C 0 0).toInt.toNat = z85.toInt.toNat by omega, tk_us] at h9
                  rw [c140, tk_unt (by decide), c100, show (C 0 0).toInt.toNat = z95.toInt.toNat by omega, tk_us]; omega
                · rw [c140, tk_unt (by decide), c100, tk_unt (by decide), c89, show (C 0 0).toInt.toNat = z85.toInt.toNat by omega, tk_us] at h9
                  rw [c140, show (C 0 0).toInt.toNat = z125.toInt.toNat by omega, tk_us]; omega
        · omega
  refine lv_aload_n hx hb dX0_readLine_0 rfl (lv_at hl 1 rfl) ?_
  refine cm_callV (kc := kc_0) B rfl hb hl (hM.1 _ _ 0 [0] (isM (by decide +kernel)) 0 (by decide)) (hH1 _ tk_X1 0 (by decide)) (b := a1) (As := []) ⟨hr_aR t1, True.intro⟩ hp hW hS rfl (by decide) (by decide) (Nat.le_of_ble_eq_true rfl) dX0_readLine_1 (fun cs hcs r pvv1 H locs hca hW hS => ?_)
  rcases List.mem_cons.mp hcs with rfl | hcs
  · obtain ⟨hr, hq, hc⟩ := hca
    obtain ⟨z1, rfl, lz1, uz1⟩ := hr_rvI hr
    have hW := hr_pvE (hr_sameA hc rfl (by decide +kernel)) hW
    refine hr_eq0 (tgt := 12) hx hb dX0_readLine_4 (by decide) (fun h4 => ?_) (fun h4 => ?_)
    · refine lv_aload_n hx hb dX0_readLine_12 rfl (lv_at hl 1 rfl) ?_
      refine cm_callV (kc := kc_66) B rfl hb hl (hM.1 _ _ 0 [66] (isM (by decide +kernel)) 66 (by decide)) (hH1 _ tk_X1 66 (by decide)) (b := a1) (As := []) ⟨hr_aR t1, True.intro⟩ hp hW hS rfl (by decide) (by decide) (Nat.le_of_ble_eq_true rfl) dX0_readLine_13 (fun cs hcs r pvv13 H locs hca hW hS => ?_)
      obtain rfl := List.mem_singleton.mp hcs
      obtain ⟨hr, hq, hc⟩ := hca
      obtain ⟨z13, rfl, lz13, uz13⟩ := hr_rvI hr
      have hW := hr_pvE (hr_sameA hc rfl (by decide +kernel)) hW
      refine lv_istore_n hx hb dX0_readLine_16 rfl hl (lv' := [(3, .int z13), (0, .ref a0), (1, .ref a1), (2, .ref a2)]) (by decide) rfl (fun ls hl => ?_)
      refine lv_aload_n hx hb dX0_readLine_17 rfl (lv_at hl 2 rfl) ?_
      refine lv_iload_n hx hb dX0_readLine_18 rfl (lv_at hl 0 rfl) ?_
      refine cm_callS (kc := kc_1) B rfl hb hl (hM.1 _ _ 1 [1] (isM (by decide +kernel)) 1 (by decide)) (hH1 _ tk_X1 1 (by decide)) (As := [.ref a1, .int z13]) ⟨hr_aR t1, hr_aF, True.intro⟩ hp hW hS rfl (by decide) (by decide) (Nat.le_of_ble_eq_true rfl) dX0_readLine_19 (fun cs hcs r pvv19 H locs hca hW hS => ?_)
      rcases List.mem_cons.mp hcs with rfl | hcs
      · obtain ⟨hr, hq, hc⟩ := hca
        obtain ⟨z19, rfl, lz19, uz19⟩ := hr_rvI hr
        have hW := hr_pvE (hr_sameA hc rfl (by decide +kernel)) hW
        refine hr_ne0 (tgt := 31) hx hb dX0_readLine_22 (by decide) (fun h22 => ?_) (fun h22 => ?_)
        · omega
        · refine lv_aload_n hx hb dX0_readLine_25 rfl (lv_at hl 2 rfl) ?_
          refine hr_ic hx hb dX0_readLine_26 (by decide) (fun z26 hz26 => ?_)
          refine cm_callV (kc := kc_35) B rfl hb hl (hM.1 _ _ 0 [35] (isM (by decide +kernel)) 35 (by decide)) (hH1 _ tk_X1 35 (by decide)) (b := a1) (As := [.int z26]) ⟨hr_aR t1, hr_aI (by omega) (by omega), True.intro⟩ hp hW hS rfl (by decide) (by decide) (Nat.le_of_ble_eq_true rfl) dX0_readLine_27 (fun cs hcs r pvv27 H locs hca hW hS => ?_)
          obtain rfl := List.mem_singleton.mp hcs
          obtain ⟨hr, hq, hc⟩ := hca
          obtain rfl := hr_rv0 hr
          have hp := hr_std hp hc (by decide +kernel)
          have e27r25 := hr_pv hc 25 (lo := 1) (hi := 4) rfl
          have sm : ∀ j, j < 32 → j ∉ [1, 25] → pvv27 j = pvv j := fun j h1 h2 => (hr_sameX (l := [1, 25]) hc (by decide +kernel) j h1 h2).trans (sm j h1 h2)
          refine hr_vret B hb rfl ⟨rfl, hp, sm, C, rfl, fun t j h => ?_, fun k hk => ⟨?_, ?_, ?_⟩, fun hz => ?_⟩ hW hS dX0_readLine_30
          · rfl
          · rfl
          · rfl
          · rfl
          · omega
      obtain rfl := List.mem_singleton.mp hcs
      obtain ⟨hr, hq, hc⟩ := hca
      obtain ⟨z19, rfl, lz19, uz19⟩ := hr_rvI hr
      have hW := hr_pvE (hr_sameA hc rfl (by decide +kernel)) hW
      refine hr_ne0 (tgt := 31) hx hb dX0_readLine_22 (by decide) (fun h22 => ?_) (fun h22 => ?_)
      · refine hr_ic hx hb dX0_readLine_31 (by decide) (fun z31 hz31 => ?_)
        refine lv_istore hx hb dX0_readLine_32 hl (lv' := [(4, .int z31), (3, .int z13), (0, .ref a0), (1, .ref a1), (2, .ref a2)]) (by decide) rfl (fun ls hl => ?_)
        refine lv_iload_n hx hb dX0_readLine_34 rfl (lv_at hl 1 rfl) ?_
        refine hr_bp hx hb dX0_readLine_35 (by decide) (by decide) (fun z35 hz35 => ?_)
        refine hr_ne (tgt := 54) hx hb dX0_readLine_37 (by decide) (fun h37 => ?_) (fun h37 => ?_)
        · exact l54 1 z31 z13 pvv _ _ _ (by omega) (by omega) (by omega) (by omega) sm hp hl hW hS
        · refine lv_aload_n hx hb dX0_readLine_40 rfl (lv_at hl 3 rfl) ?_
          refine lv_aload_n hx hb dX0_readLine_41 rfl (lv_at hl 4 rfl) ?_
          refine hr_getR B hF hb hW (ci := 6) (j := 8) (cd := 3) t2 rfl (isF (by decide +kernel)) rfl dX0_readLine_42 (fun az42 tz42 xz42 => ?_)
          refine lv_aload_n hx hb dX0_readLine_45 rfl (lv_at hl 4 rfl) ?_
          refine hr_getI B hF hb hW (ci := 6) (j := 2) (cd := 0) t2 rfl (isF (by decide +kernel)) rfl dX0_readLine_46 (fun z46 lz46 uz46 pz46 xz46 => ?_)
          have xz46 := tk_xo xz46 (fun _ h => h) (pq := ck_prot1) (C := C) t2 (by decide); have kz46 := congrArg Int32.toInt xz46
          refine cm_callV (kc := kc_49) B rfl hb hl (hM.1 _ _ 0 [44, 45, 46, 47, 48, 49] (isM (by decide +kernel)) 49 (by decide)) (hH1 _ tk_X1 49 (by decide)) (b := a1) (As := [.ref az42, .int z46]) ⟨hr_aR t1, hr_aR tz42, hr_aF, True.intro⟩ hp hW hS rfl (by decide) (by decide) (Nat.le_of_ble_eq_true rfl) dX0_readLine_49 (fun cs hcs r pvv49 H locs hca hW hS => ?_)
          rcases List.mem_cons.mp hcs with rfl | hcs
          · obtain ⟨hr, hq, hc⟩ := hca
            obtain ⟨z49, rfl, lz49, uz49⟩ := hr_rvI hr
            have hp := hr_std hp hc (by decide +kernel)
            have e49r25 := hr_pv hc 25 (lo := 1) (hi := 4) rfl
            have sm : ∀ j, j < 32 → j ∉ [1, 25] → pvv49 j = pvv j := fun j h1 h2 => (hr_sameX (l := [1, 25]) hc (by decide +kernel) j h1 h2).trans (sm j h1 h2)
            refine lv_istore hx hb dX0_readLine_52 hl (lv' := [(4, .int z49), (3, .int z13), (0, .ref a0), (1, .ref a1), (2, .ref a2)]) (by decide) rfl (fun ls hl => ?_)
            exact l54 1 z49 z13 pvv49 _ _ _ (by omega) (by omega) (by omega) (by omega) sm hp hl hW hS
          obtain rfl := List.mem_singleton.mp hcs
          obtain ⟨hr, hq, hc⟩ := hca
          obtain ⟨z49, rfl, lz49, uz49⟩ := hr_rvI hr
          have hW := hr_pvE (hr_sameA hc rfl (by decide +kernel)) hW
          refine lv_istore hx hb dX0_readLine_52 hl (lv' := [(4, .int z49), (3, .int z13), (0, .ref a0), (1, .ref a1), (2, .ref a2)]) (by decide) rfl (fun ls hl => ?_)
          exact l54 1 z49 z13 pvv _ _ _ (by omega) (by omega) (by omega) (by omega) sm hp hl hW hS
      · omega
    · omega
  obtain rfl := List.mem_singleton.mp hcs
  obtain ⟨hr, hq, hc⟩ := hca
  obtain ⟨z1, rfl, lz1, uz1⟩ := hr_rvI hr
  have hW := hr_pvE (hr_sameA hc rfl (by decide +kernel)) hW
  refine hr_eq0 (tgt := 12) hx hb dX0_readLine_4 (by decide) (fun h4 => ?_) (fun h4 => ?_)
  · omega
  · refine hr_bp hx hb dX0_readLine_7 (by decide) (by decide) (fun z7 hz7 => ?_)
    refine lv_goto (tgt := 16) hx hb dX0_readLine_9 (by decide) ?_
    refine lv_istore_n hx hb dX0_readLine_16 rfl hl (lv' := [(3, .int z7), (0, .ref a0), (1, .ref a1), (2, .ref a2)]) (by decide) rfl (fun ls hl => ?_)
    refine lv_aload_n hx hb dX0_readLine_17 rfl (lv_at hl 2 rfl) ?_
    refine lv_iload_n hx hb dX0_readLine_18 rfl (lv_at hl 0 rfl) ?_
    refine cm_callS (kc := kc_1) B rfl hb hl (hM.1 _ _ 1 [1] (isM (by decide +kernel)) 1 (by decide)) (hH1 _ tk_X1 1 (by decide)) (As := [.ref a1, .int z7]) ⟨hr_aR t1, hr_aF, True.intro⟩ hp hW hS rfl (by decide) (by decide) (Nat.le_of_ble_eq_true rfl) dX0_readLine_19 (fun cs hcs r pvv19 H locs hca hW hS => ?_)
    rcases List.mem_cons.mp hcs with rfl | hcs
    · obtain ⟨hr, hq, hc⟩ := hca
      obtain ⟨z19, rfl, lz19, uz19⟩ := hr_rvI hr
      have hW := hr_pvE (hr_sameA hc rfl (by decide +kernel)) hW
      refine hr_ne0 (tgt := 31) hx hb dX0_readLine_22 (by decide) (fun h22 => ?_) (fun h22 => ?_)
      · omega
      · refine lv_aload_n hx hb dX0_readLine_25 rfl (lv_at hl 2 rfl) ?_
        refine hr_ic hx hb dX0_readLine_26 (by decide) (fun z26 hz26 => ?_)
        refine cm_callV (kc := kc_35) B rfl hb hl (hM.1 _ _ 0 [35] (isM (by decide +kernel)) 35 (by decide)) (hH1 _ tk_X1 35 (by decide)) (b := a1) (As := [.int z26]) ⟨hr_aR t1, hr_aI (by omega) (by omega), True.intro⟩ hp hW hS rfl (by decide) (by decide) (Nat.le_of_ble_eq_true rfl) dX0_readLine_27 (fun cs hcs r pvv27 H locs hca hW hS => ?_)
        obtain rfl := List.mem_singleton.mp hcs
        obtain ⟨hr, hq, hc⟩ := hca
        obtain rfl := hr_rv0 hr
        have hp := hr_std hp hc (by decide +kernel)
        have e27r25 := hr_pv hc 25 (lo := 1) (hi := 4) rfl
        have sm : ∀ j, j < 32 → j ∉ [1, 25] → pvv27 j = pvv j := fun j h1 h2 => (hr_sameX (l := [1, 25]) hc (by decide +kernel) j h1 h2).trans (sm j h1 h2)
        refine hr_vret B hb rfl ⟨rfl, hp, sm, C, rfl, fun t j h => ?_, fun k hk => ⟨?_, ?_, ?_⟩, fun hz => ?_⟩ hW hS dX0_readLine_30
        · rfl
        · rfl
        · rfl
        · rfl
        · omega
    obtain rfl := List.mem_singleton.mp hcs
    obtain ⟨hr, hq, hc⟩ := hca
    obtain ⟨z19, rfl, lz19, uz19⟩ := hr_rvI hr
    have hW := hr_pvE (hr_sameA hc rfl (by decide +kernel)) hW
    refine hr_ne0 (tgt := 31) hx hb dX0_readLine_22 (by decide) (fun h22 => ?_) (fun h22 => ?_)
    · refine hr_ic hx hb dX0_readLine_31 (by decide) (fun z31 hz31 => ?_)
      refine lv_istore hx hb dX0_readLine_32 hl (lv' := [(4, .int z31), (3, .int z7), (0, .ref a0), (1, .ref a1), (2, .ref a2)]) (by decide) rfl (fun ls hl => ?_)
      refine lv_iload_n hx hb dX0_readLine_34 rfl (lv_at hl 1 rfl) ?_
      refine hr_bp hx hb dX0_readLine_35 (by decide) (by decide) (fun z35 hz35 => ?_)
      refine hr_ne (tgt := 54) hx hb dX0_readLine_37 (by decide) (fun h37 => ?_) (fun h37 => ?_)
      · omega
      · refine lv_aload_n hx hb dX0_readLine_40 rfl (lv_at hl 3 rfl) ?_
        refine lv_aload_n hx hb dX0_readLine_41 rfl (lv_at hl 4 rfl) ?_
        refine hr_getR B hF hb hW (ci := 6) (j := 8) (cd := 3) t2 rfl (isF (by decide +kernel)) rfl dX0_readLine_42 (fun az42 tz42 xz42 => ?_)
        refine lv_aload_n hx hb dX0_readLine_45 rfl (lv_at hl 4 rfl) ?_
        refine hr_getI B hF hb hW (ci := 6) (j := 2) (cd := 0) t2 rfl (isF (by decide +kernel)) rfl dX0_readLine_46 (fun z46 lz46 uz46 pz46 xz46 => ?_)
        have xz46 := tk_xo xz46 (fun _ h => h) (pq := ck_prot1) (C := C) t2 (by decide); have kz46 := congrArg Int32.toInt xz46
        refine cm_callV (kc := kc_49) B rfl hb hl (hM.1 _ _ 0 [44, 45, 46, 47, 48, 49] (isM (by decide +kernel)) 49 (by decide)) (hH1 _ tk_X1 49 (by decide)) (b := a1) (As := [.ref az42, .int z46]) ⟨hr_aR t1, hr_aR tz42, hr_aF, True.intro⟩ hp hW hS rfl (by decide) (by decide) (Nat.le_of_ble_eq_true rfl) dX0_readLine_49 (fun cs hcs r pvv49 H locs hca hW hS => ?_)
        rcases List.mem_cons.mp hcs with rfl | hcs
        · obtain ⟨hr, hq, hc⟩ := hca
          obtain ⟨z49, rfl, lz49, uz49⟩ := hr_rvI hr
          have hp := hr_std hp hc (by decide +kernel)
          have e49r25 := hr_pv hc 25 (lo := 1) (hi := 4) rfl
          have sm : ∀ j, j < 32 → j ∉ [1, 25] → pvv49 j = pvv j := fun j h1 h2 => (hr_sameX (l := [1, 25]) hc (by decide +kernel) j h1 h2).trans (sm j h1 h2)
          refine lv_istore hx hb dX0_readLine_52 hl (lv' := [(4, .int z49), (3, .int z7), (0, .ref a0), (1, .ref a1), (2, .ref a2)]) (by decide) rfl (fun ls hl => ?_)
          exact l54 1 z49 z7 pvv49 _ _ _ (by omega) (by omega) (by omega) (by omega) sm hp hl hW hS
        obtain rfl := List.mem_singleton.mp hcs
        obtain ⟨hr, hq, hc⟩ := hca
        obtain ⟨z49, rfl, lz49, uz49⟩ := hr_rvI hr
        have hW := hr_pvE (hr_sameA hc rfl (by decide +kernel)) hW
        refine lv_istore hx hb dX0_readLine_52 hl (lv' := [(4, .int z49), (3, .int z7), (0, .ref a0), (1, .ref a1), (2, .ref a2)]) (by decide) rfl (fun ls hl => ?_)
        exact l54 1 z49 z7 pvv _ _ _ (by omega) (by omega) (by omega) (by omega) sm hp hl hW hS
    · omega
theorem dX0_whyWrong_0 : decode cX0_whyWrong 0 = .ok (.aload_n 0, 1) := by decide +kernel
theorem dX0_whyWrong_1 : decode cX0_whyWrong 1 = .ok (.getfield 19, 3) := by decide +kernel
theorem dX0_whyWrong_4 : decode cX0_whyWrong 4 = .ok (.iload_n 1, 1) := by decide +kernel
theorem dX0_whyWrong_5 : decode cX0_whyWrong 5 = .ok (.iaload, 1) := by decide +kernel
theorem dX0_whyWrong_6 : decode cX0_whyWrong 6 = .ok (.istore 5, 2) := by decide +kernel
theorem dX0_whyWrong_8 : decode cX0_whyWrong 8 = .ok (.aload_n 0, 1) := by decide +kernel
theorem dX0_whyWrong_9 : decode cX0_whyWrong 9 = .ok (.getfield 22, 3) := by decide +kernel
theorem dX0_whyWrong_12 : decode cX0_whyWrong 12 = .ok (.iload_n 1, 1) := by decide +kernel
theorem dX0_whyWrong_13 : decode cX0_whyWrong 13 = .ok (.iaload, 1) := by decide +kernel
theorem dX0_whyWrong_14 : decode cX0_whyWrong 14 = .ok (.istore 6, 2) := by decide +kernel
theorem dX0_whyWrong_16 : decode cX0_whyWrong 16 = .ok (.aload_n 0, 1) := by decide +kernel
theorem dX0_whyWrong_17 : decode cX0_whyWrong 17 = .ok (.getfield 15, 3) := by decide +kernel
theorem dX0_whyWrong_20 : decode cX0_whyWrong 20 = .ok (.iload_n 1, 1) := by decide +kernel
theorem dX0_whyWrong_21 : decode cX0_whyWrong 21 = .ok (.iaload, 1) := by decide +kernel
theorem dX0_whyWrong_22 : decode cX0_whyWrong 22 = .ok (.tableswitch 79 12 14 #[26, 36, 61], 26) := by decide +kernel
theorem dX0_whyWrong_48 : decode cX0_whyWrong 48 = .ok (.aload_n 3, 1) := by decide +kernel
theorem dX0_whyWrong_49 : decode cX0_whyWrong 49 = .ok (.aload_n 2, 1) := by decide +kernel
theorem dX0_whyWrong_50 : decode cX0_whyWrong 50 = .ok (.iload 5, 2) := by decide +kernel
theorem dX0_whyWrong_52 : decode cX0_whyWrong 52 = .ok (.iload 6, 2) := by decide +kernel
theorem dX0_whyWrong_54 : decode cX0_whyWrong 54 = .ok (.invokevirtual 117, 3) := by decide +kernel
theorem dX0_whyWrong_57 : decode cX0_whyWrong 57 = .ok (.ireturn, 1) := by decide +kernel
theorem dX0_whyWrong_58 : decode cX0_whyWrong 58 = .ok (.aload_n 3, 1) := by decide +kernel
theorem dX0_whyWrong_59 : decode cX0_whyWrong 59 = .ok (.aload_n 2, 1) := by decide +kernel
theorem dX0_whyWrong_60 : decode cX0_whyWrong 60 = .ok (.iload 5, 2) := by decide +kernel
theorem dX0_whyWrong_62 : decode cX0_whyWrong 62 = .ok (.iload 6, 2) := by decide +kernel
theorem dX0_whyWrong_64 : decode cX0_whyWrong 64 = .ok (.invokevirtual 121, 3) := by decide +kernel
theorem dX0_whyWrong_67 : decode cX0_whyWrong 67 = .ok (.ifCond .ne 6, 3) := by decide +kernel
theorem dX0_whyWrong_70 : decode cX0_whyWrong 70 = .ok (.bipush 12, 2) := by decide +kernel
theorem dX0_whyWrong_72 : decode cX0_whyWrong 72 = .ok (.ireturn, 1) := by decide +kernel
theorem dX0_whyWrong_73 : decode cX0_whyWrong 73 = .ok (.aload_n 3, 1) := by decide +kernel
theorem dX0_whyWrong_74 : decode cX0_whyWrong 74 = .ok (.iload 5, 2) := by decide +kernel
theorem dX0_whyWrong_76 : decode cX0_whyWrong 76 = .ok (.iload 6, 2) := by decide +kernel
theorem dX0_whyWrong_78 : decode cX0_whyWrong 78 = .ok (.invokevirtual 125, 3) := by decide +kernel
theorem dX0_whyWrong_81 : decode cX0_whyWrong 81 = .ok (.iconst 0, 1) := by decide +kernel
theorem dX0_whyWrong_82 : decode cX0_whyWrong 82 = .ok (.ireturn, 1) := by decide +kernel
theorem dX0_whyWrong_83 : decode cX0_whyWrong 83 = .ok (.aload_n 3, 1) := by decide +kernel
theorem dX0_whyWrong_84 : decode cX0_whyWrong 84 = .ok (.aload_n 2, 1) := by decide +kernel
theorem dX0_whyWrong_85 : decode cX0_whyWrong 85 = .ok (.invokevirtual 129, 3) := by decide +kernel
theorem dX0_whyWrong_88 : decode cX0_whyWrong 88 = .ok (.ifCond .ne 6, 3) := by decide +kernel
theorem dX0_whyWrong_91 : decode cX0_whyWrong 91 = .ok (.bipush 11, 2) := by decide +kernel
theorem dX0_whyWrong_93 : decode cX0_whyWrong 93 = .ok (.ireturn, 1) := by decide +kernel
theorem dX0_whyWrong_94 : decode cX0_whyWrong 94 = .ok (.aload_n 3, 1) := by decide +kernel
theorem dX0_whyWrong_95 : decode cX0_whyWrong 95 = .ok (.aload_n 2, 1) := by decide +kernel
theorem dX0_whyWrong_96 : decode cX0_whyWrong 96 = .ok (.invokevirtual 133, 3) := by decide +kernel
theorem dX0_whyWrong_99 : decode cX0_whyWrong 99 = .ok (.iconst 0, 1) := by decide +kernel
theorem dX0_whyWrong_100 : decode cX0_whyWrong 100 = .ok (.ireturn, 1) := by decide +kernel
theorem dX0_whyWrong_101 : decode cX0_whyWrong 101 = .ok (.aload 4, 2) := by decide +kernel
theorem dX0_whyWrong_103 : decode cX0_whyWrong 103 = .ok (.aload_n 2, 1) := by decide +kernel
theorem dX0_whyWrong_104 : decode cX0_whyWrong 104 = .ok (.aload_n 3, 1) := by decide +kernel
theorem dX0_whyWrong_105 : decode cX0_whyWrong 105 = .ok (.invokevirtual 137, 3) := by decide +kernel
theorem dX0_whyWrong_108 : decode cX0_whyWrong 108 = .ok (.ifCond .ne 6, 3) := by decide +kernel
theorem dX0_whyWrong_111 : decode cX0_whyWrong 111 = .ok (.bipush 13, 2) := by decide +kernel
theorem dX0_whyWrong_113 : decode cX0_whyWrong 113 = .ok (.ireturn, 1) := by decide +kernel
theorem dX0_whyWrong_114 : decode cX0_whyWrong 114 = .ok (.aload 4, 2) := by decide +kernel
theorem dX0_whyWrong_116 : decode cX0_whyWrong 116 = .ok (.aload_n 3, 1) := by decide +kernel
theorem dX0_whyWrong_117 : decode cX0_whyWrong 117 = .ok (.getfield 143, 3) := by decide +kernel
theorem dX0_whyWrong_120 : decode cX0_whyWrong 120 = .ok (.invokevirtual 146, 3) := by decide +kernel
theorem dX0_whyWrong_123 : decode cX0_whyWrong 123 = .ok (.iconst 0, 1) := by decide +kernel
theorem dX0_whyWrong_124 : decode cX0_whyWrong 124 = .ok (.ireturn, 1) := by decide +kernel
set_option maxRecDepth 100000 in
set_option maxHeartbeats 4000000 in
theorem hs_whyWrong (hF : ck_LKf ck_LK) (hC : ck_LKc ck_LK) (hM : ck_LKm ck_tags ck_LK ck_tab) (hMh : ∀ q ∈ ck_hl, ck_mOK ck_tags q.1 q.2.1 q.2.2.1 q.2.2.2) (hU : ck_uq ty ck_pvs0) (hun : ck_un ty) (hH1 : ∀ Ex', ck_ExP ty ck_prot1 Ex' → ∀ j, j < 331 → ck_Holds l D cys ty ck_tags ck_pvs0 Ex' (ck_tab j)) {a0 a2 a3 a4 : Nat} {x1 : Int32} (t0 : ty a0 = some 0) (t2 : ty a2 = some 6) (t3 : ty a3 = some 2) (t4 : ty a4 = some 1) (hp : ck_pvo ty (ck_XE pvv) pP pvv) (l1 : 0 ≤ x1.toInt) (u1 : x1.toInt ≤ 39) (hk : (C 29 x1.toInt.toNat).toInt = 12 ∨ (C 29 x1.toInt.toNat).toInt = 13 → 0 ≤ (C 30 x1.toInt.toNat).toInt ∧ 0 ≤ (C 31 x1.toInt.toNat).toInt) : hr_Met l D cys ty ck_tags ck_pvs0 (tk ty ck_prot1 C) kh_0_whyWrong [.ref a0, .int x1, .ref a2, .ref a3, .ref a4] pvv (fun r pvv' E' => ck_pvo ty (ck_XE pvv') pP pvv' ∧ (∀ j, j < 32 → j ∉ [7] → pvv' j = pvv j) ∧ E' = tk ty ck_prot1 C ∧ ∃ z : Int32, r = some (.int z) ∧ 0 ≤ z.toInt ∧ z.toInt ≤ 13) := by
  refine hr_enter (by decide +kernel) (by decide +kernel) (by decide +kernel) ⟨hr_aR t0, hr_aI l1 u1, hr_aR t2, hr_aR t3, hr_aR t4, True.intro⟩ ?_
  intro p e s m below meth c ls B hl hW
  have hx := B.1
  have hb : c.code = cX0_whyWrong := B.2.1
  have hI := pv_inj
  have hS : va_S (ck_own ty) s.heap s.heap [] := va_S.rf
  have hl : lv_has ls 7 [(0, .ref a0), (1, .int x1), (2, .ref a2), (3, .ref a3), (4, .ref a4)] := hl
  have sm : ∀ j, j < 32 → j ∉ [7] → pvv j = pvv j := fun _ _ _ => rfl
  refine lv_aload_n hx hb dX0_whyWrong_0 rfl (lv_at hl 0 rfl) ?_
  refine hr_getR B hF hb hW (ci := 0) (j := 2) (cd := 3) t0 rfl (isF (by decide +kernel)) rfl dX0_whyWrong_1 (fun az1 tz1 xz1 => ?_)
  refine lv_iload_n hx hb dX0_whyWrong_4 rfl (lv_at hl 1 rfl) ?_
  refine hr_iald B hb hW tz1 rfl (by omega) (by omega) dX0_whyWrong_5 (fun z5 iz5 pz5 xz5 => ?_)
  have iz5 := hr_inr iz5 (a := 0) (b := 39) (lo := -1) (hi := 7) (by omega) (by omega) (by decide +kernel)
  have xz5 := tk_xa xz5 (fun _ h => h) (pq := ck_prot1) (C := C) tz1 ⟨(0, 39), by decide, by dsimp only; omega, by dsimp only; omega⟩; have kz5 := congrArg Int32.toInt xz5
  refine lv_istore hx hb dX0_whyWrong_6 hl (lv' := [(5, .int z5), (0, .ref a0), (1, .int x1), (2, .ref a2), (3, .ref a3), (4, .ref a4)]) (by decide) rfl (fun ls hl => ?_)
  refine lv_aload_n hx hb dX0_whyWrong_8 rfl (lv_at hl 1 rfl) ?_
  refine hr_getR B hF hb hW (ci := 0) (j := 3) (cd := 3) t0 rfl (isF (by decide +kernel)) rfl dX0_whyWrong_9 (fun az9 tz9 xz9 => ?_)
  refine lv_iload_n hx hb dX0_whyWrong_12 rfl (lv_at hl 2 rfl) ?_
  refine hr_iald B hb hW tz9 rfl (by omega) (by omega) dX0_whyWrong_13 (fun z13 iz13 pz13 xz13 => ?_)
  have iz13 := hr_inr iz13 (a := 0) (b := 39) (lo := -1) (hi := 5) (by omega) (by omega) (by decide +kernel)
  have xz13 := tk_xa xz13 (fun _ h => h) (pq := ck_prot1) (C := C) tz9 ⟨(0, 39), by decide, by dsimp only; omega, by dsimp only; omega⟩; have kz13 := congrArg Int32.toInt xz13
  refine lv_istore hx hb dX0_whyWrong_14 hl (lv' := [(6, .int z13), (5, .int z5), (0, .ref a0), (1, .int x1), (2, .ref a2), (3, .ref a3), (4, .ref a4)]) (by decide) rfl (fun ls hl => ?_)
  refine lv_aload_n hx hb dX0_whyWrong_16 rfl (lv_at hl 2 rfl) ?_
  refine hr_getR B hF hb hW (ci := 0) (j := 1) (cd := 3) t0 rfl (isF (by decide +kernel)) rfl dX0_whyWrong_17 (fun az17 tz17 xz17 => ?_)
  refine lv_iload_n hx hb dX0_whyWrong_20 rfl (lv_at hl 3 rfl) ?_
  refine hr_iald B hb hW tz17 rfl (by omega) (by omega) dX0_whyWrong_21 (fun z21 iz21 pz21 xz21 => ?_)
  have xz21 := tk_xa xz21 (fun _ h => h) (pq := ck_prot1) (C := C) tz17 ⟨(0, 39), by decide, by dsimp only; omega, by dsimp only; omega⟩; have kz21 := congrArg Int32.toInt xz21
  by_cases h22_12 : z21.toInt = 12
  · refine lv_tableIn (tgt := 48) hx hb dX0_whyWrong_22 (by omega) (by omega) (by rw [h22_12]; rfl) (by decide) ?_
    have hk := hk (by omega)
    refine lv_aload_n hx hb dX0_whyWrong_48 rfl (lv_at hl 5 rfl) ?_
    refine lv_aload_n hx hb dX0_whyWrong_49 rfl (lv_at hl 4 rfl) ?_
    refine lv_iload hx hb dX0_whyWrong_50 (lv_at hl 1 rfl) ?_
    refine lv_iload hx hb dX0_whyWrong_52 (lv_at hl 0 rfl) ?_
    refine cm_callV (kc := kc_286) B rfl hb hl (hM.1 _ _ 0 [286] (isM (by decide +kernel)) 286 (by decide)) (hH1 _ tk_X1 286 (by decide)) (b := a3) (As := [.ref a2, .int z5, .int z13]) ⟨hr_aR t3, hr_aR t2, hr_aI (by omega) (by omega), hr_aI (by omega) (by omega), True.intro⟩ hp hW hS rfl (by decide) (by decide) (Nat.le_of_ble_eq_true rfl) dX0_whyWrong_54 (fun cs hcs r pvv54 H locs hca hW hS => ?_)
    obtain rfl := List.mem_singleton.mp hcs
    obtain ⟨hr, hq, hc⟩ := hca
    obtain ⟨z54, rfl, lz54, uz54⟩ := hr_rvI hr
    have hW := hr_pvE (hr_sameA hc rfl (by decide +kernel)) hW
    exact hr_iret B hb rfl ⟨hp, sm, rfl, z54, rfl, by omega, by omega⟩ hW hS dX0_whyWrong_57
  by_cases h22_13 : z21.toInt = 13
  · refine lv_tableIn (tgt := 58) hx hb dX0_whyWrong_22 (by omega) (by omega) (by rw [h22_13]; rfl) (by decide) ?_
    have hk := hk (by omega)
    refine lv_aload_n hx hb dX0_whyWrong_58 rfl (lv_at hl 5 rfl) ?_
    refine lv_aload_n hx hb dX0_whyWrong_59 rfl (lv_at hl 4 rfl) ?_
    refine lv_iload hx hb dX0_whyWrong_60 (lv_at hl 1 rfl) ?_
    refine lv_iload hx hb dX0_whyWrong_62 (lv_at hl 0 rfl) ?_
    refine cm_callV (kc := kc_25) B rfl hb hl (hM.1 _ _ 0 [25] (isM (by decide +kernel)) 25 (by decide)) (hH1 _ tk_X1 25 (by decide)) (b := a3) (As := [.ref a2, .int z5, .int z13]) ⟨hr_aR t3, hr_aR t2, hr_aI (by omega) (by omega), hr_aF, True.intro⟩ hp hW hS rfl (by decide) (by decide) (Nat.le_of_ble_eq_true rfl) dX0_whyWrong_64 (fun cs hcs r pvv64 H locs hca hW hS => ?_)
    rcases List.mem_cons.mp hcs with rfl | hcs
    · obtain ⟨hr, hq, hc⟩ := hca
      obtain ⟨z64, rfl, lz64, uz64⟩ := hr_rvI hr
      have hW := hr_pvE (hr_sameA hc rfl (by decide +kernel)) hW
      refine hr_ne0 (tgt := 73) hx hb dX0_whyWrong_67 (by decide) (fun h67 => ?_) (fun h67 => ?_)
      · omega
      · refine hr_bp hx hb dX0_whyWrong_70 (by decide) (by decide) (fun z70 hz70 => ?_)
        exact hr_iret B hb rfl ⟨hp, sm, rfl, z70, rfl, by omega, by omega⟩ hW hS dX0_whyWrong_72
    obtain rfl := List.mem_singleton.mp hcs
    obtain ⟨hr, hq, hc⟩ := hca
    obtain ⟨z64, rfl, lz64, uz64⟩ := hr_rvI hr
    have hW := hr_pvE (hr_sameA hc rfl (by decide +kernel)) hW
    refine hr_ne0 (tgt := 73) hx hb dX0_whyWrong_67 (by decide) (fun h67 => ?_) (fun h67 => ?_)
    · refine lv_aload_n hx hb dX0_whyWrong_73 rfl (lv_at hl 5 rfl) ?_
      refine lv_iload hx hb dX0_whyWrong_74 (lv_at hl 1 rfl) ?_
      refine lv_iload hx hb dX0_whyWrong_76 (lv_at hl 0 rfl) ?_
      refine cm_callV (kc := kc_34) B rfl hb hl (hM.1 _ _ 0 [34] (isM (by decide +kernel)) 34 (by decide)) (hH1 _ tk_X1 34 (by decide)) (b := a3) (As := [.int z5, .int z13]) ⟨hr_aR t3, hr_aI (by omega) (by omega), hr_aF, True.intro⟩ hp hW hS rfl (by decide) (by decide) (Nat.le_of_ble_eq_true rfl) dX0_whyWrong_78 (fun cs hcs r pvv78 H locs hca hW hS => ?_)
      obtain rfl := List.mem_singleton.mp hcs
      obtain ⟨hr, hq, hc⟩ := hca
      obtain rfl := hr_rv0 hr
      have hW := hr_pvE (hr_sameA hc rfl (by decide +kernel)) hW
      refine hr_ic hx hb dX0_whyWrong_81 (by decide) (fun z81 hz81 => ?_)
      exact hr_iret B hb rfl ⟨hp, sm, rfl, z81, rfl, by omega, by omega⟩ hW hS dX0_whyWrong_82
    · omega
  by_cases h22_14 : z21.toInt = 14
  · refine lv_tableIn (tgt := 83) hx hb dX0_whyWrong_22 (by omega) (by omega) (by rw [h22_14]; rfl) (by decide) ?_
    refine lv_aload_n hx hb dX0_whyWrong_83 rfl (lv_at hl 5 rfl) ?_
    refine lv_aload_n hx hb dX0_whyWrong_84 rfl (lv_at hl 4 rfl) ?_
    refine cm_callV (kc := kc_24) B rfl hb hl (hM.1 _ _ 0 [24] (isM (by decide +kernel)) 24 (by decide)) (hH1 _ tk_X1 24 (by decide)) (b := a3) (As := [.ref a2]) ⟨hr_aR t3, hr_aR t2, True.intro⟩ hp hW hS rfl (by decide) (by decide) (Nat.le_of_ble_eq_true rfl) dX0_whyWrong_85 (fun cs hcs r pvv85 H locs hca hW hS => ?_)
    rcases List.mem_cons.mp hcs with rfl | hcs
    · obtain ⟨hr, hq, hc⟩ := hca
      obtain ⟨z85, rfl, lz85, uz85⟩ := hr_rvI hr
      have hW := hr_pvE (hr_sameA hc rfl (by decide +kernel)) hW
      refine hr_ne0 (tgt := 94) hx hb dX0_whyWrong_88 (by decide) (fun h88 => ?_) (fun h88 => ?_)
      · omega
      · refine hr_bp hx hb dX0_whyWrong_91 (by decide) (by decide) (fun z91 hz91 => ?_)
        exact hr_iret B hb rfl ⟨hp, sm, rfl, z91, rfl, by omega, by omega⟩ hW hS dX0_whyWrong_93
    obtain rfl := List.mem_singleton.mp hcs
    obtain ⟨hr, hq, hc⟩ := hca
    obtain ⟨z85, rfl, lz85, uz85⟩ := hr_rvI hr
    have hW := hr_pvE (hr_sameA hc rfl (by decide +kernel)) hW
    refine hr_ne0 (tgt := 94) hx hb dX0_whyWrong_88 (by decide) (fun h88 => ?_) (fun h88 => ?_)
    · refine lv_aload_n hx hb dX0_whyWrong_94 rfl (lv_at hl 5 rfl) ?_
      refine lv_aload_n hx hb dX0_whyWrong_95 rfl (lv_at hl 4 rfl) ?_
      refine cm_callV (kc := kc_288) B rfl hb hl (hM.1 _ _ 0 [288] (isM (by decide +kernel)) 288 (by decide)) (hH1 _ tk_X1 288 (by decide)) (b := a3) (As := [.ref a2]) ⟨hr_aR t3, hr_aR t2, True.intro⟩ hp hW hS rfl (by decide) (by decide) (Nat.le_of_ble_eq_true rfl) dX0_whyWrong_96 (fun cs hcs r pvv96 H locs hca hW hS => ?_)
      obtain rfl := List.mem_singleton.mp hcs
      obtain ⟨hr, hq, hc⟩ := hca
      obtain rfl := hr_rv0 hr
      have hW := hr_pvE (hr_sameA hc rfl (by decide +kernel)) hW
      refine hr_ic hx hb dX0_whyWrong_99 (by decide) (fun z99 hz99 => ?_)
      exact hr_iret B hb rfl ⟨hp, sm, rfl, z99, rfl, by omega, by omega⟩ hW hS dX0_whyWrong_100
    · omega
  refine lv_tableOut (tgt := 101) hx hb dX0_whyWrong_22 (by omega) (by decide) ?_
  refine lv_aload hx hb dX0_whyWrong_101 (lv_at hl 6 rfl) ?_
  refine lv_aload_n hx hb dX0_whyWrong_103 rfl (lv_at hl 4 rfl) ?_
  refine lv_aload_n hx hb dX0_whyWrong_104 rfl (lv_at hl 5 rfl) ?_
  refine cm_callV (kc := kc_23) B rfl hb hl (hM.1 _ _ 0 [23] (isM (by decide +kernel)) 23 (by decide)) (hH1 _ tk_X1 23 (by decide)) (b := a4) (As := [.ref a2, .ref a3]) ⟨hr_aR t4, hr_aR t2, hr_aR t3, True.intro⟩ hp hW hS rfl (by decide) (by decide) (Nat.le_of_ble_eq_true rfl) dX0_whyWrong_105 (fun cs hcs r pvv105 H locs hca hW hS => ?_)
  rcases List.mem_cons.mp hcs with rfl | hcs
  · obtain ⟨hr, hq, hc⟩ := hca
    obtain ⟨z105, rfl, lz105, uz105⟩ := hr_rvI hr
    have hp := hr_std hp hc (by decide +kernel)
    have sm : ∀ j, j < 32 → j ∉ [7] → pvv105 j = pvv j := fun j h1 h2 => (hr_sameX (l := [7]) hc (by decide +kernel) j h1 h2).trans (sm j h1 h2)
    refine hr_ne0 (tgt := 114) hx hb dX0_whyWrong_108 (by decide) (fun h108 => ?_) (fun h108 => ?_)
    · omega
    · refine hr_bp hx hb dX0_whyWrong_111 (by decide) (by decide) (fun z111 hz111 => ?_)
      exact hr_iret B hb rfl ⟨hp, sm, rfl, z111, rfl, by omega, by omega⟩ hW hS dX0_whyWrong_113
  obtain rfl := List.mem_singleton.mp hcs
  obtain ⟨hr, hq, hc⟩ := hca
  obtain ⟨z105, rfl, lz105, uz105⟩ := hr_rvI hr
  have hp := hr_std hp hc (by decide +kernel)
  have sm : ∀ j, j < 32 → j ∉ [7] → pvv105 j = pvv j := fun j h1 h2 => (hr_sameX (l := [7]) hc (by decide +kernel) j h1 h2).trans (sm j h1 h2)
  refine hr_ne0 (tgt := 114) hx hb dX0_whyWrong_108 (by decide) (fun h108 => ?_) (fun h108 => ?_)
  · refine lv_aload hx hb dX0_whyWrong_114 (lv_at hl 6 rfl) ?_
    refine lv_aload_n hx hb dX0_whyWrong_116 rfl (lv_at hl 5 rfl) ?_
    refine hr_getR B hF hb hW (ci := 2) (j := 8) (cd := 3) t3 rfl (isF (by decide +kernel)) rfl dX0_whyWrong_117 (fun az117 tz117 xz117 => ?_)
    refine cm_callV (kc := kc_285) B rfl hb hl (hM.1 _ _ 0 [285] (isM (by decide +kernel)) 285 (by decide)) (hH1 _ tk_X1 285 (by decide)) (b := a4) (As := [.ref az117]) ⟨hr_aR t4, hr_aR tz117, True.intro⟩ hp hW hS rfl (by decide) (by decide) (Nat.le_of_ble_eq_true rfl) dX0_whyWrong_120 (fun cs hcs r pvv120 H locs hca hW hS => ?_)
    obtain rfl := List.mem_singleton.mp hcs
    obtain ⟨hr, hq, hc⟩ := hca
    obtain rfl := hr_rv0 hr
    have hW := hr_pvE (hr_sameA hc rfl (by decide +kernel)) hW
    refine hr_ic hx hb dX0_whyWrong_123 (by decide) (fun z123 hz123 => ?_)
    exact hr_iret B hb rfl ⟨hp, sm, rfl, z123, rfl, by omega, by omega⟩ hW hS dX0_whyWrong_124
  · omega
end H36
section H36b
variable {l : Launch} {D : va_G} {cys : Nat → ClassId} {ty : Nat → Option Nat}
theorem dX0_judge_0 : decode cX0_judge 0 = .ok (.aload_n 2, 1) := by decide +kernel
theorem dX0_judge_1 : decode cX0_judge 1 = .ok (.getfield 105, 3) := by decide +kernel
theorem dX0_judge_4 : decode cX0_judge 4 = .ok (.istore 4, 2) := by decide +kernel
theorem dX0_judge_6 : decode cX0_judge 6 = .ok (.aload_n 0, 1) := by decide +kernel
theorem dX0_judge_7 : decode cX0_judge 7 = .ok (.iconst 1, 1) := by decide +kernel
theorem dX0_judge_8 : decode cX0_judge 8 = .ok (.putfield 25, 3) := by decide +kernel
theorem dX0_judge_11 : decode cX0_judge 11 = .ok (.aload_n 0, 1) := by decide +kernel
theorem dX0_judge_12 : decode cX0_judge 12 = .ok (.iconst 0, 1) := by decide +kernel
theorem dX0_judge_13 : decode cX0_judge 13 = .ok (.putfield 29, 3) := by decide +kernel
theorem dX0_judge_16 : decode cX0_judge 16 = .ok (.aload_n 0, 1) := by decide +kernel
theorem dX0_judge_17 : decode cX0_judge 17 = .ok (.iconst 0, 1) := by decide +kernel
theorem dX0_judge_18 : decode cX0_judge 18 = .ok (.putfield 32, 3) := by decide +kernel
theorem dX0_judge_21 : decode cX0_judge 21 = .ok (.iconst 0, 1) := by decide +kernel
theorem dX0_judge_22 : decode cX0_judge 22 = .ok (.istore 5, 2) := by decide +kernel
theorem dX0_judge_24 : decode cX0_judge 24 = .ok (.iload 5, 2) := by decide +kernel
theorem dX0_judge_26 : decode cX0_judge 26 = .ok (.aload_n 0, 1) := by decide +kernel
theorem dX0_judge_27 : decode cX0_judge 27 = .ok (.getfield 9, 3) := by decide +kernel
theorem dX0_judge_30 : decode cX0_judge 30 = .ok (.if_icmp .ge 46, 3) := by decide +kernel
theorem dX0_judge_33 : decode cX0_judge 33 = .ok (.aload_n 0, 1) := by decide +kernel
theorem dX0_judge_34 : decode cX0_judge 34 = .ok (.getfield 29, 3) := by decide +kernel
theorem dX0_judge_37 : decode cX0_judge 37 = .ok (.ifCond .ne 39, 3) := by decide +kernel
theorem dX0_judge_40 : decode cX0_judge 40 = .ok (.aload_n 0, 1) := by decide +kernel
theorem dX0_judge_41 : decode cX0_judge 41 = .ok (.aload_n 0, 1) := by decide +kernel
theorem dX0_judge_42 : decode cX0_judge 42 = .ok (.iload 5, 2) := by decide +kernel
theorem dX0_judge_44 : decode cX0_judge 44 = .ok (.aload_n 1, 1) := by decide +kernel
theorem dX0_judge_45 : decode cX0_judge 45 = .ok (.aload_n 2, 1) := by decide +kernel
theorem dX0_judge_46 : decode cX0_judge 46 = .ok (.aload_n 3, 1) := by decide +kernel
theorem dX0_judge_47 : decode cX0_judge 47 = .ok (.invokevirtual 110, 3) := by decide +kernel
theorem dX0_judge_50 : decode cX0_judge 50 = .ok (.putfield 29, 3) := by decide +kernel
theorem dX0_judge_53 : decode cX0_judge 53 = .ok (.aload_n 0, 1) := by decide +kernel
theorem dX0_judge_54 : decode cX0_judge 54 = .ok (.getfield 29, 3) := by decide +kernel
theorem dX0_judge_57 : decode cX0_judge 57 = .ok (.ifCond .ne 13, 3) := by decide +kernel
theorem dX0_judge_60 : decode cX0_judge 60 = .ok (.aload_n 0, 1) := by decide +kernel
theorem dX0_judge_61 : decode cX0_judge 61 = .ok (.dup, 1) := by decide +kernel
theorem dX0_judge_62 : decode cX0_judge 62 = .ok (.getfield 32, 3) := by decide +kernel
theorem dX0_judge_65 : decode cX0_judge 65 = .ok (.iconst 1, 1) := by decide +kernel
theorem dX0_judge_66 : decode cX0_judge 66 = .ok (.iadd, 1) := by decide +kernel
theorem dX0_judge_67 : decode cX0_judge 67 = .ok (.putfield 32, 3) := by decide +kernel
theorem dX0_judge_70 : decode cX0_judge 70 = .ok (.iinc 5 1, 3) := by decide +kernel
theorem dX0_judge_73 : decode cX0_judge 73 = .ok (.goto (-49), 3) := by decide +kernel
theorem dX0_judge_76 : decode cX0_judge 76 = .ok (.aload_n 0, 1) := by decide +kernel
theorem dX0_judge_77 : decode cX0_judge 77 = .ok (.aload_n 2, 1) := by decide +kernel
theorem dX0_judge_78 : decode cX0_judge 78 = .ok (.getfield 114, 3) := by decide +kernel
theorem dX0_judge_81 : decode cX0_judge 81 = .ok (.putfield 35, 3) := by decide +kernel
theorem dX0_judge_84 : decode cX0_judge 84 = .ok (.aload_n 0, 1) := by decide +kernel
theorem dX0_judge_85 : decode cX0_judge 85 = .ok (.aload_n 2, 1) := by decide +kernel
theorem dX0_judge_86 : decode cX0_judge 86 = .ok (.getfield 105, 3) := by decide +kernel
theorem dX0_judge_89 : decode cX0_judge 89 = .ok (.iload 4, 2) := by decide +kernel
theorem dX0_judge_91 : decode cX0_judge 91 = .ok (.isub, 1) := by decide +kernel
theorem dX0_judge_92 : decode cX0_judge 92 = .ok (.putfield 38, 3) := by decide +kernel
theorem dX0_judge_95 : decode cX0_judge 95 = .ok (.aload_n 0, 1) := by decide +kernel
theorem dX0_judge_96 : decode cX0_judge 96 = .ok (.getfield 29, 3) := by decide +kernel
theorem dX0_judge_99 : decode cX0_judge 99 = .ok (.ifCond .ne 7, 3) := by decide +kernel
theorem dX0_judge_102 : decode cX0_judge 102 = .ok (.iconst (-1), 1) := by decide +kernel
theorem dX0_judge_103 : decode cX0_judge 103 = .ok (.goto 7, 3) := by decide +kernel
theorem dX0_judge_106 : decode cX0_judge 106 = .ok (.aload_n 0, 1) := by decide +kernel
theorem dX0_judge_107 : decode cX0_judge 107 = .ok (.getfield 32, 3) := by decide +kernel
theorem dX0_judge_110 : decode cX0_judge 110 = .ok (.ireturn, 1) := by decide +kernel
set_option maxRecDepth 100000 in
set_option maxHeartbeats 4000000 in
theorem hk_0_judge (hF : ck_LKf ck_LK) (hM : ck_LKm ck_tags ck_LK ck_tab) (hU : ck_uq ty ck_pvs0) (hun : ck_un ty) (hC : ck_LKc ck_LK) (hMh : ∀ q ∈ ck_hl, ck_mOK ck_tags q.1 q.2.1 q.2.2.1 q.2.2.2) (hH1 : ∀ Ex', ck_ExP ty ck_prot1 Ex' → ∀ j, j < 331 → ck_Holds l D cys ty ck_tags ck_pvs0 Ex' (ck_tab j)) (hH : ∀ j, j < 331 → ck_Holds l D cys ty ck_tags ck_pvs0 (GE ty) (ck_tab j)) : ck_Holds l D cys ty ck_tags ck_pvs0 (GE ty) (ck_tab 331) := by
  refine cm_enter (by decide +kernel) (by decide +kernel) (by decide +kernel) ?_
  intro vs pvv0 p e s m below meth c ls ha hp B hl hW
  have hx := B.1
  have hb : c.code = cX0_judge := B.2.1
  have hI := pv_inj
  have hS : va_S (ck_own ty) s.heap s.heap [] := va_S.rf
  obtain ⟨C, hG, hW⟩ := ge_out hW
  obtain ⟨_, _, _, _, rfl, ⟨a0, rfl, t0⟩, ⟨a1, rfl, t1⟩, ⟨a2, rfl, t2⟩, ⟨a3, rfl, t3⟩⟩ := cm_a4 ha
  have hl : lv_has ls 6 [(0, .ref a0), (1, .ref a1), (2, .ref a2), (3, .ref a3)] := hl
  have hp0 := hp
  have hG0 := hG
  obtain ⟨G5, G1, G2, G3, G4⟩ := hG
  have l24 : ∀ (n24 : Nat) (k : Int32) (jo : Int32) (pvv : Nat → Int32) (ls : Array Slot) (H : Heap) (locs : List Loc), 40 - k.toInt < n24 → (0 ≤ k.toInt) → (k.toInt ≤ 40) → (∀ j, j < 32 → j ∉ [7] → pvv j = pvv0 j) → (ck_pvo ty (ck_XE pvv) pP pvv) → lv_has ls 6 [(5, .int k), (4, .int jo), (0, .ref a0), (1, .ref a1), (2, .ref a2), (3, .ref a3)] → ck_Wo D cys ty ck_tags ck_pvs0 (tk ty ck_prot1 C) pvv H → va_S (ck_own ty) s.heap H locs → W p l e (ck_rm (ck_tab 331)) s m [Value.ref a0, Value.ref a1, Value.ref a2, Value.ref a3].toArray below meth c H locs 0 0 (MQ below (ck_Qc D cys ty ck_tags ck_pvs0 (GE ty) (ck_tab 331) [Value.ref a0, Value.ref a1, Value.ref a2, Value.ref a3] pvv0) [Value.ref a0, Value.ref a1, Value.ref a2, Value.ref a3].toArray s 0 0 (ck_own ty)) (F0 m 24 ls []) := by
    intro n24
    induction n24 with
    | zero => intro k jo pvv ls H locs hm24 k1 k2 sm hp hl hW hS; omega
    | succ n24 ih24 =>
      intro k jo pvv ls H locs hm24 k1 k2 sm hp hl hW hS
      refine lv_iload hx hb dX0_judge_24 (lv_at hl 0 rfl) ?_
      refine lv_aload_n hx hb dX0_judge_26 rfl (lv_at hl 2 rfl) ?_
      refine hr_getI B hF hb hW (ci := 0) (j := 0) (cd := 0) t0 rfl (isF (by decide +kernel)) rfl dX0_judge_27 (fun z27 lz27 uz27 pz27 xz27 => ?_)
      have xz27 := tk_xo xz27 (fun _ h => h) (pq := ck_prot1) (C := C) t0 (by decide); have kz27 := congrArg Int32.toInt xz27
      have e27 : z27.toInt = (C 0 0).toInt := by rw [kz27]
      refine hr_ge (tgt := 76) hx hb dX0_judge_30 (by decide) (fun h30 => ?_) (fun h30 => ?_)
      · refine lv_aload_n hx hb dX0_judge_76 rfl (lv_at hl 2 rfl) ?_
        refine lv_aload_n hx hb dX0_judge_77 rfl (lv_at hl 4 rfl) ?_
        refine hr_getI B hF hb hW (ci := 2) (j := 0) (cd := 0) t2 rfl (isF (by decide +kernel)) rfl dX0_judge_78 (fun z78 lz78 uz78 pz78 xz78 => ?_)
        refine hr_putN B hF hb hU hW hS (ci := 0) (j := 7) (cd := 0) t0 rfl (isF (by decide +kernel)) rfl (ck_lo _) (ck_hi _) (Or.inl rfl) (hr_EO (tk_X1 (C := C)) t0 (by decide)) (by decide) dX0_judge_81 (fun H locs hW hS => ?_)
        refine lv_aload_n hx hb dX0_judge_84 rfl (lv_at hl 2 rfl) ?_
        refine lv_aload_n hx hb dX0_judge_85 rfl (lv_at hl 4 rfl) ?_
        refine hr_getI B hF hb hW (ci := 2) (j := 1) (cd := 0) t2 rfl (isF (by decide +kernel)) rfl dX0_judge_86 (fun z86 lz86 uz86 pz86 xz86 => ?_)
        refine lv_iload hx hb dX0_judge_89 (lv_at hl 1 rfl) ?_
        refine lv_isub hx hb dX0_judge_91 (lv_topi (fun z91 hz91 => ?_))
        refine hr_putN B hF hb hU hW hS (ci := 0) (j := 8) (cd := 0) t0 rfl (isF (by decide +kernel)) rfl (ck_lo _) (ck_hi _) (Or.inl rfl) (hr_EO (tk_X1 (C := C)) t0 (by decide)) (by decide) dX0_judge_92 (fun H locs hW hS => ?_)
        refine lv_aload_n hx hb dX0_judge_95 rfl (lv_at hl 2 rfl) ?_
        refine hr_getI B hF hb hW (ci := 0) (j := 5) (cd := 0) t0 rfl (isF (by decide +kernel)) rfl dX0_judge_96 (fun z96 lz96 uz96 pz96 xz96 => ?_)
        refine hr_ne0 (tgt := 106) hx hb dX0_judge_99 (by decide) (fun h99 => ?_) (fun h99 => ?_)
        · refine lv_aload_n hx hb dX0_judge_106 rfl (lv_at hl 2 rfl) ?_
          refine hr_getI B hF hb hW (ci := 0) (j := 6) (cd := 0) t0 rfl (isF (by decide +kernel)) rfl dX0_judge_107 (fun z107 lz107 uz107 pz107 xz107 => ?_)
          have r7 := hr_pv hp 7 (lo := 0) (hi := 6) rfl
          refine cm_iret B hb rfl ⟨_, List.mem_cons_self, hr_aF (ty := ty), (fun q h => nomatch h), ?_⟩ (ge_in hW hG0) hS dX0_judge_110
          refine hr_mk (n := 32) [7] hp0 sm (by decide +kernel) (fun j hj av hav => ?_)
          obtain rfl := List.mem_singleton.mp hj
          have hav : some (.inl (0, 6, []) : ck_AV) = some av := hav
          cases hav
          exact hr_aI (by omega) (by omega)
        · refine hr_ic hx hb dX0_judge_102 (by decide) (fun z102 hz102 => ?_)
          refine lv_goto (tgt := 110) hx hb dX0_judge_103 (by decide) ?_
          have r7 := hr_pv hp 7 (lo := 0) (hi := 6) rfl
          refine cm_iret B hb rfl ⟨_, List.mem_cons_self, hr_aF (ty := ty), (fun q h => nomatch h), ?_⟩ (ge_in hW hG0) hS dX0_judge_110
          refine hr_mk (n := 32) [7] hp0 sm (by decide +kernel) (fun j hj av hav => ?_)
          obtain rfl := List.mem_singleton.mp hj
          have hav : some (.inl (0, 6, []) : ck_AV) = some av := hav
          cases hav
          exact hr_aI (by omega) (by omega)
      · refine lv_aload_n hx hb dX0_judge_33 rfl (lv_at hl 2 rfl) ?_
        refine hr_getI B hF hb hW (ci := 0) (j := 5) (cd := 0) t0 rfl (isF (by decide +kernel)) rfl dX0_judge_34 (fun z34 lz34 uz34 pz34 xz34 => ?_)
        refine hr_ne0 (tgt := 76) hx hb dX0_judge_37 (by decide) (fun h37 => ?_) (fun h37 => ?_)
        · refine lv_aload_n hx hb dX0_judge_76 rfl (lv_at hl 2 rfl) ?_
          refine lv_aload_n hx hb dX0_judge_77 rfl (lv_at hl 4 rfl) ?_
          refine hr_getI B hF hb hW (ci := 2) (j := 0) (cd := 0) t2 rfl (isF (by decide +kernel)) rfl dX0_judge_78 (fun z78 lz78 uz78 pz78 xz78 => ?_)
          refine hr_putN B hF hb hU hW hS (ci := 0) (j := 7) (cd := 0) t0 rfl (isF (by decide +kernel)) rfl (ck_lo _) (ck_hi _) (Or.inl rfl) (hr_EO (tk_X1 (C := C)) t0 (by decide)) (by decide) dX0_judge_81 (fun H locs hW hS => ?_)
          refine lv_aload_n hx hb dX0_judge_84 rfl (lv_at hl 2 rfl) ?_
          refine lv_aload_n hx hb dX0_judge_85 rfl (lv_at hl 4 rfl) ?_
          refine hr_getI B hF hb hW (ci := 2) (j := 1) (cd := 0) t2 rfl (isF (by decide +kernel)) rfl dX0_judge_86 (fun z86 lz86 uz86 pz86 xz86 => ?_)
          refine lv_iload hx hb dX0_judge_89 (lv_at hl 1 rfl) ?_
          refine lv_isub hx hb dX0_judge_91 (lv_topi (fun z91 hz91 => ?_))
          refine hr_putN B hF hb hU hW hS (ci := 0) (j := 8) (cd := 0) t0 rfl (isF (by decide +kernel)) rfl (ck_lo _) (ck_hi _) (Or.inl rfl) (hr_EO (tk_X1 (C := C)) t0 (by decide)) (by decide) dX0_judge_92 (fun H locs hW hS => ?_)
          refine lv_aload_n hx hb dX0_judge_95 rfl (lv_at hl 2 rfl) ?_
          refine hr_getI B hF hb hW (ci := 0) (j := 5) (cd := 0) t0 rfl (isF (by decide +kernel)) rfl dX0_judge_96 (fun z96 lz96 uz96 pz96 xz96 => ?_)
          refine hr_ne0 (tgt := 106) hx hb dX0_judge_99 (by decide) (fun h99 => ?_) (fun h99 => ?_)
          · refine lv_aload_n hx hb dX0_judge_106 rfl (lv_at hl 2 rfl) ?_
            refine hr_getI B hF hb hW (ci := 0) (j := 6) (cd := 0) t0 rfl (isF (by decide +kernel)) rfl dX0_judge_107 (fun z107 lz107 uz107 pz107 xz107 => ?_)
            have r7 := hr_pv hp 7 (lo := 0) (hi := 6) rfl
            refine cm_iret B hb rfl ⟨_, List.mem_cons_self, hr_aF (ty := ty), (fun q h => nomatch h), ?_⟩ (ge_in hW hG0) hS dX0_judge_110
            refine hr_mk (n := 32) [7] hp0 sm (by decide +kernel) (fun j hj av hav => ?_)
            obtain rfl := List.mem_singleton.mp hj
            have hav : some (.inl (0, 6, []) : ck_AV) = some av := hav
            cases hav
            exact hr_aI (by omega) (by omega)
          · refine hr_ic hx hb dX0_judge_102 (by decide) (fun z102 hz102 => ?_)
            refine lv_goto (tgt := 110) hx hb dX0_judge_103 (by decide) ?_
            have r7 := hr_pv hp 7 (lo := 0) (hi := 6) rfl
            refine cm_iret B hb rfl ⟨_, List.mem_cons_self, hr_aF (ty := ty), (fun q h => nomatch h), ?_⟩ (ge_in hW hG0) hS dX0_judge_110
            refine hr_mk (n := 32) [7] hp0 sm (by decide +kernel) (fun j hj av hav => ?_)
            obtain rfl := List.mem_singleton.mp hj
            have hav : some (.inl (0, 6, []) : ck_AV) = some av := hav
            cases hav
            exact hr_aI (by omega) (by omega)
        · refine lv_aload_n hx hb dX0_judge_40 rfl (lv_at hl 2 rfl) ?_
          refine lv_aload_n hx hb dX0_judge_41 rfl (lv_at hl 2 rfl) ?_
          refine lv_iload hx hb dX0_judge_42 (lv_at hl 0 rfl) ?_
          refine lv_aload_n hx hb dX0_judge_44 rfl (lv_at hl 3 rfl) ?_
          refine lv_aload_n hx hb dX0_judge_45 rfl (lv_at hl 4 rfl) ?_
          refine lv_aload_n hx hb dX0_judge_46 rfl (lv_at hl 5 rfl) ?_
          refine hr_callV (kc := kh_0_whyWrong) B rfl hb hl (hMh _ (List.mem_of_getElem? (i := 1) rfl)) (b := a0) (As := [.int k, .ref a1, .ref a2, .ref a3]) (hs_whyWrong hF hC hM hMh hU hun hH1 t0 t1 t2 t3 hp (by omega) (by omega) (G1 k.toInt.toNat (by omega))) ⟨hr_aR t0, hr_aI (by omega) (by omega), hr_aR t1, hr_aR t2, hr_aR t3, True.intro⟩ hW hS rfl (by decide) (by decide) (Nat.le_of_ble_eq_true rfl) dX0_judge_47 (fun r pvv47 E47 H locs hpost hW hS => ?_)
          obtain ⟨hp, sm1, rfl, z47, rfl, y1, y2⟩ := hpost
          have sm : ∀ j, j < 32 → j ∉ [7] → pvv47 j = pvv0 j := fun j h1 h2 => (sm1 j h1 h2).trans (sm j h1 h2)
          refine hr_putN B hF hb hU hW hS (ci := 0) (j := 5) (cd := 0) t0 rfl (isF (by decide +kernel)) rfl (by omega) (by omega) (Or.inl rfl) (hr_EO (tk_X1 (C := C)) t0 (by decide)) (by decide) dX0_judge_50 (fun H locs hW hS => ?_)
          refine lv_aload_n hx hb dX0_judge_53 rfl (lv_at hl 2 rfl) ?_
          refine hr_getI B hF hb hW (ci := 0) (j := 5) (cd := 0) t0 rfl (isF (by decide +kernel)) rfl dX0_judge_54 (fun z54 lz54 uz54 pz54 xz54 => ?_)
          refine hr_ne0 (tgt := 70) hx hb dX0_judge_57 (by decide) (fun h57 => ?_) (fun h57 => ?_)
          · refine hr_inc hx hb dX0_judge_70 hl (kq := 0) (lv' := fun v => [(5, .int v), (4, .int jo), (0, .ref a0), (1, .ref a1), (2, .ref a2), (3, .ref a3)]) rfl (by decide) (by decide) (by omega) (by omega) (fun _ => rfl) (fun z70 ls hz70 hl => ?_)
            refine lv_goto (tgt := 24) hx hb dX0_judge_73 (by decide) ?_
            exact ih24 z70 jo pvv47 _ _ _ (by omega) (by omega) (by omega) sm hp hl hW hS
          · refine lv_aload_n hx hb dX0_judge_60 rfl (lv_at hl 2 rfl) ?_
            refine lv_dup hx hb dX0_judge_61 rfl ?_
            refine hr_getI B hF hb hW (ci := 0) (j := 6) (cd := 0) t0 rfl (isF (by decide +kernel)) rfl dX0_judge_62 (fun z62 lz62 uz62 pz62 xz62 => ?_)
            refine hr_ic hx hb dX0_judge_65 (by decide) (fun z65 hz65 => ?_)
            refine lv_iadd hx hb dX0_judge_66 (lv_topi (fun z66 hz66 => ?_))
            refine hr_putN B hF hb hU hW hS (ci := 0) (j := 6) (cd := 0) t0 rfl (isF (by decide +kernel)) rfl (ck_lo _) (ck_hi _) (Or.inl rfl) (hr_EO (tk_X1 (C := C)) t0 (by decide)) (by decide) dX0_judge_67 (fun H locs hW hS => ?_)
            refine hr_inc hx hb dX0_judge_70 hl (kq := 0) (lv' := fun v => [(5, .int v), (4, .int jo), (0, .ref a0), (1, .ref a1), (2, .ref a2), (3, .ref a3)]) rfl (by decide) (by decide) (by omega) (by omega) (fun _ => rfl) (fun z70 ls hz70 hl => ?_)
            refine lv_goto (tgt := 24) hx hb dX0_judge_73 (by decide) ?_
            exact ih24 z70 jo pvv47 _ _ _ (by omega) (by omega) (by omega) sm hp hl hW hS
  refine lv_aload_n hx hb dX0_judge_0 rfl (lv_at hl 2 rfl) ?_
  refine hr_getI B hF hb hW (ci := 2) (j := 1) (cd := 0) t2 rfl (isF (by decide +kernel)) rfl dX0_judge_1 (fun z1 lz1 uz1 pz1 xz1 => ?_)
  refine lv_istore hx hb dX0_judge_4 hl (lv' := [(4, .int z1), (0, .ref a0), (1, .ref a1), (2, .ref a2), (3, .ref a3)]) (by decide) rfl (fun ls hl => ?_)
  refine lv_aload_n hx hb dX0_judge_6 rfl (lv_at hl 1 rfl) ?_
  refine hr_ic hx hb dX0_judge_7 (by decide) (fun z7 hz7 => ?_)
  refine hr_putN B hF hb hU hW hS (ci := 0) (j := 4) (cd := 1) t0 rfl (isF (by decide +kernel)) rfl (by omega) (by omega) (Or.inr ⟨rfl, by omega, by omega⟩) (hr_EO (tk_X1 (C := C)) t0 (by decide)) (by decide) dX0_judge_8 (fun H locs hW hS => ?_)
  refine lv_aload_n hx hb dX0_judge_11 rfl (lv_at hl 1 rfl) ?_
  refine hr_ic hx hb dX0_judge_12 (by decide) (fun z12 hz12 => ?_)
  refine hr_putN B hF hb hU hW hS (ci := 0) (j := 5) (cd := 0) t0 rfl (isF (by decide +kernel)) rfl (by omega) (by omega) (Or.inl rfl) (hr_EO (tk_X1 (C := C)) t0 (by decide)) (by decide) dX0_judge_13 (fun H locs hW hS => ?_)
  refine lv_aload_n hx hb dX0_judge_16 rfl (lv_at hl 1 rfl) ?_
  refine hr_ic hx hb dX0_judge_17 (by decide) (fun z17 hz17 => ?_)
  refine hr_putN B hF hb hU hW hS (ci := 0) (j := 6) (cd := 0) t0 rfl (isF (by decide +kernel)) rfl (ck_lo _) (ck_hi _) (Or.inl rfl) (hr_EO (tk_X1 (C := C)) t0 (by decide)) (by decide) dX0_judge_18 (fun H locs hW hS => ?_)
  refine hr_ic hx hb dX0_judge_21 (by decide) (fun z21 hz21 => ?_)
  refine lv_istore hx hb dX0_judge_22 hl (lv' := [(5, .int z21), (4, .int z1), (0, .ref a0), (1, .ref a1), (2, .ref a2), (3, .ref a3)]) (by decide) rfl (fun ls hl => ?_)
  have sm : ∀ j, j < 32 → j ∉ [7] → pvv0 j = pvv0 j := fun _ _ _ => rfl
  exact l24 41 z21 z1 pvv0 _ _ _ (by omega) (by omega) (by omega) sm hp (lv_sub hl [0, 1, 2, 3, 4, 5] rfl) hW hS
theorem dX0_read_0 : decode cX0_read 0 = .ok (.aload_n 0, 1) := by decide +kernel
theorem dX0_read_1 : decode cX0_read 1 = .ok (.iconst 0, 1) := by decide +kernel
theorem dX0_read_2 : decode cX0_read 2 = .ok (.putfield 9, 3) := by decide +kernel
theorem dX0_read_5 : decode cX0_read 5 = .ok (.iconst 0, 1) := by decide +kernel
theorem dX0_read_6 : decode cX0_read 6 = .ok (.istore_n 3, 1) := by decide +kernel
theorem dX0_read_7 : decode cX0_read 7 = .ok (.iload_n 3, 1) := by decide +kernel
theorem dX0_read_8 : decode cX0_read 8 = .ok (.sipush 400, 3) := by decide +kernel
theorem dX0_read_11 : decode cX0_read 11 = .ok (.if_icmp .gt 53, 3) := by decide +kernel
theorem dX0_read_14 : decode cX0_read 14 = .ok (.aload_n 1, 1) := by decide +kernel
theorem dX0_read_15 : decode cX0_read 15 = .ok (.getfield 41, 3) := by decide +kernel
theorem dX0_read_18 : decode cX0_read 18 = .ok (.ifCond .eq 46, 3) := by decide +kernel
theorem dX0_read_21 : decode cX0_read 21 = .ok (.aload_n 0, 1) := by decide +kernel
theorem dX0_read_22 : decode cX0_read 22 = .ok (.aload_n 1, 1) := by decide +kernel
theorem dX0_read_23 : decode cX0_read 23 = .ok (.aload_n 2, 1) := by decide +kernel
theorem dX0_read_24 : decode cX0_read 24 = .ok (.invokevirtual 46, 3) := by decide +kernel
theorem dX0_read_27 : decode cX0_read 27 = .ok (.aload_n 1, 1) := by decide +kernel
theorem dX0_read_28 : decode cX0_read 28 = .ok (.invokevirtual 50, 3) := by decide +kernel
theorem dX0_read_31 : decode cX0_read 31 = .ok (.ifCond .eq 9, 3) := by decide +kernel
theorem dX0_read_34 : decode cX0_read 34 = .ok (.aload_n 1, 1) := by decide +kernel
theorem dX0_read_35 : decode cX0_read 35 = .ok (.bipush 59, 2) := by decide +kernel
theorem dX0_read_37 : decode cX0_read 37 = .ok (.invokevirtual 54, 3) := by decide +kernel
theorem dX0_read_40 : decode cX0_read 40 = .ok (.aload_n 1, 1) := by decide +kernel
theorem dX0_read_41 : decode cX0_read 41 = .ok (.invokevirtual 50, 3) := by decide +kernel
theorem dX0_read_44 : decode cX0_read 44 = .ok (.ifCond .ne 4, 3) := by decide +kernel
theorem dX0_read_47 : decode cX0_read 47 = .ok (.return_, 1) := by decide +kernel
theorem dX0_read_48 : decode cX0_read 48 = .ok (.aload_n 0, 1) := by decide +kernel
theorem dX0_read_49 : decode cX0_read 49 = .ok (.dup, 1) := by decide +kernel
theorem dX0_read_50 : decode cX0_read 50 = .ok (.getfield 9, 3) := by decide +kernel
theorem dX0_read_53 : decode cX0_read 53 = .ok (.iconst 1, 1) := by decide +kernel
theorem dX0_read_54 : decode cX0_read 54 = .ok (.iadd, 1) := by decide +kernel
theorem dX0_read_55 : decode cX0_read 55 = .ok (.putfield 9, 3) := by decide +kernel
theorem dX0_read_58 : decode cX0_read 58 = .ok (.iinc 3 1, 3) := by decide +kernel
theorem dX0_read_61 : decode cX0_read 61 = .ok (.goto (-54), 3) := by decide +kernel
theorem dX0_read_64 : decode cX0_read 64 = .ok (.return_, 1) := by decide +kernel
set_option maxRecDepth 100000 in
set_option maxHeartbeats 4000000 in
theorem hk_0_read (hF : ck_LKf ck_LK) (hM : ck_LKm ck_tags ck_LK ck_tab) (hU : ck_uq ty ck_pvs0) (hun : ck_un ty) (hC : ck_LKc ck_LK) (hMh : ∀ q ∈ ck_hl, ck_mOK ck_tags q.1 q.2.1 q.2.2.1 q.2.2.2) (hH1 : ∀ Ex', ck_ExP ty ck_prot1 Ex' → ∀ j, j < 331 → ck_Holds l D cys ty ck_tags ck_pvs0 Ex' (ck_tab j)) (hH : ∀ j, j < 332 → ck_Holds l D cys ty ck_tags ck_pvs0 (GE ty) (ck_tab j)) : ck_Holds l D cys ty ck_tags ck_pvs0 (GE ty) (ck_tab 332) := by
  refine cm_enter (by decide +kernel) (by decide +kernel) (by decide +kernel) ?_
  intro vs pvv0 p e s m below meth c ls ha hp B hl hW
  have hx := B.1
  have hb : c.code = cX0_read := B.2.1
  have hI := pv_inj
  have hS : va_S (ck_own ty) s.heap s.heap [] := va_S.rf
  obtain ⟨C, hG, hW⟩ := ge_out hW
  obtain ⟨_, _, _, rfl, ⟨a0, rfl, t0⟩, ⟨a1, rfl, t1⟩, ⟨a2, rfl, t2⟩⟩ := cm_a3 ha
  have hl : lv_has ls 4 [(0, .ref a0), (1, .ref a1), (2, .ref a2)] := hl
  have hp0 := hp
  have hG0 := hG
  obtain ⟨G5, G1, G2, G3, G4⟩ := hG
  have l7 : ∀ (n7 : Nat) (k : Int32) (pvv : Nat → Int32) (C2 : Nat → Nat → Int32) (ls : Array Slot) (H : Heap) (locs : List Loc), 401 - k.toInt < n7 → (0 ≤ k.toInt) → (k.toInt ≤ 401) → (∀ j, j < 32 → j ∉ [1, 25] → pvv j = pvv0 j) → (∀ t j, t ∉ [29, 30, 31] → ¬ (t = 0 ∧ j = 0) → C2 t j = C t j) → (g1C C2) → (0 ≤ (C2 0 0).toInt ∧ (C2 0 0).toInt ≤ 40) → (ck_pvo ty (ck_XE pvv) pP pvv) → lv_has ls 4 [(3, .int k), (0, .ref a0), (1, .ref a1), (2, .ref a2)] → ck_Wo D cys ty ck_tags ck_pvs0 (tk ty ck_prot1 C2) pvv H → va_S (ck_own ty) s.heap H locs → W p l e (ck_rm (ck_tab 332)) s m [Value.ref a0, Value.ref a1, Value.ref a2].toArray below meth c H locs 0 0 (MQ below (ck_Qc D cys ty ck_tags ck_pvs0 (GE ty) (ck_tab 332) [Value.ref a0, Value.ref a1, Value.ref a2] pvv0) [Value.ref a0, Value.ref a1, Value.ref a2].toArray s 0 0 (ck_own ty)) (F0 m 7 ls []) := by
    intro n7
    induction n7 with
    | zero => intro k pvv C2 ls H locs hm7 k1 k2 sm hT g1 tl hp hl hW hS; omega
    | succ n7 ih7 =>
      intro k pvv C2 ls H locs hm7 k1 k2 sm hT g1 tl hp hl hW hS
      refine lv_iload_n hx hb dX0_read_7 rfl (lv_at hl 0 rfl) ?_
      refine hr_sp hx hb dX0_read_8 (by decide) (by decide) (fun z8 hz8 => ?_)
      refine hr_gt (tgt := 64) hx hb dX0_read_11 (by decide) (fun h11 => ?_) (fun h11 => ?_)
      · have hGn : gC C2 := by
          refine ⟨g5_of G5 (fun j => hT 15 j (by decide) (by simp)) (fun j => hT 49 j (by decide) (by simp)) (fun j => hT 16 j (by decide) (by simp)) (fun j => hT 50 j (by decide) (by simp)) (fun t j ht => hT t j (g6_l ht (by decide)) (fun q => g6_ne ht (n := 0) (by decide) q.1)) (fun j _ => hT 34 j (by decide) (by simp)), g1, fun j hj => ?_, fun k hk hk2 => ?_, ?_⟩
          · rw [hT 12 22 (by decide) (by decide)] at hj
            rw [hT 37 _ (by decide) (by simp), hT 34 _ (by decide) (by simp)]
            exact G2 j hj
          · rw [hT 46 k (by decide) (by simp)] at hk2
            rw [hT 45 _ (by decide) (by simp), hT 45 _ (by decide) (by simp)]
            refine ⟨(G3 k hk hk2).1, ?_⟩
            have e9 : (fun i => C2 45 (367 * k + 186 + i)) = (fun i => C 45 (367 * k + 186 + i)) := funext (fun i => hT 45 _ (by decide) (by simp))
            rw [e9]; exact (G3 k hk hk2).2
          · have e9 : (fun i => C2 34 (186 + i)) = (fun i => C 34 (186 + i)) := funext (fun i => hT 34 _ (by decide) (by simp))
            unfold g4C; rw [e9]; exact G4
        have r1 := hr_pv hp 1 (lo := 0) (hi := 940) rfl
        have rf := hr_pv hp 25 (lo := 0) (hi := 4) rfl
        refine cm_vret B hb rfl ⟨_, List.mem_cons_self, True.intro, (fun q h => nomatch h), ?_⟩ (ge_in hW hGn) hS dX0_read_64
        refine hr_mk (n := 32) [1, 25] hp0 sm (by decide +kernel) (fun j hj av hav => ?_)
        rcases List.mem_cons.mp hj with rfl | hj
        · have hav : some (.inl (0, 940, []) : ck_AV) = some av := hav
          cases hav
          exact hr_aI (by omega) (by omega)
        obtain rfl := List.mem_singleton.mp hj
        have hav : some (.inl (0, 4, []) : ck_AV) = some av := hav
        cases hav
        exact hr_aI (by omega) (by omega)
      · refine lv_aload_n hx hb dX0_read_14 rfl (lv_at hl 2 rfl) ?_
        refine hr_getI B hF hb hW (ci := 8) (j := 4) (cd := 0) t1 rfl (isF (by decide +kernel)) rfl dX0_read_15 (fun z15 lz15 uz15 pz15 xz15 => ?_)
        refine hr_eq0 (tgt := 64) hx hb dX0_read_18 (by decide) (fun h18 => ?_) (fun h18 => ?_)
        · have hGn : gC C2 := by
            refine ⟨g5_of G5 (fun j => hT 15 j (by decide) (by simp)) (fun j => hT 49 j (by decide) (by simp)) (fun j => hT 16 j (by decide) (by simp)) (fun j => hT 50 j (by decide) (by simp)) (fun t j ht => hT t j (g6_l ht (by decide)) (fun q => g6_ne ht (n := 0) (by decide) q.1)) (fun j _ => hT 34 j (by decide) (by simp)), g1, fun j hj => ?_, fun k hk hk2 => ?_, ?_⟩
            · rw [hT 12 22 (by decide) (by decide)] at hj
              rw [hT 37 _ (by decide) (by simp), hT 34 _ (by decide) (by simp)]
              exact G2 j hj
            · rw [hT 46 k (by decide) (by simp)] at hk2
              rw [hT 45 _ (by decide) (by simp), hT 45 _ (by decide) (by simp)]
              refine ⟨(G3 k hk hk2).1, ?_⟩
              have e9 : (fun i => C2 45 (367 * k + 186 + i)) = (fun i => C 45 (367 * k + 186 + i)) := funext (fun i => hT 45 _ (by decide) (by simp))
              rw [e9]; exact (G3 k hk hk2).2
            · have e9 : (fun i => C2 34 (186 + i)) = (fun i => C 34 (186 + i)) := funext (fun i => hT 34 _ (by decide) (by simp))
              unfold g4C; rw [e9]; exact G4
          have r1 := hr_pv hp 1 (lo := 0) (hi := 940) rfl
          have rf := hr_pv hp 25 (lo := 0) (hi := 4) rfl
          refine cm_vret B hb rfl ⟨_, List.mem_cons_self, True.intro, (fun q h => nomatch h), ?_⟩ (ge_in hW hGn) hS dX0_read_64
          refine hr_mk (n := 32) [1, 25] hp0 sm (by decide +kernel) (fun j hj av hav => ?_)
          rcases List.mem_cons.mp hj with rfl | hj
          · have hav : some (.inl (0, 940, []) : ck_AV) = some av := hav
            cases hav
            exact hr_aI (by omega) (by omega)
          obtain rfl := List.mem_singleton.mp hj
          have hav : some (.inl (0, 4, []) : ck_AV) = some av := hav
          cases hav
          exact hr_aI (by omega) (by omega)
        · refine lv_aload_n hx hb dX0_read_21 rfl (lv_at hl 1 rfl) ?_
          refine lv_aload_n hx hb dX0_read_22 rfl (lv_at hl 2 rfl) ?_
          refine lv_aload_n hx hb dX0_read_23 rfl (lv_at hl 3 rfl) ?_
          refine hr_callV (kc := kh_0_readLine) B rfl hb hl (hMh _ (List.mem_of_getElem? (i := 0) rfl)) (b := a0) (As := [.ref a1, .ref a2]) (hs_readLine hF hC hM hMh hU hun hH1 t0 t1 t2 hp tl) ⟨hr_aR t0, hr_aR t1, hr_aR t2, True.intro⟩ hW hS rfl (by decide) (by decide) (Nat.le_of_ble_eq_true rfl) dX0_read_24 (fun r pvv24 E24 H locs hpost hW hS => ?_)
          obtain ⟨rfl, hp, sm1, C24, rfl, f1, f2, f3⟩ := hpost
          have sm : ∀ j, j < 32 → j ∉ [1, 25] → pvv24 j = pvv0 j := fun j h1 h2 => (sm1 j h1 h2).trans (sm j h1 h2)
          have hT2 : ∀ t j, t ∉ [29, 30, 31] → ¬ (t = 0 ∧ j = 0) → C24 t j = C t j := fun t j h1 h2 => (f1 t j h1).trans (hT t j h1 h2)
          have el : (C24 0 0).toInt = (C2 0 0).toInt := by rw [f1 0 0 (by decide)]
          have g2 : g1C C24 := fun k9 hk9 h9 => by
            rw [el] at hk9
            obtain ⟨q1, q2, q3⟩ := f2 k9 (by omega)
            rw [q1] at h9
            rw [q2, q3]; exact g1 k9 hk9 h9
          refine lv_aload_n hx hb dX0_read_27 rfl (lv_at hl 2 rfl) ?_
          refine cm_callV (kc := kc_36) B rfl hb hl (hM.1 _ _ 0 [36] (isM (by decide +kernel)) 36 (by decide)) (hH1 _ tk_X1 36 (by decide)) (b := a1) (As := []) ⟨hr_aR t1, True.intro⟩ hp hW hS rfl (by decide) (by decide) (Nat.le_of_ble_eq_true rfl) dX0_read_28 (fun cs hcs r pvv28 H locs hca hW hS => ?_)
          rcases List.mem_cons.mp hcs with rfl | hcs
          · obtain ⟨hr, hq, hc⟩ := hca
            obtain ⟨z28, rfl, lz28, uz28⟩ := hr_rvI hr
            have e28r25 := hr_pv hc 25 (lo := 1) (hi := 4) rfl; rw [hr_same1 hc (j := 25) (by decide +kernel)] at e28r25
            have hW := hr_pvE (hr_sameA hc rfl (by decide +kernel)) hW
            refine hr_eq0 (tgt := 40) hx hb dX0_read_31 (by decide) (fun h31 => ?_) (fun h31 => ?_)
            · refine lv_aload_n hx hb dX0_read_40 rfl (lv_at hl 2 rfl) ?_
              refine cm_callV (kc := kc_36) B rfl hb hl (hM.1 _ _ 0 [36] (isM (by decide +kernel)) 36 (by decide)) (hH1 _ tk_X1 36 (by decide)) (b := a1) (As := []) ⟨hr_aR t1, True.intro⟩ hp hW hS rfl (by decide) (by decide) (Nat.le_of_ble_eq_true rfl) dX0_read_41 (fun cs hcs r pvv41 H locs hca hW hS => ?_)
              rcases List.mem_cons.mp hcs with rfl | hcs
              · obtain ⟨hr, hq, hc⟩ := hca
                obtain ⟨z41, rfl, lz41, uz41⟩ := hr_rvI hr
                have e41r25 := hr_pv hc 25 (lo := 1) (hi := 4) rfl; rw [hr_same1 hc (j := 25) (by decide +kernel)] at e41r25
                have hW := hr_pvE (hr_sameA hc rfl (by decide +kernel)) hW
                refine hr_ne0 (tgt := 48) hx hb dX0_read_44 (by decide) (fun h44 => ?_) (fun h44 => ?_)
                · omega
                · have hGn : gC C24 := by
                    refine ⟨g5_of G5 (fun j => hT2 15 j (by decide) (by simp)) (fun j => hT2 49 j (by decide) (by simp)) (fun j => hT2 16 j (by decide) (by simp)) (fun j => hT2 50 j (by decide) (by simp)) (fun t j ht => hT2 t j (g6_l ht (by decide)) (fun q => g6_ne ht (n := 0) (by decide) q.1)) (fun j _ => hT2 34 j (by decide) (by simp)), g2, fun j hj => ?_, fun k hk hk2 => ?_, ?_⟩
                    · rw [hT2 12 22 (by decide) (by decide)] at hj
                      rw [hT2 37 _ (by decide) (by simp), hT2 34 _ (by decide) (by simp)]
                      exact G2 j hj
                    · rw [hT2 46 k (by decide) (by simp)] at hk2
                      rw [hT2 45 _ (by decide) (by simp), hT2 45 _ (by decide) (by simp)]
                      refine ⟨(G3 k hk hk2).1, ?_⟩
                      have e9 : (fun i => C24 45 (367 * k + 186 + i)) = (fun i => C 45 (367 * k + 186 + i)) := funext (fun i => hT2 45 _ (by decide) (by simp))
                      rw [e9]; exact (G3 k hk hk2).2
                    · have e9 : (fun i => C24 34 (186 + i)) = (fun i => C 34 (186 + i)) := funext (fun i => hT2 34 _ (by decide) (by simp))
                      unfold g4C; rw [e9]; exact G4
                  have r1 := hr_pv hp 1 (lo := 0) (hi := 940) rfl
                  have rf := hr_pv hp 25 (lo := 0) (hi := 4) rfl
                  refine cm_vret B hb rfl ⟨_, List.mem_cons_self, True.intro, (fun q h => nomatch h), ?_⟩ (ge_in hW hGn) hS dX0_read_47
                  refine hr_mk (n := 32) [1, 25] hp0 sm (by decide +kernel) (fun j hj av hav => ?_)
                  rcases List.mem_cons.mp hj with rfl | hj
                  · have hav : some (.inl (0, 940, []) : ck_AV) = some av := hav
                    cases hav
                    exact hr_aI (by omega) (by omega)
                  obtain rfl := List.mem_singleton.mp hj
                  have hav : some (.inl (0, 4, []) : ck_AV) = some av := hav
                  cases hav
                  exact hr_aI (by omega) (by omega)
              obtain rfl := List.mem_singleton.mp hcs
              obtain ⟨hr, hq, hc⟩ := hca
              obtain ⟨z41, rfl, lz41, uz41⟩ := hr_rvI hr
              have e41r25 := hr_pv hc 25 (lo := 0) (hi := 0) rfl; rw [hr_same1 hc (j := 25) (by decide +kernel)] at e41r25
              have hW := hr_pvE (hr_sameA hc rfl (by decide +kernel)) hW
              refine hr_ne0 (tgt := 48) hx hb dX0_read_44 (by decide) (fun h44 => ?_) (fun h44 => ?_)
              · refine lv_aload_n hx hb dX0_read_48 rfl (lv_at hl 1 rfl) ?_
                refine lv_dup hx hb dX0_read_49 rfl ?_
                refine hr_getI B hF hb hW (ci := 0) (j := 0) (cd := 0) t0 rfl (isF (by decide +kernel)) rfl dX0_read_50 (fun z50 lz50 uz50 pz50 xz50 => ?_)
                have xz50 := tk_xo xz50 (fun _ h => h) (pq := ck_prot1) (C := C24) t0 (by decide); have kz50 := congrArg Int32.toInt xz50
                have e50 : z50.toInt = (C2 0 0).toInt := by rw [kz50]; exact el
                have f3 := f3 (by omega)
                refine hr_ic hx hb dX0_read_53 (by decide) (fun z53 hz53 => ?_)
                refine hr_add hx hb dX0_read_54 (by omega) (by omega) (fun z54 hz54 => ?_)
                refine hr_putN B hF hb hU hW hS (ci := 0) (j := 0) (cd := 0) t0 rfl (isF (by decide +kernel)) rfl (by omega) (by omega) (Or.inl rfl) (tk_EO t0 (fun a h => hun 0 (by decide) _ _ t0 h) (by decide)) (by decide) dX0_read_55 (fun H locs hW hS => ?_)
                obtain ⟨C55, c55⟩ : ∃ f, f = tk_upd C24 0 (0) z54 := ⟨_, rfl⟩
                rw [← c55] at hW
                refine hr_inc hx hb dX0_read_58 hl (kq := 0) (lv' := fun v => [(3, .int v), (0, .ref a0), (1, .ref a1), (2, .ref a2)]) rfl (by decide) (by decide) (by omega) (by omega) (fun _ => rfl) (fun z58 ls hz58 hl => ?_)
                refine lv_goto (tgt := 7) hx hb dX0_read_61 (by decide) ?_
                refine ih7 z58 pvv24 C55 _ _ _ (by omega) (by omega) (by omega) sm (fun t j h1 h2 => ?_) (fun k9 hk9 h9 => ?_) ?_ hp hl hW hS
                · rw [c55, tk_un h2]; exact hT2 t j h1 h2
                · have e9 : ∀ t j, t ≠ 0 → C55 t j = C24 t j := fun t j h => by rw [c55, tk_unt h]
                  rw [e9 _ _ (by decide)] at h9
                  rw [e9 _ _ (by decide), e9 _ _ (by decide)]
                  rw [c55, tk_us] at hk9
                  by_cases e8 : k9 = (C2 0 0).toInt.toNat
                  · rw [e8] at h9 ⊢; exact f3.2 h9
                  · exact g2 k9 (by omega) h9
                · rw [c55, tk_us]; omega
              · omega
            · omega
          obtain rfl := List.mem_singleton.mp hcs
          obtain ⟨hr, hq, hc⟩ := hca
          obtain ⟨z28, rfl, lz28, uz28⟩ := hr_rvI hr
          have e28r25 := hr_pv hc 25 (lo := 0) (hi := 0) rfl; rw [hr_same1 hc (j := 25) (by decide +kernel)] at e28r25
          have hW := hr_pvE (hr_sameA hc rfl (by decide +kernel)) hW
          refine hr_eq0 (tgt := 40) hx hb dX0_read_31 (by decide) (fun h31 => ?_) (fun h31 => ?_)
          · omega
          · refine lv_aload_n hx hb dX0_read_34 rfl (lv_at hl 2 rfl) ?_
            refine hr_bp hx hb dX0_read_35 (by decide) (by decide) (fun z35 hz35 => ?_)
            refine cm_callV (kc := kc_68) B rfl hb hl (hM.1 _ _ 0 [68] (isM (by decide +kernel)) 68 (by decide)) (hH1 _ tk_X1 68 (by decide)) (b := a1) (As := [.int z35]) ⟨hr_aR t1, hr_aF, True.intro⟩ hp hW hS rfl (by decide) (by decide) (Nat.le_of_ble_eq_true rfl) dX0_read_37 (fun cs hcs r pvv37 H locs hca hW hS => ?_)
            obtain rfl := List.mem_singleton.mp hcs
            obtain ⟨hr, hq, hc⟩ := hca
            obtain rfl := hr_rv0 hr
            have hp := hr_std hp hc (by decide +kernel)
            have e37r25 := hr_pv hc 25 (lo := 0) (hi := 4) rfl
            have sm : ∀ j, j < 32 → j ∉ [1, 25] → pvv37 j = pvv0 j := fun j h1 h2 => (hr_sameX (l := [1, 25]) hc (by decide +kernel) j h1 h2).trans (sm j h1 h2)
            refine lv_aload_n hx hb dX0_read_40 rfl (lv_at hl 2 rfl) ?_
            refine cm_callV (kc := kc_36) B rfl hb hl (hM.1 _ _ 0 [36] (isM (by decide +kernel)) 36 (by decide)) (hH1 _ tk_X1 36 (by decide)) (b := a1) (As := []) ⟨hr_aR t1, True.intro⟩ hp hW hS rfl (by decide) (by decide) (Nat.le_of_ble_eq_true rfl) dX0_read_41 (fun cs hcs r pvv41 H locs hca hW hS => ?_)
            rcases List.mem_cons.mp hcs with rfl | hcs
            · obtain ⟨hr, hq, hc⟩ := hca
              obtain ⟨z41, rfl, lz41, uz41⟩ := hr_rvI hr
              have e41r25 := hr_pv hc 25 (lo := 1) (hi := 4) rfl; rw [hr_same1 hc (j := 25) (by decide +kernel)] at e41r25
              have hW := hr_pvE (hr_sameA hc rfl (by decide +kernel)) hW
              refine hr_ne0 (tgt := 48) hx hb dX0_read_44 (by decide) (fun h44 => ?_) (fun h44 => ?_)
              · omega
              · have hGn : gC C24 := by
                  refine ⟨g5_of G5 (fun j => hT2 15 j (by decide) (by simp)) (fun j => hT2 49 j (by decide) (by simp)) (fun j => hT2 16 j (by decide) (by simp)) (fun j => hT2 50 j (by decide) (by simp)) (fun t j ht => hT2 t j (g6_l ht (by decide)) (fun q => g6_ne ht (n := 0) (by decide) q.1)) (fun j _ => hT2 34 j (by decide) (by simp)), g2, fun j hj => ?_, fun k hk hk2 => ?_, ?_⟩
                  · rw [hT2 12 22 (by decide) (by decide)] at hj
                    rw [hT2 37 _ (by decide) (by simp), hT2 34 _ (by decide) (by simp)]
                    exact G2 j hj
                  · rw [hT2 46 k (by decide) (by simp)] at hk2
                    rw [hT2 45 _ (by decide) (by simp), hT2 45 _ (by decide) (by simp)]
                    refine ⟨(G3 k hk hk2).1, ?_⟩
                    have e9 : (fun i => C24 45 (367 * k + 186 + i)) = (fun i => C 45 (367 * k + 186 + i)) := funext (fun i => hT2 45 _ (by decide) (by simp))
                    rw [e9]; exact (G3 k hk hk2).2
                  · have e9 : (fun i => C24 34 (186 + i)) = (fun i => C 34 (186 + i)) := funext (fun i => hT2 34 _ (by decide) (by simp))
                    unfold g4C; rw [e9]; exact G4
                have r1 := hr_pv hp 1 (lo := 0) (hi := 940) rfl
                have rf := hr_pv hp 25 (lo := 0) (hi := 4) rfl
                refine cm_vret B hb rfl ⟨_, List.mem_cons_self, True.intro, (fun q h => nomatch h), ?_⟩ (ge_in hW hGn) hS dX0_read_47
                refine hr_mk (n := 32) [1, 25] hp0 sm (by decide +kernel) (fun j hj av hav => ?_)
                rcases List.mem_cons.mp hj with rfl | hj
                · have hav : some (.inl (0, 940, []) : ck_AV) = some av := hav
                  cases hav
                  exact hr_aI (by omega) (by omega)
                obtain rfl := List.mem_singleton.mp hj
                have hav : some (.inl (0, 4, []) : ck_AV) = some av := hav
                cases hav
                exact hr_aI (by omega) (by omega)
            obtain rfl := List.mem_singleton.mp hcs
            obtain ⟨hr, hq, hc⟩ := hca
            obtain ⟨z41, rfl, lz41, uz41⟩ := hr_rvI hr
            have e41r25 := hr_pv hc 25 (lo := 0) (hi := 0) rfl; rw [hr_same1 hc (j := 25) (by decide +kernel)] at e41r25
            have hW := hr_pvE (hr_sameA hc rfl (by decide +kernel)) hW
            refine hr_ne0 (tgt := 48) hx hb dX0_read_44 (by decide) (fun h44 => ?_) (fun h44 => ?_)
            · refine lv_aload_n hx hb dX0_read_48 rfl (lv_at hl 1 rfl) ?_
              refine lv_dup hx hb dX0_read_49 rfl ?_
              refine hr_getI B hF hb hW (ci := 0) (j := 0) (cd := 0) t0 rfl (isF (by decide +kernel)) rfl dX0_read_50 (fun z50 lz50 uz50 pz50 xz50 => ?_)
              have xz50 := tk_xo xz50 (fun _ h => h) (pq := ck_prot1) (C := C24) t0 (by decide); have kz50 := congrArg Int32.toInt xz50
              have e50 : z50.toInt = (C2 0 0).toInt := by rw [kz50]; exact el
              have f3 := f3 (by omega)
              refine hr_ic hx hb dX0_read_53 (by decide) (fun z53 hz53 => ?_)
              refine hr_add hx hb dX0_read_54 (by omega) (by omega) (fun z54 hz54 => ?_)
              refine hr_putN B hF hb hU hW hS (ci := 0) (j := 0) (cd := 0) t0 rfl (isF (by decide +kernel)) rfl (by omega) (by omega) (Or.inl rfl) (tk_EO t0 (fun a h => hun 0 (by decide) _ _ t0 h) (by decide)) (by decide) dX0_read_55 (fun H locs hW hS => ?_)
              obtain ⟨C55, c55⟩ : ∃ f, f = tk_upd C24 0 (0) z54 := ⟨_, rfl⟩
              rw [← c55] at hW
              refine hr_inc hx hb dX0_read_58 hl (kq := 0) (lv' := fun v => [(3, .int v), (0, .ref a0), (1, .ref a1), (2, .ref a2)]) rfl (by decide) (by decide) (by omega) (by omega) (fun _ => rfl) (fun z58 ls hz58 hl => ?_)
              refine lv_goto (tgt := 7) hx hb dX0_read_61 (by decide) ?_
              refine ih7 z58 pvv37 C55 _ _ _ (by omega) (by omega) (by omega) sm (fun t j h1 h2 => ?_) (fun k9 hk9 h9 => ?_) ?_ hp hl hW hS
              · rw [c55, tk_un h2]; exact hT2 t j h1 h2
              · have e9 : ∀ t j, t ≠ 0 → C55 t j = C24 t j := fun t j h => by rw [c55, tk_unt h]
                rw [e9 _ _ (by decide)] at h9
                rw [e9 _ _ (by decide), e9 _ _ (by decide)]
                rw [c55, tk_us] at hk9
                by_cases e8 : k9 = (C2 0 0).toInt.toNat
                · rw [e8] at h9 ⊢; exact f3.2 h9
                · exact g2 k9 (by omega) h9
              · rw [c55, tk_us]; omega
            · omega
  refine lv_aload_n hx hb dX0_read_0 rfl (lv_at hl 0 rfl) ?_
  refine hr_ic hx hb dX0_read_1 (by decide) (fun z1 hz1 => ?_)
  refine hr_putN B hF hb hU hW hS (ci := 0) (j := 0) (cd := 0) t0 rfl (isF (by decide +kernel)) rfl (by omega) (by omega) (Or.inl rfl) (tk_EO t0 (fun a h => hun 0 (by decide) _ _ t0 h) (by decide)) (by decide) dX0_read_2 (fun H locs hW hS => ?_)
  obtain ⟨C2, c2⟩ : ∃ f, f = tk_upd C 0 (0) z1 := ⟨_, rfl⟩
  rw [← c2] at hW
  refine hr_ic hx hb dX0_read_5 (by decide) (fun z5 hz5 => ?_)
  refine lv_istore_n hx hb dX0_read_6 rfl hl (lv' := [(3, .int z5), (0, .ref a0), (1, .ref a1), (2, .ref a2)]) (by decide) rfl (fun ls hl => ?_)
  refine l7 402 z5 pvv0 C2 _ _ _ (by omega) (by omega) (by omega) (fun _ _ _ => rfl) (fun t j h1 h2 => ?_) (fun k9 hk9 => ?_) ?_ hp hl hW hS
  · rw [c2, tk_un h2]
  · rw [c2, tk_us] at hk9; omega
  · rw [c2, tk_us]; omega
end H36b
