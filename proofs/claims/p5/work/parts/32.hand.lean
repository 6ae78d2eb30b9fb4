/-! BY HAND, 14: behind, operand. -/
theorem rf_co {C C' : Nat → Nat → Int32} (h1 : C' 12 45 = C 12 45) (h2 : ∀ j, C' 36 j = C 36 j) : rf C' = rf C := by
  funext j
  match j with
  | 0 => exact h1
  | j + 1 => exact h2 j
section H32
variable {l : Launch} {D : va_G} {cys : Nat → ClassId} {ty : Nat → Option Nat} {pvv : Nat → Int32} {C : Nat → Nat → Int32}
theorem dX12_behind_0 : decode cX12_behind 0 = .ok (.aload_n 0, 1) := by decide +kernel
theorem dX12_behind_1 : decode cX12_behind 1 = .ok (.invokevirtual 433, 3) := by decide +kernel
theorem dX12_behind_4 : decode cX12_behind 4 = .ok (.aload_n 0, 1) := by decide +kernel
theorem dX12_behind_5 : decode cX12_behind 5 = .ok (.ldc2_w 136, 3) := by decide +kernel
theorem dX12_behind_8 : decode cX12_behind 8 = .ok (.invokevirtual 220, 3) := by decide +kernel
theorem dX12_behind_11 : decode cX12_behind 11 = .ok (.ifCond .ne 13, 3) := by decide +kernel
theorem dX12_behind_14 : decode cX12_behind 14 = .ok (.aload_n 0, 1) := by decide +kernel
theorem dX12_behind_15 : decode cX12_behind 15 = .ok (.ldc2_w 134, 3) := by decide +kernel
theorem dX12_behind_18 : decode cX12_behind 18 = .ok (.invokevirtual 220, 3) := by decide +kernel
theorem dX12_behind_21 : decode cX12_behind 21 = .ok (.ifCond .eq 71, 3) := by decide +kernel
theorem dX12_behind_24 : decode cX12_behind 24 = .ok (.aload_n 0, 1) := by decide +kernel
theorem dX12_behind_25 : decode cX12_behind 25 = .ok (.aload_n 0, 1) := by decide +kernel
theorem dX12_behind_26 : decode cX12_behind 26 = .ok (.ldc2_w 136, 3) := by decide +kernel
theorem dX12_behind_29 : decode cX12_behind 29 = .ok (.invokevirtual 220, 3) := by decide +kernel
theorem dX12_behind_32 : decode cX12_behind 32 = .ok (.ifCond .eq 8, 3) := by decide +kernel
theorem dX12_behind_35 : decode cX12_behind 35 = .ok (.bipush 21, 2) := by decide +kernel
theorem dX12_behind_37 : decode cX12_behind 37 = .ok (.goto 5, 3) := by decide +kernel
theorem dX12_behind_40 : decode cX12_behind 40 = .ok (.bipush 22, 2) := by decide +kernel
theorem dX12_behind_42 : decode cX12_behind 42 = .ok (.invokevirtual 436, 3) := by decide +kernel
theorem dX12_behind_45 : decode cX12_behind 45 = .ok (.aload_n 0, 1) := by decide +kernel
theorem dX12_behind_46 : decode cX12_behind 46 = .ok (.getfield 86, 3) := by decide +kernel
theorem dX12_behind_49 : decode cX12_behind 49 = .ok (.aload_n 0, 1) := by decide +kernel
theorem dX12_behind_50 : decode cX12_behind 50 = .ok (.getfield 414, 3) := by decide +kernel
theorem dX12_behind_53 : decode cX12_behind 53 = .ok (.aload_n 0, 1) := by decide +kernel
theorem dX12_behind_54 : decode cX12_behind 54 = .ok (.ldc2_w 136, 3) := by decide +kernel
theorem dX12_behind_57 : decode cX12_behind 57 = .ok (.invokevirtual 220, 3) := by decide +kernel
theorem dX12_behind_60 : decode cX12_behind 60 = .ok (.ifCond .eq 8, 3) := by decide +kernel
theorem dX12_behind_63 : decode cX12_behind 63 = .ok (.bipush 21, 2) := by decide +kernel
theorem dX12_behind_65 : decode cX12_behind 65 = .ok (.goto 5, 3) := by decide +kernel
theorem dX12_behind_68 : decode cX12_behind 68 = .ok (.bipush 22, 2) := by decide +kernel
theorem dX12_behind_70 : decode cX12_behind 70 = .ok (.iastore, 1) := by decide +kernel
theorem dX12_behind_71 : decode cX12_behind 71 = .ok (.aload_n 0, 1) := by decide +kernel
theorem dX12_behind_72 : decode cX12_behind 72 = .ok (.dup, 1) := by decide +kernel
theorem dX12_behind_73 : decode cX12_behind 73 = .ok (.getfield 414, 3) := by decide +kernel
theorem dX12_behind_76 : decode cX12_behind 76 = .ok (.iconst 1, 1) := by decide +kernel
theorem dX12_behind_77 : decode cX12_behind 77 = .ok (.iadd, 1) := by decide +kernel
theorem dX12_behind_78 : decode cX12_behind 78 = .ok (.putfield 414, 3) := by decide +kernel
theorem dX12_behind_81 : decode cX12_behind 81 = .ok (.aload_n 0, 1) := by decide +kernel
theorem dX12_behind_82 : decode cX12_behind 82 = .ok (.iconst 0, 1) := by decide +kernel
theorem dX12_behind_83 : decode cX12_behind 83 = .ok (.putfield 430, 3) := by decide +kernel
theorem dX12_behind_86 : decode cX12_behind 86 = .ok (.aload_n 0, 1) := by decide +kernel
theorem dX12_behind_87 : decode cX12_behind 87 = .ok (.invokevirtual 195, 3) := by decide +kernel
theorem dX12_behind_90 : decode cX12_behind 90 = .ok (.iconst 1, 1) := by decide +kernel
theorem dX12_behind_91 : decode cX12_behind 91 = .ok (.ireturn, 1) := by decide +kernel
theorem dX12_behind_92 : decode cX12_behind 92 = .ok (.aload_n 0, 1) := by decide +kernel
theorem dX12_behind_93 : decode cX12_behind 93 = .ok (.bipush 22, 2) := by decide +kernel
theorem dX12_behind_95 : decode cX12_behind 95 = .ok (.invokevirtual 436, 3) := by decide +kernel
theorem dX12_behind_98 : decode cX12_behind 98 = .ok (.aload_n 0, 1) := by decide +kernel
theorem dX12_behind_99 : decode cX12_behind 99 = .ok (.bipush 41, 2) := by decide +kernel
theorem dX12_behind_101 : decode cX12_behind 101 = .ok (.invokevirtual 189, 3) := by decide +kernel
theorem dX12_behind_104 : decode cX12_behind 104 = .ok (.ifCond .eq 10, 3) := by decide +kernel
theorem dX12_behind_107 : decode cX12_behind 107 = .ok (.aload_n 0, 1) := by decide +kernel
theorem dX12_behind_108 : decode cX12_behind 108 = .ok (.getfield 414, 3) := by decide +kernel
theorem dX12_behind_111 : decode cX12_behind 111 = .ok (.ifCond .ne 9, 3) := by decide +kernel
theorem dX12_behind_114 : decode cX12_behind 114 = .ok (.aload_n 0, 1) := by decide +kernel
theorem dX12_behind_115 : decode cX12_behind 115 = .ok (.iconst 1, 1) := by decide +kernel
theorem dX12_behind_116 : decode cX12_behind 116 = .ok (.invokevirtual 192, 3) := by decide +kernel
theorem dX12_behind_119 : decode cX12_behind 119 = .ok (.ireturn, 1) := by decide +kernel
theorem dX12_behind_120 : decode cX12_behind 120 = .ok (.aload_n 0, 1) := by decide +kernel
theorem dX12_behind_121 : decode cX12_behind 121 = .ok (.dup, 1) := by decide +kernel
theorem dX12_behind_122 : decode cX12_behind 122 = .ok (.getfield 414, 3) := by decide +kernel
theorem dX12_behind_125 : decode cX12_behind 125 = .ok (.iconst 1, 1) := by decide +kernel
theorem dX12_behind_126 : decode cX12_behind 126 = .ok (.isub, 1) := by decide +kernel
theorem dX12_behind_127 : decode cX12_behind 127 = .ok (.putfield 414, 3) := by decide +kernel
theorem dX12_behind_130 : decode cX12_behind 130 = .ok (.aload_n 0, 1) := by decide +kernel
theorem dX12_behind_131 : decode cX12_behind 131 = .ok (.dup, 1) := by decide +kernel
theorem dX12_behind_132 : decode cX12_behind 132 = .ok (.getfield 421, 3) := by decide +kernel
theorem dX12_behind_135 : decode cX12_behind 135 = .ok (.iconst 1, 1) := by decide +kernel
theorem dX12_behind_136 : decode cX12_behind 136 = .ok (.isub, 1) := by decide +kernel
theorem dX12_behind_137 : decode cX12_behind 137 = .ok (.putfield 421, 3) := by decide +kernel
theorem dX12_behind_140 : decode cX12_behind 140 = .ok (.aload_n 0, 1) := by decide +kernel
theorem dX12_behind_141 : decode cX12_behind 141 = .ok (.invokevirtual 195, 3) := by decide +kernel
theorem dX12_behind_144 : decode cX12_behind 144 = .ok (.iconst 1, 1) := by decide +kernel
theorem dX12_behind_145 : decode cX12_behind 145 = .ok (.ireturn, 1) := by decide +kernel
set_option maxRecDepth 100000 in
set_option maxHeartbeats 4000000 in
theorem hs_behind (hF : ck_LKf ck_LK) (hC : ck_LKc ck_LK) (hM : ck_LKm ck_tags ck_LK ck_tab) (hMh : ∀ q ∈ ck_hl, ck_mOK ck_tags q.1 q.2.1 q.2.2.1 q.2.2.2) (hU : ck_uq ty ck_pvs0) (hun : ck_un ty) (hH1 : ∀ Ex', ck_ExP ty ck_prot1 Ex' → ∀ j, j < 331 → ck_Holds l D cys ty ck_tags ck_pvs0 Ex' (ck_tab j)) {a0 : Nat} (t0 : ty a0 = some 12) (hp : ck_pvo ty (ck_XE pvv) pPM pvv) (hI0 : SI C) (hw : (C 12 49).toInt = 1) : hr_Met l D cys ty ck_tags ck_pvs0 (tk ty ck_prot1 C) kh_12_behind [.ref a0] pvv (fun r pvv' E' => ck_pvo ty (ck_XE pvv') pPM pvv' ∧ (∀ j, j < 32 → j ∉ [13, 14, 24, 31] → pvv' j = pvv j) ∧ ∃ z : Int32, r = some (.int z) ∧ ∃ C' : Nat → Nat → Int32, E' = tk ty ck_prot1 C' ∧ sfr C C' ∧ (z.toInt = 0 ∨ (z.toInt = 1 ∧ SI C' ∧ (C' 12 46).toInt = (C 12 46).toInt ∧ (((C' 12 49).toInt = 0 ∧ (C' 12 47).toInt ≤ (C 12 47).toInt + 1) ∨ ((C' 12 49).toInt = 1 ∧ (C' 12 47).toInt ≤ (C 12 47).toInt - 1))))) := by
  refine hr_enter (by decide +kernel) (by decide +kernel) (by decide +kernel) ⟨hr_aR t0, True.intro⟩ ?_
  intro p e s m below meth c ls B hl hW
  have hx := B.1
  have hb : c.code = cX12_behind := B.2.1
  have hI := pv_inj
  have hS : va_S (ck_own ty) s.heap s.heap [] := va_S.rf
  have hl : lv_has ls 1 [(0, .ref a0)] := hl
  have sm : ∀ j, j < 32 → j ∉ [13, 14, 24, 31] → pvv j = pvv j := fun _ _ _ => rfl
  refine lv_aload_n hx hb dX12_behind_0 rfl (lv_at hl 0 rfl) ?_
  refine hr_callV (kc := kh_12_nots) B rfl hb hl (hMh _ (List.mem_of_getElem? (i := 12) rfl)) (b := a0) (As := []) (hs_nots hF hC hM hMh hU hun hH1 t0 hI0 hw) ⟨hr_aR t0, True.intro⟩ hW hS rfl (by decide) (by decide) (Nat.le_of_ble_eq_true rfl) dX12_behind_1 (fun r pvv1 E1 H locs hpost hW hS => ?_)
  obtain ⟨rfl, ep, C1, rfl, I1, f1, w1, o1, p1⟩ := hpost
  rw [ep] at hW
  refine lv_aload_n hx hb dX12_behind_4 rfl (lv_at hl 0 rfl) ?_
  refine hr_ldc2 B hC hb (isL (by decide +kernel)) dX12_behind_5 (fun z5 => ?_)
  refine cm_callV (kc := kc_211) B rfl hb hl (hM.1 _ _ 0 [211] (isM (by decide +kernel)) 211 (by decide)) (hH1 _ tk_X1 211 (by decide)) (b := a0) (As := [.long z5]) ⟨hr_aR t0, hr_aL, True.intro⟩ hp hW hS rfl (by decide) (by decide) (Nat.le_of_ble_eq_true rfl) dX12_behind_8 (fun cs hcs r pvv8 H locs hca hW hS => ?_)
  rcases List.mem_cons.mp hcs with rfl | hcs
  · obtain ⟨hr, hq, hc⟩ := hca
    obtain ⟨z8, rfl, lz8, uz8⟩ := hr_rvI hr
    have hW := hr_pvE (hr_sameA hc rfl (by decide +kernel)) hW
    refine hr_ne0 (tgt := 24) hx hb dX12_behind_11 (by decide) (fun h11 => ?_) (fun h11 => ?_)
    · omega
    · refine lv_aload_n hx hb dX12_behind_14 rfl (lv_at hl 0 rfl) ?_
      refine hr_ldc2 B hC hb (isL (by decide +kernel)) dX12_behind_15 (fun z15 => ?_)
      refine cm_callV (kc := kc_211) B rfl hb hl (hM.1 _ _ 0 [211] (isM (by decide +kernel)) 211 (by decide)) (hH1 _ tk_X1 211 (by decide)) (b := a0) (As := [.long z15]) ⟨hr_aR t0, hr_aL, True.intro⟩ hp hW hS rfl (by decide) (by decide) (Nat.le_of_ble_eq_true rfl) dX12_behind_18 (fun cs hcs r pvv18 H locs hca hW hS => ?_)
      rcases List.mem_cons.mp hcs with rfl | hcs
      · obtain ⟨hr, hq, hc⟩ := hca
        obtain ⟨z18, rfl, lz18, uz18⟩ := hr_rvI hr
        have hW := hr_pvE (hr_sameA hc rfl (by decide +kernel)) hW
        refine hr_eq0 (tgt := 92) hx hb dX12_behind_21 (by decide) (fun h21 => ?_) (fun h21 => ?_)
        · refine lv_aload_n hx hb dX12_behind_92 rfl (lv_at hl 0 rfl) ?_
          refine hr_bp hx hb dX12_behind_93 (by decide) (by decide) (fun z93 hz93 => ?_)
          refine hr_callV (kc := kh_12_joins) B rfl hb hl (hMh _ (List.mem_of_getElem? (i := 13) rfl)) (b := a0) (As := [.int z93]) (hs_joins hF hC hM hMh hU hun hH1 t0 I1 w1) ⟨hr_aR t0, hr_aF, True.intro⟩ hW hS rfl (by decide) (by decide) (Nat.le_of_ble_eq_true rfl) dX12_behind_95 (fun r pvv95 E95 H locs hpost hW hS => ?_)
          obtain ⟨rfl, ep, C95, rfl, I2, f2, w2, o2, p2, n2⟩ := hpost
          rw [ep] at hW
          have n2 := n2 hz93
          obtain ⟨s1, s2, s3, s4, s5, s6, s7, s8⟩ := id I2
          refine lv_aload_n hx hb dX12_behind_98 rfl (lv_at hl 0 rfl) ?_
          refine hr_bp hx hb dX12_behind_99 (by decide) (by decide) (fun z99 hz99 => ?_)
          refine cm_callV (kc := kc_210) B rfl hb hl (hM.1 _ _ 0 [210] (isM (by decide +kernel)) 210 (by decide)) (hH1 _ tk_X1 210 (by decide)) (b := a0) (As := [.int z99]) ⟨hr_aR t0, hr_aF, True.intro⟩ hp hW hS rfl (by decide) (by decide) (Nat.le_of_ble_eq_true rfl) dX12_behind_101 (fun cs hcs r pvv101 H locs hca hW hS => ?_)
          rcases List.mem_cons.mp hcs with rfl | hcs
          · obtain ⟨hr, hq, hc⟩ := hca
            obtain ⟨z101, rfl, lz101, uz101⟩ := hr_rvI hr
            have hW := hr_pvE (hr_sameA hc rfl (by decide +kernel)) hW
            refine hr_eq0 (tgt := 114) hx hb dX12_behind_104 (by decide) (fun h104 => ?_) (fun h104 => ?_)
            · refine lv_aload_n hx hb dX12_behind_114 rfl (lv_at hl 0 rfl) ?_
              refine hr_ic hx hb dX12_behind_115 (by decide) (fun z115 hz115 => ?_)
              refine cm_callV (kc := kc_205) B rfl hb hl (hM.1 _ _ 0 [205] (isM (by decide +kernel)) 205 (by decide)) (hH1 _ tk_X1 205 (by decide)) (b := a0) (As := [.int z115]) ⟨hr_aR t0, hr_aI (by omega) (by omega), True.intro⟩ hp hW hS rfl (by decide) (by decide) (Nat.le_of_ble_eq_true rfl) dX12_behind_116 (fun cs hcs r pvv116 H locs hca hW hS => ?_)
              obtain rfl := List.mem_singleton.mp hcs
              obtain ⟨hr, hq, hc⟩ := hca
              obtain ⟨z116, rfl, lz116, uz116⟩ := hr_rvI hr
              have hp := hr_std hp hc (by decide +kernel)
              have sm : ∀ j, j < 32 → j ∉ [13, 14, 24, 31] → pvv116 j = pvv j := fun j h1 h2 => (hr_sameX (l := [13, 14, 24, 31]) hc (by decide +kernel) j h1 h2).trans (sm j h1 h2)
              exact hr_zret B hb rfl ⟨by omega, by omega⟩ ⟨hp, sm, z116, rfl, C95, rfl, sfr_tr f1 f2, Or.inl (by omega)⟩ hW hS dX12_behind_119
            · omega
          obtain rfl := List.mem_singleton.mp hcs
          obtain ⟨hr, hq, hc⟩ := hca
          obtain ⟨z101, rfl, lz101, uz101⟩ := hr_rvI hr
          have hW := hr_pvE (hr_sameA hc rfl (by decide +kernel)) hW
          refine hr_eq0 (tgt := 114) hx hb dX12_behind_104 (by decide) (fun h104 => ?_) (fun h104 => ?_)
          · omega
          · refine lv_aload_n hx hb dX12_behind_107 rfl (lv_at hl 0 rfl) ?_
            refine hr_getI B hF hb hW (ci := 12) (j := 47) (cd := 0) t0 rfl (isF (by decide +kernel)) rfl dX12_behind_108 (fun z108 lz108 uz108 pz108 xz108 => ?_)
            have xz108 := tk_xo xz108 (fun _ h => h) (pq := ck_prot1) (C := C95) t0 (by decide); have kz108 := congrArg Int32.toInt xz108
            refine hr_ne0 (tgt := 120) hx hb dX12_behind_111 (by decide) (fun h111 => ?_) (fun h111 => ?_)
            · refine lv_aload_n hx hb dX12_behind_120 rfl (lv_at hl 0 rfl) ?_
              refine lv_dup hx hb dX12_behind_121 rfl ?_
              refine hr_getI B hF hb hW (ci := 12) (j := 47) (cd := 0) t0 rfl (isF (by decide +kernel)) rfl dX12_behind_122 (fun z122 lz122 uz122 pz122 xz122 => ?_)
              have xz122 := tk_xo xz122 (fun _ h => h) (pq := ck_prot1) (C := C95) t0 (by decide); have kz122 := congrArg Int32.toInt xz122
              refine hr_ic hx hb dX12_behind_125 (by decide) (fun z125 hz125 => ?_)
              refine hr_sub hx hb dX12_behind_126 (by omega) (by omega) (fun z126 hz126 => ?_)
              refine hr_putN B hF hb hU hW hS (ci := 12) (j := 47) (cd := 0) t0 rfl (isF (by decide +kernel)) rfl (by omega) (by omega) (Or.inl rfl) (tk_EO t0 (fun a h => hun 12 (by decide) _ _ t0 h) (by decide)) (by decide) dX12_behind_127 (fun H locs hW hS => ?_)
              obtain ⟨C127, c127⟩ : ∃ f, f = tk_upd C95 12 (47) z126 := ⟨_, rfl⟩
              rw [← c127] at hW
              refine lv_aload_n hx hb dX12_behind_130 rfl (lv_at hl 0 rfl) ?_
              refine lv_dup hx hb dX12_behind_131 rfl ?_
              refine hr_getI B hF hb hW (ci := 12) (j := 48) (cd := 0) t0 rfl (isF (by decide +kernel)) rfl dX12_behind_132 (fun z132 lz132 uz132 pz132 xz132 => ?_)
              refine hr_ic hx hb dX12_behind_135 (by decide) (fun z135 hz135 => ?_)
              refine lv_isub hx hb dX12_behind_136 (lv_topi (fun z136 hz136 => ?_))
              refine hr_putN B hF hb hU hW hS (ci := 12) (j := 48) (cd := 0) t0 rfl (isF (by decide +kernel)) rfl (ck_lo _) (ck_hi _) (Or.inl rfl) (hr_EO (tk_X1 (C := C127)) t0 (by decide)) (by decide) dX12_behind_137 (fun H locs hW hS => ?_)
              have k1 : (C127 12 47).toInt = (C95 12 47).toInt - 1 := by rw [c127, tk_us]; omega
              have k2 : (C127 12 46).toInt = (C95 12 46).toInt := by rw [c127, tk_unj (by decide)]
              have k3 : (C127 12 49).toInt = (C95 12 49).toInt := by rw [c127, tk_unj (by decide)]
              have k6 : C127 12 45 = C95 12 45 := by rw [c127, tk_unj (by decide)]
              have k7 : (C127 12 45).toInt = (C95 12 45).toInt := by rw [k6]
              have k5 : rf C127 = rf C95 := rf_co k6 (fun j => by rw [c127, tk_unt (by decide)])
              have kb : bn C95 (C95 12 47).toInt.toNat = bn C95 ((C95 12 47).toInt - 1).toNat := by rw [show (C95 12 47).toInt.toNat = ((C95 12 47).toInt - 1).toNat + 1 by omega]; exact bn_n (by omega) (by omega)
              have kI : SI C127 := by
                refine ⟨by omega, by omega, by omega, by omega, by omega, by omega, by rw [k5]; exact s7, ?_⟩
                rw [k5, k6, s8, k1, bn_co (C := C95) (C' := C127) (fun j _ => by rw [c127, tk_unt (by decide)])]; omega
              have kf : sfr C C127 := sfr_tr f1 (sfr_tr f2 (fun t j h1 h2 h3 => by rw [c127, tk_un (fun q => h3 ⟨q.1, Or.inr (Or.inr (Or.inl q.2))⟩)]))
              refine lv_aload_n hx hb dX12_behind_140 rfl (lv_at hl 0 rfl) ?_
              refine cm_callV (kc := kc_209) B rfl hb hl (hM.1 _ _ 0 [209] (isM (by decide +kernel)) 209 (by decide)) (hH1 _ tk_X1 209 (by decide)) (b := a0) (As := []) ⟨hr_aR t0, True.intro⟩ hp hW hS rfl (by decide) (by decide) (Nat.le_of_ble_eq_true rfl) dX12_behind_141 (fun cs hcs r pvv141 H locs hca hW hS => ?_)
              rcases List.mem_cons.mp hcs with rfl | hcs
              · obtain ⟨hr, hq, hc⟩ := hca
                obtain rfl := hr_rv0 hr
                have hp := hr_std hp hc (by decide +kernel)
                have sm : ∀ j, j < 32 → j ∉ [13, 14, 24, 31] → pvv141 j = pvv j := fun j h1 h2 => (hr_sameX (l := [13, 14, 24, 31]) hc (by decide +kernel) j h1 h2).trans (sm j h1 h2)
                refine hr_ic hx hb dX12_behind_144 (by decide) (fun z144 hz144 => ?_)
                exact hr_zret B hb rfl ⟨by omega, by omega⟩ ⟨hp, sm, z144, rfl, C127, rfl, kf, Or.inr ⟨by omega, kI, by omega, by omega⟩⟩ hW hS dX12_behind_145
              rcases List.mem_cons.mp hcs with rfl | hcs
              · obtain ⟨hr, hq, hc⟩ := hca
                obtain rfl := hr_rv0 hr
                have hp := hr_std hp hc (by decide +kernel)
                have sm : ∀ j, j < 32 → j ∉ [13, 14, 24, 31] → pvv141 j = pvv j := fun j h1 h2 => (hr_sameX (l := [13, 14, 24, 31]) hc (by decide +kernel) j h1 h2).trans (sm j h1 h2)
                refine hr_ic hx hb dX12_behind_144 (by decide) (fun z144 hz144 => ?_)
                exact hr_zret B hb rfl ⟨by omega, by omega⟩ ⟨hp, sm, z144, rfl, C127, rfl, kf, Or.inr ⟨by omega, kI, by omega, by omega⟩⟩ hW hS dX12_behind_145
              rcases List.mem_cons.mp hcs with rfl | hcs
              · obtain ⟨hr, hq, hc⟩ := hca
                obtain rfl := hr_rv0 hr
                have hp := hr_std hp hc (by decide +kernel)
                have sm : ∀ j, j < 32 → j ∉ [13, 14, 24, 31] → pvv141 j = pvv j := fun j h1 h2 => (hr_sameX (l := [13, 14, 24, 31]) hc (by decide +kernel) j h1 h2).trans (sm j h1 h2)
                refine hr_ic hx hb dX12_behind_144 (by decide) (fun z144 hz144 => ?_)
                exact hr_zret B hb rfl ⟨by omega, by omega⟩ ⟨hp, sm, z144, rfl, C127, rfl, kf, Or.inr ⟨by omega, kI, by omega, by omega⟩⟩ hW hS dX12_behind_145
              obtain rfl := List.mem_singleton.mp hcs
              obtain ⟨hr, hq, hc⟩ := hca
              obtain rfl := hr_rv0 hr
              have hp := hr_std hp hc (by decide +kernel)
              have sm : ∀ j, j < 32 → j ∉ [13, 14, 24, 31] → pvv141 j = pvv j := fun j h1 h2 => (hr_sameX (l := [13, 14, 24, 31]) hc (by decide +kernel) j h1 h2).trans (sm j h1 h2)
              refine hr_ic hx hb dX12_behind_144 (by decide) (fun z144 hz144 => ?_)
              exact hr_zret B hb rfl ⟨by omega, by omega⟩ ⟨hp, sm, z144, rfl, C127, rfl, kf, Or.inr ⟨by omega, kI, by omega, by omega⟩⟩ hW hS dX12_behind_145
            · refine lv_aload_n hx hb dX12_behind_114 rfl (lv_at hl 0 rfl) ?_
              refine hr_ic hx hb dX12_behind_115 (by decide) (fun z115 hz115 => ?_)
              refine cm_callV (kc := kc_205) B rfl hb hl (hM.1 _ _ 0 [205] (isM (by decide +kernel)) 205 (by decide)) (hH1 _ tk_X1 205 (by decide)) (b := a0) (As := [.int z115]) ⟨hr_aR t0, hr_aI (by omega) (by omega), True.intro⟩ hp hW hS rfl (by decide) (by decide) (Nat.le_of_ble_eq_true rfl) dX12_behind_116 (fun cs hcs r pvv116 H locs hca hW hS => ?_)
              obtain rfl := List.mem_singleton.mp hcs
              obtain ⟨hr, hq, hc⟩ := hca
              obtain ⟨z116, rfl, lz116, uz116⟩ := hr_rvI hr
              have hp := hr_std hp hc (by decide +kernel)
              have sm : ∀ j, j < 32 → j ∉ [13, 14, 24, 31] → pvv116 j = pvv j := fun j h1 h2 => (hr_sameX (l := [13, 14, 24, 31]) hc (by decide +kernel) j h1 h2).trans (sm j h1 h2)
              exact hr_zret B hb rfl ⟨by omega, by omega⟩ ⟨hp, sm, z116, rfl, C95, rfl, sfr_tr f1 f2, Or.inl (by omega)⟩ hW hS dX12_behind_119
        · omega
      obtain rfl := List.mem_singleton.mp hcs
      obtain ⟨hr, hq, hc⟩ := hca
      obtain ⟨z18, rfl, lz18, uz18⟩ := hr_rvI hr
      have hW := hr_pvE (hr_sameA hc rfl (by decide +kernel)) hW
      refine hr_eq0 (tgt := 92) hx hb dX12_behind_21 (by decide) (fun h21 => ?_) (fun h21 => ?_)
      · omega
      · refine lv_aload_n hx hb dX12_behind_24 rfl (lv_at hl 0 rfl) ?_
        refine lv_aload_n hx hb dX12_behind_25 rfl (lv_at hl 0 rfl) ?_
        refine hr_ldc2 B hC hb (isL (by decide +kernel)) dX12_behind_26 (fun z26 => ?_)
        refine cm_callV (kc := kc_211) B rfl hb hl (hM.1 _ _ 0 [211] (isM (by decide +kernel)) 211 (by decide)) (hH1 _ tk_X1 211 (by decide)) (b := a0) (As := [.long z26]) ⟨hr_aR t0, hr_aL, True.intro⟩ hp hW hS rfl (by decide) (by decide) (Nat.le_of_ble_eq_true rfl) dX12_behind_29 (fun cs hcs r pvv29 H locs hca hW hS => ?_)
        rcases List.mem_cons.mp hcs with rfl | hcs
        · obtain ⟨hr, hq, hc⟩ := hca
          obtain ⟨z29, rfl, lz29, uz29⟩ := hr_rvI hr
          have hW := hr_pvE (hr_sameA hc rfl (by decide +kernel)) hW
          refine hr_eq0 (tgt := 40) hx hb dX12_behind_32 (by decide) (fun h32 => ?_) (fun h32 => ?_)
          · refine hr_bp hx hb dX12_behind_40 (by decide) (by decide) (fun z40 hz40 => ?_)
            refine hr_callV (kc := kh_12_joins) B rfl hb hl (hMh _ (List.mem_of_getElem? (i := 13) rfl)) (b := a0) (As := [.int z40]) (hs_joins hF hC hM hMh hU hun hH1 t0 I1 w1) ⟨hr_aR t0, hr_aF, True.intro⟩ hW hS rfl (by decide) (by decide) (Nat.le_of_ble_eq_true rfl) dX12_behind_42 (fun r pvv42 E42 H locs hpost hW hS => ?_)
            obtain ⟨rfl, ep, C42, rfl, I2, f2, w2, o2, p2, -⟩ := hpost
            rw [ep] at hW
            obtain ⟨s1, s2, s3, s4, s5, s6, s7, s8⟩ := id I2
            refine lv_aload_n hx hb dX12_behind_45 rfl (lv_at hl 0 rfl) ?_
            refine hr_getR B hF hb hW (ci := 12) (j := 44) (cd := 3) t0 rfl (isF (by decide +kernel)) rfl dX12_behind_46 (fun az46 tz46 xz46 => ?_)
            refine lv_aload_n hx hb dX12_behind_49 rfl (lv_at hl 0 rfl) ?_
            refine hr_getI B hF hb hW (ci := 12) (j := 47) (cd := 0) t0 rfl (isF (by decide +kernel)) rfl dX12_behind_50 (fun z50 lz50 uz50 pz50 xz50 => ?_)
            have xz50 := tk_xo xz50 (fun _ h => h) (pq := ck_prot1) (C := C42) t0 (by decide); have kz50 := congrArg Int32.toInt xz50
            refine lv_aload_n hx hb dX12_behind_53 rfl (lv_at hl 0 rfl) ?_
            refine hr_ldc2 B hC hb (isL (by decide +kernel)) dX12_behind_54 (fun z54 => ?_)
            refine cm_callV (kc := kc_211) B rfl hb hl (hM.1 _ _ 0 [211] (isM (by decide +kernel)) 211 (by decide)) (hH1 _ tk_X1 211 (by decide)) (b := a0) (As := [.long z54]) ⟨hr_aR t0, hr_aL, True.intro⟩ hp hW hS rfl (by decide) (by decide) (Nat.le_of_ble_eq_true rfl) dX12_behind_57 (fun cs hcs r pvv57 H locs hca hW hS => ?_)
            rcases List.mem_cons.mp hcs with rfl | hcs
            · obtain ⟨hr, hq, hc⟩ := hca
              obtain ⟨z57, rfl, lz57, uz57⟩ := hr_rvI hr
              have hW := hr_pvE (hr_sameA hc rfl (by decide +kernel)) hW
              refine hr_eq0 (tgt := 68) hx hb dX12_behind_60 (by decide) (fun h60 => ?_) (fun h60 => ?_)
              · refine hr_bp hx hb dX12_behind_68 (by decide) (by decide) (fun z68 hz68 => ?_)
                refine hr_iastN B hb hU hW hS tz46 rfl (by omega) (by omega) ⟨ck_lo _, ck_hi _⟩ (tk_EA tz46 (fun a h => hun 43 (by decide) _ _ tz46 h)) (u := 0) (v := 44) (by omega) (by omega) (by decide) dX12_behind_70 (fun H locs hW hS => ?_)
                obtain ⟨C70, c70⟩ : ∃ f, f = tk_upd C42 43 (z50.toInt.toNat) z68 := ⟨_, rfl⟩
                rw [← c70] at hW
                refine lv_aload_n hx hb dX12_behind_71 rfl (lv_at hl 0 rfl) ?_
                refine lv_dup hx hb dX12_behind_72 rfl ?_
                refine hr_getI B hF hb hW (ci := 12) (j := 47) (cd := 0) t0 rfl (isF (by decide +kernel)) rfl dX12_behind_73 (fun z73 lz73 uz73 pz73 xz73 => ?_)
                have xz73 := tk_xo xz73 (fun _ h => h) (pq := ck_prot1) (C := C70) t0 (by decide); have kz73 := congrArg Int32.toInt xz73
                have e73 : z73.toInt = (C42 12 47).toInt := by rw [kz73, c70, tk_unt (by decide)]
                refine hr_ic hx hb dX12_behind_76 (by decide) (fun z76 hz76 => ?_)
                refine hr_add hx hb dX12_behind_77 (by omega) (by omega) (fun z77 hz77 => ?_)
                refine hr_putN B hF hb hU hW hS (ci := 12) (j := 47) (cd := 0) t0 rfl (isF (by decide +kernel)) rfl (by omega) (by omega) (Or.inl rfl) (tk_EO t0 (fun a h => hun 12 (by decide) _ _ t0 h) (by decide)) (by decide) dX12_behind_78 (fun H locs hW hS => ?_)
                obtain ⟨C78, c78⟩ : ∃ f, f = tk_upd C70 12 (47) z77 := ⟨_, rfl⟩
                rw [← c78] at hW
                refine lv_aload_n hx hb dX12_behind_81 rfl (lv_at hl 0 rfl) ?_
                refine hr_ic hx hb dX12_behind_82 (by decide) (fun z82 hz82 => ?_)
                refine hr_putN B hF hb hU hW hS (ci := 12) (j := 49) (cd := 1) t0 rfl (isF (by decide +kernel)) rfl (by omega) (by omega) (Or.inr ⟨rfl, by omega, by omega⟩) (tk_EO t0 (fun a h => hun 12 (by decide) _ _ t0 h) (by decide)) (by decide) dX12_behind_83 (fun H locs hW hS => ?_)
                obtain ⟨C83, c83⟩ : ∃ f, f = tk_upd C78 12 (49) z82 := ⟨_, rfl⟩
                rw [← c83] at hW
                have k1 : (C83 12 47).toInt = (C42 12 47).toInt + 1 := by rw [c83, tk_unj (by decide), c78, tk_us]; omega
                have k2 : (C83 12 46).toInt = (C42 12 46).toInt := by rw [c83, tk_unj (by decide), c78, tk_unj (by decide), c70, tk_unt (by decide)]
                have k3 : (C83 12 49).toInt = 0 := by rw [c83, tk_us]; omega
                have k6 : C83 12 45 = C42 12 45 := by rw [c83, tk_unj (by decide), c78, tk_unj (by decide), c70, tk_unt (by decide)]
                have k4 : ∀ j, j ≠ z50.toInt.toNat → C83 43 j = C42 43 j := fun j hj => by rw [c83, tk_unt (by decide), c78, tk_unt (by decide), c70, tk_unj hj]
                have k4s : (C83 43 z50.toInt.toNat).toInt = z68.toInt := by rw [c83, tk_unt (by decide), c78, tk_unt (by decide), c70, tk_us]
                have k5 : rf C83 = rf C42 := rf_co k6 (fun j => by rw [c83, tk_unt (by decide), c78, tk_unt (by decide), c70, tk_unt (by decide)])
                have k7 : (C83 12 45).toInt = (C42 12 45).toInt := by rw [k6]
                have kI : SI C83 := by
                  refine ⟨by omega, by omega, by omega, by omega, by omega, by omega, by rw [k5]; exact s7, ?_⟩
                  rw [k5, k6, s8, show (C83 12 47).toInt.toNat = z50.toInt.toNat + 1 by omega, bn_y (by omega), bn_co (C := C42) (C' := C83) (fun j hj => k4 j (by omega)), show z50.toInt.toNat = (C42 12 47).toInt.toNat by omega]; omega
                have kf : sfr C C83 := sfr_tr f1 (sfr_tr f2 (fun t j h1 h2 h3 => by rw [c83, tk_un (fun q => h3 ⟨q.1, Or.inr (Or.inr (Or.inr q.2))⟩), c78, tk_un (fun q => h3 ⟨q.1, Or.inr (Or.inr (Or.inl q.2))⟩), c70, tk_unt h2]))
                refine lv_aload_n hx hb dX12_behind_86 rfl (lv_at hl 0 rfl) ?_
                refine cm_callV (kc := kc_209) B rfl hb hl (hM.1 _ _ 0 [209] (isM (by decide +kernel)) 209 (by decide)) (hH1 _ tk_X1 209 (by decide)) (b := a0) (As := []) ⟨hr_aR t0, True.intro⟩ hp hW hS rfl (by decide) (by decide) (Nat.le_of_ble_eq_true rfl) dX12_behind_87 (fun cs hcs r pvv87 H locs hca hW hS => ?_)
                rcases List.mem_cons.mp hcs with rfl | hcs
                · obtain ⟨hr, hq, hc⟩ := hca
                  obtain rfl := hr_rv0 hr
                  have hp := hr_std hp hc (by decide +kernel)
                  have sm : ∀ j, j < 32 → j ∉ [13, 14, 24, 31] → pvv87 j = pvv j := fun j h1 h2 => (hr_sameX (l := [13, 14, 24, 31]) hc (by decide +kernel) j h1 h2).trans (sm j h1 h2)
                  refine hr_ic hx hb dX12_behind_90 (by decide) (fun z90 hz90 => ?_)
                  exact hr_zret B hb rfl ⟨by omega, by omega⟩ ⟨hp, sm, z90, rfl, C83, rfl, kf, Or.inr ⟨by omega, kI, by omega, by omega⟩⟩ hW hS dX12_behind_91
                rcases List.mem_cons.mp hcs with rfl | hcs
                · obtain ⟨hr, hq, hc⟩ := hca
                  obtain rfl := hr_rv0 hr
                  have hp := hr_std hp hc (by decide +kernel)
                  have sm : ∀ j, j < 32 → j ∉ [13, 14, 24, 31] → pvv87 j = pvv j := fun j h1 h2 => (hr_sameX (l := [13, 14, 24, 31]) hc (by decide +kernel) j h1 h2).trans (sm j h1 h2)
                  refine hr_ic hx hb dX12_behind_90 (by decide) (fun z90 hz90 => ?_)
                  exact hr_zret B hb rfl ⟨by omega, by omega⟩ ⟨hp, sm, z90, rfl, C83, rfl, kf, Or.inr ⟨by omega, kI, by omega, by omega⟩⟩ hW hS dX12_behind_91
                rcases List.mem_cons.mp hcs with rfl | hcs
                · obtain ⟨hr, hq, hc⟩ := hca
                  obtain rfl := hr_rv0 hr
                  have hp := hr_std hp hc (by decide +kernel)
                  have sm : ∀ j, j < 32 → j ∉ [13, 14, 24, 31] → pvv87 j = pvv j := fun j h1 h2 => (hr_sameX (l := [13, 14, 24, 31]) hc (by decide +kernel) j h1 h2).trans (sm j h1 h2)
                  refine hr_ic hx hb dX12_behind_90 (by decide) (fun z90 hz90 => ?_)
                  exact hr_zret B hb rfl ⟨by omega, by omega⟩ ⟨hp, sm, z90, rfl, C83, rfl, kf, Or.inr ⟨by omega, kI, by omega, by omega⟩⟩ hW hS dX12_behind_91
                obtain rfl := List.mem_singleton.mp hcs
                obtain ⟨hr, hq, hc⟩ := hca
                obtain rfl := hr_rv0 hr
                have hp := hr_std hp hc (by decide +kernel)
                have sm : ∀ j, j < 32 → j ∉ [13, 14, 24, 31] → pvv87 j = pvv j := fun j h1 h2 => (hr_sameX (l := [13, 14, 24, 31]) hc (by decide +kernel) j h1 h2).trans (sm j h1 h2)
                refine hr_ic hx hb dX12_behind_90 (by decide) (fun z90 hz90 => ?_)
                exact hr_zret B hb rfl ⟨by omega, by omega⟩ ⟨hp, sm, z90, rfl, C83, rfl, kf, Or.inr ⟨by omega, kI, by omega, by omega⟩⟩ hW hS dX12_behind_91
              · omega
            obtain rfl := List.mem_singleton.mp hcs
            obtain ⟨hr, hq, hc⟩ := hca
            obtain ⟨z57, rfl, lz57, uz57⟩ := hr_rvI hr
            have hW := hr_pvE (hr_sameA hc rfl (by decide +kernel)) hW
            refine hr_eq0 (tgt := 68) hx hb dX12_behind_60 (by decide) (fun h60 => ?_) (fun h60 => ?_)
            · omega
            · refine hr_bp hx hb dX12_behind_63 (by decide) (by decide) (fun z63 hz63 => ?_)
              refine lv_goto (tgt := 70) hx hb dX12_behind_65 (by decide) ?_
              refine hr_iastN B hb hU hW hS tz46 rfl (by omega) (by omega) ⟨ck_lo _, ck_hi _⟩ (tk_EA tz46 (fun a h => hun 43 (by decide) _ _ tz46 h)) (u := 0) (v := 44) (by omega) (by omega) (by decide) dX12_behind_70 (fun H locs hW hS => ?_)
              obtain ⟨C70, c70⟩ : ∃ f, f = tk_upd C42 43 (z50.toInt.toNat) z63 := ⟨_, rfl⟩
              rw [← c70] at hW
              refine lv_aload_n hx hb dX12_behind_71 rfl (lv_at hl 0 rfl) ?_
              refine lv_dup hx hb dX12_behind_72 rfl ?_
              refine hr_getI B hF hb hW (ci := 12) (j := 47) (cd := 0) t0 rfl (isF (by decide +kernel)) rfl dX12_behind_73 (fun z73 lz73 uz73 pz73 xz73 => ?_)
              have xz73 := tk_xo xz73 (fun _ h => h) (pq := ck_prot1) (C := C70) t0 (by decide); have kz73 := congrArg Int32.toInt xz73
              have e73 : z73.toInt = (C42 12 47).toInt := by rw [kz73, c70, tk_unt (by decide)]
              refine hr_ic hx hb dX12_behind_76 (by decide) (fun z76 hz76 => ?_)
              refine hr_add hx hb dX12_behind_77 (by omega) (by omega) (fun z77 hz77 => ?_)
              refine hr_putN B hF hb hU hW hS (ci := 12) (j := 47) (cd := 0) t0 rfl (isF (by decide +kernel)) rfl (by omega) (by omega) (Or.inl rfl) (tk_EO t0 (fun a h => hun 12 (by decide) _ _ t0 h) (by decide)) (by decide) dX12_behind_78 (fun H locs hW hS => ?_)
              obtain ⟨C78, c78⟩ : ∃ f, f = tk_upd C70 12 (47) z77 := ⟨_, rfl⟩
              rw [← c78] at hW
              refine lv_aload_n hx hb dX12_behind_81 rfl (lv_at hl 0 rfl) ?_
              refine hr_ic hx hb dX12_behind_82 (by decide) (fun z82 hz82 => ?_)
              refine hr_putN B hF hb hU hW hS (ci := 12) (j := 49) (cd := 1) t0 rfl (isF (by decide +kernel)) rfl (by omega) (by omega) (Or.inr ⟨rfl, by omega, by omega⟩) (tk_EO t0 (fun a h => hun 12 (by decide) _ _ t0 h) (by decide)) (by decide) dX12_behind_83 (fun H locs hW hS => ?_)
              obtain ⟨C83, c83⟩ : ∃ f, f = tk_upd C78 12 (49) z82 := ⟨_, rfl⟩
              rw [← c83] at hW
              have k1 : (C83 12 47).toInt = (C42 12 47).toInt + 1 := by rw [c83, tk_unj (by decide), c78, tk_us]; omega
              have k2 : (C83 12 46).toInt = (C42 12 46).toInt := by rw [c83, tk_unj (by decide), c78, tk_unj (by decide), c70, tk_unt (by decide)]
              have k3 : (C83 12 49).toInt = 0 := by rw [c83, tk_us]; omega
              have k6 : C83 12 45 = C42 12 45 := by rw [c83, tk_unj (by decide), c78, tk_unj (by decide), c70, tk_unt (by decide)]
              have k4 : ∀ j, j ≠ z50.toInt.toNat → C83 43 j = C42 43 j := fun j hj => by rw [c83, tk_unt (by decide), c78, tk_unt (by decide), c70, tk_unj hj]
              have k4s : (C83 43 z50.toInt.toNat).toInt = z63.toInt := by rw [c83, tk_unt (by decide), c78, tk_unt (by decide), c70, tk_us]
              have k5 : rf C83 = rf C42 := rf_co k6 (fun j => by rw [c83, tk_unt (by decide), c78, tk_unt (by decide), c70, tk_unt (by decide)])
              have k7 : (C83 12 45).toInt = (C42 12 45).toInt := by rw [k6]
              have kI : SI C83 := by
                refine ⟨by omega, by omega, by omega, by omega, by omega, by omega, by rw [k5]; exact s7, ?_⟩
                rw [k5, k6, s8, show (C83 12 47).toInt.toNat = z50.toInt.toNat + 1 by omega, bn_y (by omega), bn_co (C := C42) (C' := C83) (fun j hj => k4 j (by omega)), show z50.toInt.toNat = (C42 12 47).toInt.toNat by omega]; omega
              have kf : sfr C C83 := sfr_tr f1 (sfr_tr f2 (fun t j h1 h2 h3 => by rw [c83, tk_un (fun q => h3 ⟨q.1, Or.inr (Or.inr (Or.inr q.2))⟩), c78, tk_un (fun q => h3 ⟨q.1, Or.inr (Or.inr (Or.inl q.2))⟩), c70, tk_unt h2]))
              refine lv_aload_n hx hb dX12_behind_86 rfl (lv_at hl 0 rfl) ?_
              refine cm_callV (kc := kc_209) B rfl hb hl (hM.1 _ _ 0 [209] (isM (by decide +kernel)) 209 (by decide)) (hH1 _ tk_X1 209 (by decide)) (b := a0) (As := []) ⟨hr_aR t0, True.intro⟩ hp hW hS rfl (by decide) (by decide) (Nat.le_of_ble_eq_true rfl) dX12_behind_87 (fun cs hcs r pvv87 H locs hca hW hS => ?_)
              rcases List.mem_cons.mp hcs with rfl | hcs
              · obtain ⟨hr, hq, hc⟩ := hca
                obtain rfl := hr_rv0 hr
                have hp := hr_std hp hc (by decide +kernel)
                have sm : ∀ j, j < 32 → j ∉ [13, 14, 24, 31] → pvv87 j = pvv j := fun j h1 h2 => (hr_sameX (l := [13, 14, 24, 31]) hc (by decide +kernel) j h1 h2).trans (sm j h1 h2)
                refine hr_ic hx hb dX12_behind_90 (by decide) (fun z90 hz90 => ?_)
                exact hr_zret B hb rfl ⟨by omega, by omega⟩ ⟨hp, sm, z90, rfl, C83, rfl, kf, Or.inr ⟨by omega, kI, by omega, by omega⟩⟩ hW hS dX12_behind_91
              rcases List.mem_cons.mp hcs with rfl | hcs
              · obtain ⟨hr, hq, hc⟩ := hca
                obtain rfl := hr_rv0 hr
                have hp := hr_std hp hc (by decide +kernel)
                have sm : ∀ j, j < 32 → j ∉ [13, 14, 24, 31] → pvv87 j = pvv j := fun j h1 h2 => (hr_sameX (l := [13, 14, 24, 31]) hc (by decide +kernel) j h1 h2).trans (sm j h1 h2)
                refine hr_ic hx hb dX12_behind_90 (by decide) (fun z90 hz90 => ?_)
                exact hr_zret B hb rfl ⟨by omega, by omega⟩ ⟨hp, sm, z90, rfl, C83, rfl, kf, Or.inr ⟨by omega, kI, by omega, by omega⟩⟩ hW hS dX12_behind_91
              rcases List.mem_cons.mp hcs with rfl | hcs
              · obtain ⟨hr, hq, hc⟩ := hca
                obtain rfl := hr_rv0 hr
                have hp := hr_std hp hc (by decide +kernel)
                have sm : ∀ j, j < 32 → j ∉ [13, 14, 24, 31] → pvv87 j = pvv j := fun j h1 h2 => (hr_sameX (l := [13, 14, 24, 31]) hc (by decide +kernel) j h1 h2).trans (sm j h1 h2)
                refine hr_ic hx hb dX12_behind_90 (by decide) (fun z90 hz90 => ?_)
                exact hr_zret B hb rfl ⟨by omega, by omega⟩ ⟨hp, sm, z90, rfl, C83, rfl, kf, Or.inr ⟨by omega, kI, by omega, by omega⟩⟩ hW hS dX12_behind_91
              obtain rfl := List.mem_singleton.mp hcs
              obtain ⟨hr, hq, hc⟩ := hca
              obtain rfl := hr_rv0 hr
              have hp := hr_std hp hc (by decide +kernel)
              have sm : ∀ j, j < 32 → j ∉ [13, 14, 24, 31] → pvv87 j = pvv j := fun j h1 h2 => (hr_sameX (l := [13, 14, 24, 31]) hc (by decide +kernel) j h1 h2).trans (sm j h1 h2)
              refine hr_ic hx hb dX12_behind_90 (by decide) (fun z90 hz90 => ?_)
              exact hr_zret B hb rfl ⟨by omega, by omega⟩ ⟨hp, sm, z90, rfl, C83, rfl, kf, Or.inr ⟨by omega, kI, by omega, by omega⟩⟩ hW hS dX12_behind_91
          · omega
        obtain rfl := List.mem_singleton.mp hcs
        obtain ⟨hr, hq, hc⟩ := hca
        obtain ⟨z29, rfl, lz29, uz29⟩ := hr_rvI hr
        have hW := hr_pvE (hr_sameA hc rfl (by decide +kernel)) hW
        refine hr_eq0 (tgt := 40) hx hb dX12_behind_32 (by decide) (fun h32 => ?_) (fun h32 => ?_)
        · omega
        · refine hr_bp hx hb dX12_behind_35 (by decide) (by decide) (fun z35 hz35 => ?_)
          refine lv_goto (tgt := 42) hx hb dX12_behind_37 (by decide) ?_
          refine hr_callV (kc := kh_12_joins) B rfl hb hl (hMh _ (List.mem_of_getElem? (i := 13) rfl)) (b := a0) (As := [.int z35]) (hs_joins hF hC hM hMh hU hun hH1 t0 I1 w1) ⟨hr_aR t0, hr_aF, True.intro⟩ hW hS rfl (by decide) (by decide) (Nat.le_of_ble_eq_true rfl) dX12_behind_42 (fun r pvv42 E42 H locs hpost hW hS => ?_)
          obtain ⟨rfl, ep, C42, rfl, I2, f2, w2, o2, p2, -⟩ := hpost
          rw [ep] at hW
          obtain ⟨s1, s2, s3, s4, s5, s6, s7, s8⟩ := id I2
          refine lv_aload_n hx hb dX12_behind_45 rfl (lv_at hl 0 rfl) ?_
          refine hr_getR B hF hb hW (ci := 12) (j := 44) (cd := 3) t0 rfl (isF (by decide +kernel)) rfl dX12_behind_46 (fun az46 tz46 xz46 => ?_)
          refine lv_aload_n hx hb dX12_behind_49 rfl (lv_at hl 0 rfl) ?_
          refine hr_getI B hF hb hW (ci := 12) (j := 47) (cd := 0) t0 rfl (isF (by decide +kernel)) rfl dX12_behind_50 (fun z50 lz50 uz50 pz50 xz50 => ?_)
          have xz50 := tk_xo xz50 (fun _ h => h) (pq := ck_prot1) (C := C42) t0 (by decide); have kz50 := congrArg Int32.toInt xz50
          refine lv_aload_n hx hb dX12_behind_53 rfl (lv_at hl 0 rfl) ?_
          refine hr_ldc2 B hC hb (isL (by decide +kernel)) dX12_behind_54 (fun z54 => ?_)
          refine cm_callV (kc := kc_211) B rfl hb hl (hM.1 _ _ 0 [211] (isM (by decide +kernel)) 211 (by decide)) (hH1 _ tk_X1 211 (by decide)) (b := a0) (As := [.long z54]) ⟨hr_aR t0, hr_aL, True.intro⟩ hp hW hS rfl (by decide) (by decide) (Nat.le_of_ble_eq_true rfl) dX12_behind_57 (fun cs hcs r pvv57 H locs hca hW hS => ?_)
          rcases List.mem_cons.mp hcs with rfl | hcs
          · obtain ⟨hr, hq, hc⟩ := hca
            obtain ⟨z57, rfl, lz57, uz57⟩ := hr_rvI hr
            have hW := hr_pvE (hr_sameA hc rfl (by decide +kernel)) hW
            refine hr_eq0 (tgt := 68) hx hb dX12_behind_60 (by decide) (fun h60 => ?_) (fun h60 => ?_)
            · refine hr_bp hx hb dX12_behind_68 (by decide) (by decide) (fun z68 hz68 => ?_)
              refine hr_iastN B hb hU hW hS tz46 rfl (by omega) (by omega) ⟨ck_lo _, ck_hi _⟩ (tk_EA tz46 (fun a h => hun 43 (by decide) _ _ tz46 h)) (u := 0) (v := 44) (by omega) (by omega) (by decide) dX12_behind_70 (fun H locs hW hS => ?_)
              obtain ⟨C70, c70⟩ : ∃ f, f = tk_upd C42 43 (z50.toInt.toNat) z68 := ⟨_, rfl⟩
              rw [← c70] at hW
              refine lv_aload_n hx hb dX12_behind_71 rfl (lv_at hl 0 rfl) ?_
              refine lv_dup hx hb dX12_behind_72 rfl ?_
              refine hr_getI B hF hb hW (ci := 12) (j := 47) (cd := 0) t0 rfl (isF (by decide +kernel)) rfl dX12_behind_73 (fun z73 lz73 uz73 pz73 xz73 => ?_)
              have xz73 := tk_xo xz73 (fun _ h => h) (pq := ck_prot1) (C := C70) t0 (by decide); have kz73 := congrArg Int32.toInt xz73
              have e73 : z73.toInt = (C42 12 47).toInt := by rw [kz73, c70, tk_unt (by decide)]
              refine hr_ic hx hb dX12_behind_76 (by decide) (fun z76 hz76 => ?_)
              refine hr_add hx hb dX12_behind_77 (by omega) (by omega) (fun z77 hz77 => ?_)
              refine hr_putN B hF hb hU hW hS (ci := 12) (j := 47) (cd := 0) t0 rfl (isF (by decide +kernel)) rfl (by omega) (by omega) (Or.inl rfl) (tk_EO t0 (fun a h => hun 12 (by decide) _ _ t0 h) (by decide)) (by decide) dX12_behind_78 (fun H locs hW hS => ?_)
              obtain ⟨C78, c78⟩ : ∃ f, f = tk_upd C70 12 (47) z77 := ⟨_, rfl⟩
              rw [← c78] at hW
              refine lv_aload_n hx hb dX12_behind_81 rfl (lv_at hl 0 rfl) ?_
              refine hr_ic hx hb dX12_behind_82 (by decide) (fun z82 hz82 => ?_)
              refine hr_putN B hF hb hU hW hS (ci := 12) (j := 49) (cd := 1) t0 rfl (isF (by decide +kernel)) rfl (by omega) (by omega) (Or.inr ⟨rfl, by omega, by omega⟩) (tk_EO t0 (fun a h => hun 12 (by decide) _ _ t0 h) (by decide)) (by decide) dX12_behind_83 (fun H locs hW hS => ?_)
              obtain ⟨C83, c83⟩ : ∃ f, f = tk_upd C78 12 (49) z82 := ⟨_, rfl⟩
              rw [← c83] at hW
              have k1 : (C83 12 47).toInt = (C42 12 47).toInt + 1 := by rw [c83, tk_unj (by decide), c78, tk_us]; omega
              have k2 : (C83 12 46).toInt = (C42 12 46).toInt := by rw [c83, tk_unj (by decide), c78, tk_unj (by decide), c70, tk_unt (by decide)]
              have k3 : (C83 12 49).toInt = 0 := by rw [c83, tk_us]; omega
              have k6 : C83 12 45 = C42 12 45 := by rw [c83, tk_unj (by decide), c78, tk_unj (by decide), c70, tk_unt (by decide)]
              have k4 : ∀ j, j ≠ z50.toInt.toNat → C83 43 j = C42 43 j := fun j hj => by rw [c83, tk_unt (by decide), c78, tk_unt (by decide), c70, tk_unj hj]
              have k4s : (C83 43 z50.toInt.toNat).toInt = z68.toInt := by rw [c83, tk_unt (by decide), c78, tk_unt (by decide), c70, tk_us]
              have k5 : rf C83 = rf C42 := rf_co k6 (fun j => by rw [c83, tk_unt (by decide), c78, tk_unt (by decide), c70, tk_unt (by decide)])
              have k7 : (C83 12 45).toInt = (C42 12 45).toInt := by rw [k6]
              have kI : SI C83 := by
                refine ⟨by omega, by omega, by omega, by omega, by omega, by omega, by rw [k5]; exact s7, ?_⟩
                rw [k5, k6, s8, show (C83 12 47).toInt.toNat = z50.toInt.toNat + 1 by omega, bn_y (by omega), bn_co (C := C42) (C' := C83) (fun j hj => k4 j (by omega)), show z50.toInt.toNat = (C42 12 47).toInt.toNat by omega]; omega
              have kf : sfr C C83 := sfr_tr f1 (sfr_tr f2 (fun t j h1 h2 h3 => by rw [c83, tk_un (fun q => h3 ⟨q.1, Or.inr (Or.inr (Or.inr q.2))⟩), c78, tk_un (fun q => h3 ⟨q.1, Or.inr (Or.inr (Or.inl q.2))⟩), c70, tk_unt h2]))
              refine lv_aload_n hx hb dX12_behind_86 rfl (lv_at hl 0 rfl) ?_
              refine cm_callV (kc := kc_209) B rfl hb hl (hM.1 _ _ 0 [209] (isM (by decide +kernel)) 209 (by decide)) (hH1 _ tk_X1 209 (by decide)) (b := a0) (As := []) ⟨hr_aR t0, True.intro⟩ hp hW hS rfl (by decide) (by decide) (Nat.le_of_ble_eq_true rfl) dX12_behind_87 (fun cs hcs r pvv87 H locs hca hW hS => ?_)
              rcases List.mem_cons.mp hcs with rfl | hcs
              · obtain ⟨hr, hq, hc⟩ := hca
                obtain rfl := hr_rv0 hr
                have hp := hr_std hp hc (by decide +kernel)
                have sm : ∀ j, j < 32 → j ∉ [13, 14, 24, 31] → pvv87 j = pvv j := fun j h1 h2 => (hr_sameX (l := [13, 14, 24, 31]) hc (by decide +kernel) j h1 h2).trans (sm j h1 h2)
                refine hr_ic hx hb dX12_behind_90 (by decide) (fun z90 hz90 => ?_)
                exact hr_zret B hb rfl ⟨by omega, by omega⟩ ⟨hp, sm, z90, rfl, C83, rfl, kf, Or.inr ⟨by omega, kI, by omega, by omega⟩⟩ hW hS dX12_behind_91
              rcases List.mem_cons.mp hcs with rfl | hcs
              · obtain ⟨hr, hq, hc⟩ := hca
                obtain rfl := hr_rv0 hr
                have hp := hr_std hp hc (by decide +kernel)
                have sm : ∀ j, j < 32 → j ∉ [13, 14, 24, 31] → pvv87 j = pvv j := fun j h1 h2 => (hr_sameX (l := [13, 14, 24, 31]) hc (by decide +kernel) j h1 h2).trans (sm j h1 h2)
                refine hr_ic hx hb dX12_behind_90 (by decide) (fun z90 hz90 => ?_)
                exact hr_zret B hb rfl ⟨by omega, by omega⟩ ⟨hp, sm, z90, rfl, C83, rfl, kf, Or.inr ⟨by omega, kI, by omega, by omega⟩⟩ hW hS dX12_behind_91
              rcases List.mem_cons.mp hcs with rfl | hcs
              · obtain ⟨hr, hq, hc⟩ := hca
                obtain rfl := hr_rv0 hr
                have hp := hr_std hp hc (by decide +kernel)
                have sm : ∀ j, j < 32 → j ∉ [13, 14, 24, 31] → pvv87 j = pvv j := fun j h1 h2 => (hr_sameX (l := [13, 14, 24, 31]) hc (by decide +kernel) j h1 h2).trans (sm j h1 h2)
                refine hr_ic hx hb dX12_behind_90 (by decide) (fun z90 hz90 => ?_)
                exact hr_zret B hb rfl ⟨by omega, by omega⟩ ⟨hp, sm, z90, rfl, C83, rfl, kf, Or.inr ⟨by omega, kI, by omega, by omega⟩⟩ hW hS dX12_behind_91
              obtain rfl := List.mem_singleton.mp hcs
              obtain ⟨hr, hq, hc⟩ := hca
              obtain rfl := hr_rv0 hr
              have hp := hr_std hp hc (by decide +kernel)
              have sm : ∀ j, j < 32 → j ∉ [13, 14, 24, 31] → pvv87 j = pvv j := fun j h1 h2 => (hr_sameX (l := [13, 14, 24, 31]) hc (by decide +kernel) j h1 h2).trans (sm j h1 h2)
              refine hr_ic hx hb dX12_behind_90 (by decide) (fun z90 hz90 => ?_)
              exact hr_zret B hb rfl ⟨by omega, by omega⟩ ⟨hp, sm, z90, rfl, C83, rfl, kf, Or.inr ⟨by omega, kI, by omega, by omega⟩⟩ hW hS dX12_behind_91
            · omega
          obtain rfl := List.mem_singleton.mp hcs
          obtain ⟨hr, hq, hc⟩ := hca
          obtain ⟨z57, rfl, lz57, uz57⟩ := hr_rvI hr
          have hW := hr_pvE (hr_sameA hc rfl (by decide +kernel)) hW
          refine hr_eq0 (tgt := 68) hx hb dX12_behind_60 (by decide) (fun h60 => ?_) (fun h60 => ?_)
          · omega
          · refine hr_bp hx hb dX12_behind_63 (by decide) (by decide) (fun z63 hz63 => ?_)
            refine lv_goto (tgt := 70) hx hb dX12_behind_65 (by decide) ?_
            refine hr_iastN B hb hU hW hS tz46 rfl (by omega) (by omega) ⟨ck_lo _, ck_hi _⟩ (tk_EA tz46 (fun a h => hun 43 (by decide) _ _ tz46 h)) (u := 0) (v := 44) (by omega) (by omega) (by decide) dX12_behind_70 (fun H locs hW hS => ?_)
            obtain ⟨C70, c70⟩ : ∃ f, f = tk_upd C42 43 (z50.toInt.toNat) z63 := ⟨_, rfl⟩
            rw [← c70] at hW
            refine lv_aload_n hx hb dX12_behind_71 rfl (lv_at hl 0 rfl) ?_
            refine lv_dup hx hb dX12_behind_72 rfl ?_
            refine hr_getI B hF hb hW (ci := 12) (j := 47) (cd := 0) t0 rfl (isF (by decide +kernel)) rfl dX12_behind_73 (fun z73 lz73 uz73 pz73 xz73 => ?_)
            have xz73 := tk_xo xz73 (fun _ h => h) (pq := ck_prot1) (C := C70) t0 (by decide); have kz73 := congrArg Int32.toInt xz73
            have e73 : z73.toInt = (C42 12 47).toInt := by rw [kz73, c70, tk_unt (by decide)]
            refine hr_ic hx hb dX12_behind_76 (by decide) (fun z76 hz76 => ?_)
            refine hr_add hx hb dX12_behind_77 (by omega) (by omega) (fun z77 hz77 => ?_)
            refine hr_putN B hF hb hU hW hS (ci := 12) (j := 47) (cd := 0) t0 rfl (isF (by decide +kernel)) rfl (by omega) (by omega) (Or.inl rfl) (tk_EO t0 (fun a h => hun 12 (by decide) _ _ t0 h) (by decide)) (by decide) dX12_behind_78 (fun H locs hW hS => ?_)
            obtain ⟨C78, c78⟩ : ∃ f, f = tk_upd C70 12 (47) z77 := ⟨_, rfl⟩
            rw [← c78] at hW
            refine lv_aload_n hx hb dX12_behind_81 rfl (lv_at hl 0 rfl) ?_
            refine hr_ic hx hb dX12_behind_82 (by decide) (fun z82 hz82 => ?_)
            refine hr_putN B hF hb hU hW hS (ci := 12) (j := 49) (cd := 1) t0 rfl (isF (by decide +kernel)) rfl (by omega) (by omega) (Or.inr ⟨rfl, by omega, by omega⟩) (tk_EO t0 (fun a h => hun 12 (by decide) _ _ t0 h) (by decide)) (by decide) dX12_behind_83 (fun H locs hW hS => ?_)
            obtain ⟨C83, c83⟩ : ∃ f, f = tk_upd C78 12 (49) z82 := ⟨_, rfl⟩
            rw [← c83] at hW
            have k1 : (C83 12 47).toInt = (C42 12 47).toInt + 1 := by rw [c83, tk_unj (by decide), c78, tk_us]; omega
            have k2 : (C83 12 46).toInt = (C42 12 46).toInt := by rw [c83, tk_unj (by decide), c78, tk_unj (by decide), c70, tk_unt (by decide)]
            have k3 : (C83 12 49).toInt = 0 := by rw [c83, tk_us]; omega
            have k6 : C83 12 45 = C42 12 45 := by rw [c83, tk_unj (by decide), c78, tk_unj (by decide), c70, tk_unt (by decide)]
            have k4 : ∀ j, j ≠ z50.toInt.toNat → C83 43 j = C42 43 j := fun j hj => by rw [c83, tk_unt (by decide), c78, tk_unt (by decide), c70, tk_unj hj]
            have k4s : (C83 43 z50.toInt.toNat).toInt = z63.toInt := by rw [c83, tk_unt (by decide), c78, tk_unt (by decide), c70, tk_us]
            have k5 : rf C83 = rf C42 := rf_co k6 (fun j => by rw [c83, tk_unt (by decide), c78, tk_unt (by decide), c70, tk_unt (by decide)])
            have k7 : (C83 12 45).toInt = (C42 12 45).toInt := by rw [k6]
            have kI : SI C83 := by
              refine ⟨by omega, by omega, by omega, by omega, by omega, by omega, by rw [k5]; exact s7, ?_⟩
              rw [k5, k6, s8, show (C83 12 47).toInt.toNat = z50.toInt.toNat + 1 by omega, bn_y (by omega), bn_co (C := C42) (C' := C83) (fun j hj => k4 j (by omega)), show z50.toInt.toNat = (C42 12 47).toInt.toNat by omega]; omega
            have kf : sfr C C83 := sfr_tr f1 (sfr_tr f2 (fun t j h1 h2 h3 => by rw [c83, tk_un (fun q => h3 ⟨q.1, Or.inr (Or.inr (Or.inr q.2))⟩), c78, tk_un (fun q => h3 ⟨q.1, Or.inr (Or.inr (Or.inl q.2))⟩), c70, tk_unt h2]))
            refine lv_aload_n hx hb dX12_behind_86 rfl (lv_at hl 0 rfl) ?_
            refine cm_callV (kc := kc_209) B rfl hb hl (hM.1 _ _ 0 [209] (isM (by decide +kernel)) 209 (by decide)) (hH1 _ tk_X1 209 (by decide)) (b := a0) (As := []) ⟨hr_aR t0, True.intro⟩ hp hW hS rfl (by decide) (by decide) (Nat.le_of_ble_eq_true rfl) dX12_behind_87 (fun cs hcs r pvv87 H locs hca hW hS => ?_)
            rcases List.mem_cons.mp hcs with rfl | hcs
            · obtain ⟨hr, hq, hc⟩ := hca
              obtain rfl := hr_rv0 hr
              have hp := hr_std hp hc (by decide +kernel)
              have sm : ∀ j, j < 32 → j ∉ [13, 14, 24, 31] → pvv87 j = pvv j := fun j h1 h2 => (hr_sameX (l := [13, 14, 24, 31]) hc (by decide +kernel) j h1 h2).trans (sm j h1 h2)
              refine hr_ic hx hb dX12_behind_90 (by decide) (fun z90 hz90 => ?_)
              exact hr_zret B hb rfl ⟨by omega, by omega⟩ ⟨hp, sm, z90, rfl, C83, rfl, kf, Or.inr ⟨by omega, kI, by omega, by omega⟩⟩ hW hS dX12_behind_91
            rcases List.mem_cons.mp hcs with rfl | hcs
            · obtain ⟨hr, hq, hc⟩ := hca
              obtain rfl := hr_rv0 hr
              have hp := hr_std hp hc (by decide +kernel)
              have sm : ∀ j, j < 32 → j ∉ [13, 14, 24, 31] → pvv87 j = pvv j := fun j h1 h2 => (hr_sameX (l := [13, 14, 24, 31]) hc (by decide +kernel) j h1 h2).trans (sm j h1 h2)
              refine hr_ic hx hb dX12_behind_90 (by decide) (fun z90 hz90 => ?_)
              exact hr_zret B hb rfl ⟨by omega, by omega⟩ ⟨hp, sm, z90, rfl, C83, rfl, kf, Or.inr ⟨by omega, kI, by omega, by omega⟩⟩ hW hS dX12_behind_91
            rcases List.mem_cons.mp hcs with rfl | hcs
            · obtain ⟨hr, hq, hc⟩ := hca
              obtain rfl := hr_rv0 hr
              have hp := hr_std hp hc (by decide +kernel)
              have sm : ∀ j, j < 32 → j ∉ [13, 14, 24, 31] → pvv87 j = pvv j := fun j h1 h2 => (hr_sameX (l := [13, 14, 24, 31]) hc (by decide +kernel) j h1 h2).trans (sm j h1 h2)
              refine hr_ic hx hb dX12_behind_90 (by decide) (fun z90 hz90 => ?_)
              exact hr_zret B hb rfl ⟨by omega, by omega⟩ ⟨hp, sm, z90, rfl, C83, rfl, kf, Or.inr ⟨by omega, kI, by omega, by omega⟩⟩ hW hS dX12_behind_91
            obtain rfl := List.mem_singleton.mp hcs
            obtain ⟨hr, hq, hc⟩ := hca
            obtain rfl := hr_rv0 hr
            have hp := hr_std hp hc (by decide +kernel)
            have sm : ∀ j, j < 32 → j ∉ [13, 14, 24, 31] → pvv87 j = pvv j := fun j h1 h2 => (hr_sameX (l := [13, 14, 24, 31]) hc (by decide +kernel) j h1 h2).trans (sm j h1 h2)
            refine hr_ic hx hb dX12_behind_90 (by decide) (fun z90 hz90 => ?_)
            exact hr_zret B hb rfl ⟨by omega, by omega⟩ ⟨hp, sm, z90, rfl, C83, rfl, kf, Or.inr ⟨by omega, kI, by omega, by omega⟩⟩ hW hS dX12_behind_91
  obtain rfl := List.mem_singleton.mp hcs
  obtain ⟨hr, hq, hc⟩ := hca
  obtain ⟨z8, rfl, lz8, uz8⟩ := hr_rvI hr
  have hW := hr_pvE (hr_sameA hc rfl (by decide +kernel)) hW
  refine hr_ne0 (tgt := 24) hx hb dX12_behind_11 (by decide) (fun h11 => ?_) (fun h11 => ?_)
  · refine lv_aload_n hx hb dX12_behind_24 rfl (lv_at hl 0 rfl) ?_
    refine lv_aload_n hx hb dX12_behind_25 rfl (lv_at hl 0 rfl) ?_
    refine hr_ldc2 B hC hb (isL (by decide +kernel)) dX12_behind_26 (fun z26 => ?_)
    refine cm_callV (kc := kc_211) B rfl hb hl (hM.1 _ _ 0 [211] (isM (by decide +kernel)) 211 (by decide)) (hH1 _ tk_X1 211 (by decide)) (b := a0) (As := [.long z26]) ⟨hr_aR t0, hr_aL, True.intro⟩ hp hW hS rfl (by decide) (by decide) (Nat.le_of_ble_eq_true rfl) dX12_behind_29 (fun cs hcs r pvv29 H locs hca hW hS => ?_)
    rcases List.mem_cons.mp hcs with rfl | hcs
    · obtain ⟨hr, hq, hc⟩ := hca
      obtain ⟨z29, rfl, lz29, uz29⟩ := hr_rvI hr
      have hW := hr_pvE (hr_sameA hc rfl (by decide +kernel)) hW
      refine hr_eq0 (tgt := 40) hx hb dX12_behind_32 (by decide) (fun h32 => ?_) (fun h32 => ?_)
      · refine hr_bp hx hb dX12_behind_40 (by decide) (by decide) (fun z40 hz40 => ?_)
        refine hr_callV (kc := kh_12_joins) B rfl hb hl (hMh _ (List.mem_of_getElem? (i := 13) rfl)) (b := a0) (As := [.int z40]) (hs_joins hF hC hM hMh hU hun hH1 t0 I1 w1) ⟨hr_aR t0, hr_aF, True.intro⟩ hW hS rfl (by decide) (by decide) (Nat.le_of_ble_eq_true rfl) dX12_behind_42 (fun r pvv42 E42 H locs hpost hW hS => ?_)
        obtain ⟨rfl, ep, C42, rfl, I2, f2, w2, o2, p2, -⟩ := hpost
        rw [ep] at hW
        obtain ⟨s1, s2, s3, s4, s5, s6, s7, s8⟩ := id I2
        refine lv_aload_n hx hb dX12_behind_45 rfl (lv_at hl 0 rfl) ?_
        refine hr_getR B hF hb hW (ci := 12) (j := 44) (cd := 3) t0 rfl (isF (by decide +kernel)) rfl dX12_behind_46 (fun az46 tz46 xz46 => ?_)
        refine lv_aload_n hx hb dX12_behind_49 rfl (lv_at hl 0 rfl) ?_
        refine hr_getI B hF hb hW (ci := 12) (j := 47) (cd := 0) t0 rfl (isF (by decide +kernel)) rfl dX12_behind_50 (fun z50 lz50 uz50 pz50 xz50 => ?_)
        have xz50 := tk_xo xz50 (fun _ h => h) (pq := ck_prot1) (C := C42) t0 (by decide); have kz50 := congrArg Int32.toInt xz50
        refine lv_aload_n hx hb dX12_behind_53 rfl (lv_at hl 0 rfl) ?_
        refine hr_ldc2 B hC hb (isL (by decide +kernel)) dX12_behind_54 (fun z54 => ?_)
        refine cm_callV (kc := kc_211) B rfl hb hl (hM.1 _ _ 0 [211] (isM (by decide +kernel)) 211 (by decide)) (hH1 _ tk_X1 211 (by decide)) (b := a0) (As := [.long z54]) ⟨hr_aR t0, hr_aL, True.intro⟩ hp hW hS rfl (by decide) (by decide) (Nat.le_of_ble_eq_true rfl) dX12_behind_57 (fun cs hcs r pvv57 H locs hca hW hS => ?_)
        rcases List.mem_cons.mp hcs with rfl | hcs
        · obtain ⟨hr, hq, hc⟩ := hca
          obtain ⟨z57, rfl, lz57, uz57⟩ := hr_rvI hr
          have hW := hr_pvE (hr_sameA hc rfl (by decide +kernel)) hW
          refine hr_eq0 (tgt := 68) hx hb dX12_behind_60 (by decide) (fun h60 => ?_) (fun h60 => ?_)
          · refine hr_bp hx hb dX12_behind_68 (by decide) (by decide) (fun z68 hz68 => ?_)
            refine hr_iastN B hb hU hW hS tz46 rfl (by omega) (by omega) ⟨ck_lo _, ck_hi _⟩ (tk_EA tz46 (fun a h => hun 43 (by decide) _ _ tz46 h)) (u := 0) (v := 44) (by omega) (by omega) (by decide) dX12_behind_70 (fun H locs hW hS => ?_)
            obtain ⟨C70, c70⟩ : ∃ f, f = tk_upd C42 43 (z50.toInt.toNat) z68 := ⟨_, rfl⟩
            rw [← c70] at hW
            refine lv_aload_n hx hb dX12_behind_71 rfl (lv_at hl 0 rfl) ?_
            refine lv_dup hx hb dX12_behind_72 rfl ?_
            refine hr_getI B hF hb hW (ci := 12) (j := 47) (cd := 0) t0 rfl (isF (by decide +kernel)) rfl dX12_behind_73 (fun z73 lz73 uz73 pz73 xz73 => ?_)
            have xz73 := tk_xo xz73 (fun _ h => h) (pq := ck_prot1) (C := C70) t0 (by decide); have kz73 := congrArg Int32.toInt xz73
            have e73 : z73.toInt = (C42 12 47).toInt := by rw [kz73, c70, tk_unt (by decide)]
            refine hr_ic hx hb dX12_behind_76 (by decide) (fun z76 hz76 => ?_)
            refine hr_add hx hb dX12_behind_77 (by omega) (by omega) (fun z77 hz77 => ?_)
            refine hr_putN B hF hb hU hW hS (ci := 12) (j := 47) (cd := 0) t0 rfl (isF (by decide +kernel)) rfl (by omega) (by omega) (Or.inl rfl) (tk_EO t0 (fun a h => hun 12 (by decide) _ _ t0 h) (by decide)) (by decide) dX12_behind_78 (fun H locs hW hS => ?_)
            obtain ⟨C78, c78⟩ : ∃ f, f = tk_upd C70 12 (47) z77 := ⟨_, rfl⟩
            rw [← c78] at hW
            refine lv_aload_n hx hb dX12_behind_81 rfl (lv_at hl 0 rfl) ?_
            refine hr_ic hx hb dX12_behind_82 (by decide) (fun z82 hz82 => ?_)
            refine hr_putN B hF hb hU hW hS (ci := 12) (j := 49) (cd := 1) t0 rfl (isF (by decide +kernel)) rfl (by omega) (by omega) (Or.inr ⟨rfl, by omega, by omega⟩) (tk_EO t0 (fun a h => hun 12 (by decide) _ _ t0 h) (by decide)) (by decide) dX12_behind_83 (fun H locs hW hS => ?_)
            obtain ⟨C83, c83⟩ : ∃ f, f = tk_upd C78 12 (49) z82 := ⟨_, rfl⟩
            rw [← c83] at hW
            have k1 : (C83 12 47).toInt = (C42 12 47).toInt + 1 := by rw [c83, tk_unj (by decide), c78, tk_us]; omega
            have k2 : (C83 12 46).toInt = (C42 12 46).toInt := by rw [c83, tk_unj (by decide), c78, tk_unj (by decide), c70, tk_unt (by decide)]
            have k3 : (C83 12 49).toInt = 0 := by rw [c83, tk_us]; omega
            have k6 : C83 12 45 = C42 12 45 := by rw [c83, tk_unj (by decide), c78, tk_unj (by decide), c70, tk_unt (by decide)]
            have k4 : ∀ j, j ≠ z50.toInt.toNat → C83 43 j = C42 43 j := fun j hj => by rw [c83, tk_unt (by decide), c78, tk_unt (by decide), c70, tk_unj hj]
            have k4s : (C83 43 z50.toInt.toNat).toInt = z68.toInt := by rw [c83, tk_unt (by decide), c78, tk_unt (by decide), c70, tk_us]
            have k5 : rf C83 = rf C42 := rf_co k6 (fun j => by rw [c83, tk_unt (by decide), c78, tk_unt (by decide), c70, tk_unt (by decide)])
            have k7 : (C83 12 45).toInt = (C42 12 45).toInt := by rw [k6]
            have kI : SI C83 := by
              refine ⟨by omega, by omega, by omega, by omega, by omega, by omega, by rw [k5]; exact s7, ?_⟩
              rw [k5, k6, s8, show (C83 12 47).toInt.toNat = z50.toInt.toNat + 1 by omega, bn_y (by omega), bn_co (C := C42) (C' := C83) (fun j hj => k4 j (by omega)), show z50.toInt.toNat = (C42 12 47).toInt.toNat by omega]; omega
            have kf : sfr C C83 := sfr_tr f1 (sfr_tr f2 (fun t j h1 h2 h3 => by rw [c83, tk_un (fun q => h3 ⟨q.1, Or.inr (Or.inr (Or.inr q.2))⟩), c78, tk_un (fun q => h3 ⟨q.1, Or.inr (Or.inr (Or.inl q.2))⟩), c70, tk_unt h2]))
            refine lv_aload_n hx hb dX12_behind_86 rfl (lv_at hl 0 rfl) ?_
            refine cm_callV (kc := kc_209) B rfl hb hl (hM.1 _ _ 0 [209] (isM (by decide +kernel)) 209 (by decide)) (hH1 _ tk_X1 209 (by decide)) (b := a0) (As := []) ⟨hr_aR t0, True.intro⟩ hp hW hS rfl (by decide) (by decide) (Nat.le_of_ble_eq_true rfl) dX12_behind_87 (fun cs hcs r pvv87 H locs hca hW hS => ?_)
            rcases List.mem_cons.mp hcs with rfl | hcs
            · obtain ⟨hr, hq, hc⟩ := hca
              obtain rfl := hr_rv0 hr
              have hp := hr_std hp hc (by decide +kernel)
              have sm : ∀ j, j < 32 → j ∉ [13, 14, 24, 31] → pvv87 j = pvv j := fun j h1 h2 => (hr_sameX (l := [13, 14, 24, 31]) hc (by decide +kernel) j h1 h2).trans (sm j h1 h2)
              refine hr_ic hx hb dX12_behind_90 (by decide) (fun z90 hz90 => ?_)
              exact hr_zret B hb rfl ⟨by omega, by omega⟩ ⟨hp, sm, z90, rfl, C83, rfl, kf, Or.inr ⟨by omega, kI, by omega, by omega⟩⟩ hW hS dX12_behind_91
            rcases List.mem_cons.mp hcs with rfl | hcs
            · obtain ⟨hr, hq, hc⟩ := hca
              obtain rfl := hr_rv0 hr
              have hp := hr_std hp hc (by decide +kernel)
              have sm : ∀ j, j < 32 → j ∉ [13, 14, 24, 31] → pvv87 j = pvv j := fun j h1 h2 => (hr_sameX (l := [13, 14, 24, 31]) hc (by decide +kernel) j h1 h2).trans (sm j h1 h2)
              refine hr_ic hx hb dX12_behind_90 (by decide) (fun z90 hz90 => ?_)
              exact hr_zret B hb rfl ⟨by omega, by omega⟩ ⟨hp, sm, z90, rfl, C83, rfl, kf, Or.inr ⟨by omega, kI, by omega, by omega⟩⟩ hW hS dX12_behind_91
            rcases List.mem_cons.mp hcs with rfl | hcs
            · obtain ⟨hr, hq, hc⟩ := hca
              obtain rfl := hr_rv0 hr
              have hp := hr_std hp hc (by decide +kernel)
              have sm : ∀ j, j < 32 → j ∉ [13, 14, 24, 31] → pvv87 j = pvv j := fun j h1 h2 => (hr_sameX (l := [13, 14, 24, 31]) hc (by decide +kernel) j h1 h2).trans (sm j h1 h2)
              refine hr_ic hx hb dX12_behind_90 (by decide) (fun z90 hz90 => ?_)
              exact hr_zret B hb rfl ⟨by omega, by omega⟩ ⟨hp, sm, z90, rfl, C83, rfl, kf, Or.inr ⟨by omega, kI, by omega, by omega⟩⟩ hW hS dX12_behind_91
            obtain rfl := List.mem_singleton.mp hcs
            obtain ⟨hr, hq, hc⟩ := hca
            obtain rfl := hr_rv0 hr
            have hp := hr_std hp hc (by decide +kernel)
            have sm : ∀ j, j < 32 → j ∉ [13, 14, 24, 31] → pvv87 j = pvv j := fun j h1 h2 => (hr_sameX (l := [13, 14, 24, 31]) hc (by decide +kernel) j h1 h2).trans (sm j h1 h2)
            refine hr_ic hx hb dX12_behind_90 (by decide) (fun z90 hz90 => ?_)
            exact hr_zret B hb rfl ⟨by omega, by omega⟩ ⟨hp, sm, z90, rfl, C83, rfl, kf, Or.inr ⟨by omega, kI, by omega, by omega⟩⟩ hW hS dX12_behind_91
          · omega
        obtain rfl := List.mem_singleton.mp hcs
        obtain ⟨hr, hq, hc⟩ := hca
        obtain ⟨z57, rfl, lz57, uz57⟩ := hr_rvI hr
        have hW := hr_pvE (hr_sameA hc rfl (by decide +kernel)) hW
        refine hr_eq0 (tgt := 68) hx hb dX12_behind_60 (by decide) (fun h60 => ?_) (fun h60 => ?_)
        · omega
        · refine hr_bp hx hb dX12_behind_63 (by decide) (by decide) (fun z63 hz63 => ?_)
          refine lv_goto (tgt := 70) hx hb dX12_behind_65 (by decide) ?_
          refine hr_iastN B hb hU hW hS tz46 rfl (by omega) (by omega) ⟨ck_lo _, ck_hi _⟩ (tk_EA tz46 (fun a h => hun 43 (by decide) _ _ tz46 h)) (u := 0) (v := 44) (by omega) (by omega) (by decide) dX12_behind_70 (fun H locs hW hS => ?_)
          obtain ⟨C70, c70⟩ : ∃ f, f = tk_upd C42 43 (z50.toInt.toNat) z63 := ⟨_, rfl⟩
          rw [← c70] at hW
          refine lv_aload_n hx hb dX12_behind_71 rfl (lv_at hl 0 rfl) ?_
          refine lv_dup hx hb dX12_behind_72 rfl ?_
          refine hr_getI B hF hb hW (ci := 12) (j := 47) (cd := 0) t0 rfl (isF (by decide +kernel)) rfl dX12_behind_73 (fun z73 lz73 uz73 pz73 xz73 => ?_)
          have xz73 := tk_xo xz73 (fun _ h => h) (pq := ck_prot1) (C := C70) t0 (by decide); have kz73 := congrArg Int32.toInt xz73
          have e73 : z73.toInt = (C42 12 47).toInt := by rw [kz73, c70, tk_unt (by decide)]
          refine hr_ic hx hb dX12_behind_76 (by decide) (fun z76 hz76 => ?_)
          refine hr_add hx hb dX12_behind_77 (by omega) (by omega) (fun z77 hz77 => ?_)
          refine hr_putN B hF hb hU hW hS (ci := 12) (j := 47) (cd := 0) t0 rfl (isF (by decide +kernel)) rfl (by omega) (by omega) (Or.inl rfl) (tk_EO t0 (fun a h => hun 12 (by decide) _ _ t0 h) (by decide)) (by decide) dX12_behind_78 (fun H locs hW hS => ?_)
          obtain ⟨C78, c78⟩ : ∃ f, f = tk_upd C70 12 (47) z77 := ⟨_, rfl⟩
          rw [← c78] at hW
          refine lv_aload_n hx hb dX12_behind_81 rfl (lv_at hl 0 rfl) ?_
          refine hr_ic hx hb dX12_behind_82 (by decide) (fun z82 hz82 => ?_)
          refine hr_putN B hF hb hU hW hS (ci := 12) (j := 49) (cd := 1) t0 rfl (isF (by decide +kernel)) rfl (by omega) (by omega) (Or.inr ⟨rfl, by omega, by omega⟩) (tk_EO t0 (fun a h => hun 12 (by decide) _ _ t0 h) (by decide)) (by decide) dX12_behind_83 (fun H locs hW hS => ?_)
          obtain ⟨C83, c83⟩ : ∃ f, f = tk_upd C78 12 (49) z82 := ⟨_, rfl⟩
          rw [← c83] at hW
          have k1 : (C83 12 47).toInt = (C42 12 47).toInt + 1 := by rw [c83, tk_unj (by decide), c78, tk_us]; omega
          have k2 : (C83 12 46).toInt = (C42 12 46).toInt := by rw [c83, tk_unj (by decide), c78, tk_unj (by decide), c70, tk_unt (by decide)]
          have k3 : (C83 12 49).toInt = 0 := by rw [c83, tk_us]; omega
          have k6 : C83 12 45 = C42 12 45 := by rw [c83, tk_unj (by decide), c78, tk_unj (by decide), c70, tk_unt (by decide)]
          have k4 : ∀ j, j ≠ z50.toInt.toNat → C83 43 j = C42 43 j := fun j hj => by rw [c83, tk_unt (by decide), c78, tk_unt (by decide), c70, tk_unj hj]
          have k4s : (C83 43 z50.toInt.toNat).toInt = z63.toInt := by rw [c83, tk_unt (by decide), c78, tk_unt (by decide), c70, tk_us]
          have k5 : rf C83 = rf C42 := rf_co k6 (fun j => by rw [c83, tk_unt (by decide), c78, tk_unt (by decide), c70, tk_unt (by decide)])
          have k7 : (C83 12 45).toInt = (C42 12 45).toInt := by rw [k6]
          have kI : SI C83 := by
            refine ⟨by omega, by omega, by omega, by omega, by omega, by omega, by rw [k5]; exact s7, ?_⟩
            rw [k5, k6, s8, show (C83 12 47).toInt.toNat = z50.toInt.toNat + 1 by omega, bn_y (by omega), bn_co (C := C42) (C' := C83) (fun j hj => k4 j (by omega)), show z50.toInt.toNat = (C42 12 47).toInt.toNat by omega]; omega
          have kf : sfr C C83 := sfr_tr f1 (sfr_tr f2 (fun t j h1 h2 h3 => by rw [c83, tk_un (fun q => h3 ⟨q.1, Or.inr (Or.inr (Or.inr q.2))⟩), c78, tk_un (fun q => h3 ⟨q.1, Or.inr (Or.inr (Or.inl q.2))⟩), c70, tk_unt h2]))
          refine lv_aload_n hx hb dX12_behind_86 rfl (lv_at hl 0 rfl) ?_
          refine cm_callV (kc := kc_209) B rfl hb hl (hM.1 _ _ 0 [209] (isM (by decide +kernel)) 209 (by decide)) (hH1 _ tk_X1 209 (by decide)) (b := a0) (As := []) ⟨hr_aR t0, True.intro⟩ hp hW hS rfl (by decide) (by decide) (Nat.le_of_ble_eq_true rfl) dX12_behind_87 (fun cs hcs r pvv87 H locs hca hW hS => ?_)
          rcases List.mem_cons.mp hcs with rfl | hcs
          · obtain ⟨hr, hq, hc⟩ := hca
            obtain rfl := hr_rv0 hr
            have hp := hr_std hp hc (by decide +kernel)
            have sm : ∀ j, j < 32 → j ∉ [13, 14, 24, 31] → pvv87 j = pvv j := fun j h1 h2 => (hr_sameX (l := [13, 14, 24, 31]) hc (by decide +kernel) j h1 h2).trans (sm j h1 h2)
            refine hr_ic hx hb dX12_behind_90 (by decide) (fun z90 hz90 => ?_)
            exact hr_zret B hb rfl ⟨by omega, by omega⟩ ⟨hp, sm, z90, rfl, C83, rfl, kf, Or.inr ⟨by omega, kI, by omega, by omega⟩⟩ hW hS dX12_behind_91
          rcases List.mem_cons.mp hcs with rfl | hcs
          · obtain ⟨hr, hq, hc⟩ := hca
            obtain rfl := hr_rv0 hr
            have hp := hr_std hp hc (by decide +kernel)
            have sm : ∀ j, j < 32 → j ∉ [13, 14, 24, 31] → pvv87 j = pvv j := fun j h1 h2 => (hr_sameX (l := [13, 14, 24, 31]) hc (by decide +kernel) j h1 h2).trans (sm j h1 h2)
            refine hr_ic hx hb dX12_behind_90 (by decide) (fun z90 hz90 => ?_)
            exact hr_zret B hb rfl ⟨by omega, by omega⟩ ⟨hp, sm, z90, rfl, C83, rfl, kf, Or.inr ⟨by omega, kI, by omega, by omega⟩⟩ hW hS dX12_behind_91
          rcases List.mem_cons.mp hcs with rfl | hcs
          · obtain ⟨hr, hq, hc⟩ := hca
            obtain rfl := hr_rv0 hr
            have hp := hr_std hp hc (by decide +kernel)
            have sm : ∀ j, j < 32 → j ∉ [13, 14, 24, 31] → pvv87 j = pvv j := fun j h1 h2 => (hr_sameX (l := [13, 14, 24, 31]) hc (by decide +kernel) j h1 h2).trans (sm j h1 h2)
            refine hr_ic hx hb dX12_behind_90 (by decide) (fun z90 hz90 => ?_)
            exact hr_zret B hb rfl ⟨by omega, by omega⟩ ⟨hp, sm, z90, rfl, C83, rfl, kf, Or.inr ⟨by omega, kI, by omega, by omega⟩⟩ hW hS dX12_behind_91
          obtain rfl := List.mem_singleton.mp hcs
          obtain ⟨hr, hq, hc⟩ := hca
          obtain rfl := hr_rv0 hr
          have hp := hr_std hp hc (by decide +kernel)
          have sm : ∀ j, j < 32 → j ∉ [13, 14, 24, 31] → pvv87 j = pvv j := fun j h1 h2 => (hr_sameX (l := [13, 14, 24, 31]) hc (by decide +kernel) j h1 h2).trans (sm j h1 h2)
          refine hr_ic hx hb dX12_behind_90 (by decide) (fun z90 hz90 => ?_)
          exact hr_zret B hb rfl ⟨by omega, by omega⟩ ⟨hp, sm, z90, rfl, C83, rfl, kf, Or.inr ⟨by omega, kI, by omega, by omega⟩⟩ hW hS dX12_behind_91
      · omega
    obtain rfl := List.mem_singleton.mp hcs
    obtain ⟨hr, hq, hc⟩ := hca
    obtain ⟨z29, rfl, lz29, uz29⟩ := hr_rvI hr
    have hW := hr_pvE (hr_sameA hc rfl (by decide +kernel)) hW
    refine hr_eq0 (tgt := 40) hx hb dX12_behind_32 (by decide) (fun h32 => ?_) (fun h32 => ?_)
    · omega
    · refine hr_bp hx hb dX12_behind_35 (by decide) (by decide) (fun z35 hz35 => ?_)
      refine lv_goto (tgt := 42) hx hb dX12_behind_37 (by decide) ?_
      refine hr_callV (kc := kh_12_joins) B rfl hb hl (hMh _ (List.mem_of_getElem? (i := 13) rfl)) (b := a0) (As := [.int z35]) (hs_joins hF hC hM hMh hU hun hH1 t0 I1 w1) ⟨hr_aR t0, hr_aF, True.intro⟩ hW hS rfl (by decide) (by decide) (Nat.le_of_ble_eq_true rfl) dX12_behind_42 (fun r pvv42 E42 H locs hpost hW hS => ?_)
      obtain ⟨rfl, ep, C42, rfl, I2, f2, w2, o2, p2, -⟩ := hpost
      rw [ep] at hW
      obtain ⟨s1, s2, s3, s4, s5, s6, s7, s8⟩ := id I2
      refine lv_aload_n hx hb dX12_behind_45 rfl (lv_at hl 0 rfl) ?_
      refine hr_getR B hF hb hW (ci := 12) (j := 44) (cd := 3) t0 rfl (isF (by decide +kernel)) rfl dX12_behind_46 (fun az46 tz46 xz46 => ?_)
      refine lv_aload_n hx hb dX12_behind_49 rfl (lv_at hl 0 rfl) ?_
      refine hr_getI B hF hb hW (ci := 12) (j := 47) (cd := 0) t0 rfl (isF (by decide +kernel)) rfl dX12_behind_50 (fun z50 lz50 uz50 pz50 xz50 => ?_)
      have xz50 := tk_xo xz50 (fun _ h => h) (pq := ck_prot1) (C := C42) t0 (by decide); have kz50 := congrArg Int32.toInt xz50
      refine lv_aload_n hx hb dX12_behind_53 rfl (lv_at hl 0 rfl) ?_
      refine hr_ldc2 B hC hb (isL (by decide +kernel)) dX12_behind_54 (fun z54 => ?_)
      refine cm_callV (kc := kc_211) B rfl hb hl (hM.1 _ _ 0 [211] (isM (by decide +kernel)) 211 (by decide)) (hH1 _ tk_X1 211 (by decide)) (b := a0) (As := [.long z54]) ⟨hr_aR t0, hr_aL, True.intro⟩ hp hW hS rfl (by decide) (by decide) (Nat.le_of_ble_eq_true rfl) dX12_behind_57 (fun cs hcs r pvv57 H locs hca hW hS => ?_)
      rcases List.mem_cons.mp hcs with rfl | hcs
      · obtain ⟨hr, hq, hc⟩ := hca
        obtain ⟨z57, rfl, lz57, uz57⟩ := hr_rvI hr
        have hW := hr_pvE (hr_sameA hc rfl (by decide +kernel)) hW
        refine hr_eq0 (tgt := 68) hx hb dX12_behind_60 (by decide) (fun h60 => ?_) (fun h60 => ?_)
        · refine hr_bp hx hb dX12_behind_68 (by decide) (by decide) (fun z68 hz68 => ?_)
          refine hr_iastN B hb hU hW hS tz46 rfl (by omega) (by omega) ⟨ck_lo _, ck_hi _⟩ (tk_EA tz46 (fun a h => hun 43 (by decide) _ _ tz46 h)) (u := 0) (v := 44) (by omega) (by omega) (by decide) dX12_behind_70 (fun H locs hW hS => ?_)
          obtain ⟨C70, c70⟩ : ∃ f, f = tk_upd C42 43 (z50.toInt.toNat) z68 := ⟨_, rfl⟩
          rw [← c70] at hW
          refine lv_aload_n hx hb dX12_behind_71 rfl (lv_at hl 0 rfl) ?_
          refine lv_dup hx hb dX12_behind_72 rfl ?_
          refine hr_getI B hF hb hW (ci := 12) (j := 47) (cd := 0) t0 rfl (isF (by decide +kernel)) rfl dX12_behind_73 (fun z73 lz73 uz73 pz73 xz73 => ?_)
          have xz73 := tk_xo xz73 (fun _ h => h) (pq := ck_prot1) (C := C70) t0 (by decide); have kz73 := congrArg Int32.toInt xz73
          have e73 : z73.toInt = (C42 12 47).toInt := by rw [kz73, c70, tk_unt (by decide)]
          refine hr_ic hx hb dX12_behind_76 (by decide) (fun z76 hz76 => ?_)
          refine hr_add hx hb dX12_behind_77 (by omega) (by omega) (fun z77 hz77 => ?_)
          refine hr_putN B hF hb hU hW hS (ci := 12) (j := 47) (cd := 0) t0 rfl (isF (by decide +kernel)) rfl (by omega) (by omega) (Or.inl rfl) (tk_EO t0 (fun a h => hun 12 (by decide) _ _ t0 h) (by decide)) (by decide) dX12_behind_78 (fun H locs hW hS => ?_)
          obtain ⟨C78, c78⟩ : ∃ f, f = tk_upd C70 12 (47) z77 := ⟨_, rfl⟩
          rw [← c78] at hW
          refine lv_aload_n hx hb dX12_behind_81 rfl (lv_at hl 0 rfl) ?_
          refine hr_ic hx hb dX12_behind_82 (by decide) (fun z82 hz82 => ?_)
          refine hr_putN B hF hb hU hW hS (ci := 12) (j := 49) (cd := 1) t0 rfl (isF (by decide +kernel)) rfl (by omega) (by omega) (Or.inr ⟨rfl, by omega, by omega⟩) (tk_EO t0 (fun a h => hun 12 (by decide) _ _ t0 h) (by decide)) (by decide) dX12_behind_83 (fun H locs hW hS => ?_)
          obtain ⟨C83, c83⟩ : ∃ f, f = tk_upd C78 12 (49) z82 := ⟨_, rfl⟩
          rw [← c83] at hW
          have k1 : (C83 12 47).toInt = (C42 12 47).toInt + 1 := by rw [c83, tk_unj (by decide), c78, tk_us]; omega
          have k2 : (C83 12 46).toInt = (C42 12 46).toInt := by rw [c83, tk_unj (by decide), c78, tk_unj (by decide), c70, tk_unt (by decide)]
          have k3 : (C83 12 49).toInt = 0 := by rw [c83, tk_us]; omega
          have k6 : C83 12 45 = C42 12 45 := by rw [c83, tk_unj (by decide), c78, tk_unj (by decide), c70, tk_unt (by decide)]
          have k4 : ∀ j, j ≠ z50.toInt.toNat → C83 43 j = C42 43 j := fun j hj => by rw [c83, tk_unt (by decide), c78, tk_unt (by decide), c70, tk_unj hj]
          have k4s : (C83 43 z50.toInt.toNat).toInt = z68.toInt := by rw [c83, tk_unt (by decide), c78, tk_unt (by decide), c70, tk_us]
          have k5 : rf C83 = rf C42 := rf_co k6 (fun j => by rw [c83, tk_unt (by decide), c78, tk_unt (by decide), c70, tk_unt (by decide)])
          have k7 : (C83 12 45).toInt = (C42 12 45).toInt := by rw [k6]
          have kI : SI C83 := by
            refine ⟨by omega, by omega, by omega, by omega, by omega, by omega, by rw [k5]; exact s7, ?_⟩
            rw [k5, k6, s8, show (C83 12 47).toInt.toNat = z50.toInt.toNat + 1 by omega, bn_y (by omega), bn_co (C := C42) (C' := C83) (fun j hj => k4 j (by omega)), show z50.toInt.toNat = (C42 12 47).toInt.toNat by omega]; omega
          have kf : sfr C C83 := sfr_tr f1 (sfr_tr f2 (fun t j h1 h2 h3 => by rw [c83, tk_un (fun q => h3 ⟨q.1, Or.inr (Or.inr (Or.inr q.2))⟩), c78, tk_un (fun q => h3 ⟨q.1, Or.inr (Or.inr (Or.inl q.2))⟩), c70, tk_unt h2]))
          refine lv_aload_n hx hb dX12_behind_86 rfl (lv_at hl 0 rfl) ?_
          refine cm_callV (kc := kc_209) B rfl hb hl (hM.1 _ _ 0 [209] (isM (by decide +kernel)) 209 (by decide)) (hH1 _ tk_X1 209 (by decide)) (b := a0) (As := []) ⟨hr_aR t0, True.intro⟩ hp hW hS rfl (by decide) (by decide) (Nat.le_of_ble_eq_true rfl) dX12_behind_87 (fun cs hcs r pvv87 H locs hca hW hS => ?_)
          rcases List.mem_cons.mp hcs with rfl | hcs
          · obtain ⟨hr, hq, hc⟩ := hca
            obtain rfl := hr_rv0 hr
            have hp := hr_std hp hc (by decide +kernel)
            have sm : ∀ j, j < 32 → j ∉ [13, 14, 24, 31] → pvv87 j = pvv j := fun j h1 h2 => (hr_sameX (l := [13, 14, 24, 31]) hc (by decide +kernel) j h1 h2).trans (sm j h1 h2)
            refine hr_ic hx hb dX12_behind_90 (by decide) (fun z90 hz90 => ?_)
            exact hr_zret B hb rfl ⟨by omega, by omega⟩ ⟨hp, sm, z90, rfl, C83, rfl, kf, Or.inr ⟨by omega, kI, by omega, by omega⟩⟩ hW hS dX12_behind_91
          rcases List.mem_cons.mp hcs with rfl | hcs
          · obtain ⟨hr, hq, hc⟩ := hca
            obtain rfl := hr_rv0 hr
            have hp := hr_std hp hc (by decide +kernel)
            have sm : ∀ j, j < 32 → j ∉ [13, 14, 24, 31] → pvv87 j = pvv j := fun j h1 h2 => (hr_sameX (l := [13, 14, 24, 31]) hc (by decide +kernel) j h1 h2).trans (sm j h1 h2)
            refine hr_ic hx hb dX12_behind_90 (by decide) (fun z90 hz90 => ?_)
            exact hr_zret B hb rfl ⟨by omega, by omega⟩ ⟨hp, sm, z90, rfl, C83, rfl, kf, Or.inr ⟨by omega, kI, by omega, by omega⟩⟩ hW hS dX12_behind_91
          rcases List.mem_cons.mp hcs with rfl | hcs
          · obtain ⟨hr, hq, hc⟩ := hca
            obtain rfl := hr_rv0 hr
            have hp := hr_std hp hc (by decide +kernel)
            have sm : ∀ j, j < 32 → j ∉ [13, 14, 24, 31] → pvv87 j = pvv j := fun j h1 h2 => (hr_sameX (l := [13, 14, 24, 31]) hc (by decide +kernel) j h1 h2).trans (sm j h1 h2)
            refine hr_ic hx hb dX12_behind_90 (by decide) (fun z90 hz90 => ?_)
            exact hr_zret B hb rfl ⟨by omega, by omega⟩ ⟨hp, sm, z90, rfl, C83, rfl, kf, Or.inr ⟨by omega, kI, by omega, by omega⟩⟩ hW hS dX12_behind_91
          obtain rfl := List.mem_singleton.mp hcs
          obtain ⟨hr, hq, hc⟩ := hca
          obtain rfl := hr_rv0 hr
          have hp := hr_std hp hc (by decide +kernel)
          have sm : ∀ j, j < 32 → j ∉ [13, 14, 24, 31] → pvv87 j = pvv j := fun j h1 h2 => (hr_sameX (l := [13, 14, 24, 31]) hc (by decide +kernel) j h1 h2).trans (sm j h1 h2)
          refine hr_ic hx hb dX12_behind_90 (by decide) (fun z90 hz90 => ?_)
          exact hr_zret B hb rfl ⟨by omega, by omega⟩ ⟨hp, sm, z90, rfl, C83, rfl, kf, Or.inr ⟨by omega, kI, by omega, by omega⟩⟩ hW hS dX12_behind_91
        · omega
      obtain rfl := List.mem_singleton.mp hcs
      obtain ⟨hr, hq, hc⟩ := hca
      obtain ⟨z57, rfl, lz57, uz57⟩ := hr_rvI hr
      have hW := hr_pvE (hr_sameA hc rfl (by decide +kernel)) hW
      refine hr_eq0 (tgt := 68) hx hb dX12_behind_60 (by decide) (fun h60 => ?_) (fun h60 => ?_)
      · omega
      · refine hr_bp hx hb dX12_behind_63 (by decide) (by decide) (fun z63 hz63 => ?_)
        refine lv_goto (tgt := 70) hx hb dX12_behind_65 (by decide) ?_
        refine hr_iastN B hb hU hW hS tz46 rfl (by omega) (by omega) ⟨ck_lo _, ck_hi _⟩ (tk_EA tz46 (fun a h => hun 43 (by decide) _ _ tz46 h)) (u := 0) (v := 44) (by omega) (by omega) (by decide) dX12_behind_70 (fun H locs hW hS => ?_)
        obtain ⟨C70, c70⟩ : ∃ f, f = tk_upd C42 43 (z50.toInt.toNat) z63 := ⟨_, rfl⟩
        rw [← c70] at hW
        refine lv_aload_n hx hb dX12_behind_71 rfl (lv_at hl 0 rfl) ?_
        refine lv_dup hx hb dX12_behind_72 rfl ?_
        refine hr_getI B hF hb hW (ci := 12) (j := 47) (cd := 0) t0 rfl (isF (by decide +kernel)) rfl dX12_behind_73 (fun z73 lz73 uz73 pz73 xz73 => ?_)
        have xz73 := tk_xo xz73 (fun _ h => h) (pq := ck_prot1) (C := C70) t0 (by decide); have kz73 := congrArg Int32.toInt xz73
        have e73 : z73.toInt = (C42 12 47).toInt := by rw [kz73, c70, tk_unt (by decide)]
        refine hr_ic hx hb dX12_behind_76 (by decide) (fun z76 hz76 => ?_)
        refine hr_add hx hb dX12_behind_77 (by omega) (by omega) (fun z77 hz77 => ?_)
        refine hr_putN B hF hb hU hW hS (ci := 12) (j := 47) (cd := 0) t0 rfl (isF (by decide +kernel)) rfl (by omega) (by omega) (Or.inl rfl) (tk_EO t0 (fun a h => hun 12 (by decide) _ _ t0 h) (by decide)) (by decide) dX12_behind_78 (fun H locs hW hS => ?_)
        obtain ⟨C78, c78⟩ : ∃ f, f = tk_upd C70 12 (47) z77 := ⟨_, rfl⟩
        rw [← c78] at hW
        refine lv_aload_n hx hb dX12_behind_81 rfl (lv_at hl 0 rfl) ?_
        refine hr_ic hx hb dX12_behind_82 (by decide) (fun z82 hz82 => ?_)
        refine hr_putN B hF hb hU hW hS (ci := 12) (j := 49) (cd := 1) t0 rfl (isF (by decide +kernel)) rfl (by omega) (by omega) (Or.inr ⟨rfl, by omega, by omega⟩) (tk_EO t0 (fun a h => hun 12 (by decide) _ _ t0 h) (by decide)) (by decide) dX12_behind_83 (fun H locs hW hS => ?_)
        obtain ⟨C83, c83⟩ : ∃ f, f = tk_upd C78 12 (49) z82 := ⟨_, rfl⟩
        rw [← c83] at hW
        have k1 : (C83 12 47).toInt = (C42 12 47).toInt + 1 := by rw [c83, tk_unj (by decide), c78, tk_us]; omega
        have k2 : (C83 12 46).toInt = (C42 12 46).toInt := by rw [c83, tk_unj (by decide), c78, tk_unj (by decide), c70, tk_unt (by decide)]
        have k3 : (C83 12 49).toInt = 0 := by rw [c83, tk_us]; omega
        have k6 : C83 12 45 = C42 12 45 := by rw [c83, tk_unj (by decide), c78, tk_unj (by decide), c70, tk_unt (by decide)]
        have k4 : ∀ j, j ≠ z50.toInt.toNat → C83 43 j = C42 43 j := fun j hj => by rw [c83, tk_unt (by decide), c78, tk_unt (by decide), c70, tk_unj hj]
        have k4s : (C83 43 z50.toInt.toNat).toInt = z63.toInt := by rw [c83, tk_unt (by decide), c78, tk_unt (by decide), c70, tk_us]
        have k5 : rf C83 = rf C42 := rf_co k6 (fun j => by rw [c83, tk_unt (by decide), c78, tk_unt (by decide), c70, tk_unt (by decide)])
        have k7 : (C83 12 45).toInt = (C42 12 45).toInt := by rw [k6]
        have kI : SI C83 := by
          refine ⟨by omega, by omega, by omega, by omega, by omega, by omega, by rw [k5]; exact s7, ?_⟩
          rw [k5, k6, s8, show (C83 12 47).toInt.toNat = z50.toInt.toNat + 1 by omega, bn_y (by omega), bn_co (C := C42) (C' := C83) (fun j hj => k4 j (by omega)), show z50.toInt.toNat = (C42 12 47).toInt.toNat by omega]; omega
        have kf : sfr C C83 := sfr_tr f1 (sfr_tr f2 (fun t j h1 h2 h3 => by rw [c83, tk_un (fun q => h3 ⟨q.1, Or.inr (Or.inr (Or.inr q.2))⟩), c78, tk_un (fun q => h3 ⟨q.1, Or.inr (Or.inr (Or.inl q.2))⟩), c70, tk_unt h2]))
        refine lv_aload_n hx hb dX12_behind_86 rfl (lv_at hl 0 rfl) ?_
        refine cm_callV (kc := kc_209) B rfl hb hl (hM.1 _ _ 0 [209] (isM (by decide +kernel)) 209 (by decide)) (hH1 _ tk_X1 209 (by decide)) (b := a0) (As := []) ⟨hr_aR t0, True.intro⟩ hp hW hS rfl (by decide) (by decide) (Nat.le_of_ble_eq_true rfl) dX12_behind_87 (fun cs hcs r pvv87 H locs hca hW hS => ?_)
        rcases List.mem_cons.mp hcs with rfl | hcs
        · obtain ⟨hr, hq, hc⟩ := hca
          obtain rfl := hr_rv0 hr
          have hp := hr_std hp hc (by decide +kernel)
          have sm : ∀ j, j < 32 → j ∉ [13, 14, 24, 31] → pvv87 j = pvv j := fun j h1 h2 => (hr_sameX (l := [13, 14, 24, 31]) hc (by decide +kernel) j h1 h2).trans (sm j h1 h2)
          refine hr_ic hx hb dX12_behind_90 (by decide) (fun z90 hz90 => ?_)
          exact hr_zret B hb rfl ⟨by omega, by omega⟩ ⟨hp, sm, z90, rfl, C83, rfl, kf, Or.inr ⟨by omega, kI, by omega, by omega⟩⟩ hW hS dX12_behind_91
        rcases List.mem_cons.mp hcs with rfl | hcs
        · obtain ⟨hr, hq, hc⟩ := hca
          obtain rfl := hr_rv0 hr
          have hp := hr_std hp hc (by decide +kernel)
          have sm : ∀ j, j < 32 → j ∉ [13, 14, 24, 31] → pvv87 j = pvv j := fun j h1 h2 => (hr_sameX (l := [13, 14, 24, 31]) hc (by decide +kernel) j h1 h2).trans (sm j h1 h2)
          refine hr_ic hx hb dX12_behind_90 (by decide) (fun z90 hz90 => ?_)
          exact hr_zret B hb rfl ⟨by omega, by omega⟩ ⟨hp, sm, z90, rfl, C83, rfl, kf, Or.inr ⟨by omega, kI, by omega, by omega⟩⟩ hW hS dX12_behind_91
        rcases List.mem_cons.mp hcs with rfl | hcs
        · obtain ⟨hr, hq, hc⟩ := hca
          obtain rfl := hr_rv0 hr
          have hp := hr_std hp hc (by decide +kernel)
          have sm : ∀ j, j < 32 → j ∉ [13, 14, 24, 31] → pvv87 j = pvv j := fun j h1 h2 => (hr_sameX (l := [13, 14, 24, 31]) hc (by decide +kernel) j h1 h2).trans (sm j h1 h2)
          refine hr_ic hx hb dX12_behind_90 (by decide) (fun z90 hz90 => ?_)
          exact hr_zret B hb rfl ⟨by omega, by omega⟩ ⟨hp, sm, z90, rfl, C83, rfl, kf, Or.inr ⟨by omega, kI, by omega, by omega⟩⟩ hW hS dX12_behind_91
        obtain rfl := List.mem_singleton.mp hcs
        obtain ⟨hr, hq, hc⟩ := hca
        obtain rfl := hr_rv0 hr
        have hp := hr_std hp hc (by decide +kernel)
        have sm : ∀ j, j < 32 → j ∉ [13, 14, 24, 31] → pvv87 j = pvv j := fun j h1 h2 => (hr_sameX (l := [13, 14, 24, 31]) hc (by decide +kernel) j h1 h2).trans (sm j h1 h2)
        refine hr_ic hx hb dX12_behind_90 (by decide) (fun z90 hz90 => ?_)
        exact hr_zret B hb rfl ⟨by omega, by omega⟩ ⟨hp, sm, z90, rfl, C83, rfl, kf, Or.inr ⟨by omega, kI, by omega, by omega⟩⟩ hW hS dX12_behind_91
  · omega
theorem dX12_operand_0 : decode cX12_operand 0 = .ok (.aload_n 0, 1) := by decide +kernel
theorem dX12_operand_1 : decode cX12_operand 1 = .ok (.ldc2_w 138, 3) := by decide +kernel
theorem dX12_operand_4 : decode cX12_operand 4 = .ok (.invokevirtual 220, 3) := by decide +kernel
theorem dX12_operand_7 : decode cX12_operand 7 = .ok (.istore_n 1, 1) := by decide +kernel
theorem dX12_operand_8 : decode cX12_operand 8 = .ok (.aload_n 0, 1) := by decide +kernel
theorem dX12_operand_9 : decode cX12_operand 9 = .ok (.bipush 40, 2) := by decide +kernel
theorem dX12_operand_11 : decode cX12_operand 11 = .ok (.invokevirtual 189, 3) := by decide +kernel
theorem dX12_operand_14 : decode cX12_operand 14 = .ok (.istore_n 2, 1) := by decide +kernel
theorem dX12_operand_15 : decode cX12_operand 15 = .ok (.aload_n 0, 1) := by decide +kernel
theorem dX12_operand_16 : decode cX12_operand 16 = .ok (.invokevirtual 424, 3) := by decide +kernel
theorem dX12_operand_19 : decode cX12_operand 19 = .ok (.istore_n 3, 1) := by decide +kernel
theorem dX12_operand_20 : decode cX12_operand 20 = .ok (.iload_n 1, 1) := by decide +kernel
theorem dX12_operand_21 : decode cX12_operand 21 = .ok (.ifCond .ne 17, 3) := by decide +kernel
theorem dX12_operand_24 : decode cX12_operand 24 = .ok (.iload_n 2, 1) := by decide +kernel
theorem dX12_operand_25 : decode cX12_operand 25 = .ok (.ifCond .ne 13, 3) := by decide +kernel
theorem dX12_operand_28 : decode cX12_operand 28 = .ok (.iload_n 3, 1) := by decide +kernel
theorem dX12_operand_29 : decode cX12_operand 29 = .ok (.ifCond .ge 9, 3) := by decide +kernel
theorem dX12_operand_32 : decode cX12_operand 32 = .ok (.aload_n 0, 1) := by decide +kernel
theorem dX12_operand_33 : decode cX12_operand 33 = .ok (.iconst 1, 1) := by decide +kernel
theorem dX12_operand_34 : decode cX12_operand 34 = .ok (.invokevirtual 192, 3) := by decide +kernel
theorem dX12_operand_37 : decode cX12_operand 37 = .ok (.ireturn, 1) := by decide +kernel
theorem dX12_operand_38 : decode cX12_operand 38 = .ok (.aload_n 0, 1) := by decide +kernel
theorem dX12_operand_39 : decode cX12_operand 39 = .ok (.getfield 427, 3) := by decide +kernel
theorem dX12_operand_42 : decode cX12_operand 42 = .ok (.bipush 20, 2) := by decide +kernel
theorem dX12_operand_44 : decode cX12_operand 44 = .ok (.if_icmp .eq 12, 3) := by decide +kernel
theorem dX12_operand_47 : decode cX12_operand 47 = .ok (.aload_n 0, 1) := by decide +kernel
theorem dX12_operand_48 : decode cX12_operand 48 = .ok (.getfield 421, 3) := by decide +kernel
theorem dX12_operand_51 : decode cX12_operand 51 = .ok (.bipush 8, 2) := by decide +kernel
theorem dX12_operand_53 : decode cX12_operand 53 = .ok (.if_icmp .le 9, 3) := by decide +kernel
theorem dX12_operand_56 : decode cX12_operand 56 = .ok (.aload_n 0, 1) := by decide +kernel
theorem dX12_operand_57 : decode cX12_operand 57 = .ok (.iconst 4, 1) := by decide +kernel
theorem dX12_operand_58 : decode cX12_operand 58 = .ok (.invokevirtual 192, 3) := by decide +kernel
theorem dX12_operand_61 : decode cX12_operand 61 = .ok (.ireturn, 1) := by decide +kernel
theorem dX12_operand_62 : decode cX12_operand 62 = .ok (.aload_n 0, 1) := by decide +kernel
theorem dX12_operand_63 : decode cX12_operand 63 = .ok (.dup, 1) := by decide +kernel
theorem dX12_operand_64 : decode cX12_operand 64 = .ok (.getfield 427, 3) := by decide +kernel
theorem dX12_operand_67 : decode cX12_operand 67 = .ok (.iconst 1, 1) := by decide +kernel
theorem dX12_operand_68 : decode cX12_operand 68 = .ok (.iadd, 1) := by decide +kernel
theorem dX12_operand_69 : decode cX12_operand 69 = .ok (.putfield 427, 3) := by decide +kernel
theorem dX12_operand_72 : decode cX12_operand 72 = .ok (.aload_n 0, 1) := by decide +kernel
theorem dX12_operand_73 : decode cX12_operand 73 = .ok (.invokevirtual 195, 3) := by decide +kernel
theorem dX12_operand_76 : decode cX12_operand 76 = .ok (.iload_n 1, 1) := by decide +kernel
theorem dX12_operand_77 : decode cX12_operand 77 = .ok (.ifCond .ne 7, 3) := by decide +kernel
theorem dX12_operand_80 : decode cX12_operand 80 = .ok (.iload_n 2, 1) := by decide +kernel
theorem dX12_operand_81 : decode cX12_operand 81 = .ok (.ifCond .eq 45, 3) := by decide +kernel
theorem dX12_operand_84 : decode cX12_operand 84 = .ok (.aload_n 0, 1) := by decide +kernel
theorem dX12_operand_85 : decode cX12_operand 85 = .ok (.getfield 86, 3) := by decide +kernel
theorem dX12_operand_88 : decode cX12_operand 88 = .ok (.aload_n 0, 1) := by decide +kernel
theorem dX12_operand_89 : decode cX12_operand 89 = .ok (.getfield 414, 3) := by decide +kernel
theorem dX12_operand_92 : decode cX12_operand 92 = .ok (.iload_n 1, 1) := by decide +kernel
theorem dX12_operand_93 : decode cX12_operand 93 = .ok (.ifCond .eq 8, 3) := by decide +kernel
theorem dX12_operand_96 : decode cX12_operand 96 = .ok (.bipush 20, 2) := by decide +kernel
theorem dX12_operand_98 : decode cX12_operand 98 = .ok (.goto 5, 3) := by decide +kernel
theorem dX12_operand_101 : decode cX12_operand 101 = .ok (.bipush 23, 2) := by decide +kernel
theorem dX12_operand_103 : decode cX12_operand 103 = .ok (.iastore, 1) := by decide +kernel
theorem dX12_operand_104 : decode cX12_operand 104 = .ok (.aload_n 0, 1) := by decide +kernel
theorem dX12_operand_105 : decode cX12_operand 105 = .ok (.dup, 1) := by decide +kernel
theorem dX12_operand_106 : decode cX12_operand 106 = .ok (.getfield 414, 3) := by decide +kernel
theorem dX12_operand_109 : decode cX12_operand 109 = .ok (.iconst 1, 1) := by decide +kernel
theorem dX12_operand_110 : decode cX12_operand 110 = .ok (.iadd, 1) := by decide +kernel
theorem dX12_operand_111 : decode cX12_operand 111 = .ok (.putfield 414, 3) := by decide +kernel
theorem dX12_operand_114 : decode cX12_operand 114 = .ok (.aload_n 0, 1) := by decide +kernel
theorem dX12_operand_115 : decode cX12_operand 115 = .ok (.dup, 1) := by decide +kernel
theorem dX12_operand_116 : decode cX12_operand 116 = .ok (.getfield 421, 3) := by decide +kernel
theorem dX12_operand_119 : decode cX12_operand 119 = .ok (.iconst 1, 1) := by decide +kernel
theorem dX12_operand_120 : decode cX12_operand 120 = .ok (.iadd, 1) := by decide +kernel
theorem dX12_operand_121 : decode cX12_operand 121 = .ok (.putfield 421, 3) := by decide +kernel
theorem dX12_operand_124 : decode cX12_operand 124 = .ok (.iconst 1, 1) := by decide +kernel
theorem dX12_operand_125 : decode cX12_operand 125 = .ok (.ireturn, 1) := by decide +kernel
theorem dX12_operand_126 : decode cX12_operand 126 = .ok (.aload_n 0, 1) := by decide +kernel
theorem dX12_operand_127 : decode cX12_operand 127 = .ok (.iconst 1, 1) := by decide +kernel
theorem dX12_operand_128 : decode cX12_operand 128 = .ok (.putfield 430, 3) := by decide +kernel
theorem dX12_operand_131 : decode cX12_operand 131 = .ok (.iload_n 3, 1) := by decide +kernel
theorem dX12_operand_132 : decode cX12_operand 132 = .ok (.iconst 3, 1) := by decide +kernel
theorem dX12_operand_133 : decode cX12_operand 133 = .ok (.if_icmp .ge 12, 3) := by decide +kernel
theorem dX12_operand_136 : decode cX12_operand 136 = .ok (.aload_n 0, 1) := by decide +kernel
theorem dX12_operand_137 : decode cX12_operand 137 = .ok (.iload_n 3, 1) := by decide +kernel
theorem dX12_operand_138 : decode cX12_operand 138 = .ok (.iconst 0, 1) := by decide +kernel
theorem dX12_operand_139 : decode cX12_operand 139 = .ok (.iconst 0, 1) := by decide +kernel
theorem dX12_operand_140 : decode cX12_operand 140 = .ok (.invokevirtual 417, 3) := by decide +kernel
theorem dX12_operand_143 : decode cX12_operand 143 = .ok (.iconst 1, 1) := by decide +kernel
theorem dX12_operand_144 : decode cX12_operand 144 = .ok (.ireturn, 1) := by decide +kernel
theorem dX12_operand_145 : decode cX12_operand 145 = .ok (.iload_n 3, 1) := by decide +kernel
theorem dX12_operand_146 : decode cX12_operand 146 = .ok (.iconst 3, 1) := by decide +kernel
theorem dX12_operand_147 : decode cX12_operand 147 = .ok (.if_icmp .ne 55, 3) := by decide +kernel
theorem dX12_operand_150 : decode cX12_operand 150 = .ok (.aload_n 0, 1) := by decide +kernel
theorem dX12_operand_151 : decode cX12_operand 151 = .ok (.invokevirtual 205, 3) := by decide +kernel
theorem dX12_operand_154 : decode cX12_operand 154 = .ok (.ifCond .ne 9, 3) := by decide +kernel
theorem dX12_operand_157 : decode cX12_operand 157 = .ok (.aload_n 0, 1) := by decide +kernel
theorem dX12_operand_158 : decode cX12_operand 158 = .ok (.iconst 1, 1) := by decide +kernel
theorem dX12_operand_159 : decode cX12_operand 159 = .ok (.invokevirtual 192, 3) := by decide +kernel
theorem dX12_operand_162 : decode cX12_operand 162 = .ok (.ireturn, 1) := by decide +kernel
theorem dX12_operand_163 : decode cX12_operand 163 = .ok (.aload_n 0, 1) := by decide +kernel
theorem dX12_operand_164 : decode cX12_operand 164 = .ok (.bipush 6, 2) := by decide +kernel
theorem dX12_operand_166 : decode cX12_operand 166 = .ok (.aload_n 0, 1) := by decide +kernel
theorem dX12_operand_167 : decode cX12_operand 167 = .ok (.getfield 33, 3) := by decide +kernel
theorem dX12_operand_170 : decode cX12_operand 170 = .ok (.iconst 1, 1) := by decide +kernel
theorem dX12_operand_171 : decode cX12_operand 171 = .ok (.iaload, 1) := by decide +kernel
theorem dX12_operand_172 : decode cX12_operand 172 = .ok (.invokevirtual 209, 3) := by decide +kernel
theorem dX12_operand_175 : decode cX12_operand 175 = .ok (.istore 4, 2) := by decide +kernel
theorem dX12_operand_177 : decode cX12_operand 177 = .ok (.iload 4, 2) := by decide +kernel
theorem dX12_operand_179 : decode cX12_operand 179 = .ok (.ifCond .ge 9, 3) := by decide +kernel
theorem dX12_operand_182 : decode cX12_operand 182 = .ok (.aload_n 0, 1) := by decide +kernel
theorem dX12_operand_183 : decode cX12_operand 183 = .ok (.iconst 3, 1) := by decide +kernel
theorem dX12_operand_184 : decode cX12_operand 184 = .ok (.invokevirtual 192, 3) := by decide +kernel
theorem dX12_operand_187 : decode cX12_operand 187 = .ok (.ireturn, 1) := by decide +kernel
theorem dX12_operand_188 : decode cX12_operand 188 = .ok (.aload_n 0, 1) := by decide +kernel
theorem dX12_operand_189 : decode cX12_operand 189 = .ok (.iload_n 3, 1) := by decide +kernel
theorem dX12_operand_190 : decode cX12_operand 190 = .ok (.iconst 0, 1) := by decide +kernel
theorem dX12_operand_191 : decode cX12_operand 191 = .ok (.iload 4, 2) := by decide +kernel
theorem dX12_operand_193 : decode cX12_operand 193 = .ok (.invokevirtual 417, 3) := by decide +kernel
theorem dX12_operand_196 : decode cX12_operand 196 = .ok (.aload_n 0, 1) := by decide +kernel
theorem dX12_operand_197 : decode cX12_operand 197 = .ok (.invokevirtual 195, 3) := by decide +kernel
theorem dX12_operand_200 : decode cX12_operand 200 = .ok (.iconst 1, 1) := by decide +kernel
theorem dX12_operand_201 : decode cX12_operand 201 = .ok (.ireturn, 1) := by decide +kernel
theorem dX12_operand_202 : decode cX12_operand 202 = .ok (.aload_n 0, 1) := by decide +kernel
theorem dX12_operand_203 : decode cX12_operand 203 = .ok (.getfield 166, 3) := by decide +kernel
theorem dX12_operand_206 : decode cX12_operand 206 = .ok (.iconst 3, 1) := by decide +kernel
theorem dX12_operand_207 : decode cX12_operand 207 = .ok (.if_icmp .ne 21, 3) := by decide +kernel
theorem dX12_operand_210 : decode cX12_operand 210 = .ok (.aload_n 0, 1) := by decide +kernel
theorem dX12_operand_211 : decode cX12_operand 211 = .ok (.getfield 176, 3) := by decide +kernel
theorem dX12_operand_214 : decode cX12_operand 214 = .ok (.bipush 60, 2) := by decide +kernel
theorem dX12_operand_216 : decode cX12_operand 216 = .ok (.if_icmp .lt 12, 3) := by decide +kernel
theorem dX12_operand_219 : decode cX12_operand 219 = .ok (.aload_n 0, 1) := by decide +kernel
theorem dX12_operand_220 : decode cX12_operand 220 = .ok (.getfield 176, 3) := by decide +kernel
theorem dX12_operand_223 : decode cX12_operand 223 = .ok (.bipush 62, 2) := by decide +kernel
theorem dX12_operand_225 : decode cX12_operand 225 = .ok (.if_icmp .le 9, 3) := by decide +kernel
theorem dX12_operand_228 : decode cX12_operand 228 = .ok (.aload_n 0, 1) := by decide +kernel
theorem dX12_operand_229 : decode cX12_operand 229 = .ok (.iconst 1, 1) := by decide +kernel
theorem dX12_operand_230 : decode cX12_operand 230 = .ok (.invokevirtual 192, 3) := by decide +kernel
theorem dX12_operand_233 : decode cX12_operand 233 = .ok (.ireturn, 1) := by decide +kernel
theorem dX12_operand_234 : decode cX12_operand 234 = .ok (.aload_n 0, 1) := by decide +kernel
theorem dX12_operand_235 : decode cX12_operand 235 = .ok (.getfield 176, 3) := by decide +kernel
theorem dX12_operand_238 : decode cX12_operand 238 = .ok (.istore 4, 2) := by decide +kernel
theorem dX12_operand_240 : decode cX12_operand 240 = .ok (.aload_n 0, 1) := by decide +kernel
theorem dX12_operand_241 : decode cX12_operand 241 = .ok (.invokevirtual 195, 3) := by decide +kernel
theorem dX12_operand_244 : decode cX12_operand 244 = .ok (.aload_n 0, 1) := by decide +kernel
theorem dX12_operand_245 : decode cX12_operand 245 = .ok (.getfield 166, 3) := by decide +kernel
theorem dX12_operand_248 : decode cX12_operand 248 = .ok (.iconst 2, 1) := by decide +kernel
theorem dX12_operand_249 : decode cX12_operand 249 = .ok (.if_icmp .eq 9, 3) := by decide +kernel
theorem dX12_operand_252 : decode cX12_operand 252 = .ok (.aload_n 0, 1) := by decide +kernel
theorem dX12_operand_253 : decode cX12_operand 253 = .ok (.iconst 1, 1) := by decide +kernel
theorem dX12_operand_254 : decode cX12_operand 254 = .ok (.invokevirtual 192, 3) := by decide +kernel
theorem dX12_operand_257 : decode cX12_operand 257 = .ok (.ireturn, 1) := by decide +kernel
theorem dX12_operand_258 : decode cX12_operand 258 = .ok (.aload_n 0, 1) := by decide +kernel
theorem dX12_operand_259 : decode cX12_operand 259 = .ok (.iload_n 3, 1) := by decide +kernel
theorem dX12_operand_260 : decode cX12_operand 260 = .ok (.iload 4, 2) := by decide +kernel
theorem dX12_operand_262 : decode cX12_operand 262 = .ok (.aload_n 0, 1) := by decide +kernel
theorem dX12_operand_263 : decode cX12_operand 263 = .ok (.getfield 176, 3) := by decide +kernel
theorem dX12_operand_266 : decode cX12_operand 266 = .ok (.invokevirtual 417, 3) := by decide +kernel
theorem dX12_operand_269 : decode cX12_operand 269 = .ok (.aload_n 0, 1) := by decide +kernel
theorem dX12_operand_270 : decode cX12_operand 270 = .ok (.invokevirtual 195, 3) := by decide +kernel
theorem dX12_operand_273 : decode cX12_operand 273 = .ok (.iconst 1, 1) := by decide +kernel
theorem dX12_operand_274 : decode cX12_operand 274 = .ok (.ireturn, 1) := by decide +kernel
set_option maxRecDepth 100000 in
set_option maxHeartbeats 4000000 in
theorem hs_operand (hF : ck_LKf ck_LK) (hC : ck_LKc ck_LK) (hM : ck_LKm ck_tags ck_LK ck_tab) (hMh : ∀ q ∈ ck_hl, ck_mOK ck_tags q.1 q.2.1 q.2.2.1 q.2.2.2) (hU : ck_uq ty ck_pvs0) (hun : ck_un ty) (hH1 : ∀ Ex', ck_ExP ty ck_prot1 Ex' → ∀ j, j < 331 → ck_Holds l D cys ty ck_tags ck_pvs0 Ex' (ck_tab j)) {a0 : Nat} (t0 : ty a0 = some 12) (hp : ck_pvo ty (ck_XE pvv) pPM pvv) (hI0 : SI C) (hw : (C 12 49).toInt = 0) : hr_Met l D cys ty ck_tags ck_pvs0 (tk ty ck_prot1 C) kh_12_operand [.ref a0] pvv (fun r pvv' E' => ck_pvo ty (ck_XE pvv') pPM pvv' ∧ (∀ j, j < 32 → j ∉ [13, 14, 24, 31] → pvv' j = pvv j) ∧ ∃ z : Int32, r = some (.int z) ∧ ∃ C' : Nat → Nat → Int32, E' = tk ty ck_prot1 C' ∧ sfr C C' ∧ (z.toInt = 0 ∨ (z.toInt = 1 ∧ SI C' ∧ (C' 12 46).toInt = (C 12 46).toInt + 1 ∧ (C' 12 47).toInt ≤ (C 12 47).toInt + 1))) := by
  refine hr_enter (by decide +kernel) (by decide +kernel) (by decide +kernel) ⟨hr_aR t0, True.intro⟩ ?_
  intro p e s m below meth c ls B hl hW
  have hx := B.1
  have hb : c.code = cX12_operand := B.2.1
  have hI := pv_inj
  have hS : va_S (ck_own ty) s.heap s.heap [] := va_S.rf
  have hl : lv_has ls 5 [(0, .ref a0)] := hl
  have sm : ∀ j, j < 32 → j ∉ [13, 14, 24, 31] → pvv j = pvv j := fun _ _ _ => rfl
  obtain ⟨s1, s2, s3, s4, s5, s6, s7, s8⟩ := id hI0
  have l76 : ∀ (n76 : Nat) (lf : Int32) (op : Int32) (nt : Int32) (pvv1 : Nat → Int32) (C2 : Nat → Nat → Int32) (ls : Array Slot) (H : Heap) (locs : List Loc), (0 : Int) < n76 → (-1 ≤ lf.toInt) → (lf.toInt ≤ 7) → (nt.toInt = 0 → op.toInt = 0 → 0 ≤ lf.toInt) → (∀ t j, ¬ (t = 12 ∧ j = 46) → C2 t j = C t j) → ((C2 12 46).toInt = (C 12 46).toInt + 1) → ((C 12 46).toInt ≤ 19) → (∀ j, j < 32 → j ∉ [13, 14, 24, 31] → pvv1 j = pvv j) → (ck_pvo ty (ck_XE pvv1) pPM pvv1) → lv_has ls 5 [(3, .int lf), (2, .int op), (1, .int nt), (0, .ref a0)] → ck_Wo D cys ty ck_tags ck_pvs0 (tk ty ck_prot1 C2) pvv1 H → va_S (ck_own ty) s.heap H locs → W p l e (ck_rm kh_12_operand) s m [Value.ref a0].toArray below meth c H locs 0 0 (MQ below (hr_Q D cys ty ck_tags ck_pvs0 (fun r pvv' E' => ck_pvo ty (ck_XE pvv') pPM pvv' ∧ (∀ j, j < 32 → j ∉ [13, 14, 24, 31] → pvv' j = pvv j) ∧ ∃ z : Int32, r = some (.int z) ∧ ∃ C' : Nat → Nat → Int32, E' = tk ty ck_prot1 C' ∧ sfr C C' ∧ (z.toInt = 0 ∨ (z.toInt = 1 ∧ SI C' ∧ (C' 12 46).toInt = (C 12 46).toInt + 1 ∧ (C' 12 47).toInt ≤ (C 12 47).toInt + 1)))) [Value.ref a0].toArray s 0 0 (ck_own ty)) (F0 m 76 ls []) := by
    intro n76
    induction n76 with
    | zero => intro lf op nt pvv1 C2 ls H locs hm76 f1 f2 f3 hD hD2 hon sm hp hl hW hS; omega
    | succ n76 ih76 =>
      intro lf op nt pvv1 C2 ls H locs hm76 f1 f2 f3 hD hD2 hon sm hp hl hW hS
      refine lv_iload_n hx hb dX12_operand_76 rfl (lv_at hl 2 rfl) ?_
      refine hr_ne0 (tgt := 84) hx hb dX12_operand_77 (by decide) (fun h77 => ?_) (fun h77 => ?_)
      · refine lv_aload_n hx hb dX12_operand_84 rfl (lv_at hl 3 rfl) ?_
        refine hr_getR B hF hb hW (ci := 12) (j := 44) (cd := 3) t0 rfl (isF (by decide +kernel)) rfl dX12_operand_85 (fun az85 tz85 xz85 => ?_)
        refine lv_aload_n hx hb dX12_operand_88 rfl (lv_at hl 3 rfl) ?_
        refine hr_getI B hF hb hW (ci := 12) (j := 47) (cd := 0) t0 rfl (isF (by decide +kernel)) rfl dX12_operand_89 (fun z89 lz89 uz89 pz89 xz89 => ?_)
        have xz89 := tk_xo xz89 (fun _ h => h) (pq := ck_prot1) (C := C2) t0 (by decide); have kz89 := congrArg Int32.toInt xz89
        have e89 : z89.toInt = (C 12 47).toInt := by rw [kz89, hD 12 47 (by decide)]
        refine lv_iload_n hx hb dX12_operand_92 rfl (lv_at hl 2 rfl) ?_
        refine hr_eq0 (tgt := 101) hx hb dX12_operand_93 (by decide) (fun h93 => ?_) (fun h93 => ?_)
        · refine hr_bp hx hb dX12_operand_101 (by decide) (by decide) (fun z101 hz101 => ?_)
          refine hr_iastN B hb hU hW hS tz85 rfl (by omega) (by omega) ⟨ck_lo _, ck_hi _⟩ (tk_EA tz85 (fun a h => hun 43 (by decide) _ _ tz85 h)) (u := 0) (v := 44) (by omega) (by omega) (by decide) dX12_operand_103 (fun H locs hW hS => ?_)
          obtain ⟨C103, c103⟩ : ∃ f, f = tk_upd C2 43 (z89.toInt.toNat) z101 := ⟨_, rfl⟩
          rw [← c103] at hW
          refine lv_aload_n hx hb dX12_operand_104 rfl (lv_at hl 3 rfl) ?_
          refine lv_dup hx hb dX12_operand_105 rfl ?_
          refine hr_getI B hF hb hW (ci := 12) (j := 47) (cd := 0) t0 rfl (isF (by decide +kernel)) rfl dX12_operand_106 (fun z106 lz106 uz106 pz106 xz106 => ?_)
          have xz106 := tk_xo xz106 (fun _ h => h) (pq := ck_prot1) (C := C103) t0 (by decide); have kz106 := congrArg Int32.toInt xz106
          have e106 : z106.toInt = (C 12 47).toInt := by rw [kz106, c103, tk_unt (by decide), hD 12 47 (by decide)]
          refine hr_ic hx hb dX12_operand_109 (by decide) (fun z109 hz109 => ?_)
          refine hr_add hx hb dX12_operand_110 (by omega) (by omega) (fun z110 hz110 => ?_)
          refine hr_putN B hF hb hU hW hS (ci := 12) (j := 47) (cd := 0) t0 rfl (isF (by decide +kernel)) rfl (by omega) (by omega) (Or.inl rfl) (tk_EO t0 (fun a h => hun 12 (by decide) _ _ t0 h) (by decide)) (by decide) dX12_operand_111 (fun H locs hW hS => ?_)
          obtain ⟨C111, c111⟩ : ∃ f, f = tk_upd C103 12 (47) z110 := ⟨_, rfl⟩
          rw [← c111] at hW
          have k1 : (C111 12 47).toInt = (C 12 47).toInt + 1 := by rw [c111, tk_us]; omega
          have k2 : (C111 12 46).toInt = (C 12 46).toInt + 1 := by rw [c111, tk_unj (by decide), c103, tk_unt (by decide)]; exact hD2
          have k3 : (C111 12 49).toInt = 0 := by rw [c111, tk_unj (by decide), c103, tk_unt (by decide), hD 12 49 (by decide)]; exact hw
          have k6 : C111 12 45 = C 12 45 := by rw [c111, tk_unj (by decide), c103, tk_unt (by decide), hD 12 45 (by decide)]
          have k7 : (C111 12 45).toInt = (C 12 45).toInt := by rw [k6]
          have k4 : ∀ j, j ≠ z89.toInt.toNat → C111 43 j = C 43 j := fun j hj => by rw [c111, tk_unt (by decide), c103, tk_unj hj]; exact hD 43 j (fun q => absurd q.1 (by decide))
          have k4s : (C111 43 z89.toInt.toNat).toInt = z101.toInt := by rw [c111, tk_unt (by decide), c103, tk_us]
          have k5 : rf C111 = rf C := rf_co k6 (fun j => by rw [c111, tk_unt (by decide), c103, tk_unt (by decide)]; exact hD 36 j (fun q => absurd q.1 (by decide)))
          refine lv_aload_n hx hb dX12_operand_114 rfl (lv_at hl 3 rfl) ?_
          refine lv_dup hx hb dX12_operand_115 rfl ?_
          refine hr_getI B hF hb hW (ci := 12) (j := 48) (cd := 0) t0 rfl (isF (by decide +kernel)) rfl dX12_operand_116 (fun z116 lz116 uz116 pz116 xz116 => ?_)
          refine hr_ic hx hb dX12_operand_119 (by decide) (fun z119 hz119 => ?_)
          refine lv_iadd hx hb dX12_operand_120 (lv_topi (fun z120 hz120 => ?_))
          refine hr_putN B hF hb hU hW hS (ci := 12) (j := 48) (cd := 0) t0 rfl (isF (by decide +kernel)) rfl (ck_lo _) (ck_hi _) (Or.inl rfl) (hr_EO (tk_X1 (C := C111)) t0 (by decide)) (by decide) dX12_operand_121 (fun H locs hW hS => ?_)
          refine hr_ic hx hb dX12_operand_124 (by decide) (fun z124 hz124 => ?_)
          refine hr_zret B hb rfl ⟨by omega, by omega⟩ ⟨hp, sm, z124, rfl, C111, rfl, ?_, Or.inr ⟨by omega, ?_, ?_, ?_⟩⟩ hW hS dX12_operand_125
          · exact fun t j h1 h2 h3 => by rw [c111, tk_un (fun q => h3 ⟨q.1, Or.inr (Or.inr (Or.inl q.2))⟩), c103, tk_unt h2]; exact hD t j (fun q => h3 ⟨q.1, Or.inr (Or.inl q.2)⟩)
          · refine ⟨by omega, by omega, by omega, by omega, by omega, by omega, by rw [k5]; exact s7, ?_⟩
            rw [k5, k6, s8, show (C111 12 47).toInt.toNat = z89.toInt.toNat + 1 by omega, bn_n (by omega) (by omega), bn_co (C := C) (fun j hj => k4 j (by omega)), show z89.toInt.toNat = (C 12 47).toInt.toNat by omega]; omega
          · omega
          · omega
        · refine hr_bp hx hb dX12_operand_96 (by decide) (by decide) (fun z96 hz96 => ?_)
          refine lv_goto (tgt := 103) hx hb dX12_operand_98 (by decide) ?_
          refine hr_iastN B hb hU hW hS tz85 rfl (by omega) (by omega) ⟨ck_lo _, ck_hi _⟩ (tk_EA tz85 (fun a h => hun 43 (by decide) _ _ tz85 h)) (u := 0) (v := 44) (by omega) (by omega) (by decide) dX12_operand_103 (fun H locs hW hS => ?_)
          obtain ⟨C103, c103⟩ : ∃ f, f = tk_upd C2 43 (z89.toInt.toNat) z96 := ⟨_, rfl⟩
          rw [← c103] at hW
          refine lv_aload_n hx hb dX12_operand_104 rfl (lv_at hl 3 rfl) ?_
          refine lv_dup hx hb dX12_operand_105 rfl ?_
          refine hr_getI B hF hb hW (ci := 12) (j := 47) (cd := 0) t0 rfl (isF (by decide +kernel)) rfl dX12_operand_106 (fun z106 lz106 uz106 pz106 xz106 => ?_)
          have xz106 := tk_xo xz106 (fun _ h => h) (pq := ck_prot1) (C := C103) t0 (by decide); have kz106 := congrArg Int32.toInt xz106
          have e106 : z106.toInt = (C 12 47).toInt := by rw [kz106, c103, tk_unt (by decide), hD 12 47 (by decide)]
          refine hr_ic hx hb dX12_operand_109 (by decide) (fun z109 hz109 => ?_)
          refine hr_add hx hb dX12_operand_110 (by omega) (by omega) (fun z110 hz110 => ?_)
          refine hr_putN B hF hb hU hW hS (ci := 12) (j := 47) (cd := 0) t0 rfl (isF (by decide +kernel)) rfl (by omega) (by omega) (Or.inl rfl) (tk_EO t0 (fun a h => hun 12 (by decide) _ _ t0 h) (by decide)) (by decide) dX12_operand_111 (fun H locs hW hS => ?_)
          obtain ⟨C111, c111⟩ : ∃ f, f = tk_upd C103 12 (47) z110 := ⟨_, rfl⟩
          rw [← c111] at hW
          have k1 : (C111 12 47).toInt = (C 12 47).toInt + 1 := by rw [c111, tk_us]; omega
          have k2 : (C111 12 46).toInt = (C 12 46).toInt + 1 := by rw [c111, tk_unj (by decide), c103, tk_unt (by decide)]; exact hD2
          have k3 : (C111 12 49).toInt = 0 := by rw [c111, tk_unj (by decide), c103, tk_unt (by decide), hD 12 49 (by decide)]; exact hw
          have k6 : C111 12 45 = C 12 45 := by rw [c111, tk_unj (by decide), c103, tk_unt (by decide), hD 12 45 (by decide)]
          have k7 : (C111 12 45).toInt = (C 12 45).toInt := by rw [k6]
          have k4 : ∀ j, j ≠ z89.toInt.toNat → C111 43 j = C 43 j := fun j hj => by rw [c111, tk_unt (by decide), c103, tk_unj hj]; exact hD 43 j (fun q => absurd q.1 (by decide))
          have k4s : (C111 43 z89.toInt.toNat).toInt = z96.toInt := by rw [c111, tk_unt (by decide), c103, tk_us]
          have k5 : rf C111 = rf C := rf_co k6 (fun j => by rw [c111, tk_unt (by decide), c103, tk_unt (by decide)]; exact hD 36 j (fun q => absurd q.1 (by decide)))
          refine lv_aload_n hx hb dX12_operand_114 rfl (lv_at hl 3 rfl) ?_
          refine lv_dup hx hb dX12_operand_115 rfl ?_
          refine hr_getI B hF hb hW (ci := 12) (j := 48) (cd := 0) t0 rfl (isF (by decide +kernel)) rfl dX12_operand_116 (fun z116 lz116 uz116 pz116 xz116 => ?_)
          refine hr_ic hx hb dX12_operand_119 (by decide) (fun z119 hz119 => ?_)
          refine lv_iadd hx hb dX12_operand_120 (lv_topi (fun z120 hz120 => ?_))
          refine hr_putN B hF hb hU hW hS (ci := 12) (j := 48) (cd := 0) t0 rfl (isF (by decide +kernel)) rfl (ck_lo _) (ck_hi _) (Or.inl rfl) (hr_EO (tk_X1 (C := C111)) t0 (by decide)) (by decide) dX12_operand_121 (fun H locs hW hS => ?_)
          refine hr_ic hx hb dX12_operand_124 (by decide) (fun z124 hz124 => ?_)
          refine hr_zret B hb rfl ⟨by omega, by omega⟩ ⟨hp, sm, z124, rfl, C111, rfl, ?_, Or.inr ⟨by omega, ?_, ?_, ?_⟩⟩ hW hS dX12_operand_125
          · exact fun t j h1 h2 h3 => by rw [c111, tk_un (fun q => h3 ⟨q.1, Or.inr (Or.inr (Or.inl q.2))⟩), c103, tk_unt h2]; exact hD t j (fun q => h3 ⟨q.1, Or.inr (Or.inl q.2)⟩)
          · refine ⟨by omega, by omega, by omega, by omega, by omega, by omega, by rw [k5]; exact s7, ?_⟩
            rw [k5, k6, s8, show (C111 12 47).toInt.toNat = z89.toInt.toNat + 1 by omega, bn_n (by omega) (by omega), bn_co (C := C) (fun j hj => k4 j (by omega)), show z89.toInt.toNat = (C 12 47).toInt.toNat by omega]; omega
          · omega
          · omega
      · refine lv_iload_n hx hb dX12_operand_80 rfl (lv_at hl 1 rfl) ?_
        refine hr_eq0 (tgt := 126) hx hb dX12_operand_81 (by decide) (fun h81 => ?_) (fun h81 => ?_)
        · refine lv_aload_n hx hb dX12_operand_126 rfl (lv_at hl 3 rfl) ?_
          refine hr_ic hx hb dX12_operand_127 (by decide) (fun z127 hz127 => ?_)
          refine hr_putN B hF hb hU hW hS (ci := 12) (j := 49) (cd := 1) t0 rfl (isF (by decide +kernel)) rfl (by omega) (by omega) (Or.inr ⟨rfl, by omega, by omega⟩) (tk_EO t0 (fun a h => hun 12 (by decide) _ _ t0 h) (by decide)) (by decide) dX12_operand_128 (fun H locs hW hS => ?_)
          obtain ⟨C128, c128⟩ : ∃ f, f = tk_upd C2 12 (49) z127 := ⟨_, rfl⟩
          rw [← c128] at hW
          have kf0 : sfr C C128 := fun t j h1 h2 h3 => by rw [c128, tk_un (fun q => h3 ⟨q.1, Or.inr (Or.inr (Or.inr q.2))⟩)]; exact hD t j (fun q => h3 ⟨q.1, Or.inr (Or.inl q.2)⟩)
          refine lv_iload_n hx hb dX12_operand_131 rfl (lv_at hl 0 rfl) ?_
          refine hr_ic hx hb dX12_operand_132 (by decide) (fun z132 hz132 => ?_)
          refine hr_ge (tgt := 145) hx hb dX12_operand_133 (by decide) (fun h133 => ?_) (fun h133 => ?_)
          · refine lv_iload_n hx hb dX12_operand_145 rfl (lv_at hl 0 rfl) ?_
            refine hr_ic hx hb dX12_operand_146 (by decide) (fun z146 hz146 => ?_)
            refine hr_ne (tgt := 202) hx hb dX12_operand_147 (by decide) (fun h147 => ?_) (fun h147 => ?_)
            · refine lv_aload_n hx hb dX12_operand_202 rfl (lv_at hl 3 rfl) ?_
              refine hr_getI B hF hb hW (ci := 12) (j := 11) (cd := 0) t0 rfl (isF (by decide +kernel)) rfl dX12_operand_203 (fun z203 lz203 uz203 pz203 xz203 => ?_)
              have pz203 := congrArg Int32.toInt (pz203 14 rfl)
              refine hr_ic hx hb dX12_operand_206 (by decide) (fun z206 hz206 => ?_)
              refine hr_ne (tgt := 228) hx hb dX12_operand_207 (by decide) (fun h207 => ?_) (fun h207 => ?_)
              · refine lv_aload_n hx hb dX12_operand_228 rfl (lv_at hl 3 rfl) ?_
                refine hr_ic hx hb dX12_operand_229 (by decide) (fun z229 hz229 => ?_)
                refine cm_callV (kc := kc_205) B rfl hb hl (hM.1 _ _ 0 [205] (isM (by decide +kernel)) 205 (by decide)) (hH1 _ tk_X1 205 (by decide)) (b := a0) (As := [.int z229]) ⟨hr_aR t0, hr_aI (by omega) (by omega), True.intro⟩ hp hW hS rfl (by decide) (by decide) (Nat.le_of_ble_eq_true rfl) dX12_operand_230 (fun cs hcs r pvv230 H locs hca hW hS => ?_)
                obtain rfl := List.mem_singleton.mp hcs
                obtain ⟨hr, hq, hc⟩ := hca
                obtain ⟨z230, rfl, lz230, uz230⟩ := hr_rvI hr
                have hp := hr_std hp hc (by decide +kernel)
                have e230w14 := congrArg Int32.toInt (hr_same1 hc (j := 14) (by decide +kernel))
                have sm : ∀ j, j < 32 → j ∉ [13, 14, 24, 31] → pvv230 j = pvv j := fun j h1 h2 => (hr_sameX (l := [13, 14, 24, 31]) hc (by decide +kernel) j h1 h2).trans (sm j h1 h2)
                exact hr_zret B hb rfl ⟨by omega, by omega⟩ ⟨hp, sm, z230, rfl, C128, rfl, kf0, Or.inl (by omega)⟩ hW hS dX12_operand_233
              · refine lv_aload_n hx hb dX12_operand_210 rfl (lv_at hl 3 rfl) ?_
                refine hr_getI B hF hb hW (ci := 12) (j := 14) (cd := 0) t0 rfl (isF (by decide +kernel)) rfl dX12_operand_211 (fun z211 lz211 uz211 pz211 xz211 => ?_)
                refine hr_bp hx hb dX12_operand_214 (by decide) (by decide) (fun z214 hz214 => ?_)
                refine hr_lt (tgt := 228) hx hb dX12_operand_216 (by decide) (fun h216 => ?_) (fun h216 => ?_)
                · refine lv_aload_n hx hb dX12_operand_228 rfl (lv_at hl 3 rfl) ?_
                  refine hr_ic hx hb dX12_operand_229 (by decide) (fun z229 hz229 => ?_)
                  refine cm_callV (kc := kc_205) B rfl hb hl (hM.1 _ _ 0 [205] (isM (by decide +kernel)) 205 (by decide)) (hH1 _ tk_X1 205 (by decide)) (b := a0) (As := [.int z229]) ⟨hr_aR t0, hr_aI (by omega) (by omega), True.intro⟩ hp hW hS rfl (by decide) (by decide) (Nat.le_of_ble_eq_true rfl) dX12_operand_230 (fun cs hcs r pvv230 H locs hca hW hS => ?_)
                  obtain rfl := List.mem_singleton.mp hcs
                  obtain ⟨hr, hq, hc⟩ := hca
                  obtain ⟨z230, rfl, lz230, uz230⟩ := hr_rvI hr
                  have hp := hr_std hp hc (by decide +kernel)
                  have e230w14 := congrArg Int32.toInt (hr_same1 hc (j := 14) (by decide +kernel))
                  have sm : ∀ j, j < 32 → j ∉ [13, 14, 24, 31] → pvv230 j = pvv j := fun j h1 h2 => (hr_sameX (l := [13, 14, 24, 31]) hc (by decide +kernel) j h1 h2).trans (sm j h1 h2)
                  exact hr_zret B hb rfl ⟨by omega, by omega⟩ ⟨hp, sm, z230, rfl, C128, rfl, kf0, Or.inl (by omega)⟩ hW hS dX12_operand_233
                · refine lv_aload_n hx hb dX12_operand_219 rfl (lv_at hl 3 rfl) ?_
                  refine hr_getI B hF hb hW (ci := 12) (j := 14) (cd := 0) t0 rfl (isF (by decide +kernel)) rfl dX12_operand_220 (fun z220 lz220 uz220 pz220 xz220 => ?_)
                  refine hr_bp hx hb dX12_operand_223 (by decide) (by decide) (fun z223 hz223 => ?_)
                  refine hr_le (tgt := 234) hx hb dX12_operand_225 (by decide) (fun h225 => ?_) (fun h225 => ?_)
                  · refine lv_aload_n hx hb dX12_operand_234 rfl (lv_at hl 3 rfl) ?_
                    refine hr_getI B hF hb hW (ci := 12) (j := 14) (cd := 0) t0 rfl (isF (by decide +kernel)) rfl dX12_operand_235 (fun z235 lz235 uz235 pz235 xz235 => ?_)
                    refine lv_istore hx hb dX12_operand_238 hl (lv' := [(4, .int z235), (3, .int lf), (2, .int op), (1, .int nt), (0, .ref a0)]) (by decide) rfl (fun ls hl => ?_)
                    refine lv_aload_n hx hb dX12_operand_240 rfl (lv_at hl 4 rfl) ?_
                    refine cm_callV (kc := kc_209) B rfl hb hl (hM.1 _ _ 0 [209] (isM (by decide +kernel)) 209 (by decide)) (hH1 _ tk_X1 209 (by decide)) (b := a0) (As := []) ⟨hr_aR t0, True.intro⟩ hp hW hS rfl (by decide) (by decide) (Nat.le_of_ble_eq_true rfl) dX12_operand_241 (fun cs hcs r pvv241 H locs hca hW hS => ?_)
                    rcases List.mem_cons.mp hcs with rfl | hcs
                    · obtain ⟨hr, hq, hc⟩ := hca
                      obtain rfl := hr_rv0 hr
                      have hp := hr_std hp hc (by decide +kernel)
                      have e241r14 := hr_pv hc 14 (lo := 0) (hi := 0) rfl
                      have sm : ∀ j, j < 32 → j ∉ [13, 14, 24, 31] → pvv241 j = pvv j := fun j h1 h2 => (hr_sameX (l := [13, 14, 24, 31]) hc (by decide +kernel) j h1 h2).trans (sm j h1 h2)
                      refine lv_aload_n hx hb dX12_operand_244 rfl (lv_at hl 4 rfl) ?_
                      refine hr_getI B hF hb hW (ci := 12) (j := 11) (cd := 0) t0 rfl (isF (by decide +kernel)) rfl dX12_operand_245 (fun z245 lz245 uz245 pz245 xz245 => ?_)
                      have pz245 := congrArg Int32.toInt (pz245 14 rfl)
                      refine hr_ic hx hb dX12_operand_248 (by decide) (fun z248 hz248 => ?_)
                      refine hr_eq (tgt := 258) hx hb dX12_operand_249 (by decide) (fun h249 => ?_) (fun h249 => ?_)
                      · refine lv_aload_n hx hb dX12_operand_258 rfl (lv_at hl 4 rfl) ?_
                        refine lv_iload_n hx hb dX12_operand_259 rfl (lv_at hl 1 rfl) ?_
                        refine lv_iload hx hb dX12_operand_260 (lv_at hl 0 rfl) ?_
                        refine lv_aload_n hx hb dX12_operand_262 rfl (lv_at hl 4 rfl) ?_
                        refine hr_getI B hF hb hW (ci := 12) (j := 14) (cd := 0) t0 rfl (isF (by decide +kernel)) rfl dX12_operand_263 (fun z263 lz263 uz263 pz263 xz263 => ?_)
                        refine hr_callV (kc := kh_12_code) B rfl hb hl (hMh _ (List.mem_of_getElem? (i := 11) rfl)) (b := a0) (As := [.int lf, .int z235, .int z263]) (hs_code hF hC hM hMh hU hun hH1 t0 (C := C128) ⟨by rw [c128, tk_unj (by decide), hD 12 45 (by decide)]; omega, by rw [c128, tk_unj (by decide), hD 12 45 (by decide)]; omega⟩) ⟨hr_aR t0, hr_aF, hr_aF, hr_aF, True.intro⟩ hW hS rfl (by decide) (by decide) (Nat.le_of_ble_eq_true rfl) dX12_operand_266 (fun r pvv266 E266 H locs hpost hW hS => ?_)
                        obtain ⟨rfl, rfl, Cc, rfl, d1, d2, d3, d4⟩ := hpost
                        have q1 : C128 12 45 = C 12 45 := by rw [c128, tk_unj (by decide), hD 12 45 (by decide)]
                        rw [q1] at d1 d2 d3
                        have k1 : (Cc 12 47).toInt = (C 12 47).toInt := by rw [d4 12 47 (by decide) (by decide), c128, tk_unj (by decide), hD 12 47 (by decide)]
                        have k2 : (Cc 12 46).toInt = (C 12 46).toInt + 1 := by rw [d4 12 46 (by decide) (by decide), c128, tk_unj (by decide)]; exact hD2
                        have k3 : (Cc 12 49).toInt = 1 := by rw [d4 12 49 (by decide) (by decide), c128, tk_us]; omega
                        have k4 : ∀ j, Cc 43 j = C 43 j := fun j => by rw [d4 43 j (by decide) (fun q => absurd q.1 (by decide)), c128, tk_unt (by decide)]; exact hD 43 j (fun q => absurd q.1 (by decide))
                        have k5 : ∀ j, j < 3 * (C 12 45).toInt.toNat → Cc 36 j = C 36 j := fun j hj => by rw [d3 j hj, c128, tk_unt (by decide)]; exact hD 36 j (fun q => absurd q.1 (by decide))
                        have kd := code_ok (C := C) (C' := Cc) (n := (C 12 45).toInt.toNat) (by omega) (by omega) k5 s7 (fun h9 => by rw [d2] at h9; omega) (fun h9 => by rw [d2] at h9; omega)
                        have kI : SI Cc := by
                          refine ⟨by omega, by omega, by omega, by omega, by omega, by omega, kd.1, ?_⟩
                          rw [show (Cc 12 45).toInt.toNat = (C 12 45).toInt.toNat + 1 by omega, dp_leaf (by rw [rf_s, d2]; omega) (by rw [rf_s, d2]; omega) (by rw [rf_s, d2]; omega), kd.2, s8, k1, k3, bn_co (fun j _ => k4 j)]; omega
                        have kf : sfr C Cc := fun t j h1 h2 h3 => by rw [d4 t j h1 (fun q => h3 ⟨q.1, Or.inl q.2⟩)]; exact kf0 t j h1 h2 h3
                        refine lv_aload_n hx hb dX12_operand_269 rfl (lv_at hl 4 rfl) ?_
                        refine cm_callV (kc := kc_209) B rfl hb hl (hM.1 _ _ 0 [209] (isM (by decide +kernel)) 209 (by decide)) (hH1 _ tk_X1 209 (by decide)) (b := a0) (As := []) ⟨hr_aR t0, True.intro⟩ hp hW hS rfl (by decide) (by decide) (Nat.le_of_ble_eq_true rfl) dX12_operand_270 (fun cs hcs r pvv270 H locs hca hW hS => ?_)
                        rcases List.mem_cons.mp hcs with rfl | hcs
                        · obtain ⟨hr, hq, hc⟩ := hca
                          obtain rfl := hr_rv0 hr
                          have hp := hr_std hp hc (by decide +kernel)
                          have e270r14 := hr_pv hc 14 (lo := 0) (hi := 0) rfl
                          have sm : ∀ j, j < 32 → j ∉ [13, 14, 24, 31] → pvv270 j = pvv j := fun j h1 h2 => (hr_sameX (l := [13, 14, 24, 31]) hc (by decide +kernel) j h1 h2).trans (sm j h1 h2)
                          refine hr_ic hx hb dX12_operand_273 (by decide) (fun z273 hz273 => ?_)
                          exact hr_zret B hb rfl ⟨by omega, by omega⟩ ⟨hp, sm, z273, rfl, Cc, rfl, kf, Or.inr ⟨by omega, kI, by omega, by omega⟩⟩ hW hS dX12_operand_274
                        rcases List.mem_cons.mp hcs with rfl | hcs
                        · obtain ⟨hr, hq, hc⟩ := hca
                          obtain rfl := hr_rv0 hr
                          have hp := hr_std hp hc (by decide +kernel)
                          have e270r14 := hr_pv hc 14 (lo := 4) (hi := 4) rfl
                          have sm : ∀ j, j < 32 → j ∉ [13, 14, 24, 31] → pvv270 j = pvv j := fun j h1 h2 => (hr_sameX (l := [13, 14, 24, 31]) hc (by decide +kernel) j h1 h2).trans (sm j h1 h2)
                          refine hr_ic hx hb dX12_operand_273 (by decide) (fun z273 hz273 => ?_)
                          exact hr_zret B hb rfl ⟨by omega, by omega⟩ ⟨hp, sm, z273, rfl, Cc, rfl, kf, Or.inr ⟨by omega, kI, by omega, by omega⟩⟩ hW hS dX12_operand_274
                        rcases List.mem_cons.mp hcs with rfl | hcs
                        · obtain ⟨hr, hq, hc⟩ := hca
                          obtain rfl := hr_rv0 hr
                          have hp := hr_std hp hc (by decide +kernel)
                          have e270r14 := hr_pv hc 14 (lo := 3) (hi := 3) rfl
                          have sm : ∀ j, j < 32 → j ∉ [13, 14, 24, 31] → pvv270 j = pvv j := fun j h1 h2 => (hr_sameX (l := [13, 14, 24, 31]) hc (by decide +kernel) j h1 h2).trans (sm j h1 h2)
                          refine hr_ic hx hb dX12_operand_273 (by decide) (fun z273 hz273 => ?_)
                          exact hr_zret B hb rfl ⟨by omega, by omega⟩ ⟨hp, sm, z273, rfl, Cc, rfl, kf, Or.inr ⟨by omega, kI, by omega, by omega⟩⟩ hW hS dX12_operand_274
                        obtain rfl := List.mem_singleton.mp hcs
                        obtain ⟨hr, hq, hc⟩ := hca
                        obtain rfl := hr_rv0 hr
                        have hp := hr_std hp hc (by decide +kernel)
                        have e270r14 := hr_pv hc 14 (lo := 1) (hi := 2) rfl
                        have sm : ∀ j, j < 32 → j ∉ [13, 14, 24, 31] → pvv270 j = pvv j := fun j h1 h2 => (hr_sameX (l := [13, 14, 24, 31]) hc (by decide +kernel) j h1 h2).trans (sm j h1 h2)
                        refine hr_ic hx hb dX12_operand_273 (by decide) (fun z273 hz273 => ?_)
                        exact hr_zret B hb rfl ⟨by omega, by omega⟩ ⟨hp, sm, z273, rfl, Cc, rfl, kf, Or.inr ⟨by omega, kI, by omega, by omega⟩⟩ hW hS dX12_operand_274
                      · refine lv_aload_n hx hb dX12_operand_252 rfl (lv_at hl 4 rfl) ?_
                        refine hr_ic hx hb dX12_operand_253 (by decide) (fun z253 hz253 => ?_)
                        refine cm_callV (kc := kc_205) B rfl hb hl (hM.1 _ _ 0 [205] (isM (by decide +kernel)) 205 (by decide)) (hH1 _ tk_X1 205 (by decide)) (b := a0) (As := [.int z253]) ⟨hr_aR t0, hr_aI (by omega) (by omega), True.intro⟩ hp hW hS rfl (by decide) (by decide) (Nat.le_of_ble_eq_true rfl) dX12_operand_254 (fun cs hcs r pvv254 H locs hca hW hS => ?_)
                        obtain rfl := List.mem_singleton.mp hcs
                        obtain ⟨hr, hq, hc⟩ := hca
                        obtain ⟨z254, rfl, lz254, uz254⟩ := hr_rvI hr
                        have hp := hr_std hp hc (by decide +kernel)
                        have e254w14 := congrArg Int32.toInt (hr_same1 hc (j := 14) (by decide +kernel))
                        have sm : ∀ j, j < 32 → j ∉ [13, 14, 24, 31] → pvv254 j = pvv j := fun j h1 h2 => (hr_sameX (l := [13, 14, 24, 31]) hc (by decide +kernel) j h1 h2).trans (sm j h1 h2)
                        exact hr_zret B hb rfl ⟨by omega, by omega⟩ ⟨hp, sm, z254, rfl, C128, rfl, kf0, Or.inl (by omega)⟩ hW hS dX12_operand_257
                    rcases List.mem_cons.mp hcs with rfl | hcs
                    · obtain ⟨hr, hq, hc⟩ := hca
                      obtain rfl := hr_rv0 hr
                      have hp := hr_std hp hc (by decide +kernel)
                      have e241r14 := hr_pv hc 14 (lo := 4) (hi := 4) rfl
                      have sm : ∀ j, j < 32 → j ∉ [13, 14, 24, 31] → pvv241 j = pvv j := fun j h1 h2 => (hr_sameX (l := [13, 14, 24, 31]) hc (by decide +kernel) j h1 h2).trans (sm j h1 h2)
                      refine lv_aload_n hx hb dX12_operand_244 rfl (lv_at hl 4 rfl) ?_
                      refine hr_getI B hF hb hW (ci := 12) (j := 11) (cd := 0) t0 rfl (isF (by decide +kernel)) rfl dX12_operand_245 (fun z245 lz245 uz245 pz245 xz245 => ?_)
                      have pz245 := congrArg Int32.toInt (pz245 14 rfl)
                      refine hr_ic hx hb dX12_operand_248 (by decide) (fun z248 hz248 => ?_)
                      refine hr_eq (tgt := 258) hx hb dX12_operand_249 (by decide) (fun h249 => ?_) (fun h249 => ?_)
                      · refine lv_aload_n hx hb dX12_operand_258 rfl (lv_at hl 4 rfl) ?_
                        refine lv_iload_n hx hb dX12_operand_259 rfl (lv_at hl 1 rfl) ?_
                        refine lv_iload hx hb dX12_operand_260 (lv_at hl 0 rfl) ?_
                        refine lv_aload_n hx hb dX12_operand_262 rfl (lv_at hl 4 rfl) ?_
                        refine hr_getI B hF hb hW (ci := 12) (j := 14) (cd := 0) t0 rfl (isF (by decide +kernel)) rfl dX12_operand_263 (fun z263 lz263 uz263 pz263 xz263 => ?_)
                        refine hr_callV (kc := kh_12_code) B rfl hb hl (hMh _ (List.mem_of_getElem? (i := 11) rfl)) (b := a0) (As := [.int lf, .int z235, .int z263]) (hs_code hF hC hM hMh hU hun hH1 t0 (C := C128) ⟨by rw [c128, tk_unj (by decide), hD 12 45 (by decide)]; omega, by rw [c128, tk_unj (by decide), hD 12 45 (by decide)]; omega⟩) ⟨hr_aR t0, hr_aF, hr_aF, hr_aF, True.intro⟩ hW hS rfl (by decide) (by decide) (Nat.le_of_ble_eq_true rfl) dX12_operand_266 (fun r pvv266 E266 H locs hpost hW hS => ?_)
                        obtain ⟨rfl, rfl, Cc, rfl, d1, d2, d3, d4⟩ := hpost
                        have q1 : C128 12 45 = C 12 45 := by rw [c128, tk_unj (by decide), hD 12 45 (by decide)]
                        rw [q1] at d1 d2 d3
                        have k1 : (Cc 12 47).toInt = (C 12 47).toInt := by rw [d4 12 47 (by decide) (by decide), c128, tk_unj (by decide), hD 12 47 (by decide)]
                        have k2 : (Cc 12 46).toInt = (C 12 46).toInt + 1 := by rw [d4 12 46 (by decide) (by decide), c128, tk_unj (by decide)]; exact hD2
                        have k3 : (Cc 12 49).toInt = 1 := by rw [d4 12 49 (by decide) (by decide), c128, tk_us]; omega
                        have k4 : ∀ j, Cc 43 j = C 43 j := fun j => by rw [d4 43 j (by decide) (fun q => absurd q.1 (by decide)), c128, tk_unt (by decide)]; exact hD 43 j (fun q => absurd q.1 (by decide))
                        have k5 : ∀ j, j < 3 * (C 12 45).toInt.toNat → Cc 36 j = C 36 j := fun j hj => by rw [d3 j hj, c128, tk_unt (by decide)]; exact hD 36 j (fun q => absurd q.1 (by decide))
                        have kd := code_ok (C := C) (C' := Cc) (n := (C 12 45).toInt.toNat) (by omega) (by omega) k5 s7 (fun h9 => by rw [d2] at h9; omega) (fun h9 => by rw [d2] at h9; omega)
                        have kI : SI Cc := by
                          refine ⟨by omega, by omega, by omega, by omega, by omega, by omega, kd.1, ?_⟩
                          rw [show (Cc 12 45).toInt.toNat = (C 12 45).toInt.toNat + 1 by omega, dp_leaf (by rw [rf_s, d2]; omega) (by rw [rf_s, d2]; omega) (by rw [rf_s, d2]; omega), kd.2, s8, k1, k3, bn_co (fun j _ => k4 j)]; omega
                        have kf : sfr C Cc := fun t j h1 h2 h3 => by rw [d4 t j h1 (fun q => h3 ⟨q.1, Or.inl q.2⟩)]; exact kf0 t j h1 h2 h3
                        refine lv_aload_n hx hb dX12_operand_269 rfl (lv_at hl 4 rfl) ?_
                        refine cm_callV (kc := kc_209) B rfl hb hl (hM.1 _ _ 0 [209] (isM (by decide +kernel)) 209 (by decide)) (hH1 _ tk_X1 209 (by decide)) (b := a0) (As := []) ⟨hr_aR t0, True.intro⟩ hp hW hS rfl (by decide) (by decide) (Nat.le_of_ble_eq_true rfl) dX12_operand_270 (fun cs hcs r pvv270 H locs hca hW hS => ?_)
                        rcases List.mem_cons.mp hcs with rfl | hcs
                        · obtain ⟨hr, hq, hc⟩ := hca
                          obtain rfl := hr_rv0 hr
                          have hp := hr_std hp hc (by decide +kernel)
                          have e270r14 := hr_pv hc 14 (lo := 0) (hi := 0) rfl
                          have sm : ∀ j, j < 32 → j ∉ [13, 14, 24, 31] → pvv270 j = pvv j := fun j h1 h2 => (hr_sameX (l := [13, 14, 24, 31]) hc (by decide +kernel) j h1 h2).trans (sm j h1 h2)
                          refine hr_ic hx hb dX12_operand_273 (by decide) (fun z273 hz273 => ?_)
                          exact hr_zret B hb rfl ⟨by omega, by omega⟩ ⟨hp, sm, z273, rfl, Cc, rfl, kf, Or.inr ⟨by omega, kI, by omega, by omega⟩⟩ hW hS dX12_operand_274
                        rcases List.mem_cons.mp hcs with rfl | hcs
                        · obtain ⟨hr, hq, hc⟩ := hca
                          obtain rfl := hr_rv0 hr
                          have hp := hr_std hp hc (by decide +kernel)
                          have e270r14 := hr_pv hc 14 (lo := 4) (hi := 4) rfl
                          have sm : ∀ j, j < 32 → j ∉ [13, 14, 24, 31] → pvv270 j = pvv j := fun j h1 h2 => (hr_sameX (l := [13, 14, 24, 31]) hc (by decide +kernel) j h1 h2).trans (sm j h1 h2)
                          refine hr_ic hx hb dX12_operand_273 (by decide) (fun z273 hz273 => ?_)
                          exact hr_zret B hb rfl ⟨by omega, by omega⟩ ⟨hp, sm, z273, rfl, Cc, rfl, kf, Or.inr ⟨by omega, kI, by omega, by omega⟩⟩ hW hS dX12_operand_274
                        rcases List.mem_cons.mp hcs with rfl | hcs
                        · obtain ⟨hr, hq, hc⟩ := hca
                          obtain rfl := hr_rv0 hr
                          have hp := hr_std hp hc (by decide +kernel)
                          have e270r14 := hr_pv hc 14 (lo := 3) (hi := 3) rfl
                          have sm : ∀ j, j < 32 → j ∉ [13, 14, 24, 31] → pvv270 j = pvv j := fun j h1 h2 => (hr_sameX (l := [13, 14, 24, 31]) hc (by decide +kernel) j h1 h2).trans (sm j h1 h2)
                          refine hr_ic hx hb dX12_operand_273 (by decide) (fun z273 hz273 => ?_)
                          exact hr_zret B hb rfl ⟨by omega, by omega⟩ ⟨hp, sm, z273, rfl, Cc, rfl, kf, Or.inr ⟨by omega, kI, by omega, by omega⟩⟩ hW hS dX12_operand_274
                        obtain rfl := List.mem_singleton.mp hcs
                        obtain ⟨hr, hq, hc⟩ := hca
                        obtain rfl := hr_rv0 hr
                        have hp := hr_std hp hc (by decide +kernel)
                        have e270r14 := hr_pv hc 14 (lo := 1) (hi := 2) rfl
                        have sm : ∀ j, j < 32 → j ∉ [13, 14, 24, 31] → pvv270 j = pvv j := fun j h1 h2 => (hr_sameX (l := [13, 14, 24, 31]) hc (by decide +kernel) j h1 h2).trans (sm j h1 h2)
                        refine hr_ic hx hb dX12_operand_273 (by decide) (fun z273 hz273 => ?_)
                        exact hr_zret B hb rfl ⟨by omega, by omega⟩ ⟨hp, sm, z273, rfl, Cc, rfl, kf, Or.inr ⟨by omega, kI, by omega, by omega⟩⟩ hW hS dX12_operand_274
                      · refine lv_aload_n hx hb dX12_operand_252 rfl (lv_at hl 4 rfl) ?_
                        refine hr_ic hx hb dX12_operand_253 (by decide) (fun z253 hz253 => ?_)
                        refine cm_callV (kc := kc_205) B rfl hb hl (hM.1 _ _ 0 [205] (isM (by decide +kernel)) 205 (by decide)) (hH1 _ tk_X1 205 (by decide)) (b := a0) (As := [.int z253]) ⟨hr_aR t0, hr_aI (by omega) (by omega), True.intro⟩ hp hW hS rfl (by decide) (by decide) (Nat.le_of_ble_eq_true rfl) dX12_operand_254 (fun cs hcs r pvv254 H locs hca hW hS => ?_)
                        obtain rfl := List.mem_singleton.mp hcs
                        obtain ⟨hr, hq, hc⟩ := hca
                        obtain ⟨z254, rfl, lz254, uz254⟩ := hr_rvI hr
                        have hp := hr_std hp hc (by decide +kernel)
                        have e254w14 := congrArg Int32.toInt (hr_same1 hc (j := 14) (by decide +kernel))
                        have sm : ∀ j, j < 32 → j ∉ [13, 14, 24, 31] → pvv254 j = pvv j := fun j h1 h2 => (hr_sameX (l := [13, 14, 24, 31]) hc (by decide +kernel) j h1 h2).trans (sm j h1 h2)
                        exact hr_zret B hb rfl ⟨by omega, by omega⟩ ⟨hp, sm, z254, rfl, C128, rfl, kf0, Or.inl (by omega)⟩ hW hS dX12_operand_257
                    rcases List.mem_cons.mp hcs with rfl | hcs
                    · obtain ⟨hr, hq, hc⟩ := hca
                      obtain rfl := hr_rv0 hr
                      have hp := hr_std hp hc (by decide +kernel)
                      have e241r14 := hr_pv hc 14 (lo := 3) (hi := 3) rfl
                      have sm : ∀ j, j < 32 → j ∉ [13, 14, 24, 31] → pvv241 j = pvv j := fun j h1 h2 => (hr_sameX (l := [13, 14, 24, 31]) hc (by decide +kernel) j h1 h2).trans (sm j h1 h2)
                      refine lv_aload_n hx hb dX12_operand_244 rfl (lv_at hl 4 rfl) ?_
                      refine hr_getI B hF hb hW (ci := 12) (j := 11) (cd := 0) t0 rfl (isF (by decide +kernel)) rfl dX12_operand_245 (fun z245 lz245 uz245 pz245 xz245 => ?_)
                      have pz245 := congrArg Int32.toInt (pz245 14 rfl)
                      refine hr_ic hx hb dX12_operand_248 (by decide) (fun z248 hz248 => ?_)
                      refine hr_eq (tgt := 258) hx hb dX12_operand_249 (by decide) (fun h249 => ?_) (fun h249 => ?_)
                      · refine lv_aload_n hx hb dX12_operand_258 rfl (lv_at hl 4 rfl) ?_
                        refine lv_iload_n hx hb dX12_operand_259 rfl (lv_at hl 1 rfl) ?_
                        refine lv_iload hx hb dX12_operand_260 (lv_at hl 0 rfl) ?_
                        refine lv_aload_n hx hb dX12_operand_262 rfl (lv_at hl 4 rfl) ?_
                        refine hr_getI B hF hb hW (ci := 12) (j := 14) (cd := 0) t0 rfl (isF (by decide +kernel)) rfl dX12_operand_263 (fun z263 lz263 uz263 pz263 xz263 => ?_)
                        refine hr_callV (kc := kh_12_code) B rfl hb hl (hMh _ (List.mem_of_getElem? (i := 11) rfl)) (b := a0) (As := [.int lf, .int z235, .int z263]) (hs_code hF hC hM hMh hU hun hH1 t0 (C := C128) ⟨by rw [c128, tk_unj (by decide), hD 12 45 (by decide)]; omega, by rw [c128, tk_unj (by decide), hD 12 45 (by decide)]; omega⟩) ⟨hr_aR t0, hr_aF, hr_aF, hr_aF, True.intro⟩ hW hS rfl (by decide) (by decide) (Nat.le_of_ble_eq_true rfl) dX12_operand_266 (fun r pvv266 E266 H locs hpost hW hS => ?_)
                        obtain ⟨rfl, rfl, Cc, rfl, d1, d2, d3, d4⟩ := hpost
                        have q1 : C128 12 45 = C 12 45 := by rw [c128, tk_unj (by decide), hD 12 45 (by decide)]
                        rw [q1] at d1 d2 d3
                        have k1 : (Cc 12 47).toInt = (C 12 47).toInt := by rw [d4 12 47 (by decide) (by decide), c128, tk_unj (by decide), hD 12 47 (by decide)]
                        have k2 : (Cc 12 46).toInt = (C 12 46).toInt + 1 := by rw [d4 12 46 (by decide) (by decide), c128, tk_unj (by decide)]; exact hD2
                        have k3 : (Cc 12 49).toInt = 1 := by rw [d4 12 49 (by decide) (by decide), c128, tk_us]; omega
                        have k4 : ∀ j, Cc 43 j = C 43 j := fun j => by rw [d4 43 j (by decide) (fun q => absurd q.1 (by decide)), c128, tk_unt (by decide)]; exact hD 43 j (fun q => absurd q.1 (by decide))
                        have k5 : ∀ j, j < 3 * (C 12 45).toInt.toNat → Cc 36 j = C 36 j := fun j hj => by rw [d3 j hj, c128, tk_unt (by decide)]; exact hD 36 j (fun q => absurd q.1 (by decide))
                        have kd := code_ok (C := C) (C' := Cc) (n := (C 12 45).toInt.toNat) (by omega) (by omega) k5 s7 (fun h9 => by rw [d2] at h9; omega) (fun h9 => by rw [d2] at h9; omega)
                        have kI : SI Cc := by
                          refine ⟨by omega, by omega, by omega, by omega, by omega, by omega, kd.1, ?_⟩
                          rw [show (Cc 12 45).toInt.toNat = (C 12 45).toInt.toNat + 1 by omega, dp_leaf (by rw [rf_s, d2]; omega) (by rw [rf_s, d2]; omega) (by rw [rf_s, d2]; omega), kd.2, s8, k1, k3, bn_co (fun j _ => k4 j)]; omega
                        have kf : sfr C Cc := fun t j h1 h2 h3 => by rw [d4 t j h1 (fun q => h3 ⟨q.1, Or.inl q.2⟩)]; exact kf0 t j h1 h2 h3
                        refine lv_aload_n hx hb dX12_operand_269 rfl (lv_at hl 4 rfl) ?_
                        refine cm_callV (kc := kc_209) B rfl hb hl (hM.1 _ _ 0 [209] (isM (by decide +kernel)) 209 (by decide)) (hH1 _ tk_X1 209 (by decide)) (b := a0) (As := []) ⟨hr_aR t0, True.intro⟩ hp hW hS rfl (by decide) (by decide) (Nat.le_of_ble_eq_true rfl) dX12_operand_270 (fun cs hcs r pvv270 H locs hca hW hS => ?_)
                        rcases List.mem_cons.mp hcs with rfl | hcs
                        · obtain ⟨hr, hq, hc⟩ := hca
                          obtain rfl := hr_rv0 hr
                          have hp := hr_std hp hc (by decide +kernel)
                          have e270r14 := hr_pv hc 14 (lo := 0) (hi := 0) rfl
                          have sm : ∀ j, j < 32 → j ∉ [13, 14, 24, 31] → pvv270 j = pvv j := fun j h1 h2 => (hr_sameX (l := [13, 14, 24, 31]) hc (by decide +kernel) j h1 h2).trans (sm j h1 h2)
                          refine hr_ic hx hb dX12_operand_273 (by decide) (fun z273 hz273 => ?_)
                          exact hr_zret B hb rfl ⟨by omega, by omega⟩ ⟨hp, sm, z273, rfl, Cc, rfl, kf, Or.inr ⟨by omega, kI, by omega, by omega⟩⟩ hW hS dX12_operand_274
                        rcases List.mem_cons.mp hcs with rfl | hcs
                        · obtain ⟨hr, hq, hc⟩ := hca
                          obtain rfl := hr_rv0 hr
                          have hp := hr_std hp hc (by decide +kernel)
                          have e270r14 := hr_pv hc 14 (lo := 4) (hi := 4) rfl
                          have sm : ∀ j, j < 32 → j ∉ [13, 14, 24, 31] → pvv270 j = pvv j := fun j h1 h2 => (hr_sameX (l := [13, 14, 24, 31]) hc (by decide +kernel) j h1 h2).trans (sm j h1 h2)
                          refine hr_ic hx hb dX12_operand_273 (by decide) (fun z273 hz273 => ?_)
                          exact hr_zret B hb rfl ⟨by omega, by omega⟩ ⟨hp, sm, z273, rfl, Cc, rfl, kf, Or.inr ⟨by omega, kI, by omega, by omega⟩⟩ hW hS dX12_operand_274
                        rcases List.mem_cons.mp hcs with rfl | hcs
                        · obtain ⟨hr, hq, hc⟩ := hca
                          obtain rfl := hr_rv0 hr
                          have hp := hr_std hp hc (by decide +kernel)
                          have e270r14 := hr_pv hc 14 (lo := 3) (hi := 3) rfl
                          have sm : ∀ j, j < 32 → j ∉ [13, 14, 24, 31] → pvv270 j = pvv j := fun j h1 h2 => (hr_sameX (l := [13, 14, 24, 31]) hc (by decide +kernel) j h1 h2).trans (sm j h1 h2)
                          refine hr_ic hx hb dX12_operand_273 (by decide) (fun z273 hz273 => ?_)
                          exact hr_zret B hb rfl ⟨by omega, by omega⟩ ⟨hp, sm, z273, rfl, Cc, rfl, kf, Or.inr ⟨by omega, kI, by omega, by omega⟩⟩ hW hS dX12_operand_274
                        obtain rfl := List.mem_singleton.mp hcs
                        obtain ⟨hr, hq, hc⟩ := hca
                        obtain rfl := hr_rv0 hr
                        have hp := hr_std hp hc (by decide +kernel)
                        have e270r14 := hr_pv hc 14 (lo := 1) (hi := 2) rfl
                        have sm : ∀ j, j < 32 → j ∉ [13, 14, 24, 31] → pvv270 j = pvv j := fun j h1 h2 => (hr_sameX (l := [13, 14, 24, 31]) hc (by decide +kernel) j h1 h2).trans (sm j h1 h2)
                        refine hr_ic hx hb dX12_operand_273 (by decide) (fun z273 hz273 => ?_)
                        exact hr_zret B hb rfl ⟨by omega, by omega⟩ ⟨hp, sm, z273, rfl, Cc, rfl, kf, Or.inr ⟨by omega, kI, by omega, by omega⟩⟩ hW hS dX12_operand_274
                      · refine lv_aload_n hx hb dX12_operand_252 rfl (lv_at hl 4 rfl) ?_
                        refine hr_ic hx hb dX12_operand_253 (by decide) (fun z253 hz253 => ?_)
                        refine cm_callV (kc := kc_205) B rfl hb hl (hM.1 _ _ 0 [205] (isM (by decide +kernel)) 205 (by decide)) (hH1 _ tk_X1 205 (by decide)) (b := a0) (As := [.int z253]) ⟨hr_aR t0, hr_aI (by omega) (by omega), True.intro⟩ hp hW hS rfl (by decide) (by decide) (Nat.le_of_ble_eq_true rfl) dX12_operand_254 (fun cs hcs r pvv254 H locs hca hW hS => ?_)
                        obtain rfl := List.mem_singleton.mp hcs
                        obtain ⟨hr, hq, hc⟩ := hca
                        obtain ⟨z254, rfl, lz254, uz254⟩ := hr_rvI hr
                        have hp := hr_std hp hc (by decide +kernel)
                        have e254w14 := congrArg Int32.toInt (hr_same1 hc (j := 14) (by decide +kernel))
                        have sm : ∀ j, j < 32 → j ∉ [13, 14, 24, 31] → pvv254 j = pvv j := fun j h1 h2 => (hr_sameX (l := [13, 14, 24, 31]) hc (by decide +kernel) j h1 h2).trans (sm j h1 h2)
                        exact hr_zret B hb rfl ⟨by omega, by omega⟩ ⟨hp, sm, z254, rfl, C128, rfl, kf0, Or.inl (by omega)⟩ hW hS dX12_operand_257
                    obtain rfl := List.mem_singleton.mp hcs
                    obtain ⟨hr, hq, hc⟩ := hca
                    obtain rfl := hr_rv0 hr
                    have hp := hr_std hp hc (by decide +kernel)
                    have e241r14 := hr_pv hc 14 (lo := 1) (hi := 2) rfl
                    have sm : ∀ j, j < 32 → j ∉ [13, 14, 24, 31] → pvv241 j = pvv j := fun j h1 h2 => (hr_sameX (l := [13, 14, 24, 31]) hc (by decide +kernel) j h1 h2).trans (sm j h1 h2)
                    refine lv_aload_n hx hb dX12_operand_244 rfl (lv_at hl 4 rfl) ?_
                    refine hr_getI B hF hb hW (ci := 12) (j := 11) (cd := 0) t0 rfl (isF (by decide +kernel)) rfl dX12_operand_245 (fun z245 lz245 uz245 pz245 xz245 => ?_)
                    have pz245 := congrArg Int32.toInt (pz245 14 rfl)
                    refine hr_ic hx hb dX12_operand_248 (by decide) (fun z248 hz248 => ?_)
                    refine hr_eq (tgt := 258) hx hb dX12_operand_249 (by decide) (fun h249 => ?_) (fun h249 => ?_)
                    · refine lv_aload_n hx hb dX12_operand_258 rfl (lv_at hl 4 rfl) ?_
                      refine lv_iload_n hx hb dX12_operand_259 rfl (lv_at hl 1 rfl) ?_
                      refine lv_iload hx hb dX12_operand_260 (lv_at hl 0 rfl) ?_
                      refine lv_aload_n hx hb dX12_operand_262 rfl (lv_at hl 4 rfl) ?_
                      refine hr_getI B hF hb hW (ci := 12) (j := 14) (cd := 0) t0 rfl (isF (by decide +kernel)) rfl dX12_operand_263 (fun z263 lz263 uz263 pz263 xz263 => ?_)
                      refine hr_callV (kc := kh_12_code) B rfl hb hl (hMh _ (List.mem_of_getElem? (i := 11) rfl)) (b := a0) (As := [.int lf, .int z235, .int z263]) (hs_code hF hC hM hMh hU hun hH1 t0 (C := C128) ⟨by rw [c128, tk_unj (by decide), hD 12 45 (by decide)]; omega, by rw [c128, tk_unj (by decide), hD 12 45 (by decide)]; omega⟩) ⟨hr_aR t0, hr_aF, hr_aF, hr_aF, True.intro⟩ hW hS rfl (by decide) (by decide) (Nat.le_of_ble_eq_true rfl) dX12_operand_266 (fun r pvv266 E266 H locs hpost hW hS => ?_)
                      obtain ⟨rfl, rfl, Cc, rfl, d1, d2, d3, d4⟩ := hpost
                      have q1 : C128 12 45 = C 12 45 := by rw [c128, tk_unj (by decide), hD 12 45 (by decide)]
                      rw [q1] at d1 d2 d3
                      have k1 : (Cc 12 47).toInt = (C 12 47).toInt := by rw [d4 12 47 (by decide) (by decide), c128, tk_unj (by decide), hD 12 47 (by decide)]
                      have k2 : (Cc 12 46).toInt = (C 12 46).toInt + 1 := by rw [d4 12 46 (by decide) (by decide), c128, tk_unj (by decide)]; exact hD2
                      have k3 : (Cc 12 49).toInt = 1 := by rw [d4 12 49 (by decide) (by decide), c128, tk_us]; omega
                      have k4 : ∀ j, Cc 43 j = C 43 j := fun j => by rw [d4 43 j (by decide) (fun q => absurd q.1 (by decide)), c128, tk_unt (by decide)]; exact hD 43 j (fun q => absurd q.1 (by decide))
                      have k5 : ∀ j, j < 3 * (C 12 45).toInt.toNat → Cc 36 j = C 36 j := fun j hj => by rw [d3 j hj, c128, tk_unt (by decide)]; exact hD 36 j (fun q => absurd q.1 (by decide))
                      have kd := code_ok (C := C) (C' := Cc) (n := (C 12 45).toInt.toNat) (by omega) (by omega) k5 s7 (fun h9 => by rw [d2] at h9; omega) (fun h9 => by rw [d2] at h9; omega)
                      have kI : SI Cc := by
                        refine ⟨by omega, by omega, by omega, by omega, by omega, by omega, kd.1, ?_⟩
                        rw [show (Cc 12 45).toInt.toNat = (C 12 45).toInt.toNat + 1 by omega, dp_leaf (by rw [rf_s, d2]; omega) (by rw [rf_s, d2]; omega) (by rw [rf_s, d2]; omega), kd.2, s8, k1, k3, bn_co (fun j _ => k4 j)]; omega
                      have kf : sfr C Cc := fun t j h1 h2 h3 => by rw [d4 t j h1 (fun q => h3 ⟨q.1, Or.inl q.2⟩)]; exact kf0 t j h1 h2 h3
                      refine lv_aload_n hx hb dX12_operand_269 rfl (lv_at hl 4 rfl) ?_
                      refine cm_callV (kc := kc_209) B rfl hb hl (hM.1 _ _ 0 [209] (isM (by decide +kernel)) 209 (by decide)) (hH1 _ tk_X1 209 (by decide)) (b := a0) (As := []) ⟨hr_aR t0, True.intro⟩ hp hW hS rfl (by decide) (by decide) (Nat.le_of_ble_eq_true rfl) dX12_operand_270 (fun cs hcs r pvv270 H locs hca hW hS => ?_)
                      rcases List.mem_cons.mp hcs with rfl | hcs
                      · obtain ⟨hr, hq, hc⟩ := hca
                        obtain rfl := hr_rv0 hr
                        have hp := hr_std hp hc (by decide +kernel)
                        have e270r14 := hr_pv hc 14 (lo := 0) (hi := 0) rfl
                        have sm : ∀ j, j < 32 → j ∉ [13, 14, 24, 31] → pvv270 j = pvv j := fun j h1 h2 => (hr_sameX (l := [13, 14, 24, 31]) hc (by decide +kernel) j h1 h2).trans (sm j h1 h2)
                        refine hr_ic hx hb dX12_operand_273 (by decide) (fun z273 hz273 => ?_)
                        exact hr_zret B hb rfl ⟨by omega, by omega⟩ ⟨hp, sm, z273, rfl, Cc, rfl, kf, Or.inr ⟨by omega, kI, by omega, by omega⟩⟩ hW hS dX12_operand_274
                      rcases List.mem_cons.mp hcs with rfl | hcs
                      · obtain ⟨hr, hq, hc⟩ := hca
                        obtain rfl := hr_rv0 hr
                        have hp := hr_std hp hc (by decide +kernel)
                        have e270r14 := hr_pv hc 14 (lo := 4) (hi := 4) rfl
                        have sm : ∀ j, j < 32 → j ∉ [13, 14, 24, 31] → pvv270 j = pvv j := fun j h1 h2 => (hr_sameX (l := [13, 14, 24, 31]) hc (by decide +kernel) j h1 h2).trans (sm j h1 h2)
                        refine hr_ic hx hb dX12_operand_273 (by decide) (fun z273 hz273 => ?_)
                        exact hr_zret B hb rfl ⟨by omega, by omega⟩ ⟨hp, sm, z273, rfl, Cc, rfl, kf, Or.inr ⟨by omega, kI, by omega, by omega⟩⟩ hW hS dX12_operand_274
                      rcases List.mem_cons.mp hcs with rfl | hcs
                      · obtain ⟨hr, hq, hc⟩ := hca
                        obtain rfl := hr_rv0 hr
                        have hp := hr_std hp hc (by decide +kernel)
                        have e270r14 := hr_pv hc 14 (lo := 3) (hi := 3) rfl
                        have sm : ∀ j, j < 32 → j ∉ [13, 14, 24, 31] → pvv270 j = pvv j := fun j h1 h2 => (hr_sameX (l := [13, 14, 24, 31]) hc (by decide +kernel) j h1 h2).trans (sm j h1 h2)
                        refine hr_ic hx hb dX12_operand_273 (by decide) (fun z273 hz273 => ?_)
                        exact hr_zret B hb rfl ⟨by omega, by omega⟩ ⟨hp, sm, z273, rfl, Cc, rfl, kf, Or.inr ⟨by omega, kI, by omega, by omega⟩⟩ hW hS dX12_operand_274
                      obtain rfl := List.mem_singleton.mp hcs
                      obtain ⟨hr, hq, hc⟩ := hca
                      obtain rfl := hr_rv0 hr
                      have hp := hr_std hp hc (by decide +kernel)
                      have e270r14 := hr_pv hc 14 (lo := 1) (hi := 2) rfl
                      have sm : ∀ j, j < 32 → j ∉ [13, 14, 24, 31] → pvv270 j = pvv j := fun j h1 h2 => (hr_sameX (l := [13, 14, 24, 31]) hc (by decide +kernel) j h1 h2).trans (sm j h1 h2)
                      refine hr_ic hx hb dX12_operand_273 (by decide) (fun z273 hz273 => ?_)
                      exact hr_zret B hb rfl ⟨by omega, by omega⟩ ⟨hp, sm, z273, rfl, Cc, rfl, kf, Or.inr ⟨by omega, kI, by omega, by omega⟩⟩ hW hS dX12_operand_274
                    · refine lv_aload_n hx hb dX12_operand_252 rfl (lv_at hl 4 rfl) ?_
                      refine hr_ic hx hb dX12_operand_253 (by decide) (fun z253 hz253 => ?_)
                      refine cm_callV (kc := kc_205) B rfl hb hl (hM.1 _ _ 0 [205] (isM (by decide +kernel)) 205 (by decide)) (hH1 _ tk_X1 205 (by decide)) (b := a0) (As := [.int z253]) ⟨hr_aR t0, hr_aI (by omega) (by omega), True.intro⟩ hp hW hS rfl (by decide) (by decide) (Nat.le_of_ble_eq_true rfl) dX12_operand_254 (fun cs hcs r pvv254 H locs hca hW hS => ?_)
                      obtain rfl := List.mem_singleton.mp hcs
                      obtain ⟨hr, hq, hc⟩ := hca
                      obtain ⟨z254, rfl, lz254, uz254⟩ := hr_rvI hr
                      have hp := hr_std hp hc (by decide +kernel)
                      have e254w14 := congrArg Int32.toInt (hr_same1 hc (j := 14) (by decide +kernel))
                      have sm : ∀ j, j < 32 → j ∉ [13, 14, 24, 31] → pvv254 j = pvv j := fun j h1 h2 => (hr_sameX (l := [13, 14, 24, 31]) hc (by decide +kernel) j h1 h2).trans (sm j h1 h2)
                      exact hr_zret B hb rfl ⟨by omega, by omega⟩ ⟨hp, sm, z254, rfl, C128, rfl, kf0, Or.inl (by omega)⟩ hW hS dX12_operand_257
                  · refine lv_aload_n hx hb dX12_operand_228 rfl (lv_at hl 3 rfl) ?_
                    refine hr_ic hx hb dX12_operand_229 (by decide) (fun z229 hz229 => ?_)
                    refine cm_callV (kc := kc_205) B rfl hb hl (hM.1 _ _ 0 [205] (isM (by decide +kernel)) 205 (by decide)) (hH1 _ tk_X1 205 (by decide)) (b := a0) (As := [.int z229]) ⟨hr_aR t0, hr_aI (by omega) (by omega), True.intro⟩ hp hW hS rfl (by decide) (by decide) (Nat.le_of_ble_eq_true rfl) dX12_operand_230 (fun cs hcs r pvv230 H locs hca hW hS => ?_)
                    obtain rfl := List.mem_singleton.mp hcs
                    obtain ⟨hr, hq, hc⟩ := hca
                    obtain ⟨z230, rfl, lz230, uz230⟩ := hr_rvI hr
                    have hp := hr_std hp hc (by decide +kernel)
                    have e230w14 := congrArg Int32.toInt (hr_same1 hc (j := 14) (by decide +kernel))
                    have sm : ∀ j, j < 32 → j ∉ [13, 14, 24, 31] → pvv230 j = pvv j := fun j h1 h2 => (hr_sameX (l := [13, 14, 24, 31]) hc (by decide +kernel) j h1 h2).trans (sm j h1 h2)
                    exact hr_zret B hb rfl ⟨by omega, by omega⟩ ⟨hp, sm, z230, rfl, C128, rfl, kf0, Or.inl (by omega)⟩ hW hS dX12_operand_233
            · refine lv_aload_n hx hb dX12_operand_150 rfl (lv_at hl 3 rfl) ?_
              refine cm_callV (kc := kc_223) B rfl hb hl (hM.1 _ _ 0 [223] (isM (by decide +kernel)) 223 (by decide)) (hH1 _ tk_X1 223 (by decide)) (b := a0) (As := []) ⟨hr_aR t0, True.intro⟩ hp hW hS rfl (by decide) (by decide) (Nat.le_of_ble_eq_true rfl) dX12_operand_151 (fun cs hcs r pvv151 H locs hca hW hS => ?_)
              rcases List.mem_cons.mp hcs with rfl | hcs
              · obtain ⟨hr, hq, hc⟩ := hca
                obtain ⟨z151, rfl, lz151, uz151⟩ := hr_rvI hr
                have hW := hr_pvE (hr_sameA hc rfl (by decide +kernel)) hW
                refine hr_ne0 (tgt := 163) hx hb dX12_operand_154 (by decide) (fun h154 => ?_) (fun h154 => ?_)
                · omega
                · refine lv_aload_n hx hb dX12_operand_157 rfl (lv_at hl 3 rfl) ?_
                  refine hr_ic hx hb dX12_operand_158 (by decide) (fun z158 hz158 => ?_)
                  refine cm_callV (kc := kc_205) B rfl hb hl (hM.1 _ _ 0 [205] (isM (by decide +kernel)) 205 (by decide)) (hH1 _ tk_X1 205 (by decide)) (b := a0) (As := [.int z158]) ⟨hr_aR t0, hr_aI (by omega) (by omega), True.intro⟩ hp hW hS rfl (by decide) (by decide) (Nat.le_of_ble_eq_true rfl) dX12_operand_159 (fun cs hcs r pvv159 H locs hca hW hS => ?_)
                  obtain rfl := List.mem_singleton.mp hcs
                  obtain ⟨hr, hq, hc⟩ := hca
                  obtain ⟨z159, rfl, lz159, uz159⟩ := hr_rvI hr
                  have hp := hr_std hp hc (by decide +kernel)
                  have e159w14 := congrArg Int32.toInt (hr_same1 hc (j := 14) (by decide +kernel))
                  have sm : ∀ j, j < 32 → j ∉ [13, 14, 24, 31] → pvv159 j = pvv j := fun j h1 h2 => (hr_sameX (l := [13, 14, 24, 31]) hc (by decide +kernel) j h1 h2).trans (sm j h1 h2)
                  exact hr_zret B hb rfl ⟨by omega, by omega⟩ ⟨hp, sm, z159, rfl, C128, rfl, kf0, Or.inl (by omega)⟩ hW hS dX12_operand_162
              obtain rfl := List.mem_singleton.mp hcs
              obtain ⟨hr, hq, hc⟩ := hca
              obtain ⟨z151, rfl, lz151, uz151⟩ := hr_rvI hr
              have e151r14 := hr_pv hc 14 (lo := 1) (hi := 1) rfl; rw [hr_same1 hc (j := 14) (by decide +kernel)] at e151r14
              have hW := hr_pvE (hr_sameA hc rfl (by decide +kernel)) hW
              refine hr_ne0 (tgt := 163) hx hb dX12_operand_154 (by decide) (fun h154 => ?_) (fun h154 => ?_)
              · refine lv_aload_n hx hb dX12_operand_163 rfl (lv_at hl 3 rfl) ?_
                refine hr_bp hx hb dX12_operand_164 (by decide) (by decide) (fun z164 hz164 => ?_)
                refine lv_aload_n hx hb dX12_operand_166 rfl (lv_at hl 3 rfl) ?_
                refine hr_getR B hF hb hW (ci := 12) (j := 6) (cd := 3) t0 rfl (isF (by decide +kernel)) rfl dX12_operand_167 (fun az167 tz167 xz167 => ?_)
                refine hr_ic hx hb dX12_operand_170 (by decide) (fun z170 hz170 => ?_)
                refine hr_iald B hb hW tz167 rfl (by omega) (by omega) dX12_operand_171 (fun z171 iz171 pz171 xz171 => ?_)
                have iz171 := hr_inr iz171 (a := 1) (b := 1) (lo := 0) (hi := 6) (by omega) (by omega) (by decide +kernel)
                have xz171 := tk_xa xz171 (fun _ h => h) (pq := ck_prot1) (C := C128) tz167 ⟨(0, 139), by decide, by dsimp only; omega, by dsimp only; omega⟩; have kz171 := congrArg Int32.toInt xz171
                refine cm_callV (kc := kc_221) B rfl hb hl (hM.1 _ _ 0 [221, 222] (isM (by decide +kernel)) 221 (by decide)) (hH1 _ tk_X1 221 (by decide)) (b := a0) (As := [.int z164, .int z171]) ⟨hr_aR t0, hr_aI (by omega) (by omega), hr_aI (by omega) (by omega), True.intro⟩ hp hW hS rfl (by decide) (by decide) (Nat.le_of_ble_eq_true rfl) dX12_operand_172 (fun cs hcs r pvv172 H locs hca hW hS => ?_)
                obtain rfl := List.mem_singleton.mp hcs
                obtain ⟨hr, hq, hc⟩ := hca
                obtain ⟨z172, rfl, lz172, uz172⟩ := hr_rvI hr
                have hW := hr_pvE (hr_sameA hc rfl (by decide +kernel)) hW
                refine lv_istore hx hb dX12_operand_175 hl (lv' := [(4, .int z172), (3, .int lf), (2, .int op), (1, .int nt), (0, .ref a0)]) (by decide) rfl (fun ls hl => ?_)
                refine lv_iload hx hb dX12_operand_177 (lv_at hl 0 rfl) ?_
                refine hr_ge0 (tgt := 188) hx hb dX12_operand_179 (by decide) (fun h179 => ?_) (fun h179 => ?_)
                · refine lv_aload_n hx hb dX12_operand_188 rfl (lv_at hl 4 rfl) ?_
                  refine lv_iload_n hx hb dX12_operand_189 rfl (lv_at hl 1 rfl) ?_
                  refine hr_ic hx hb dX12_operand_190 (by decide) (fun z190 hz190 => ?_)
                  refine lv_iload hx hb dX12_operand_191 (lv_at hl 0 rfl) ?_
                  refine hr_callV (kc := kh_12_code) B rfl hb hl (hMh _ (List.mem_of_getElem? (i := 11) rfl)) (b := a0) (As := [.int lf, .int z190, .int z172]) (hs_code hF hC hM hMh hU hun hH1 t0 (C := C128) ⟨by rw [c128, tk_unj (by decide), hD 12 45 (by decide)]; omega, by rw [c128, tk_unj (by decide), hD 12 45 (by decide)]; omega⟩) ⟨hr_aR t0, hr_aF, hr_aF, hr_aF, True.intro⟩ hW hS rfl (by decide) (by decide) (Nat.le_of_ble_eq_true rfl) dX12_operand_193 (fun r pvv193 E193 H locs hpost hW hS => ?_)
                  obtain ⟨rfl, rfl, Cc, rfl, d1, d2, d3, d4⟩ := hpost
                  have q1 : C128 12 45 = C 12 45 := by rw [c128, tk_unj (by decide), hD 12 45 (by decide)]
                  rw [q1] at d1 d2 d3
                  have k1 : (Cc 12 47).toInt = (C 12 47).toInt := by rw [d4 12 47 (by decide) (by decide), c128, tk_unj (by decide), hD 12 47 (by decide)]
                  have k2 : (Cc 12 46).toInt = (C 12 46).toInt + 1 := by rw [d4 12 46 (by decide) (by decide), c128, tk_unj (by decide)]; exact hD2
                  have k3 : (Cc 12 49).toInt = 1 := by rw [d4 12 49 (by decide) (by decide), c128, tk_us]; omega
                  have k4 : ∀ j, Cc 43 j = C 43 j := fun j => by rw [d4 43 j (by decide) (fun q => absurd q.1 (by decide)), c128, tk_unt (by decide)]; exact hD 43 j (fun q => absurd q.1 (by decide))
                  have k5 : ∀ j, j < 3 * (C 12 45).toInt.toNat → Cc 36 j = C 36 j := fun j hj => by rw [d3 j hj, c128, tk_unt (by decide)]; exact hD 36 j (fun q => absurd q.1 (by decide))
                  have kd := code_ok (C := C) (C' := Cc) (n := (C 12 45).toInt.toNat) (by omega) (by omega) k5 s7 (fun h9 => by rw [d2] at h9; omega) (fun h9 => by rw [d2] at h9; omega)
                  have kI : SI Cc := by
                    refine ⟨by omega, by omega, by omega, by omega, by omega, by omega, kd.1, ?_⟩
                    rw [show (Cc 12 45).toInt.toNat = (C 12 45).toInt.toNat + 1 by omega, dp_leaf (by rw [rf_s, d2]; omega) (by rw [rf_s, d2]; omega) (by rw [rf_s, d2]; omega), kd.2, s8, k1, k3, bn_co (fun j _ => k4 j)]; omega
                  have kf : sfr C Cc := fun t j h1 h2 h3 => by rw [d4 t j h1 (fun q => h3 ⟨q.1, Or.inl q.2⟩)]; exact kf0 t j h1 h2 h3
                  refine lv_aload_n hx hb dX12_operand_196 rfl (lv_at hl 4 rfl) ?_
                  refine cm_callV (kc := kc_209) B rfl hb hl (hM.1 _ _ 0 [209] (isM (by decide +kernel)) 209 (by decide)) (hH1 _ tk_X1 209 (by decide)) (b := a0) (As := []) ⟨hr_aR t0, True.intro⟩ hp hW hS rfl (by decide) (by decide) (Nat.le_of_ble_eq_true rfl) dX12_operand_197 (fun cs hcs r pvv197 H locs hca hW hS => ?_)
                  rcases List.mem_cons.mp hcs with rfl | hcs
                  · obtain ⟨hr, hq, hc⟩ := hca
                    obtain rfl := hr_rv0 hr
                    have hp := hr_std hp hc (by decide +kernel)
                    have e197r14 := hr_pv hc 14 (lo := 0) (hi := 0) rfl
                    have sm : ∀ j, j < 32 → j ∉ [13, 14, 24, 31] → pvv197 j = pvv j := fun j h1 h2 => (hr_sameX (l := [13, 14, 24, 31]) hc (by decide +kernel) j h1 h2).trans (sm j h1 h2)
                    refine hr_ic hx hb dX12_operand_200 (by decide) (fun z200 hz200 => ?_)
                    exact hr_zret B hb rfl ⟨by omega, by omega⟩ ⟨hp, sm, z200, rfl, Cc, rfl, kf, Or.inr ⟨by omega, kI, by omega, by omega⟩⟩ hW hS dX12_operand_201
                  rcases List.mem_cons.mp hcs with rfl | hcs
                  · obtain ⟨hr, hq, hc⟩ := hca
                    obtain rfl := hr_rv0 hr
                    have hp := hr_std hp hc (by decide +kernel)
                    have e197r14 := hr_pv hc 14 (lo := 4) (hi := 4) rfl
                    have sm : ∀ j, j < 32 → j ∉ [13, 14, 24, 31] → pvv197 j = pvv j := fun j h1 h2 => (hr_sameX (l := [13, 14, 24, 31]) hc (by decide +kernel) j h1 h2).trans (sm j h1 h2)
                    refine hr_ic hx hb dX12_operand_200 (by decide) (fun z200 hz200 => ?_)
                    exact hr_zret B hb rfl ⟨by omega, by omega⟩ ⟨hp, sm, z200, rfl, Cc, rfl, kf, Or.inr ⟨by omega, kI, by omega, by omega⟩⟩ hW hS dX12_operand_201
                  rcases List.mem_cons.mp hcs with rfl | hcs
                  · obtain ⟨hr, hq, hc⟩ := hca
                    obtain rfl := hr_rv0 hr
                    have hp := hr_std hp hc (by decide +kernel)
                    have e197r14 := hr_pv hc 14 (lo := 3) (hi := 3) rfl
                    have sm : ∀ j, j < 32 → j ∉ [13, 14, 24, 31] → pvv197 j = pvv j := fun j h1 h2 => (hr_sameX (l := [13, 14, 24, 31]) hc (by decide +kernel) j h1 h2).trans (sm j h1 h2)
                    refine hr_ic hx hb dX12_operand_200 (by decide) (fun z200 hz200 => ?_)
                    exact hr_zret B hb rfl ⟨by omega, by omega⟩ ⟨hp, sm, z200, rfl, Cc, rfl, kf, Or.inr ⟨by omega, kI, by omega, by omega⟩⟩ hW hS dX12_operand_201
                  obtain rfl := List.mem_singleton.mp hcs
                  obtain ⟨hr, hq, hc⟩ := hca
                  obtain rfl := hr_rv0 hr
                  have hp := hr_std hp hc (by decide +kernel)
                  have e197r14 := hr_pv hc 14 (lo := 1) (hi := 2) rfl
                  have sm : ∀ j, j < 32 → j ∉ [13, 14, 24, 31] → pvv197 j = pvv j := fun j h1 h2 => (hr_sameX (l := [13, 14, 24, 31]) hc (by decide +kernel) j h1 h2).trans (sm j h1 h2)
                  refine hr_ic hx hb dX12_operand_200 (by decide) (fun z200 hz200 => ?_)
                  exact hr_zret B hb rfl ⟨by omega, by omega⟩ ⟨hp, sm, z200, rfl, Cc, rfl, kf, Or.inr ⟨by omega, kI, by omega, by omega⟩⟩ hW hS dX12_operand_201
                · refine lv_aload_n hx hb dX12_operand_182 rfl (lv_at hl 4 rfl) ?_
                  refine hr_ic hx hb dX12_operand_183 (by decide) (fun z183 hz183 => ?_)
                  refine cm_callV (kc := kc_205) B rfl hb hl (hM.1 _ _ 0 [205] (isM (by decide +kernel)) 205 (by decide)) (hH1 _ tk_X1 205 (by decide)) (b := a0) (As := [.int z183]) ⟨hr_aR t0, hr_aI (by omega) (by omega), True.intro⟩ hp hW hS rfl (by decide) (by decide) (Nat.le_of_ble_eq_true rfl) dX12_operand_184 (fun cs hcs r pvv184 H locs hca hW hS => ?_)
                  obtain rfl := List.mem_singleton.mp hcs
                  obtain ⟨hr, hq, hc⟩ := hca
                  obtain ⟨z184, rfl, lz184, uz184⟩ := hr_rvI hr
                  have hp := hr_std hp hc (by decide +kernel)
                  have e184w14 := congrArg Int32.toInt (hr_same1 hc (j := 14) (by decide +kernel))
                  have sm : ∀ j, j < 32 → j ∉ [13, 14, 24, 31] → pvv184 j = pvv j := fun j h1 h2 => (hr_sameX (l := [13, 14, 24, 31]) hc (by decide +kernel) j h1 h2).trans (sm j h1 h2)
                  exact hr_zret B hb rfl ⟨by omega, by omega⟩ ⟨hp, sm, z184, rfl, C128, rfl, kf0, Or.inl (by omega)⟩ hW hS dX12_operand_187
              · omega
          · refine lv_aload_n hx hb dX12_operand_136 rfl (lv_at hl 3 rfl) ?_
            refine lv_iload_n hx hb dX12_operand_137 rfl (lv_at hl 0 rfl) ?_
            refine hr_ic hx hb dX12_operand_138 (by decide) (fun z138 hz138 => ?_)
            refine hr_ic hx hb dX12_operand_139 (by decide) (fun z139 hz139 => ?_)
            refine hr_callV (kc := kh_12_code) B rfl hb hl (hMh _ (List.mem_of_getElem? (i := 11) rfl)) (b := a0) (As := [.int lf, .int z138, .int z139]) (hs_code hF hC hM hMh hU hun hH1 t0 (C := C128) ⟨by rw [c128, tk_unj (by decide), hD 12 45 (by decide)]; omega, by rw [c128, tk_unj (by decide), hD 12 45 (by decide)]; omega⟩) ⟨hr_aR t0, hr_aF, hr_aF, hr_aF, True.intro⟩ hW hS rfl (by decide) (by decide) (Nat.le_of_ble_eq_true rfl) dX12_operand_140 (fun r pvv140 E140 H locs hpost hW hS => ?_)
            obtain ⟨rfl, rfl, Cc, rfl, d1, d2, d3, d4⟩ := hpost
            have q1 : C128 12 45 = C 12 45 := by rw [c128, tk_unj (by decide), hD 12 45 (by decide)]
            rw [q1] at d1 d2 d3
            have k1 : (Cc 12 47).toInt = (C 12 47).toInt := by rw [d4 12 47 (by decide) (by decide), c128, tk_unj (by decide), hD 12 47 (by decide)]
            have k2 : (Cc 12 46).toInt = (C 12 46).toInt + 1 := by rw [d4 12 46 (by decide) (by decide), c128, tk_unj (by decide)]; exact hD2
            have k3 : (Cc 12 49).toInt = 1 := by rw [d4 12 49 (by decide) (by decide), c128, tk_us]; omega
            have k4 : ∀ j, Cc 43 j = C 43 j := fun j => by rw [d4 43 j (by decide) (fun q => absurd q.1 (by decide)), c128, tk_unt (by decide)]; exact hD 43 j (fun q => absurd q.1 (by decide))
            have k5 : ∀ j, j < 3 * (C 12 45).toInt.toNat → Cc 36 j = C 36 j := fun j hj => by rw [d3 j hj, c128, tk_unt (by decide)]; exact hD 36 j (fun q => absurd q.1 (by decide))
            have kd := code_ok (C := C) (C' := Cc) (n := (C 12 45).toInt.toNat) (by omega) (by omega) k5 s7 (fun h9 => by rw [d2] at h9; omega) (fun h9 => by rw [d2] at h9; omega)
            have kI : SI Cc := by
              refine ⟨by omega, by omega, by omega, by omega, by omega, by omega, kd.1, ?_⟩
              rw [show (Cc 12 45).toInt.toNat = (C 12 45).toInt.toNat + 1 by omega, dp_leaf (by rw [rf_s, d2]; omega) (by rw [rf_s, d2]; omega) (by rw [rf_s, d2]; omega), kd.2, s8, k1, k3, bn_co (fun j _ => k4 j)]; omega
            have kf : sfr C Cc := fun t j h1 h2 h3 => by rw [d4 t j h1 (fun q => h3 ⟨q.1, Or.inl q.2⟩)]; exact kf0 t j h1 h2 h3
            refine hr_ic hx hb dX12_operand_143 (by decide) (fun z143 hz143 => ?_)
            exact hr_zret B hb rfl ⟨by omega, by omega⟩ ⟨hp, sm, z143, rfl, Cc, rfl, kf, Or.inr ⟨by omega, kI, by omega, by omega⟩⟩ hW hS dX12_operand_144
        · refine lv_aload_n hx hb dX12_operand_84 rfl (lv_at hl 3 rfl) ?_
          refine hr_getR B hF hb hW (ci := 12) (j := 44) (cd := 3) t0 rfl (isF (by decide +kernel)) rfl dX12_operand_85 (fun az85 tz85 xz85 => ?_)
          refine lv_aload_n hx hb dX12_operand_88 rfl (lv_at hl 3 rfl) ?_
          refine hr_getI B hF hb hW (ci := 12) (j := 47) (cd := 0) t0 rfl (isF (by decide +kernel)) rfl dX12_operand_89 (fun z89 lz89 uz89 pz89 xz89 => ?_)
          have xz89 := tk_xo xz89 (fun _ h => h) (pq := ck_prot1) (C := C2) t0 (by decide); have kz89 := congrArg Int32.toInt xz89
          have e89 : z89.toInt = (C 12 47).toInt := by rw [kz89, hD 12 47 (by decide)]
          refine lv_iload_n hx hb dX12_operand_92 rfl (lv_at hl 2 rfl) ?_
          refine hr_eq0 (tgt := 101) hx hb dX12_operand_93 (by decide) (fun h93 => ?_) (fun h93 => ?_)
          · refine hr_bp hx hb dX12_operand_101 (by decide) (by decide) (fun z101 hz101 => ?_)
            refine hr_iastN B hb hU hW hS tz85 rfl (by omega) (by omega) ⟨ck_lo _, ck_hi _⟩ (tk_EA tz85 (fun a h => hun 43 (by decide) _ _ tz85 h)) (u := 0) (v := 44) (by omega) (by omega) (by decide) dX12_operand_103 (fun H locs hW hS => ?_)
            obtain ⟨C103, c103⟩ : ∃ f, f = tk_upd C2 43 (z89.toInt.toNat) z101 := ⟨_, rfl⟩
            rw [← c103] at hW
            refine lv_aload_n hx hb dX12_operand_104 rfl (lv_at hl 3 rfl) ?_
            refine lv_dup hx hb dX12_operand_105 rfl ?_
            refine hr_getI B hF hb hW (ci := 12) (j := 47) (cd := 0) t0 rfl (isF (by decide +kernel)) rfl dX12_operand_106 (fun z106 lz106 uz106 pz106 xz106 => ?_)
            have xz106 := tk_xo xz106 (fun _ h => h) (pq := ck_prot1) (C := C103) t0 (by decide); have kz106 := congrArg Int32.toInt xz106
            have e106 : z106.toInt = (C 12 47).toInt := by rw [kz106, c103, tk_unt (by decide), hD 12 47 (by decide)]
            refine hr_ic hx hb dX12_operand_109 (by decide) (fun z109 hz109 => ?_)
            refine hr_add hx hb dX12_operand_110 (by omega) (by omega) (fun z110 hz110 => ?_)
            refine hr_putN B hF hb hU hW hS (ci := 12) (j := 47) (cd := 0) t0 rfl (isF (by decide +kernel)) rfl (by omega) (by omega) (Or.inl rfl) (tk_EO t0 (fun a h => hun 12 (by decide) _ _ t0 h) (by decide)) (by decide) dX12_operand_111 (fun H locs hW hS => ?_)
            obtain ⟨C111, c111⟩ : ∃ f, f = tk_upd C103 12 (47) z110 := ⟨_, rfl⟩
            rw [← c111] at hW
            have k1 : (C111 12 47).toInt = (C 12 47).toInt + 1 := by rw [c111, tk_us]; omega
            have k2 : (C111 12 46).toInt = (C 12 46).toInt + 1 := by rw [c111, tk_unj (by decide), c103, tk_unt (by decide)]; exact hD2
            have k3 : (C111 12 49).toInt = 0 := by rw [c111, tk_unj (by decide), c103, tk_unt (by decide), hD 12 49 (by decide)]; exact hw
            have k6 : C111 12 45 = C 12 45 := by rw [c111, tk_unj (by decide), c103, tk_unt (by decide), hD 12 45 (by decide)]
            have k7 : (C111 12 45).toInt = (C 12 45).toInt := by rw [k6]
            have k4 : ∀ j, j ≠ z89.toInt.toNat → C111 43 j = C 43 j := fun j hj => by rw [c111, tk_unt (by decide), c103, tk_unj hj]; exact hD 43 j (fun q => absurd q.1 (by decide))
            have k4s : (C111 43 z89.toInt.toNat).toInt = z101.toInt := by rw [c111, tk_unt (by decide), c103, tk_us]
            have k5 : rf C111 = rf C := rf_co k6 (fun j => by rw [c111, tk_unt (by decide), c103, tk_unt (by decide)]; exact hD 36 j (fun q => absurd q.1 (by decide)))
            refine lv_aload_n hx hb dX12_operand_114 rfl (lv_at hl 3 rfl) ?_
            refine lv_dup hx hb dX12_operand_115 rfl ?_
            refine hr_getI B hF hb hW (ci := 12) (j := 48) (cd := 0) t0 rfl (isF (by decide +kernel)) rfl dX12_operand_116 (fun z116 lz116 uz116 pz116 xz116 => ?_)
            refine hr_ic hx hb dX12_operand_119 (by decide) (fun z119 hz119 => ?_)
            refine lv_iadd hx hb dX12_operand_120 (lv_topi (fun z120 hz120 => ?_))
            refine hr_putN B hF hb hU hW hS (ci := 12) (j := 48) (cd := 0) t0 rfl (isF (by decide +kernel)) rfl (ck_lo _) (ck_hi _) (Or.inl rfl) (hr_EO (tk_X1 (C := C111)) t0 (by decide)) (by decide) dX12_operand_121 (fun H locs hW hS => ?_)
            refine hr_ic hx hb dX12_operand_124 (by decide) (fun z124 hz124 => ?_)
            refine hr_zret B hb rfl ⟨by omega, by omega⟩ ⟨hp, sm, z124, rfl, C111, rfl, ?_, Or.inr ⟨by omega, ?_, ?_, ?_⟩⟩ hW hS dX12_operand_125
            · exact fun t j h1 h2 h3 => by rw [c111, tk_un (fun q => h3 ⟨q.1, Or.inr (Or.inr (Or.inl q.2))⟩), c103, tk_unt h2]; exact hD t j (fun q => h3 ⟨q.1, Or.inr (Or.inl q.2)⟩)
            · refine ⟨by omega, by omega, by omega, by omega, by omega, by omega, by rw [k5]; exact s7, ?_⟩
              rw [k5, k6, s8, show (C111 12 47).toInt.toNat = z89.toInt.toNat + 1 by omega, bn_n (by omega) (by omega), bn_co (C := C) (fun j hj => k4 j (by omega)), show z89.toInt.toNat = (C 12 47).toInt.toNat by omega]; omega
            · omega
            · omega
          · refine hr_bp hx hb dX12_operand_96 (by decide) (by decide) (fun z96 hz96 => ?_)
            refine lv_goto (tgt := 103) hx hb dX12_operand_98 (by decide) ?_
            refine hr_iastN B hb hU hW hS tz85 rfl (by omega) (by omega) ⟨ck_lo _, ck_hi _⟩ (tk_EA tz85 (fun a h => hun 43 (by decide) _ _ tz85 h)) (u := 0) (v := 44) (by omega) (by omega) (by decide) dX12_operand_103 (fun H locs hW hS => ?_)
            obtain ⟨C103, c103⟩ : ∃ f, f = tk_upd C2 43 (z89.toInt.toNat) z96 := ⟨_, rfl⟩
            rw [← c103] at hW
            refine lv_aload_n hx hb dX12_operand_104 rfl (lv_at hl 3 rfl) ?_
            refine lv_dup hx hb dX12_operand_105 rfl ?_
            refine hr_getI B hF hb hW (ci := 12) (j := 47) (cd := 0) t0 rfl (isF (by decide +kernel)) rfl dX12_operand_106 (fun z106 lz106 uz106 pz106 xz106 => ?_)
            have xz106 := tk_xo xz106 (fun _ h => h) (pq := ck_prot1) (C := C103) t0 (by decide); have kz106 := congrArg Int32.toInt xz106
            have e106 : z106.toInt = (C 12 47).toInt := by rw [kz106, c103, tk_unt (by decide), hD 12 47 (by decide)]
            refine hr_ic hx hb dX12_operand_109 (by decide) (fun z109 hz109 => ?_)
            refine hr_add hx hb dX12_operand_110 (by omega) (by omega) (fun z110 hz110 => ?_)
            refine hr_putN B hF hb hU hW hS (ci := 12) (j := 47) (cd := 0) t0 rfl (isF (by decide +kernel)) rfl (by omega) (by omega) (Or.inl rfl) (tk_EO t0 (fun a h => hun 12 (by decide) _ _ t0 h) (by decide)) (by decide) dX12_operand_111 (fun H locs hW hS => ?_)
            obtain ⟨C111, c111⟩ : ∃ f, f = tk_upd C103 12 (47) z110 := ⟨_, rfl⟩
            rw [← c111] at hW
            have k1 : (C111 12 47).toInt = (C 12 47).toInt + 1 := by rw [c111, tk_us]; omega
            have k2 : (C111 12 46).toInt = (C 12 46).toInt + 1 := by rw [c111, tk_unj (by decide), c103, tk_unt (by decide)]; exact hD2
            have k3 : (C111 12 49).toInt = 0 := by rw [c111, tk_unj (by decide), c103, tk_unt (by decide), hD 12 49 (by decide)]; exact hw
            have k6 : C111 12 45 = C 12 45 := by rw [c111, tk_unj (by decide), c103, tk_unt (by decide), hD 12 45 (by decide)]
            have k7 : (C111 12 45).toInt = (C 12 45).toInt := by rw [k6]
            have k4 : ∀ j, j ≠ z89.toInt.toNat → C111 43 j = C 43 j := fun j hj => by rw [c111, tk_unt (by decide), c103, tk_unj hj]; exact hD 43 j (fun q => absurd q.1 (by decide))
            have k4s : (C111 43 z89.toInt.toNat).toInt = z96.toInt := by rw [c111, tk_unt (by decide), c103, tk_us]
            have k5 : rf C111 = rf C := rf_co k6 (fun j => by rw [c111, tk_unt (by decide), c103, tk_unt (by decide)]; exact hD 36 j (fun q => absurd q.1 (by decide)))
            refine lv_aload_n hx hb dX12_operand_114 rfl (lv_at hl 3 rfl) ?_
            refine lv_dup hx hb dX12_operand_115 rfl ?_
            refine hr_getI B hF hb hW (ci := 12) (j := 48) (cd := 0) t0 rfl (isF (by decide +kernel)) rfl dX12_operand_116 (fun z116 lz116 uz116 pz116 xz116 => ?_)
            refine hr_ic hx hb dX12_operand_119 (by decide) (fun z119 hz119 => ?_)
            refine lv_iadd hx hb dX12_operand_120 (lv_topi (fun z120 hz120 => ?_))
            refine hr_putN B hF hb hU hW hS (ci := 12) (j := 48) (cd := 0) t0 rfl (isF (by decide +kernel)) rfl (ck_lo _) (ck_hi _) (Or.inl rfl) (hr_EO (tk_X1 (C := C111)) t0 (by decide)) (by decide) dX12_operand_121 (fun H locs hW hS => ?_)
            refine hr_ic hx hb dX12_operand_124 (by decide) (fun z124 hz124 => ?_)
            refine hr_zret B hb rfl ⟨by omega, by omega⟩ ⟨hp, sm, z124, rfl, C111, rfl, ?_, Or.inr ⟨by omega, ?_, ?_, ?_⟩⟩ hW hS dX12_operand_125
            · exact fun t j h1 h2 h3 => by rw [c111, tk_un (fun q => h3 ⟨q.1, Or.inr (Or.inr (Or.inl q.2))⟩), c103, tk_unt h2]; exact hD t j (fun q => h3 ⟨q.1, Or.inr (Or.inl q.2)⟩)
            · refine ⟨by omega, by omega, by omega, by omega, by omega, by omega, by rw [k5]; exact s7, ?_⟩
              rw [k5, k6, s8, show (C111 12 47).toInt.toNat = z89.toInt.toNat + 1 by omega, bn_n (by omega) (by omega), bn_co (C := C) (fun j hj => k4 j (by omega)), show z89.toInt.toNat = (C 12 47).toInt.toNat by omega]; omega
            · omega
            · omega
  refine lv_aload_n hx hb dX12_operand_0 rfl (lv_at hl 0 rfl) ?_
  refine hr_ldc2 B hC hb (isL (by decide +kernel)) dX12_operand_1 (fun z1 => ?_)
  refine cm_callV (kc := kc_211) B rfl hb hl (hM.1 _ _ 0 [211] (isM (by decide +kernel)) 211 (by decide)) (hH1 _ tk_X1 211 (by decide)) (b := a0) (As := [.long z1]) ⟨hr_aR t0, hr_aL, True.intro⟩ hp hW hS rfl (by decide) (by decide) (Nat.le_of_ble_eq_true rfl) dX12_operand_4 (fun cs hcs r pvv4 H locs hca hW hS => ?_)
  rcases List.mem_cons.mp hcs with rfl | hcs
  · obtain ⟨hr, hq, hc⟩ := hca
    obtain ⟨z4, rfl, lz4, uz4⟩ := hr_rvI hr
    have hW := hr_pvE (hr_sameA hc rfl (by decide +kernel)) hW
    refine lv_istore_n hx hb dX12_operand_7 rfl hl (lv' := [(1, .int z4), (0, .ref a0)]) (by decide) rfl (fun ls hl => ?_)
    refine lv_aload_n hx hb dX12_operand_8 rfl (lv_at hl 1 rfl) ?_
    refine hr_bp hx hb dX12_operand_9 (by decide) (by decide) (fun z9 hz9 => ?_)
    refine cm_callV (kc := kc_210) B rfl hb hl (hM.1 _ _ 0 [210] (isM (by decide +kernel)) 210 (by decide)) (hH1 _ tk_X1 210 (by decide)) (b := a0) (As := [.int z9]) ⟨hr_aR t0, hr_aF, True.intro⟩ hp hW hS rfl (by decide) (by decide) (Nat.le_of_ble_eq_true rfl) dX12_operand_11 (fun cs hcs r pvv11 H locs hca hW hS => ?_)
    rcases List.mem_cons.mp hcs with rfl | hcs
    · obtain ⟨hr, hq, hc⟩ := hca
      obtain ⟨z11, rfl, lz11, uz11⟩ := hr_rvI hr
      have hW := hr_pvE (hr_sameA hc rfl (by decide +kernel)) hW
      refine lv_istore_n hx hb dX12_operand_14 rfl hl (lv' := [(2, .int z11), (1, .int z4), (0, .ref a0)]) (by decide) rfl (fun ls hl => ?_)
      refine lv_aload_n hx hb dX12_operand_15 rfl (lv_at hl 2 rfl) ?_
      refine cm_callV (kc := kc_256) B rfl hb hl (hM.1 _ _ 0 [256] (isM (by decide +kernel)) 256 (by decide)) (hH1 _ tk_X1 256 (by decide)) (b := a0) (As := []) ⟨hr_aR t0, True.intro⟩ hp hW hS rfl (by decide) (by decide) (Nat.le_of_ble_eq_true rfl) dX12_operand_16 (fun cs hcs r pvv16 H locs hca hW hS => ?_)
      obtain rfl := List.mem_singleton.mp hcs
      obtain ⟨hr, hq, hc⟩ := hca
      obtain ⟨z16, rfl, lz16, uz16⟩ := hr_rvI hr
      have hW := hr_pvE (hr_sameA hc rfl (by decide +kernel)) hW
      refine lv_istore_n hx hb dX12_operand_19 rfl hl (lv' := [(3, .int z16), (2, .int z11), (1, .int z4), (0, .ref a0)]) (by decide) rfl (fun ls hl => ?_)
      refine lv_iload_n hx hb dX12_operand_20 rfl (lv_at hl 2 rfl) ?_
      refine hr_ne0 (tgt := 38) hx hb dX12_operand_21 (by decide) (fun h21 => ?_) (fun h21 => ?_)
      · omega
      · refine lv_iload_n hx hb dX12_operand_24 rfl (lv_at hl 1 rfl) ?_
        refine hr_ne0 (tgt := 38) hx hb dX12_operand_25 (by decide) (fun h25 => ?_) (fun h25 => ?_)
        · omega
        · refine lv_iload_n hx hb dX12_operand_28 rfl (lv_at hl 0 rfl) ?_
          refine hr_ge0 (tgt := 38) hx hb dX12_operand_29 (by decide) (fun h29 => ?_) (fun h29 => ?_)
          · refine lv_aload_n hx hb dX12_operand_38 rfl (lv_at hl 3 rfl) ?_
            refine hr_getI B hF hb hW (ci := 12) (j := 46) (cd := 0) t0 rfl (isF (by decide +kernel)) rfl dX12_operand_39 (fun z39 lz39 uz39 pz39 xz39 => ?_)
            have xz39 := tk_xo xz39 (fun _ h => h) (pq := ck_prot1) (C := C) t0 (by decide); have kz39 := congrArg Int32.toInt xz39
            refine hr_bp hx hb dX12_operand_42 (by decide) (by decide) (fun z42 hz42 => ?_)
            refine hr_eq (tgt := 56) hx hb dX12_operand_44 (by decide) (fun h44 => ?_) (fun h44 => ?_)
            · refine lv_aload_n hx hb dX12_operand_56 rfl (lv_at hl 3 rfl) ?_
              refine hr_ic hx hb dX12_operand_57 (by decide) (fun z57 hz57 => ?_)
              refine cm_callV (kc := kc_205) B rfl hb hl (hM.1 _ _ 0 [205] (isM (by decide +kernel)) 205 (by decide)) (hH1 _ tk_X1 205 (by decide)) (b := a0) (As := [.int z57]) ⟨hr_aR t0, hr_aI (by omega) (by omega), True.intro⟩ hp hW hS rfl (by decide) (by decide) (Nat.le_of_ble_eq_true rfl) dX12_operand_58 (fun cs hcs r pvv58 H locs hca hW hS => ?_)
              obtain rfl := List.mem_singleton.mp hcs
              obtain ⟨hr, hq, hc⟩ := hca
              obtain ⟨z58, rfl, lz58, uz58⟩ := hr_rvI hr
              have hp := hr_std hp hc (by decide +kernel)
              have e58w14 := congrArg Int32.toInt (hr_same1 hc (j := 14) (by decide +kernel))
              have sm : ∀ j, j < 32 → j ∉ [13, 14, 24, 31] → pvv58 j = pvv j := fun j h1 h2 => (hr_sameX (l := [13, 14, 24, 31]) hc (by decide +kernel) j h1 h2).trans (sm j h1 h2)
              exact hr_zret B hb rfl ⟨by omega, by omega⟩ ⟨hp, sm, z58, rfl, C, rfl, sfr_rf, Or.inl (by omega)⟩ hW hS dX12_operand_61
            · refine lv_aload_n hx hb dX12_operand_47 rfl (lv_at hl 3 rfl) ?_
              refine hr_getI B hF hb hW (ci := 12) (j := 48) (cd := 0) t0 rfl (isF (by decide +kernel)) rfl dX12_operand_48 (fun z48 lz48 uz48 pz48 xz48 => ?_)
              refine hr_bp hx hb dX12_operand_51 (by decide) (by decide) (fun z51 hz51 => ?_)
              refine hr_le (tgt := 62) hx hb dX12_operand_53 (by decide) (fun h53 => ?_) (fun h53 => ?_)
              · refine lv_aload_n hx hb dX12_operand_62 rfl (lv_at hl 3 rfl) ?_
                refine lv_dup hx hb dX12_operand_63 rfl ?_
                refine hr_getI B hF hb hW (ci := 12) (j := 46) (cd := 0) t0 rfl (isF (by decide +kernel)) rfl dX12_operand_64 (fun z64 lz64 uz64 pz64 xz64 => ?_)
                have xz64 := tk_xo xz64 (fun _ h => h) (pq := ck_prot1) (C := C) t0 (by decide); have kz64 := congrArg Int32.toInt xz64
                refine hr_ic hx hb dX12_operand_67 (by decide) (fun z67 hz67 => ?_)
                refine hr_add hx hb dX12_operand_68 (by omega) (by omega) (fun z68 hz68 => ?_)
                refine hr_putN B hF hb hU hW hS (ci := 12) (j := 46) (cd := 0) t0 rfl (isF (by decide +kernel)) rfl (by omega) (by omega) (Or.inl rfl) (tk_EO t0 (fun a h => hun 12 (by decide) _ _ t0 h) (by decide)) (by decide) dX12_operand_69 (fun H locs hW hS => ?_)
                obtain ⟨C69, c69⟩ : ∃ f, f = tk_upd C 12 (46) z68 := ⟨_, rfl⟩
                rw [← c69] at hW
                refine lv_aload_n hx hb dX12_operand_72 rfl (lv_at hl 3 rfl) ?_
                refine cm_callV (kc := kc_209) B rfl hb hl (hM.1 _ _ 0 [209] (isM (by decide +kernel)) 209 (by decide)) (hH1 _ tk_X1 209 (by decide)) (b := a0) (As := []) ⟨hr_aR t0, True.intro⟩ hp hW hS rfl (by decide) (by decide) (Nat.le_of_ble_eq_true rfl) dX12_operand_73 (fun cs hcs r pvv73 H locs hca hW hS => ?_)
                rcases List.mem_cons.mp hcs with rfl | hcs
                · obtain ⟨hr, hq, hc⟩ := hca
                  obtain rfl := hr_rv0 hr
                  have hp := hr_std hp hc (by decide +kernel)
                  have e73r14 := hr_pv hc 14 (lo := 0) (hi := 0) rfl
                  have sm : ∀ j, j < 32 → j ∉ [13, 14, 24, 31] → pvv73 j = pvv j := fun j h1 h2 => (hr_sameX (l := [13, 14, 24, 31]) hc (by decide +kernel) j h1 h2).trans (sm j h1 h2)
                  exact l76 1 z16 z11 z4 pvv73 C69 _ _ _ (by omega) (by omega) (by omega) (by omega) (fun t j h => by rw [c69, tk_un h]) (by rw [c69, tk_us]; omega) (by omega) sm hp hl hW hS
                rcases List.mem_cons.mp hcs with rfl | hcs
                · obtain ⟨hr, hq, hc⟩ := hca
                  obtain rfl := hr_rv0 hr
                  have hp := hr_std hp hc (by decide +kernel)
                  have e73r14 := hr_pv hc 14 (lo := 4) (hi := 4) rfl
                  have sm : ∀ j, j < 32 → j ∉ [13, 14, 24, 31] → pvv73 j = pvv j := fun j h1 h2 => (hr_sameX (l := [13, 14, 24, 31]) hc (by decide +kernel) j h1 h2).trans (sm j h1 h2)
                  exact l76 1 z16 z11 z4 pvv73 C69 _ _ _ (by omega) (by omega) (by omega) (by omega) (fun t j h => by rw [c69, tk_un h]) (by rw [c69, tk_us]; omega) (by omega) sm hp hl hW hS
                rcases List.mem_cons.mp hcs with rfl | hcs
                · obtain ⟨hr, hq, hc⟩ := hca
                  obtain rfl := hr_rv0 hr
                  have hp := hr_std hp hc (by decide +kernel)
                  have e73r14 := hr_pv hc 14 (lo := 3) (hi := 3) rfl
                  have sm : ∀ j, j < 32 → j ∉ [13, 14, 24, 31] → pvv73 j = pvv j := fun j h1 h2 => (hr_sameX (l := [13, 14, 24, 31]) hc (by decide +kernel) j h1 h2).trans (sm j h1 h2)
                  exact l76 1 z16 z11 z4 pvv73 C69 _ _ _ (by omega) (by omega) (by omega) (by omega) (fun t j h => by rw [c69, tk_un h]) (by rw [c69, tk_us]; omega) (by omega) sm hp hl hW hS
                obtain rfl := List.mem_singleton.mp hcs
                obtain ⟨hr, hq, hc⟩ := hca
                obtain rfl := hr_rv0 hr
                have hp := hr_std hp hc (by decide +kernel)
                have e73r14 := hr_pv hc 14 (lo := 1) (hi := 2) rfl
                have sm : ∀ j, j < 32 → j ∉ [13, 14, 24, 31] → pvv73 j = pvv j := fun j h1 h2 => (hr_sameX (l := [13, 14, 24, 31]) hc (by decide +kernel) j h1 h2).trans (sm j h1 h2)
                exact l76 1 z16 z11 z4 pvv73 C69 _ _ _ (by omega) (by omega) (by omega) (by omega) (fun t j h => by rw [c69, tk_un h]) (by rw [c69, tk_us]; omega) (by omega) sm hp hl hW hS
              · refine lv_aload_n hx hb dX12_operand_56 rfl (lv_at hl 3 rfl) ?_
                refine hr_ic hx hb dX12_operand_57 (by decide) (fun z57 hz57 => ?_)
                refine cm_callV (kc := kc_205) B rfl hb hl (hM.1 _ _ 0 [205] (isM (by decide +kernel)) 205 (by decide)) (hH1 _ tk_X1 205 (by decide)) (b := a0) (As := [.int z57]) ⟨hr_aR t0, hr_aI (by omega) (by omega), True.intro⟩ hp hW hS rfl (by decide) (by decide) (Nat.le_of_ble_eq_true rfl) dX12_operand_58 (fun cs hcs r pvv58 H locs hca hW hS => ?_)
                obtain rfl := List.mem_singleton.mp hcs
                obtain ⟨hr, hq, hc⟩ := hca
                obtain ⟨z58, rfl, lz58, uz58⟩ := hr_rvI hr
                have hp := hr_std hp hc (by decide +kernel)
                have e58w14 := congrArg Int32.toInt (hr_same1 hc (j := 14) (by decide +kernel))
                have sm : ∀ j, j < 32 → j ∉ [13, 14, 24, 31] → pvv58 j = pvv j := fun j h1 h2 => (hr_sameX (l := [13, 14, 24, 31]) hc (by decide +kernel) j h1 h2).trans (sm j h1 h2)
                exact hr_zret B hb rfl ⟨by omega, by omega⟩ ⟨hp, sm, z58, rfl, C, rfl, sfr_rf, Or.inl (by omega)⟩ hW hS dX12_operand_61
          · refine lv_aload_n hx hb dX12_operand_32 rfl (lv_at hl 3 rfl) ?_
            refine hr_ic hx hb dX12_operand_33 (by decide) (fun z33 hz33 => ?_)
            refine cm_callV (kc := kc_205) B rfl hb hl (hM.1 _ _ 0 [205] (isM (by decide +kernel)) 205 (by decide)) (hH1 _ tk_X1 205 (by decide)) (b := a0) (As := [.int z33]) ⟨hr_aR t0, hr_aI (by omega) (by omega), True.intro⟩ hp hW hS rfl (by decide) (by decide) (Nat.le_of_ble_eq_true rfl) dX12_operand_34 (fun cs hcs r pvv34 H locs hca hW hS => ?_)
            obtain rfl := List.mem_singleton.mp hcs
            obtain ⟨hr, hq, hc⟩ := hca
            obtain ⟨z34, rfl, lz34, uz34⟩ := hr_rvI hr
            have hp := hr_std hp hc (by decide +kernel)
            have e34w14 := congrArg Int32.toInt (hr_same1 hc (j := 14) (by decide +kernel))
            have sm : ∀ j, j < 32 → j ∉ [13, 14, 24, 31] → pvv34 j = pvv j := fun j h1 h2 => (hr_sameX (l := [13, 14, 24, 31]) hc (by decide +kernel) j h1 h2).trans (sm j h1 h2)
            exact hr_zret B hb rfl ⟨by omega, by omega⟩ ⟨hp, sm, z34, rfl, C, rfl, sfr_rf, Or.inl (by omega)⟩ hW hS dX12_operand_37
    obtain rfl := List.mem_singleton.mp hcs
    obtain ⟨hr, hq, hc⟩ := hca
    obtain ⟨z11, rfl, lz11, uz11⟩ := hr_rvI hr
    have e11r14 := hr_pv hc 14 (lo := 3) (hi := 3) rfl; rw [hr_same1 hc (j := 14) (by decide +kernel)] at e11r14
    have hW := hr_pvE (hr_sameA hc rfl (by decide +kernel)) hW
    refine lv_istore_n hx hb dX12_operand_14 rfl hl (lv' := [(2, .int z11), (1, .int z4), (0, .ref a0)]) (by decide) rfl (fun ls hl => ?_)
    refine lv_aload_n hx hb dX12_operand_15 rfl (lv_at hl 2 rfl) ?_
    refine cm_callV (kc := kc_256) B rfl hb hl (hM.1 _ _ 0 [256] (isM (by decide +kernel)) 256 (by decide)) (hH1 _ tk_X1 256 (by decide)) (b := a0) (As := []) ⟨hr_aR t0, True.intro⟩ hp hW hS rfl (by decide) (by decide) (Nat.le_of_ble_eq_true rfl) dX12_operand_16 (fun cs hcs r pvv16 H locs hca hW hS => ?_)
    obtain rfl := List.mem_singleton.mp hcs
    obtain ⟨hr, hq, hc⟩ := hca
    obtain ⟨z16, rfl, lz16, uz16⟩ := hr_rvI hr
    have hW := hr_pvE (hr_sameA hc rfl (by decide +kernel)) hW
    refine lv_istore_n hx hb dX12_operand_19 rfl hl (lv' := [(3, .int z16), (2, .int z11), (1, .int z4), (0, .ref a0)]) (by decide) rfl (fun ls hl => ?_)
    refine lv_iload_n hx hb dX12_operand_20 rfl (lv_at hl 2 rfl) ?_
    refine hr_ne0 (tgt := 38) hx hb dX12_operand_21 (by decide) (fun h21 => ?_) (fun h21 => ?_)
    · omega
    · refine lv_iload_n hx hb dX12_operand_24 rfl (lv_at hl 1 rfl) ?_
      refine hr_ne0 (tgt := 38) hx hb dX12_operand_25 (by decide) (fun h25 => ?_) (fun h25 => ?_)
      · refine lv_aload_n hx hb dX12_operand_38 rfl (lv_at hl 3 rfl) ?_
        refine hr_getI B hF hb hW (ci := 12) (j := 46) (cd := 0) t0 rfl (isF (by decide +kernel)) rfl dX12_operand_39 (fun z39 lz39 uz39 pz39 xz39 => ?_)
        have xz39 := tk_xo xz39 (fun _ h => h) (pq := ck_prot1) (C := C) t0 (by decide); have kz39 := congrArg Int32.toInt xz39
        refine hr_bp hx hb dX12_operand_42 (by decide) (by decide) (fun z42 hz42 => ?_)
        refine hr_eq (tgt := 56) hx hb dX12_operand_44 (by decide) (fun h44 => ?_) (fun h44 => ?_)
        · refine lv_aload_n hx hb dX12_operand_56 rfl (lv_at hl 3 rfl) ?_
          refine hr_ic hx hb dX12_operand_57 (by decide) (fun z57 hz57 => ?_)
          refine cm_callV (kc := kc_205) B rfl hb hl (hM.1 _ _ 0 [205] (isM (by decide +kernel)) 205 (by decide)) (hH1 _ tk_X1 205 (by decide)) (b := a0) (As := [.int z57]) ⟨hr_aR t0, hr_aI (by omega) (by omega), True.intro⟩ hp hW hS rfl (by decide) (by decide) (Nat.le_of_ble_eq_true rfl) dX12_operand_58 (fun cs hcs r pvv58 H locs hca hW hS => ?_)
          obtain rfl := List.mem_singleton.mp hcs
          obtain ⟨hr, hq, hc⟩ := hca
          obtain ⟨z58, rfl, lz58, uz58⟩ := hr_rvI hr
          have hp := hr_std hp hc (by decide +kernel)
          have e58w14 := congrArg Int32.toInt (hr_same1 hc (j := 14) (by decide +kernel))
          have sm : ∀ j, j < 32 → j ∉ [13, 14, 24, 31] → pvv58 j = pvv j := fun j h1 h2 => (hr_sameX (l := [13, 14, 24, 31]) hc (by decide +kernel) j h1 h2).trans (sm j h1 h2)
          exact hr_zret B hb rfl ⟨by omega, by omega⟩ ⟨hp, sm, z58, rfl, C, rfl, sfr_rf, Or.inl (by omega)⟩ hW hS dX12_operand_61
        · refine lv_aload_n hx hb dX12_operand_47 rfl (lv_at hl 3 rfl) ?_
          refine hr_getI B hF hb hW (ci := 12) (j := 48) (cd := 0) t0 rfl (isF (by decide +kernel)) rfl dX12_operand_48 (fun z48 lz48 uz48 pz48 xz48 => ?_)
          refine hr_bp hx hb dX12_operand_51 (by decide) (by decide) (fun z51 hz51 => ?_)
          refine hr_le (tgt := 62) hx hb dX12_operand_53 (by decide) (fun h53 => ?_) (fun h53 => ?_)
          · refine lv_aload_n hx hb dX12_operand_62 rfl (lv_at hl 3 rfl) ?_
            refine lv_dup hx hb dX12_operand_63 rfl ?_
            refine hr_getI B hF hb hW (ci := 12) (j := 46) (cd := 0) t0 rfl (isF (by decide +kernel)) rfl dX12_operand_64 (fun z64 lz64 uz64 pz64 xz64 => ?_)
            have xz64 := tk_xo xz64 (fun _ h => h) (pq := ck_prot1) (C := C) t0 (by decide); have kz64 := congrArg Int32.toInt xz64
            refine hr_ic hx hb dX12_operand_67 (by decide) (fun z67 hz67 => ?_)
            refine hr_add hx hb dX12_operand_68 (by omega) (by omega) (fun z68 hz68 => ?_)
            refine hr_putN B hF hb hU hW hS (ci := 12) (j := 46) (cd := 0) t0 rfl (isF (by decide +kernel)) rfl (by omega) (by omega) (Or.inl rfl) (tk_EO t0 (fun a h => hun 12 (by decide) _ _ t0 h) (by decide)) (by decide) dX12_operand_69 (fun H locs hW hS => ?_)
            obtain ⟨C69, c69⟩ : ∃ f, f = tk_upd C 12 (46) z68 := ⟨_, rfl⟩
            rw [← c69] at hW
            refine lv_aload_n hx hb dX12_operand_72 rfl (lv_at hl 3 rfl) ?_
            refine cm_callV (kc := kc_209) B rfl hb hl (hM.1 _ _ 0 [209] (isM (by decide +kernel)) 209 (by decide)) (hH1 _ tk_X1 209 (by decide)) (b := a0) (As := []) ⟨hr_aR t0, True.intro⟩ hp hW hS rfl (by decide) (by decide) (Nat.le_of_ble_eq_true rfl) dX12_operand_73 (fun cs hcs r pvv73 H locs hca hW hS => ?_)
            rcases List.mem_cons.mp hcs with rfl | hcs
            · obtain ⟨hr, hq, hc⟩ := hca
              obtain rfl := hr_rv0 hr
              have hp := hr_std hp hc (by decide +kernel)
              have e73r14 := hr_pv hc 14 (lo := 0) (hi := 0) rfl
              have sm : ∀ j, j < 32 → j ∉ [13, 14, 24, 31] → pvv73 j = pvv j := fun j h1 h2 => (hr_sameX (l := [13, 14, 24, 31]) hc (by decide +kernel) j h1 h2).trans (sm j h1 h2)
              exact l76 1 z16 z11 z4 pvv73 C69 _ _ _ (by omega) (by omega) (by omega) (by omega) (fun t j h => by rw [c69, tk_un h]) (by rw [c69, tk_us]; omega) (by omega) sm hp hl hW hS
            rcases List.mem_cons.mp hcs with rfl | hcs
            · obtain ⟨hr, hq, hc⟩ := hca
              obtain rfl := hr_rv0 hr
              have hp := hr_std hp hc (by decide +kernel)
              have e73r14 := hr_pv hc 14 (lo := 4) (hi := 4) rfl
              have sm : ∀ j, j < 32 → j ∉ [13, 14, 24, 31] → pvv73 j = pvv j := fun j h1 h2 => (hr_sameX (l := [13, 14, 24, 31]) hc (by decide +kernel) j h1 h2).trans (sm j h1 h2)
              exact l76 1 z16 z11 z4 pvv73 C69 _ _ _ (by omega) (by omega) (by omega) (by omega) (fun t j h => by rw [c69, tk_un h]) (by rw [c69, tk_us]; omega) (by omega) sm hp hl hW hS
            rcases List.mem_cons.mp hcs with rfl | hcs
            · obtain ⟨hr, hq, hc⟩ := hca
              obtain rfl := hr_rv0 hr
              have hp := hr_std hp hc (by decide +kernel)
              have e73r14 := hr_pv hc 14 (lo := 3) (hi := 3) rfl
              have sm : ∀ j, j < 32 → j ∉ [13, 14, 24, 31] → pvv73 j = pvv j := fun j h1 h2 => (hr_sameX (l := [13, 14, 24, 31]) hc (by decide +kernel) j h1 h2).trans (sm j h1 h2)
              exact l76 1 z16 z11 z4 pvv73 C69 _ _ _ (by omega) (by omega) (by omega) (by omega) (fun t j h => by rw [c69, tk_un h]) (by rw [c69, tk_us]; omega) (by omega) sm hp hl hW hS
            obtain rfl := List.mem_singleton.mp hcs
            obtain ⟨hr, hq, hc⟩ := hca
            obtain rfl := hr_rv0 hr
            have hp := hr_std hp hc (by decide +kernel)
            have e73r14 := hr_pv hc 14 (lo := 1) (hi := 2) rfl
            have sm : ∀ j, j < 32 → j ∉ [13, 14, 24, 31] → pvv73 j = pvv j := fun j h1 h2 => (hr_sameX (l := [13, 14, 24, 31]) hc (by decide +kernel) j h1 h2).trans (sm j h1 h2)
            exact l76 1 z16 z11 z4 pvv73 C69 _ _ _ (by omega) (by omega) (by omega) (by omega) (fun t j h => by rw [c69, tk_un h]) (by rw [c69, tk_us]; omega) (by omega) sm hp hl hW hS
          · refine lv_aload_n hx hb dX12_operand_56 rfl (lv_at hl 3 rfl) ?_
            refine hr_ic hx hb dX12_operand_57 (by decide) (fun z57 hz57 => ?_)
            refine cm_callV (kc := kc_205) B rfl hb hl (hM.1 _ _ 0 [205] (isM (by decide +kernel)) 205 (by decide)) (hH1 _ tk_X1 205 (by decide)) (b := a0) (As := [.int z57]) ⟨hr_aR t0, hr_aI (by omega) (by omega), True.intro⟩ hp hW hS rfl (by decide) (by decide) (Nat.le_of_ble_eq_true rfl) dX12_operand_58 (fun cs hcs r pvv58 H locs hca hW hS => ?_)
            obtain rfl := List.mem_singleton.mp hcs
            obtain ⟨hr, hq, hc⟩ := hca
            obtain ⟨z58, rfl, lz58, uz58⟩ := hr_rvI hr
            have hp := hr_std hp hc (by decide +kernel)
            have e58w14 := congrArg Int32.toInt (hr_same1 hc (j := 14) (by decide +kernel))
            have sm : ∀ j, j < 32 → j ∉ [13, 14, 24, 31] → pvv58 j = pvv j := fun j h1 h2 => (hr_sameX (l := [13, 14, 24, 31]) hc (by decide +kernel) j h1 h2).trans (sm j h1 h2)
            exact hr_zret B hb rfl ⟨by omega, by omega⟩ ⟨hp, sm, z58, rfl, C, rfl, sfr_rf, Or.inl (by omega)⟩ hW hS dX12_operand_61
      · omega
  obtain rfl := List.mem_singleton.mp hcs
  obtain ⟨hr, hq, hc⟩ := hca
  obtain ⟨z4, rfl, lz4, uz4⟩ := hr_rvI hr
  have e4r14 := hr_pv hc 14 (lo := 1) (hi := 1) rfl; rw [hr_same1 hc (j := 14) (by decide +kernel)] at e4r14
  have hW := hr_pvE (hr_sameA hc rfl (by decide +kernel)) hW
  refine lv_istore_n hx hb dX12_operand_7 rfl hl (lv' := [(1, .int z4), (0, .ref a0)]) (by decide) rfl (fun ls hl => ?_)
  refine lv_aload_n hx hb dX12_operand_8 rfl (lv_at hl 1 rfl) ?_
  refine hr_bp hx hb dX12_operand_9 (by decide) (by decide) (fun z9 hz9 => ?_)
  refine cm_callV (kc := kc_210) B rfl hb hl (hM.1 _ _ 0 [210] (isM (by decide +kernel)) 210 (by decide)) (hH1 _ tk_X1 210 (by decide)) (b := a0) (As := [.int z9]) ⟨hr_aR t0, hr_aF, True.intro⟩ hp hW hS rfl (by decide) (by decide) (Nat.le_of_ble_eq_true rfl) dX12_operand_11 (fun cs hcs r pvv11 H locs hca hW hS => ?_)
  rcases List.mem_cons.mp hcs with rfl | hcs
  · obtain ⟨hr, hq, hc⟩ := hca
    obtain ⟨z11, rfl, lz11, uz11⟩ := hr_rvI hr
    have hW := hr_pvE (hr_sameA hc rfl (by decide +kernel)) hW
    refine lv_istore_n hx hb dX12_operand_14 rfl hl (lv' := [(2, .int z11), (1, .int z4), (0, .ref a0)]) (by decide) rfl (fun ls hl => ?_)
    refine lv_aload_n hx hb dX12_operand_15 rfl (lv_at hl 2 rfl) ?_
    refine cm_callV (kc := kc_256) B rfl hb hl (hM.1 _ _ 0 [256] (isM (by decide +kernel)) 256 (by decide)) (hH1 _ tk_X1 256 (by decide)) (b := a0) (As := []) ⟨hr_aR t0, True.intro⟩ hp hW hS rfl (by decide) (by decide) (Nat.le_of_ble_eq_true rfl) dX12_operand_16 (fun cs hcs r pvv16 H locs hca hW hS => ?_)
    obtain rfl := List.mem_singleton.mp hcs
    obtain ⟨hr, hq, hc⟩ := hca
    obtain ⟨z16, rfl, lz16, uz16⟩ := hr_rvI hr
    have hW := hr_pvE (hr_sameA hc rfl (by decide +kernel)) hW
    refine lv_istore_n hx hb dX12_operand_19 rfl hl (lv' := [(3, .int z16), (2, .int z11), (1, .int z4), (0, .ref a0)]) (by decide) rfl (fun ls hl => ?_)
    refine lv_iload_n hx hb dX12_operand_20 rfl (lv_at hl 2 rfl) ?_
    refine hr_ne0 (tgt := 38) hx hb dX12_operand_21 (by decide) (fun h21 => ?_) (fun h21 => ?_)
    · refine lv_aload_n hx hb dX12_operand_38 rfl (lv_at hl 3 rfl) ?_
      refine hr_getI B hF hb hW (ci := 12) (j := 46) (cd := 0) t0 rfl (isF (by decide +kernel)) rfl dX12_operand_39 (fun z39 lz39 uz39 pz39 xz39 => ?_)
      have xz39 := tk_xo xz39 (fun _ h => h) (pq := ck_prot1) (C := C) t0 (by decide); have kz39 := congrArg Int32.toInt xz39
      refine hr_bp hx hb dX12_operand_42 (by decide) (by decide) (fun z42 hz42 => ?_)
      refine hr_eq (tgt := 56) hx hb dX12_operand_44 (by decide) (fun h44 => ?_) (fun h44 => ?_)
      · refine lv_aload_n hx hb dX12_operand_56 rfl (lv_at hl 3 rfl) ?_
        refine hr_ic hx hb dX12_operand_57 (by decide) (fun z57 hz57 => ?_)
        refine cm_callV (kc := kc_205) B rfl hb hl (hM.1 _ _ 0 [205] (isM (by decide +kernel)) 205 (by decide)) (hH1 _ tk_X1 205 (by decide)) (b := a0) (As := [.int z57]) ⟨hr_aR t0, hr_aI (by omega) (by omega), True.intro⟩ hp hW hS rfl (by decide) (by decide) (Nat.le_of_ble_eq_true rfl) dX12_operand_58 (fun cs hcs r pvv58 H locs hca hW hS => ?_)
        obtain rfl := List.mem_singleton.mp hcs
        obtain ⟨hr, hq, hc⟩ := hca
        obtain ⟨z58, rfl, lz58, uz58⟩ := hr_rvI hr
        have hp := hr_std hp hc (by decide +kernel)
        have e58w14 := congrArg Int32.toInt (hr_same1 hc (j := 14) (by decide +kernel))
        have sm : ∀ j, j < 32 → j ∉ [13, 14, 24, 31] → pvv58 j = pvv j := fun j h1 h2 => (hr_sameX (l := [13, 14, 24, 31]) hc (by decide +kernel) j h1 h2).trans (sm j h1 h2)
        exact hr_zret B hb rfl ⟨by omega, by omega⟩ ⟨hp, sm, z58, rfl, C, rfl, sfr_rf, Or.inl (by omega)⟩ hW hS dX12_operand_61
      · refine lv_aload_n hx hb dX12_operand_47 rfl (lv_at hl 3 rfl) ?_
        refine hr_getI B hF hb hW (ci := 12) (j := 48) (cd := 0) t0 rfl (isF (by decide +kernel)) rfl dX12_operand_48 (fun z48 lz48 uz48 pz48 xz48 => ?_)
        refine hr_bp hx hb dX12_operand_51 (by decide) (by decide) (fun z51 hz51 => ?_)
        refine hr_le (tgt := 62) hx hb dX12_operand_53 (by decide) (fun h53 => ?_) (fun h53 => ?_)
        · refine lv_aload_n hx hb dX12_operand_62 rfl (lv_at hl 3 rfl) ?_
          refine lv_dup hx hb dX12_operand_63 rfl ?_
          refine hr_getI B hF hb hW (ci := 12) (j := 46) (cd := 0) t0 rfl (isF (by decide +kernel)) rfl dX12_operand_64 (fun z64 lz64 uz64 pz64 xz64 => ?_)
          have xz64 := tk_xo xz64 (fun _ h => h) (pq := ck_prot1) (C := C) t0 (by decide); have kz64 := congrArg Int32.toInt xz64
          refine hr_ic hx hb dX12_operand_67 (by decide) (fun z67 hz67 => ?_)
          refine hr_add hx hb dX12_operand_68 (by omega) (by omega) (fun z68 hz68 => ?_)
          refine hr_putN B hF hb hU hW hS (ci := 12) (j := 46) (cd := 0) t0 rfl (isF (by decide +kernel)) rfl (by omega) (by omega) (Or.inl rfl) (tk_EO t0 (fun a h => hun 12 (by decide) _ _ t0 h) (by decide)) (by decide) dX12_operand_69 (fun H locs hW hS => ?_)
          obtain ⟨C69, c69⟩ : ∃ f, f = tk_upd C 12 (46) z68 := ⟨_, rfl⟩
          rw [← c69] at hW
          refine lv_aload_n hx hb dX12_operand_72 rfl (lv_at hl 3 rfl) ?_
          refine cm_callV (kc := kc_209) B rfl hb hl (hM.1 _ _ 0 [209] (isM (by decide +kernel)) 209 (by decide)) (hH1 _ tk_X1 209 (by decide)) (b := a0) (As := []) ⟨hr_aR t0, True.intro⟩ hp hW hS rfl (by decide) (by decide) (Nat.le_of_ble_eq_true rfl) dX12_operand_73 (fun cs hcs r pvv73 H locs hca hW hS => ?_)
          rcases List.mem_cons.mp hcs with rfl | hcs
          · obtain ⟨hr, hq, hc⟩ := hca
            obtain rfl := hr_rv0 hr
            have hp := hr_std hp hc (by decide +kernel)
            have e73r14 := hr_pv hc 14 (lo := 0) (hi := 0) rfl
            have sm : ∀ j, j < 32 → j ∉ [13, 14, 24, 31] → pvv73 j = pvv j := fun j h1 h2 => (hr_sameX (l := [13, 14, 24, 31]) hc (by decide +kernel) j h1 h2).trans (sm j h1 h2)
            exact l76 1 z16 z11 z4 pvv73 C69 _ _ _ (by omega) (by omega) (by omega) (by omega) (fun t j h => by rw [c69, tk_un h]) (by rw [c69, tk_us]; omega) (by omega) sm hp hl hW hS
          rcases List.mem_cons.mp hcs with rfl | hcs
          · obtain ⟨hr, hq, hc⟩ := hca
            obtain rfl := hr_rv0 hr
            have hp := hr_std hp hc (by decide +kernel)
            have e73r14 := hr_pv hc 14 (lo := 4) (hi := 4) rfl
            have sm : ∀ j, j < 32 → j ∉ [13, 14, 24, 31] → pvv73 j = pvv j := fun j h1 h2 => (hr_sameX (l := [13, 14, 24, 31]) hc (by decide +kernel) j h1 h2).trans (sm j h1 h2)
            exact l76 1 z16 z11 z4 pvv73 C69 _ _ _ (by omega) (by omega) (by omega) (by omega) (fun t j h => by rw [c69, tk_un h]) (by rw [c69, tk_us]; omega) (by omega) sm hp hl hW hS
          rcases List.mem_cons.mp hcs with rfl | hcs
          · obtain ⟨hr, hq, hc⟩ := hca
            obtain rfl := hr_rv0 hr
            have hp := hr_std hp hc (by decide +kernel)
            have e73r14 := hr_pv hc 14 (lo := 3) (hi := 3) rfl
            have sm : ∀ j, j < 32 → j ∉ [13, 14, 24, 31] → pvv73 j = pvv j := fun j h1 h2 => (hr_sameX (l := [13, 14, 24, 31]) hc (by decide +kernel) j h1 h2).trans (sm j h1 h2)
            exact l76 1 z16 z11 z4 pvv73 C69 _ _ _ (by omega) (by omega) (by omega) (by omega) (fun t j h => by rw [c69, tk_un h]) (by rw [c69, tk_us]; omega) (by omega) sm hp hl hW hS
          obtain rfl := List.mem_singleton.mp hcs
          obtain ⟨hr, hq, hc⟩ := hca
          obtain rfl := hr_rv0 hr
          have hp := hr_std hp hc (by decide +kernel)
          have e73r14 := hr_pv hc 14 (lo := 1) (hi := 2) rfl
          have sm : ∀ j, j < 32 → j ∉ [13, 14, 24, 31] → pvv73 j = pvv j := fun j h1 h2 => (hr_sameX (l := [13, 14, 24, 31]) hc (by decide +kernel) j h1 h2).trans (sm j h1 h2)
          exact l76 1 z16 z11 z4 pvv73 C69 _ _ _ (by omega) (by omega) (by omega) (by omega) (fun t j h => by rw [c69, tk_un h]) (by rw [c69, tk_us]; omega) (by omega) sm hp hl hW hS
        · refine lv_aload_n hx hb dX12_operand_56 rfl (lv_at hl 3 rfl) ?_
          refine hr_ic hx hb dX12_operand_57 (by decide) (fun z57 hz57 => ?_)
          refine cm_callV (kc := kc_205) B rfl hb hl (hM.1 _ _ 0 [205] (isM (by decide +kernel)) 205 (by decide)) (hH1 _ tk_X1 205 (by decide)) (b := a0) (As := [.int z57]) ⟨hr_aR t0, hr_aI (by omega) (by omega), True.intro⟩ hp hW hS rfl (by decide) (by decide) (Nat.le_of_ble_eq_true rfl) dX12_operand_58 (fun cs hcs r pvv58 H locs hca hW hS => ?_)
          obtain rfl := List.mem_singleton.mp hcs
          obtain ⟨hr, hq, hc⟩ := hca
          obtain ⟨z58, rfl, lz58, uz58⟩ := hr_rvI hr
          have hp := hr_std hp hc (by decide +kernel)
          have e58w14 := congrArg Int32.toInt (hr_same1 hc (j := 14) (by decide +kernel))
          have sm : ∀ j, j < 32 → j ∉ [13, 14, 24, 31] → pvv58 j = pvv j := fun j h1 h2 => (hr_sameX (l := [13, 14, 24, 31]) hc (by decide +kernel) j h1 h2).trans (sm j h1 h2)
          exact hr_zret B hb rfl ⟨by omega, by omega⟩ ⟨hp, sm, z58, rfl, C, rfl, sfr_rf, Or.inl (by omega)⟩ hW hS dX12_operand_61
    · omega
  obtain rfl := List.mem_singleton.mp hcs
  obtain ⟨hr, hq, hc⟩ := hca
  obtain ⟨z11, rfl, lz11, uz11⟩ := hr_rvI hr
  have e11r14 := hr_pv hc 14 (lo := 3) (hi := 3) rfl; rw [hr_same1 hc (j := 14) (by decide +kernel)] at e11r14
  have hW := hr_pvE (hr_sameA hc rfl (by decide +kernel)) hW
  refine lv_istore_n hx hb dX12_operand_14 rfl hl (lv' := [(2, .int z11), (1, .int z4), (0, .ref a0)]) (by decide) rfl (fun ls hl => ?_)
  refine lv_aload_n hx hb dX12_operand_15 rfl (lv_at hl 2 rfl) ?_
  refine cm_callV (kc := kc_256) B rfl hb hl (hM.1 _ _ 0 [256] (isM (by decide +kernel)) 256 (by decide)) (hH1 _ tk_X1 256 (by decide)) (b := a0) (As := []) ⟨hr_aR t0, True.intro⟩ hp hW hS rfl (by decide) (by decide) (Nat.le_of_ble_eq_true rfl) dX12_operand_16 (fun cs hcs r pvv16 H locs hca hW hS => ?_)
  obtain rfl := List.mem_singleton.mp hcs
  obtain ⟨hr, hq, hc⟩ := hca
  obtain ⟨z16, rfl, lz16, uz16⟩ := hr_rvI hr
  have hW := hr_pvE (hr_sameA hc rfl (by decide +kernel)) hW
  refine lv_istore_n hx hb dX12_operand_19 rfl hl (lv' := [(3, .int z16), (2, .int z11), (1, .int z4), (0, .ref a0)]) (by decide) rfl (fun ls hl => ?_)
  refine lv_iload_n hx hb dX12_operand_20 rfl (lv_at hl 2 rfl) ?_
  refine hr_ne0 (tgt := 38) hx hb dX12_operand_21 (by decide) (fun h21 => ?_) (fun h21 => ?_)
  · refine lv_aload_n hx hb dX12_operand_38 rfl (lv_at hl 3 rfl) ?_
    refine hr_getI B hF hb hW (ci := 12) (j := 46) (cd := 0) t0 rfl (isF (by decide +kernel)) rfl dX12_operand_39 (fun z39 lz39 uz39 pz39 xz39 => ?_)
    have xz39 := tk_xo xz39 (fun _ h => h) (pq := ck_prot1) (C := C) t0 (by decide); have kz39 := congrArg Int32.toInt xz39
    refine hr_bp hx hb dX12_operand_42 (by decide) (by decide) (fun z42 hz42 => ?_)
    refine hr_eq (tgt := 56) hx hb dX12_operand_44 (by decide) (fun h44 => ?_) (fun h44 => ?_)
    · refine lv_aload_n hx hb dX12_operand_56 rfl (lv_at hl 3 rfl) ?_
      refine hr_ic hx hb dX12_operand_57 (by decide) (fun z57 hz57 => ?_)
      refine cm_callV (kc := kc_205) B rfl hb hl (hM.1 _ _ 0 [205] (isM (by decide +kernel)) 205 (by decide)) (hH1 _ tk_X1 205 (by decide)) (b := a0) (As := [.int z57]) ⟨hr_aR t0, hr_aI (by omega) (by omega), True.intro⟩ hp hW hS rfl (by decide) (by decide) (Nat.le_of_ble_eq_true rfl) dX12_operand_58 (fun cs hcs r pvv58 H locs hca hW hS => ?_)
      obtain rfl := List.mem_singleton.mp hcs
      obtain ⟨hr, hq, hc⟩ := hca
      obtain ⟨z58, rfl, lz58, uz58⟩ := hr_rvI hr
      have hp := hr_std hp hc (by decide +kernel)
      have e58w14 := congrArg Int32.toInt (hr_same1 hc (j := 14) (by decide +kernel))
      have sm : ∀ j, j < 32 → j ∉ [13, 14, 24, 31] → pvv58 j = pvv j := fun j h1 h2 => (hr_sameX (l := [13, 14, 24, 31]) hc (by decide +kernel) j h1 h2).trans (sm j h1 h2)
      exact hr_zret B hb rfl ⟨by omega, by omega⟩ ⟨hp, sm, z58, rfl, C, rfl, sfr_rf, Or.inl (by omega)⟩ hW hS dX12_operand_61
    · refine lv_aload_n hx hb dX12_operand_47 rfl (lv_at hl 3 rfl) ?_
      refine hr_getI B hF hb hW (ci := 12) (j := 48) (cd := 0) t0 rfl (isF (by decide +kernel)) rfl dX12_operand_48 (fun z48 lz48 uz48 pz48 xz48 => ?_)
      refine hr_bp hx hb dX12_operand_51 (by decide) (by decide) (fun z51 hz51 => ?_)
      refine hr_le (tgt := 62) hx hb dX12_operand_53 (by decide) (fun h53 => ?_) (fun h53 => ?_)
      · refine lv_aload_n hx hb dX12_operand_62 rfl (lv_at hl 3 rfl) ?_
        refine lv_dup hx hb dX12_operand_63 rfl ?_
        refine hr_getI B hF hb hW (ci := 12) (j := 46) (cd := 0) t0 rfl (isF (by decide +kernel)) rfl dX12_operand_64 (fun z64 lz64 uz64 pz64 xz64 => ?_)
        have xz64 := tk_xo xz64 (fun _ h => h) (pq := ck_prot1) (C := C) t0 (by decide); have kz64 := congrArg Int32.toInt xz64
        refine hr_ic hx hb dX12_operand_67 (by decide) (fun z67 hz67 => ?_)
        refine hr_add hx hb dX12_operand_68 (by omega) (by omega) (fun z68 hz68 => ?_)
        refine hr_putN B hF hb hU hW hS (ci := 12) (j := 46) (cd := 0) t0 rfl (isF (by decide +kernel)) rfl (by omega) (by omega) (Or.inl rfl) (tk_EO t0 (fun a h => hun 12 (by decide) _ _ t0 h) (by decide)) (by decide) dX12_operand_69 (fun H locs hW hS => ?_)
        obtain ⟨C69, c69⟩ : ∃ f, f = tk_upd C 12 (46) z68 := ⟨_, rfl⟩
        rw [← c69] at hW
        refine lv_aload_n hx hb dX12_operand_72 rfl (lv_at hl 3 rfl) ?_
        refine cm_callV (kc := kc_209) B rfl hb hl (hM.1 _ _ 0 [209] (isM (by decide +kernel)) 209 (by decide)) (hH1 _ tk_X1 209 (by decide)) (b := a0) (As := []) ⟨hr_aR t0, True.intro⟩ hp hW hS rfl (by decide) (by decide) (Nat.le_of_ble_eq_true rfl) dX12_operand_73 (fun cs hcs r pvv73 H locs hca hW hS => ?_)
        rcases List.mem_cons.mp hcs with rfl | hcs
        · obtain ⟨hr, hq, hc⟩ := hca
          obtain rfl := hr_rv0 hr
          have hp := hr_std hp hc (by decide +kernel)
          have e73r14 := hr_pv hc 14 (lo := 0) (hi := 0) rfl
          have sm : ∀ j, j < 32 → j ∉ [13, 14, 24, 31] → pvv73 j = pvv j := fun j h1 h2 => (hr_sameX (l := [13, 14, 24, 31]) hc (by decide +kernel) j h1 h2).trans (sm j h1 h2)
          exact l76 1 z16 z11 z4 pvv73 C69 _ _ _ (by omega) (by omega) (by omega) (by omega) (fun t j h => by rw [c69, tk_un h]) (by rw [c69, tk_us]; omega) (by omega) sm hp hl hW hS
        rcases List.mem_cons.mp hcs with rfl | hcs
        · obtain ⟨hr, hq, hc⟩ := hca
          obtain rfl := hr_rv0 hr
          have hp := hr_std hp hc (by decide +kernel)
          have e73r14 := hr_pv hc 14 (lo := 4) (hi := 4) rfl
          have sm : ∀ j, j < 32 → j ∉ [13, 14, 24, 31] → pvv73 j = pvv j := fun j h1 h2 => (hr_sameX (l := [13, 14, 24, 31]) hc (by decide +kernel) j h1 h2).trans (sm j h1 h2)
          exact l76 1 z16 z11 z4 pvv73 C69 _ _ _ (by omega) (by omega) (by omega) (by omega) (fun t j h => by rw [c69, tk_un h]) (by rw [c69, tk_us]; omega) (by omega) sm hp hl hW hS
        rcases List.mem_cons.mp hcs with rfl | hcs
        · obtain ⟨hr, hq, hc⟩ := hca
          obtain rfl := hr_rv0 hr
          have hp := hr_std hp hc (by decide +kernel)
          have e73r14 := hr_pv hc 14 (lo := 3) (hi := 3) rfl
          have sm : ∀ j, j < 32 → j ∉ [13, 14, 24, 31] → pvv73 j = pvv j := fun j h1 h2 => (hr_sameX (l := [13, 14, 24, 31]) hc (by decide +kernel) j h1 h2).trans (sm j h1 h2)
          exact l76 1 z16 z11 z4 pvv73 C69 _ _ _ (by omega) (by omega) (by omega) (by omega) (fun t j h => by rw [c69, tk_un h]) (by rw [c69, tk_us]; omega) (by omega) sm hp hl hW hS
        obtain rfl := List.mem_singleton.mp hcs
        obtain ⟨hr, hq, hc⟩ := hca
        obtain rfl := hr_rv0 hr
        have hp := hr_std hp hc (by decide +kernel)
        have e73r14 := hr_pv hc 14 (lo := 1) (hi := 2) rfl
        have sm : ∀ j, j < 32 → j ∉ [13, 14, 24, 31] → pvv73 j = pvv j := fun j h1 h2 => (hr_sameX (l := [13, 14, 24, 31]) hc (by decide +kernel) j h1 h2).trans (sm j h1 h2)
        exact l76 1 z16 z11 z4 pvv73 C69 _ _ _ (by omega) (by omega) (by omega) (by omega) (fun t j h => by rw [c69, tk_un h]) (by rw [c69, tk_us]; omega) (by omega) sm hp hl hW hS
      · refine lv_aload_n hx hb dX12_operand_56 rfl (lv_at hl 3 rfl) ?_
        refine hr_ic hx hb dX12_operand_57 (by decide) (fun z57 hz57 => ?_)
        refine cm_callV (kc := kc_205) B rfl hb hl (hM.1 _ _ 0 [205] (isM (by decide +kernel)) 205 (by decide)) (hH1 _ tk_X1 205 (by decide)) (b := a0) (As := [.int z57]) ⟨hr_aR t0, hr_aI (by omega) (by omega), True.intro⟩ hp hW hS rfl (by decide) (by decide) (Nat.le_of_ble_eq_true rfl) dX12_operand_58 (fun cs hcs r pvv58 H locs hca hW hS => ?_)
        obtain rfl := List.mem_singleton.mp hcs
        obtain ⟨hr, hq, hc⟩ := hca
        obtain ⟨z58, rfl, lz58, uz58⟩ := hr_rvI hr
        have hp := hr_std hp hc (by decide +kernel)
        have e58w14 := congrArg Int32.toInt (hr_same1 hc (j := 14) (by decide +kernel))
        have sm : ∀ j, j < 32 → j ∉ [13, 14, 24, 31] → pvv58 j = pvv j := fun j h1 h2 => (hr_sameX (l := [13, 14, 24, 31]) hc (by decide +kernel) j h1 h2).trans (sm j h1 h2)
        exact hr_zret B hb rfl ⟨by omega, by omega⟩ ⟨hp, sm, z58, rfl, C, rfl, sfr_rf, Or.inl (by omega)⟩ hW hS dX12_operand_61
  · omega
end H32
