/-! BOTH CONTRACTS INSIDE A METHOD, 4: the class's book. -/
section HX11
variable {l : Launch} {D : va_G} {cys : Nat → ClassId} {ty : Nat → Option Nat}
theorem dX11_book_0 : decode cX11_book 0 = .ok (.iload_n 1, 1) := by decide +kernel
theorem dX11_book_1 : decode cX11_book 1 = .ok (.ifCond .eq 12, 3) := by decide +kernel
theorem dX11_book_4 : decode cX11_book 4 = .ok (.iload_n 1, 1) := by decide +kernel
theorem dX11_book_5 : decode cX11_book 5 = .ok (.iconst 1, 1) := by decide +kernel
theorem dX11_book_6 : decode cX11_book 6 = .ok (.if_icmp .eq 7, 3) := by decide +kernel
theorem dX11_book_9 : decode cX11_book 9 = .ok (.sipush (-1000), 3) := by decide +kernel
theorem dX11_book_12 : decode cX11_book 12 = .ok (.ireturn, 1) := by decide +kernel
theorem dX11_book_13 : decode cX11_book 13 = .ok (.aload_n 0, 1) := by decide +kernel
theorem dX11_book_14 : decode cX11_book 14 = .ok (.getfield 10, 3) := by decide +kernel
theorem dX11_book_17 : decode cX11_book 17 = .ok (.sipush 400, 3) := by decide +kernel
theorem dX11_book_20 : decode cX11_book 20 = .ok (.invokevirtual 116, 3) := by decide +kernel
theorem dX11_book_23 : decode cX11_book 23 = .ok (.aload_n 0, 1) := by decide +kernel
theorem dX11_book_24 : decode cX11_book 24 = .ok (.getfield 74, 3) := by decide +kernel
theorem dX11_book_27 : decode cX11_book 27 = .ok (.aload_n 0, 1) := by decide +kernel
theorem dX11_book_28 : decode cX11_book 28 = .ok (.getfield 10, 3) := by decide +kernel
theorem dX11_book_31 : decode cX11_book 31 = .ok (.aload_n 0, 1) := by decide +kernel
theorem dX11_book_32 : decode cX11_book 32 = .ok (.getfield 26, 3) := by decide +kernel
theorem dX11_book_35 : decode cX11_book 35 = .ok (.invokevirtual 355, 3) := by decide +kernel
theorem dX11_book_38 : decode cX11_book 38 = .ok (.aload_n 0, 1) := by decide +kernel
theorem dX11_book_39 : decode cX11_book 39 = .ok (.getfield 10, 3) := by decide +kernel
theorem dX11_book_42 : decode cX11_book 42 = .ok (.getfield 99, 3) := by decide +kernel
theorem dX11_book_45 : decode cX11_book 45 = .ok (.iconst 0, 1) := by decide +kernel
theorem dX11_book_46 : decode cX11_book 46 = .ok (.putfield 113, 3) := by decide +kernel
theorem dX11_book_49 : decode cX11_book 49 = .ok (.aload_n 0, 1) := by decide +kernel
theorem dX11_book_50 : decode cX11_book 50 = .ok (.aload_n 0, 1) := by decide +kernel
theorem dX11_book_51 : decode cX11_book 51 = .ok (.getfield 10, 3) := by decide +kernel
theorem dX11_book_54 : decode cX11_book 54 = .ok (.getfield 123, 3) := by decide +kernel
theorem dX11_book_57 : decode cX11_book 57 = .ok (.putfield 88, 3) := by decide +kernel
theorem dX11_book_60 : decode cX11_book 60 = .ok (.aload_n 0, 1) := by decide +kernel
theorem dX11_book_61 : decode cX11_book 61 = .ok (.getfield 10, 3) := by decide +kernel
theorem dX11_book_64 : decode cX11_book 64 = .ok (.getfield 123, 3) := by decide +kernel
theorem dX11_book_67 : decode cX11_book 67 = .ok (.ifCond .eq 14, 3) := by decide +kernel
theorem dX11_book_70 : decode cX11_book 70 = .ok (.bipush (-2), 2) := by decide +kernel
theorem dX11_book_72 : decode cX11_book 72 = .ok (.aload_n 0, 1) := by decide +kernel
theorem dX11_book_73 : decode cX11_book 73 = .ok (.getfield 10, 3) := by decide +kernel
theorem dX11_book_76 : decode cX11_book 76 = .ok (.getfield 126, 3) := by decide +kernel
theorem dX11_book_79 : decode cX11_book 79 = .ok (.isub, 1) := by decide +kernel
theorem dX11_book_80 : decode cX11_book 80 = .ok (.ireturn, 1) := by decide +kernel
theorem dX11_book_81 : decode cX11_book 81 = .ok (.aload_n 0, 1) := by decide +kernel
theorem dX11_book_82 : decode cX11_book 82 = .ok (.getfield 37, 3) := by decide +kernel
theorem dX11_book_85 : decode cX11_book 85 = .ok (.aload_n 0, 1) := by decide +kernel
theorem dX11_book_86 : decode cX11_book 86 = .ok (.getfield 33, 3) := by decide +kernel
theorem dX11_book_89 : decode cX11_book 89 = .ok (.invokevirtual 353, 3) := by decide +kernel
theorem dX11_book_92 : decode cX11_book 92 = .ok (.aload_n 0, 1) := by decide +kernel
theorem dX11_book_93 : decode cX11_book 93 = .ok (.getfield 74, 3) := by decide +kernel
theorem dX11_book_96 : decode cX11_book 96 = .ok (.aload_n 0, 1) := by decide +kernel
theorem dX11_book_97 : decode cX11_book 97 = .ok (.getfield 26, 3) := by decide +kernel
theorem dX11_book_100 : decode cX11_book 100 = .ok (.aload_n 0, 1) := by decide +kernel
theorem dX11_book_101 : decode cX11_book 101 = .ok (.getfield 37, 3) := by decide +kernel
theorem dX11_book_104 : decode cX11_book 104 = .ok (.aload_n 0, 1) := by decide +kernel
theorem dX11_book_105 : decode cX11_book 105 = .ok (.getfield 60, 3) := by decide +kernel
theorem dX11_book_108 : decode cX11_book 108 = .ok (.invokevirtual 358, 3) := by decide +kernel
theorem dX11_book_111 : decode cX11_book 111 = .ok (.istore_n 2, 1) := by decide +kernel
theorem dX11_book_112 : decode cX11_book 112 = .ok (.iload_n 1, 1) := by decide +kernel
theorem dX11_book_113 : decode cX11_book 113 = .ok (.iconst 1, 1) := by decide +kernel
theorem dX11_book_114 : decode cX11_book 114 = .ok (.if_icmp .ne 25, 3) := by decide +kernel
theorem dX11_book_117 : decode cX11_book 117 = .ok (.aload_n 0, 1) := by decide +kernel
theorem dX11_book_118 : decode cX11_book 118 = .ok (.getfield 43, 3) := by decide +kernel
theorem dX11_book_121 : decode cX11_book 121 = .ok (.aload_n 0, 1) := by decide +kernel
theorem dX11_book_122 : decode cX11_book 122 = .ok (.getfield 33, 3) := by decide +kernel
theorem dX11_book_125 : decode cX11_book 125 = .ok (.invokevirtual 248, 3) := by decide +kernel
theorem dX11_book_128 : decode cX11_book 128 = .ok (.aload_n 0, 1) := by decide +kernel
theorem dX11_book_129 : decode cX11_book 129 = .ok (.getfield 33, 3) := by decide +kernel
theorem dX11_book_132 : decode cX11_book 132 = .ok (.aload_n 0, 1) := by decide +kernel
theorem dX11_book_133 : decode cX11_book 133 = .ok (.getfield 37, 3) := by decide +kernel
theorem dX11_book_136 : decode cX11_book 136 = .ok (.invokevirtual 353, 3) := by decide +kernel
theorem dX11_book_139 : decode cX11_book 139 = .ok (.iload_n 2, 1) := by decide +kernel
theorem dX11_book_140 : decode cX11_book 140 = .ok (.ireturn, 1) := by decide +kernel
set_option maxRecDepth 100000 in
set_option maxHeartbeats 4000000 in
theorem hx_11_book (hF : ck_LKf ck_LK) (hC : ck_LKc ck_LK) (hM : ck_LKm ck_tags ck_LK ck_tab) (hMh : ∀ q ∈ ck_hl, ck_mOK ck_tags q.1 q.2.1 q.2.2.1 q.2.2.2) (hU : ck_uq ty ck_pvs0) (hun : ck_un ty) (hH1 : ∀ Ex', ck_ExP ty ck_prot1 Ex' → ∀ j, j < 331 → ck_Holds l D cys ty ck_tags ck_pvs0 Ex' (ck_tab j)) {a0 : Nat} {x1 : Int32} {pvv0 : Nat → Int32} {C : Nat → Nat → Int32} {M0 A1 B1 : ev_C} {v9 : Int} (t0 : ty a0 = some 11) (hp : ck_pvo ty (ck_XE pvv0) pP pvv0) (hG : gC C) (hX1 : 0 ≤ x1.toInt ∧ x1.toInt ≤ 1) (k1 : f_8_open M0 400 = some A1) (k2 : f_0_read_8_6 A1 = some B1) (k3 : B1 8 9 = v9) : hr_Met l D cys ty ck_tags ck_pvs0 (fun ws => tk ty ck_prot1 C ws ∧ ev_T ty cys ck_tags ev_TR M0 ws) (ck_tab 334) [.ref a0, .int x1] pvv0 (fun r pvv' E' => (∃ z : Int32, r = some (.int z)) ∧ (pvv' 30).toInt = v9 ∧ ∃ C' : Nat → Nat → Int32, E' = tk ty ck_prot1 C' ∧ gC C' ∧ ∀ t j, t ∉ [29, 30, 31] → ¬ (t = 0 ∧ j = 0) → C' t j = C t j) := by
  refine hr_enter (by decide +kernel) (by decide +kernel) (by decide +kernel) ⟨hr_aR t0, hr_aI (by omega) (by omega), True.intro⟩ ?_
  intro p e s m below meth c ls B hl hW
  have hx := B.1
  have hb : c.code = cX11_book := B.2.1
  have hI := pv_inj
  have hS : va_S (ck_own ty) s.heap s.heap [] := va_S.rf
  have hUx := ev_uqT hun
  have hMv := hx_ev hW
  have hW := hr_mono (fun _ h => h.1) hW
  have hl : lv_has ls 3 [(0, .ref a0), (1, .int x1)] := hl
  refine lv_iload_n hx hb dX11_book_0 rfl (lv_at hl 1 rfl) ?_
  refine hr_eq0 (tgt := 13) hx hb dX11_book_1 (by decide) (fun h1 => ?_) (fun h1 => ?_)
  · refine lv_aload_n hx hb dX11_book_13 rfl (lv_at hl 0 rfl) ?_
    refine hr_getR B hF hb hW (ci := 11) (j := 0) (cd := 3) t0 rfl (isF (by decide +kernel)) rfl dX11_book_14 (fun az14 tz14 xz14 => ?_)
    refine hr_sp hx hb dX11_book_17 (by decide) (by decide) (fun z17 hz17 => ?_)
    refine hr_callV (kc := kc_120) B rfl hb hl (hM.1 _ _ 0 [120] (isM (by decide +kernel)) 120 (by decide)) (b := az14) (As := [.int z17]) (hx_met (A := [.inr (.inl 8), .inl 400]) (hx_hr (hH1 _ tk_X1 120 (by decide)) ⟨hr_aR tz14, hr_aI (by omega) (by omega), True.intro⟩ hp) (m_8_open hUx k1) ⟨⟨_, rfl, tz14⟩, ⟨_, rfl, hz17⟩, trivial⟩) ⟨hr_aR tz14, hr_aI (by omega) (by omega), True.intro⟩ (hx_mk hW hMv) hS rfl (by decide) (by decide) (Nat.le_of_ble_eq_true rfl) dX11_book_20 (fun r pvv20 E20 H locs hpost hW hS => ?_)
    obtain ⟨_, M20, rx, rfl, ⟨rfl, cs, hcs, hca⟩, hrv, e1, e2⟩ := hpost
    have hMv := hx_ev hW
    have hW := hr_mono (fun _ h => h.1) hW
    rw [e2] at hMv
    obtain rfl := List.mem_singleton.mp hcs
    obtain ⟨hr, hq, hc⟩ := hca
    obtain rfl := hr_rv0 hr
    have hp := hr_std hp hc (by decide +kernel)
    have e20r25 := hr_pv hc 25 (lo := 0) (hi := 0) rfl
    refine lv_aload_n hx hb dX11_book_23 rfl (lv_at hl 0 rfl) ?_
    refine hr_getR B hF hb hW (ci := 11) (j := 10) (cd := 3) t0 rfl (isF (by decide +kernel)) rfl dX11_book_24 (fun az24 tz24 xz24 => ?_)
    refine lv_aload_n hx hb dX11_book_27 rfl (lv_at hl 0 rfl) ?_
    refine hr_getR B hF hb hW (ci := 11) (j := 0) (cd := 3) t0 rfl (isF (by decide +kernel)) rfl dX11_book_28 (fun az28 tz28 xz28 => ?_)
    refine lv_aload_n hx hb dX11_book_31 rfl (lv_at hl 0 rfl) ?_
    refine hr_getR B hF hb hW (ci := 11) (j := 2) (cd := 3) t0 rfl (isF (by decide +kernel)) rfl dX11_book_32 (fun az32 tz32 xz32 => ?_)
    refine hr_callV (kc := kc_332) B rfl hb hl (hM.1 _ _ 0 [332] (isM (by decide +kernel)) 332 (by decide)) (b := az24) (As := [.ref az28, .ref az32]) (hx_met (A := [.inr (.inl 0), .inr (.inl 8), .inr (.inl 6)]) (hs_read hF hC hM hMh hU hun hH1 tz24 tz28 tz32 hp hG) (m_0_read_8_6 hUx k2) ⟨⟨_, rfl, tz24⟩, ⟨_, rfl, tz28⟩, ⟨_, rfl, tz32⟩, trivial⟩) ⟨hr_aR tz24, hr_aR tz28, hr_aR tz32, True.intro⟩ (hx_mk hW hMv) hS rfl (by decide) (by decide) (Nat.le_of_ble_eq_true rfl) dX11_book_35 (fun r pvv35 E35 H locs hpost hW hS => ?_)
    obtain ⟨_, M35, rx, rfl, ⟨rfl, hp, sm35, C35, rfl, hG, hT35⟩, hrv, e1, e2⟩ := hpost
    have hMv := hx_ev hW
    have hW := hr_mono (fun _ h => h.1) hW
    rw [e2] at hMv
    have hf : (pvv35 25).toInt = v9 := by have e9 := hx_pv8 hW hMv tz28; omega
    refine lv_aload_n hx hb dX11_book_38 rfl (lv_at hl 0 rfl) ?_
    refine hr_getR B hF hb hW (ci := 11) (j := 0) (cd := 3) t0 rfl (isF (by decide +kernel)) rfl dX11_book_39 (fun az39 tz39 xz39 => ?_)
    refine hr_getR B hF hb hW (ci := 8) (j := 1) (cd := 3) tz39 rfl (isF (by decide +kernel)) rfl dX11_book_42 (fun az42 tz42 xz42 => ?_)
    refine hr_ic hx hb dX11_book_45 (by decide) (fun z45 hz45 => ?_)
    refine hr_putP B hF hb hU hW hS (ci := 10) (j := 1) (cd := 0) tz42 rfl (isF (by decide +kernel)) rfl (by omega) (by omega) (Or.inl rfl) (hr_EO (tk_X1 (C := C35)) tz42 (by decide)) hI (q0 := 0) rfl dX11_book_46 (fun H locs hW hS => ?_)
    obtain ⟨pvv46, e46⟩ : ∃ f, f = upd pvv35 0 z45 := ⟨_, rfl⟩
    rw [← e46] at hW
    have e46q : pvv46 0 = z45 := by rw [e46, pk_us]
    have e46qi := congrArg Int32.toInt e46q
    have e46w25 : (pvv46 25).toInt = (pvv35 25).toInt := by rw [e46, pk_un (by decide)]
    have hp := hr_updS hp (q := 0) (x := z45) (lo := 0) (hi := 940) rfl (by omega) (by omega) (by decide +kernel); rw [← e46] at hp
    refine lv_aload_n hx hb dX11_book_49 rfl (lv_at hl 0 rfl) ?_
    refine lv_aload_n hx hb dX11_book_50 rfl (lv_at hl 0 rfl) ?_
    refine hr_getR B hF hb hW (ci := 11) (j := 0) (cd := 3) t0 rfl (isF (by decide +kernel)) rfl dX11_book_51 (fun az51 tz51 xz51 => ?_)
    refine hr_getI B hF hb hW (ci := 8) (j := 9) (cd := 0) tz51 rfl (isF (by decide +kernel)) rfl dX11_book_54 (fun z54 lz54 uz54 pz54 xz54 => ?_)
    have pz54 := congrArg Int32.toInt (pz54 25 rfl)
    refine hr_putP B hF hb hU hW hS (ci := 11) (j := 13) (cd := 0) t0 rfl (isF (by decide +kernel)) rfl (by omega) (by omega) (Or.inl rfl) (hr_EO (tk_X1 (C := C35)) t0 (by decide)) hI (q0 := 30) rfl dX11_book_57 (fun H locs hW hS => ?_)
    obtain ⟨pvv57, e57⟩ : ∃ f, f = upd pvv46 30 z54 := ⟨_, rfl⟩
    rw [← e57] at hW
    have e57q : pvv57 30 = z54 := by rw [e57, pk_us]
    have e57qi := congrArg Int32.toInt e57q
    have e57w25 : (pvv57 25).toInt = (pvv46 25).toInt := by rw [e57, pk_un (by decide)]
    have hp := hr_updS hp (q := 30) (x := z54) (lo := 0) (hi := 4) rfl (by omega) (by omega) (by decide +kernel); rw [← e57] at hp
    have hv : (pvv57 30).toInt = v9 := by omega
    refine lv_aload_n hx hb dX11_book_60 rfl (lv_at hl 0 rfl) ?_
    refine hr_getR B hF hb hW (ci := 11) (j := 0) (cd := 3) t0 rfl (isF (by decide +kernel)) rfl dX11_book_61 (fun az61 tz61 xz61 => ?_)
    refine hr_getI B hF hb hW (ci := 8) (j := 9) (cd := 0) tz61 rfl (isF (by decide +kernel)) rfl dX11_book_64 (fun z64 lz64 uz64 pz64 xz64 => ?_)
    have pz64 := congrArg Int32.toInt (pz64 25 rfl)
    refine hr_eq0 (tgt := 81) hx hb dX11_book_67 (by decide) (fun h67 => ?_) (fun h67 => ?_)
    · refine lv_aload_n hx hb dX11_book_81 rfl (lv_at hl 0 rfl) ?_
      refine hr_getR B hF hb hW (ci := 11) (j := 4) (cd := 3) t0 rfl (isF (by decide +kernel)) rfl dX11_book_82 (fun az82 tz82 xz82 => ?_)
      refine lv_aload_n hx hb dX11_book_85 rfl (lv_at hl 0 rfl) ?_
      refine hr_getR B hF hb hW (ci := 11) (j := 3) (cd := 3) t0 rfl (isF (by decide +kernel)) rfl dX11_book_86 (fun az86 tz86 xz86 => ?_)
      refine cm_callV (kc := kc_290) B rfl hb hl (hM.1 _ _ 0 [290] (isM (by decide +kernel)) 290 (by decide)) (hH1 _ tk_X1 290 (by decide)) (b := az82) (As := [.ref az86]) ⟨hr_aR tz82, hr_aR tz86, True.intro⟩ hp hW hS rfl (by decide) (by decide) (Nat.le_of_ble_eq_true rfl) dX11_book_89 (fun cs hcs r pvv89 H locs hca hW hS => ?_)
      obtain rfl := List.mem_singleton.mp hcs
      obtain ⟨hr, hq, hc⟩ := hca
      obtain rfl := hr_rv0 hr
      have hW := hr_pvE (hr_sameA hc rfl (by decide +kernel)) hW
      refine lv_aload_n hx hb dX11_book_92 rfl (lv_at hl 0 rfl) ?_
      refine hr_getR B hF hb hW (ci := 11) (j := 10) (cd := 3) t0 rfl (isF (by decide +kernel)) rfl dX11_book_93 (fun az93 tz93 xz93 => ?_)
      refine lv_aload_n hx hb dX11_book_96 rfl (lv_at hl 0 rfl) ?_
      refine hr_getR B hF hb hW (ci := 11) (j := 2) (cd := 3) t0 rfl (isF (by decide +kernel)) rfl dX11_book_97 (fun az97 tz97 xz97 => ?_)
      refine lv_aload_n hx hb dX11_book_100 rfl (lv_at hl 0 rfl) ?_
      refine hr_getR B hF hb hW (ci := 11) (j := 4) (cd := 3) t0 rfl (isF (by decide +kernel)) rfl dX11_book_101 (fun az101 tz101 xz101 => ?_)
      refine lv_aload_n hx hb dX11_book_104 rfl (lv_at hl 0 rfl) ?_
      refine hr_getR B hF hb hW (ci := 11) (j := 8) (cd := 3) t0 rfl (isF (by decide +kernel)) rfl dX11_book_105 (fun az105 tz105 xz105 => ?_)
      refine hr_callV (kc := kc_331) B rfl hb hl (hM.1 _ _ 0 [331] (isM (by decide +kernel)) 331 (by decide)) (b := az93) (As := [.ref az97, .ref az101, .ref az105]) (hs_judge hF hC hM hMh hU hun hH1 tz93 tz97 tz101 tz105 hp hG) ⟨hr_aR tz93, hr_aR tz97, hr_aR tz101, hr_aR tz105, True.intro⟩ hW hS rfl (by decide) (by decide) (Nat.le_of_ble_eq_true rfl) dX11_book_108 (fun r pvv108 E108 H locs hpost hW hS => ?_)
      obtain ⟨hp, sm108, rfl, z108, rfl⟩ := hpost
      have hv : (pvv108 30).toInt = v9 := by rw [sm108 30 (by decide) (by decide)]; exact hv
      refine lv_istore_n hx hb dX11_book_111 rfl hl (lv' := [(2, .int z108), (0, .ref a0), (1, .int x1)]) (by decide) rfl (fun ls hl => ?_)
      refine lv_iload_n hx hb dX11_book_112 rfl (lv_at hl 2 rfl) ?_
      refine hr_ic hx hb dX11_book_113 (by decide) (fun z113 hz113 => ?_)
      refine hr_ne (tgt := 139) hx hb dX11_book_114 (by decide) (fun h114 => ?_) (fun h114 => ?_)
      · refine lv_iload_n hx hb dX11_book_139 rfl (lv_at hl 0 rfl) ?_
        exact hr_iret B hb rfl ⟨⟨_, rfl⟩, hv, C35, rfl, hG, hT35⟩ hW hS dX11_book_140
      · refine lv_aload_n hx hb dX11_book_117 rfl (lv_at hl 1 rfl) ?_
        refine hr_getR B hF hb hW (ci := 11) (j := 5) (cd := 3) t0 rfl (isF (by decide +kernel)) rfl dX11_book_118 (fun az118 tz118 xz118 => ?_)
        refine lv_aload_n hx hb dX11_book_121 rfl (lv_at hl 1 rfl) ?_
        refine hr_getR B hF hb hW (ci := 11) (j := 3) (cd := 3) t0 rfl (isF (by decide +kernel)) rfl dX11_book_122 (fun az122 tz122 xz122 => ?_)
        refine cm_callV (kc := kc_291) B rfl hb hl (hM.1 _ _ 0 [291] (isM (by decide +kernel)) 291 (by decide)) (hH1 _ tk_X1 291 (by decide)) (b := az118) (As := [.ref az122]) ⟨hr_aR tz118, hr_aR tz122, True.intro⟩ hp hW hS rfl (by decide) (by decide) (Nat.le_of_ble_eq_true rfl) dX11_book_125 (fun cs hcs r pvv125 H locs hca hW hS => ?_)
        obtain rfl := List.mem_singleton.mp hcs
        obtain ⟨hr, hq, hc⟩ := hca
        obtain rfl := hr_rv0 hr
        have hp := hr_std hp hc (by decide +kernel)
        have e125w25 := congrArg Int32.toInt (hr_same1 hc (j := 25) (by decide +kernel))
        have hv : (pvv125 30).toInt = v9 := by rw [hr_same1 hc (j := 30) (by decide +kernel)]; exact hv
        refine lv_aload_n hx hb dX11_book_128 rfl (lv_at hl 1 rfl) ?_
        refine hr_getR B hF hb hW (ci := 11) (j := 3) (cd := 3) t0 rfl (isF (by decide +kernel)) rfl dX11_book_129 (fun az129 tz129 xz129 => ?_)
        refine lv_aload_n hx hb dX11_book_132 rfl (lv_at hl 1 rfl) ?_
        refine hr_getR B hF hb hW (ci := 11) (j := 4) (cd := 3) t0 rfl (isF (by decide +kernel)) rfl dX11_book_133 (fun az133 tz133 xz133 => ?_)
        refine cm_callV (kc := kc_290) B rfl hb hl (hM.1 _ _ 0 [290] (isM (by decide +kernel)) 290 (by decide)) (hH1 _ tk_X1 290 (by decide)) (b := az129) (As := [.ref az133]) ⟨hr_aR tz129, hr_aR tz133, True.intro⟩ hp hW hS rfl (by decide) (by decide) (Nat.le_of_ble_eq_true rfl) dX11_book_136 (fun cs hcs r pvv136 H locs hca hW hS => ?_)
        obtain rfl := List.mem_singleton.mp hcs
        obtain ⟨hr, hq, hc⟩ := hca
        obtain rfl := hr_rv0 hr
        have hW := hr_pvE (hr_sameA hc rfl (by decide +kernel)) hW
        refine lv_iload_n hx hb dX11_book_139 rfl (lv_at hl 0 rfl) ?_
        exact hr_iret B hb rfl ⟨⟨_, rfl⟩, hv, C35, rfl, hG, hT35⟩ hW hS dX11_book_140
    · refine hr_bp hx hb dX11_book_70 (by decide) (by decide) (fun z70 hz70 => ?_)
      refine lv_aload_n hx hb dX11_book_72 rfl (lv_at hl 0 rfl) ?_
      refine hr_getR B hF hb hW (ci := 11) (j := 0) (cd := 3) t0 rfl (isF (by decide +kernel)) rfl dX11_book_73 (fun az73 tz73 xz73 => ?_)
      refine hr_getI B hF hb hW (ci := 8) (j := 10) (cd := 0) tz73 rfl (isF (by decide +kernel)) rfl dX11_book_76 (fun z76 lz76 uz76 pz76 xz76 => ?_)
      refine lv_isub hx hb dX11_book_79 (lv_topi (fun z79 hz79 => ?_))
      exact hr_iret B hb rfl ⟨⟨_, rfl⟩, hv, C35, rfl, hG, hT35⟩ hW hS dX11_book_80
  · refine lv_iload_n hx hb dX11_book_4 rfl (lv_at hl 1 rfl) ?_
    refine hr_ic hx hb dX11_book_5 (by decide) (fun z5 hz5 => ?_)
    refine hr_eq (tgt := 13) hx hb dX11_book_6 (by decide) (fun h6 => ?_) (fun h6 => ?_)
    · refine lv_aload_n hx hb dX11_book_13 rfl (lv_at hl 0 rfl) ?_
      refine hr_getR B hF hb hW (ci := 11) (j := 0) (cd := 3) t0 rfl (isF (by decide +kernel)) rfl dX11_book_14 (fun az14 tz14 xz14 => ?_)
      refine hr_sp hx hb dX11_book_17 (by decide) (by decide) (fun z17 hz17 => ?_)
      refine hr_callV (kc := kc_120) B rfl hb hl (hM.1 _ _ 0 [120] (isM (by decide +kernel)) 120 (by decide)) (b := az14) (As := [.int z17]) (hx_met (A := [.inr (.inl 8), .inl 400]) (hx_hr (hH1 _ tk_X1 120 (by decide)) ⟨hr_aR tz14, hr_aI (by omega) (by omega), True.intro⟩ hp) (m_8_open hUx k1) ⟨⟨_, rfl, tz14⟩, ⟨_, rfl, hz17⟩, trivial⟩) ⟨hr_aR tz14, hr_aI (by omega) (by omega), True.intro⟩ (hx_mk hW hMv) hS rfl (by decide) (by decide) (Nat.le_of_ble_eq_true rfl) dX11_book_20 (fun r pvv20 E20 H locs hpost hW hS => ?_)
      obtain ⟨_, M20, rx, rfl, ⟨rfl, cs, hcs, hca⟩, hrv, e1, e2⟩ := hpost
      have hMv := hx_ev hW
      have hW := hr_mono (fun _ h => h.1) hW
      rw [e2] at hMv
      obtain rfl := List.mem_singleton.mp hcs
      obtain ⟨hr, hq, hc⟩ := hca
      obtain rfl := hr_rv0 hr
      have hp := hr_std hp hc (by decide +kernel)
      have e20r25 := hr_pv hc 25 (lo := 0) (hi := 0) rfl
      refine lv_aload_n hx hb dX11_book_23 rfl (lv_at hl 0 rfl) ?_
      refine hr_getR B hF hb hW (ci := 11) (j := 10) (cd := 3) t0 rfl (isF (by decide +kernel)) rfl dX11_book_24 (fun az24 tz24 xz24 => ?_)
      refine lv_aload_n hx hb dX11_book_27 rfl (lv_at hl 0 rfl) ?_
      refine hr_getR B hF hb hW (ci := 11) (j := 0) (cd := 3) t0 rfl (isF (by decide +kernel)) rfl dX11_book_28 (fun az28 tz28 xz28 => ?_)
      refine lv_aload_n hx hb dX11_book_31 rfl (lv_at hl 0 rfl) ?_
      refine hr_getR B hF hb hW (ci := 11) (j := 2) (cd := 3) t0 rfl (isF (by decide +kernel)) rfl dX11_book_32 (fun az32 tz32 xz32 => ?_)
      refine hr_callV (kc := kc_332) B rfl hb hl (hM.1 _ _ 0 [332] (isM (by decide +kernel)) 332 (by decide)) (b := az24) (As := [.ref az28, .ref az32]) (hx_met (A := [.inr (.inl 0), .inr (.inl 8), .inr (.inl 6)]) (hs_read hF hC hM hMh hU hun hH1 tz24 tz28 tz32 hp hG) (m_0_read_8_6 hUx k2) ⟨⟨_, rfl, tz24⟩, ⟨_, rfl, tz28⟩, ⟨_, rfl, tz32⟩, trivial⟩) ⟨hr_aR tz24, hr_aR tz28, hr_aR tz32, True.intro⟩ (hx_mk hW hMv) hS rfl (by decide) (by decide) (Nat.le_of_ble_eq_true rfl) dX11_book_35 (fun r pvv35 E35 H locs hpost hW hS => ?_)
      obtain ⟨_, M35, rx, rfl, ⟨rfl, hp, sm35, C35, rfl, hG, hT35⟩, hrv, e1, e2⟩ := hpost
      have hMv := hx_ev hW
      have hW := hr_mono (fun _ h => h.1) hW
      rw [e2] at hMv
      have hf : (pvv35 25).toInt = v9 := by have e9 := hx_pv8 hW hMv tz28; omega
      refine lv_aload_n hx hb dX11_book_38 rfl (lv_at hl 0 rfl) ?_
      refine hr_getR B hF hb hW (ci := 11) (j := 0) (cd := 3) t0 rfl (isF (by decide +kernel)) rfl dX11_book_39 (fun az39 tz39 xz39 => ?_)
      refine hr_getR B hF hb hW (ci := 8) (j := 1) (cd := 3) tz39 rfl (isF (by decide +kernel)) rfl dX11_book_42 (fun az42 tz42 xz42 => ?_)
      refine hr_ic hx hb dX11_book_45 (by decide) (fun z45 hz45 => ?_)
      refine hr_putP B hF hb hU hW hS (ci := 10) (j := 1) (cd := 0) tz42 rfl (isF (by decide +kernel)) rfl (by omega) (by omega) (Or.inl rfl) (hr_EO (tk_X1 (C := C35)) tz42 (by decide)) hI (q0 := 0) rfl dX11_book_46 (fun H locs hW hS => ?_)
      obtain ⟨pvv46, e46⟩ : ∃ f, f = upd pvv35 0 z45 := ⟨_, rfl⟩
      rw [← e46] at hW
      have e46q : pvv46 0 = z45 := by rw [e46, pk_us]
      have e46qi := congrArg Int32.toInt e46q
      have e46w25 : (pvv46 25).toInt = (pvv35 25).toInt := by rw [e46, pk_un (by decide)]
      have hp := hr_updS hp (q := 0) (x := z45) (lo := 0) (hi := 940) rfl (by omega) (by omega) (by decide +kernel); rw [← e46] at hp
      refine lv_aload_n hx hb dX11_book_49 rfl (lv_at hl 0 rfl) ?_
      refine lv_aload_n hx hb dX11_book_50 rfl (lv_at hl 0 rfl) ?_
      refine hr_getR B hF hb hW (ci := 11) (j := 0) (cd := 3) t0 rfl (isF (by decide +kernel)) rfl dX11_book_51 (fun az51 tz51 xz51 => ?_)
      refine hr_getI B hF hb hW (ci := 8) (j := 9) (cd := 0) tz51 rfl (isF (by decide +kernel)) rfl dX11_book_54 (fun z54 lz54 uz54 pz54 xz54 => ?_)
      have pz54 := congrArg Int32.toInt (pz54 25 rfl)
      refine hr_putP B hF hb hU hW hS (ci := 11) (j := 13) (cd := 0) t0 rfl (isF (by decide +kernel)) rfl (by omega) (by omega) (Or.inl rfl) (hr_EO (tk_X1 (C := C35)) t0 (by decide)) hI (q0 := 30) rfl dX11_book_57 (fun H locs hW hS => ?_)
      obtain ⟨pvv57, e57⟩ : ∃ f, f = upd pvv46 30 z54 := ⟨_, rfl⟩
      rw [← e57] at hW
      have e57q : pvv57 30 = z54 := by rw [e57, pk_us]
      have e57qi := congrArg Int32.toInt e57q
      have e57w25 : (pvv57 25).toInt = (pvv46 25).toInt := by rw [e57, pk_un (by decide)]
      have hp := hr_updS hp (q := 30) (x := z54) (lo := 0) (hi := 4) rfl (by omega) (by omega) (by decide +kernel); rw [← e57] at hp
      have hv : (pvv57 30).toInt = v9 := by omega
      refine lv_aload_n hx hb dX11_book_60 rfl (lv_at hl 0 rfl) ?_
      refine hr_getR B hF hb hW (ci := 11) (j := 0) (cd := 3) t0 rfl (isF (by decide +kernel)) rfl dX11_book_61 (fun az61 tz61 xz61 => ?_)
      refine hr_getI B hF hb hW (ci := 8) (j := 9) (cd := 0) tz61 rfl (isF (by decide +kernel)) rfl dX11_book_64 (fun z64 lz64 uz64 pz64 xz64 => ?_)
      have pz64 := congrArg Int32.toInt (pz64 25 rfl)
      refine hr_eq0 (tgt := 81) hx hb dX11_book_67 (by decide) (fun h67 => ?_) (fun h67 => ?_)
      · refine lv_aload_n hx hb dX11_book_81 rfl (lv_at hl 0 rfl) ?_
        refine hr_getR B hF hb hW (ci := 11) (j := 4) (cd := 3) t0 rfl (isF (by decide +kernel)) rfl dX11_book_82 (fun az82 tz82 xz82 => ?_)
        refine lv_aload_n hx hb dX11_book_85 rfl (lv_at hl 0 rfl) ?_
        refine hr_getR B hF hb hW (ci := 11) (j := 3) (cd := 3) t0 rfl (isF (by decide +kernel)) rfl dX11_book_86 (fun az86 tz86 xz86 => ?_)
        refine cm_callV (kc := kc_290) B rfl hb hl (hM.1 _ _ 0 [290] (isM (by decide +kernel)) 290 (by decide)) (hH1 _ tk_X1 290 (by decide)) (b := az82) (As := [.ref az86]) ⟨hr_aR tz82, hr_aR tz86, True.intro⟩ hp hW hS rfl (by decide) (by decide) (Nat.le_of_ble_eq_true rfl) dX11_book_89 (fun cs hcs r pvv89 H locs hca hW hS => ?_)
        obtain rfl := List.mem_singleton.mp hcs
        obtain ⟨hr, hq, hc⟩ := hca
        obtain rfl := hr_rv0 hr
        have hW := hr_pvE (hr_sameA hc rfl (by decide +kernel)) hW
        refine lv_aload_n hx hb dX11_book_92 rfl (lv_at hl 0 rfl) ?_
        refine hr_getR B hF hb hW (ci := 11) (j := 10) (cd := 3) t0 rfl (isF (by decide +kernel)) rfl dX11_book_93 (fun az93 tz93 xz93 => ?_)
        refine lv_aload_n hx hb dX11_book_96 rfl (lv_at hl 0 rfl) ?_
        refine hr_getR B hF hb hW (ci := 11) (j := 2) (cd := 3) t0 rfl (isF (by decide +kernel)) rfl dX11_book_97 (fun az97 tz97 xz97 => ?_)
        refine lv_aload_n hx hb dX11_book_100 rfl (lv_at hl 0 rfl) ?_
        refine hr_getR B hF hb hW (ci := 11) (j := 4) (cd := 3) t0 rfl (isF (by decide +kernel)) rfl dX11_book_101 (fun az101 tz101 xz101 => ?_)
        refine lv_aload_n hx hb dX11_book_104 rfl (lv_at hl 0 rfl) ?_
        refine hr_getR B hF hb hW (ci := 11) (j := 8) (cd := 3) t0 rfl (isF (by decide +kernel)) rfl dX11_book_105 (fun az105 tz105 xz105 => ?_)
        refine hr_callV (kc := kc_331) B rfl hb hl (hM.1 _ _ 0 [331] (isM (by decide +kernel)) 331 (by decide)) (b := az93) (As := [.ref az97, .ref az101, .ref az105]) (hs_judge hF hC hM hMh hU hun hH1 tz93 tz97 tz101 tz105 hp hG) ⟨hr_aR tz93, hr_aR tz97, hr_aR tz101, hr_aR tz105, True.intro⟩ hW hS rfl (by decide) (by decide) (Nat.le_of_ble_eq_true rfl) dX11_book_108 (fun r pvv108 E108 H locs hpost hW hS => ?_)
        obtain ⟨hp, sm108, rfl, z108, rfl⟩ := hpost
        have hv : (pvv108 30).toInt = v9 := by rw [sm108 30 (by decide) (by decide)]; exact hv
        refine lv_istore_n hx hb dX11_book_111 rfl hl (lv' := [(2, .int z108), (0, .ref a0), (1, .int x1)]) (by decide) rfl (fun ls hl => ?_)
        refine lv_iload_n hx hb dX11_book_112 rfl (lv_at hl 2 rfl) ?_
        refine hr_ic hx hb dX11_book_113 (by decide) (fun z113 hz113 => ?_)
        refine hr_ne (tgt := 139) hx hb dX11_book_114 (by decide) (fun h114 => ?_) (fun h114 => ?_)
        · refine lv_iload_n hx hb dX11_book_139 rfl (lv_at hl 0 rfl) ?_
          exact hr_iret B hb rfl ⟨⟨_, rfl⟩, hv, C35, rfl, hG, hT35⟩ hW hS dX11_book_140
        · refine lv_aload_n hx hb dX11_book_117 rfl (lv_at hl 1 rfl) ?_
          refine hr_getR B hF hb hW (ci := 11) (j := 5) (cd := 3) t0 rfl (isF (by decide +kernel)) rfl dX11_book_118 (fun az118 tz118 xz118 => ?_)
          refine lv_aload_n hx hb dX11_book_121 rfl (lv_at hl 1 rfl) ?_
          refine hr_getR B hF hb hW (ci := 11) (j := 3) (cd := 3) t0 rfl (isF (by decide +kernel)) rfl dX11_book_122 (fun az122 tz122 xz122 => ?_)
          refine cm_callV (kc := kc_291) B rfl hb hl (hM.1 _ _ 0 [291] (isM (by decide +kernel)) 291 (by decide)) (hH1 _ tk_X1 291 (by decide)) (b := az118) (As := [.ref az122]) ⟨hr_aR tz118, hr_aR tz122, True.intro⟩ hp hW hS rfl (by decide) (by decide) (Nat.le_of_ble_eq_true rfl) dX11_book_125 (fun cs hcs r pvv125 H locs hca hW hS => ?_)
          obtain rfl := List.mem_singleton.mp hcs
          obtain ⟨hr, hq, hc⟩ := hca
          obtain rfl := hr_rv0 hr
          have hp := hr_std hp hc (by decide +kernel)
          have e125w25 := congrArg Int32.toInt (hr_same1 hc (j := 25) (by decide +kernel))
          have hv : (pvv125 30).toInt = v9 := by rw [hr_same1 hc (j := 30) (by decide +kernel)]; exact hv
          refine lv_aload_n hx hb dX11_book_128 rfl (lv_at hl 1 rfl) ?_
          refine hr_getR B hF hb hW (ci := 11) (j := 3) (cd := 3) t0 rfl (isF (by decide +kernel)) rfl dX11_book_129 (fun az129 tz129 xz129 => ?_)
          refine lv_aload_n hx hb dX11_book_132 rfl (lv_at hl 1 rfl) ?_
          refine hr_getR B hF hb hW (ci := 11) (j := 4) (cd := 3) t0 rfl (isF (by decide +kernel)) rfl dX11_book_133 (fun az133 tz133 xz133 => ?_)
          refine cm_callV (kc := kc_290) B rfl hb hl (hM.1 _ _ 0 [290] (isM (by decide +kernel)) 290 (by decide)) (hH1 _ tk_X1 290 (by decide)) (b := az129) (As := [.ref az133]) ⟨hr_aR tz129, hr_aR tz133, True.intro⟩ hp hW hS rfl (by decide) (by decide) (Nat.le_of_ble_eq_true rfl) dX11_book_136 (fun cs hcs r pvv136 H locs hca hW hS => ?_)
          obtain rfl := List.mem_singleton.mp hcs
          obtain ⟨hr, hq, hc⟩ := hca
          obtain rfl := hr_rv0 hr
          have hW := hr_pvE (hr_sameA hc rfl (by decide +kernel)) hW
          refine lv_iload_n hx hb dX11_book_139 rfl (lv_at hl 0 rfl) ?_
          exact hr_iret B hb rfl ⟨⟨_, rfl⟩, hv, C35, rfl, hG, hT35⟩ hW hS dX11_book_140
      · refine hr_bp hx hb dX11_book_70 (by decide) (by decide) (fun z70 hz70 => ?_)
        refine lv_aload_n hx hb dX11_book_72 rfl (lv_at hl 0 rfl) ?_
        refine hr_getR B hF hb hW (ci := 11) (j := 0) (cd := 3) t0 rfl (isF (by decide +kernel)) rfl dX11_book_73 (fun az73 tz73 xz73 => ?_)
        refine hr_getI B hF hb hW (ci := 8) (j := 10) (cd := 0) tz73 rfl (isF (by decide +kernel)) rfl dX11_book_76 (fun z76 lz76 uz76 pz76 xz76 => ?_)
        refine lv_isub hx hb dX11_book_79 (lv_topi (fun z79 hz79 => ?_))
        exact hr_iret B hb rfl ⟨⟨_, rfl⟩, hv, C35, rfl, hG, hT35⟩ hW hS dX11_book_80
    · refine hr_sp hx hb dX11_book_9 (by decide) (by decide) (fun z9 hz9 => ?_)
      exfalso; omega
end HX11
