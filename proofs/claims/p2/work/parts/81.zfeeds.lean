/-! THE LAW, 4b: feed, exactly. -/
theorem lm_X11_103 : lc_mV RX11 103 kc_149 10 := ⟨(in_r14 _ (List.mem_of_getElem? (i := 4) rfl)), (in_r3 _ (List.mem_of_getElem? (i := 16) rfl)), (in_r14 _ (List.mem_of_getElem? (i := 1) rfl)), (in_r14 _ (List.mem_of_getElem? (i := 2) rfl)), (in_r14 _ (List.mem_of_getElem? (i := 3) rfl)), by decide +kernel, _, _, _, _, rfl, rfl, rfl, rfl, by decide +kernel⟩
theorem lm_X11_109 : lc_mV RX11 109 kc_150 10 := ⟨(in_r14 _ (List.mem_of_getElem? (i := 8) rfl)), (in_r3 _ (List.mem_of_getElem? (i := 16) rfl)), (in_r14 _ (List.mem_of_getElem? (i := 5) rfl)), (in_r14 _ (List.mem_of_getElem? (i := 6) rfl)), (in_r14 _ (List.mem_of_getElem? (i := 7) rfl)), by decide +kernel, _, _, _, _, rfl, rfl, rfl, rfl, by decide +kernel⟩
theorem lm_X12_10 : lc_mV RX12 10 kc_237 12 := ⟨(in_r14 _ (List.mem_of_getElem? (i := 19) rfl)), (in_r1 _ (List.mem_of_getElem? (i := 5) rfl)), (in_r14 _ (List.mem_of_getElem? (i := 16) rfl)), (in_r14 _ (List.mem_of_getElem? (i := 17) rfl)), (in_r14 _ (List.mem_of_getElem? (i := 18) rfl)), by decide +kernel, _, _, _, _, rfl, rfl, rfl, rfl, by decide +kernel⟩
theorem dX11_feed_0 : decode cX11_feed 0 = .ok (.aload_n 0, 1) := by decide +kernel
theorem dX11_feed_1 : decode cX11_feed 1 = .ok (.getfield 10, 3) := by decide +kernel
theorem dX11_feed_4 : decode cX11_feed 4 = .ok (.getfield 99, 3) := by decide +kernel
theorem dX11_feed_7 : decode cX11_feed 7 = .ok (.bipush 20, 2) := by decide +kernel
theorem dX11_feed_9 : decode cX11_feed 9 = .ok (.invokevirtual 103, 3) := by decide +kernel
theorem dX11_feed_12 : decode cX11_feed 12 = .ok (.ifCond .ne 5, 3) := by decide +kernel
theorem dX11_feed_15 : decode cX11_feed 15 = .ok (.iconst (-1), 1) := by decide +kernel
theorem dX11_feed_16 : decode cX11_feed 16 = .ok (.ireturn, 1) := by decide +kernel
theorem dX11_feed_17 : decode cX11_feed 17 = .ok (.aload_n 0, 1) := by decide +kernel
theorem dX11_feed_18 : decode cX11_feed 18 = .ok (.getfield 10, 3) := by decide +kernel
theorem dX11_feed_21 : decode cX11_feed 21 = .ok (.getfield 99, 3) := by decide +kernel
theorem dX11_feed_24 : decode cX11_feed 24 = .ok (.iload_n 1, 1) := by decide +kernel
theorem dX11_feed_25 : decode cX11_feed 25 = .ok (.invokevirtual 109, 3) := by decide +kernel
theorem dX11_feed_28 : decode cX11_feed 28 = .ok (.aload_n 0, 1) := by decide +kernel
theorem dX11_feed_29 : decode cX11_feed 29 = .ok (.getfield 10, 3) := by decide +kernel
theorem dX11_feed_32 : decode cX11_feed 32 = .ok (.getfield 99, 3) := by decide +kernel
theorem dX11_feed_35 : decode cX11_feed 35 = .ok (.iload_n 2, 1) := by decide +kernel
theorem dX11_feed_36 : decode cX11_feed 36 = .ok (.invokevirtual 109, 3) := by decide +kernel
theorem dX11_feed_39 : decode cX11_feed 39 = .ok (.aload_n 0, 1) := by decide +kernel
theorem dX11_feed_40 : decode cX11_feed 40 = .ok (.getfield 10, 3) := by decide +kernel
theorem dX11_feed_43 : decode cX11_feed 43 = .ok (.getfield 99, 3) := by decide +kernel
theorem dX11_feed_46 : decode cX11_feed 46 = .ok (.iload_n 3, 1) := by decide +kernel
theorem dX11_feed_47 : decode cX11_feed 47 = .ok (.invokevirtual 109, 3) := by decide +kernel
theorem dX11_feed_50 : decode cX11_feed 50 = .ok (.aload_n 0, 1) := by decide +kernel
theorem dX11_feed_51 : decode cX11_feed 51 = .ok (.getfield 10, 3) := by decide +kernel
theorem dX11_feed_54 : decode cX11_feed 54 = .ok (.getfield 99, 3) := by decide +kernel
theorem dX11_feed_57 : decode cX11_feed 57 = .ok (.iload 4, 2) := by decide +kernel
theorem dX11_feed_59 : decode cX11_feed 59 = .ok (.invokevirtual 109, 3) := by decide +kernel
theorem dX11_feed_62 : decode cX11_feed 62 = .ok (.aload_n 0, 1) := by decide +kernel
theorem dX11_feed_63 : decode cX11_feed 63 = .ok (.getfield 10, 3) := by decide +kernel
theorem dX11_feed_66 : decode cX11_feed 66 = .ok (.getfield 99, 3) := by decide +kernel
theorem dX11_feed_69 : decode cX11_feed 69 = .ok (.iload 5, 2) := by decide +kernel
theorem dX11_feed_71 : decode cX11_feed 71 = .ok (.invokevirtual 109, 3) := by decide +kernel
theorem dX11_feed_74 : decode cX11_feed 74 = .ok (.aload_n 0, 1) := by decide +kernel
theorem dX11_feed_75 : decode cX11_feed 75 = .ok (.getfield 10, 3) := by decide +kernel
theorem dX11_feed_78 : decode cX11_feed 78 = .ok (.getfield 99, 3) := by decide +kernel
theorem dX11_feed_81 : decode cX11_feed 81 = .ok (.getfield 113, 3) := by decide +kernel
theorem dX11_feed_84 : decode cX11_feed 84 = .ok (.ireturn, 1) := by decide +kernel
theorem dX12_feed_0 : decode cX12_feed 0 = .ok (.aload_n 0, 1) := by decide +kernel
theorem dX12_feed_1 : decode cX12_feed 1 = .ok (.iconst 0, 1) := by decide +kernel
theorem dX12_feed_2 : decode cX12_feed 2 = .ok (.putfield 1, 3) := by decide +kernel
theorem dX12_feed_5 : decode cX12_feed 5 = .ok (.aload_n 0, 1) := by decide +kernel
theorem dX12_feed_6 : decode cX12_feed 6 = .ok (.getfield 7, 3) := by decide +kernel
theorem dX12_feed_9 : decode cX12_feed 9 = .ok (.bipush 20, 2) := by decide +kernel
theorem dX12_feed_11 : decode cX12_feed 11 = .ok (.iadd, 1) := by decide +kernel
theorem dX12_feed_12 : decode cX12_feed 12 = .ok (.sipush 940, 3) := by decide +kernel
theorem dX12_feed_15 : decode cX12_feed 15 = .ok (.if_icmp .le 5, 3) := by decide +kernel
theorem dX12_feed_18 : decode cX12_feed 18 = .ok (.iconst (-1), 1) := by decide +kernel
theorem dX12_feed_19 : decode cX12_feed 19 = .ok (.ireturn, 1) := by decide +kernel
theorem dX12_feed_20 : decode cX12_feed 20 = .ok (.aload_n 0, 1) := by decide +kernel
theorem dX12_feed_21 : decode cX12_feed 21 = .ok (.iload_n 1, 1) := by decide +kernel
theorem dX12_feed_22 : decode cX12_feed 22 = .ok (.invokevirtual 10, 3) := by decide +kernel
theorem dX12_feed_25 : decode cX12_feed 25 = .ok (.aload_n 0, 1) := by decide +kernel
theorem dX12_feed_26 : decode cX12_feed 26 = .ok (.iload_n 2, 1) := by decide +kernel
theorem dX12_feed_27 : decode cX12_feed 27 = .ok (.invokevirtual 10, 3) := by decide +kernel
theorem dX12_feed_30 : decode cX12_feed 30 = .ok (.aload_n 0, 1) := by decide +kernel
theorem dX12_feed_31 : decode cX12_feed 31 = .ok (.iload_n 3, 1) := by decide +kernel
theorem dX12_feed_32 : decode cX12_feed 32 = .ok (.invokevirtual 10, 3) := by decide +kernel
theorem dX12_feed_35 : decode cX12_feed 35 = .ok (.aload_n 0, 1) := by decide +kernel
theorem dX12_feed_36 : decode cX12_feed 36 = .ok (.iload 4, 2) := by decide +kernel
theorem dX12_feed_38 : decode cX12_feed 38 = .ok (.invokevirtual 10, 3) := by decide +kernel
theorem dX12_feed_41 : decode cX12_feed 41 = .ok (.aload_n 0, 1) := by decide +kernel
theorem dX12_feed_42 : decode cX12_feed 42 = .ok (.iload 5, 2) := by decide +kernel
theorem dX12_feed_44 : decode cX12_feed 44 = .ok (.invokevirtual 10, 3) := by decide +kernel
theorem dX12_feed_47 : decode cX12_feed 47 = .ok (.aload_n 0, 1) := by decide +kernel
theorem dX12_feed_48 : decode cX12_feed 48 = .ok (.getfield 7, 3) := by decide +kernel
theorem dX12_feed_51 : decode cX12_feed 51 = .ok (.ireturn, 1) := by decide +kernel
theorem fe_s0 : ck_std pPM (pU.set 0 (.inl (0, 920, [(2000, 0, 0)]))) = true := by decide +kernel
theorem fe_s1 : ck_std pPM (pU.set 0 (.inl (4, 940, [(2000, 4, 4)]))) = true := by decide +kernel
theorem fe_s2 : ck_std pPM (pUM.set 11 (.inl (4, 940, [(2022, 4, 4)]))) = true := by decide +kernel
theorem fe_s3 : ck_std pPM (pU.set 0 (.inl (921, 940, [(2000, 0, 0)]))) = true := by decide +kernel
theorem pM_P0 : ck_wkB pPM pP = true := by decide +kernel
section FE
variable {l : Launch} {D : va_G} {cys : Nat → ClassId} {ty : Nat → Option Nat} {pvv : Nat → Int32}
/-- what feed does to the tape j, and not to the tape i; its answer -/
def fe_P (ty : Nat → Option Nat) (pvv : Nat → Int32) (j i : Nat) : Option Value → (Nat → Int32) → (va_W → Prop) → Prop := fun r g E' => E' = GE ty ∧ ck_pvo ty (ck_XE g) pPM g ∧ g i = pvv i ∧ ∃ z : Int32, r = some (.int z) ∧ ((921 ≤ (pvv j).toInt ∧ z.toInt = -1 ∧ g j = pvv j) ∨ ((pvv j).toInt ≤ 920 ∧ z.toInt = (pvv j).toInt + 20 ∧ (g j).toInt = (pvv j).toInt + 20))
set_option maxHeartbeats 4000000 in
theorem hs_11_feed (hU : ck_uq ty ck_pvs0) (hun : ck_un ty) (hp : ck_pvo ty (ck_XE pvv) pPM pvv) {a0 : Nat} {x1 x2 x3 x4 x5 : Int32} (t0 : ty a0 = some 11) : hr_Met l D cys ty ck_tags ck_pvs0 (GE ty) (ck_tab 161) [.ref a0, .int x1, .int x2, .int x3, .int x4, .int x5] pvv (fe_P ty pvv 0 11) := by
  have hF := lk_f
  have hX : ck_ExP ty ck_prot1 (GE ty) := ge_ExP
  refine hr_enter (by decide +kernel) (by decide +kernel) (by decide +kernel) ⟨hr_aR t0, hr_aF, hr_aF, hr_aF, hr_aF, hr_aF, trivial⟩ ?_
  intro p e s m below meth c ls B hl hW
  have hx := B.1
  have hb : c.code = cX11_feed := B.2.1
  have F : lc_F p s m [Value.ref a0, .int x1, .int x2, .int x3, .int x4, .int x5].toArray c cX11_feed D cys (ck_ws (ck_tab 161)) RX11 6 := ⟨hx, hb, B.2.2.1, B.2.2.2.2.2.1, fun w hw => List.mem_cons_of_mem _ hw, B.2.2.2.2.2.2.1, B.2.2.2.2.2.2.2.1, B.2.2.2.2.2.2.2.2⟩
  have hl : lv_has ls 6 [(0, .ref a0), (1, .int x1), (2, .int x2), (3, .int x3), (4, .int x4), (5, .int x5)] := hl
  have hS : va_S (ck_own ty) s.heap s.heap [] := va_S.rf
  have hA : ∀ q, ck_own ty q → ck_own ty q := fun _ h => h
  refine lv_aload_n hx hb dX11_feed_0 rfl (lv_at hl 0 rfl) ?_
  refine hr_getR B hF hb hW (ci := 11) (j := 0) (cd := 3) t0 rfl (isF (by decide +kernel)) rfl dX11_feed_1 (fun a8 t8 _ => ?_)
  refine hr_getR B hF hb hW (ci := 8) (j := 1) (cd := 3) t8 rfl (isF (by decide +kernel)) rfl dX11_feed_4 (fun a10 t10 _ => ?_)
  refine lv_bipush (v := 20) hx hb dX11_feed_7 (by decide) ?_
  refine lc_callV (kc := kc_149) (b := a10) (As := [.int 20]) F hl lm_X11_103 (ch_all hU hun 149 (by decide)) ⟨⟨a10, rfl, t10⟩, hr_aI (by decide) (by decide), trivial⟩ (hr_wk hp pM_P0) hW hS hA rfl ⟨Nat.le_of_ble_eq_true rfl, Nat.le_of_ble_eq_true rfl⟩ ⟨Nat.zero_le _, Nat.zero_le _⟩ (Nat.le_of_ble_eq_true rfl) dX11_feed_9 (fun cs hcs r g0 H locs hco hW hS _ => ?_)
  rcases List.mem_cons.mp hcs with h | h
  · have h : cs = (some (.inl (0, 0, [])), [], (pU.set 0 (.inl (921, 940, [(2000, 0, 0)])))) := h
    subst h
    obtain ⟨z, rfl, z1, z2⟩ := hr_rvI hco.1
    have h1 := hr_pv hco.2.2 0 (lo := 921) (hi := 940) (ds := [(2000, 0, 0)]) rfl
    have e0 : g0 0 = pvv 0 := hr_same1 hco.2.2 (by decide +kernel)
    rw [e0] at h1
    refine hr_ne0 (tgt := 17) hx hb dX11_feed_12 (by decide) (fun h => absurd (by omega) h) (fun _ => ?_)
    refine hr_ic hx hb dX11_feed_15 (by decide) (fun y hy => ?_)
    exact hr_iret B hb rfl ⟨rfl, hr_std hp hco.2.2 fe_s3, hr_same1 hco.2.2 (by decide +kernel), y, rfl, Or.inl ⟨h1.1, hy, e0⟩⟩ hW hS dX11_feed_16
  · have h : cs = (some (.inl (1, 1, [])), [], (pU.set 0 (.inl (0, 920, [(2000, 0, 0)])))) := List.mem_singleton.mp h
    subst h
    obtain ⟨z, rfl, z1, z2⟩ := hr_rvI hco.1
    have h1 := hr_pv hco.2.2 0 (lo := 0) (hi := 920) (ds := [(2000, 0, 0)]) rfl
    have e0 : g0 0 = pvv 0 := hr_same1 hco.2.2 (by decide +kernel)
    have e11 : g0 11 = pvv 11 := hr_same1 hco.2.2 (by decide +kernel)
    rw [e0] at h1
    have p0 := hr_std hp hco.2.2 fe_s0
    have q0 : (g0 0).toInt = (pvv 0).toInt := by rw [e0]
    refine hr_ne0 (tgt := 17) hx hb dX11_feed_12 (by decide) (fun _ => ?_) (fun h => absurd h (by omega))
    refine lv_aload_n hx hb dX11_feed_17 rfl (lv_at hl 0 rfl) ?_
    refine hr_getR B hF hb hW (ci := 11) (j := 0) (cd := 3) t0 rfl (isF (by decide +kernel)) rfl dX11_feed_18 (fun a8 t8 _ => ?_)
    refine hr_getR B hF hb hW (ci := 8) (j := 1) (cd := 3) t8 rfl (isF (by decide +kernel)) rfl dX11_feed_21 (fun a10 t10 _ => ?_)
    refine lv_iload_n hx hb dX11_feed_24 rfl (lv_at hl 1 rfl) ?_
    refine lc_callV (kc := kc_150) (b := a10) (As := [.int x1]) F hl lm_X11_109 (ch_all hU hun 150 (by decide)) ⟨⟨a10, rfl, t10⟩, hr_aF, trivial⟩ (hr_set1 (g := g0) (hr_wk p0 pM_P0) (hr_aI (by have := hr_pv p0 0 (lo := 0) (hi := 940) (ds := []) rfl; omega) (by omega)) (fun _ _ => rfl)) hW hS hA rfl ⟨Nat.le_of_ble_eq_true rfl, Nat.le_of_ble_eq_true rfl⟩ ⟨Nat.zero_le _, Nat.zero_le _⟩ (Nat.le_of_ble_eq_true rfl) dX11_feed_25 (fun cs0 hcs0 r0 g1 H locs hco0 hW hS _ => ?_)
    have hc0 : cs0 = (none, [], (pU.set 0 (.inl (4, 940, [(2000, 4, 4)])))) := List.mem_singleton.mp hcs0
    subst hc0
    obtain rfl := hr_rv0 hco0.1
    have u0 := hr_pd hco0.2.2 0 0 (lo := 4) (hi := 940) (a := 4) (b := 4) (ds := [(2000, 4, 4)]) rfl (List.mem_singleton.mpr rfl)
    have q1 : (g1 0).toInt = (pvv 0).toInt + 4 := by omega
    have p1 := hr_std p0 hco0.2.2 fe_s1
    have f0 : g1 11 = g0 11 := hr_same1 hco0.2.2 (by decide +kernel)
    refine lv_aload_n hx hb dX11_feed_28 rfl (lv_at hl 0 rfl) ?_
    refine hr_getR B hF hb hW (ci := 11) (j := 0) (cd := 3) t0 rfl (isF (by decide +kernel)) rfl dX11_feed_29 (fun a8 t8 _ => ?_)
    refine hr_getR B hF hb hW (ci := 8) (j := 1) (cd := 3) t8 rfl (isF (by decide +kernel)) rfl dX11_feed_32 (fun a10 t10 _ => ?_)
    refine lv_iload_n hx hb dX11_feed_35 rfl (lv_at hl 2 rfl) ?_
    refine lc_callV (kc := kc_150) (b := a10) (As := [.int x2]) F hl lm_X11_109 (ch_all hU hun 150 (by decide)) ⟨⟨a10, rfl, t10⟩, hr_aF, trivial⟩ (hr_set1 (g := g1) (hr_wk p1 pM_P0) (hr_aI (by have := hr_pv p1 0 (lo := 0) (hi := 940) (ds := []) rfl; omega) (by omega)) (fun _ _ => rfl)) hW hS hA rfl ⟨Nat.le_of_ble_eq_true rfl, Nat.le_of_ble_eq_true rfl⟩ ⟨Nat.zero_le _, Nat.zero_le _⟩ (Nat.le_of_ble_eq_true rfl) dX11_feed_36 (fun cs1 hcs1 r1 g2 H locs hco1 hW hS _ => ?_)
    have hc1 : cs1 = (none, [], (pU.set 0 (.inl (4, 940, [(2000, 4, 4)])))) := List.mem_singleton.mp hcs1
    subst hc1
    obtain rfl := hr_rv0 hco1.1
    have u1 := hr_pd hco1.2.2 0 0 (lo := 4) (hi := 940) (a := 4) (b := 4) (ds := [(2000, 4, 4)]) rfl (List.mem_singleton.mpr rfl)
    have q2 : (g2 0).toInt = (pvv 0).toInt + 8 := by omega
    have p2 := hr_std p1 hco1.2.2 fe_s1
    have f1 : g2 11 = g1 11 := hr_same1 hco1.2.2 (by decide +kernel)
    refine lv_aload_n hx hb dX11_feed_39 rfl (lv_at hl 0 rfl) ?_
    refine hr_getR B hF hb hW (ci := 11) (j := 0) (cd := 3) t0 rfl (isF (by decide +kernel)) rfl dX11_feed_40 (fun a8 t8 _ => ?_)
    refine hr_getR B hF hb hW (ci := 8) (j := 1) (cd := 3) t8 rfl (isF (by decide +kernel)) rfl dX11_feed_43 (fun a10 t10 _ => ?_)
    refine lv_iload_n hx hb dX11_feed_46 rfl (lv_at hl 3 rfl) ?_
    refine lc_callV (kc := kc_150) (b := a10) (As := [.int x3]) F hl lm_X11_109 (ch_all hU hun 150 (by decide)) ⟨⟨a10, rfl, t10⟩, hr_aF, trivial⟩ (hr_set1 (g := g2) (hr_wk p2 pM_P0) (hr_aI (by have := hr_pv p2 0 (lo := 0) (hi := 940) (ds := []) rfl; omega) (by omega)) (fun _ _ => rfl)) hW hS hA rfl ⟨Nat.le_of_ble_eq_true rfl, Nat.le_of_ble_eq_true rfl⟩ ⟨Nat.zero_le _, Nat.zero_le _⟩ (Nat.le_of_ble_eq_true rfl) dX11_feed_47 (fun cs2 hcs2 r2 g3 H locs hco2 hW hS _ => ?_)
    have hc2 : cs2 = (none, [], (pU.set 0 (.inl (4, 940, [(2000, 4, 4)])))) := List.mem_singleton.mp hcs2
    subst hc2
    obtain rfl := hr_rv0 hco2.1
    have u2 := hr_pd hco2.2.2 0 0 (lo := 4) (hi := 940) (a := 4) (b := 4) (ds := [(2000, 4, 4)]) rfl (List.mem_singleton.mpr rfl)
    have q3 : (g3 0).toInt = (pvv 0).toInt + 12 := by omega
    have p3 := hr_std p2 hco2.2.2 fe_s1
    have f2 : g3 11 = g2 11 := hr_same1 hco2.2.2 (by decide +kernel)
    refine lv_aload_n hx hb dX11_feed_50 rfl (lv_at hl 0 rfl) ?_
    refine hr_getR B hF hb hW (ci := 11) (j := 0) (cd := 3) t0 rfl (isF (by decide +kernel)) rfl dX11_feed_51 (fun a8 t8 _ => ?_)
    refine hr_getR B hF hb hW (ci := 8) (j := 1) (cd := 3) t8 rfl (isF (by decide +kernel)) rfl dX11_feed_54 (fun a10 t10 _ => ?_)
    refine lv_iload hx hb dX11_feed_57 (lv_at hl 4 rfl) ?_
    refine lc_callV (kc := kc_150) (b := a10) (As := [.int x4]) F hl lm_X11_109 (ch_all hU hun 150 (by decide)) ⟨⟨a10, rfl, t10⟩, hr_aF, trivial⟩ (hr_set1 (g := g3) (hr_wk p3 pM_P0) (hr_aI (by have := hr_pv p3 0 (lo := 0) (hi := 940) (ds := []) rfl; omega) (by omega)) (fun _ _ => rfl)) hW hS hA rfl ⟨Nat.le_of_ble_eq_true rfl, Nat.le_of_ble_eq_true rfl⟩ ⟨Nat.zero_le _, Nat.zero_le _⟩ (Nat.le_of_ble_eq_true rfl) dX11_feed_59 (fun cs3 hcs3 r3 g4 H locs hco3 hW hS _ => ?_)
    have hc3 : cs3 = (none, [], (pU.set 0 (.inl (4, 940, [(2000, 4, 4)])))) := List.mem_singleton.mp hcs3
    subst hc3
    obtain rfl := hr_rv0 hco3.1
    have u3 := hr_pd hco3.2.2 0 0 (lo := 4) (hi := 940) (a := 4) (b := 4) (ds := [(2000, 4, 4)]) rfl (List.mem_singleton.mpr rfl)
    have q4 : (g4 0).toInt = (pvv 0).toInt + 16 := by omega
    have p4 := hr_std p3 hco3.2.2 fe_s1
    have f3 : g4 11 = g3 11 := hr_same1 hco3.2.2 (by decide +kernel)
    refine lv_aload_n hx hb dX11_feed_62 rfl (lv_at hl 0 rfl) ?_
    refine hr_getR B hF hb hW (ci := 11) (j := 0) (cd := 3) t0 rfl (isF (by decide +kernel)) rfl dX11_feed_63 (fun a8 t8 _ => ?_)
    refine hr_getR B hF hb hW (ci := 8) (j := 1) (cd := 3) t8 rfl (isF (by decide +kernel)) rfl dX11_feed_66 (fun a10 t10 _ => ?_)
    refine lv_iload hx hb dX11_feed_69 (lv_at hl 5 rfl) ?_
    refine lc_callV (kc := kc_150) (b := a10) (As := [.int x5]) F hl lm_X11_109 (ch_all hU hun 150 (by decide)) ⟨⟨a10, rfl, t10⟩, hr_aF, trivial⟩ (hr_set1 (g := g4) (hr_wk p4 pM_P0) (hr_aI (by have := hr_pv p4 0 (lo := 0) (hi := 940) (ds := []) rfl; omega) (by omega)) (fun _ _ => rfl)) hW hS hA rfl ⟨Nat.le_of_ble_eq_true rfl, Nat.le_of_ble_eq_true rfl⟩ ⟨Nat.zero_le _, Nat.zero_le _⟩ (Nat.le_of_ble_eq_true rfl) dX11_feed_71 (fun cs4 hcs4 r4 g5 H locs hco4 hW hS _ => ?_)
    have hc4 : cs4 = (none, [], (pU.set 0 (.inl (4, 940, [(2000, 4, 4)])))) := List.mem_singleton.mp hcs4
    subst hc4
    obtain rfl := hr_rv0 hco4.1
    have u4 := hr_pd hco4.2.2 0 0 (lo := 4) (hi := 940) (a := 4) (b := 4) (ds := [(2000, 4, 4)]) rfl (List.mem_singleton.mpr rfl)
    have q5 : (g5 0).toInt = (pvv 0).toInt + 20 := by omega
    have p5 := hr_std p4 hco4.2.2 fe_s1
    have f4 : g5 11 = g4 11 := hr_same1 hco4.2.2 (by decide +kernel)
    refine lv_aload_n hx hb dX11_feed_74 rfl (lv_at hl 0 rfl) ?_
    refine hr_getR B hF hb hW (ci := 11) (j := 0) (cd := 3) t0 rfl (isF (by decide +kernel)) rfl dX11_feed_75 (fun a8 t8 _ => ?_)
    refine hr_getR B hF hb hW (ci := 8) (j := 1) (cd := 3) t8 rfl (isF (by decide +kernel)) rfl dX11_feed_78 (fun a10 t10 _ => ?_)
    refine hr_getI B hF hb hW (ci := 10) (j := 1) (cd := 0) t10 rfl (isF (by decide +kernel)) rfl dX11_feed_81 (fun y b1 b2 b3 _ => ?_)
    have b3 := b3 0 rfl
    exact hr_iret B hb rfl ⟨rfl, p5, by rw [f4, f3, f2, f1, f0, e11], y, rfl, Or.inr ⟨h1.2, by rw [b3]; exact q5, q5⟩⟩ hW hS dX11_feed_84
set_option maxHeartbeats 4000000 in
theorem hs_12_feed (hU : ck_uq ty ck_pvs0) (hun : ck_un ty) (hp : ck_pvo ty (ck_XE pvv) pPM pvv) {a0 : Nat} {x1 x2 x3 x4 x5 : Int32} (t0 : ty a0 = some 12) : hr_Met l D cys ty ck_tags ck_pvs0 (GE ty) (ck_tab 238) [.ref a0, .int x1, .int x2, .int x3, .int x4, .int x5] pvv (fe_P ty pvv 11 0) := by
  have hF := lk_f
  have hX : ck_ExP ty ck_prot1 (GE ty) := ge_ExP
  refine hr_enter (by decide +kernel) (by decide +kernel) (by decide +kernel) ⟨hr_aR t0, hr_aF, hr_aF, hr_aF, hr_aF, hr_aF, trivial⟩ ?_
  intro p e s m below meth c ls B hl hW
  have hx := B.1
  have hb : c.code = cX12_feed := B.2.1
  have F : lc_F p s m [Value.ref a0, .int x1, .int x2, .int x3, .int x4, .int x5].toArray c cX12_feed D cys (ck_ws (ck_tab 238)) RX12 6 := ⟨hx, hb, B.2.2.1, B.2.2.2.2.2.1, fun w hw => List.mem_cons_of_mem _ hw, B.2.2.2.2.2.2.1, B.2.2.2.2.2.2.2.1, B.2.2.2.2.2.2.2.2⟩
  have hl : lv_has ls 6 [(0, .ref a0), (1, .int x1), (2, .int x2), (3, .int x3), (4, .int x4), (5, .int x5)] := hl
  have hS : va_S (ck_own ty) s.heap s.heap [] := va_S.rf
  have hA : ∀ q, ck_own ty q → ck_own ty q := fun _ h => h
  refine lv_aload_n hx hb dX12_feed_0 rfl (lv_at hl 0 rfl) ?_
  refine hr_ic hx hb dX12_feed_1 (by decide) (fun y0 hy0 => ?_)
  refine hr_putN B hF hb hU hW hS (ci := 12) (j := 0) (cd := 0) t0 rfl (isF (by decide +kernel)) rfl (by omega) (by omega) (Or.inl rfl) (hr_EO hX t0 (by decide)) (by decide) dX12_feed_2 (fun H locs hW hS => ?_)
  refine lv_aload_n hx hb dX12_feed_5 rfl (lv_at hl 0 rfl) ?_
  refine hr_getI B hF hb hW (ci := 12) (j := 2) (cd := 0) t0 rfl (isF (by decide +kernel)) rfl dX12_feed_6 (fun y b1 b2 b3 _ => ?_)
  have b3 := b3 11 rfl
  subst b3
  refine hr_bp hx hb dX12_feed_9 (by decide) (by decide) (fun c20 h20 => ?_)
  refine hr_add hx hb dX12_feed_11 (by omega) (by omega) (fun sm hsm => ?_)
  refine hr_sp hx hb dX12_feed_12 (by decide) (by decide) (fun c940 h940 => ?_)
  refine hr_le (tgt := 20) hx hb dX12_feed_15 (by decide) (fun h1 => ?_) (fun h1 => ?_)
  · have p0 := hp
    have q0 : (pvv 11).toInt = (pvv 11).toInt := rfl
    refine lv_aload_n hx hb dX12_feed_20 rfl (lv_at hl 0 rfl) ?_
    refine lv_iload_n hx hb dX12_feed_21 rfl (lv_at hl 1 rfl) ?_
    refine lc_callV (kc := kc_237) (b := a0) (As := [.int x1]) F hl lm_X12_10 (ch_all hU hun 237 (by decide)) ⟨⟨a0, rfl, t0⟩, hr_aF, trivial⟩ (hr_set1 (g := pvv) p0 (hr_aI (by have := hr_pv p0 11 (lo := 0) (hi := 940) (ds := []) rfl; omega) (by omega)) (fun _ _ => rfl)) hW hS hA rfl ⟨Nat.le_of_ble_eq_true rfl, Nat.le_of_ble_eq_true rfl⟩ ⟨Nat.zero_le _, Nat.zero_le _⟩ (Nat.le_of_ble_eq_true rfl) dX12_feed_22 (fun cs0 hcs0 r0 g1 H locs hco0 hW hS _ => ?_)
    have hc0 : cs0 = (none, [], (pUM.set 11 (.inl (4, 940, [(2022, 4, 4)])))) := List.mem_singleton.mp hcs0
    subst hc0
    obtain rfl := hr_rv0 hco0.1
    have u0 := hr_pd hco0.2.2 11 11 (lo := 4) (hi := 940) (a := 4) (b := 4) (ds := [(2022, 4, 4)]) rfl (List.mem_singleton.mpr rfl)
    have q1 : (g1 11).toInt = (pvv 11).toInt + 4 := by omega
    have p1 := hr_std p0 hco0.2.2 fe_s2
    have f0 : g1 0 = pvv 0 := hr_same1 hco0.2.2 (by decide +kernel)
    refine lv_aload_n hx hb dX12_feed_25 rfl (lv_at hl 0 rfl) ?_
    refine lv_iload_n hx hb dX12_feed_26 rfl (lv_at hl 2 rfl) ?_
    refine lc_callV (kc := kc_237) (b := a0) (As := [.int x2]) F hl lm_X12_10 (ch_all hU hun 237 (by decide)) ⟨⟨a0, rfl, t0⟩, hr_aF, trivial⟩ (hr_set1 (g := g1) p1 (hr_aI (by have := hr_pv p1 11 (lo := 0) (hi := 940) (ds := []) rfl; omega) (by omega)) (fun _ _ => rfl)) hW hS hA rfl ⟨Nat.le_of_ble_eq_true rfl, Nat.le_of_ble_eq_true rfl⟩ ⟨Nat.zero_le _, Nat.zero_le _⟩ (Nat.le_of_ble_eq_true rfl) dX12_feed_27 (fun cs1 hcs1 r1 g2 H locs hco1 hW hS _ => ?_)
    have hc1 : cs1 = (none, [], (pUM.set 11 (.inl (4, 940, [(2022, 4, 4)])))) := List.mem_singleton.mp hcs1
    subst hc1
    obtain rfl := hr_rv0 hco1.1
    have u1 := hr_pd hco1.2.2 11 11 (lo := 4) (hi := 940) (a := 4) (b := 4) (ds := [(2022, 4, 4)]) rfl (List.mem_singleton.mpr rfl)
    have q2 : (g2 11).toInt = (pvv 11).toInt + 8 := by omega
    have p2 := hr_std p1 hco1.2.2 fe_s2
    have f1 : g2 0 = g1 0 := hr_same1 hco1.2.2 (by decide +kernel)
    refine lv_aload_n hx hb dX12_feed_30 rfl (lv_at hl 0 rfl) ?_
    refine lv_iload_n hx hb dX12_feed_31 rfl (lv_at hl 3 rfl) ?_
    refine lc_callV (kc := kc_237) (b := a0) (As := [.int x3]) F hl lm_X12_10 (ch_all hU hun 237 (by decide)) ⟨⟨a0, rfl, t0⟩, hr_aF, trivial⟩ (hr_set1 (g := g2) p2 (hr_aI (by have := hr_pv p2 11 (lo := 0) (hi := 940) (ds := []) rfl; omega) (by omega)) (fun _ _ => rfl)) hW hS hA rfl ⟨Nat.le_of_ble_eq_true rfl, Nat.le_of_ble_eq_true rfl⟩ ⟨Nat.zero_le _, Nat.zero_le _⟩ (Nat.le_of_ble_eq_true rfl) dX12_feed_32 (fun cs2 hcs2 r2 g3 H locs hco2 hW hS _ => ?_)
    have hc2 : cs2 = (none, [], (pUM.set 11 (.inl (4, 940, [(2022, 4, 4)])))) := List.mem_singleton.mp hcs2
    subst hc2
    obtain rfl := hr_rv0 hco2.1
    have u2 := hr_pd hco2.2.2 11 11 (lo := 4) (hi := 940) (a := 4) (b := 4) (ds := [(2022, 4, 4)]) rfl (List.mem_singleton.mpr rfl)
    have q3 : (g3 11).toInt = (pvv 11).toInt + 12 := by omega
    have p3 := hr_std p2 hco2.2.2 fe_s2
    have f2 : g3 0 = g2 0 := hr_same1 hco2.2.2 (by decide +kernel)
    refine lv_aload_n hx hb dX12_feed_35 rfl (lv_at hl 0 rfl) ?_
    refine lv_iload hx hb dX12_feed_36 (lv_at hl 4 rfl) ?_
    refine lc_callV (kc := kc_237) (b := a0) (As := [.int x4]) F hl lm_X12_10 (ch_all hU hun 237 (by decide)) ⟨⟨a0, rfl, t0⟩, hr_aF, trivial⟩ (hr_set1 (g := g3) p3 (hr_aI (by have := hr_pv p3 11 (lo := 0) (hi := 940) (ds := []) rfl; omega) (by omega)) (fun _ _ => rfl)) hW hS hA rfl ⟨Nat.le_of_ble_eq_true rfl, Nat.le_of_ble_eq_true rfl⟩ ⟨Nat.zero_le _, Nat.zero_le _⟩ (Nat.le_of_ble_eq_true rfl) dX12_feed_38 (fun cs3 hcs3 r3 g4 H locs hco3 hW hS _ => ?_)
    have hc3 : cs3 = (none, [], (pUM.set 11 (.inl (4, 940, [(2022, 4, 4)])))) := List.mem_singleton.mp hcs3
    subst hc3
    obtain rfl := hr_rv0 hco3.1
    have u3 := hr_pd hco3.2.2 11 11 (lo := 4) (hi := 940) (a := 4) (b := 4) (ds := [(2022, 4, 4)]) rfl (List.mem_singleton.mpr rfl)
    have q4 : (g4 11).toInt = (pvv 11).toInt + 16 := by omega
    have p4 := hr_std p3 hco3.2.2 fe_s2
    have f3 : g4 0 = g3 0 := hr_same1 hco3.2.2 (by decide +kernel)
    refine lv_aload_n hx hb dX12_feed_41 rfl (lv_at hl 0 rfl) ?_
    refine lv_iload hx hb dX12_feed_42 (lv_at hl 5 rfl) ?_
    refine lc_callV (kc := kc_237) (b := a0) (As := [.int x5]) F hl lm_X12_10 (ch_all hU hun 237 (by decide)) ⟨⟨a0, rfl, t0⟩, hr_aF, trivial⟩ (hr_set1 (g := g4) p4 (hr_aI (by have := hr_pv p4 11 (lo := 0) (hi := 940) (ds := []) rfl; omega) (by omega)) (fun _ _ => rfl)) hW hS hA rfl ⟨Nat.le_of_ble_eq_true rfl, Nat.le_of_ble_eq_true rfl⟩ ⟨Nat.zero_le _, Nat.zero_le _⟩ (Nat.le_of_ble_eq_true rfl) dX12_feed_44 (fun cs4 hcs4 r4 g5 H locs hco4 hW hS _ => ?_)
    have hc4 : cs4 = (none, [], (pUM.set 11 (.inl (4, 940, [(2022, 4, 4)])))) := List.mem_singleton.mp hcs4
    subst hc4
    obtain rfl := hr_rv0 hco4.1
    have u4 := hr_pd hco4.2.2 11 11 (lo := 4) (hi := 940) (a := 4) (b := 4) (ds := [(2022, 4, 4)]) rfl (List.mem_singleton.mpr rfl)
    have q5 : (g5 11).toInt = (pvv 11).toInt + 20 := by omega
    have p5 := hr_std p4 hco4.2.2 fe_s2
    have f4 : g5 0 = g4 0 := hr_same1 hco4.2.2 (by decide +kernel)
    refine lv_aload_n hx hb dX12_feed_47 rfl (lv_at hl 0 rfl) ?_
    refine hr_getI B hF hb hW (ci := 12) (j := 2) (cd := 0) t0 rfl (isF (by decide +kernel)) rfl dX12_feed_48 (fun y d1 d2 d3 _ => ?_)
    have d3 := d3 11 rfl
    exact hr_iret B hb rfl ⟨rfl, p5, by rw [f4, f3, f2, f1, f0], y, rfl, Or.inr ⟨by omega, by rw [d3]; exact q5, q5⟩⟩ hW hS dX12_feed_51
  · refine hr_ic hx hb dX12_feed_18 (by decide) (fun y hy => ?_)
    exact hr_iret B hb rfl ⟨rfl, hp, rfl, y, rfl, Or.inl ⟨by omega, hy, rfl⟩⟩ hW hS dX12_feed_19
end FE
