/-! THE LAW, 1: end, exactly. -/
section EN
variable {l : Launch} {D : va_G} {cys : Nat → ClassId} {ty : Nat → Option Nat} {pvv : Nat → Int32}
theorem dX11_end_0 : decode cX11_end 0 = .ok (.iload_n 1, 1) := by decide +kernel
theorem dX11_end_1 : decode cX11_end 1 = .ok (.ifCond .lt 17, 3) := by decide +kernel
theorem dX11_end_4 : decode cX11_end 4 = .ok (.iload_n 1, 1) := by decide +kernel
theorem dX11_end_5 : decode cX11_end 5 = .ok (.aload_n 0, 1) := by decide +kernel
theorem dX11_end_6 : decode cX11_end 6 = .ok (.getfield 10, 3) := by decide +kernel
theorem dX11_end_9 : decode cX11_end 9 = .ok (.getfield 99, 3) := by decide +kernel
theorem dX11_end_12 : decode cX11_end 12 = .ok (.getfield 113, 3) := by decide +kernel
theorem dX11_end_15 : decode cX11_end 15 = .ok (.if_icmp .le 5, 3) := by decide +kernel
theorem dX11_end_18 : decode cX11_end 18 = .ok (.iconst 0, 1) := by decide +kernel
theorem dX11_end_19 : decode cX11_end 19 = .ok (.ireturn, 1) := by decide +kernel
theorem dX11_end_20 : decode cX11_end 20 = .ok (.aload_n 0, 1) := by decide +kernel
theorem dX11_end_21 : decode cX11_end 21 = .ok (.getfield 10, 3) := by decide +kernel
theorem dX11_end_24 : decode cX11_end 24 = .ok (.getfield 99, 3) := by decide +kernel
theorem dX11_end_27 : decode cX11_end 27 = .ok (.iload_n 1, 1) := by decide +kernel
theorem dX11_end_28 : decode cX11_end 28 = .ok (.putfield 113, 3) := by decide +kernel
theorem dX11_end_31 : decode cX11_end 31 = .ok (.iconst 1, 1) := by decide +kernel
theorem dX11_end_32 : decode cX11_end 32 = .ok (.ireturn, 1) := by decide +kernel
theorem dX12_end_0 : decode cX12_end 0 = .ok (.aload_n 0, 1) := by decide +kernel
theorem dX12_end_1 : decode cX12_end 1 = .ok (.iconst 0, 1) := by decide +kernel
theorem dX12_end_2 : decode cX12_end 2 = .ok (.putfield 1, 3) := by decide +kernel
theorem dX12_end_5 : decode cX12_end 5 = .ok (.iload_n 1, 1) := by decide +kernel
theorem dX12_end_6 : decode cX12_end 6 = .ok (.ifCond .lt 11, 3) := by decide +kernel
theorem dX12_end_9 : decode cX12_end 9 = .ok (.iload_n 1, 1) := by decide +kernel
theorem dX12_end_10 : decode cX12_end 10 = .ok (.aload_n 0, 1) := by decide +kernel
theorem dX12_end_11 : decode cX12_end 11 = .ok (.getfield 7, 3) := by decide +kernel
theorem dX12_end_14 : decode cX12_end 14 = .ok (.if_icmp .le 5, 3) := by decide +kernel
theorem dX12_end_17 : decode cX12_end 17 = .ok (.iconst 0, 1) := by decide +kernel
theorem dX12_end_18 : decode cX12_end 18 = .ok (.ireturn, 1) := by decide +kernel
theorem dX12_end_19 : decode cX12_end 19 = .ok (.aload_n 0, 1) := by decide +kernel
theorem dX12_end_20 : decode cX12_end 20 = .ok (.iload_n 1, 1) := by decide +kernel
theorem dX12_end_21 : decode cX12_end 21 = .ok (.putfield 7, 3) := by decide +kernel
theorem dX12_end_24 : decode cX12_end 24 = .ok (.iconst 1, 1) := by decide +kernel
theorem dX12_end_25 : decode cX12_end 25 = .ok (.ireturn, 1) := by decide +kernel
theorem hs_11_end (hU : ck_uq ty ck_pvs0) {a0 : Nat} {x1 : Int32} (t0 : ty a0 = some 11) : hr_Met l D cys ty ck_tags ck_pvs0 (GE ty) (ck_tab 170) [.ref a0, .int x1] pvv (fun r g E' => E' = GE ty ∧ ∃ z : Int32, r = some (.int z) ∧ ((0 ≤ x1.toInt ∧ x1.toInt ≤ (pvv 0).toInt ∧ z.toInt = 1 ∧ g = upd pvv 0 x1) ∨ (¬ (0 ≤ x1.toInt ∧ x1.toInt ≤ (pvv 0).toInt) ∧ z.toInt = 0 ∧ g = pvv))) := by
  have hF := lk_f
  have hI := pv_inj
  have hX : ck_ExP ty ck_prot1 (GE ty) := ge_ExP
  refine hr_enter (by decide +kernel) (by decide +kernel) (by decide +kernel) ⟨hr_aR t0, hr_aF, trivial⟩ ?_
  intro p e s m below meth c ls B hl hW
  have hx := B.1
  have hb : c.code = cX11_end := B.2.1
  have hl : lv_has ls 2 [(0, .ref a0), (1, .int x1)] := hl
  have hS : va_S (ck_own ty) s.heap s.heap [] := va_S.rf
  refine lv_iload_n hx hb dX11_end_0 rfl (lv_at hl 1 rfl) ?_
  refine hr_lt0 (tgt := 18) hx hb dX11_end_1 (by decide) (fun h1 => ?_) (fun h1 => ?_)
  · refine hr_ic hx hb dX11_end_18 (by decide) (fun z hz => ?_)
    exact hr_zret B hb rfl (by omega) ⟨rfl, z, rfl, Or.inr ⟨by omega, hz, rfl⟩⟩ hW hS dX11_end_19
  · refine lv_iload_n hx hb dX11_end_4 rfl (lv_at hl 1 rfl) ?_
    refine lv_aload_n hx hb dX11_end_5 rfl (lv_at hl 0 rfl) ?_
    refine hr_getR B hF hb hW (ci := 11) (j := 0) (cd := 3) t0 rfl (isF (by decide +kernel)) rfl dX11_end_6 (fun a8 t8 _ => ?_)
    refine hr_getR B hF hb hW (ci := 8) (j := 1) (cd := 3) t8 rfl (isF (by decide +kernel)) rfl dX11_end_9 (fun a10 t10 _ => ?_)
    refine hr_getI B hF hb hW (ci := 10) (j := 1) (cd := 0) t10 rfl (isF (by decide +kernel)) rfl dX11_end_12 (fun z b1 b2 b3 _ => ?_)
    have b3 := b3 0 rfl
    subst b3
    refine hr_le (tgt := 20) hx hb dX11_end_15 (by decide) (fun h2 => ?_) (fun h2 => ?_)
    · refine lv_aload_n hx hb dX11_end_20 rfl (lv_at hl 0 rfl) ?_
      refine hr_getR B hF hb hW (ci := 11) (j := 0) (cd := 3) t0 rfl (isF (by decide +kernel)) rfl dX11_end_21 (fun a8 t8 _ => ?_)
      refine hr_getR B hF hb hW (ci := 8) (j := 1) (cd := 3) t8 rfl (isF (by decide +kernel)) rfl dX11_end_24 (fun a10 t10 _ => ?_)
      refine lv_iload_n hx hb dX11_end_27 rfl (lv_at hl 1 rfl) ?_
      refine hr_putP B hF hb hU hW hS (ci := 10) (j := 1) (cd := 0) t10 rfl (isF (by decide +kernel)) rfl (by omega) (by omega) (Or.inl rfl) (hr_EO hX t10 (by decide)) hI (q0 := 0) rfl dX11_end_28 (fun H locs hW hS => ?_)
      refine hr_ic hx hb dX11_end_31 (by decide) (fun z hz => ?_)
      exact hr_zret B hb rfl (by omega) ⟨rfl, z, rfl, Or.inl ⟨by omega, h2, hz, rfl⟩⟩ hW hS dX11_end_32
    · refine hr_ic hx hb dX11_end_18 (by decide) (fun z hz => ?_)
      exact hr_zret B hb rfl (by omega) ⟨rfl, z, rfl, Or.inr ⟨by omega, hz, rfl⟩⟩ hW hS dX11_end_19
theorem hs_12_end (hU : ck_uq ty ck_pvs0) {a0 : Nat} {x1 : Int32} (t0 : ty a0 = some 12) : hr_Met l D cys ty ck_tags ck_pvs0 (GE ty) (ck_tab 247) [.ref a0, .int x1] pvv (fun r g E' => E' = GE ty ∧ ∃ z : Int32, r = some (.int z) ∧ ((0 ≤ x1.toInt ∧ x1.toInt ≤ (pvv 11).toInt ∧ z.toInt = 1 ∧ g = upd pvv 11 x1) ∨ (¬ (0 ≤ x1.toInt ∧ x1.toInt ≤ (pvv 11).toInt) ∧ z.toInt = 0 ∧ g = pvv))) := by
  have hF := lk_f
  have hI := pv_inj
  have hX : ck_ExP ty ck_prot1 (GE ty) := ge_ExP
  refine hr_enter (by decide +kernel) (by decide +kernel) (by decide +kernel) ⟨hr_aR t0, hr_aF, trivial⟩ ?_
  intro p e s m below meth c ls B hl hW
  have hx := B.1
  have hb : c.code = cX12_end := B.2.1
  have hl : lv_has ls 2 [(0, .ref a0), (1, .int x1)] := hl
  have hS : va_S (ck_own ty) s.heap s.heap [] := va_S.rf
  refine lv_aload_n hx hb dX12_end_0 rfl (lv_at hl 0 rfl) ?_
  refine hr_ic hx hb dX12_end_1 (by decide) (fun z0 hz0 => ?_)
  refine hr_putN B hF hb hU hW hS (ci := 12) (j := 0) (cd := 0) t0 rfl (isF (by decide +kernel)) rfl (by omega) (by omega) (Or.inl rfl) (hr_EO hX t0 (by decide)) (by decide) dX12_end_2 (fun H locs hW hS => ?_)
  refine lv_iload_n hx hb dX12_end_5 rfl (lv_at hl 1 rfl) ?_
  refine hr_lt0 (tgt := 17) hx hb dX12_end_6 (by decide) (fun h1 => ?_) (fun h1 => ?_)
  · refine hr_ic hx hb dX12_end_17 (by decide) (fun z hz => ?_)
    exact hr_zret B hb rfl (by omega) ⟨rfl, z, rfl, Or.inr ⟨by omega, hz, rfl⟩⟩ hW hS dX12_end_18
  · refine lv_iload_n hx hb dX12_end_9 rfl (lv_at hl 1 rfl) ?_
    refine lv_aload_n hx hb dX12_end_10 rfl (lv_at hl 0 rfl) ?_
    refine hr_getI B hF hb hW (ci := 12) (j := 2) (cd := 0) t0 rfl (isF (by decide +kernel)) rfl dX12_end_11 (fun z b1 b2 b3 _ => ?_)
    have b3 := b3 11 rfl
    subst b3
    refine hr_le (tgt := 19) hx hb dX12_end_14 (by decide) (fun h2 => ?_) (fun h2 => ?_)
    · refine lv_aload_n hx hb dX12_end_19 rfl (lv_at hl 0 rfl) ?_
      refine lv_iload_n hx hb dX12_end_20 rfl (lv_at hl 1 rfl) ?_
      refine hr_putP B hF hb hU hW hS (ci := 12) (j := 2) (cd := 0) t0 rfl (isF (by decide +kernel)) rfl (by omega) (by omega) (Or.inl rfl) (hr_EO hX t0 (by decide)) hI (q0 := 11) rfl dX12_end_21 (fun H locs hW hS => ?_)
      refine hr_ic hx hb dX12_end_24 (by decide) (fun z hz => ?_)
      exact hr_zret B hb rfl (by omega) ⟨rfl, z, rfl, Or.inl ⟨by omega, h2, hz, rfl⟩⟩ hW hS dX12_end_25
    · refine hr_ic hx hb dX12_end_17 (by decide) (fun z hz => ?_)
      exact hr_zret B hb rfl (by omega) ⟨rfl, z, rfl, Or.inr ⟨by omega, hz, rfl⟩⟩ hW hS dX12_end_18
end EN
