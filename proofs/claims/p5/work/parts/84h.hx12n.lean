/-! BOTH CONTRACTS INSIDE A METHOD, 5: the reference's book, where nothing is read. -/
section HX12N
variable {l : Launch} {D : va_G} {cys : Nat → ClassId} {ty : Nat → Option Nat}
set_option maxRecDepth 100000 in
theorem hx_12_bookN (hF : ck_LKf ck_LK) (hM : ck_LKm ck_tags ck_LK ck_tab) (hU : ck_uq ty ck_pvs0) {a0 : Nat} {x1 : Int32} {pvv0 : Nat → Int32} (t0 : ty a0 = some 12) (hX1 : x1.toInt < 0 ∨ 2 ≤ x1.toInt) : hr_Met l D cys ty ck_tags ck_pvs0 (GE ty) (ck_tab 337) [.ref a0, .int x1] pvv0 (fun r pvv' E' => (∃ z : Int32, r = some (.int z)) ∧ E' = GE ty ∧ pvv' = pvv0) := by
  refine hr_enter (by decide +kernel) (by decide +kernel) (by decide +kernel) ⟨hr_aR t0, hr_aF, True.intro⟩ ?_
  intro p e s m below meth c ls B hl hW
  have hx := B.1
  have hb : c.code = cX12_book := B.2.1
  have hS : va_S (ck_own ty) s.heap s.heap [] := va_S.rf
  have hl : lv_has ls 5 [(0, .ref a0), (1, .int x1)] := hl
  refine lv_aload_n hx hb dX12_book_0 rfl (lv_at hl 0 rfl) ?_
  refine hr_ic hx hb dX12_book_1 (by decide) (fun z1 hz1 => ?_)
  refine hr_putN B hF hb hU hW hS (ci := 12) (j := 0) (cd := 0) t0 rfl (isF (by decide +kernel)) rfl (by omega) (by omega) (Or.inl rfl) (hr_EO ge_ExP t0 (by decide)) (by decide) dX12_book_2 (fun H locs hW hS => ?_)
  refine lv_iload_n hx hb dX12_book_5 rfl (lv_at hl 1 rfl) ?_
  refine hr_ic hx hb dX12_book_6 (by decide) (fun z6 hz6 => ?_)
  refine hr_ic hx hb dX12_book_7 (by decide) (fun z7 hz7 => ?_)
  refine hr_callS (kc := ck_tab 192) B rfl hb hl (hM.1 _ _ 1 [190, 191, 192, 193, 194, 195, 196, 197, 198, 199] (isM (by decide +kernel)) 192 (by decide)) (hs_isIn (by omega) (by omega) (by omega)) ⟨hr_aF, hr_aI (by omega) (by omega), hr_aI (by omega) (by omega), True.intro⟩ hW hS rfl (by decide) (by decide) (Nat.le_of_ble_eq_true rfl) dX12_book_8 (fun r pvv8 E8 H locs hpost hW hS => ?_)
  obtain ⟨ep, rfl, z8, rfl, b8⟩ := hpost
  rw [ep] at hW
  refine hr_ne0 (tgt := 18) hx hb dX12_book_11 (by decide) (fun h11 => ?_) (fun h11 => ?_)
  · exfalso
    omega
  · refine hr_sp hx hb dX12_book_14 (by decide) (by decide) (fun z14 hz14 => ?_)
    exact hr_iret B hb rfl ⟨⟨_, rfl⟩, rfl, rfl⟩ hW hS dX12_book_17
end HX12N
