/-! THE EXACT LOGIC: fault() of both (printed by a program of ours). -/
section GX
variable {l : Launch} {D : va_G} {cys : Nat → ClassId} {ty : Nat → Option Nat}
theorem eX11_fault_0 : decode cX11_fault 0 = .ok (.aload_n 0, 1) := by decide +kernel
theorem eX11_fault_1 : decode cX11_fault 1 = .ok (.getfield 88, 3) := by decide +kernel
theorem eX11_fault_4 : decode cX11_fault 4 = .ok (.ireturn, 1) := by decide +kernel
set_option maxRecDepth 100000 in
theorem m_11_fault (hU : ev_uq ty ev_TR) {C : ev_C} {r : Int} {C' : ev_C} (h : f_11_fault C = some (r, C')) : ev_Met l D cys ty ck_tags ev_TR kc_171 [.inr (.inl 11)] C (fun r0 C0 => r0 = some (.inl r) ∧ C0 = C') := by
  unfold f_11_fault at h
  refine ev_enter (by decide +kernel) (by decide +kernel) (Nat.le_of_ble_eq_true rfl) ?_
  show ev_W l D cys ty ck_tags ev_TR kc_171 0 [(0, .inr (.inl 11))] [] C _
  refine ev_al eX11_fault_0 rfl ?_
  refine ev_getI lk_f (ci := 11) (j := 13) (cd := 0) eX11_fault_1 (isF (by decide +kernel)) rfl rfl rfl ?_
  cases h
  exact ev_iret eX11_fault_4 rfl ⟨rfl, rfl⟩
theorem eX12_fault_0 : decode cX12_fault 0 = .ok (.aload_n 0, 1) := by decide +kernel
theorem eX12_fault_1 : decode cX12_fault 1 = .ok (.iconst 0, 1) := by decide +kernel
theorem eX12_fault_2 : decode cX12_fault 2 = .ok (.putfield 1, 3) := by decide +kernel
theorem eX12_fault_5 : decode cX12_fault 5 = .ok (.aload_n 0, 1) := by decide +kernel
theorem eX12_fault_6 : decode cX12_fault 6 = .ok (.getfield 183, 3) := by decide +kernel
theorem eX12_fault_9 : decode cX12_fault 9 = .ok (.ireturn, 1) := by decide +kernel
set_option maxRecDepth 100000 in
theorem m_12_fault (hU : ev_uq ty ev_TR) {C : ev_C} {r : Int} {C' : ev_C} (h : f_12_fault C = some (r, C')) : ev_Met l D cys ty ck_tags ev_TR kc_248 [.inr (.inl 12)] C (fun r0 C0 => r0 = some (.inl r) ∧ C0 = C') := by
  unfold f_12_fault at h
  refine ev_enter (by decide +kernel) (by decide +kernel) (Nat.le_of_ble_eq_true rfl) ?_
  show ev_W l D cys ty ck_tags ev_TR kc_248 0 [(0, .inr (.inl 12))] [] C _
  refine ev_al eX12_fault_0 rfl ?_
  refine ev_ic eX12_fault_1 (by decide) ?_
  refine ev_putI lk_f hU (ci := 12) (j := 0) (cd := 0) eX12_fault_2 (isF (by decide +kernel)) rfl rfl (Or.inl rfl) rfl ?_
  refine ev_al eX12_fault_5 rfl ?_
  refine ev_getI lk_f (ci := 12) (j := 15) (cd := 0) eX12_fault_6 (isF (by decide +kernel)) rfl rfl rfl ?_
  cases h
  exact ev_iret eX12_fault_9 rfl ⟨rfl, rfl⟩
end GX
