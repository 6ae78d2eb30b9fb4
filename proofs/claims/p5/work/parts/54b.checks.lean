/-! each method checked -/
set_option maxRecDepth 100000 in
theorem ok_315 : ck_check ck_tags ck_pvs0 ck_prot0 ck_LK ck_tab 315 kc_315 3000 = true := by decide +kernel
