/-! each method checked -/
set_option maxRecDepth 100000 in
theorem ok_340 : ck_check ck_tags ck_pvs0 ck_prot0 ck_LK ck_tab 340 kc_340 3000 = true := by decide +kernel
set_option maxRecDepth 100000 in
theorem ok_343 : ck_check ck_tags ck_pvs0 ck_prot0 ck_LK ck_tab 343 kc_343 3000 = true := by decide +kernel
