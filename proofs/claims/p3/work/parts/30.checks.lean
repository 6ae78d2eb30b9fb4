/-! each method checked -/
set_option maxRecDepth 100000 in
theorem ok_231 : ck_check ck_tags ck_pvs0 ck_prot0 ck_LK ck_tab 231 kc_231 3000 = true := by decide +kernel
set_option maxRecDepth 100000 in
theorem ok_237 : ck_check ck_tags ck_pvs0 ck_prot0 ck_LK ck_tab 237 kc_237 3000 = true := by decide +kernel
set_option maxRecDepth 100000 in
theorem ok_299 : ck_check ck_tags ck_pvs0 ck_prot0 ck_LK ck_tab 299 kc_299 3000 = true := by decide +kernel
