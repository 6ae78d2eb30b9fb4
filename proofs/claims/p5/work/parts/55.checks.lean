/-! each method checked -/
set_option maxRecDepth 100000 in
theorem ok_330 : ck_check ck_tags ck_pvs0 ck_prot0 ck_LK ck_tab 330 kc_330 3000 = true := by decide +kernel
set_option maxRecDepth 100000 in
theorem ok_333 : ck_check ck_tags ck_pvs0 ck_prot0 ck_LK ck_tab 333 kc_333 3000 = true := by decide +kernel
set_option maxRecDepth 100000 in
theorem ok_334 : ck_check ck_tags ck_pvs0 ck_prot0 ck_LK ck_tab 334 kc_334 3000 = true := by decide +kernel
set_option maxRecDepth 100000 in
theorem ok_335 : ck_check ck_tags ck_pvs0 ck_prot0 ck_LK ck_tab 335 kc_335 3000 = true := by decide +kernel
set_option maxRecDepth 100000 in
theorem ok_338 : ck_check ck_tags ck_pvs0 ck_prot0 ck_LK ck_tab 338 kc_338 3000 = true := by decide +kernel
set_option maxRecDepth 100000 in
theorem ok_339 : ck_check ck_tags ck_pvs0 ck_prot0 ck_LK ck_tab 339 kc_339 3000 = true := by decide +kernel
set_option maxRecDepth 100000 in
theorem ok_340 : ck_check ck_tags ck_pvs0 ck_prot0 ck_LK ck_tab 340 kc_340 3000 = true := by decide +kernel
set_option maxRecDepth 100000 in
theorem ok_341 : ck_check ck_tags ck_pvs0 ck_prot0 ck_LK ck_tab 341 kc_341 3000 = true := by decide +kernel
set_option maxRecDepth 100000 in
theorem ok_342 : ck_check ck_tags ck_pvs0 ck_prot0 ck_LK ck_tab 342 kc_342 3000 = true := by decide +kernel
set_option maxRecDepth 100000 in
theorem ok_343 : ck_check ck_tags ck_pvs0 ck_prot0 ck_LK ck_tab 343 kc_343 3000 = true := by decide +kernel
set_option maxRecDepth 100000 in
theorem ok_345 : ck_check ck_tags ck_pvs0 ck_prot0 ck_LK ck_tab 345 kc_345 3000 = true := by decide +kernel
set_option maxRecDepth 100000 in
theorem ok_346 : ck_check ck_tags ck_pvs0 ck_prot0 ck_LK ck_tab 346 kc_346 3000 = true := by decide +kernel
set_option maxRecDepth 100000 in
theorem ok_347 : ck_check ck_tags ck_pvs0 ck_prot0 ck_LK ck_tab 347 kc_347 3000 = true := by decide +kernel
set_option maxRecDepth 100000 in
theorem ok_350 : ck_check ck_tags ck_pvs0 ck_prot0 ck_LK ck_tab 350 kc_350 3000 = true := by decide +kernel
