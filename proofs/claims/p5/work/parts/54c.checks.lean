/-! each method checked -/
set_option maxRecDepth 100000 in
theorem ok_317 : ck_check ck_tags ck_pvs0 ck_prot0 ck_LK ck_tab 317 kc_317 3000 = true := by decide +kernel
set_option maxRecDepth 100000 in
theorem ok_319 : ck_check ck_tags ck_pvs0 ck_prot0 ck_LK ck_tab 319 kc_319 3000 = true := by decide +kernel
set_option maxRecDepth 100000 in
theorem ok_320 : ck_check ck_tags ck_pvs0 ck_prot0 ck_LK ck_tab 320 kc_320 3000 = true := by decide +kernel
set_option maxRecDepth 100000 in
theorem ok_321 : ck_check ck_tags ck_pvs0 ck_prot0 ck_LK ck_tab 321 kc_321 3000 = true := by decide +kernel
set_option maxRecDepth 100000 in
theorem ok_322 : ck_check ck_tags ck_pvs0 ck_prot0 ck_LK ck_tab 322 kc_322 3000 = true := by decide +kernel
set_option maxRecDepth 100000 in
theorem ok_323 : ck_check ck_tags ck_pvs0 ck_prot0 ck_LK ck_tab 323 kc_323 3000 = true := by decide +kernel
set_option maxRecDepth 100000 in
theorem ok_324 : ck_check ck_tags ck_pvs0 ck_prot0 ck_LK ck_tab 324 kc_324 3000 = true := by decide +kernel
set_option maxRecDepth 100000 in
theorem ok_325 : ck_check ck_tags ck_pvs0 ck_prot0 ck_LK ck_tab 325 kc_325 3000 = true := by decide +kernel
set_option maxRecDepth 100000 in
theorem ok_326 : ck_check ck_tags ck_pvs0 ck_prot0 ck_LK ck_tab 326 kc_326 3000 = true := by decide +kernel
set_option maxRecDepth 100000 in
theorem ok_327 : ck_check ck_tags ck_pvs0 ck_prot0 ck_LK ck_tab 327 kc_327 3000 = true := by decide +kernel
set_option maxRecDepth 100000 in
theorem ok_328 : ck_check ck_tags ck_pvs0 ck_prot0 ck_LK ck_tab 328 kc_328 3000 = true := by decide +kernel
set_option maxRecDepth 100000 in
theorem ok_329 : ck_check ck_tags ck_pvs0 ck_prot0 ck_LK ck_tab 329 kc_329 3000 = true := by decide +kernel
