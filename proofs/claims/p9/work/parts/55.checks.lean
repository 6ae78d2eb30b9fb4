/-! each method checked -/
set_option maxRecDepth 100000 in
theorem ok_332 : ck_check ck_tags ck_pvs0 ck_prot0 ck_LK ck_tab 332 kc_332 3000 = true := by decide +kernel
set_option maxRecDepth 100000 in
theorem ok_335 : ck_check ck_tags ck_pvs0 ck_prot0 ck_LK ck_tab 335 kc_335 3000 = true := by decide +kernel
set_option maxRecDepth 100000 in
theorem ok_336 : ck_check ck_tags ck_pvs0 ck_prot0 ck_LK ck_tab 336 kc_336 3000 = true := by decide +kernel
set_option maxRecDepth 100000 in
theorem ok_337 : ck_check ck_tags ck_pvs0 ck_prot0 ck_LK ck_tab 337 kc_337 3000 = true := by decide +kernel
set_option maxRecDepth 100000 in
theorem ok_338 : ck_check ck_tags ck_pvs0 ck_prot0 ck_LK ck_tab 338 kc_338 3000 = true := by decide +kernel
set_option maxRecDepth 100000 in
theorem ok_339 : ck_check ck_tags ck_pvs0 ck_prot0 ck_LK ck_tab 339 kc_339 3000 = true := by decide +kernel
set_option maxRecDepth 100000 in
theorem ok_340 : ck_check ck_tags ck_pvs0 ck_prot0 ck_LK ck_tab 340 kc_340 3000 = true := by decide +kernel
set_option maxRecDepth 100000 in
theorem ok_342 : ck_check ck_tags ck_pvs0 ck_prot0 ck_LK ck_tab 342 kc_342 3000 = true := by decide +kernel
set_option maxRecDepth 100000 in
theorem ok_343 : ck_check ck_tags ck_pvs0 ck_prot0 ck_LK ck_tab 343 kc_343 3000 = true := by decide +kernel
set_option maxRecDepth 100000 in
theorem ok_344 : ck_check ck_tags ck_pvs0 ck_prot0 ck_LK ck_tab 344 kc_344 3000 = true := by decide +kernel
set_option maxRecDepth 100000 in
theorem ok_347 : ck_check ck_tags ck_pvs0 ck_prot0 ck_LK ck_tab 347 kc_347 3000 = true := by decide +kernel
