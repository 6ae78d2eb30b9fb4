/-! each method checked -/
set_option maxRecDepth 100000 in
theorem ok_330 : ck_check ck_tags ck_pvs0 ck_prot0 ck_LK ck_tab 330 kc_330 3000 = true := by decide +kernel
set_option maxRecDepth 100000 in
theorem ok_331 : ck_check ck_tags ck_pvs0 ck_prot0 ck_LK ck_tab 331 kc_331 3000 = true := by decide +kernel
set_option maxRecDepth 100000 in
theorem ok_332 : ck_check ck_tags ck_pvs0 ck_prot0 ck_LK ck_tab 332 kc_332 3000 = true := by decide +kernel
set_option maxRecDepth 100000 in
theorem ok_333 : ck_check ck_tags ck_pvs0 ck_prot0 ck_LK ck_tab 333 kc_333 3000 = true := by decide +kernel
set_option maxRecDepth 100000 in
theorem ok_334 : ck_check ck_tags ck_pvs0 ck_prot0 ck_LK ck_tab 334 kc_334 3000 = true := by decide +kernel
set_option maxRecDepth 100000 in
theorem ok_335 : ck_check ck_tags ck_pvs0 ck_prot0 ck_LK ck_tab 335 kc_335 3000 = true := by decide +kernel
set_option maxRecDepth 100000 in
theorem ok_336 : ck_check ck_tags ck_pvs0 ck_prot0 ck_LK ck_tab 336 kc_336 3000 = true := by decide +kernel
set_option maxRecDepth 100000 in
theorem ok_337 : ck_check ck_tags ck_pvs0 ck_prot0 ck_LK ck_tab 337 kc_337 3000 = true := by decide +kernel
set_option maxRecDepth 100000 in
theorem ok_340 : ck_check ck_tags ck_pvs0 ck_prot0 ck_LK ck_tab 340 kc_340 3000 = true := by decide +kernel
set_option maxRecDepth 100000 in
theorem ok_341 : ck_check ck_tags ck_pvs0 ck_prot0 ck_LK ck_tab 341 kc_341 3000 = true := by decide +kernel
set_option maxRecDepth 100000 in
theorem ok_342 : ck_check ck_tags ck_pvs0 ck_prot0 ck_LK ck_tab 342 kc_342 3000 = true := by decide +kernel
set_option maxRecDepth 100000 in
theorem ok_345 : ck_check ck_tags ck_pvs0 ck_prot0 ck_LK ck_tab 345 kc_345 3000 = true := by decide +kernel
set_option maxRecDepth 100000 in
theorem ok_346 : ck_check ck_tags ck_pvs0 ck_prot0 ck_LK ck_tab 346 kc_346 3000 = true := by decide +kernel
set_option maxRecDepth 100000 in
theorem ok_347 : ck_check ck_tags ck_pvs0 ck_prot0 ck_LK ck_tab 347 kc_347 3000 = true := by decide +kernel
set_option maxRecDepth 100000 in
theorem ok_348 : ck_check ck_tags ck_pvs0 ck_prot0 ck_LK ck_tab 348 kc_348 3000 = true := by decide +kernel
set_option maxRecDepth 100000 in
theorem ok_349 : ck_check ck_tags ck_pvs0 ck_prot0 ck_LK ck_tab 349 kc_349 3000 = true := by decide +kernel
set_option maxRecDepth 100000 in
theorem ok_352 : ck_check ck_tags ck_pvs0 ck_prot0 ck_LK ck_tab 352 kc_352 3000 = true := by decide +kernel
set_option maxRecDepth 100000 in
theorem ok_355 : ck_check ck_tags ck_pvs0 ck_prot0 ck_LK ck_tab 355 kc_355 3000 = true := by decide +kernel
set_option maxRecDepth 100000 in
theorem ok_358 : ck_check ck_tags ck_pvs0 ck_prot0 ck_LK ck_tab 358 kc_358 3000 = true := by decide +kernel
set_option maxRecDepth 100000 in
theorem ok_359 : ck_check ck_tags ck_pvs0 ck_prot0 ck_LK ck_tab 359 kc_359 3000 = true := by decide +kernel
set_option maxRecDepth 100000 in
theorem ok_362 : ck_check ck_tags ck_pvs0 ck_prot0 ck_LK ck_tab 362 kc_362 3000 = true := by decide +kernel
