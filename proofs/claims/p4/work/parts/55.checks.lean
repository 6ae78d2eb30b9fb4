/-! each method checked -/
set_option maxRecDepth 100000 in
theorem ok_330 : ck_check ck_tags ck_pvs0 ck_prot0 ck_LK ck_tab 330 kc_330 3000 = true := by decide +kernel
set_option maxRecDepth 100000 in
theorem ok_331 : ck_check ck_tags ck_pvs0 ck_prot0 ck_LK ck_tab 331 kc_331 3000 = true := by decide +kernel
set_option maxRecDepth 100000 in
theorem ok_332 : ck_check ck_tags ck_pvs0 ck_prot0 ck_LK ck_tab 332 kc_332 3000 = true := by decide +kernel
set_option maxRecDepth 100000 in
theorem ok_333 : ck_check ck_tags ck_pvs0 ck_prot0 ck_LK ck_tab 333 kc_333 3000 = true := by decide +kernel
set_option maxRecDepth 100000 in
theorem ok_334 : ck_check ck_tags ck_pvs0 ck_prot0 ck_LK ck_tab 334 kc_334 3000 = true := by decide +kernel
set_option maxRecDepth 100000 in
theorem ok_335 : ck_check ck_tags ck_pvs0 ck_prot0 ck_LK ck_tab 335 kc_335 3000 = true := by decide +kernel
set_option maxRecDepth 100000 in
theorem ok_336 : ck_check ck_tags ck_pvs0 ck_prot0 ck_LK ck_tab 336 kc_336 3000 = true := by decide +kernel
set_option maxRecDepth 100000 in
theorem ok_337 : ck_check ck_tags ck_pvs0 ck_prot0 ck_LK ck_tab 337 kc_337 3000 = true := by decide +kernel
set_option maxRecDepth 100000 in
theorem ok_338 : ck_check ck_tags ck_pvs0 ck_prot0 ck_LK ck_tab 338 kc_338 3000 = true := by decide +kernel
set_option maxRecDepth 100000 in
theorem ok_339 : ck_check ck_tags ck_pvs0 ck_prot0 ck_LK ck_tab 339 kc_339 3000 = true := by decide +kernel
set_option maxRecDepth 100000 in
theorem ok_340 : ck_check ck_tags ck_pvs0 ck_prot0 ck_LK ck_tab 340 kc_340 3000 = true := by decide +kernel
set_option maxRecDepth 100000 in
theorem ok_341 : ck_check ck_tags ck_pvs0 ck_prot0 ck_LK ck_tab 341 kc_341 3000 = true := by decide +kernel
set_option maxRecDepth 100000 in
theorem ok_344 : ck_check ck_tags ck_pvs0 ck_prot0 ck_LK ck_tab 344 kc_344 3000 = true := by decide +kernel
set_option maxRecDepth 100000 in
theorem ok_345 : ck_check ck_tags ck_pvs0 ck_prot0 ck_LK ck_tab 345 kc_345 3000 = true := by decide +kernel
set_option maxRecDepth 100000 in
theorem ok_346 : ck_check ck_tags ck_pvs0 ck_prot0 ck_LK ck_tab 346 kc_346 3000 = true := by decide +kernel
set_option maxRecDepth 100000 in
theorem ok_349 : ck_check ck_tags ck_pvs0 ck_prot0 ck_LK ck_tab 349 kc_349 3000 = true := by decide +kernel
set_option maxRecDepth 100000 in
theorem ok_350 : ck_check ck_tags ck_pvs0 ck_prot0 ck_LK ck_tab 350 kc_350 3000 = true := by decide +kernel
set_option maxRecDepth 100000 in
theorem ok_351 : ck_check ck_tags ck_pvs0 ck_prot0 ck_LK ck_tab 351 kc_351 3000 = true := by decide +kernel
set_option maxRecDepth 100000 in
theorem ok_352 : ck_check ck_tags ck_pvs0 ck_prot0 ck_LK ck_tab 352 kc_352 3000 = true := by decide +kernel
set_option maxRecDepth 100000 in
theorem ok_353 : ck_check ck_tags ck_pvs0 ck_prot0 ck_LK ck_tab 353 kc_353 3000 = true := by decide +kernel
set_option maxRecDepth 100000 in
theorem ok_356 : ck_check ck_tags ck_pvs0 ck_prot0 ck_LK ck_tab 356 kc_356 3000 = true := by decide +kernel
set_option maxRecDepth 100000 in
theorem ok_359 : ck_check ck_tags ck_pvs0 ck_prot0 ck_LK ck_tab 359 kc_359 3000 = true := by decide +kernel
set_option maxRecDepth 100000 in
theorem ok_362 : ck_check ck_tags ck_pvs0 ck_prot0 ck_LK ck_tab 362 kc_362 3000 = true := by decide +kernel
set_option maxRecDepth 100000 in
theorem ok_363 : ck_check ck_tags ck_pvs0 ck_prot0 ck_LK ck_tab 363 kc_363 3000 = true := by decide +kernel
set_option maxRecDepth 100000 in
theorem ok_366 : ck_check ck_tags ck_pvs0 ck_prot0 ck_LK ck_tab 366 kc_366 3000 = true := by decide +kernel
