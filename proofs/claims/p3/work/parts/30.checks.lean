/-! each method checked -/
set_option maxRecDepth 100000 in
theorem ok_0 : ck_check ck_tags ck_pvs0 ck_prot0 ck_LK ck_tab 0 kc_0 3000 = true := by decide +kernel
set_option maxRecDepth 100000 in
theorem ok_1 : ck_check ck_tags ck_pvs0 ck_prot0 ck_LK ck_tab 1 kc_1 3000 = true := by decide +kernel
set_option maxRecDepth 100000 in
theorem ok_2 : ck_check ck_tags ck_pvs0 ck_prot0 ck_LK ck_tab 2 kc_2 3000 = true := by decide +kernel
set_option maxRecDepth 100000 in
theorem ok_3 : ck_check ck_tags ck_pvs0 ck_prot0 ck_LK ck_tab 3 kc_3 3000 = true := by decide +kernel
set_option maxRecDepth 100000 in
theorem ok_4 : ck_check ck_tags ck_pvs0 ck_prot0 ck_LK ck_tab 4 kc_4 3000 = true := by decide +kernel
set_option maxRecDepth 100000 in
theorem ok_5 : ck_check ck_tags ck_pvs0 ck_prot0 ck_LK ck_tab 5 kc_5 3000 = true := by decide +kernel
set_option maxRecDepth 100000 in
theorem ok_6 : ck_check ck_tags ck_pvs0 ck_prot0 ck_LK ck_tab 6 kc_6 3000 = true := by decide +kernel
set_option maxRecDepth 100000 in
theorem ok_7 : ck_check ck_tags ck_pvs0 ck_prot0 ck_LK ck_tab 7 kc_7 3000 = true := by decide +kernel
set_option maxRecDepth 100000 in
theorem ok_8 : ck_check ck_tags ck_pvs0 ck_prot0 ck_LK ck_tab 8 kc_8 3000 = true := by decide +kernel
set_option maxRecDepth 100000 in
theorem ok_9 : ck_check ck_tags ck_pvs0 ck_prot0 ck_LK ck_tab 9 kc_9 3000 = true := by decide +kernel
set_option maxRecDepth 100000 in
theorem ok_10 : ck_check ck_tags ck_pvs0 ck_prot0 ck_LK ck_tab 10 kc_10 3000 = true := by decide +kernel
set_option maxRecDepth 100000 in
theorem ok_11 : ck_check ck_tags ck_pvs0 ck_prot0 ck_LK ck_tab 11 kc_11 3000 = true := by decide +kernel
