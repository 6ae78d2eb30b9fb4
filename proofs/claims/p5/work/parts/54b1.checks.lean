/-! a long method checked in pieces, 2 -/
set_option maxRecDepth 100000 in
theorem ok_315_4 : ((((((k_an kc_315).drop 5).drop 5).drop 5).drop 5).take 5).all (ck_one ck_tags ck_pvs0 ck_prot0 ck_LK ck_tab 315 kc_315 3000) = true := by decide +kernel
set_option maxRecDepth 100000 in
theorem ok_315_5 : (((((((k_an kc_315).drop 5).drop 5).drop 5).drop 5).drop 5).take 5).all (ck_one ck_tags ck_pvs0 ck_prot0 ck_LK ck_tab 315 kc_315 3000) = true := by decide +kernel
set_option maxRecDepth 100000 in
theorem ok_315_6 : ((((((((k_an kc_315).drop 5).drop 5).drop 5).drop 5).drop 5).drop 5).take 5).all (ck_one ck_tags ck_pvs0 ck_prot0 ck_LK ck_tab 315 kc_315 3000) = true := by decide +kernel
set_option maxRecDepth 100000 in
theorem ok_315_7 : (((((((((k_an kc_315).drop 5).drop 5).drop 5).drop 5).drop 5).drop 5).drop 5).take 5).all (ck_one ck_tags ck_pvs0 ck_prot0 ck_LK ck_tab 315 kc_315 3000) = true := by decide +kernel
