/-! append, four and both feeds, checked -/
set_option maxRecDepth 100000 in
theorem okN_2 : ck_check ck_tags ck_pvs0 ck_protN ck_LKN ck_tabN 2 kn_append 3000 = true := by decide +kernel
set_option maxRecDepth 100000 in
theorem okN_3 : ck_check ck_tags ck_pvs0 ck_protN ck_LKN ck_tabN 3 kn_four 3000 = true := by decide +kernel
set_option maxRecDepth 100000 in
theorem okN_4 : ck_check ck_tags ck_pvs0 ck_protN ck_LKN ck_tabN 4 kn_feed11 3000 = true := by decide +kernel
set_option maxRecDepth 100000 in
theorem okN_5 : ck_check ck_tags ck_pvs0 ck_protN ck_LKN ck_tabN 5 kn_feed12 3000 = true := by decide +kernel
