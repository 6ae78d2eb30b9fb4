/-! what writes kept rows, checked -/
set_option maxRecDepth 100000 in
theorem okN_2 : ck_check ck_tags ck_pvs0 ck_protN ck_LKN ck_tabN 2 kq_10_append 3000 = true := by decide +kernel
set_option maxRecDepth 100000 in
theorem okN_3 : ck_check ck_tags ck_pvs0 ck_protN ck_LKN ck_tabN 3 kq_12_four 3000 = true := by decide +kernel
set_option maxRecDepth 100000 in
theorem okN_4 : ck_check ck_tags ck_pvs0 ck_protN ck_LKN ck_tabN 4 kq_11_feed 3000 = true := by decide +kernel
set_option maxRecDepth 100000 in
theorem okN_5 : ck_check ck_tags ck_pvs0 ck_protN ck_LKN ck_tabN 5 kq_12_feed 3000 = true := by decide +kernel
set_option maxRecDepth 100000 in
theorem okP_8 : ck_check ck_tags ck_pvs0 ck_protP ck_LKP ck_tabP 8 kq_6_copyFrom_pt 3000 = true := by decide +kernel
set_option maxRecDepth 100000 in
theorem okP_9 : ck_check ck_tags ck_pvs0 ck_protP ck_LKP ck_tabP 9 kq_6_copyFrom_pi 3000 = true := by decide +kernel
set_option maxRecDepth 100000 in
theorem okP_10 : ck_check ck_tags ck_pvs0 ck_protP ck_LKP ck_tabP 10 kq_6_copyFrom_pj 3000 = true := by decide +kernel
set_option maxRecDepth 100000 in
theorem okP_11 : ck_check ck_tags ck_pvs0 ck_protP ck_LKP ck_tabP 11 kq_11_play 3000 = true := by decide +kernel
set_option maxRecDepth 100000 in
theorem okP_12 : ck_check ck_tags ck_pvs0 ck_protP ck_LKP ck_tabP 12 kq_11_restore_0 3000 = true := by decide +kernel
set_option maxRecDepth 100000 in
theorem okP_13 : ck_check ck_tags ck_pvs0 ck_protP ck_LKP ck_tabP 13 kq_11_restore_1 3000 = true := by decide +kernel
set_option maxRecDepth 100000 in
theorem okI_2 : ck_check ck_tags ck_pvs0 ck_protI ck_LKI ck_tabI 2 kq_6_copyFrom_ip 3000 = true := by decide +kernel
set_option maxRecDepth 100000 in
theorem okI_3 : ck_check ck_tags ck_pvs0 ck_protI ck_LKI ck_tabI 3 kq_11_image_0 3000 = true := by decide +kernel
set_option maxRecDepth 100000 in
theorem okJ_2 : ck_check ck_tags ck_pvs0 ck_protJ ck_LKJ ck_tabJ 2 kq_6_copyFrom_jp 3000 = true := by decide +kernel
set_option maxRecDepth 100000 in
theorem okJ_3 : ck_check ck_tags ck_pvs0 ck_protJ ck_LKJ ck_tabJ 3 kq_11_image_1 3000 = true := by decide +kernel
