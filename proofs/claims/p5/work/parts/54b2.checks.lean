/-! a long method checked in pieces, 3 -/
set_option maxRecDepth 100000 in
theorem ok_315_8 : ((((((((((k_an kc_315).drop 5).drop 5).drop 5).drop 5).drop 5).drop 5).drop 5).drop 5).take 5).all (ck_one ck_tags ck_pvs0 ck_prot0 ck_LK ck_tab 315 kc_315 3000) = true := by decide +kernel
set_option maxRecDepth 100000 in
theorem ok_315_9 : (((((((((((k_an kc_315).drop 5).drop 5).drop 5).drop 5).drop 5).drop 5).drop 5).drop 5).drop 5).take 5).all (ck_one ck_tags ck_pvs0 ck_prot0 ck_LK ck_tab 315 kc_315 3000) = true := by decide +kernel
set_option maxRecDepth 100000 in
theorem ok_315_10 : ((((((((((((k_an kc_315).drop 5).drop 5).drop 5).drop 5).drop 5).drop 5).drop 5).drop 5).drop 5).drop 5).take 5).all (ck_one ck_tags ck_pvs0 ck_prot0 ck_LK ck_tab 315 kc_315 3000) = true := by decide +kernel
set_option maxRecDepth 100000 in
theorem ok_315_11 : (((((((((((((k_an kc_315).drop 5).drop 5).drop 5).drop 5).drop 5).drop 5).drop 5).drop 5).drop 5).drop 5).drop 5).take 5).all (ck_one ck_tags ck_pvs0 ck_prot0 ck_LK ck_tab 315 kc_315 3000) = true := by decide +kernel
set_option maxRecDepth 100000 in
theorem ok_315_e : (((((((((((((k_an kc_315).drop 5).drop 5).drop 5).drop 5).drop 5).drop 5).drop 5).drop 5).drop 5).drop 5).drop 5).drop 5).all (ck_one ck_tags ck_pvs0 ck_prot0 ck_LK ck_tab 315 kc_315 3000) = true := by decide +kernel
theorem ok_315 : ck_check ck_tags ck_pvs0 ck_prot0 ck_LK ck_tab 315 kc_315 3000 = true := by
  unfold ck_check
  rw [Bool.and_eq_true]
  exact ⟨ok_315_h, ck_allD 5 ok_315_0 (ck_allD 5 ok_315_1 (ck_allD 5 ok_315_2 (ck_allD 5 ok_315_3 (ck_allD 5 ok_315_4 (ck_allD 5 ok_315_5 (ck_allD 5 ok_315_6 (ck_allD 5 ok_315_7 (ck_allD 5 ok_315_8 (ck_allD 5 ok_315_9 (ck_allD 5 ok_315_10 (ck_allD 5 ok_315_11 (ok_315_e))))))))))))⟩
