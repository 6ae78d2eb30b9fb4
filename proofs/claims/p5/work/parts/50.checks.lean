/-! each method checked -/
set_option maxRecDepth 100000 in
theorem ok_0 : ck_check ck_tags ck_pvs0 ck_protA ck_LK ck_tab 0 kc_0 3000 = true := by decide +kernel
set_option maxRecDepth 100000 in
theorem ok_1 : ck_check ck_tags ck_pvs0 ck_protA ck_LK ck_tab 1 kc_1 3000 = true := by decide +kernel
set_option maxRecDepth 100000 in
theorem ok_2 : ck_check ck_tags ck_pvs0 ck_protA ck_LK ck_tab 2 kc_2 3000 = true := by decide +kernel
set_option maxRecDepth 100000 in
theorem ok_3 : ck_check ck_tags ck_pvs0 ck_protA ck_LK ck_tab 3 kc_3 3000 = true := by decide +kernel
set_option maxRecDepth 100000 in
theorem ok_4 : ck_check ck_tags ck_pvs0 ck_protA ck_LK ck_tab 4 kc_4 3000 = true := by decide +kernel
set_option maxRecDepth 100000 in
theorem ok_5 : ck_check ck_tags ck_pvs0 ck_protA ck_LK ck_tab 5 kc_5 3000 = true := by decide +kernel
set_option maxRecDepth 100000 in
theorem ok_6 : ck_check ck_tags ck_pvs0 ck_protA ck_LK ck_tab 6 kc_6 3000 = true := by decide +kernel
set_option maxRecDepth 100000 in
theorem ok_7 : ck_check ck_tags ck_pvs0 ck_protA ck_LK ck_tab 7 kc_7 3000 = true := by decide +kernel
set_option maxRecDepth 100000 in
theorem ok_8 : ck_check ck_tags ck_pvs0 ck_protA ck_LK ck_tab 8 kc_8 3000 = true := by decide +kernel
set_option maxRecDepth 100000 in
theorem ok_9 : ck_check ck_tags ck_pvs0 ck_protA ck_LK ck_tab 9 kc_9 3000 = true := by decide +kernel
set_option maxRecDepth 100000 in
theorem ok_10 : ck_check ck_tags ck_pvs0 ck_protA ck_LK ck_tab 10 kc_10 3000 = true := by decide +kernel
set_option maxRecDepth 100000 in
theorem ok_11 : ck_check ck_tags ck_pvs0 ck_protA ck_LK ck_tab 11 kc_11 3000 = true := by decide +kernel
set_option maxRecDepth 100000 in
theorem ok_12 : ck_check ck_tags ck_pvs0 ck_protA ck_LK ck_tab 12 kc_12 3000 = true := by decide +kernel
set_option maxRecDepth 100000 in
theorem ok_13 : ck_check ck_tags ck_pvs0 ck_protA ck_LK ck_tab 13 kc_13 3000 = true := by decide +kernel
set_option maxRecDepth 100000 in
theorem ok_14 : ck_check ck_tags ck_pvs0 ck_protA ck_LK ck_tab 14 kc_14 3000 = true := by decide +kernel
set_option maxRecDepth 100000 in
theorem ok_15 : ck_check ck_tags ck_pvs0 ck_protA ck_LK ck_tab 15 kc_15 3000 = true := by decide +kernel
set_option maxRecDepth 100000 in
theorem ok_16 : ck_check ck_tags ck_pvs0 ck_protA ck_LK ck_tab 16 kc_16 3000 = true := by decide +kernel
set_option maxRecDepth 100000 in
theorem ok_17 : ck_check ck_tags ck_pvs0 ck_protA ck_LK ck_tab 17 kc_17 3000 = true := by decide +kernel
set_option maxRecDepth 100000 in
theorem ok_18 : ck_check ck_tags ck_pvs0 ck_protA ck_LK ck_tab 18 kc_18 3000 = true := by decide +kernel
set_option maxRecDepth 100000 in
theorem ok_19 : ck_check ck_tags ck_pvs0 ck_protA ck_LK ck_tab 19 kc_19 3000 = true := by decide +kernel
set_option maxRecDepth 100000 in
theorem ok_20 : ck_check ck_tags ck_pvs0 ck_protA ck_LK ck_tab 20 kc_20 3000 = true := by decide +kernel
set_option maxRecDepth 100000 in
theorem ok_21 : ck_check ck_tags ck_pvs0 ck_protA ck_LK ck_tab 21 kc_21 3000 = true := by decide +kernel
set_option maxRecDepth 100000 in
theorem ok_22 : ck_check ck_tags ck_pvs0 ck_protA ck_LK ck_tab 22 kc_22 3000 = true := by decide +kernel
set_option maxRecDepth 100000 in
theorem ok_23 : ck_check ck_tags ck_pvs0 ck_protA ck_LK ck_tab 23 kc_23 3000 = true := by decide +kernel
set_option maxRecDepth 100000 in
theorem ok_24 : ck_check ck_tags ck_pvs0 ck_protA ck_LK ck_tab 24 kc_24 3000 = true := by decide +kernel
set_option maxRecDepth 100000 in
theorem ok_25 : ck_check ck_tags ck_pvs0 ck_protA ck_LK ck_tab 25 kc_25 3000 = true := by decide +kernel
set_option maxRecDepth 100000 in
theorem ok_26 : ck_check ck_tags ck_pvs0 ck_protA ck_LK ck_tab 26 kc_26 3000 = true := by decide +kernel
set_option maxRecDepth 100000 in
theorem ok_27 : ck_check ck_tags ck_pvs0 ck_protA ck_LK ck_tab 27 kc_27 3000 = true := by decide +kernel
set_option maxRecDepth 100000 in
theorem ok_28 : ck_check ck_tags ck_pvs0 ck_protA ck_LK ck_tab 28 kc_28 3000 = true := by decide +kernel
set_option maxRecDepth 100000 in
theorem ok_30 : ck_check ck_tags ck_pvs0 ck_protA ck_LK ck_tab 30 kc_30 3000 = true := by decide +kernel
set_option maxRecDepth 100000 in
theorem ok_31 : ck_check ck_tags ck_pvs0 ck_protA ck_LK ck_tab 31 kc_31 3000 = true := by decide +kernel
set_option maxRecDepth 100000 in
theorem ok_33 : ck_check ck_tags ck_pvs0 ck_protA ck_LK ck_tab 33 kc_33 3000 = true := by decide +kernel
set_option maxRecDepth 100000 in
theorem ok_34 : ck_check ck_tags ck_pvs0 ck_protA ck_LK ck_tab 34 kc_34 3000 = true := by decide +kernel
set_option maxRecDepth 100000 in
theorem ok_35 : ck_check ck_tags ck_pvs0 ck_protA ck_LK ck_tab 35 kc_35 3000 = true := by decide +kernel
set_option maxRecDepth 100000 in
theorem ok_36 : ck_check ck_tags ck_pvs0 ck_protA ck_LK ck_tab 36 kc_36 3000 = true := by decide +kernel
set_option maxRecDepth 100000 in
theorem ok_37 : ck_check ck_tags ck_pvs0 ck_protA ck_LK ck_tab 37 kc_37 3000 = true := by decide +kernel
set_option maxRecDepth 100000 in
theorem ok_38 : ck_check ck_tags ck_pvs0 ck_protA ck_LK ck_tab 38 kc_38 3000 = true := by decide +kernel
set_option maxRecDepth 100000 in
theorem ok_39 : ck_check ck_tags ck_pvs0 ck_protA ck_LK ck_tab 39 kc_39 3000 = true := by decide +kernel
set_option maxRecDepth 100000 in
theorem ok_40 : ck_check ck_tags ck_pvs0 ck_protA ck_LK ck_tab 40 kc_40 3000 = true := by decide +kernel
set_option maxRecDepth 100000 in
theorem ok_41 : ck_check ck_tags ck_pvs0 ck_protA ck_LK ck_tab 41 kc_41 3000 = true := by decide +kernel
set_option maxRecDepth 100000 in
theorem ok_42 : ck_check ck_tags ck_pvs0 ck_protA ck_LK ck_tab 42 kc_42 3000 = true := by decide +kernel
set_option maxRecDepth 100000 in
theorem ok_43 : ck_check ck_tags ck_pvs0 ck_protA ck_LK ck_tab 43 kc_43 3000 = true := by decide +kernel
set_option maxRecDepth 100000 in
theorem ok_44 : ck_check ck_tags ck_pvs0 ck_protA ck_LK ck_tab 44 kc_44 3000 = true := by decide +kernel
set_option maxRecDepth 100000 in
theorem ok_45 : ck_check ck_tags ck_pvs0 ck_protA ck_LK ck_tab 45 kc_45 3000 = true := by decide +kernel
set_option maxRecDepth 100000 in
theorem ok_46 : ck_check ck_tags ck_pvs0 ck_protA ck_LK ck_tab 46 kc_46 3000 = true := by decide +kernel
set_option maxRecDepth 100000 in
theorem ok_47 : ck_check ck_tags ck_pvs0 ck_protA ck_LK ck_tab 47 kc_47 3000 = true := by decide +kernel
set_option maxRecDepth 100000 in
theorem ok_48 : ck_check ck_tags ck_pvs0 ck_protA ck_LK ck_tab 48 kc_48 3000 = true := by decide +kernel
set_option maxRecDepth 100000 in
theorem ok_49 : ck_check ck_tags ck_pvs0 ck_protA ck_LK ck_tab 49 kc_49 3000 = true := by decide +kernel
set_option maxRecDepth 100000 in
theorem ok_50 : ck_check ck_tags ck_pvs0 ck_protA ck_LK ck_tab 50 kc_50 3000 = true := by decide +kernel
set_option maxRecDepth 100000 in
theorem ok_51 : ck_check ck_tags ck_pvs0 ck_protA ck_LK ck_tab 51 kc_51 3000 = true := by decide +kernel
set_option maxRecDepth 100000 in
theorem ok_52 : ck_check ck_tags ck_pvs0 ck_protA ck_LK ck_tab 52 kc_52 3000 = true := by decide +kernel
set_option maxRecDepth 100000 in
theorem ok_53 : ck_check ck_tags ck_pvs0 ck_protA ck_LK ck_tab 53 kc_53 3000 = true := by decide +kernel
set_option maxRecDepth 100000 in
theorem ok_54 : ck_check ck_tags ck_pvs0 ck_protA ck_LK ck_tab 54 kc_54 3000 = true := by decide +kernel
set_option maxRecDepth 100000 in
theorem ok_55 : ck_check ck_tags ck_pvs0 ck_protA ck_LK ck_tab 55 kc_55 3000 = true := by decide +kernel
set_option maxRecDepth 100000 in
theorem ok_56 : ck_check ck_tags ck_pvs0 ck_protA ck_LK ck_tab 56 kc_56 3000 = true := by decide +kernel
set_option maxRecDepth 100000 in
theorem ok_57 : ck_check ck_tags ck_pvs0 ck_protA ck_LK ck_tab 57 kc_57 3000 = true := by decide +kernel
set_option maxRecDepth 100000 in
theorem ok_58 : ck_check ck_tags ck_pvs0 ck_protA ck_LK ck_tab 58 kc_58 3000 = true := by decide +kernel
set_option maxRecDepth 100000 in
theorem ok_59 : ck_check ck_tags ck_pvs0 ck_protA ck_LK ck_tab 59 kc_59 3000 = true := by decide +kernel
set_option maxRecDepth 100000 in
theorem ok_60 : ck_check ck_tags ck_pvs0 ck_protA ck_LK ck_tab 60 kc_60 3000 = true := by decide +kernel
set_option maxRecDepth 100000 in
theorem ok_61 : ck_check ck_tags ck_pvs0 ck_protA ck_LK ck_tab 61 kc_61 3000 = true := by decide +kernel
set_option maxRecDepth 100000 in
theorem ok_62 : ck_check ck_tags ck_pvs0 ck_protA ck_LK ck_tab 62 kc_62 3000 = true := by decide +kernel
set_option maxRecDepth 100000 in
theorem ok_63 : ck_check ck_tags ck_pvs0 ck_protA ck_LK ck_tab 63 kc_63 3000 = true := by decide +kernel
set_option maxRecDepth 100000 in
theorem ok_64 : ck_check ck_tags ck_pvs0 ck_protA ck_LK ck_tab 64 kc_64 3000 = true := by decide +kernel
set_option maxRecDepth 100000 in
theorem ok_65 : ck_check ck_tags ck_pvs0 ck_protA ck_LK ck_tab 65 kc_65 3000 = true := by decide +kernel
