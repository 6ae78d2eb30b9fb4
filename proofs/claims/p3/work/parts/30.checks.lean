/-! each method checked -/
set_option maxRecDepth 100000 in
theorem ok_0 : ck_check ck_tags ck_pvs0 ck_prot0 ck_LK ck_tab 0 kc_0 3000 = true := by decide +kernel
set_option maxRecDepth 100000 in
theorem ok_1 : ck_check ck_tags ck_pvs0 ck_prot0 ck_LK ck_tab 1 kc_1 3000 = true := by decide +kernel
set_option maxRecDepth 100000 in
theorem ok_2 : ck_check ck_tags ck_pvs0 ck_prot0 ck_LK ck_tab 2 kc_2 3000 = true := by decide +kernel
set_option maxRecDepth 100000 in
theorem ok_3 : ck_check ck_tags ck_pvs0 ck_prot0 ck_LK ck_tab 3 kc_3 3000 = true := by decide +kernel
set_option maxRecDepth 100000 in
theorem ok_4 : ck_check ck_tags ck_pvs0 ck_prot0 ck_LK ck_tab 4 kc_4 3000 = true := by decide +kernel
set_option maxRecDepth 100000 in
theorem ok_5 : ck_check ck_tags ck_pvs0 ck_prot0 ck_LK ck_tab 5 kc_5 3000 = true := by decide +kernel
set_option maxRecDepth 100000 in
theorem ok_6 : ck_check ck_tags ck_pvs0 ck_prot0 ck_LK ck_tab 6 kc_6 3000 = true := by decide +kernel
set_option maxRecDepth 100000 in
theorem ok_7 : ck_check ck_tags ck_pvs0 ck_prot0 ck_LK ck_tab 7 kc_7 3000 = true := by decide +kernel
set_option maxRecDepth 100000 in
theorem ok_8 : ck_check ck_tags ck_pvs0 ck_prot0 ck_LK ck_tab 8 kc_8 3000 = true := by decide +kernel
set_option maxRecDepth 100000 in
theorem ok_9 : ck_check ck_tags ck_pvs0 ck_prot0 ck_LK ck_tab 9 kc_9 3000 = true := by decide +kernel
set_option maxRecDepth 100000 in
theorem ok_10 : ck_check ck_tags ck_pvs0 ck_prot0 ck_LK ck_tab 10 kc_10 3000 = true := by decide +kernel
set_option maxRecDepth 100000 in
theorem ok_11 : ck_check ck_tags ck_pvs0 ck_prot0 ck_LK ck_tab 11 kc_11 3000 = true := by decide +kernel
set_option maxRecDepth 100000 in
theorem ok_12 : ck_check ck_tags ck_pvs0 ck_prot0 ck_LK ck_tab 12 kc_12 3000 = true := by decide +kernel
set_option maxRecDepth 100000 in
theorem ok_13 : ck_check ck_tags ck_pvs0 ck_prot0 ck_LK ck_tab 13 kc_13 3000 = true := by decide +kernel
set_option maxRecDepth 100000 in
theorem ok_14 : ck_check ck_tags ck_pvs0 ck_prot0 ck_LK ck_tab 14 kc_14 3000 = true := by decide +kernel
set_option maxRecDepth 100000 in
theorem ok_15 : ck_check ck_tags ck_pvs0 ck_prot0 ck_LK ck_tab 15 kc_15 3000 = true := by decide +kernel
set_option maxRecDepth 100000 in
theorem ok_16 : ck_check ck_tags ck_pvs0 ck_prot0 ck_LK ck_tab 16 kc_16 3000 = true := by decide +kernel
set_option maxRecDepth 100000 in
theorem ok_17 : ck_check ck_tags ck_pvs0 ck_prot0 ck_LK ck_tab 17 kc_17 3000 = true := by decide +kernel
set_option maxRecDepth 100000 in
theorem ok_18 : ck_check ck_tags ck_pvs0 ck_prot0 ck_LK ck_tab 18 kc_18 3000 = true := by decide +kernel
set_option maxRecDepth 100000 in
theorem ok_19 : ck_check ck_tags ck_pvs0 ck_prot0 ck_LK ck_tab 19 kc_19 3000 = true := by decide +kernel
set_option maxRecDepth 100000 in
theorem ok_20 : ck_check ck_tags ck_pvs0 ck_prot0 ck_LK ck_tab 20 kc_20 3000 = true := by decide +kernel
set_option maxRecDepth 100000 in
theorem ok_21 : ck_check ck_tags ck_pvs0 ck_prot0 ck_LK ck_tab 21 kc_21 3000 = true := by decide +kernel
set_option maxRecDepth 100000 in
theorem ok_22 : ck_check ck_tags ck_pvs0 ck_prot0 ck_LK ck_tab 22 kc_22 3000 = true := by decide +kernel
set_option maxRecDepth 100000 in
theorem ok_23 : ck_check ck_tags ck_pvs0 ck_prot0 ck_LK ck_tab 23 kc_23 3000 = true := by decide +kernel
set_option maxRecDepth 100000 in
theorem ok_24 : ck_check ck_tags ck_pvs0 ck_prot0 ck_LK ck_tab 24 kc_24 3000 = true := by decide +kernel
set_option maxRecDepth 100000 in
theorem ok_25 : ck_check ck_tags ck_pvs0 ck_prot0 ck_LK ck_tab 25 kc_25 3000 = true := by decide +kernel
set_option maxRecDepth 100000 in
theorem ok_26 : ck_check ck_tags ck_pvs0 ck_prot0 ck_LK ck_tab 26 kc_26 3000 = true := by decide +kernel
set_option maxRecDepth 100000 in
theorem ok_27 : ck_check ck_tags ck_pvs0 ck_prot0 ck_LK ck_tab 27 kc_27 3000 = true := by decide +kernel
set_option maxRecDepth 100000 in
theorem ok_28 : ck_check ck_tags ck_pvs0 ck_prot0 ck_LK ck_tab 28 kc_28 3000 = true := by decide +kernel
set_option maxRecDepth 100000 in
theorem ok_29 : ck_check ck_tags ck_pvs0 ck_prot0 ck_LK ck_tab 29 kc_29 3000 = true := by decide +kernel
set_option maxRecDepth 100000 in
theorem ok_30 : ck_check ck_tags ck_pvs0 ck_prot0 ck_LK ck_tab 30 kc_30 3000 = true := by decide +kernel
set_option maxRecDepth 100000 in
theorem ok_31 : ck_check ck_tags ck_pvs0 ck_prot0 ck_LK ck_tab 31 kc_31 3000 = true := by decide +kernel
set_option maxRecDepth 100000 in
theorem ok_32 : ck_check ck_tags ck_pvs0 ck_prot0 ck_LK ck_tab 32 kc_32 3000 = true := by decide +kernel
set_option maxRecDepth 100000 in
theorem ok_33 : ck_check ck_tags ck_pvs0 ck_prot0 ck_LK ck_tab 33 kc_33 3000 = true := by decide +kernel
set_option maxRecDepth 100000 in
theorem ok_34 : ck_check ck_tags ck_pvs0 ck_prot0 ck_LK ck_tab 34 kc_34 3000 = true := by decide +kernel
set_option maxRecDepth 100000 in
theorem ok_35 : ck_check ck_tags ck_pvs0 ck_prot0 ck_LK ck_tab 35 kc_35 3000 = true := by decide +kernel
set_option maxRecDepth 100000 in
theorem ok_37 : ck_check ck_tags ck_pvs0 ck_prot0 ck_LK ck_tab 37 kc_37 3000 = true := by decide +kernel
set_option maxRecDepth 100000 in
theorem ok_38 : ck_check ck_tags ck_pvs0 ck_prot0 ck_LK ck_tab 38 kc_38 3000 = true := by decide +kernel
set_option maxRecDepth 100000 in
theorem ok_40 : ck_check ck_tags ck_pvs0 ck_prot0 ck_LK ck_tab 40 kc_40 3000 = true := by decide +kernel
set_option maxRecDepth 100000 in
theorem ok_41 : ck_check ck_tags ck_pvs0 ck_prot0 ck_LK ck_tab 41 kc_41 3000 = true := by decide +kernel
set_option maxRecDepth 100000 in
theorem ok_43 : ck_check ck_tags ck_pvs0 ck_prot0 ck_LK ck_tab 43 kc_43 3000 = true := by decide +kernel
set_option maxRecDepth 100000 in
theorem ok_45 : ck_check ck_tags ck_pvs0 ck_prot0 ck_LK ck_tab 45 kc_45 3000 = true := by decide +kernel
set_option maxRecDepth 100000 in
theorem ok_46 : ck_check ck_tags ck_pvs0 ck_prot0 ck_LK ck_tab 46 kc_46 3000 = true := by decide +kernel
set_option maxRecDepth 100000 in
theorem ok_47 : ck_check ck_tags ck_pvs0 ck_prot0 ck_LK ck_tab 47 kc_47 3000 = true := by decide +kernel
set_option maxRecDepth 100000 in
theorem ok_48 : ck_check ck_tags ck_pvs0 ck_prot0 ck_LK ck_tab 48 kc_48 3000 = true := by decide +kernel
set_option maxRecDepth 100000 in
theorem ok_49 : ck_check ck_tags ck_pvs0 ck_prot0 ck_LK ck_tab 49 kc_49 3000 = true := by decide +kernel
set_option maxRecDepth 100000 in
theorem ok_50 : ck_check ck_tags ck_pvs0 ck_prot0 ck_LK ck_tab 50 kc_50 3000 = true := by decide +kernel
set_option maxRecDepth 100000 in
theorem ok_51 : ck_check ck_tags ck_pvs0 ck_prot0 ck_LK ck_tab 51 kc_51 3000 = true := by decide +kernel
set_option maxRecDepth 100000 in
theorem ok_52 : ck_check ck_tags ck_pvs0 ck_prot0 ck_LK ck_tab 52 kc_52 3000 = true := by decide +kernel
set_option maxRecDepth 100000 in
theorem ok_53 : ck_check ck_tags ck_pvs0 ck_prot0 ck_LK ck_tab 53 kc_53 3000 = true := by decide +kernel
set_option maxRecDepth 100000 in
theorem ok_54 : ck_check ck_tags ck_pvs0 ck_prot0 ck_LK ck_tab 54 kc_54 3000 = true := by decide +kernel
set_option maxRecDepth 100000 in
theorem ok_55 : ck_check ck_tags ck_pvs0 ck_prot0 ck_LK ck_tab 55 kc_55 3000 = true := by decide +kernel
set_option maxRecDepth 100000 in
theorem ok_56 : ck_check ck_tags ck_pvs0 ck_prot0 ck_LK ck_tab 56 kc_56 3000 = true := by decide +kernel
set_option maxRecDepth 100000 in
theorem ok_57 : ck_check ck_tags ck_pvs0 ck_prot0 ck_LK ck_tab 57 kc_57 3000 = true := by decide +kernel
set_option maxRecDepth 100000 in
theorem ok_58 : ck_check ck_tags ck_pvs0 ck_prot0 ck_LK ck_tab 58 kc_58 3000 = true := by decide +kernel
set_option maxRecDepth 100000 in
theorem ok_59 : ck_check ck_tags ck_pvs0 ck_prot0 ck_LK ck_tab 59 kc_59 3000 = true := by decide +kernel
set_option maxRecDepth 100000 in
theorem ok_60 : ck_check ck_tags ck_pvs0 ck_prot0 ck_LK ck_tab 60 kc_60 3000 = true := by decide +kernel
set_option maxRecDepth 100000 in
theorem ok_61 : ck_check ck_tags ck_pvs0 ck_prot0 ck_LK ck_tab 61 kc_61 3000 = true := by decide +kernel
set_option maxRecDepth 100000 in
theorem ok_62 : ck_check ck_tags ck_pvs0 ck_prot0 ck_LK ck_tab 62 kc_62 3000 = true := by decide +kernel
set_option maxRecDepth 100000 in
theorem ok_63 : ck_check ck_tags ck_pvs0 ck_prot0 ck_LK ck_tab 63 kc_63 3000 = true := by decide +kernel
set_option maxRecDepth 100000 in
theorem ok_64 : ck_check ck_tags ck_pvs0 ck_prot0 ck_LK ck_tab 64 kc_64 3000 = true := by decide +kernel
set_option maxRecDepth 100000 in
theorem ok_65 : ck_check ck_tags ck_pvs0 ck_prot0 ck_LK ck_tab 65 kc_65 3000 = true := by decide +kernel
set_option maxRecDepth 100000 in
theorem ok_66 : ck_check ck_tags ck_pvs0 ck_prot0 ck_LK ck_tab 66 kc_66 3000 = true := by decide +kernel
set_option maxRecDepth 100000 in
theorem ok_68 : ck_check ck_tags ck_pvs0 ck_prot0 ck_LK ck_tab 68 kc_68 3000 = true := by decide +kernel
set_option maxRecDepth 100000 in
theorem ok_69 : ck_check ck_tags ck_pvs0 ck_prot0 ck_LK ck_tab 69 kc_69 3000 = true := by decide +kernel
set_option maxRecDepth 100000 in
theorem ok_70 : ck_check ck_tags ck_pvs0 ck_prot0 ck_LK ck_tab 70 kc_70 3000 = true := by decide +kernel
set_option maxRecDepth 100000 in
theorem ok_71 : ck_check ck_tags ck_pvs0 ck_prot0 ck_LK ck_tab 71 kc_71 3000 = true := by decide +kernel
set_option maxRecDepth 100000 in
theorem ok_72 : ck_check ck_tags ck_pvs0 ck_prot0 ck_LK ck_tab 72 kc_72 3000 = true := by decide +kernel
set_option maxRecDepth 100000 in
theorem ok_73 : ck_check ck_tags ck_pvs0 ck_prot0 ck_LK ck_tab 73 kc_73 3000 = true := by decide +kernel
set_option maxRecDepth 100000 in
theorem ok_74 : ck_check ck_tags ck_pvs0 ck_prot0 ck_LK ck_tab 74 kc_74 3000 = true := by decide +kernel
set_option maxRecDepth 100000 in
theorem ok_75 : ck_check ck_tags ck_pvs0 ck_prot0 ck_LK ck_tab 75 kc_75 3000 = true := by decide +kernel
set_option maxRecDepth 100000 in
theorem ok_76 : ck_check ck_tags ck_pvs0 ck_prot0 ck_LK ck_tab 76 kc_76 3000 = true := by decide +kernel
set_option maxRecDepth 100000 in
theorem ok_77 : ck_check ck_tags ck_pvs0 ck_prot0 ck_LK ck_tab 77 kc_77 3000 = true := by decide +kernel
set_option maxRecDepth 100000 in
theorem ok_78 : ck_check ck_tags ck_pvs0 ck_prot0 ck_LK ck_tab 78 kc_78 3000 = true := by decide +kernel
set_option maxRecDepth 100000 in
theorem ok_79 : ck_check ck_tags ck_pvs0 ck_prot0 ck_LK ck_tab 79 kc_79 3000 = true := by decide +kernel
set_option maxRecDepth 100000 in
theorem ok_80 : ck_check ck_tags ck_pvs0 ck_prot0 ck_LK ck_tab 80 kc_80 3000 = true := by decide +kernel
set_option maxRecDepth 100000 in
theorem ok_81 : ck_check ck_tags ck_pvs0 ck_prot0 ck_LK ck_tab 81 kc_81 3000 = true := by decide +kernel
set_option maxRecDepth 100000 in
theorem ok_82 : ck_check ck_tags ck_pvs0 ck_prot0 ck_LK ck_tab 82 kc_82 3000 = true := by decide +kernel
set_option maxRecDepth 100000 in
theorem ok_83 : ck_check ck_tags ck_pvs0 ck_prot0 ck_LK ck_tab 83 kc_83 3000 = true := by decide +kernel
set_option maxRecDepth 100000 in
theorem ok_84 : ck_check ck_tags ck_pvs0 ck_prot0 ck_LK ck_tab 84 kc_84 3000 = true := by decide +kernel
set_option maxRecDepth 100000 in
theorem ok_85 : ck_check ck_tags ck_pvs0 ck_prot0 ck_LK ck_tab 85 kc_85 3000 = true := by decide +kernel
set_option maxRecDepth 100000 in
theorem ok_86 : ck_check ck_tags ck_pvs0 ck_prot0 ck_LK ck_tab 86 kc_86 3000 = true := by decide +kernel
set_option maxRecDepth 100000 in
theorem ok_87 : ck_check ck_tags ck_pvs0 ck_prot0 ck_LK ck_tab 87 kc_87 3000 = true := by decide +kernel
set_option maxRecDepth 100000 in
theorem ok_88 : ck_check ck_tags ck_pvs0 ck_prot0 ck_LK ck_tab 88 kc_88 3000 = true := by decide +kernel
set_option maxRecDepth 100000 in
theorem ok_89 : ck_check ck_tags ck_pvs0 ck_prot0 ck_LK ck_tab 89 kc_89 3000 = true := by decide +kernel
set_option maxRecDepth 100000 in
theorem ok_90 : ck_check ck_tags ck_pvs0 ck_prot0 ck_LK ck_tab 90 kc_90 3000 = true := by decide +kernel
set_option maxRecDepth 100000 in
theorem ok_91 : ck_check ck_tags ck_pvs0 ck_prot0 ck_LK ck_tab 91 kc_91 3000 = true := by decide +kernel
set_option maxRecDepth 100000 in
theorem ok_92 : ck_check ck_tags ck_pvs0 ck_prot0 ck_LK ck_tab 92 kc_92 3000 = true := by decide +kernel
set_option maxRecDepth 100000 in
theorem ok_93 : ck_check ck_tags ck_pvs0 ck_prot0 ck_LK ck_tab 93 kc_93 3000 = true := by decide +kernel
set_option maxRecDepth 100000 in
theorem ok_94 : ck_check ck_tags ck_pvs0 ck_prot0 ck_LK ck_tab 94 kc_94 3000 = true := by decide +kernel
set_option maxRecDepth 100000 in
theorem ok_95 : ck_check ck_tags ck_pvs0 ck_prot0 ck_LK ck_tab 95 kc_95 3000 = true := by decide +kernel
set_option maxRecDepth 100000 in
theorem ok_96 : ck_check ck_tags ck_pvs0 ck_prot0 ck_LK ck_tab 96 kc_96 3000 = true := by decide +kernel
set_option maxRecDepth 100000 in
theorem ok_97 : ck_check ck_tags ck_pvs0 ck_prot0 ck_LK ck_tab 97 kc_97 3000 = true := by decide +kernel
set_option maxRecDepth 100000 in
theorem ok_98 : ck_check ck_tags ck_pvs0 ck_prot0 ck_LK ck_tab 98 kc_98 3000 = true := by decide +kernel
set_option maxRecDepth 100000 in
theorem ok_99 : ck_check ck_tags ck_pvs0 ck_prot0 ck_LK ck_tab 99 kc_99 3000 = true := by decide +kernel
set_option maxRecDepth 100000 in
theorem ok_100 : ck_check ck_tags ck_pvs0 ck_prot0 ck_LK ck_tab 100 kc_100 3000 = true := by decide +kernel
set_option maxRecDepth 100000 in
theorem ok_101 : ck_check ck_tags ck_pvs0 ck_prot0 ck_LK ck_tab 101 kc_101 3000 = true := by decide +kernel
set_option maxRecDepth 100000 in
theorem ok_102 : ck_check ck_tags ck_pvs0 ck_prot0 ck_LK ck_tab 102 kc_102 3000 = true := by decide +kernel
set_option maxRecDepth 100000 in
theorem ok_103 : ck_check ck_tags ck_pvs0 ck_prot0 ck_LK ck_tab 103 kc_103 3000 = true := by decide +kernel
set_option maxRecDepth 100000 in
theorem ok_104 : ck_check ck_tags ck_pvs0 ck_prot0 ck_LK ck_tab 104 kc_104 3000 = true := by decide +kernel
set_option maxRecDepth 100000 in
theorem ok_105 : ck_check ck_tags ck_pvs0 ck_prot0 ck_LK ck_tab 105 kc_105 3000 = true := by decide +kernel
set_option maxRecDepth 100000 in
theorem ok_106 : ck_check ck_tags ck_pvs0 ck_prot0 ck_LK ck_tab 106 kc_106 3000 = true := by decide +kernel
set_option maxRecDepth 100000 in
theorem ok_107 : ck_check ck_tags ck_pvs0 ck_prot0 ck_LK ck_tab 107 kc_107 3000 = true := by decide +kernel
set_option maxRecDepth 100000 in
theorem ok_108 : ck_check ck_tags ck_pvs0 ck_prot0 ck_LK ck_tab 108 kc_108 3000 = true := by decide +kernel
set_option maxRecDepth 100000 in
theorem ok_109 : ck_check ck_tags ck_pvs0 ck_prot0 ck_LK ck_tab 109 kc_109 3000 = true := by decide +kernel
set_option maxRecDepth 100000 in
theorem ok_110 : ck_check ck_tags ck_pvs0 ck_prot0 ck_LK ck_tab 110 kc_110 3000 = true := by decide +kernel
set_option maxRecDepth 100000 in
theorem ok_111 : ck_check ck_tags ck_pvs0 ck_prot0 ck_LK ck_tab 111 kc_111 3000 = true := by decide +kernel
set_option maxRecDepth 100000 in
theorem ok_112 : ck_check ck_tags ck_pvs0 ck_prot0 ck_LK ck_tab 112 kc_112 3000 = true := by decide +kernel
set_option maxRecDepth 100000 in
theorem ok_113 : ck_check ck_tags ck_pvs0 ck_prot0 ck_LK ck_tab 113 kc_113 3000 = true := by decide +kernel
set_option maxRecDepth 100000 in
theorem ok_114 : ck_check ck_tags ck_pvs0 ck_prot0 ck_LK ck_tab 114 kc_114 3000 = true := by decide +kernel
set_option maxRecDepth 100000 in
theorem ok_115 : ck_check ck_tags ck_pvs0 ck_prot0 ck_LK ck_tab 115 kc_115 3000 = true := by decide +kernel
set_option maxRecDepth 100000 in
theorem ok_116 : ck_check ck_tags ck_pvs0 ck_prot0 ck_LK ck_tab 116 kc_116 3000 = true := by decide +kernel
set_option maxRecDepth 100000 in
theorem ok_117 : ck_check ck_tags ck_pvs0 ck_prot0 ck_LK ck_tab 117 kc_117 3000 = true := by decide +kernel
set_option maxRecDepth 100000 in
theorem ok_118 : ck_check ck_tags ck_pvs0 ck_prot0 ck_LK ck_tab 118 kc_118 3000 = true := by decide +kernel
set_option maxRecDepth 100000 in
theorem ok_119 : ck_check ck_tags ck_pvs0 ck_prot0 ck_LK ck_tab 119 kc_119 3000 = true := by decide +kernel
set_option maxRecDepth 100000 in
theorem ok_120 : ck_check ck_tags ck_pvs0 ck_prot0 ck_LK ck_tab 120 kc_120 3000 = true := by decide +kernel
set_option maxRecDepth 100000 in
theorem ok_121 : ck_check ck_tags ck_pvs0 ck_prot0 ck_LK ck_tab 121 kc_121 3000 = true := by decide +kernel
set_option maxRecDepth 100000 in
theorem ok_122 : ck_check ck_tags ck_pvs0 ck_prot0 ck_LK ck_tab 122 kc_122 3000 = true := by decide +kernel
set_option maxRecDepth 100000 in
theorem ok_123 : ck_check ck_tags ck_pvs0 ck_prot0 ck_LK ck_tab 123 kc_123 3000 = true := by decide +kernel
set_option maxRecDepth 100000 in
theorem ok_124 : ck_check ck_tags ck_pvs0 ck_prot0 ck_LK ck_tab 124 kc_124 3000 = true := by decide +kernel
set_option maxRecDepth 100000 in
theorem ok_125 : ck_check ck_tags ck_pvs0 ck_prot0 ck_LK ck_tab 125 kc_125 3000 = true := by decide +kernel
set_option maxRecDepth 100000 in
theorem ok_126 : ck_check ck_tags ck_pvs0 ck_prot0 ck_LK ck_tab 126 kc_126 3000 = true := by decide +kernel
set_option maxRecDepth 100000 in
theorem ok_127 : ck_check ck_tags ck_pvs0 ck_prot0 ck_LK ck_tab 127 kc_127 3000 = true := by decide +kernel
set_option maxRecDepth 100000 in
theorem ok_128 : ck_check ck_tags ck_pvs0 ck_prot0 ck_LK ck_tab 128 kc_128 3000 = true := by decide +kernel
set_option maxRecDepth 100000 in
theorem ok_129 : ck_check ck_tags ck_pvs0 ck_prot0 ck_LK ck_tab 129 kc_129 3000 = true := by decide +kernel
set_option maxRecDepth 100000 in
theorem ok_130 : ck_check ck_tags ck_pvs0 ck_prot0 ck_LK ck_tab 130 kc_130 3000 = true := by decide +kernel
set_option maxRecDepth 100000 in
theorem ok_131 : ck_check ck_tags ck_pvs0 ck_prot0 ck_LK ck_tab 131 kc_131 3000 = true := by decide +kernel
set_option maxRecDepth 100000 in
theorem ok_132 : ck_check ck_tags ck_pvs0 ck_prot0 ck_LK ck_tab 132 kc_132 3000 = true := by decide +kernel
set_option maxRecDepth 100000 in
theorem ok_133 : ck_check ck_tags ck_pvs0 ck_prot0 ck_LK ck_tab 133 kc_133 3000 = true := by decide +kernel
set_option maxRecDepth 100000 in
theorem ok_134 : ck_check ck_tags ck_pvs0 ck_prot0 ck_LK ck_tab 134 kc_134 3000 = true := by decide +kernel
set_option maxRecDepth 100000 in
theorem ok_135 : ck_check ck_tags ck_pvs0 ck_prot0 ck_LK ck_tab 135 kc_135 3000 = true := by decide +kernel
set_option maxRecDepth 100000 in
theorem ok_136 : ck_check ck_tags ck_pvs0 ck_prot0 ck_LK ck_tab 136 kc_136 3000 = true := by decide +kernel
set_option maxRecDepth 100000 in
theorem ok_137 : ck_check ck_tags ck_pvs0 ck_prot0 ck_LK ck_tab 137 kc_137 3000 = true := by decide +kernel
set_option maxRecDepth 100000 in
theorem ok_138 : ck_check ck_tags ck_pvs0 ck_prot0 ck_LK ck_tab 138 kc_138 3000 = true := by decide +kernel
set_option maxRecDepth 100000 in
theorem ok_139 : ck_check ck_tags ck_pvs0 ck_prot0 ck_LK ck_tab 139 kc_139 3000 = true := by decide +kernel
set_option maxRecDepth 100000 in
theorem ok_140 : ck_check ck_tags ck_pvs0 ck_prot0 ck_LK ck_tab 140 kc_140 3000 = true := by decide +kernel
set_option maxRecDepth 100000 in
theorem ok_141 : ck_check ck_tags ck_pvs0 ck_prot0 ck_LK ck_tab 141 kc_141 3000 = true := by decide +kernel
set_option maxRecDepth 100000 in
theorem ok_142 : ck_check ck_tags ck_pvs0 ck_prot0 ck_LK ck_tab 142 kc_142 3000 = true := by decide +kernel
set_option maxRecDepth 100000 in
theorem ok_143 : ck_check ck_tags ck_pvs0 ck_prot0 ck_LK ck_tab 143 kc_143 3000 = true := by decide +kernel
set_option maxRecDepth 100000 in
theorem ok_144 : ck_check ck_tags ck_pvs0 ck_prot0 ck_LK ck_tab 144 kc_144 3000 = true := by decide +kernel
set_option maxRecDepth 100000 in
theorem ok_145 : ck_check ck_tags ck_pvs0 ck_prot0 ck_LK ck_tab 145 kc_145 3000 = true := by decide +kernel
set_option maxRecDepth 100000 in
theorem ok_146 : ck_check ck_tags ck_pvs0 ck_prot0 ck_LK ck_tab 146 kc_146 3000 = true := by decide +kernel
set_option maxRecDepth 100000 in
theorem ok_147 : ck_check ck_tags ck_pvs0 ck_prot0 ck_LK ck_tab 147 kc_147 3000 = true := by decide +kernel
set_option maxRecDepth 100000 in
theorem ok_148 : ck_check ck_tags ck_pvs0 ck_prot0 ck_LK ck_tab 148 kc_148 3000 = true := by decide +kernel
set_option maxRecDepth 100000 in
theorem ok_149 : ck_check ck_tags ck_pvs0 ck_prot0 ck_LK ck_tab 149 kc_149 3000 = true := by decide +kernel
set_option maxRecDepth 100000 in
theorem ok_150 : ck_check ck_tags ck_pvs0 ck_prot0 ck_LK ck_tab 150 kc_150 3000 = true := by decide +kernel
set_option maxRecDepth 100000 in
theorem ok_151 : ck_check ck_tags ck_pvs0 ck_prot0 ck_LK ck_tab 151 kc_151 3000 = true := by decide +kernel
set_option maxRecDepth 100000 in
theorem ok_152 : ck_check ck_tags ck_pvs0 ck_prot0 ck_LK ck_tab 152 kc_152 3000 = true := by decide +kernel
set_option maxRecDepth 100000 in
theorem ok_153 : ck_check ck_tags ck_pvs0 ck_prot0 ck_LK ck_tab 153 kc_153 3000 = true := by decide +kernel
set_option maxRecDepth 100000 in
theorem ok_154 : ck_check ck_tags ck_pvs0 ck_prot0 ck_LK ck_tab 154 kc_154 3000 = true := by decide +kernel
set_option maxRecDepth 100000 in
theorem ok_155 : ck_check ck_tags ck_pvs0 ck_prot0 ck_LK ck_tab 155 kc_155 3000 = true := by decide +kernel
set_option maxRecDepth 100000 in
theorem ok_156 : ck_check ck_tags ck_pvs0 ck_prot0 ck_LK ck_tab 156 kc_156 3000 = true := by decide +kernel
set_option maxRecDepth 100000 in
theorem ok_157 : ck_check ck_tags ck_pvs0 ck_prot0 ck_LK ck_tab 157 kc_157 3000 = true := by decide +kernel
set_option maxRecDepth 100000 in
theorem ok_158 : ck_check ck_tags ck_pvs0 ck_prot0 ck_LK ck_tab 158 kc_158 3000 = true := by decide +kernel
set_option maxRecDepth 100000 in
theorem ok_159 : ck_check ck_tags ck_pvs0 ck_prot0 ck_LK ck_tab 159 kc_159 3000 = true := by decide +kernel
set_option maxRecDepth 100000 in
theorem ok_160 : ck_check ck_tags ck_pvs0 ck_prot0 ck_LK ck_tab 160 kc_160 3000 = true := by decide +kernel
set_option maxRecDepth 100000 in
theorem ok_161 : ck_check ck_tags ck_pvs0 ck_prot0 ck_LK ck_tab 161 kc_161 3000 = true := by decide +kernel
set_option maxRecDepth 100000 in
theorem ok_162 : ck_check ck_tags ck_pvs0 ck_prot0 ck_LK ck_tab 162 kc_162 3000 = true := by decide +kernel
set_option maxRecDepth 100000 in
theorem ok_163 : ck_check ck_tags ck_pvs0 ck_prot0 ck_LK ck_tab 163 kc_163 3000 = true := by decide +kernel
set_option maxRecDepth 100000 in
theorem ok_164 : ck_check ck_tags ck_pvs0 ck_prot0 ck_LK ck_tab 164 kc_164 3000 = true := by decide +kernel
set_option maxRecDepth 100000 in
theorem ok_165 : ck_check ck_tags ck_pvs0 ck_prot0 ck_LK ck_tab 165 kc_165 3000 = true := by decide +kernel
set_option maxRecDepth 100000 in
theorem ok_166 : ck_check ck_tags ck_pvs0 ck_prot0 ck_LK ck_tab 166 kc_166 3000 = true := by decide +kernel
set_option maxRecDepth 100000 in
theorem ok_167 : ck_check ck_tags ck_pvs0 ck_prot0 ck_LK ck_tab 167 kc_167 3000 = true := by decide +kernel
set_option maxRecDepth 100000 in
theorem ok_168 : ck_check ck_tags ck_pvs0 ck_prot0 ck_LK ck_tab 168 kc_168 3000 = true := by decide +kernel
set_option maxRecDepth 100000 in
theorem ok_169 : ck_check ck_tags ck_pvs0 ck_prot0 ck_LK ck_tab 169 kc_169 3000 = true := by decide +kernel
set_option maxRecDepth 100000 in
theorem ok_170 : ck_check ck_tags ck_pvs0 ck_prot0 ck_LK ck_tab 170 kc_170 3000 = true := by decide +kernel
set_option maxRecDepth 100000 in
theorem ok_171 : ck_check ck_tags ck_pvs0 ck_prot0 ck_LK ck_tab 171 kc_171 3000 = true := by decide +kernel
set_option maxRecDepth 100000 in
theorem ok_172 : ck_check ck_tags ck_pvs0 ck_prot0 ck_LK ck_tab 172 kc_172 3000 = true := by decide +kernel
set_option maxRecDepth 100000 in
theorem ok_173 : ck_check ck_tags ck_pvs0 ck_prot0 ck_LK ck_tab 173 kc_173 3000 = true := by decide +kernel
set_option maxRecDepth 100000 in
theorem ok_174 : ck_check ck_tags ck_pvs0 ck_prot0 ck_LK ck_tab 174 kc_174 3000 = true := by decide +kernel
set_option maxRecDepth 100000 in
theorem ok_175 : ck_check ck_tags ck_pvs0 ck_prot0 ck_LK ck_tab 175 kc_175 3000 = true := by decide +kernel
set_option maxRecDepth 100000 in
theorem ok_176 : ck_check ck_tags ck_pvs0 ck_prot0 ck_LK ck_tab 176 kc_176 3000 = true := by decide +kernel
set_option maxRecDepth 100000 in
theorem ok_177 : ck_check ck_tags ck_pvs0 ck_prot0 ck_LK ck_tab 177 kc_177 3000 = true := by decide +kernel
set_option maxRecDepth 100000 in
theorem ok_178 : ck_check ck_tags ck_pvs0 ck_prot0 ck_LK ck_tab 178 kc_178 3000 = true := by decide +kernel
set_option maxRecDepth 100000 in
theorem ok_179 : ck_check ck_tags ck_pvs0 ck_prot0 ck_LK ck_tab 179 kc_179 3000 = true := by decide +kernel
set_option maxRecDepth 100000 in
theorem ok_180 : ck_check ck_tags ck_pvs0 ck_prot0 ck_LK ck_tab 180 kc_180 3000 = true := by decide +kernel
set_option maxRecDepth 100000 in
theorem ok_181 : ck_check ck_tags ck_pvs0 ck_prot0 ck_LK ck_tab 181 kc_181 3000 = true := by decide +kernel
set_option maxRecDepth 100000 in
theorem ok_182 : ck_check ck_tags ck_pvs0 ck_prot0 ck_LK ck_tab 182 kc_182 3000 = true := by decide +kernel
set_option maxRecDepth 100000 in
theorem ok_183 : ck_check ck_tags ck_pvs0 ck_prot0 ck_LK ck_tab 183 kc_183 3000 = true := by decide +kernel
set_option maxRecDepth 100000 in
theorem ok_184 : ck_check ck_tags ck_pvs0 ck_prot0 ck_LK ck_tab 184 kc_184 3000 = true := by decide +kernel
set_option maxRecDepth 100000 in
theorem ok_185 : ck_check ck_tags ck_pvs0 ck_prot0 ck_LK ck_tab 185 kc_185 3000 = true := by decide +kernel
set_option maxRecDepth 100000 in
theorem ok_186 : ck_check ck_tags ck_pvs0 ck_prot0 ck_LK ck_tab 186 kc_186 3000 = true := by decide +kernel
set_option maxRecDepth 100000 in
theorem ok_187 : ck_check ck_tags ck_pvs0 ck_prot0 ck_LK ck_tab 187 kc_187 3000 = true := by decide +kernel
set_option maxRecDepth 100000 in
theorem ok_188 : ck_check ck_tags ck_pvs0 ck_prot0 ck_LK ck_tab 188 kc_188 3000 = true := by decide +kernel
set_option maxRecDepth 100000 in
theorem ok_189 : ck_check ck_tags ck_pvs0 ck_prot0 ck_LK ck_tab 189 kc_189 3000 = true := by decide +kernel
set_option maxRecDepth 100000 in
theorem ok_190 : ck_check ck_tags ck_pvs0 ck_prot0 ck_LK ck_tab 190 kc_190 3000 = true := by decide +kernel
set_option maxRecDepth 100000 in
theorem ok_191 : ck_check ck_tags ck_pvs0 ck_prot0 ck_LK ck_tab 191 kc_191 3000 = true := by decide +kernel
set_option maxRecDepth 100000 in
theorem ok_192 : ck_check ck_tags ck_pvs0 ck_prot0 ck_LK ck_tab 192 kc_192 3000 = true := by decide +kernel
set_option maxRecDepth 100000 in
theorem ok_193 : ck_check ck_tags ck_pvs0 ck_prot0 ck_LK ck_tab 193 kc_193 3000 = true := by decide +kernel
set_option maxRecDepth 100000 in
theorem ok_194 : ck_check ck_tags ck_pvs0 ck_prot0 ck_LK ck_tab 194 kc_194 3000 = true := by decide +kernel
set_option maxRecDepth 100000 in
theorem ok_195 : ck_check ck_tags ck_pvs0 ck_prot0 ck_LK ck_tab 195 kc_195 3000 = true := by decide +kernel
set_option maxRecDepth 100000 in
theorem ok_196 : ck_check ck_tags ck_pvs0 ck_prot0 ck_LK ck_tab 196 kc_196 3000 = true := by decide +kernel
set_option maxRecDepth 100000 in
theorem ok_197 : ck_check ck_tags ck_pvs0 ck_prot0 ck_LK ck_tab 197 kc_197 3000 = true := by decide +kernel
set_option maxRecDepth 100000 in
theorem ok_198 : ck_check ck_tags ck_pvs0 ck_prot0 ck_LK ck_tab 198 kc_198 3000 = true := by decide +kernel
set_option maxRecDepth 100000 in
theorem ok_199 : ck_check ck_tags ck_pvs0 ck_prot0 ck_LK ck_tab 199 kc_199 3000 = true := by decide +kernel
set_option maxRecDepth 100000 in
theorem ok_200 : ck_check ck_tags ck_pvs0 ck_prot0 ck_LK ck_tab 200 kc_200 3000 = true := by decide +kernel
set_option maxRecDepth 100000 in
theorem ok_201 : ck_check ck_tags ck_pvs0 ck_prot0 ck_LK ck_tab 201 kc_201 3000 = true := by decide +kernel
set_option maxRecDepth 100000 in
theorem ok_202 : ck_check ck_tags ck_pvs0 ck_prot0 ck_LK ck_tab 202 kc_202 3000 = true := by decide +kernel
set_option maxRecDepth 100000 in
theorem ok_203 : ck_check ck_tags ck_pvs0 ck_prot0 ck_LK ck_tab 203 kc_203 3000 = true := by decide +kernel
set_option maxRecDepth 100000 in
theorem ok_204 : ck_check ck_tags ck_pvs0 ck_prot0 ck_LK ck_tab 204 kc_204 3000 = true := by decide +kernel
set_option maxRecDepth 100000 in
theorem ok_205 : ck_check ck_tags ck_pvs0 ck_prot0 ck_LK ck_tab 205 kc_205 3000 = true := by decide +kernel
set_option maxRecDepth 100000 in
theorem ok_206 : ck_check ck_tags ck_pvs0 ck_prot0 ck_LK ck_tab 206 kc_206 3000 = true := by decide +kernel
set_option maxRecDepth 100000 in
theorem ok_207 : ck_check ck_tags ck_pvs0 ck_prot0 ck_LK ck_tab 207 kc_207 3000 = true := by decide +kernel
set_option maxRecDepth 100000 in
theorem ok_208 : ck_check ck_tags ck_pvs0 ck_prot0 ck_LK ck_tab 208 kc_208 3000 = true := by decide +kernel
set_option maxRecDepth 100000 in
theorem ok_209 : ck_check ck_tags ck_pvs0 ck_prot0 ck_LK ck_tab 209 kc_209 3000 = true := by decide +kernel
set_option maxRecDepth 100000 in
theorem ok_210 : ck_check ck_tags ck_pvs0 ck_prot0 ck_LK ck_tab 210 kc_210 3000 = true := by decide +kernel
set_option maxRecDepth 100000 in
theorem ok_211 : ck_check ck_tags ck_pvs0 ck_prot0 ck_LK ck_tab 211 kc_211 3000 = true := by decide +kernel
set_option maxRecDepth 100000 in
theorem ok_212 : ck_check ck_tags ck_pvs0 ck_prot0 ck_LK ck_tab 212 kc_212 3000 = true := by decide +kernel
set_option maxRecDepth 100000 in
theorem ok_213 : ck_check ck_tags ck_pvs0 ck_prot0 ck_LK ck_tab 213 kc_213 3000 = true := by decide +kernel
set_option maxRecDepth 100000 in
theorem ok_214 : ck_check ck_tags ck_pvs0 ck_prot0 ck_LK ck_tab 214 kc_214 3000 = true := by decide +kernel
set_option maxRecDepth 100000 in
theorem ok_215 : ck_check ck_tags ck_pvs0 ck_prot0 ck_LK ck_tab 215 kc_215 3000 = true := by decide +kernel
set_option maxRecDepth 100000 in
theorem ok_216 : ck_check ck_tags ck_pvs0 ck_prot0 ck_LK ck_tab 216 kc_216 3000 = true := by decide +kernel
set_option maxRecDepth 100000 in
theorem ok_217 : ck_check ck_tags ck_pvs0 ck_prot0 ck_LK ck_tab 217 kc_217 3000 = true := by decide +kernel
set_option maxRecDepth 100000 in
theorem ok_218 : ck_check ck_tags ck_pvs0 ck_prot0 ck_LK ck_tab 218 kc_218 3000 = true := by decide +kernel
set_option maxRecDepth 100000 in
theorem ok_219 : ck_check ck_tags ck_pvs0 ck_prot0 ck_LK ck_tab 219 kc_219 3000 = true := by decide +kernel
set_option maxRecDepth 100000 in
theorem ok_220 : ck_check ck_tags ck_pvs0 ck_prot0 ck_LK ck_tab 220 kc_220 3000 = true := by decide +kernel
set_option maxRecDepth 100000 in
theorem ok_221 : ck_check ck_tags ck_pvs0 ck_prot0 ck_LK ck_tab 221 kc_221 3000 = true := by decide +kernel
set_option maxRecDepth 100000 in
theorem ok_222 : ck_check ck_tags ck_pvs0 ck_prot0 ck_LK ck_tab 222 kc_222 3000 = true := by decide +kernel
set_option maxRecDepth 100000 in
theorem ok_223 : ck_check ck_tags ck_pvs0 ck_prot0 ck_LK ck_tab 223 kc_223 3000 = true := by decide +kernel
set_option maxRecDepth 100000 in
theorem ok_224 : ck_check ck_tags ck_pvs0 ck_prot0 ck_LK ck_tab 224 kc_224 3000 = true := by decide +kernel
set_option maxRecDepth 100000 in
theorem ok_225 : ck_check ck_tags ck_pvs0 ck_prot0 ck_LK ck_tab 225 kc_225 3000 = true := by decide +kernel
set_option maxRecDepth 100000 in
theorem ok_227 : ck_check ck_tags ck_pvs0 ck_prot0 ck_LK ck_tab 227 kc_227 3000 = true := by decide +kernel
set_option maxRecDepth 100000 in
theorem ok_228 : ck_check ck_tags ck_pvs0 ck_prot0 ck_LK ck_tab 228 kc_228 3000 = true := by decide +kernel
set_option maxRecDepth 100000 in
theorem ok_229 : ck_check ck_tags ck_pvs0 ck_prot0 ck_LK ck_tab 229 kc_229 3000 = true := by decide +kernel
set_option maxRecDepth 100000 in
theorem ok_230 : ck_check ck_tags ck_pvs0 ck_prot0 ck_LK ck_tab 230 kc_230 3000 = true := by decide +kernel
set_option maxRecDepth 100000 in
theorem ok_231 : ck_check ck_tags ck_pvs0 ck_prot0 ck_LK ck_tab 231 kc_231 3000 = true := by decide +kernel
set_option maxRecDepth 100000 in
theorem ok_232 : ck_check ck_tags ck_pvs0 ck_prot0 ck_LK ck_tab 232 kc_232 3000 = true := by decide +kernel
set_option maxRecDepth 100000 in
theorem ok_233 : ck_check ck_tags ck_pvs0 ck_prot0 ck_LK ck_tab 233 kc_233 3000 = true := by decide +kernel
set_option maxRecDepth 100000 in
theorem ok_235 : ck_check ck_tags ck_pvs0 ck_prot0 ck_LK ck_tab 235 kc_235 3000 = true := by decide +kernel
set_option maxRecDepth 100000 in
theorem ok_236 : ck_check ck_tags ck_pvs0 ck_prot0 ck_LK ck_tab 236 kc_236 3000 = true := by decide +kernel
set_option maxRecDepth 100000 in
theorem ok_237 : ck_check ck_tags ck_pvs0 ck_prot0 ck_LK ck_tab 237 kc_237 3000 = true := by decide +kernel
set_option maxRecDepth 100000 in
theorem ok_238 : ck_check ck_tags ck_pvs0 ck_prot0 ck_LK ck_tab 238 kc_238 3000 = true := by decide +kernel
set_option maxRecDepth 100000 in
theorem ok_239 : ck_check ck_tags ck_pvs0 ck_prot0 ck_LK ck_tab 239 kc_239 3000 = true := by decide +kernel
set_option maxRecDepth 100000 in
theorem ok_240 : ck_check ck_tags ck_pvs0 ck_prot0 ck_LK ck_tab 240 kc_240 3000 = true := by decide +kernel
set_option maxRecDepth 100000 in
theorem ok_241 : ck_check ck_tags ck_pvs0 ck_prot0 ck_LK ck_tab 241 kc_241 3000 = true := by decide +kernel
set_option maxRecDepth 100000 in
theorem ok_243 : ck_check ck_tags ck_pvs0 ck_prot0 ck_LK ck_tab 243 kc_243 3000 = true := by decide +kernel
set_option maxRecDepth 100000 in
theorem ok_244 : ck_check ck_tags ck_pvs0 ck_prot0 ck_LK ck_tab 244 kc_244 3000 = true := by decide +kernel
set_option maxRecDepth 100000 in
theorem ok_245 : ck_check ck_tags ck_pvs0 ck_prot0 ck_LK ck_tab 245 kc_245 3000 = true := by decide +kernel
set_option maxRecDepth 100000 in
theorem ok_246 : ck_check ck_tags ck_pvs0 ck_prot0 ck_LK ck_tab 246 kc_246 3000 = true := by decide +kernel
set_option maxRecDepth 100000 in
theorem ok_247 : ck_check ck_tags ck_pvs0 ck_prot0 ck_LK ck_tab 247 kc_247 3000 = true := by decide +kernel
set_option maxRecDepth 100000 in
theorem ok_248 : ck_check ck_tags ck_pvs0 ck_prot0 ck_LK ck_tab 248 kc_248 3000 = true := by decide +kernel
set_option maxRecDepth 100000 in
theorem ok_249 : ck_check ck_tags ck_pvs0 ck_prot0 ck_LK ck_tab 249 kc_249 3000 = true := by decide +kernel
set_option maxRecDepth 100000 in
theorem ok_250 : ck_check ck_tags ck_pvs0 ck_prot0 ck_LK ck_tab 250 kc_250 3000 = true := by decide +kernel
set_option maxRecDepth 100000 in
theorem ok_251 : ck_check ck_tags ck_pvs0 ck_prot0 ck_LK ck_tab 251 kc_251 3000 = true := by decide +kernel
set_option maxRecDepth 100000 in
theorem ok_252 : ck_check ck_tags ck_pvs0 ck_prot0 ck_LK ck_tab 252 kc_252 3000 = true := by decide +kernel
set_option maxRecDepth 100000 in
theorem ok_253 : ck_check ck_tags ck_pvs0 ck_prot0 ck_LK ck_tab 253 kc_253 3000 = true := by decide +kernel
set_option maxRecDepth 100000 in
theorem ok_254 : ck_check ck_tags ck_pvs0 ck_prot0 ck_LK ck_tab 254 kc_254 3000 = true := by decide +kernel
set_option maxRecDepth 100000 in
theorem ok_255 : ck_check ck_tags ck_pvs0 ck_prot0 ck_LK ck_tab 255 kc_255 3000 = true := by decide +kernel
set_option maxRecDepth 100000 in
theorem ok_256 : ck_check ck_tags ck_pvs0 ck_prot0 ck_LK ck_tab 256 kc_256 3000 = true := by decide +kernel
set_option maxRecDepth 100000 in
theorem ok_257 : ck_check ck_tags ck_pvs0 ck_prot0 ck_LK ck_tab 257 kc_257 3000 = true := by decide +kernel
set_option maxRecDepth 100000 in
theorem ok_258 : ck_check ck_tags ck_pvs0 ck_prot0 ck_LK ck_tab 258 kc_258 3000 = true := by decide +kernel
set_option maxRecDepth 100000 in
theorem ok_260 : ck_check ck_tags ck_pvs0 ck_prot0 ck_LK ck_tab 260 kc_260 3000 = true := by decide +kernel
set_option maxRecDepth 100000 in
theorem ok_261 : ck_check ck_tags ck_pvs0 ck_prot0 ck_LK ck_tab 261 kc_261 3000 = true := by decide +kernel
set_option maxRecDepth 100000 in
theorem ok_263 : ck_check ck_tags ck_pvs0 ck_prot0 ck_LK ck_tab 263 kc_263 3000 = true := by decide +kernel
set_option maxRecDepth 100000 in
theorem ok_264 : ck_check ck_tags ck_pvs0 ck_prot0 ck_LK ck_tab 264 kc_264 3000 = true := by decide +kernel
set_option maxRecDepth 100000 in
theorem ok_267 : ck_check ck_tags ck_pvs0 ck_prot0 ck_LK ck_tab 267 kc_267 3000 = true := by decide +kernel
set_option maxRecDepth 100000 in
theorem ok_268 : ck_check ck_tags ck_pvs0 ck_prot0 ck_LK ck_tab 268 kc_268 3000 = true := by decide +kernel
set_option maxRecDepth 100000 in
theorem ok_269 : ck_check ck_tags ck_pvs0 ck_prot0 ck_LK ck_tab 269 kc_269 3000 = true := by decide +kernel
set_option maxRecDepth 100000 in
theorem ok_270 : ck_check ck_tags ck_pvs0 ck_prot0 ck_LK ck_tab 270 kc_270 3000 = true := by decide +kernel
set_option maxRecDepth 100000 in
theorem ok_271 : ck_check ck_tags ck_pvs0 ck_prot0 ck_LK ck_tab 271 kc_271 3000 = true := by decide +kernel
set_option maxRecDepth 100000 in
theorem ok_272 : ck_check ck_tags ck_pvs0 ck_prot0 ck_LK ck_tab 272 kc_272 3000 = true := by decide +kernel
set_option maxRecDepth 100000 in
theorem ok_273 : ck_check ck_tags ck_pvs0 ck_prot0 ck_LK ck_tab 273 kc_273 3000 = true := by decide +kernel
set_option maxRecDepth 100000 in
theorem ok_274 : ck_check ck_tags ck_pvs0 ck_prot0 ck_LK ck_tab 274 kc_274 3000 = true := by decide +kernel
set_option maxRecDepth 100000 in
theorem ok_275 : ck_check ck_tags ck_pvs0 ck_prot0 ck_LK ck_tab 275 kc_275 3000 = true := by decide +kernel
set_option maxRecDepth 100000 in
theorem ok_276 : ck_check ck_tags ck_pvs0 ck_prot0 ck_LK ck_tab 276 kc_276 3000 = true := by decide +kernel
set_option maxRecDepth 100000 in
theorem ok_277 : ck_check ck_tags ck_pvs0 ck_prot0 ck_LK ck_tab 277 kc_277 3000 = true := by decide +kernel
set_option maxRecDepth 100000 in
theorem ok_278 : ck_check ck_tags ck_pvs0 ck_prot0 ck_LK ck_tab 278 kc_278 3000 = true := by decide +kernel
set_option maxRecDepth 100000 in
theorem ok_279 : ck_check ck_tags ck_pvs0 ck_prot0 ck_LK ck_tab 279 kc_279 3000 = true := by decide +kernel
set_option maxRecDepth 100000 in
theorem ok_280 : ck_check ck_tags ck_pvs0 ck_prot0 ck_LK ck_tab 280 kc_280 3000 = true := by decide +kernel
set_option maxRecDepth 100000 in
theorem ok_281 : ck_check ck_tags ck_pvs0 ck_prot0 ck_LK ck_tab 281 kc_281 3000 = true := by decide +kernel
set_option maxRecDepth 100000 in
theorem ok_282 : ck_check ck_tags ck_pvs0 ck_prot0 ck_LK ck_tab 282 kc_282 3000 = true := by decide +kernel
set_option maxRecDepth 100000 in
theorem ok_283 : ck_check ck_tags ck_pvs0 ck_prot0 ck_LK ck_tab 283 kc_283 3000 = true := by decide +kernel
set_option maxRecDepth 100000 in
theorem ok_284 : ck_check ck_tags ck_pvs0 ck_prot0 ck_LK ck_tab 284 kc_284 3000 = true := by decide +kernel
set_option maxRecDepth 100000 in
theorem ok_285 : ck_check ck_tags ck_pvs0 ck_prot0 ck_LK ck_tab 285 kc_285 3000 = true := by decide +kernel
set_option maxRecDepth 100000 in
theorem ok_286 : ck_check ck_tags ck_pvs0 ck_prot0 ck_LK ck_tab 286 kc_286 3000 = true := by decide +kernel
set_option maxRecDepth 100000 in
theorem ok_288 : ck_check ck_tags ck_pvs0 ck_prot0 ck_LK ck_tab 288 kc_288 3000 = true := by decide +kernel
set_option maxRecDepth 100000 in
theorem ok_289 : ck_check ck_tags ck_pvs0 ck_prot0 ck_LK ck_tab 289 kc_289 3000 = true := by decide +kernel
set_option maxRecDepth 100000 in
theorem ok_290 : ck_check ck_tags ck_pvs0 ck_prot0 ck_LK ck_tab 290 kc_290 3000 = true := by decide +kernel
set_option maxRecDepth 100000 in
theorem ok_292 : ck_check ck_tags ck_pvs0 ck_prot0 ck_LK ck_tab 292 kc_292 3000 = true := by decide +kernel
set_option maxRecDepth 100000 in
theorem ok_293 : ck_check ck_tags ck_pvs0 ck_prot0 ck_LK ck_tab 293 kc_293 3000 = true := by decide +kernel
set_option maxRecDepth 100000 in
theorem ok_294 : ck_check ck_tags ck_pvs0 ck_prot0 ck_LK ck_tab 294 kc_294 3000 = true := by decide +kernel
set_option maxRecDepth 100000 in
theorem ok_295 : ck_check ck_tags ck_pvs0 ck_prot0 ck_LK ck_tab 295 kc_295 3000 = true := by decide +kernel
set_option maxRecDepth 100000 in
theorem ok_296 : ck_check ck_tags ck_pvs0 ck_prot0 ck_LK ck_tab 296 kc_296 3000 = true := by decide +kernel
set_option maxRecDepth 100000 in
theorem ok_297 : ck_check ck_tags ck_pvs0 ck_prot0 ck_LK ck_tab 297 kc_297 3000 = true := by decide +kernel
set_option maxRecDepth 100000 in
theorem ok_298 : ck_check ck_tags ck_pvs0 ck_prot0 ck_LK ck_tab 298 kc_298 3000 = true := by decide +kernel
set_option maxRecDepth 100000 in
theorem ok_299 : ck_check ck_tags ck_pvs0 ck_prot0 ck_LK ck_tab 299 kc_299 3000 = true := by decide +kernel
set_option maxRecDepth 100000 in
theorem ok_301 : ck_check ck_tags ck_pvs0 ck_prot0 ck_LK ck_tab 301 kc_301 3000 = true := by decide +kernel
set_option maxRecDepth 100000 in
theorem ok_302 : ck_check ck_tags ck_pvs0 ck_prot0 ck_LK ck_tab 302 kc_302 3000 = true := by decide +kernel
set_option maxRecDepth 100000 in
theorem ok_303 : ck_check ck_tags ck_pvs0 ck_prot0 ck_LK ck_tab 303 kc_303 3000 = true := by decide +kernel
set_option maxRecDepth 100000 in
theorem ok_304 : ck_check ck_tags ck_pvs0 ck_prot0 ck_LK ck_tab 304 kc_304 3000 = true := by decide +kernel
set_option maxRecDepth 100000 in
theorem ok_305 : ck_check ck_tags ck_pvs0 ck_prot0 ck_LK ck_tab 305 kc_305 3000 = true := by decide +kernel
set_option maxRecDepth 100000 in
theorem ok_306 : ck_check ck_tags ck_pvs0 ck_prot0 ck_LK ck_tab 306 kc_306 3000 = true := by decide +kernel
set_option maxRecDepth 100000 in
theorem ok_308 : ck_check ck_tags ck_pvs0 ck_prot0 ck_LK ck_tab 308 kc_308 3000 = true := by decide +kernel
set_option maxRecDepth 100000 in
theorem ok_309 : ck_check ck_tags ck_pvs0 ck_prot0 ck_LK ck_tab 309 kc_309 3000 = true := by decide +kernel
set_option maxRecDepth 100000 in
theorem ok_311 : ck_check ck_tags ck_pvs0 ck_prot0 ck_LK ck_tab 311 kc_311 3000 = true := by decide +kernel
set_option maxRecDepth 100000 in
theorem ok_312 : ck_check ck_tags ck_pvs0 ck_prot0 ck_LK ck_tab 312 kc_312 3000 = true := by decide +kernel
set_option maxRecDepth 100000 in
theorem ok_314 : ck_check ck_tags ck_pvs0 ck_prot0 ck_LK ck_tab 314 kc_314 3000 = true := by decide +kernel
set_option maxRecDepth 100000 in
theorem ok_315 : ck_check ck_tags ck_pvs0 ck_prot0 ck_LK ck_tab 315 kc_315 3000 = true := by decide +kernel
set_option maxRecDepth 100000 in
theorem ok_316 : ck_check ck_tags ck_pvs0 ck_prot0 ck_LK ck_tab 316 kc_316 3000 = true := by decide +kernel
set_option maxRecDepth 100000 in
theorem ok_317 : ck_check ck_tags ck_pvs0 ck_prot0 ck_LK ck_tab 317 kc_317 3000 = true := by decide +kernel
set_option maxRecDepth 100000 in
theorem ok_319 : ck_check ck_tags ck_pvs0 ck_prot0 ck_LK ck_tab 319 kc_319 3000 = true := by decide +kernel
set_option maxRecDepth 100000 in
theorem ok_320 : ck_check ck_tags ck_pvs0 ck_prot0 ck_LK ck_tab 320 kc_320 3000 = true := by decide +kernel
set_option maxRecDepth 100000 in
theorem ok_321 : ck_check ck_tags ck_pvs0 ck_prot0 ck_LK ck_tab 321 kc_321 3000 = true := by decide +kernel
set_option maxRecDepth 100000 in
theorem ok_322 : ck_check ck_tags ck_pvs0 ck_prot0 ck_LK ck_tab 322 kc_322 3000 = true := by decide +kernel
