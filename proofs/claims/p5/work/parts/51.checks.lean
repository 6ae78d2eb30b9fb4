/-! each method checked -/
set_option maxRecDepth 100000 in
theorem ok_66 : ck_check ck_tags ck_pvs0 ck_protA ck_LK ck_tab 66 kc_66 3000 = true := by decide +kernel
set_option maxRecDepth 100000 in
theorem ok_67 : ck_check ck_tags ck_pvs0 ck_protA ck_LK ck_tab 67 kc_67 3000 = true := by decide +kernel
set_option maxRecDepth 100000 in
theorem ok_68 : ck_check ck_tags ck_pvs0 ck_protA ck_LK ck_tab 68 kc_68 3000 = true := by decide +kernel
set_option maxRecDepth 100000 in
theorem ok_69 : ck_check ck_tags ck_pvs0 ck_protA ck_LK ck_tab 69 kc_69 3000 = true := by decide +kernel
set_option maxRecDepth 100000 in
theorem ok_70 : ck_check ck_tags ck_pvs0 ck_protA ck_LK ck_tab 70 kc_70 3000 = true := by decide +kernel
set_option maxRecDepth 100000 in
theorem ok_71 : ck_check ck_tags ck_pvs0 ck_protA ck_LK ck_tab 71 kc_71 3000 = true := by decide +kernel
set_option maxRecDepth 100000 in
theorem ok_72 : ck_check ck_tags ck_pvs0 ck_protA ck_LK ck_tab 72 kc_72 3000 = true := by decide +kernel
set_option maxRecDepth 100000 in
theorem ok_73 : ck_check ck_tags ck_pvs0 ck_protA ck_LK ck_tab 73 kc_73 3000 = true := by decide +kernel
set_option maxRecDepth 100000 in
theorem ok_74 : ck_check ck_tags ck_pvs0 ck_protA ck_LK ck_tab 74 kc_74 3000 = true := by decide +kernel
set_option maxRecDepth 100000 in
theorem ok_75 : ck_check ck_tags ck_pvs0 ck_protA ck_LK ck_tab 75 kc_75 3000 = true := by decide +kernel
set_option maxRecDepth 100000 in
theorem ok_76 : ck_check ck_tags ck_pvs0 ck_protA ck_LK ck_tab 76 kc_76 3000 = true := by decide +kernel
set_option maxRecDepth 100000 in
theorem ok_77 : ck_check ck_tags ck_pvs0 ck_protA ck_LK ck_tab 77 kc_77 3000 = true := by decide +kernel
set_option maxRecDepth 100000 in
theorem ok_78 : ck_check ck_tags ck_pvs0 ck_protA ck_LK ck_tab 78 kc_78 3000 = true := by decide +kernel
set_option maxRecDepth 100000 in
theorem ok_79 : ck_check ck_tags ck_pvs0 ck_protA ck_LK ck_tab 79 kc_79 3000 = true := by decide +kernel
set_option maxRecDepth 100000 in
theorem ok_80 : ck_check ck_tags ck_pvs0 ck_protA ck_LK ck_tab 80 kc_80 3000 = true := by decide +kernel
set_option maxRecDepth 100000 in
theorem ok_81 : ck_check ck_tags ck_pvs0 ck_protA ck_LK ck_tab 81 kc_81 3000 = true := by decide +kernel
set_option maxRecDepth 100000 in
theorem ok_82 : ck_check ck_tags ck_pvs0 ck_protA ck_LK ck_tab 82 kc_82 3000 = true := by decide +kernel
set_option maxRecDepth 100000 in
theorem ok_83 : ck_check ck_tags ck_pvs0 ck_protA ck_LK ck_tab 83 kc_83 3000 = true := by decide +kernel
set_option maxRecDepth 100000 in
theorem ok_84 : ck_check ck_tags ck_pvs0 ck_protA ck_LK ck_tab 84 kc_84 3000 = true := by decide +kernel
set_option maxRecDepth 100000 in
theorem ok_85 : ck_check ck_tags ck_pvs0 ck_protA ck_LK ck_tab 85 kc_85 3000 = true := by decide +kernel
set_option maxRecDepth 100000 in
theorem ok_86 : ck_check ck_tags ck_pvs0 ck_protA ck_LK ck_tab 86 kc_86 3000 = true := by decide +kernel
set_option maxRecDepth 100000 in
theorem ok_87 : ck_check ck_tags ck_pvs0 ck_protA ck_LK ck_tab 87 kc_87 3000 = true := by decide +kernel
set_option maxRecDepth 100000 in
theorem ok_88 : ck_check ck_tags ck_pvs0 ck_protA ck_LK ck_tab 88 kc_88 3000 = true := by decide +kernel
set_option maxRecDepth 100000 in
theorem ok_89 : ck_check ck_tags ck_pvs0 ck_protA ck_LK ck_tab 89 kc_89 3000 = true := by decide +kernel
set_option maxRecDepth 100000 in
theorem ok_90 : ck_check ck_tags ck_pvs0 ck_protA ck_LK ck_tab 90 kc_90 3000 = true := by decide +kernel
set_option maxRecDepth 100000 in
theorem ok_91 : ck_check ck_tags ck_pvs0 ck_protA ck_LK ck_tab 91 kc_91 3000 = true := by decide +kernel
set_option maxRecDepth 100000 in
theorem ok_92 : ck_check ck_tags ck_pvs0 ck_protA ck_LK ck_tab 92 kc_92 3000 = true := by decide +kernel
set_option maxRecDepth 100000 in
theorem ok_93 : ck_check ck_tags ck_pvs0 ck_protA ck_LK ck_tab 93 kc_93 3000 = true := by decide +kernel
set_option maxRecDepth 100000 in
theorem ok_94 : ck_check ck_tags ck_pvs0 ck_protA ck_LK ck_tab 94 kc_94 3000 = true := by decide +kernel
set_option maxRecDepth 100000 in
theorem ok_95 : ck_check ck_tags ck_pvs0 ck_protA ck_LK ck_tab 95 kc_95 3000 = true := by decide +kernel
set_option maxRecDepth 100000 in
theorem ok_96 : ck_check ck_tags ck_pvs0 ck_protA ck_LK ck_tab 96 kc_96 3000 = true := by decide +kernel
set_option maxRecDepth 100000 in
theorem ok_97 : ck_check ck_tags ck_pvs0 ck_protA ck_LK ck_tab 97 kc_97 3000 = true := by decide +kernel
set_option maxRecDepth 100000 in
theorem ok_98 : ck_check ck_tags ck_pvs0 ck_protA ck_LK ck_tab 98 kc_98 3000 = true := by decide +kernel
set_option maxRecDepth 100000 in
theorem ok_99 : ck_check ck_tags ck_pvs0 ck_protA ck_LK ck_tab 99 kc_99 3000 = true := by decide +kernel
set_option maxRecDepth 100000 in
theorem ok_100 : ck_check ck_tags ck_pvs0 ck_protA ck_LK ck_tab 100 kc_100 3000 = true := by decide +kernel
set_option maxRecDepth 100000 in
theorem ok_101 : ck_check ck_tags ck_pvs0 ck_protA ck_LK ck_tab 101 kc_101 3000 = true := by decide +kernel
set_option maxRecDepth 100000 in
theorem ok_102 : ck_check ck_tags ck_pvs0 ck_protA ck_LK ck_tab 102 kc_102 3000 = true := by decide +kernel
set_option maxRecDepth 100000 in
theorem ok_103 : ck_check ck_tags ck_pvs0 ck_protA ck_LK ck_tab 103 kc_103 3000 = true := by decide +kernel
set_option maxRecDepth 100000 in
theorem ok_104 : ck_check ck_tags ck_pvs0 ck_protA ck_LK ck_tab 104 kc_104 3000 = true := by decide +kernel
set_option maxRecDepth 100000 in
theorem ok_105 : ck_check ck_tags ck_pvs0 ck_protA ck_LK ck_tab 105 kc_105 3000 = true := by decide +kernel
set_option maxRecDepth 100000 in
theorem ok_106 : ck_check ck_tags ck_pvs0 ck_protA ck_LK ck_tab 106 kc_106 3000 = true := by decide +kernel
set_option maxRecDepth 100000 in
theorem ok_107 : ck_check ck_tags ck_pvs0 ck_protA ck_LK ck_tab 107 kc_107 3000 = true := by decide +kernel
set_option maxRecDepth 100000 in
theorem ok_108 : ck_check ck_tags ck_pvs0 ck_protA ck_LK ck_tab 108 kc_108 3000 = true := by decide +kernel
set_option maxRecDepth 100000 in
theorem ok_109 : ck_check ck_tags ck_pvs0 ck_protA ck_LK ck_tab 109 kc_109 3000 = true := by decide +kernel
set_option maxRecDepth 100000 in
theorem ok_110 : ck_check ck_tags ck_pvs0 ck_protA ck_LK ck_tab 110 kc_110 3000 = true := by decide +kernel
set_option maxRecDepth 100000 in
theorem ok_111 : ck_check ck_tags ck_pvs0 ck_protA ck_LK ck_tab 111 kc_111 3000 = true := by decide +kernel
set_option maxRecDepth 100000 in
theorem ok_112 : ck_check ck_tags ck_pvs0 ck_protA ck_LK ck_tab 112 kc_112 3000 = true := by decide +kernel
set_option maxRecDepth 100000 in
theorem ok_113 : ck_check ck_tags ck_pvs0 ck_protA ck_LK ck_tab 113 kc_113 3000 = true := by decide +kernel
set_option maxRecDepth 100000 in
theorem ok_114 : ck_check ck_tags ck_pvs0 ck_protA ck_LK ck_tab 114 kc_114 3000 = true := by decide +kernel
set_option maxRecDepth 100000 in
theorem ok_115 : ck_check ck_tags ck_pvs0 ck_protA ck_LK ck_tab 115 kc_115 3000 = true := by decide +kernel
set_option maxRecDepth 100000 in
theorem ok_116 : ck_check ck_tags ck_pvs0 ck_protA ck_LK ck_tab 116 kc_116 3000 = true := by decide +kernel
set_option maxRecDepth 100000 in
theorem ok_117 : ck_check ck_tags ck_pvs0 ck_protA ck_LK ck_tab 117 kc_117 3000 = true := by decide +kernel
set_option maxRecDepth 100000 in
theorem ok_118 : ck_check ck_tags ck_pvs0 ck_protA ck_LK ck_tab 118 kc_118 3000 = true := by decide +kernel
set_option maxRecDepth 100000 in
theorem ok_119 : ck_check ck_tags ck_pvs0 ck_protA ck_LK ck_tab 119 kc_119 3000 = true := by decide +kernel
set_option maxRecDepth 100000 in
theorem ok_120 : ck_check ck_tags ck_pvs0 ck_protA ck_LK ck_tab 120 kc_120 3000 = true := by decide +kernel
set_option maxRecDepth 100000 in
theorem ok_121 : ck_check ck_tags ck_pvs0 ck_protA ck_LK ck_tab 121 kc_121 3000 = true := by decide +kernel
set_option maxRecDepth 100000 in
theorem ok_122 : ck_check ck_tags ck_pvs0 ck_protA ck_LK ck_tab 122 kc_122 3000 = true := by decide +kernel
set_option maxRecDepth 100000 in
theorem ok_123 : ck_check ck_tags ck_pvs0 ck_protA ck_LK ck_tab 123 kc_123 3000 = true := by decide +kernel
set_option maxRecDepth 100000 in
theorem ok_124 : ck_check ck_tags ck_pvs0 ck_protA ck_LK ck_tab 124 kc_124 3000 = true := by decide +kernel
set_option maxRecDepth 100000 in
theorem ok_125 : ck_check ck_tags ck_pvs0 ck_protA ck_LK ck_tab 125 kc_125 3000 = true := by decide +kernel
set_option maxRecDepth 100000 in
theorem ok_126 : ck_check ck_tags ck_pvs0 ck_protA ck_LK ck_tab 126 kc_126 3000 = true := by decide +kernel
set_option maxRecDepth 100000 in
theorem ok_127 : ck_check ck_tags ck_pvs0 ck_protA ck_LK ck_tab 127 kc_127 3000 = true := by decide +kernel
set_option maxRecDepth 100000 in
theorem ok_128 : ck_check ck_tags ck_pvs0 ck_protA ck_LK ck_tab 128 kc_128 3000 = true := by decide +kernel
set_option maxRecDepth 100000 in
theorem ok_129 : ck_check ck_tags ck_pvs0 ck_protA ck_LK ck_tab 129 kc_129 3000 = true := by decide +kernel
