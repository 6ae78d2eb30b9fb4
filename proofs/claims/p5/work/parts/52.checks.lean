/-! each method checked -/
set_option maxRecDepth 100000 in
theorem ok_130 : ck_check ck_tags ck_pvs0 ck_protA ck_LK ck_tab 130 kc_130 3000 = true := by decide +kernel
set_option maxRecDepth 100000 in
theorem ok_131 : ck_check ck_tags ck_pvs0 ck_protA ck_LK ck_tab 131 kc_131 3000 = true := by decide +kernel
set_option maxRecDepth 100000 in
theorem ok_132 : ck_check ck_tags ck_pvs0 ck_protA ck_LK ck_tab 132 kc_132 3000 = true := by decide +kernel
set_option maxRecDepth 100000 in
theorem ok_133 : ck_check ck_tags ck_pvs0 ck_protA ck_LK ck_tab 133 kc_133 3000 = true := by decide +kernel
set_option maxRecDepth 100000 in
theorem ok_134 : ck_check ck_tags ck_pvs0 ck_protA ck_LK ck_tab 134 kc_134 3000 = true := by decide +kernel
set_option maxRecDepth 100000 in
theorem ok_135 : ck_check ck_tags ck_pvs0 ck_protA ck_LK ck_tab 135 kc_135 3000 = true := by decide +kernel
set_option maxRecDepth 100000 in
theorem ok_136 : ck_check ck_tags ck_pvs0 ck_protA ck_LK ck_tab 136 kc_136 3000 = true := by decide +kernel
set_option maxRecDepth 100000 in
theorem ok_137 : ck_check ck_tags ck_pvs0 ck_protA ck_LK ck_tab 137 kc_137 3000 = true := by decide +kernel
set_option maxRecDepth 100000 in
theorem ok_138 : ck_check ck_tags ck_pvs0 ck_protA ck_LK ck_tab 138 kc_138 3000 = true := by decide +kernel
set_option maxRecDepth 100000 in
theorem ok_139 : ck_check ck_tags ck_pvs0 ck_protA ck_LK ck_tab 139 kc_139 3000 = true := by decide +kernel
set_option maxRecDepth 100000 in
theorem ok_140 : ck_check ck_tags ck_pvs0 ck_protA ck_LK ck_tab 140 kc_140 3000 = true := by decide +kernel
set_option maxRecDepth 100000 in
theorem ok_141 : ck_check ck_tags ck_pvs0 ck_protA ck_LK ck_tab 141 kc_141 3000 = true := by decide +kernel
set_option maxRecDepth 100000 in
theorem ok_142 : ck_check ck_tags ck_pvs0 ck_protA ck_LK ck_tab 142 kc_142 3000 = true := by decide +kernel
set_option maxRecDepth 100000 in
theorem ok_143 : ck_check ck_tags ck_pvs0 ck_protA ck_LK ck_tab 143 kc_143 3000 = true := by decide +kernel
set_option maxRecDepth 100000 in
theorem ok_144 : ck_check ck_tags ck_pvs0 ck_protA ck_LK ck_tab 144 kc_144 3000 = true := by decide +kernel
set_option maxRecDepth 100000 in
theorem ok_145 : ck_check ck_tags ck_pvs0 ck_protA ck_LK ck_tab 145 kc_145 3000 = true := by decide +kernel
set_option maxRecDepth 100000 in
theorem ok_146 : ck_check ck_tags ck_pvs0 ck_protA ck_LK ck_tab 146 kc_146 3000 = true := by decide +kernel
set_option maxRecDepth 100000 in
theorem ok_147 : ck_check ck_tags ck_pvs0 ck_protA ck_LK ck_tab 147 kc_147 3000 = true := by decide +kernel
set_option maxRecDepth 100000 in
theorem ok_148 : ck_check ck_tags ck_pvs0 ck_protA ck_LK ck_tab 148 kc_148 3000 = true := by decide +kernel
set_option maxRecDepth 100000 in
theorem ok_149 : ck_check ck_tags ck_pvs0 ck_protA ck_LK ck_tab 149 kc_149 3000 = true := by decide +kernel
set_option maxRecDepth 100000 in
theorem ok_150 : ck_check ck_tags ck_pvs0 ck_protA ck_LK ck_tab 150 kc_150 3000 = true := by decide +kernel
set_option maxRecDepth 100000 in
theorem ok_151 : ck_check ck_tags ck_pvs0 ck_protA ck_LK ck_tab 151 kc_151 3000 = true := by decide +kernel
set_option maxRecDepth 100000 in
theorem ok_152 : ck_check ck_tags ck_pvs0 ck_protA ck_LK ck_tab 152 kc_152 3000 = true := by decide +kernel
set_option maxRecDepth 100000 in
theorem ok_153 : ck_check ck_tags ck_pvs0 ck_protA ck_LK ck_tab 153 kc_153 3000 = true := by decide +kernel
set_option maxRecDepth 100000 in
theorem ok_154 : ck_check ck_tags ck_pvs0 ck_protA ck_LK ck_tab 154 kc_154 3000 = true := by decide +kernel
set_option maxRecDepth 100000 in
theorem ok_155 : ck_check ck_tags ck_pvs0 ck_protA ck_LK ck_tab 155 kc_155 3000 = true := by decide +kernel
set_option maxRecDepth 100000 in
theorem ok_156 : ck_check ck_tags ck_pvs0 ck_protA ck_LK ck_tab 156 kc_156 3000 = true := by decide +kernel
set_option maxRecDepth 100000 in
theorem ok_157 : ck_check ck_tags ck_pvs0 ck_protA ck_LK ck_tab 157 kc_157 3000 = true := by decide +kernel
set_option maxRecDepth 100000 in
theorem ok_158 : ck_check ck_tags ck_pvs0 ck_protA ck_LK ck_tab 158 kc_158 3000 = true := by decide +kernel
set_option maxRecDepth 100000 in
theorem ok_159 : ck_check ck_tags ck_pvs0 ck_protA ck_LK ck_tab 159 kc_159 3000 = true := by decide +kernel
set_option maxRecDepth 100000 in
theorem ok_160 : ck_check ck_tags ck_pvs0 ck_protA ck_LK ck_tab 160 kc_160 3000 = true := by decide +kernel
set_option maxRecDepth 100000 in
theorem ok_161 : ck_check ck_tags ck_pvs0 ck_protA ck_LK ck_tab 161 kc_161 3000 = true := by decide +kernel
set_option maxRecDepth 100000 in
theorem ok_162 : ck_check ck_tags ck_pvs0 ck_protA ck_LK ck_tab 162 kc_162 3000 = true := by decide +kernel
set_option maxRecDepth 100000 in
theorem ok_163 : ck_check ck_tags ck_pvs0 ck_protA ck_LK ck_tab 163 kc_163 3000 = true := by decide +kernel
set_option maxRecDepth 100000 in
theorem ok_164 : ck_check ck_tags ck_pvs0 ck_protA ck_LK ck_tab 164 kc_164 3000 = true := by decide +kernel
set_option maxRecDepth 100000 in
theorem ok_165 : ck_check ck_tags ck_pvs0 ck_protA ck_LK ck_tab 165 kc_165 3000 = true := by decide +kernel
set_option maxRecDepth 100000 in
theorem ok_166 : ck_check ck_tags ck_pvs0 ck_protA ck_LK ck_tab 166 kc_166 3000 = true := by decide +kernel
set_option maxRecDepth 100000 in
theorem ok_167 : ck_check ck_tags ck_pvs0 ck_protA ck_LK ck_tab 167 kc_167 3000 = true := by decide +kernel
set_option maxRecDepth 100000 in
theorem ok_168 : ck_check ck_tags ck_pvs0 ck_protA ck_LK ck_tab 168 kc_168 3000 = true := by decide +kernel
set_option maxRecDepth 100000 in
theorem ok_169 : ck_check ck_tags ck_pvs0 ck_protA ck_LK ck_tab 169 kc_169 3000 = true := by decide +kernel
set_option maxRecDepth 100000 in
theorem ok_170 : ck_check ck_tags ck_pvs0 ck_protA ck_LK ck_tab 170 kc_170 3000 = true := by decide +kernel
set_option maxRecDepth 100000 in
theorem ok_171 : ck_check ck_tags ck_pvs0 ck_protA ck_LK ck_tab 171 kc_171 3000 = true := by decide +kernel
set_option maxRecDepth 100000 in
theorem ok_172 : ck_check ck_tags ck_pvs0 ck_protA ck_LK ck_tab 172 kc_172 3000 = true := by decide +kernel
set_option maxRecDepth 100000 in
theorem ok_173 : ck_check ck_tags ck_pvs0 ck_protA ck_LK ck_tab 173 kc_173 3000 = true := by decide +kernel
set_option maxRecDepth 100000 in
theorem ok_174 : ck_check ck_tags ck_pvs0 ck_protA ck_LK ck_tab 174 kc_174 3000 = true := by decide +kernel
set_option maxRecDepth 100000 in
theorem ok_175 : ck_check ck_tags ck_pvs0 ck_protA ck_LK ck_tab 175 kc_175 3000 = true := by decide +kernel
set_option maxRecDepth 100000 in
theorem ok_176 : ck_check ck_tags ck_pvs0 ck_protA ck_LK ck_tab 176 kc_176 3000 = true := by decide +kernel
set_option maxRecDepth 100000 in
theorem ok_177 : ck_check ck_tags ck_pvs0 ck_protA ck_LK ck_tab 177 kc_177 3000 = true := by decide +kernel
set_option maxRecDepth 100000 in
theorem ok_178 : ck_check ck_tags ck_pvs0 ck_protA ck_LK ck_tab 178 kc_178 3000 = true := by decide +kernel
set_option maxRecDepth 100000 in
theorem ok_179 : ck_check ck_tags ck_pvs0 ck_protA ck_LK ck_tab 179 kc_179 3000 = true := by decide +kernel
set_option maxRecDepth 100000 in
theorem ok_180 : ck_check ck_tags ck_pvs0 ck_protA ck_LK ck_tab 180 kc_180 3000 = true := by decide +kernel
set_option maxRecDepth 100000 in
theorem ok_181 : ck_check ck_tags ck_pvs0 ck_protA ck_LK ck_tab 181 kc_181 3000 = true := by decide +kernel
set_option maxRecDepth 100000 in
theorem ok_182 : ck_check ck_tags ck_pvs0 ck_protA ck_LK ck_tab 182 kc_182 3000 = true := by decide +kernel
set_option maxRecDepth 100000 in
theorem ok_183 : ck_check ck_tags ck_pvs0 ck_protA ck_LK ck_tab 183 kc_183 3000 = true := by decide +kernel
set_option maxRecDepth 100000 in
theorem ok_184 : ck_check ck_tags ck_pvs0 ck_protA ck_LK ck_tab 184 kc_184 3000 = true := by decide +kernel
set_option maxRecDepth 100000 in
theorem ok_185 : ck_check ck_tags ck_pvs0 ck_protA ck_LK ck_tab 185 kc_185 3000 = true := by decide +kernel
set_option maxRecDepth 100000 in
theorem ok_186 : ck_check ck_tags ck_pvs0 ck_protA ck_LK ck_tab 186 kc_186 3000 = true := by decide +kernel
set_option maxRecDepth 100000 in
theorem ok_187 : ck_check ck_tags ck_pvs0 ck_protA ck_LK ck_tab 187 kc_187 3000 = true := by decide +kernel
set_option maxRecDepth 100000 in
theorem ok_188 : ck_check ck_tags ck_pvs0 ck_protA ck_LK ck_tab 188 kc_188 3000 = true := by decide +kernel
set_option maxRecDepth 100000 in
theorem ok_189 : ck_check ck_tags ck_pvs0 ck_protA ck_LK ck_tab 189 kc_189 3000 = true := by decide +kernel
set_option maxRecDepth 100000 in
theorem ok_190 : ck_check ck_tags ck_pvs0 ck_protA ck_LK ck_tab 190 kc_190 3000 = true := by decide +kernel
set_option maxRecDepth 100000 in
theorem ok_191 : ck_check ck_tags ck_pvs0 ck_protA ck_LK ck_tab 191 kc_191 3000 = true := by decide +kernel
set_option maxRecDepth 100000 in
theorem ok_192 : ck_check ck_tags ck_pvs0 ck_protA ck_LK ck_tab 192 kc_192 3000 = true := by decide +kernel
set_option maxRecDepth 100000 in
theorem ok_193 : ck_check ck_tags ck_pvs0 ck_protA ck_LK ck_tab 193 kc_193 3000 = true := by decide +kernel
