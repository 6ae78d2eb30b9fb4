/-! each method checked -/
set_option maxRecDepth 100000 in
theorem ok_194 : ck_check ck_tags ck_pvs0 ck_protA ck_LK ck_tab 194 kc_194 3000 = true := by decide +kernel
set_option maxRecDepth 100000 in
theorem ok_195 : ck_check ck_tags ck_pvs0 ck_protA ck_LK ck_tab 195 kc_195 3000 = true := by decide +kernel
set_option maxRecDepth 100000 in
theorem ok_196 : ck_check ck_tags ck_pvs0 ck_protA ck_LK ck_tab 196 kc_196 3000 = true := by decide +kernel
set_option maxRecDepth 100000 in
theorem ok_197 : ck_check ck_tags ck_pvs0 ck_protA ck_LK ck_tab 197 kc_197 3000 = true := by decide +kernel
set_option maxRecDepth 100000 in
theorem ok_198 : ck_check ck_tags ck_pvs0 ck_protA ck_LK ck_tab 198 kc_198 3000 = true := by decide +kernel
set_option maxRecDepth 100000 in
theorem ok_199 : ck_check ck_tags ck_pvs0 ck_protA ck_LK ck_tab 199 kc_199 3000 = true := by decide +kernel
set_option maxRecDepth 100000 in
theorem ok_200 : ck_check ck_tags ck_pvs0 ck_protA ck_LK ck_tab 200 kc_200 3000 = true := by decide +kernel
set_option maxRecDepth 100000 in
theorem ok_201 : ck_check ck_tags ck_pvs0 ck_protA ck_LK ck_tab 201 kc_201 3000 = true := by decide +kernel
set_option maxRecDepth 100000 in
theorem ok_202 : ck_check ck_tags ck_pvs0 ck_protA ck_LK ck_tab 202 kc_202 3000 = true := by decide +kernel
set_option maxRecDepth 100000 in
theorem ok_203 : ck_check ck_tags ck_pvs0 ck_protA ck_LK ck_tab 203 kc_203 3000 = true := by decide +kernel
set_option maxRecDepth 100000 in
theorem ok_205 : ck_check ck_tags ck_pvs0 ck_protA ck_LK ck_tab 205 kc_205 3000 = true := by decide +kernel
set_option maxRecDepth 100000 in
theorem ok_206 : ck_check ck_tags ck_pvs0 ck_protA ck_LK ck_tab 206 kc_206 3000 = true := by decide +kernel
set_option maxRecDepth 100000 in
theorem ok_207 : ck_check ck_tags ck_pvs0 ck_protA ck_LK ck_tab 207 kc_207 3000 = true := by decide +kernel
set_option maxRecDepth 100000 in
theorem ok_208 : ck_check ck_tags ck_pvs0 ck_protA ck_LK ck_tab 208 kc_208 3000 = true := by decide +kernel
set_option maxRecDepth 100000 in
theorem ok_209 : ck_check ck_tags ck_pvs0 ck_protA ck_LK ck_tab 209 kc_209 3000 = true := by decide +kernel
set_option maxRecDepth 100000 in
theorem ok_210 : ck_check ck_tags ck_pvs0 ck_protA ck_LK ck_tab 210 kc_210 3000 = true := by decide +kernel
set_option maxRecDepth 100000 in
theorem ok_211 : ck_check ck_tags ck_pvs0 ck_protA ck_LK ck_tab 211 kc_211 3000 = true := by decide +kernel
set_option maxRecDepth 100000 in
theorem ok_213 : ck_check ck_tags ck_pvs0 ck_protA ck_LK ck_tab 213 kc_213 3000 = true := by decide +kernel
set_option maxRecDepth 100000 in
theorem ok_214 : ck_check ck_tags ck_pvs0 ck_protA ck_LK ck_tab 214 kc_214 3000 = true := by decide +kernel
set_option maxRecDepth 100000 in
theorem ok_215 : ck_check ck_tags ck_pvs0 ck_protA ck_LK ck_tab 215 kc_215 3000 = true := by decide +kernel
set_option maxRecDepth 100000 in
theorem ok_216 : ck_check ck_tags ck_pvs0 ck_protA ck_LK ck_tab 216 kc_216 3000 = true := by decide +kernel
set_option maxRecDepth 100000 in
theorem ok_217 : ck_check ck_tags ck_pvs0 ck_protA ck_LK ck_tab 217 kc_217 3000 = true := by decide +kernel
set_option maxRecDepth 100000 in
theorem ok_218 : ck_check ck_tags ck_pvs0 ck_protA ck_LK ck_tab 218 kc_218 3000 = true := by decide +kernel
set_option maxRecDepth 100000 in
theorem ok_219 : ck_check ck_tags ck_pvs0 ck_protA ck_LK ck_tab 219 kc_219 3000 = true := by decide +kernel
set_option maxRecDepth 100000 in
theorem ok_220 : ck_check ck_tags ck_pvs0 ck_protA ck_LK ck_tab 220 kc_220 3000 = true := by decide +kernel
set_option maxRecDepth 100000 in
theorem ok_221 : ck_check ck_tags ck_pvs0 ck_protA ck_LK ck_tab 221 kc_221 3000 = true := by decide +kernel
set_option maxRecDepth 100000 in
theorem ok_222 : ck_check ck_tags ck_pvs0 ck_protA ck_LK ck_tab 222 kc_222 3000 = true := by decide +kernel
set_option maxRecDepth 100000 in
theorem ok_223 : ck_check ck_tags ck_pvs0 ck_protA ck_LK ck_tab 223 kc_223 3000 = true := by decide +kernel
set_option maxRecDepth 100000 in
theorem ok_224 : ck_check ck_tags ck_pvs0 ck_protA ck_LK ck_tab 224 kc_224 3000 = true := by decide +kernel
set_option maxRecDepth 100000 in
theorem ok_225 : ck_check ck_tags ck_pvs0 ck_protA ck_LK ck_tab 225 kc_225 3000 = true := by decide +kernel
set_option maxRecDepth 100000 in
theorem ok_226 : ck_check ck_tags ck_pvs0 ck_protA ck_LK ck_tab 226 kc_226 3000 = true := by decide +kernel
set_option maxRecDepth 100000 in
theorem ok_227 : ck_check ck_tags ck_pvs0 ck_protA ck_LK ck_tab 227 kc_227 3000 = true := by decide +kernel
set_option maxRecDepth 100000 in
theorem ok_228 : ck_check ck_tags ck_pvs0 ck_protA ck_LK ck_tab 228 kc_228 3000 = true := by decide +kernel
set_option maxRecDepth 100000 in
theorem ok_229 : ck_check ck_tags ck_pvs0 ck_protA ck_LK ck_tab 229 kc_229 3000 = true := by decide +kernel
set_option maxRecDepth 100000 in
theorem ok_230 : ck_check ck_tags ck_pvs0 ck_protA ck_LK ck_tab 230 kc_230 3000 = true := by decide +kernel
set_option maxRecDepth 100000 in
theorem ok_231 : ck_check ck_tags ck_pvs0 ck_protA ck_LK ck_tab 231 kc_231 3000 = true := by decide +kernel
set_option maxRecDepth 100000 in
theorem ok_232 : ck_check ck_tags ck_pvs0 ck_protA ck_LK ck_tab 232 kc_232 3000 = true := by decide +kernel
set_option maxRecDepth 100000 in
theorem ok_233 : ck_check ck_tags ck_pvs0 ck_protA ck_LK ck_tab 233 kc_233 3000 = true := by decide +kernel
set_option maxRecDepth 100000 in
theorem ok_235 : ck_check ck_tags ck_pvs0 ck_protA ck_LK ck_tab 235 kc_235 3000 = true := by decide +kernel
set_option maxRecDepth 100000 in
theorem ok_236 : ck_check ck_tags ck_pvs0 ck_protA ck_LK ck_tab 236 kc_236 3000 = true := by decide +kernel
set_option maxRecDepth 100000 in
theorem ok_237 : ck_check ck_tags ck_pvs0 ck_protA ck_LK ck_tab 237 kc_237 3000 = true := by decide +kernel
set_option maxRecDepth 100000 in
theorem ok_238 : ck_check ck_tags ck_pvs0 ck_protA ck_LK ck_tab 238 kc_238 3000 = true := by decide +kernel
set_option maxRecDepth 100000 in
theorem ok_239 : ck_check ck_tags ck_pvs0 ck_protA ck_LK ck_tab 239 kc_239 3000 = true := by decide +kernel
set_option maxRecDepth 100000 in
theorem ok_240 : ck_check ck_tags ck_pvs0 ck_protA ck_LK ck_tab 240 kc_240 3000 = true := by decide +kernel
set_option maxRecDepth 100000 in
theorem ok_241 : ck_check ck_tags ck_pvs0 ck_protA ck_LK ck_tab 241 kc_241 3000 = true := by decide +kernel
set_option maxRecDepth 100000 in
theorem ok_243 : ck_check ck_tags ck_pvs0 ck_protA ck_LK ck_tab 243 kc_243 3000 = true := by decide +kernel
set_option maxRecDepth 100000 in
theorem ok_244 : ck_check ck_tags ck_pvs0 ck_protA ck_LK ck_tab 244 kc_244 3000 = true := by decide +kernel
set_option maxRecDepth 100000 in
theorem ok_245 : ck_check ck_tags ck_pvs0 ck_protA ck_LK ck_tab 245 kc_245 3000 = true := by decide +kernel
set_option maxRecDepth 100000 in
theorem ok_246 : ck_check ck_tags ck_pvs0 ck_protA ck_LK ck_tab 246 kc_246 3000 = true := by decide +kernel
set_option maxRecDepth 100000 in
theorem ok_247 : ck_check ck_tags ck_pvs0 ck_protA ck_LK ck_tab 247 kc_247 3000 = true := by decide +kernel
set_option maxRecDepth 100000 in
theorem ok_248 : ck_check ck_tags ck_pvs0 ck_protA ck_LK ck_tab 248 kc_248 3000 = true := by decide +kernel
set_option maxRecDepth 100000 in
theorem ok_249 : ck_check ck_tags ck_pvs0 ck_protA ck_LK ck_tab 249 kc_249 3000 = true := by decide +kernel
set_option maxRecDepth 100000 in
theorem ok_250 : ck_check ck_tags ck_pvs0 ck_protA ck_LK ck_tab 250 kc_250 3000 = true := by decide +kernel
set_option maxRecDepth 100000 in
theorem ok_251 : ck_check ck_tags ck_pvs0 ck_protA ck_LK ck_tab 251 kc_251 3000 = true := by decide +kernel
set_option maxRecDepth 100000 in
theorem ok_252 : ck_check ck_tags ck_pvs0 ck_protA ck_LK ck_tab 252 kc_252 3000 = true := by decide +kernel
set_option maxRecDepth 100000 in
theorem ok_253 : ck_check ck_tags ck_pvs0 ck_protA ck_LK ck_tab 253 kc_253 3000 = true := by decide +kernel
set_option maxRecDepth 100000 in
theorem ok_254 : ck_check ck_tags ck_pvs0 ck_protA ck_LK ck_tab 254 kc_254 3000 = true := by decide +kernel
set_option maxRecDepth 100000 in
theorem ok_255 : ck_check ck_tags ck_pvs0 ck_protA ck_LK ck_tab 255 kc_255 3000 = true := by decide +kernel
set_option maxRecDepth 100000 in
theorem ok_256 : ck_check ck_tags ck_pvs0 ck_protA ck_LK ck_tab 256 kc_256 3000 = true := by decide +kernel
set_option maxRecDepth 100000 in
theorem ok_257 : ck_check ck_tags ck_pvs0 ck_protA ck_LK ck_tab 257 kc_257 3000 = true := by decide +kernel
set_option maxRecDepth 100000 in
theorem ok_258 : ck_check ck_tags ck_pvs0 ck_protA ck_LK ck_tab 258 kc_258 3000 = true := by decide +kernel
set_option maxRecDepth 100000 in
theorem ok_259 : ck_check ck_tags ck_pvs0 ck_protA ck_LK ck_tab 259 kc_259 3000 = true := by decide +kernel
set_option maxRecDepth 100000 in
theorem ok_260 : ck_check ck_tags ck_pvs0 ck_protA ck_LK ck_tab 260 kc_260 3000 = true := by decide +kernel
set_option maxRecDepth 100000 in
theorem ok_261 : ck_check ck_tags ck_pvs0 ck_protA ck_LK ck_tab 261 kc_261 3000 = true := by decide +kernel
