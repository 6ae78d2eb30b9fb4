/-! each method checked -/
set_option maxRecDepth 100000 in
theorem ok_262 : ck_check ck_tags ck_pvs0 ck_protA ck_LK ck_tab 262 kc_262 3000 = true := by decide +kernel
set_option maxRecDepth 100000 in
theorem ok_263 : ck_check ck_tags ck_pvs0 ck_protA ck_LK ck_tab 263 kc_263 3000 = true := by decide +kernel
set_option maxRecDepth 100000 in
theorem ok_264 : ck_check ck_tags ck_pvs0 ck_protA ck_LK ck_tab 264 kc_264 3000 = true := by decide +kernel
set_option maxRecDepth 100000 in
theorem ok_265 : ck_check ck_tags ck_pvs0 ck_protA ck_LK ck_tab 265 kc_265 3000 = true := by decide +kernel
set_option maxRecDepth 100000 in
theorem ok_267 : ck_check ck_tags ck_pvs0 ck_protA ck_LK ck_tab 267 kc_267 3000 = true := by decide +kernel
set_option maxRecDepth 100000 in
theorem ok_268 : ck_check ck_tags ck_pvs0 ck_protA ck_LK ck_tab 268 kc_268 3000 = true := by decide +kernel
set_option maxRecDepth 100000 in
theorem ok_269 : ck_check ck_tags ck_pvs0 ck_protA ck_LK ck_tab 269 kc_269 3000 = true := by decide +kernel
set_option maxRecDepth 100000 in
theorem ok_270 : ck_check ck_tags ck_pvs0 ck_protA ck_LK ck_tab 270 kc_270 3000 = true := by decide +kernel
set_option maxRecDepth 100000 in
theorem ok_271 : ck_check ck_tags ck_pvs0 ck_protA ck_LK ck_tab 271 kc_271 3000 = true := by decide +kernel
set_option maxRecDepth 100000 in
theorem ok_272 : ck_check ck_tags ck_pvs0 ck_protA ck_LK ck_tab 272 kc_272 3000 = true := by decide +kernel
set_option maxRecDepth 100000 in
theorem ok_273 : ck_check ck_tags ck_pvs0 ck_prot0 ck_LK ck_tab 273 kc_273 3000 = true := by decide +kernel
set_option maxRecDepth 100000 in
theorem ok_274 : ck_check ck_tags ck_pvs0 ck_prot0 ck_LK ck_tab 274 kc_274 3000 = true := by decide +kernel
set_option maxRecDepth 100000 in
theorem ok_275 : ck_check ck_tags ck_pvs0 ck_prot0 ck_LK ck_tab 275 kc_275 3000 = true := by decide +kernel
set_option maxRecDepth 100000 in
theorem ok_276 : ck_check ck_tags ck_pvs0 ck_prot0 ck_LK ck_tab 276 kc_276 3000 = true := by decide +kernel
set_option maxRecDepth 100000 in
theorem ok_277 : ck_check ck_tags ck_pvs0 ck_prot0 ck_LK ck_tab 277 kc_277 3000 = true := by decide +kernel
set_option maxRecDepth 100000 in
theorem ok_278 : ck_check ck_tags ck_pvs0 ck_prot0 ck_LK ck_tab 278 kc_278 3000 = true := by decide +kernel
set_option maxRecDepth 100000 in
theorem ok_279 : ck_check ck_tags ck_pvs0 ck_prot0 ck_LK ck_tab 279 kc_279 3000 = true := by decide +kernel
set_option maxRecDepth 100000 in
theorem ok_280 : ck_check ck_tags ck_pvs0 ck_prot0 ck_LK ck_tab 280 kc_280 3000 = true := by decide +kernel
set_option maxRecDepth 100000 in
theorem ok_281 : ck_check ck_tags ck_pvs0 ck_prot0 ck_LK ck_tab 281 kc_281 3000 = true := by decide +kernel
set_option maxRecDepth 100000 in
theorem ok_282 : ck_check ck_tags ck_pvs0 ck_prot0 ck_LK ck_tab 282 kc_282 3000 = true := by decide +kernel
set_option maxRecDepth 100000 in
theorem ok_283 : ck_check ck_tags ck_pvs0 ck_prot0 ck_LK ck_tab 283 kc_283 3000 = true := by decide +kernel
set_option maxRecDepth 100000 in
theorem ok_284 : ck_check ck_tags ck_pvs0 ck_prot0 ck_LK ck_tab 284 kc_284 3000 = true := by decide +kernel
set_option maxRecDepth 100000 in
theorem ok_285 : ck_check ck_tags ck_pvs0 ck_prot0 ck_LK ck_tab 285 kc_285 3000 = true := by decide +kernel
set_option maxRecDepth 100000 in
theorem ok_286 : ck_check ck_tags ck_pvs0 ck_prot0 ck_LK ck_tab 286 kc_286 3000 = true := by decide +kernel
set_option maxRecDepth 100000 in
theorem ok_287 : ck_check ck_tags ck_pvs0 ck_prot0 ck_LK ck_tab 287 kc_287 3000 = true := by decide +kernel
set_option maxRecDepth 100000 in
theorem ok_289 : ck_check ck_tags ck_pvs0 ck_prot0 ck_LK ck_tab 289 kc_289 3000 = true := by decide +kernel
set_option maxRecDepth 100000 in
theorem ok_290 : ck_check ck_tags ck_pvs0 ck_prot0 ck_LK ck_tab 290 kc_290 3000 = true := by decide +kernel
set_option maxRecDepth 100000 in
theorem ok_291 : ck_check ck_tags ck_pvs0 ck_prot0 ck_LK ck_tab 291 kc_291 3000 = true := by decide +kernel
set_option maxRecDepth 100000 in
theorem ok_292 : ck_check ck_tags ck_pvs0 ck_prot0 ck_LK ck_tab 292 kc_292 3000 = true := by decide +kernel
set_option maxRecDepth 100000 in
theorem ok_293 : ck_check ck_tags ck_pvs0 ck_prot0 ck_LK ck_tab 293 kc_293 3000 = true := by decide +kernel
set_option maxRecDepth 100000 in
theorem ok_294 : ck_check ck_tags ck_pvs0 ck_prot0 ck_LK ck_tab 294 kc_294 3000 = true := by decide +kernel
set_option maxRecDepth 100000 in
theorem ok_295 : ck_check ck_tags ck_pvs0 ck_prot0 ck_LK ck_tab 295 kc_295 3000 = true := by decide +kernel
set_option maxRecDepth 100000 in
theorem ok_296 : ck_check ck_tags ck_pvs0 ck_prot0 ck_LK ck_tab 296 kc_296 3000 = true := by decide +kernel
set_option maxRecDepth 100000 in
theorem ok_297 : ck_check ck_tags ck_pvs0 ck_prot0 ck_LK ck_tab 297 kc_297 3000 = true := by decide +kernel
set_option maxRecDepth 100000 in
theorem ok_298 : ck_check ck_tags ck_pvs0 ck_prot0 ck_LK ck_tab 298 kc_298 3000 = true := by decide +kernel
set_option maxRecDepth 100000 in
theorem ok_299 : ck_check ck_tags ck_pvs0 ck_prot0 ck_LK ck_tab 299 kc_299 3000 = true := by decide +kernel
set_option maxRecDepth 100000 in
theorem ok_300 : ck_check ck_tags ck_pvs0 ck_prot0 ck_LK ck_tab 300 kc_300 3000 = true := by decide +kernel
set_option maxRecDepth 100000 in
theorem ok_301 : ck_check ck_tags ck_pvs0 ck_prot0 ck_LK ck_tab 301 kc_301 3000 = true := by decide +kernel
set_option maxRecDepth 100000 in
theorem ok_302 : ck_check ck_tags ck_pvs0 ck_prot0 ck_LK ck_tab 302 kc_302 3000 = true := by decide +kernel
set_option maxRecDepth 100000 in
theorem ok_303 : ck_check ck_tags ck_pvs0 ck_prot0 ck_LK ck_tab 303 kc_303 3000 = true := by decide +kernel
set_option maxRecDepth 100000 in
theorem ok_304 : ck_check ck_tags ck_pvs0 ck_prot0 ck_LK ck_tab 304 kc_304 3000 = true := by decide +kernel
set_option maxRecDepth 100000 in
theorem ok_305 : ck_check ck_tags ck_pvs0 ck_prot0 ck_LK ck_tab 305 kc_305 3000 = true := by decide +kernel
set_option maxRecDepth 100000 in
theorem ok_306 : ck_check ck_tags ck_pvs0 ck_prot0 ck_LK ck_tab 306 kc_306 3000 = true := by decide +kernel
set_option maxRecDepth 100000 in
theorem ok_307 : ck_check ck_tags ck_pvs0 ck_prot0 ck_LK ck_tab 307 kc_307 3000 = true := by decide +kernel
set_option maxRecDepth 100000 in
theorem ok_308 : ck_check ck_tags ck_pvs0 ck_prot0 ck_LK ck_tab 308 kc_308 3000 = true := by decide +kernel
set_option maxRecDepth 100000 in
theorem ok_309 : ck_check ck_tags ck_pvs0 ck_prot0 ck_LK ck_tab 309 kc_309 3000 = true := by decide +kernel
set_option maxRecDepth 100000 in
theorem ok_310 : ck_check ck_tags ck_pvs0 ck_prot0 ck_LK ck_tab 310 kc_310 3000 = true := by decide +kernel
set_option maxRecDepth 100000 in
theorem ok_311 : ck_check ck_tags ck_pvs0 ck_prot0 ck_LK ck_tab 311 kc_311 3000 = true := by decide +kernel
set_option maxRecDepth 100000 in
theorem ok_312 : ck_check ck_tags ck_pvs0 ck_prot0 ck_LK ck_tab 312 kc_312 3000 = true := by decide +kernel
set_option maxRecDepth 100000 in
theorem ok_313 : ck_check ck_tags ck_pvs0 ck_prot0 ck_LK ck_tab 313 kc_313 3000 = true := by decide +kernel
set_option maxRecDepth 100000 in
theorem ok_314 : ck_check ck_tags ck_pvs0 ck_prot0 ck_LK ck_tab 314 kc_314 3000 = true := by decide +kernel
