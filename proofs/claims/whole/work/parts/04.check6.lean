set_option maxRecDepth 100000 in
theorem ck_m_280 : ck_m 280 = true := by decide +kernel
set_option maxRecDepth 100000 in
theorem ck_m_281 : ck_m 281 = true := by decide +kernel
set_option maxRecDepth 100000 in
theorem ck_m_282 : ck_m 282 = true := by decide +kernel
set_option maxRecDepth 100000 in
theorem ck_m_283 : ck_m 283 = true := by decide +kernel
set_option maxRecDepth 100000 in
theorem ck_m_284 : ck_m 284 = true := by decide +kernel
set_option maxRecDepth 100000 in
theorem ck_m_285 : ck_m 285 = true := by decide +kernel
set_option maxRecDepth 100000 in
theorem ck_m_286 : ck_m 286 = true := by decide +kernel
set_option maxRecDepth 100000 in
theorem ck_m_287 : ck_m 287 = true := by decide +kernel
set_option maxRecDepth 100000 in
theorem ck_m_288 : ck_m 288 = true := by decide +kernel
set_option maxRecDepth 100000 in
theorem ck_m_289 : ck_m 289 = true := by decide +kernel
set_option maxRecDepth 100000 in
theorem ck_m_290 : ck_m 290 = true := by decide +kernel
set_option maxRecDepth 100000 in
theorem ck_m_291 : ck_m 291 = true := by decide +kernel
set_option maxRecDepth 100000 in
theorem ck_m_292 : ck_m 292 = true := by decide +kernel
set_option maxRecDepth 100000 in
theorem ck_m_293 : ck_m 293 = true := by decide +kernel
set_option maxRecDepth 100000 in
theorem ck_m_294 : ck_m 294 = true := by decide +kernel
set_option maxRecDepth 100000 in
theorem ck_m_295 : ck_m 295 = true := by decide +kernel
set_option maxRecDepth 100000 in
theorem ck_m_296 : ck_m 296 = true := by decide +kernel
set_option maxRecDepth 100000 in
theorem ck_m_297 : ck_m 297 = true := by decide +kernel
set_option maxRecDepth 100000 in
theorem ck_m_298 : ck_m 298 = true := by decide +kernel
set_option maxRecDepth 100000 in
theorem ck_m_299 : ck_m 299 = true := by decide +kernel
set_option maxRecDepth 100000 in
theorem ck_m_300 : ck_m 300 = true := by decide +kernel
set_option maxRecDepth 100000 in
theorem ck_m_301 : ck_m 301 = true := by decide +kernel
set_option maxRecDepth 100000 in
theorem ck_m_302 : ck_m 302 = true := by decide +kernel
set_option maxRecDepth 100000 in
theorem ck_m_303 : ck_m 303 = true := by decide +kernel
set_option maxRecDepth 100000 in
theorem ck_m_304 : ck_m 304 = true := by decide +kernel
set_option maxRecDepth 100000 in
theorem ck_m_305 : ck_m 305 = true := by decide +kernel
set_option maxRecDepth 100000 in
theorem ck_m_306 : ck_m 306 = true := by decide +kernel
set_option maxRecDepth 100000 in
theorem ck_m_307 : ck_m 307 = true := by decide +kernel
set_option maxRecDepth 100000 in
theorem ck_m_308 : ck_m 308 = true := by decide +kernel
set_option maxRecDepth 100000 in
theorem ck_m_309 : ck_m 309 = true := by decide +kernel
set_option maxRecDepth 100000 in
theorem ck_m_310 : ck_m 310 = true := by decide +kernel
set_option maxRecDepth 100000 in
theorem ck_m_311 : ck_m 311 = true := by decide +kernel
set_option maxRecDepth 100000 in
theorem ck_m_312 : ck_m 312 = true := by decide +kernel
set_option maxRecDepth 100000 in
theorem ck_m_313 : ck_m 313 = true := by decide +kernel
set_option maxRecDepth 100000 in
theorem ck_m_314 : ck_m 314 = true := by decide +kernel
set_option maxRecDepth 100000 in
theorem ck_m_315 : ck_m 315 = true := by decide +kernel
set_option maxRecDepth 100000 in
theorem ck_m_316 : ck_m 316 = true := by decide +kernel
set_option maxRecDepth 100000 in
theorem ck_m_317 : ck_m 317 = true := by decide +kernel
set_option maxRecDepth 100000 in
theorem ck_m_318 : ck_m 318 = true := by decide +kernel
set_option maxRecDepth 100000 in
theorem ck_m_319 : ck_m 319 = true := by decide +kernel
set_option maxRecDepth 100000 in
theorem ck_m_320 : ck_m 320 = true := by decide +kernel
set_option maxRecDepth 100000 in
theorem ck_m_321 : ck_m 321 = true := by decide +kernel
set_option maxRecDepth 100000 in
theorem ck_m_322 : ck_m 322 = true := by decide +kernel
set_option maxRecDepth 100000 in
theorem ck_m_323 : ck_m 323 = true := by decide +kernel
set_option maxRecDepth 100000 in
theorem ck_m_324 : ck_m 324 = true := by decide +kernel
set_option maxRecDepth 100000 in
theorem ck_m_325 : ck_m 325 = true := by decide +kernel
set_option maxRecDepth 100000 in
theorem ck_m_326 : ck_m 326 = true := by decide +kernel
set_option maxRecDepth 100000 in
theorem ck_m_327 : ck_m 327 = true := by decide +kernel
set_option maxRecDepth 100000 in
theorem ck_m_328 : ck_m 328 = true := by decide +kernel
set_option maxRecDepth 100000 in
theorem ck_m_329 : ck_m 329 = true := by decide +kernel
set_option maxRecDepth 100000 in
theorem ck_m_330 : ck_m 330 = true := by decide +kernel
set_option maxRecDepth 100000 in
theorem ck_m_331 : ck_m 331 = true := by decide +kernel
set_option maxRecDepth 100000 in
theorem ck_m_332 : ck_m 332 = true := by decide +kernel
