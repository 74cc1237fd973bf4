theorem dL_law_263 : decode code 263 = .ok (.ireturn, 1) := by decide +kernel
theorem dL_law_264 : decode code 264 = .ok (.goto 571, 3) := by decide +kernel
theorem dL_law_267 : decode code 267 = .ok (.aload_n 1, 1) := by decide +kernel
theorem dL_law_268 : decode code 268 = .ok (.aload_n 0, 1) := by decide +kernel
theorem dL_law_269 : decode code 269 = .ok (.iload 4, 2) := by decide +kernel
theorem dL_law_271 : decode code 271 = .ok (.iconst 1, 1) := by decide +kernel
theorem dL_law_272 : decode code 272 = .ok (.iadd, 1) := by decide +kernel
theorem dL_law_273 : decode code 273 = .ok (.iaload, 1) := by decide +kernel
theorem dL_law_274 : decode code 274 = .ok (.aload_n 0, 1) := by decide +kernel
theorem dL_law_275 : decode code 275 = .ok (.iload 4, 2) := by decide +kernel
theorem dL_law_277 : decode code 277 = .ok (.iconst 2, 1) := by decide +kernel
theorem dL_law_278 : decode code 278 = .ok (.iadd, 1) := by decide +kernel
theorem dL_law_279 : decode code 279 = .ok (.iaload, 1) := by decide +kernel
theorem dL_law_280 : decode code 280 = .ok (.aload_n 0, 1) := by decide +kernel
theorem dL_law_281 : decode code 281 = .ok (.iload 4, 2) := by decide +kernel
theorem dL_law_283 : decode code 283 = .ok (.iconst 3, 1) := by decide +kernel
theorem dL_law_284 : decode code 284 = .ok (.iadd, 1) := by decide +kernel
theorem dL_law_285 : decode code 285 = .ok (.iaload, 1) := by decide +kernel
theorem dL_law_286 : decode code 286 = .ok (.aload_n 3, 1) := by decide +kernel
theorem dL_law_287 : decode code 287 = .ok (.invokestatic 68, 3) := by decide +kernel
theorem dL_law_290 : decode code 290 = .ok (.istore 5, 2) := by decide +kernel
theorem dL_law_292 : decode code 292 = .ok (.aload_n 2, 1) := by decide +kernel
theorem dL_law_293 : decode code 293 = .ok (.aload_n 0, 1) := by decide +kernel
theorem dL_law_294 : decode code 294 = .ok (.iload 4, 2) := by decide +kernel
theorem dL_law_296 : decode code 296 = .ok (.iconst 1, 1) := by decide +kernel
theorem dL_law_297 : decode code 297 = .ok (.iadd, 1) := by decide +kernel
theorem dL_law_298 : decode code 298 = .ok (.iaload, 1) := by decide +kernel
theorem dL_law_299 : decode code 299 = .ok (.aload_n 0, 1) := by decide +kernel
theorem dL_law_300 : decode code 300 = .ok (.iload 4, 2) := by decide +kernel
theorem dL_law_302 : decode code 302 = .ok (.iconst 2, 1) := by decide +kernel
theorem dL_law_303 : decode code 303 = .ok (.iadd, 1) := by decide +kernel
theorem dL_law_304 : decode code 304 = .ok (.iaload, 1) := by decide +kernel
theorem dL_law_305 : decode code 305 = .ok (.aload_n 0, 1) := by decide +kernel
theorem dL_law_306 : decode code 306 = .ok (.iload 4, 2) := by decide +kernel
theorem dL_law_308 : decode code 308 = .ok (.iconst 3, 1) := by decide +kernel
theorem dL_law_309 : decode code 309 = .ok (.iadd, 1) := by decide +kernel
theorem dL_law_310 : decode code 310 = .ok (.iaload, 1) := by decide +kernel
theorem dL_law_311 : decode code 311 = .ok (.invokevirtual 70, 3) := by decide +kernel
theorem dL_law_314 : decode code 314 = .ok (.istore 6, 2) := by decide +kernel
theorem dL_law_316 : decode code 316 = .ok (.aload_n 2, 1) := by decide +kernel
theorem dL_law_317 : decode code 317 = .ok (.invokevirtual 61, 3) := by decide +kernel
theorem dL_law_320 : decode code 320 = .ok (.iload 5, 2) := by decide +kernel
theorem dL_law_322 : decode code 322 = .ok (.if_icmp .eq 5, 3) := by decide +kernel
theorem dL_law_325 : decode code 325 = .ok (.iconst 0, 1) := by decide +kernel
theorem dL_law_326 : decode code 326 = .ok (.ireturn, 1) := by decide +kernel
theorem dL_law_327 : decode code 327 = .ok (.iload 5, 2) := by decide +kernel
theorem dL_law_329 : decode code 329 = .ok (.ifCond .ne 15, 3) := by decide +kernel
theorem dL_law_332 : decode code 332 = .ok (.aload_n 3, 1) := by decide +kernel
theorem dL_law_333 : decode code 333 = .ok (.iconst 0, 1) := by decide +kernel
theorem dL_law_334 : decode code 334 = .ok (.laload, 1) := by decide +kernel
theorem dL_law_335 : decode code 335 = .ok (.iload 6, 2) := by decide +kernel
theorem dL_law_337 : decode code 337 = .ok (.i2l, 1) := by decide +kernel
theorem dL_law_338 : decode code 338 = .ok (.lcmp, 1) := by decide +kernel
theorem dL_law_339 : decode code 339 = .ok (.ifCond .eq 5, 3) := by decide +kernel
theorem dL_law_342 : decode code 342 = .ok (.iconst 0, 1) := by decide +kernel
theorem dL_law_343 : decode code 343 = .ok (.ireturn, 1) := by decide +kernel
theorem dL_law_344 : decode code 344 = .ok (.goto 491, 3) := by decide +kernel
theorem dL_law_347 : decode code 347 = .ok (.aload_n 1, 1) := by decide +kernel
theorem dL_law_348 : decode code 348 = .ok (.aload_n 0, 1) := by decide +kernel
theorem dL_law_349 : decode code 349 = .ok (.iload 4, 2) := by decide +kernel
theorem dL_law_351 : decode code 351 = .ok (.iconst 1, 1) := by decide +kernel
theorem dL_law_352 : decode code 352 = .ok (.iadd, 1) := by decide +kernel
theorem dL_law_353 : decode code 353 = .ok (.iaload, 1) := by decide +kernel
theorem dL_law_354 : decode code 354 = .ok (.aload_n 0, 1) := by decide +kernel
