theorem d_law_law_296 : decode b_law_law 296 = .ok (.aload_n 1, 1) := by decide +kernel
theorem d_law_law_297 : decode b_law_law 297 = .ok (.aload_n 0, 1) := by decide +kernel
theorem d_law_law_298 : decode b_law_law 298 = .ok (.iload 4, 2) := by decide +kernel
theorem d_law_law_300 : decode b_law_law 300 = .ok (.iconst 1, 1) := by decide +kernel
theorem d_law_law_301 : decode b_law_law 301 = .ok (.iadd, 1) := by decide +kernel
theorem d_law_law_302 : decode b_law_law 302 = .ok (.iaload, 1) := by decide +kernel
theorem d_law_law_303 : decode b_law_law 303 = .ok (.aload_n 0, 1) := by decide +kernel
theorem d_law_law_304 : decode b_law_law 304 = .ok (.iload 4, 2) := by decide +kernel
theorem d_law_law_306 : decode b_law_law 306 = .ok (.iconst 2, 1) := by decide +kernel
theorem d_law_law_307 : decode b_law_law 307 = .ok (.iadd, 1) := by decide +kernel
theorem d_law_law_308 : decode b_law_law 308 = .ok (.iaload, 1) := by decide +kernel
theorem d_law_law_309 : decode b_law_law 309 = .ok (.aload_n 3, 1) := by decide +kernel
theorem d_law_law_310 : decode b_law_law 310 = .ok (.invokestatic 87, 3) := by decide +kernel
theorem d_law_law_313 : decode b_law_law 313 = .ok (.istore 5, 2) := by decide +kernel
theorem d_law_law_315 : decode b_law_law 315 = .ok (.aload_n 2, 1) := by decide +kernel
theorem d_law_law_316 : decode b_law_law 316 = .ok (.aload_n 0, 1) := by decide +kernel
theorem d_law_law_317 : decode b_law_law 317 = .ok (.iload 4, 2) := by decide +kernel
theorem d_law_law_319 : decode b_law_law 319 = .ok (.iconst 1, 1) := by decide +kernel
theorem d_law_law_320 : decode b_law_law 320 = .ok (.iadd, 1) := by decide +kernel
theorem d_law_law_321 : decode b_law_law 321 = .ok (.iaload, 1) := by decide +kernel
theorem d_law_law_322 : decode b_law_law 322 = .ok (.aload_n 0, 1) := by decide +kernel
theorem d_law_law_323 : decode b_law_law 323 = .ok (.iload 4, 2) := by decide +kernel
theorem d_law_law_325 : decode b_law_law 325 = .ok (.iconst 2, 1) := by decide +kernel
theorem d_law_law_326 : decode b_law_law 326 = .ok (.iadd, 1) := by decide +kernel
theorem d_law_law_327 : decode b_law_law 327 = .ok (.iaload, 1) := by decide +kernel
theorem d_law_law_328 : decode b_law_law 328 = .ok (.invokevirtual 90, 3) := by decide +kernel
theorem d_law_law_331 : decode b_law_law 331 = .ok (.istore 6, 2) := by decide +kernel
theorem d_law_law_333 : decode b_law_law 333 = .ok (.aload_n 2, 1) := by decide +kernel
theorem d_law_law_334 : decode b_law_law 334 = .ok (.invokevirtual 76, 3) := by decide +kernel
theorem d_law_law_337 : decode b_law_law 337 = .ok (.iload 5, 2) := by decide +kernel
theorem d_law_law_339 : decode b_law_law 339 = .ok (.if_icmp .eq 5, 3) := by decide +kernel
theorem d_law_law_342 : decode b_law_law 342 = .ok (.iconst 0, 1) := by decide +kernel
theorem d_law_law_343 : decode b_law_law 343 = .ok (.ireturn, 1) := by decide +kernel
theorem d_law_law_344 : decode b_law_law 344 = .ok (.iload 5, 2) := by decide +kernel
theorem d_law_law_346 : decode b_law_law 346 = .ok (.ifCond .ne 15, 3) := by decide +kernel
theorem d_law_law_349 : decode b_law_law 349 = .ok (.aload_n 3, 1) := by decide +kernel
theorem d_law_law_350 : decode b_law_law 350 = .ok (.iconst 0, 1) := by decide +kernel
theorem d_law_law_351 : decode b_law_law 351 = .ok (.laload, 1) := by decide +kernel
theorem d_law_law_352 : decode b_law_law 352 = .ok (.iload 6, 2) := by decide +kernel
theorem d_law_law_354 : decode b_law_law 354 = .ok (.i2l, 1) := by decide +kernel
theorem d_law_law_355 : decode b_law_law 355 = .ok (.lcmp, 1) := by decide +kernel
theorem d_law_law_356 : decode b_law_law 356 = .ok (.ifCond .eq 5, 3) := by decide +kernel
theorem d_law_law_359 : decode b_law_law 359 = .ok (.iconst 0, 1) := by decide +kernel
theorem d_law_law_360 : decode b_law_law 360 = .ok (.ireturn, 1) := by decide +kernel
theorem d_law_law_361 : decode b_law_law 361 = .ok (.goto 669, 3) := by decide +kernel
theorem d_law_law_364 : decode b_law_law 364 = .ok (.aload_n 1, 1) := by decide +kernel
theorem d_law_law_365 : decode b_law_law 365 = .ok (.aload_n 0, 1) := by decide +kernel
theorem d_law_law_366 : decode b_law_law 366 = .ok (.iload 4, 2) := by decide +kernel
theorem d_law_law_368 : decode b_law_law 368 = .ok (.iconst 1, 1) := by decide +kernel
theorem d_law_law_369 : decode b_law_law 369 = .ok (.iadd, 1) := by decide +kernel
theorem d_law_law_370 : decode b_law_law 370 = .ok (.iaload, 1) := by decide +kernel
theorem d_law_law_371 : decode b_law_law 371 = .ok (.aload_n 3, 1) := by decide +kernel
theorem d_law_law_372 : decode b_law_law 372 = .ok (.invokestatic 91, 3) := by decide +kernel
theorem d_law_law_375 : decode b_law_law 375 = .ok (.istore 5, 2) := by decide +kernel
theorem d_law_law_377 : decode b_law_law 377 = .ok (.aload_n 2, 1) := by decide +kernel
theorem d_law_law_378 : decode b_law_law 378 = .ok (.aload_n 0, 1) := by decide +kernel
theorem d_law_law_379 : decode b_law_law 379 = .ok (.iload 4, 2) := by decide +kernel
theorem d_law_law_381 : decode b_law_law 381 = .ok (.iconst 1, 1) := by decide +kernel
theorem d_law_law_382 : decode b_law_law 382 = .ok (.iadd, 1) := by decide +kernel
theorem d_law_law_383 : decode b_law_law 383 = .ok (.iaload, 1) := by decide +kernel
theorem d_law_law_384 : decode b_law_law 384 = .ok (.invokevirtual 93, 3) := by decide +kernel
theorem d_law_law_387 : decode b_law_law 387 = .ok (.istore 6, 2) := by decide +kernel
theorem d_law_law_389 : decode b_law_law 389 = .ok (.aload_n 2, 1) := by decide +kernel
theorem d_law_law_390 : decode b_law_law 390 = .ok (.invokevirtual 76, 3) := by decide +kernel
theorem d_law_law_393 : decode b_law_law 393 = .ok (.iload 5, 2) := by decide +kernel
theorem d_law_law_395 : decode b_law_law 395 = .ok (.if_icmp .eq 5, 3) := by decide +kernel
theorem d_law_law_398 : decode b_law_law 398 = .ok (.iconst 0, 1) := by decide +kernel
theorem d_law_law_399 : decode b_law_law 399 = .ok (.ireturn, 1) := by decide +kernel
theorem d_law_law_400 : decode b_law_law 400 = .ok (.iload 5, 2) := by decide +kernel
theorem d_law_law_402 : decode b_law_law 402 = .ok (.ifCond .ne 15, 3) := by decide +kernel
