theorem dL_law_355 : decode code 355 = .ok (.iload 4, 2) := by decide +kernel
theorem dL_law_357 : decode code 357 = .ok (.iconst 2, 1) := by decide +kernel
theorem dL_law_358 : decode code 358 = .ok (.iadd, 1) := by decide +kernel
theorem dL_law_359 : decode code 359 = .ok (.iaload, 1) := by decide +kernel
theorem dL_law_360 : decode code 360 = .ok (.ifCond .eq 7, 3) := by decide +kernel
theorem dL_law_363 : decode code 363 = .ok (.iconst 1, 1) := by decide +kernel
theorem dL_law_364 : decode code 364 = .ok (.goto 4, 3) := by decide +kernel
theorem dL_law_367 : decode code 367 = .ok (.iconst 0, 1) := by decide +kernel
theorem dL_law_368 : decode code 368 = .ok (.aload_n 3, 1) := by decide +kernel
theorem dL_law_369 : decode code 369 = .ok (.invokestatic 71, 3) := by decide +kernel
theorem dL_law_372 : decode code 372 = .ok (.istore 5, 2) := by decide +kernel
theorem dL_law_374 : decode code 374 = .ok (.aload_n 2, 1) := by decide +kernel
theorem dL_law_375 : decode code 375 = .ok (.aload_n 0, 1) := by decide +kernel
theorem dL_law_376 : decode code 376 = .ok (.iload 4, 2) := by decide +kernel
theorem dL_law_378 : decode code 378 = .ok (.iconst 1, 1) := by decide +kernel
theorem dL_law_379 : decode code 379 = .ok (.iadd, 1) := by decide +kernel
theorem dL_law_380 : decode code 380 = .ok (.iaload, 1) := by decide +kernel
theorem dL_law_381 : decode code 381 = .ok (.aload_n 0, 1) := by decide +kernel
theorem dL_law_382 : decode code 382 = .ok (.iload 4, 2) := by decide +kernel
theorem dL_law_384 : decode code 384 = .ok (.iconst 2, 1) := by decide +kernel
theorem dL_law_385 : decode code 385 = .ok (.iadd, 1) := by decide +kernel
theorem dL_law_386 : decode code 386 = .ok (.iaload, 1) := by decide +kernel
theorem dL_law_387 : decode code 387 = .ok (.ifCond .eq 7, 3) := by decide +kernel
theorem dL_law_390 : decode code 390 = .ok (.iconst 1, 1) := by decide +kernel
theorem dL_law_391 : decode code 391 = .ok (.goto 4, 3) := by decide +kernel
theorem dL_law_394 : decode code 394 = .ok (.iconst 0, 1) := by decide +kernel
theorem dL_law_395 : decode code 395 = .ok (.invokevirtual 74, 3) := by decide +kernel
theorem dL_law_398 : decode code 398 = .ok (.istore 6, 2) := by decide +kernel
theorem dL_law_400 : decode code 400 = .ok (.aload_n 2, 1) := by decide +kernel
theorem dL_law_401 : decode code 401 = .ok (.invokevirtual 61, 3) := by decide +kernel
theorem dL_law_404 : decode code 404 = .ok (.iload 5, 2) := by decide +kernel
theorem dL_law_406 : decode code 406 = .ok (.if_icmp .eq 5, 3) := by decide +kernel
theorem dL_law_409 : decode code 409 = .ok (.iconst 0, 1) := by decide +kernel
theorem dL_law_410 : decode code 410 = .ok (.ireturn, 1) := by decide +kernel
theorem dL_law_411 : decode code 411 = .ok (.iload 5, 2) := by decide +kernel
theorem dL_law_413 : decode code 413 = .ok (.ifCond .ne 15, 3) := by decide +kernel
theorem dL_law_416 : decode code 416 = .ok (.aload_n 3, 1) := by decide +kernel
theorem dL_law_417 : decode code 417 = .ok (.iconst 0, 1) := by decide +kernel
theorem dL_law_418 : decode code 418 = .ok (.laload, 1) := by decide +kernel
theorem dL_law_419 : decode code 419 = .ok (.iload 6, 2) := by decide +kernel
theorem dL_law_421 : decode code 421 = .ok (.i2l, 1) := by decide +kernel
theorem dL_law_422 : decode code 422 = .ok (.lcmp, 1) := by decide +kernel
theorem dL_law_423 : decode code 423 = .ok (.ifCond .eq 5, 3) := by decide +kernel
theorem dL_law_426 : decode code 426 = .ok (.iconst 0, 1) := by decide +kernel
theorem dL_law_427 : decode code 427 = .ok (.ireturn, 1) := by decide +kernel
theorem dL_law_428 : decode code 428 = .ok (.goto 407, 3) := by decide +kernel
theorem dL_law_431 : decode code 431 = .ok (.aload_n 1, 1) := by decide +kernel
theorem dL_law_432 : decode code 432 = .ok (.aload_n 3, 1) := by decide +kernel
theorem dL_law_433 : decode code 433 = .ok (.invokestatic 75, 3) := by decide +kernel
theorem dL_law_436 : decode code 436 = .ok (.istore 5, 2) := by decide +kernel
theorem dL_law_438 : decode code 438 = .ok (.aload_n 2, 1) := by decide +kernel
theorem dL_law_439 : decode code 439 = .ok (.invokevirtual 78, 3) := by decide +kernel
theorem dL_law_442 : decode code 442 = .ok (.istore 6, 2) := by decide +kernel
theorem dL_law_444 : decode code 444 = .ok (.aload_n 2, 1) := by decide +kernel
theorem dL_law_445 : decode code 445 = .ok (.invokevirtual 61, 3) := by decide +kernel
theorem dL_law_448 : decode code 448 = .ok (.iload 5, 2) := by decide +kernel
theorem dL_law_450 : decode code 450 = .ok (.if_icmp .eq 5, 3) := by decide +kernel
theorem dL_law_453 : decode code 453 = .ok (.iconst 0, 1) := by decide +kernel
theorem dL_law_454 : decode code 454 = .ok (.ireturn, 1) := by decide +kernel
theorem dL_law_455 : decode code 455 = .ok (.iload 5, 2) := by decide +kernel
theorem dL_law_457 : decode code 457 = .ok (.ifCond .ne 15, 3) := by decide +kernel
theorem dL_law_460 : decode code 460 = .ok (.aload_n 3, 1) := by decide +kernel
theorem dL_law_461 : decode code 461 = .ok (.iconst 0, 1) := by decide +kernel
theorem dL_law_462 : decode code 462 = .ok (.laload, 1) := by decide +kernel
