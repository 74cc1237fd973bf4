theorem dL_law_463 : decode code 463 = .ok (.iload 6, 2) := by decide +kernel
theorem dL_law_465 : decode code 465 = .ok (.i2l, 1) := by decide +kernel
theorem dL_law_466 : decode code 466 = .ok (.lcmp, 1) := by decide +kernel
theorem dL_law_467 : decode code 467 = .ok (.ifCond .eq 5, 3) := by decide +kernel
theorem dL_law_470 : decode code 470 = .ok (.iconst 0, 1) := by decide +kernel
theorem dL_law_471 : decode code 471 = .ok (.ireturn, 1) := by decide +kernel
theorem dL_law_472 : decode code 472 = .ok (.goto 363, 3) := by decide +kernel
theorem dL_law_475 : decode code 475 = .ok (.aload_n 1, 1) := by decide +kernel
theorem dL_law_476 : decode code 476 = .ok (.aload_n 0, 1) := by decide +kernel
theorem dL_law_477 : decode code 477 = .ok (.iload 4, 2) := by decide +kernel
theorem dL_law_479 : decode code 479 = .ok (.iconst 1, 1) := by decide +kernel
theorem dL_law_480 : decode code 480 = .ok (.iadd, 1) := by decide +kernel
theorem dL_law_481 : decode code 481 = .ok (.iaload, 1) := by decide +kernel
theorem dL_law_482 : decode code 482 = .ok (.aload_n 3, 1) := by decide +kernel
theorem dL_law_483 : decode code 483 = .ok (.invokestatic 79, 3) := by decide +kernel
theorem dL_law_486 : decode code 486 = .ok (.istore 5, 2) := by decide +kernel
theorem dL_law_488 : decode code 488 = .ok (.aload_n 2, 1) := by decide +kernel
theorem dL_law_489 : decode code 489 = .ok (.aload_n 0, 1) := by decide +kernel
theorem dL_law_490 : decode code 490 = .ok (.iload 4, 2) := by decide +kernel
theorem dL_law_492 : decode code 492 = .ok (.iconst 1, 1) := by decide +kernel
theorem dL_law_493 : decode code 493 = .ok (.iadd, 1) := by decide +kernel
theorem dL_law_494 : decode code 494 = .ok (.iaload, 1) := by decide +kernel
theorem dL_law_495 : decode code 495 = .ok (.invokevirtual 82, 3) := by decide +kernel
theorem dL_law_498 : decode code 498 = .ok (.istore 6, 2) := by decide +kernel
theorem dL_law_500 : decode code 500 = .ok (.aload_n 2, 1) := by decide +kernel
theorem dL_law_501 : decode code 501 = .ok (.invokevirtual 61, 3) := by decide +kernel
theorem dL_law_504 : decode code 504 = .ok (.iload 5, 2) := by decide +kernel
theorem dL_law_506 : decode code 506 = .ok (.if_icmp .eq 5, 3) := by decide +kernel
theorem dL_law_509 : decode code 509 = .ok (.iconst 0, 1) := by decide +kernel
theorem dL_law_510 : decode code 510 = .ok (.ireturn, 1) := by decide +kernel
theorem dL_law_511 : decode code 511 = .ok (.iload 5, 2) := by decide +kernel
theorem dL_law_513 : decode code 513 = .ok (.ifCond .ne 15, 3) := by decide +kernel
theorem dL_law_516 : decode code 516 = .ok (.aload_n 3, 1) := by decide +kernel
theorem dL_law_517 : decode code 517 = .ok (.iconst 0, 1) := by decide +kernel
theorem dL_law_518 : decode code 518 = .ok (.laload, 1) := by decide +kernel
theorem dL_law_519 : decode code 519 = .ok (.iload 6, 2) := by decide +kernel
theorem dL_law_521 : decode code 521 = .ok (.i2l, 1) := by decide +kernel
theorem dL_law_522 : decode code 522 = .ok (.lcmp, 1) := by decide +kernel
theorem dL_law_523 : decode code 523 = .ok (.ifCond .eq 5, 3) := by decide +kernel
theorem dL_law_526 : decode code 526 = .ok (.iconst 0, 1) := by decide +kernel
theorem dL_law_527 : decode code 527 = .ok (.ireturn, 1) := by decide +kernel
theorem dL_law_528 : decode code 528 = .ok (.goto 307, 3) := by decide +kernel
theorem dL_law_531 : decode code 531 = .ok (.aload_n 1, 1) := by decide +kernel
theorem dL_law_532 : decode code 532 = .ok (.aload_n 3, 1) := by decide +kernel
theorem dL_law_533 : decode code 533 = .ok (.invokestatic 83, 3) := by decide +kernel
theorem dL_law_536 : decode code 536 = .ok (.istore 5, 2) := by decide +kernel
theorem dL_law_538 : decode code 538 = .ok (.aload_n 2, 1) := by decide +kernel
theorem dL_law_539 : decode code 539 = .ok (.invokevirtual 85, 3) := by decide +kernel
theorem dL_law_542 : decode code 542 = .ok (.istore 6, 2) := by decide +kernel
theorem dL_law_544 : decode code 544 = .ok (.aload_n 2, 1) := by decide +kernel
theorem dL_law_545 : decode code 545 = .ok (.invokevirtual 61, 3) := by decide +kernel
theorem dL_law_548 : decode code 548 = .ok (.iload 5, 2) := by decide +kernel
theorem dL_law_550 : decode code 550 = .ok (.if_icmp .eq 5, 3) := by decide +kernel
theorem dL_law_553 : decode code 553 = .ok (.iconst 0, 1) := by decide +kernel
theorem dL_law_554 : decode code 554 = .ok (.ireturn, 1) := by decide +kernel
theorem dL_law_555 : decode code 555 = .ok (.iload 5, 2) := by decide +kernel
theorem dL_law_557 : decode code 557 = .ok (.ifCond .ne 15, 3) := by decide +kernel
theorem dL_law_560 : decode code 560 = .ok (.aload_n 3, 1) := by decide +kernel
theorem dL_law_561 : decode code 561 = .ok (.iconst 0, 1) := by decide +kernel
theorem dL_law_562 : decode code 562 = .ok (.laload, 1) := by decide +kernel
theorem dL_law_563 : decode code 563 = .ok (.iload 6, 2) := by decide +kernel
theorem dL_law_565 : decode code 565 = .ok (.i2l, 1) := by decide +kernel
theorem dL_law_566 : decode code 566 = .ok (.lcmp, 1) := by decide +kernel
theorem dL_law_567 : decode code 567 = .ok (.ifCond .eq 5, 3) := by decide +kernel
