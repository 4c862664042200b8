/-! the law's entry, its instructions (3) -/
theorem d_law_457 : decode code 457 = .ok (.iload 4, 2) := by decide +kernel
theorem d_law_459 : decode code 459 = .ok (.iconst 2, 1) := by decide +kernel
theorem d_law_460 : decode code 460 = .ok (.iadd, 1) := by decide +kernel
theorem d_law_461 : decode code 461 = .ok (.iaload, 1) := by decide +kernel
theorem d_law_462 : decode code 462 = .ok (.invokevirtual 142, 3) := by decide +kernel
theorem d_law_465 : decode code 465 = .ok (.istore 6, 2) := by decide +kernel
theorem d_law_467 : decode code 467 = .ok (.aload_n 2, 1) := by decide +kernel
theorem d_law_468 : decode code 468 = .ok (.invokevirtual 118, 3) := by decide +kernel
theorem d_law_471 : decode code 471 = .ok (.iload 5, 2) := by decide +kernel
theorem d_law_473 : decode code 473 = .ok (.if_icmp .eq 5, 3) := by decide +kernel
theorem d_law_478 : decode code 478 = .ok (.iload 5, 2) := by decide +kernel
theorem d_law_480 : decode code 480 = .ok (.ifCond .ne 15, 3) := by decide +kernel
theorem d_law_483 : decode code 483 = .ok (.aload_n 3, 1) := by decide +kernel
theorem d_law_484 : decode code 484 = .ok (.iconst 0, 1) := by decide +kernel
theorem d_law_485 : decode code 485 = .ok (.laload, 1) := by decide +kernel
theorem d_law_486 : decode code 486 = .ok (.iload 6, 2) := by decide +kernel
theorem d_law_488 : decode code 488 = .ok (.i2l, 1) := by decide +kernel
theorem d_law_489 : decode code 489 = .ok (.lcmp, 1) := by decide +kernel
theorem d_law_490 : decode code 490 = .ok (.ifCond .eq 5, 3) := by decide +kernel
theorem d_law_495 : decode code 495 = .ok (.goto 1580, 3) := by decide +kernel
theorem d_law_498 : decode code 498 = .ok (.aload_n 1, 1) := by decide +kernel
theorem d_law_499 : decode code 499 = .ok (.aload_n 0, 1) := by decide +kernel
theorem d_law_500 : decode code 500 = .ok (.iload 4, 2) := by decide +kernel
theorem d_law_502 : decode code 502 = .ok (.iconst 1, 1) := by decide +kernel
theorem d_law_503 : decode code 503 = .ok (.iadd, 1) := by decide +kernel
theorem d_law_504 : decode code 504 = .ok (.iaload, 1) := by decide +kernel
theorem d_law_505 : decode code 505 = .ok (.aload_n 0, 1) := by decide +kernel
theorem d_law_506 : decode code 506 = .ok (.iload 4, 2) := by decide +kernel
theorem d_law_508 : decode code 508 = .ok (.iconst 2, 1) := by decide +kernel
theorem d_law_509 : decode code 509 = .ok (.iadd, 1) := by decide +kernel
theorem d_law_510 : decode code 510 = .ok (.iaload, 1) := by decide +kernel
theorem d_law_511 : decode code 511 = .ok (.aload_n 3, 1) := by decide +kernel
theorem d_law_512 : decode code 512 = .ok (.invokestatic 143, 3) := by decide +kernel
theorem d_law_515 : decode code 515 = .ok (.istore 5, 2) := by decide +kernel
theorem d_law_517 : decode code 517 = .ok (.aload_n 2, 1) := by decide +kernel
theorem d_law_518 : decode code 518 = .ok (.aload_n 0, 1) := by decide +kernel
theorem d_law_519 : decode code 519 = .ok (.iload 4, 2) := by decide +kernel
theorem d_law_521 : decode code 521 = .ok (.iconst 1, 1) := by decide +kernel
theorem d_law_522 : decode code 522 = .ok (.iadd, 1) := by decide +kernel
theorem d_law_523 : decode code 523 = .ok (.iaload, 1) := by decide +kernel
theorem d_law_524 : decode code 524 = .ok (.aload_n 0, 1) := by decide +kernel
theorem d_law_525 : decode code 525 = .ok (.iload 4, 2) := by decide +kernel
theorem d_law_527 : decode code 527 = .ok (.iconst 2, 1) := by decide +kernel
theorem d_law_528 : decode code 528 = .ok (.iadd, 1) := by decide +kernel
theorem d_law_529 : decode code 529 = .ok (.iaload, 1) := by decide +kernel
theorem d_law_530 : decode code 530 = .ok (.invokevirtual 145, 3) := by decide +kernel
theorem d_law_533 : decode code 533 = .ok (.istore 6, 2) := by decide +kernel
theorem d_law_535 : decode code 535 = .ok (.aload_n 2, 1) := by decide +kernel
theorem d_law_536 : decode code 536 = .ok (.invokevirtual 118, 3) := by decide +kernel
theorem d_law_539 : decode code 539 = .ok (.iload 5, 2) := by decide +kernel
theorem d_law_541 : decode code 541 = .ok (.if_icmp .eq 5, 3) := by decide +kernel
theorem d_law_546 : decode code 546 = .ok (.iload 5, 2) := by decide +kernel
theorem d_law_548 : decode code 548 = .ok (.ifCond .ne 15, 3) := by decide +kernel
theorem d_law_551 : decode code 551 = .ok (.aload_n 3, 1) := by decide +kernel
theorem d_law_552 : decode code 552 = .ok (.iconst 0, 1) := by decide +kernel
theorem d_law_553 : decode code 553 = .ok (.laload, 1) := by decide +kernel
theorem d_law_554 : decode code 554 = .ok (.iload 6, 2) := by decide +kernel
theorem d_law_556 : decode code 556 = .ok (.i2l, 1) := by decide +kernel
theorem d_law_557 : decode code 557 = .ok (.lcmp, 1) := by decide +kernel
theorem d_law_558 : decode code 558 = .ok (.ifCond .eq 5, 3) := by decide +kernel
