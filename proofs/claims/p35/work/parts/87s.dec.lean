theorem dL_law_472 : decode code 472 = .ok (.iload 9, 2) := by decide +kernel
theorem dL_law_474 : decode code 474 = .ok (.iconst 3, 1) := by decide +kernel
theorem dL_law_475 : decode code 475 = .ok (.iconst 0, 1) := by decide +kernel
theorem dL_law_476 : decode code 476 = .ok (.invokestatic 194, 3) := by decide +kernel
theorem dL_law_479 : decode code 479 = .ok (.ifCond .ne 76, 3) := by decide +kernel
theorem dL_law_482 : decode code 482 = .ok (.aload_n 1, 1) := by decide +kernel
theorem dL_law_483 : decode code 483 = .ok (.bipush 19, 2) := by decide +kernel
theorem dL_law_485 : decode code 485 = .ok (.iconst 0, 1) := by decide +kernel
theorem dL_law_486 : decode code 486 = .ok (.iconst 0, 1) := by decide +kernel
theorem dL_law_487 : decode code 487 = .ok (.iconst 0, 1) := by decide +kernel
theorem dL_law_488 : decode code 488 = .ok (.invokestatic 194, 3) := by decide +kernel
theorem dL_law_491 : decode code 491 = .ok (.invokestatic 234, 3) := by decide +kernel
theorem dL_law_494 : decode code 494 = .ok (.ifCond .ne 61, 3) := by decide +kernel
theorem dL_law_497 : decode code 497 = .ok (.aload_n 2, 1) := by decide +kernel
theorem dL_law_498 : decode code 498 = .ok (.bipush 19, 2) := by decide +kernel
theorem dL_law_500 : decode code 500 = .ok (.iconst 0, 1) := by decide +kernel
theorem dL_law_501 : decode code 501 = .ok (.iconst 0, 1) := by decide +kernel
theorem dL_law_502 : decode code 502 = .ok (.iconst 0, 1) := by decide +kernel
theorem dL_law_503 : decode code 503 = .ok (.invokestatic 194, 3) := by decide +kernel
theorem dL_law_506 : decode code 506 = .ok (.invokestatic 234, 3) := by decide +kernel
theorem dL_law_509 : decode code 509 = .ok (.ifCond .ne 46, 3) := by decide +kernel
theorem dL_law_512 : decode code 512 = .ok (.aload_n 1, 1) := by decide +kernel
theorem dL_law_513 : decode code 513 = .ok (.iconst 2, 1) := by decide +kernel
theorem dL_law_514 : decode code 514 = .ok (.iconst 3, 1) := by decide +kernel
theorem dL_law_515 : decode code 515 = .ok (.iconst 0, 1) := by decide +kernel
theorem dL_law_516 : decode code 516 = .ok (.iconst 0, 1) := by decide +kernel
theorem dL_law_517 : decode code 517 = .ok (.invokestatic 194, 3) := by decide +kernel
theorem dL_law_520 : decode code 520 = .ok (.iload 14, 2) := by decide +kernel
theorem dL_law_522 : decode code 522 = .ok (.if_icmp .ne 33, 3) := by decide +kernel
theorem dL_law_525 : decode code 525 = .ok (.aload_n 1, 1) := by decide +kernel
theorem dL_law_526 : decode code 526 = .ok (.iconst 2, 1) := by decide +kernel
theorem dL_law_527 : decode code 527 = .ok (.bipush 10, 2) := by decide +kernel
theorem dL_law_529 : decode code 529 = .ok (.iconst 0, 1) := by decide +kernel
theorem dL_law_530 : decode code 530 = .ok (.iconst 0, 1) := by decide +kernel
theorem dL_law_531 : decode code 531 = .ok (.invokestatic 194, 3) := by decide +kernel
theorem dL_law_534 : decode code 534 = .ok (.iload 15, 2) := by decide +kernel
theorem dL_law_536 : decode code 536 = .ok (.if_icmp .ne 19, 3) := by decide +kernel
theorem dL_law_539 : decode code 539 = .ok (.aload_n 1, 1) := by decide +kernel
theorem dL_law_540 : decode code 540 = .ok (.iconst 5, 1) := by decide +kernel
theorem dL_law_541 : decode code 541 = .ok (.iload 9, 2) := by decide +kernel
theorem dL_law_543 : decode code 543 = .ok (.iconst 1, 1) := by decide +kernel
theorem dL_law_544 : decode code 544 = .ok (.iconst 0, 1) := by decide +kernel
theorem dL_law_545 : decode code 545 = .ok (.invokestatic 194, 3) := by decide +kernel
theorem dL_law_548 : decode code 548 = .ok (.ifCond .ne 7, 3) := by decide +kernel
theorem dL_law_551 : decode code 551 = .ok (.iconst 1, 1) := by decide +kernel
theorem dL_law_552 : decode code 552 = .ok (.goto 4, 3) := by decide +kernel
theorem dL_law_555 : decode code 555 = .ok (.iconst 0, 1) := by decide +kernel
theorem dL_law_556 : decode code 556 = .ok (.istore 4, 2) := by decide +kernel
theorem dL_law_558 : decode code 558 = .ok (.goto 37, 3) := by decide +kernel
theorem dL_law_561 : decode code 561 = .ok (.iload 4, 2) := by decide +kernel
theorem dL_law_563 : decode code 563 = .ok (.ifCond .eq 29, 3) := by decide +kernel
theorem dL_law_566 : decode code 566 = .ok (.iload 12, 2) := by decide +kernel
theorem dL_law_568 : decode code 568 = .ok (.ifCond .ne 24, 3) := by decide +kernel
theorem dL_law_571 : decode code 571 = .ok (.iload 10, 2) := by decide +kernel
theorem dL_law_573 : decode code 573 = .ok (.ifCond .ne 19, 3) := by decide +kernel
theorem dL_law_576 : decode code 576 = .ok (.iload 13, 2) := by decide +kernel
theorem dL_law_578 : decode code 578 = .ok (.ifCond .ne 14, 3) := by decide +kernel
theorem dL_law_581 : decode code 581 = .ok (.iload 11, 2) := by decide +kernel
theorem dL_law_583 : decode code 583 = .ok (.iload 15, 2) := by decide +kernel
theorem dL_law_585 : decode code 585 = .ok (.if_icmp .ne 7, 3) := by decide +kernel
theorem dL_law_588 : decode code 588 = .ok (.iconst 1, 1) := by decide +kernel
theorem dL_law_589 : decode code 589 = .ok (.goto 4, 3) := by decide +kernel
theorem dL_law_592 : decode code 592 = .ok (.iconst 0, 1) := by decide +kernel
theorem dL_law_593 : decode code 593 = .ok (.istore 4, 2) := by decide +kernel
theorem dL_law_595 : decode code 595 = .ok (.iinc 6 1, 3) := by decide +kernel
theorem dL_law_598 : decode code 598 = .ok (.goto (-418), 3) := by decide +kernel
theorem dL_law_601 : decode code 601 = .ok (.iload 4, 2) := by decide +kernel
theorem dL_law_603 : decode code 603 = .ok (.ireturn, 1) := by decide +kernel
