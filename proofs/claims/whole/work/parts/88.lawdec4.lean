theorem d_L_law_472 : decode c_L_law 472 = .ok (.iadd, 1) := by decide +kernel
theorem d_L_law_473 : decode c_L_law 473 = .ok (.iaload, 1) := by decide +kernel
theorem d_L_law_474 : decode c_L_law 474 = .ok (.invokevirtual 66, 3) := by decide +kernel
theorem d_L_law_477 : decode c_L_law 477 = .ok (.aload_n 2, 1) := by decide +kernel
theorem d_L_law_478 : decode c_L_law 478 = .ok (.aload_n 0, 1) := by decide +kernel
theorem d_L_law_479 : decode c_L_law 479 = .ok (.iload 4, 2) := by decide +kernel
theorem d_L_law_481 : decode c_L_law 481 = .ok (.iconst 1, 1) := by decide +kernel
theorem d_L_law_482 : decode c_L_law 482 = .ok (.iadd, 1) := by decide +kernel
theorem d_L_law_483 : decode c_L_law 483 = .ok (.iaload, 1) := by decide +kernel
theorem d_L_law_484 : decode c_L_law 484 = .ok (.invokevirtual 70, 3) := by decide +kernel
theorem d_L_law_487 : decode c_L_law 487 = .ok (.lcmp, 1) := by decide +kernel
theorem d_L_law_488 : decode c_L_law 488 = .ok (.ifCond .eq 346, 3) := by decide +kernel
theorem d_L_law_491 : decode c_L_law 491 = .ok (.iconst 0, 1) := by decide +kernel
theorem d_L_law_492 : decode c_L_law 492 = .ok (.ireturn, 1) := by decide +kernel
theorem d_L_law_493 : decode c_L_law 493 = .ok (.aload_n 1, 1) := by decide +kernel
theorem d_L_law_494 : decode c_L_law 494 = .ok (.aload_n 0, 1) := by decide +kernel
theorem d_L_law_495 : decode c_L_law 495 = .ok (.iload 4, 2) := by decide +kernel
theorem d_L_law_497 : decode c_L_law 497 = .ok (.iconst 1, 1) := by decide +kernel
theorem d_L_law_498 : decode c_L_law 498 = .ok (.iadd, 1) := by decide +kernel
theorem d_L_law_499 : decode c_L_law 499 = .ok (.iaload, 1) := by decide +kernel
theorem d_L_law_500 : decode c_L_law 500 = .ok (.aload_n 0, 1) := by decide +kernel
theorem d_L_law_501 : decode c_L_law 501 = .ok (.iload 4, 2) := by decide +kernel
theorem d_L_law_503 : decode c_L_law 503 = .ok (.iconst 2, 1) := by decide +kernel
theorem d_L_law_504 : decode c_L_law 504 = .ok (.iadd, 1) := by decide +kernel
theorem d_L_law_505 : decode c_L_law 505 = .ok (.iaload, 1) := by decide +kernel
theorem d_L_law_506 : decode c_L_law 506 = .ok (.invokevirtual 71, 3) := by decide +kernel
theorem d_L_law_509 : decode c_L_law 509 = .ok (.aload_n 2, 1) := by decide +kernel
theorem d_L_law_510 : decode c_L_law 510 = .ok (.aload_n 0, 1) := by decide +kernel
theorem d_L_law_511 : decode c_L_law 511 = .ok (.iload 4, 2) := by decide +kernel
theorem d_L_law_513 : decode c_L_law 513 = .ok (.iconst 1, 1) := by decide +kernel
theorem d_L_law_514 : decode c_L_law 514 = .ok (.iadd, 1) := by decide +kernel
theorem d_L_law_515 : decode c_L_law 515 = .ok (.iaload, 1) := by decide +kernel
theorem d_L_law_516 : decode c_L_law 516 = .ok (.aload_n 0, 1) := by decide +kernel
theorem d_L_law_517 : decode c_L_law 517 = .ok (.iload 4, 2) := by decide +kernel
theorem d_L_law_519 : decode c_L_law 519 = .ok (.iconst 2, 1) := by decide +kernel
theorem d_L_law_520 : decode c_L_law 520 = .ok (.iadd, 1) := by decide +kernel
theorem d_L_law_521 : decode c_L_law 521 = .ok (.iaload, 1) := by decide +kernel
theorem d_L_law_522 : decode c_L_law 522 = .ok (.invokevirtual 75, 3) := by decide +kernel
theorem d_L_law_525 : decode c_L_law 525 = .ok (.lcmp, 1) := by decide +kernel
theorem d_L_law_526 : decode c_L_law 526 = .ok (.ifCond .eq 308, 3) := by decide +kernel
theorem d_L_law_529 : decode c_L_law 529 = .ok (.iconst 0, 1) := by decide +kernel
theorem d_L_law_530 : decode c_L_law 530 = .ok (.ireturn, 1) := by decide +kernel
theorem d_L_law_531 : decode c_L_law 531 = .ok (.aload_n 1, 1) := by decide +kernel
theorem d_L_law_532 : decode c_L_law 532 = .ok (.aload_n 0, 1) := by decide +kernel
theorem d_L_law_533 : decode c_L_law 533 = .ok (.iload 4, 2) := by decide +kernel
theorem d_L_law_535 : decode c_L_law 535 = .ok (.iconst 1, 1) := by decide +kernel
theorem d_L_law_536 : decode c_L_law 536 = .ok (.iadd, 1) := by decide +kernel
theorem d_L_law_537 : decode c_L_law 537 = .ok (.iaload, 1) := by decide +kernel
theorem d_L_law_538 : decode c_L_law 538 = .ok (.aload_n 0, 1) := by decide +kernel
theorem d_L_law_539 : decode c_L_law 539 = .ok (.iload 4, 2) := by decide +kernel
theorem d_L_law_541 : decode c_L_law 541 = .ok (.iconst 2, 1) := by decide +kernel
theorem d_L_law_542 : decode c_L_law 542 = .ok (.iadd, 1) := by decide +kernel
theorem d_L_law_543 : decode c_L_law 543 = .ok (.iaload, 1) := by decide +kernel
theorem d_L_law_544 : decode c_L_law 544 = .ok (.invokevirtual 76, 3) := by decide +kernel
theorem d_L_law_547 : decode c_L_law 547 = .ok (.aload_n 2, 1) := by decide +kernel
theorem d_L_law_548 : decode c_L_law 548 = .ok (.aload_n 0, 1) := by decide +kernel
theorem d_L_law_549 : decode c_L_law 549 = .ok (.iload 4, 2) := by decide +kernel
theorem d_L_law_551 : decode c_L_law 551 = .ok (.iconst 1, 1) := by decide +kernel
theorem d_L_law_552 : decode c_L_law 552 = .ok (.iadd, 1) := by decide +kernel
theorem d_L_law_553 : decode c_L_law 553 = .ok (.iaload, 1) := by decide +kernel
theorem d_L_law_554 : decode c_L_law 554 = .ok (.aload_n 0, 1) := by decide +kernel
theorem d_L_law_555 : decode c_L_law 555 = .ok (.iload 4, 2) := by decide +kernel
theorem d_L_law_557 : decode c_L_law 557 = .ok (.iconst 2, 1) := by decide +kernel
theorem d_L_law_558 : decode c_L_law 558 = .ok (.iadd, 1) := by decide +kernel
theorem d_L_law_559 : decode c_L_law 559 = .ok (.iaload, 1) := by decide +kernel
theorem d_L_law_560 : decode c_L_law 560 = .ok (.invokevirtual 79, 3) := by decide +kernel
theorem d_L_law_563 : decode c_L_law 563 = .ok (.lcmp, 1) := by decide +kernel
theorem d_L_law_564 : decode c_L_law 564 = .ok (.ifCond .eq 270, 3) := by decide +kernel
theorem d_L_law_567 : decode c_L_law 567 = .ok (.iconst 0, 1) := by decide +kernel
theorem d_L_law_568 : decode c_L_law 568 = .ok (.ireturn, 1) := by decide +kernel
theorem d_L_law_569 : decode c_L_law 569 = .ok (.aload_n 1, 1) := by decide +kernel
theorem d_L_law_570 : decode c_L_law 570 = .ok (.aload_n 0, 1) := by decide +kernel
theorem d_L_law_571 : decode c_L_law 571 = .ok (.iload 4, 2) := by decide +kernel
theorem d_L_law_573 : decode c_L_law 573 = .ok (.iconst 1, 1) := by decide +kernel
theorem d_L_law_574 : decode c_L_law 574 = .ok (.iadd, 1) := by decide +kernel
theorem d_L_law_575 : decode c_L_law 575 = .ok (.iaload, 1) := by decide +kernel
theorem d_L_law_576 : decode c_L_law 576 = .ok (.invokevirtual 80, 3) := by decide +kernel
theorem d_L_law_579 : decode c_L_law 579 = .ok (.aload_n 2, 1) := by decide +kernel
theorem d_L_law_580 : decode c_L_law 580 = .ok (.aload_n 0, 1) := by decide +kernel
theorem d_L_law_581 : decode c_L_law 581 = .ok (.iload 4, 2) := by decide +kernel
theorem d_L_law_583 : decode c_L_law 583 = .ok (.iconst 1, 1) := by decide +kernel
theorem d_L_law_584 : decode c_L_law 584 = .ok (.iadd, 1) := by decide +kernel
theorem d_L_law_585 : decode c_L_law 585 = .ok (.iaload, 1) := by decide +kernel
theorem d_L_law_586 : decode c_L_law 586 = .ok (.invokevirtual 83, 3) := by decide +kernel
theorem d_L_law_589 : decode c_L_law 589 = .ok (.if_icmp .eq 245, 3) := by decide +kernel
theorem d_L_law_592 : decode c_L_law 592 = .ok (.iconst 0, 1) := by decide +kernel
theorem d_L_law_593 : decode c_L_law 593 = .ok (.ireturn, 1) := by decide +kernel
theorem d_L_law_594 : decode c_L_law 594 = .ok (.aload_n 1, 1) := by decide +kernel
theorem d_L_law_595 : decode c_L_law 595 = .ok (.aload_n 0, 1) := by decide +kernel
theorem d_L_law_596 : decode c_L_law 596 = .ok (.iload 4, 2) := by decide +kernel
