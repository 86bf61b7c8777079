theorem d_LW_law_525 : decode code 525 = .ok (.aload_n 0, 1) := by decide +kernel
theorem d_LW_law_526 : decode code 526 = .ok (.iload 4, 2) := by decide +kernel
theorem d_LW_law_528 : decode code 528 = .ok (.iconst 1, 1) := by decide +kernel
theorem d_LW_law_529 : decode code 529 = .ok (.iadd, 1) := by decide +kernel
theorem d_LW_law_530 : decode code 530 = .ok (.iaload, 1) := by decide +kernel
theorem d_LW_law_531 : decode code 531 = .ok (.invokevirtual 83, 3) := by decide +kernel
theorem d_LW_law_534 : decode code 534 = .ok (.if_icmp .eq 129, 3) := by decide +kernel
theorem d_LW_law_537 : decode code 537 = .ok (.iconst 0, 1) := by decide +kernel
theorem d_LW_law_538 : decode code 538 = .ok (.ireturn, 1) := by decide +kernel
theorem d_LW_law_539 : decode code 539 = .ok (.aload_n 1, 1) := by decide +kernel
theorem d_LW_law_540 : decode code 540 = .ok (.aload_n 0, 1) := by decide +kernel
theorem d_LW_law_541 : decode code 541 = .ok (.iload 4, 2) := by decide +kernel
theorem d_LW_law_543 : decode code 543 = .ok (.iconst 1, 1) := by decide +kernel
theorem d_LW_law_544 : decode code 544 = .ok (.iadd, 1) := by decide +kernel
theorem d_LW_law_545 : decode code 545 = .ok (.iaload, 1) := by decide +kernel
theorem d_LW_law_546 : decode code 546 = .ok (.aload_n 0, 1) := by decide +kernel
theorem d_LW_law_547 : decode code 547 = .ok (.iload 4, 2) := by decide +kernel
theorem d_LW_law_549 : decode code 549 = .ok (.iconst 2, 1) := by decide +kernel
theorem d_LW_law_550 : decode code 550 = .ok (.iadd, 1) := by decide +kernel
theorem d_LW_law_551 : decode code 551 = .ok (.iaload, 1) := by decide +kernel
theorem d_LW_law_552 : decode code 552 = .ok (.invokevirtual 84, 3) := by decide +kernel
theorem d_LW_law_555 : decode code 555 = .ok (.aload_n 2, 1) := by decide +kernel
theorem d_LW_law_556 : decode code 556 = .ok (.aload_n 0, 1) := by decide +kernel
theorem d_LW_law_557 : decode code 557 = .ok (.iload 4, 2) := by decide +kernel
theorem d_LW_law_559 : decode code 559 = .ok (.iconst 1, 1) := by decide +kernel
theorem d_LW_law_560 : decode code 560 = .ok (.iadd, 1) := by decide +kernel
theorem d_LW_law_561 : decode code 561 = .ok (.iaload, 1) := by decide +kernel
theorem d_LW_law_562 : decode code 562 = .ok (.aload_n 0, 1) := by decide +kernel
theorem d_LW_law_563 : decode code 563 = .ok (.iload 4, 2) := by decide +kernel
theorem d_LW_law_565 : decode code 565 = .ok (.iconst 2, 1) := by decide +kernel
theorem d_LW_law_566 : decode code 566 = .ok (.iadd, 1) := by decide +kernel
theorem d_LW_law_567 : decode code 567 = .ok (.iaload, 1) := by decide +kernel
theorem d_LW_law_568 : decode code 568 = .ok (.invokevirtual 87, 3) := by decide +kernel
theorem d_LW_law_571 : decode code 571 = .ok (.if_icmp .eq 92, 3) := by decide +kernel
theorem d_LW_law_574 : decode code 574 = .ok (.iconst 0, 1) := by decide +kernel
theorem d_LW_law_575 : decode code 575 = .ok (.ireturn, 1) := by decide +kernel
theorem d_LW_law_576 : decode code 576 = .ok (.aload_n 1, 1) := by decide +kernel
theorem d_LW_law_577 : decode code 577 = .ok (.aload_n 0, 1) := by decide +kernel
theorem d_LW_law_578 : decode code 578 = .ok (.iload 4, 2) := by decide +kernel
theorem d_LW_law_580 : decode code 580 = .ok (.iconst 1, 1) := by decide +kernel
theorem d_LW_law_581 : decode code 581 = .ok (.iadd, 1) := by decide +kernel
theorem d_LW_law_582 : decode code 582 = .ok (.iaload, 1) := by decide +kernel
theorem d_LW_law_583 : decode code 583 = .ok (.invokevirtual 88, 3) := by decide +kernel
theorem d_LW_law_586 : decode code 586 = .ok (.aload_n 2, 1) := by decide +kernel
theorem d_LW_law_587 : decode code 587 = .ok (.aload_n 0, 1) := by decide +kernel
theorem d_LW_law_588 : decode code 588 = .ok (.iload 4, 2) := by decide +kernel
theorem d_LW_law_590 : decode code 590 = .ok (.iconst 1, 1) := by decide +kernel
theorem d_LW_law_591 : decode code 591 = .ok (.iadd, 1) := by decide +kernel
theorem d_LW_law_592 : decode code 592 = .ok (.iaload, 1) := by decide +kernel
theorem d_LW_law_593 : decode code 593 = .ok (.invokevirtual 91, 3) := by decide +kernel
theorem d_LW_law_596 : decode code 596 = .ok (.if_icmp .eq 67, 3) := by decide +kernel
theorem d_LW_law_599 : decode code 599 = .ok (.iconst 0, 1) := by decide +kernel
theorem d_LW_law_600 : decode code 600 = .ok (.ireturn, 1) := by decide +kernel
theorem d_LW_law_601 : decode code 601 = .ok (.aload_n 1, 1) := by decide +kernel
theorem d_LW_law_602 : decode code 602 = .ok (.aload_n 0, 1) := by decide +kernel
theorem d_LW_law_603 : decode code 603 = .ok (.iload 4, 2) := by decide +kernel
theorem d_LW_law_605 : decode code 605 = .ok (.iconst 1, 1) := by decide +kernel
theorem d_LW_law_606 : decode code 606 = .ok (.iadd, 1) := by decide +kernel
theorem d_LW_law_607 : decode code 607 = .ok (.iaload, 1) := by decide +kernel
theorem d_LW_law_608 : decode code 608 = .ok (.aload_n 0, 1) := by decide +kernel
