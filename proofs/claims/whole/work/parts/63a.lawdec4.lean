theorem d_LW_law_438 : decode code 438 = .ok (.ireturn, 1) := by decide +kernel
theorem d_LW_law_439 : decode code 439 = .ok (.aload_n 1, 1) := by decide +kernel
theorem d_LW_law_440 : decode code 440 = .ok (.aload_n 0, 1) := by decide +kernel
theorem d_LW_law_441 : decode code 441 = .ok (.iload 4, 2) := by decide +kernel
theorem d_LW_law_443 : decode code 443 = .ok (.iconst 1, 1) := by decide +kernel
theorem d_LW_law_444 : decode code 444 = .ok (.iadd, 1) := by decide +kernel
theorem d_LW_law_445 : decode code 445 = .ok (.iaload, 1) := by decide +kernel
theorem d_LW_law_446 : decode code 446 = .ok (.invokevirtual 68, 3) := by decide +kernel
theorem d_LW_law_449 : decode code 449 = .ok (.aload_n 2, 1) := by decide +kernel
theorem d_LW_law_450 : decode code 450 = .ok (.aload_n 0, 1) := by decide +kernel
theorem d_LW_law_451 : decode code 451 = .ok (.iload 4, 2) := by decide +kernel
theorem d_LW_law_453 : decode code 453 = .ok (.iconst 1, 1) := by decide +kernel
theorem d_LW_law_454 : decode code 454 = .ok (.iadd, 1) := by decide +kernel
theorem d_LW_law_455 : decode code 455 = .ok (.iaload, 1) := by decide +kernel
theorem d_LW_law_456 : decode code 456 = .ok (.invokevirtual 71, 3) := by decide +kernel
theorem d_LW_law_459 : decode code 459 = .ok (.if_icmp .eq 204, 3) := by decide +kernel
theorem d_LW_law_462 : decode code 462 = .ok (.iconst 0, 1) := by decide +kernel
theorem d_LW_law_463 : decode code 463 = .ok (.ireturn, 1) := by decide +kernel
theorem d_LW_law_464 : decode code 464 = .ok (.aload_n 1, 1) := by decide +kernel
theorem d_LW_law_465 : decode code 465 = .ok (.aload_n 0, 1) := by decide +kernel
theorem d_LW_law_466 : decode code 466 = .ok (.iload 4, 2) := by decide +kernel
theorem d_LW_law_468 : decode code 468 = .ok (.iconst 1, 1) := by decide +kernel
theorem d_LW_law_469 : decode code 469 = .ok (.iadd, 1) := by decide +kernel
theorem d_LW_law_470 : decode code 470 = .ok (.iaload, 1) := by decide +kernel
theorem d_LW_law_471 : decode code 471 = .ok (.invokevirtual 72, 3) := by decide +kernel
theorem d_LW_law_474 : decode code 474 = .ok (.aload_n 2, 1) := by decide +kernel
theorem d_LW_law_475 : decode code 475 = .ok (.aload_n 0, 1) := by decide +kernel
theorem d_LW_law_476 : decode code 476 = .ok (.iload 4, 2) := by decide +kernel
theorem d_LW_law_478 : decode code 478 = .ok (.iconst 1, 1) := by decide +kernel
theorem d_LW_law_479 : decode code 479 = .ok (.iadd, 1) := by decide +kernel
theorem d_LW_law_480 : decode code 480 = .ok (.iaload, 1) := by decide +kernel
theorem d_LW_law_481 : decode code 481 = .ok (.invokevirtual 75, 3) := by decide +kernel
theorem d_LW_law_484 : decode code 484 = .ok (.if_icmp .eq 179, 3) := by decide +kernel
theorem d_LW_law_487 : decode code 487 = .ok (.iconst 0, 1) := by decide +kernel
theorem d_LW_law_488 : decode code 488 = .ok (.ireturn, 1) := by decide +kernel
theorem d_LW_law_489 : decode code 489 = .ok (.aload_n 1, 1) := by decide +kernel
theorem d_LW_law_490 : decode code 490 = .ok (.aload_n 0, 1) := by decide +kernel
theorem d_LW_law_491 : decode code 491 = .ok (.iload 4, 2) := by decide +kernel
theorem d_LW_law_493 : decode code 493 = .ok (.iconst 1, 1) := by decide +kernel
theorem d_LW_law_494 : decode code 494 = .ok (.iadd, 1) := by decide +kernel
theorem d_LW_law_495 : decode code 495 = .ok (.iaload, 1) := by decide +kernel
theorem d_LW_law_496 : decode code 496 = .ok (.invokevirtual 76, 3) := by decide +kernel
theorem d_LW_law_499 : decode code 499 = .ok (.aload_n 2, 1) := by decide +kernel
theorem d_LW_law_500 : decode code 500 = .ok (.aload_n 0, 1) := by decide +kernel
theorem d_LW_law_501 : decode code 501 = .ok (.iload 4, 2) := by decide +kernel
theorem d_LW_law_503 : decode code 503 = .ok (.iconst 1, 1) := by decide +kernel
theorem d_LW_law_504 : decode code 504 = .ok (.iadd, 1) := by decide +kernel
theorem d_LW_law_505 : decode code 505 = .ok (.iaload, 1) := by decide +kernel
theorem d_LW_law_506 : decode code 506 = .ok (.invokevirtual 79, 3) := by decide +kernel
theorem d_LW_law_509 : decode code 509 = .ok (.if_icmp .eq 154, 3) := by decide +kernel
theorem d_LW_law_512 : decode code 512 = .ok (.iconst 0, 1) := by decide +kernel
theorem d_LW_law_513 : decode code 513 = .ok (.ireturn, 1) := by decide +kernel
theorem d_LW_law_514 : decode code 514 = .ok (.aload_n 1, 1) := by decide +kernel
theorem d_LW_law_515 : decode code 515 = .ok (.aload_n 0, 1) := by decide +kernel
theorem d_LW_law_516 : decode code 516 = .ok (.iload 4, 2) := by decide +kernel
theorem d_LW_law_518 : decode code 518 = .ok (.iconst 1, 1) := by decide +kernel
theorem d_LW_law_519 : decode code 519 = .ok (.iadd, 1) := by decide +kernel
theorem d_LW_law_520 : decode code 520 = .ok (.iaload, 1) := by decide +kernel
theorem d_LW_law_521 : decode code 521 = .ok (.invokevirtual 80, 3) := by decide +kernel
theorem d_LW_law_524 : decode code 524 = .ok (.aload_n 2, 1) := by decide +kernel
