theorem d_LW_law_609 : decode code 609 = .ok (.iload 4, 2) := by decide +kernel
theorem d_LW_law_611 : decode code 611 = .ok (.iconst 2, 1) := by decide +kernel
theorem d_LW_law_612 : decode code 612 = .ok (.iadd, 1) := by decide +kernel
theorem d_LW_law_613 : decode code 613 = .ok (.iaload, 1) := by decide +kernel
theorem d_LW_law_614 : decode code 614 = .ok (.invokevirtual 92, 3) := by decide +kernel
theorem d_LW_law_617 : decode code 617 = .ok (.aload_n 2, 1) := by decide +kernel
theorem d_LW_law_618 : decode code 618 = .ok (.aload_n 0, 1) := by decide +kernel
theorem d_LW_law_619 : decode code 619 = .ok (.iload 4, 2) := by decide +kernel
theorem d_LW_law_621 : decode code 621 = .ok (.iconst 1, 1) := by decide +kernel
theorem d_LW_law_622 : decode code 622 = .ok (.iadd, 1) := by decide +kernel
theorem d_LW_law_623 : decode code 623 = .ok (.iaload, 1) := by decide +kernel
theorem d_LW_law_624 : decode code 624 = .ok (.aload_n 0, 1) := by decide +kernel
theorem d_LW_law_625 : decode code 625 = .ok (.iload 4, 2) := by decide +kernel
theorem d_LW_law_627 : decode code 627 = .ok (.iconst 2, 1) := by decide +kernel
theorem d_LW_law_628 : decode code 628 = .ok (.iadd, 1) := by decide +kernel
theorem d_LW_law_629 : decode code 629 = .ok (.iaload, 1) := by decide +kernel
theorem d_LW_law_630 : decode code 630 = .ok (.invokevirtual 95, 3) := by decide +kernel
theorem d_LW_law_633 : decode code 633 = .ok (.if_icmp .eq 30, 3) := by decide +kernel
theorem d_LW_law_636 : decode code 636 = .ok (.iconst 0, 1) := by decide +kernel
theorem d_LW_law_637 : decode code 637 = .ok (.ireturn, 1) := by decide +kernel
theorem d_LW_law_638 : decode code 638 = .ok (.aload_n 1, 1) := by decide +kernel
theorem d_LW_law_639 : decode code 639 = .ok (.aload_n 0, 1) := by decide +kernel
theorem d_LW_law_640 : decode code 640 = .ok (.iload 4, 2) := by decide +kernel
theorem d_LW_law_642 : decode code 642 = .ok (.iconst 1, 1) := by decide +kernel
theorem d_LW_law_643 : decode code 643 = .ok (.iadd, 1) := by decide +kernel
theorem d_LW_law_644 : decode code 644 = .ok (.iaload, 1) := by decide +kernel
theorem d_LW_law_645 : decode code 645 = .ok (.invokevirtual 96, 3) := by decide +kernel
theorem d_LW_law_648 : decode code 648 = .ok (.aload_n 2, 1) := by decide +kernel
theorem d_LW_law_649 : decode code 649 = .ok (.aload_n 0, 1) := by decide +kernel
theorem d_LW_law_650 : decode code 650 = .ok (.iload 4, 2) := by decide +kernel
theorem d_LW_law_652 : decode code 652 = .ok (.iconst 1, 1) := by decide +kernel
theorem d_LW_law_653 : decode code 653 = .ok (.iadd, 1) := by decide +kernel
theorem d_LW_law_654 : decode code 654 = .ok (.iaload, 1) := by decide +kernel
theorem d_LW_law_655 : decode code 655 = .ok (.invokevirtual 100, 3) := by decide +kernel
theorem d_LW_law_658 : decode code 658 = .ok (.if_icmp .eq 5, 3) := by decide +kernel
theorem d_LW_law_661 : decode code 661 = .ok (.iconst 0, 1) := by decide +kernel
theorem d_LW_law_662 : decode code 662 = .ok (.ireturn, 1) := by decide +kernel
theorem d_LW_law_663 : decode code 663 = .ok (.iinc 4 6, 3) := by decide +kernel
theorem d_LW_law_666 : decode code 666 = .ok (.goto (-643), 3) := by decide +kernel
theorem d_LW_law_669 : decode code 669 = .ok (.iconst 1, 1) := by decide +kernel
theorem d_LW_law_670 : decode code 670 = .ok (.ireturn, 1) := by decide +kernel
