theorem d_L_law_598 : decode c_L_law 598 = .ok (.iconst 1, 1) := by decide +kernel
theorem d_L_law_599 : decode c_L_law 599 = .ok (.iadd, 1) := by decide +kernel
theorem d_L_law_600 : decode c_L_law 600 = .ok (.iaload, 1) := by decide +kernel
theorem d_L_law_601 : decode c_L_law 601 = .ok (.aload_n 0, 1) := by decide +kernel
theorem d_L_law_602 : decode c_L_law 602 = .ok (.iload 4, 2) := by decide +kernel
theorem d_L_law_604 : decode c_L_law 604 = .ok (.iconst 2, 1) := by decide +kernel
theorem d_L_law_605 : decode c_L_law 605 = .ok (.iadd, 1) := by decide +kernel
theorem d_L_law_606 : decode c_L_law 606 = .ok (.iaload, 1) := by decide +kernel
theorem d_L_law_607 : decode c_L_law 607 = .ok (.aload_n 0, 1) := by decide +kernel
theorem d_L_law_608 : decode c_L_law 608 = .ok (.iload 4, 2) := by decide +kernel
theorem d_L_law_610 : decode c_L_law 610 = .ok (.iconst 3, 1) := by decide +kernel
theorem d_L_law_611 : decode c_L_law 611 = .ok (.iadd, 1) := by decide +kernel
theorem d_L_law_612 : decode c_L_law 612 = .ok (.iaload, 1) := by decide +kernel
theorem d_L_law_613 : decode c_L_law 613 = .ok (.aload_n 3, 1) := by decide +kernel
theorem d_L_law_614 : decode c_L_law 614 = .ok (.invokestatic 84, 3) := by decide +kernel
theorem d_L_law_617 : decode c_L_law 617 = .ok (.istore 5, 2) := by decide +kernel
theorem d_L_law_619 : decode c_L_law 619 = .ok (.aload_n 2, 1) := by decide +kernel
theorem d_L_law_620 : decode c_L_law 620 = .ok (.aload_n 0, 1) := by decide +kernel
theorem d_L_law_621 : decode c_L_law 621 = .ok (.iload 4, 2) := by decide +kernel
theorem d_L_law_623 : decode c_L_law 623 = .ok (.iconst 1, 1) := by decide +kernel
theorem d_L_law_624 : decode c_L_law 624 = .ok (.iadd, 1) := by decide +kernel
theorem d_L_law_625 : decode c_L_law 625 = .ok (.iaload, 1) := by decide +kernel
theorem d_L_law_626 : decode c_L_law 626 = .ok (.aload_n 0, 1) := by decide +kernel
theorem d_L_law_627 : decode c_L_law 627 = .ok (.iload 4, 2) := by decide +kernel
theorem d_L_law_629 : decode c_L_law 629 = .ok (.iconst 2, 1) := by decide +kernel
theorem d_L_law_630 : decode c_L_law 630 = .ok (.iadd, 1) := by decide +kernel
theorem d_L_law_631 : decode c_L_law 631 = .ok (.iaload, 1) := by decide +kernel
theorem d_L_law_632 : decode c_L_law 632 = .ok (.aload_n 0, 1) := by decide +kernel
theorem d_L_law_633 : decode c_L_law 633 = .ok (.iload 4, 2) := by decide +kernel
theorem d_L_law_635 : decode c_L_law 635 = .ok (.iconst 3, 1) := by decide +kernel
theorem d_L_law_636 : decode c_L_law 636 = .ok (.iadd, 1) := by decide +kernel
theorem d_L_law_637 : decode c_L_law 637 = .ok (.iaload, 1) := by decide +kernel
theorem d_L_law_638 : decode c_L_law 638 = .ok (.invokevirtual 89, 3) := by decide +kernel
theorem d_L_law_641 : decode c_L_law 641 = .ok (.lstore 6, 2) := by decide +kernel
theorem d_L_law_643 : decode c_L_law 643 = .ok (.aload_n 2, 1) := by decide +kernel
theorem d_L_law_644 : decode c_L_law 644 = .ok (.invokevirtual 90, 3) := by decide +kernel
theorem d_L_law_647 : decode c_L_law 647 = .ok (.iload 5, 2) := by decide +kernel
theorem d_L_law_649 : decode c_L_law 649 = .ok (.if_icmp .eq 5, 3) := by decide +kernel
theorem d_L_law_652 : decode c_L_law 652 = .ok (.iconst 0, 1) := by decide +kernel
theorem d_L_law_653 : decode c_L_law 653 = .ok (.ireturn, 1) := by decide +kernel
theorem d_L_law_654 : decode c_L_law 654 = .ok (.iload 5, 2) := by decide +kernel
theorem d_L_law_656 : decode c_L_law 656 = .ok (.ifCond .ne 14, 3) := by decide +kernel
theorem d_L_law_659 : decode c_L_law 659 = .ok (.aload_n 3, 1) := by decide +kernel
theorem d_L_law_660 : decode c_L_law 660 = .ok (.iconst 0, 1) := by decide +kernel
theorem d_L_law_661 : decode c_L_law 661 = .ok (.laload, 1) := by decide +kernel
theorem d_L_law_662 : decode c_L_law 662 = .ok (.lload 6, 2) := by decide +kernel
theorem d_L_law_664 : decode c_L_law 664 = .ok (.lcmp, 1) := by decide +kernel
theorem d_L_law_665 : decode c_L_law 665 = .ok (.ifCond .eq 5, 3) := by decide +kernel
theorem d_L_law_668 : decode c_L_law 668 = .ok (.iconst 0, 1) := by decide +kernel
theorem d_L_law_669 : decode c_L_law 669 = .ok (.ireturn, 1) := by decide +kernel
theorem d_L_law_670 : decode c_L_law 670 = .ok (.goto 164, 3) := by decide +kernel
theorem d_L_law_673 : decode c_L_law 673 = .ok (.aload_n 1, 1) := by decide +kernel
theorem d_L_law_674 : decode c_L_law 674 = .ok (.aload_n 0, 1) := by decide +kernel
theorem d_L_law_675 : decode c_L_law 675 = .ok (.iload 4, 2) := by decide +kernel
theorem d_L_law_677 : decode c_L_law 677 = .ok (.iconst 1, 1) := by decide +kernel
theorem d_L_law_678 : decode c_L_law 678 = .ok (.iadd, 1) := by decide +kernel
theorem d_L_law_679 : decode c_L_law 679 = .ok (.iaload, 1) := by decide +kernel
theorem d_L_law_680 : decode c_L_law 680 = .ok (.aload_n 0, 1) := by decide +kernel
theorem d_L_law_681 : decode c_L_law 681 = .ok (.iload 4, 2) := by decide +kernel
theorem d_L_law_683 : decode c_L_law 683 = .ok (.iconst 2, 1) := by decide +kernel
theorem d_L_law_684 : decode c_L_law 684 = .ok (.iadd, 1) := by decide +kernel
theorem d_L_law_685 : decode c_L_law 685 = .ok (.iaload, 1) := by decide +kernel
theorem d_L_law_686 : decode c_L_law 686 = .ok (.invokevirtual 93, 3) := by decide +kernel
theorem d_L_law_689 : decode c_L_law 689 = .ok (.aload_n 2, 1) := by decide +kernel
theorem d_L_law_690 : decode c_L_law 690 = .ok (.aload_n 0, 1) := by decide +kernel
theorem d_L_law_691 : decode c_L_law 691 = .ok (.iload 4, 2) := by decide +kernel
theorem d_L_law_693 : decode c_L_law 693 = .ok (.iconst 1, 1) := by decide +kernel
theorem d_L_law_694 : decode c_L_law 694 = .ok (.iadd, 1) := by decide +kernel
theorem d_L_law_695 : decode c_L_law 695 = .ok (.iaload, 1) := by decide +kernel
theorem d_L_law_696 : decode c_L_law 696 = .ok (.aload_n 0, 1) := by decide +kernel
theorem d_L_law_697 : decode c_L_law 697 = .ok (.iload 4, 2) := by decide +kernel
theorem d_L_law_699 : decode c_L_law 699 = .ok (.iconst 2, 1) := by decide +kernel
theorem d_L_law_700 : decode c_L_law 700 = .ok (.iadd, 1) := by decide +kernel
theorem d_L_law_701 : decode c_L_law 701 = .ok (.iaload, 1) := by decide +kernel
theorem d_L_law_702 : decode c_L_law 702 = .ok (.invokevirtual 96, 3) := by decide +kernel
theorem d_L_law_705 : decode c_L_law 705 = .ok (.if_icmp .eq 129, 3) := by decide +kernel
theorem d_L_law_708 : decode c_L_law 708 = .ok (.iconst 0, 1) := by decide +kernel
theorem d_L_law_709 : decode c_L_law 709 = .ok (.ireturn, 1) := by decide +kernel
theorem d_L_law_710 : decode c_L_law 710 = .ok (.aload_n 1, 1) := by decide +kernel
theorem d_L_law_711 : decode c_L_law 711 = .ok (.aload_n 0, 1) := by decide +kernel
theorem d_L_law_712 : decode c_L_law 712 = .ok (.iload 4, 2) := by decide +kernel
theorem d_L_law_714 : decode c_L_law 714 = .ok (.iconst 1, 1) := by decide +kernel
theorem d_L_law_715 : decode c_L_law 715 = .ok (.iadd, 1) := by decide +kernel
theorem d_L_law_716 : decode c_L_law 716 = .ok (.iaload, 1) := by decide +kernel
theorem d_L_law_717 : decode c_L_law 717 = .ok (.invokevirtual 97, 3) := by decide +kernel
theorem d_L_law_720 : decode c_L_law 720 = .ok (.aload_n 2, 1) := by decide +kernel
theorem d_L_law_721 : decode c_L_law 721 = .ok (.aload_n 0, 1) := by decide +kernel
theorem d_L_law_722 : decode c_L_law 722 = .ok (.iload 4, 2) := by decide +kernel
theorem d_L_law_724 : decode c_L_law 724 = .ok (.iconst 1, 1) := by decide +kernel
theorem d_L_law_725 : decode c_L_law 725 = .ok (.iadd, 1) := by decide +kernel
