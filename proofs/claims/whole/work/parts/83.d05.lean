/-! the law's entry, its instructions (5) -/
theorem d_law_658 : decode code 658 = .ok (.iadd, 1) := by decide +kernel
theorem d_law_659 : decode code 659 = .ok (.iaload, 1) := by decide +kernel
theorem d_law_660 : decode code 660 = .ok (.aload_n 0, 1) := by decide +kernel
theorem d_law_661 : decode code 661 = .ok (.iload 4, 2) := by decide +kernel
theorem d_law_663 : decode code 663 = .ok (.iconst 2, 1) := by decide +kernel
theorem d_law_664 : decode code 664 = .ok (.iadd, 1) := by decide +kernel
theorem d_law_665 : decode code 665 = .ok (.iaload, 1) := by decide +kernel
theorem d_law_666 : decode code 666 = .ok (.invokevirtual 151, 3) := by decide +kernel
theorem d_law_669 : decode code 669 = .ok (.istore 6, 2) := by decide +kernel
theorem d_law_671 : decode code 671 = .ok (.aload_n 2, 1) := by decide +kernel
theorem d_law_672 : decode code 672 = .ok (.invokevirtual 118, 3) := by decide +kernel
theorem d_law_675 : decode code 675 = .ok (.iload 5, 2) := by decide +kernel
theorem d_law_677 : decode code 677 = .ok (.if_icmp .eq 5, 3) := by decide +kernel
theorem d_law_682 : decode code 682 = .ok (.iload 5, 2) := by decide +kernel
theorem d_law_684 : decode code 684 = .ok (.ifCond .ne 15, 3) := by decide +kernel
theorem d_law_687 : decode code 687 = .ok (.aload_n 3, 1) := by decide +kernel
theorem d_law_688 : decode code 688 = .ok (.iconst 0, 1) := by decide +kernel
theorem d_law_689 : decode code 689 = .ok (.laload, 1) := by decide +kernel
theorem d_law_690 : decode code 690 = .ok (.iload 6, 2) := by decide +kernel
theorem d_law_692 : decode code 692 = .ok (.i2l, 1) := by decide +kernel
theorem d_law_693 : decode code 693 = .ok (.lcmp, 1) := by decide +kernel
theorem d_law_694 : decode code 694 = .ok (.ifCond .eq 5, 3) := by decide +kernel
theorem d_law_699 : decode code 699 = .ok (.goto 1376, 3) := by decide +kernel
theorem d_law_702 : decode code 702 = .ok (.aload_n 1, 1) := by decide +kernel
theorem d_law_703 : decode code 703 = .ok (.aload_n 0, 1) := by decide +kernel
theorem d_law_704 : decode code 704 = .ok (.iload 4, 2) := by decide +kernel
theorem d_law_706 : decode code 706 = .ok (.iconst 1, 1) := by decide +kernel
theorem d_law_707 : decode code 707 = .ok (.iadd, 1) := by decide +kernel
theorem d_law_708 : decode code 708 = .ok (.iaload, 1) := by decide +kernel
theorem d_law_709 : decode code 709 = .ok (.aload_n 3, 1) := by decide +kernel
theorem d_law_710 : decode code 710 = .ok (.invokestatic 152, 3) := by decide +kernel
theorem d_law_713 : decode code 713 = .ok (.istore 5, 2) := by decide +kernel
theorem d_law_715 : decode code 715 = .ok (.aload_n 2, 1) := by decide +kernel
theorem d_law_716 : decode code 716 = .ok (.aload_n 0, 1) := by decide +kernel
theorem d_law_717 : decode code 717 = .ok (.iload 4, 2) := by decide +kernel
theorem d_law_719 : decode code 719 = .ok (.iconst 1, 1) := by decide +kernel
theorem d_law_720 : decode code 720 = .ok (.iadd, 1) := by decide +kernel
theorem d_law_721 : decode code 721 = .ok (.iaload, 1) := by decide +kernel
theorem d_law_722 : decode code 722 = .ok (.invokevirtual 154, 3) := by decide +kernel
theorem d_law_725 : decode code 725 = .ok (.istore 6, 2) := by decide +kernel
theorem d_law_727 : decode code 727 = .ok (.aload_n 2, 1) := by decide +kernel
theorem d_law_728 : decode code 728 = .ok (.invokevirtual 118, 3) := by decide +kernel
theorem d_law_731 : decode code 731 = .ok (.iload 5, 2) := by decide +kernel
theorem d_law_733 : decode code 733 = .ok (.if_icmp .eq 5, 3) := by decide +kernel
theorem d_law_738 : decode code 738 = .ok (.iload 5, 2) := by decide +kernel
theorem d_law_740 : decode code 740 = .ok (.ifCond .ne 15, 3) := by decide +kernel
theorem d_law_743 : decode code 743 = .ok (.aload_n 3, 1) := by decide +kernel
theorem d_law_744 : decode code 744 = .ok (.iconst 0, 1) := by decide +kernel
theorem d_law_745 : decode code 745 = .ok (.laload, 1) := by decide +kernel
theorem d_law_746 : decode code 746 = .ok (.iload 6, 2) := by decide +kernel
theorem d_law_748 : decode code 748 = .ok (.i2l, 1) := by decide +kernel
theorem d_law_749 : decode code 749 = .ok (.lcmp, 1) := by decide +kernel
theorem d_law_750 : decode code 750 = .ok (.ifCond .eq 5, 3) := by decide +kernel
theorem d_law_755 : decode code 755 = .ok (.goto 1320, 3) := by decide +kernel
theorem d_law_758 : decode code 758 = .ok (.aload_n 1, 1) := by decide +kernel
theorem d_law_759 : decode code 759 = .ok (.aload_n 0, 1) := by decide +kernel
theorem d_law_760 : decode code 760 = .ok (.iload 4, 2) := by decide +kernel
theorem d_law_762 : decode code 762 = .ok (.iconst 1, 1) := by decide +kernel
theorem d_law_763 : decode code 763 = .ok (.iadd, 1) := by decide +kernel
theorem d_law_764 : decode code 764 = .ok (.iaload, 1) := by decide +kernel
