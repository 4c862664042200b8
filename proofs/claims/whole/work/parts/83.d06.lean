/-! the law's entry, its instructions (6) -/
theorem d_law_765 : decode code 765 = .ok (.aload_n 3, 1) := by decide +kernel
theorem d_law_766 : decode code 766 = .ok (.invokestatic 155, 3) := by decide +kernel
theorem d_law_769 : decode code 769 = .ok (.istore 5, 2) := by decide +kernel
theorem d_law_771 : decode code 771 = .ok (.aload_n 2, 1) := by decide +kernel
theorem d_law_772 : decode code 772 = .ok (.aload_n 0, 1) := by decide +kernel
theorem d_law_773 : decode code 773 = .ok (.iload 4, 2) := by decide +kernel
theorem d_law_775 : decode code 775 = .ok (.iconst 1, 1) := by decide +kernel
theorem d_law_776 : decode code 776 = .ok (.iadd, 1) := by decide +kernel
theorem d_law_777 : decode code 777 = .ok (.iaload, 1) := by decide +kernel
theorem d_law_778 : decode code 778 = .ok (.invokevirtual 157, 3) := by decide +kernel
theorem d_law_781 : decode code 781 = .ok (.istore 6, 2) := by decide +kernel
theorem d_law_783 : decode code 783 = .ok (.aload_n 2, 1) := by decide +kernel
theorem d_law_784 : decode code 784 = .ok (.invokevirtual 118, 3) := by decide +kernel
theorem d_law_787 : decode code 787 = .ok (.iload 5, 2) := by decide +kernel
theorem d_law_789 : decode code 789 = .ok (.if_icmp .eq 5, 3) := by decide +kernel
theorem d_law_794 : decode code 794 = .ok (.iload 5, 2) := by decide +kernel
theorem d_law_796 : decode code 796 = .ok (.ifCond .ne 15, 3) := by decide +kernel
theorem d_law_799 : decode code 799 = .ok (.aload_n 3, 1) := by decide +kernel
theorem d_law_800 : decode code 800 = .ok (.iconst 0, 1) := by decide +kernel
theorem d_law_801 : decode code 801 = .ok (.laload, 1) := by decide +kernel
theorem d_law_802 : decode code 802 = .ok (.iload 6, 2) := by decide +kernel
theorem d_law_804 : decode code 804 = .ok (.i2l, 1) := by decide +kernel
theorem d_law_805 : decode code 805 = .ok (.lcmp, 1) := by decide +kernel
theorem d_law_806 : decode code 806 = .ok (.ifCond .eq 5, 3) := by decide +kernel
theorem d_law_811 : decode code 811 = .ok (.goto 1264, 3) := by decide +kernel
theorem d_law_814 : decode code 814 = .ok (.aload_n 1, 1) := by decide +kernel
theorem d_law_815 : decode code 815 = .ok (.aload_n 0, 1) := by decide +kernel
theorem d_law_816 : decode code 816 = .ok (.iload 4, 2) := by decide +kernel
theorem d_law_818 : decode code 818 = .ok (.iconst 1, 1) := by decide +kernel
theorem d_law_819 : decode code 819 = .ok (.iadd, 1) := by decide +kernel
theorem d_law_820 : decode code 820 = .ok (.iaload, 1) := by decide +kernel
theorem d_law_821 : decode code 821 = .ok (.aload_n 0, 1) := by decide +kernel
theorem d_law_822 : decode code 822 = .ok (.iload 4, 2) := by decide +kernel
theorem d_law_824 : decode code 824 = .ok (.iconst 2, 1) := by decide +kernel
theorem d_law_825 : decode code 825 = .ok (.iadd, 1) := by decide +kernel
theorem d_law_826 : decode code 826 = .ok (.iaload, 1) := by decide +kernel
theorem d_law_827 : decode code 827 = .ok (.aload_n 3, 1) := by decide +kernel
theorem d_law_828 : decode code 828 = .ok (.invokestatic 158, 3) := by decide +kernel
theorem d_law_831 : decode code 831 = .ok (.istore 5, 2) := by decide +kernel
theorem d_law_833 : decode code 833 = .ok (.aload_n 2, 1) := by decide +kernel
theorem d_law_834 : decode code 834 = .ok (.aload_n 0, 1) := by decide +kernel
theorem d_law_835 : decode code 835 = .ok (.iload 4, 2) := by decide +kernel
theorem d_law_837 : decode code 837 = .ok (.iconst 1, 1) := by decide +kernel
theorem d_law_838 : decode code 838 = .ok (.iadd, 1) := by decide +kernel
theorem d_law_839 : decode code 839 = .ok (.iaload, 1) := by decide +kernel
theorem d_law_840 : decode code 840 = .ok (.aload_n 0, 1) := by decide +kernel
theorem d_law_841 : decode code 841 = .ok (.iload 4, 2) := by decide +kernel
theorem d_law_843 : decode code 843 = .ok (.iconst 2, 1) := by decide +kernel
theorem d_law_844 : decode code 844 = .ok (.iadd, 1) := by decide +kernel
theorem d_law_845 : decode code 845 = .ok (.iaload, 1) := by decide +kernel
theorem d_law_846 : decode code 846 = .ok (.invokevirtual 160, 3) := by decide +kernel
theorem d_law_849 : decode code 849 = .ok (.istore 6, 2) := by decide +kernel
theorem d_law_851 : decode code 851 = .ok (.aload_n 2, 1) := by decide +kernel
theorem d_law_852 : decode code 852 = .ok (.invokevirtual 118, 3) := by decide +kernel
theorem d_law_855 : decode code 855 = .ok (.iload 5, 2) := by decide +kernel
theorem d_law_857 : decode code 857 = .ok (.if_icmp .eq 5, 3) := by decide +kernel
theorem d_law_862 : decode code 862 = .ok (.iload 5, 2) := by decide +kernel
theorem d_law_864 : decode code 864 = .ok (.ifCond .ne 15, 3) := by decide +kernel
theorem d_law_867 : decode code 867 = .ok (.aload_n 3, 1) := by decide +kernel
theorem d_law_868 : decode code 868 = .ok (.iconst 0, 1) := by decide +kernel
