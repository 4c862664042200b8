/-! the law's entry, its instructions (8) -/
theorem d_law_968 : decode code 968 = .ok (.iadd, 1) := by decide +kernel
theorem d_law_969 : decode code 969 = .ok (.iaload, 1) := by decide +kernel
theorem d_law_970 : decode code 970 = .ok (.invokevirtual 166, 3) := by decide +kernel
theorem d_law_973 : decode code 973 = .ok (.istore 6, 2) := by decide +kernel
theorem d_law_975 : decode code 975 = .ok (.aload_n 2, 1) := by decide +kernel
theorem d_law_976 : decode code 976 = .ok (.invokevirtual 118, 3) := by decide +kernel
theorem d_law_979 : decode code 979 = .ok (.iload 5, 2) := by decide +kernel
theorem d_law_981 : decode code 981 = .ok (.if_icmp .eq 5, 3) := by decide +kernel
theorem d_law_986 : decode code 986 = .ok (.iload 5, 2) := by decide +kernel
theorem d_law_988 : decode code 988 = .ok (.ifCond .ne 15, 3) := by decide +kernel
theorem d_law_991 : decode code 991 = .ok (.aload_n 3, 1) := by decide +kernel
theorem d_law_992 : decode code 992 = .ok (.iconst 0, 1) := by decide +kernel
theorem d_law_993 : decode code 993 = .ok (.laload, 1) := by decide +kernel
theorem d_law_994 : decode code 994 = .ok (.iload 6, 2) := by decide +kernel
theorem d_law_996 : decode code 996 = .ok (.i2l, 1) := by decide +kernel
theorem d_law_997 : decode code 997 = .ok (.lcmp, 1) := by decide +kernel
theorem d_law_998 : decode code 998 = .ok (.ifCond .eq 5, 3) := by decide +kernel
theorem d_law_1003 : decode code 1003 = .ok (.goto 1072, 3) := by decide +kernel
theorem d_law_1006 : decode code 1006 = .ok (.aload_n 1, 1) := by decide +kernel
theorem d_law_1007 : decode code 1007 = .ok (.aload_n 0, 1) := by decide +kernel
theorem d_law_1008 : decode code 1008 = .ok (.iload 4, 2) := by decide +kernel
theorem d_law_1010 : decode code 1010 = .ok (.iconst 1, 1) := by decide +kernel
theorem d_law_1011 : decode code 1011 = .ok (.iadd, 1) := by decide +kernel
theorem d_law_1012 : decode code 1012 = .ok (.iaload, 1) := by decide +kernel
theorem d_law_1013 : decode code 1013 = .ok (.aload_n 0, 1) := by decide +kernel
theorem d_law_1014 : decode code 1014 = .ok (.iload 4, 2) := by decide +kernel
theorem d_law_1016 : decode code 1016 = .ok (.iconst 2, 1) := by decide +kernel
theorem d_law_1017 : decode code 1017 = .ok (.iadd, 1) := by decide +kernel
theorem d_law_1018 : decode code 1018 = .ok (.iaload, 1) := by decide +kernel
theorem d_law_1019 : decode code 1019 = .ok (.aload_n 3, 1) := by decide +kernel
theorem d_law_1020 : decode code 1020 = .ok (.invokestatic 167, 3) := by decide +kernel
theorem d_law_1023 : decode code 1023 = .ok (.istore 5, 2) := by decide +kernel
theorem d_law_1025 : decode code 1025 = .ok (.aload_n 2, 1) := by decide +kernel
theorem d_law_1026 : decode code 1026 = .ok (.aload_n 0, 1) := by decide +kernel
theorem d_law_1027 : decode code 1027 = .ok (.iload 4, 2) := by decide +kernel
theorem d_law_1029 : decode code 1029 = .ok (.iconst 1, 1) := by decide +kernel
theorem d_law_1030 : decode code 1030 = .ok (.iadd, 1) := by decide +kernel
theorem d_law_1031 : decode code 1031 = .ok (.iaload, 1) := by decide +kernel
theorem d_law_1032 : decode code 1032 = .ok (.aload_n 0, 1) := by decide +kernel
theorem d_law_1033 : decode code 1033 = .ok (.iload 4, 2) := by decide +kernel
theorem d_law_1035 : decode code 1035 = .ok (.iconst 2, 1) := by decide +kernel
theorem d_law_1036 : decode code 1036 = .ok (.iadd, 1) := by decide +kernel
theorem d_law_1037 : decode code 1037 = .ok (.iaload, 1) := by decide +kernel
theorem d_law_1038 : decode code 1038 = .ok (.invokevirtual 169, 3) := by decide +kernel
theorem d_law_1041 : decode code 1041 = .ok (.istore 6, 2) := by decide +kernel
theorem d_law_1043 : decode code 1043 = .ok (.aload_n 2, 1) := by decide +kernel
theorem d_law_1044 : decode code 1044 = .ok (.invokevirtual 118, 3) := by decide +kernel
theorem d_law_1047 : decode code 1047 = .ok (.iload 5, 2) := by decide +kernel
theorem d_law_1049 : decode code 1049 = .ok (.if_icmp .eq 5, 3) := by decide +kernel
theorem d_law_1054 : decode code 1054 = .ok (.iload 5, 2) := by decide +kernel
theorem d_law_1056 : decode code 1056 = .ok (.ifCond .ne 15, 3) := by decide +kernel
theorem d_law_1059 : decode code 1059 = .ok (.aload_n 3, 1) := by decide +kernel
theorem d_law_1060 : decode code 1060 = .ok (.iconst 0, 1) := by decide +kernel
theorem d_law_1061 : decode code 1061 = .ok (.laload, 1) := by decide +kernel
theorem d_law_1062 : decode code 1062 = .ok (.iload 6, 2) := by decide +kernel
theorem d_law_1064 : decode code 1064 = .ok (.i2l, 1) := by decide +kernel
theorem d_law_1065 : decode code 1065 = .ok (.lcmp, 1) := by decide +kernel
theorem d_law_1066 : decode code 1066 = .ok (.ifCond .eq 5, 3) := by decide +kernel
theorem d_law_1071 : decode code 1071 = .ok (.goto 1004, 3) := by decide +kernel
theorem d_law_1074 : decode code 1074 = .ok (.aload_n 1, 1) := by decide +kernel
