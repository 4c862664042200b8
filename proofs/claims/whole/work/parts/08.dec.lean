theorem dX2_init_0 : decode cX2_init 0 = .ok (.aload_n 0, 1) := by decide +kernel
theorem dX2_init_1 : decode cX2_init 1 = .ok (.invokespecial 3, 3) := by decide +kernel
theorem dX2_init_4 : decode cX2_init 4 = .ok (.aload_n 0, 1) := by decide +kernel
theorem dX2_init_5 : decode cX2_init 5 = .ok (.bipush 120, 2) := by decide +kernel
theorem dX2_init_7 : decode cX2_init 7 = .ok (.newarray .char, 2) := by decide +kernel
theorem dX2_init_9 : decode cX2_init 9 = .ok (.putfield 9, 3) := by decide +kernel
theorem dX2_init_12 : decode cX2_init 12 = .ok (.aload_n 0, 1) := by decide +kernel
theorem dX2_init_13 : decode cX2_init 13 = .ok (.bipush 24, 2) := by decide +kernel
theorem dX2_init_15 : decode cX2_init 15 = .ok (.newarray .int, 2) := by decide +kernel
theorem dX2_init_17 : decode cX2_init 17 = .ok (.putfield 15, 3) := by decide +kernel
theorem dX2_init_20 : decode cX2_init 20 = .ok (.aload_n 0, 1) := by decide +kernel
theorem dX2_init_21 : decode cX2_init 21 = .ok (.bipush 24, 2) := by decide +kernel
theorem dX2_init_23 : decode cX2_init 23 = .ok (.newarray .int, 2) := by decide +kernel
theorem dX2_init_25 : decode cX2_init 25 = .ok (.putfield 19, 3) := by decide +kernel
theorem dX2_init_28 : decode cX2_init 28 = .ok (.aload_n 0, 1) := by decide +kernel
theorem dX2_init_29 : decode cX2_init 29 = .ok (.bipush 24, 2) := by decide +kernel
theorem dX2_init_31 : decode cX2_init 31 = .ok (.newarray .int, 2) := by decide +kernel
theorem dX2_init_33 : decode cX2_init 33 = .ok (.putfield 22, 3) := by decide +kernel
theorem dX2_init_36 : decode cX2_init 36 = .ok (.return_, 1) := by decide +kernel
theorem dX2_isFull_0 : decode cX2_isFull 0 = .ok (.aload_n 0, 1) := by decide +kernel
theorem dX2_isFull_1 : decode cX2_isFull 1 = .ok (.getfield 25, 3) := by decide +kernel
theorem dX2_isFull_4 : decode cX2_isFull 4 = .ok (.bipush 120, 2) := by decide +kernel
theorem dX2_isFull_6 : decode cX2_isFull 6 = .ok (.if_icmp .lt 7, 3) := by decide +kernel
theorem dX2_isFull_9 : decode cX2_isFull 9 = .ok (.iconst 1, 1) := by decide +kernel
theorem dX2_isFull_10 : decode cX2_isFull 10 = .ok (.goto 4, 3) := by decide +kernel
theorem dX2_isFull_13 : decode cX2_isFull 13 = .ok (.iconst 0, 1) := by decide +kernel
theorem dX2_isFull_14 : decode cX2_isFull 14 = .ok (.ireturn, 1) := by decide +kernel
theorem dX2_add_0 : decode cX2_add 0 = .ok (.aload_n 0, 1) := by decide +kernel
theorem dX2_add_1 : decode cX2_add 1 = .ok (.getfield 25, 3) := by decide +kernel
theorem dX2_add_4 : decode cX2_add 4 = .ok (.ifCond .lt 32, 3) := by decide +kernel
theorem dX2_add_7 : decode cX2_add 7 = .ok (.aload_n 0, 1) := by decide +kernel
theorem dX2_add_8 : decode cX2_add 8 = .ok (.getfield 25, 3) := by decide +kernel
theorem dX2_add_11 : decode cX2_add 11 = .ok (.bipush 120, 2) := by decide +kernel
theorem dX2_add_13 : decode cX2_add 13 = .ok (.if_icmp .ge 23, 3) := by decide +kernel
theorem dX2_add_16 : decode cX2_add 16 = .ok (.aload_n 0, 1) := by decide +kernel
theorem dX2_add_17 : decode cX2_add 17 = .ok (.getfield 9, 3) := by decide +kernel
theorem dX2_add_20 : decode cX2_add 20 = .ok (.aload_n 0, 1) := by decide +kernel
theorem dX2_add_21 : decode cX2_add 21 = .ok (.getfield 25, 3) := by decide +kernel
theorem dX2_add_24 : decode cX2_add 24 = .ok (.iload_n 1, 1) := by decide +kernel
theorem dX2_add_25 : decode cX2_add 25 = .ok (.castore, 1) := by decide +kernel
theorem dX2_add_26 : decode cX2_add 26 = .ok (.aload_n 0, 1) := by decide +kernel
theorem dX2_add_27 : decode cX2_add 27 = .ok (.dup, 1) := by decide +kernel
theorem dX2_add_28 : decode cX2_add 28 = .ok (.getfield 25, 3) := by decide +kernel
theorem dX2_add_31 : decode cX2_add 31 = .ok (.iconst 1, 1) := by decide +kernel
theorem dX2_add_32 : decode cX2_add 32 = .ok (.iadd, 1) := by decide +kernel
theorem dX2_add_33 : decode cX2_add 33 = .ok (.putfield 25, 3) := by decide +kernel
theorem dX2_add_36 : decode cX2_add 36 = .ok (.aload_n 0, 1) := by decide +kernel
theorem dX2_add_37 : decode cX2_add 37 = .ok (.getfield 25, 3) := by decide +kernel
theorem dX2_add_40 : decode cX2_add 40 = .ok (.ireturn, 1) := by decide +kernel
theorem dX2_empty_0 : decode cX2_empty 0 = .ok (.aload_n 0, 1) := by decide +kernel
theorem dX2_empty_1 : decode cX2_empty 1 = .ok (.getfield 25, 3) := by decide +kernel
theorem dX2_empty_4 : decode cX2_empty 4 = .ok (.istore_n 1, 1) := by decide +kernel
theorem dX2_empty_5 : decode cX2_empty 5 = .ok (.aload_n 0, 1) := by decide +kernel
theorem dX2_empty_6 : decode cX2_empty 6 = .ok (.iconst 0, 1) := by decide +kernel
theorem dX2_empty_7 : decode cX2_empty 7 = .ok (.putfield 25, 3) := by decide +kernel
theorem dX2_empty_10 : decode cX2_empty 10 = .ok (.iload_n 1, 1) := by decide +kernel
theorem dX2_empty_11 : decode cX2_empty 11 = .ok (.ireturn, 1) := by decide +kernel
theorem dX2_orderCount_0 : decode cX2_orderCount 0 = .ok (.aload_n 0, 1) := by decide +kernel
theorem dX2_orderCount_1 : decode cX2_orderCount 1 = .ok (.getfield 29, 3) := by decide +kernel
theorem dX2_orderCount_4 : decode cX2_orderCount 4 = .ok (.ireturn, 1) := by decide +kernel
theorem dX2_isOrder_0 : decode cX2_isOrder 0 = .ok (.iload_n 0, 1) := by decide +kernel
theorem dX2_isOrder_1 : decode cX2_isOrder 1 = .ok (.ifCond .lt 13, 3) := by decide +kernel
theorem dX2_isOrder_4 : decode cX2_isOrder 4 = .ok (.iload_n 0, 1) := by decide +kernel
theorem dX2_isOrder_5 : decode cX2_isOrder 5 = .ok (.bipush 24, 2) := by decide +kernel
theorem dX2_isOrder_7 : decode cX2_isOrder 7 = .ok (.if_icmp .ge 7, 3) := by decide +kernel
theorem dX2_isOrder_10 : decode cX2_isOrder 10 = .ok (.iconst 1, 1) := by decide +kernel
theorem dX2_isOrder_11 : decode cX2_isOrder 11 = .ok (.goto 4, 3) := by decide +kernel
theorem dX2_isOrder_14 : decode cX2_isOrder 14 = .ok (.iconst 0, 1) := by decide +kernel
theorem dX2_isOrder_15 : decode cX2_isOrder 15 = .ok (.ireturn, 1) := by decide +kernel
theorem dX2_wordOf_0 : decode cX2_wordOf 0 = .ok (.iload_n 1, 1) := by decide +kernel
theorem dX2_wordOf_1 : decode cX2_wordOf 1 = .ok (.invokestatic 32, 3) := by decide +kernel
theorem dX2_wordOf_4 : decode cX2_wordOf 4 = .ok (.ifCond .eq 12, 3) := by decide +kernel
theorem dX2_wordOf_7 : decode cX2_wordOf 7 = .ok (.aload_n 0, 1) := by decide +kernel
theorem dX2_wordOf_8 : decode cX2_wordOf 8 = .ok (.getfield 15, 3) := by decide +kernel
theorem dX2_wordOf_11 : decode cX2_wordOf 11 = .ok (.iload_n 1, 1) := by decide +kernel
theorem dX2_wordOf_12 : decode cX2_wordOf 12 = .ok (.iaload, 1) := by decide +kernel
theorem dX2_wordOf_13 : decode cX2_wordOf 13 = .ok (.goto 4, 3) := by decide +kernel
theorem dX2_wordOf_16 : decode cX2_wordOf 16 = .ok (.iconst (-1), 1) := by decide +kernel
theorem dX2_wordOf_17 : decode cX2_wordOf 17 = .ok (.ireturn, 1) := by decide +kernel
theorem dX2_firstOf_0 : decode cX2_firstOf 0 = .ok (.iload_n 1, 1) := by decide +kernel
theorem dX2_firstOf_1 : decode cX2_firstOf 1 = .ok (.invokestatic 32, 3) := by decide +kernel
theorem dX2_firstOf_4 : decode cX2_firstOf 4 = .ok (.ifCond .eq 12, 3) := by decide +kernel
theorem dX2_firstOf_7 : decode cX2_firstOf 7 = .ok (.aload_n 0, 1) := by decide +kernel
theorem dX2_firstOf_8 : decode cX2_firstOf 8 = .ok (.getfield 19, 3) := by decide +kernel
theorem dX2_firstOf_11 : decode cX2_firstOf 11 = .ok (.iload_n 1, 1) := by decide +kernel
theorem dX2_firstOf_12 : decode cX2_firstOf 12 = .ok (.iaload, 1) := by decide +kernel
theorem dX2_firstOf_13 : decode cX2_firstOf 13 = .ok (.goto 4, 3) := by decide +kernel
theorem dX2_firstOf_16 : decode cX2_firstOf 16 = .ok (.iconst (-1), 1) := by decide +kernel
theorem dX2_firstOf_17 : decode cX2_firstOf 17 = .ok (.ireturn, 1) := by decide +kernel
theorem dX2_secondOf_0 : decode cX2_secondOf 0 = .ok (.iload_n 1, 1) := by decide +kernel
theorem dX2_secondOf_1 : decode cX2_secondOf 1 = .ok (.invokestatic 32, 3) := by decide +kernel
theorem dX2_secondOf_4 : decode cX2_secondOf 4 = .ok (.ifCond .eq 12, 3) := by decide +kernel
theorem dX2_secondOf_7 : decode cX2_secondOf 7 = .ok (.aload_n 0, 1) := by decide +kernel
theorem dX2_secondOf_8 : decode cX2_secondOf 8 = .ok (.getfield 22, 3) := by decide +kernel
theorem dX2_secondOf_11 : decode cX2_secondOf 11 = .ok (.iload_n 1, 1) := by decide +kernel
theorem dX2_secondOf_12 : decode cX2_secondOf 12 = .ok (.iaload, 1) := by decide +kernel
theorem dX2_secondOf_13 : decode cX2_secondOf 13 = .ok (.goto 4, 3) := by decide +kernel
theorem dX2_secondOf_16 : decode cX2_secondOf 16 = .ok (.iconst (-1), 1) := by decide +kernel
theorem dX2_secondOf_17 : decode cX2_secondOf 17 = .ok (.ireturn, 1) := by decide +kernel
theorem dX2_readOrders_0 : decode cX2_readOrders 0 = .ok (.aload_n 0, 1) := by decide +kernel
theorem dX2_readOrders_1 : decode cX2_readOrders 1 = .ok (.iconst 0, 1) := by decide +kernel
theorem dX2_readOrders_2 : decode cX2_readOrders 2 = .ok (.putfield 36, 3) := by decide +kernel
theorem dX2_readOrders_5 : decode cX2_readOrders 5 = .ok (.aload_n 0, 1) := by decide +kernel
theorem dX2_readOrders_6 : decode cX2_readOrders 6 = .ok (.iconst 0, 1) := by decide +kernel
theorem dX2_readOrders_7 : decode cX2_readOrders 7 = .ok (.putfield 29, 3) := by decide +kernel
theorem dX2_readOrders_10 : decode cX2_readOrders 10 = .ok (.iconst 0, 1) := by decide +kernel
theorem dX2_readOrders_11 : decode cX2_readOrders 11 = .ok (.istore_n 1, 1) := by decide +kernel
theorem dX2_readOrders_12 : decode cX2_readOrders 12 = .ok (.iload_n 1, 1) := by decide +kernel
theorem dX2_readOrders_13 : decode cX2_readOrders 13 = .ok (.bipush 24, 2) := by decide +kernel
theorem dX2_readOrders_15 : decode cX2_readOrders 15 = .ok (.if_icmp .ge 48, 3) := by decide +kernel
theorem dX2_readOrders_18 : decode cX2_readOrders 18 = .ok (.aload_n 0, 1) := by decide +kernel
theorem dX2_readOrders_19 : decode cX2_readOrders 19 = .ok (.invokevirtual 39, 3) := by decide +kernel
theorem dX2_readOrders_22 : decode cX2_readOrders 22 = .ok (.ifCond .ne 8, 3) := by decide +kernel
theorem dX2_readOrders_25 : decode cX2_readOrders 25 = .ok (.aload_n 0, 1) := by decide +kernel
theorem dX2_readOrders_26 : decode cX2_readOrders 26 = .ok (.getfield 36, 3) := by decide +kernel
theorem dX2_readOrders_29 : decode cX2_readOrders 29 = .ok (.ireturn, 1) := by decide +kernel
theorem dX2_readOrders_30 : decode cX2_readOrders 30 = .ok (.aload_n 0, 1) := by decide +kernel
theorem dX2_readOrders_31 : decode cX2_readOrders 31 = .ok (.getfield 36, 3) := by decide +kernel
theorem dX2_readOrders_34 : decode cX2_readOrders 34 = .ok (.aload_n 0, 1) := by decide +kernel
theorem dX2_readOrders_35 : decode cX2_readOrders 35 = .ok (.getfield 25, 3) := by decide +kernel
theorem dX2_readOrders_38 : decode cX2_readOrders 38 = .ok (.if_icmp .lt 5, 3) := by decide +kernel
theorem dX2_readOrders_41 : decode cX2_readOrders 41 = .ok (.iconst (-1), 1) := by decide +kernel
theorem dX2_readOrders_42 : decode cX2_readOrders 42 = .ok (.ireturn, 1) := by decide +kernel
theorem dX2_readOrders_43 : decode cX2_readOrders 43 = .ok (.aload_n 0, 1) := by decide +kernel
theorem dX2_readOrders_44 : decode cX2_readOrders 44 = .ok (.bipush 59, 2) := by decide +kernel
theorem dX2_readOrders_46 : decode cX2_readOrders 46 = .ok (.invokevirtual 43, 3) := by decide +kernel
theorem dX2_readOrders_49 : decode cX2_readOrders 49 = .ok (.ifCond .ne 8, 3) := by decide +kernel
theorem dX2_readOrders_52 : decode cX2_readOrders 52 = .ok (.aload_n 0, 1) := by decide +kernel
theorem dX2_readOrders_53 : decode cX2_readOrders 53 = .ok (.getfield 36, 3) := by decide +kernel
theorem dX2_readOrders_56 : decode cX2_readOrders 56 = .ok (.ireturn, 1) := by decide +kernel
theorem dX2_readOrders_57 : decode cX2_readOrders 57 = .ok (.iinc 1 1, 3) := by decide +kernel
theorem dX2_readOrders_60 : decode cX2_readOrders 60 = .ok (.goto (-48), 3) := by decide +kernel
theorem dX2_readOrders_63 : decode cX2_readOrders 63 = .ok (.aload_n 0, 1) := by decide +kernel
theorem dX2_readOrders_64 : decode cX2_readOrders 64 = .ok (.getfield 36, 3) := by decide +kernel
theorem dX2_readOrders_67 : decode cX2_readOrders 67 = .ok (.ireturn, 1) := by decide +kernel
theorem dX2_readOrder_0 : decode cX2_readOrder 0 = .ok (.aload_n 0, 1) := by decide +kernel
theorem dX2_readOrder_1 : decode cX2_readOrder 1 = .ok (.invokevirtual 47, 3) := by decide +kernel
theorem dX2_readOrder_4 : decode cX2_readOrder 4 = .ok (.istore_n 1, 1) := by decide +kernel
theorem dX2_readOrder_5 : decode cX2_readOrder 5 = .ok (.iload_n 1, 1) := by decide +kernel
theorem dX2_readOrder_6 : decode cX2_readOrder 6 = .ok (.tableswitch 88 0 4 #[34, 48, 60, 71, 82], 34) := by decide +kernel
theorem dX2_readOrder_40 : decode cX2_readOrder 40 = .ok (.aload_n 0, 1) := by decide +kernel
theorem dX2_readOrder_41 : decode cX2_readOrder 41 = .ok (.iload_n 1, 1) := by decide +kernel
theorem dX2_readOrder_42 : decode cX2_readOrder 42 = .ok (.aload_n 0, 1) := by decide +kernel
theorem dX2_readOrder_43 : decode cX2_readOrder 43 = .ok (.iconst 0, 1) := by decide +kernel
theorem dX2_readOrder_44 : decode cX2_readOrder 44 = .ok (.bipush 9, 2) := by decide +kernel
theorem dX2_readOrder_46 : decode cX2_readOrder 46 = .ok (.invokevirtual 51, 3) := by decide +kernel
theorem dX2_readOrder_49 : decode cX2_readOrder 49 = .ok (.iconst 0, 1) := by decide +kernel
theorem dX2_readOrder_50 : decode cX2_readOrder 50 = .ok (.invokevirtual 55, 3) := by decide +kernel
theorem dX2_readOrder_53 : decode cX2_readOrder 53 = .ok (.ireturn, 1) := by decide +kernel
theorem dX2_readOrder_54 : decode cX2_readOrder 54 = .ok (.aload_n 0, 1) := by decide +kernel
theorem dX2_readOrder_55 : decode cX2_readOrder 55 = .ok (.iload_n 1, 1) := by decide +kernel
theorem dX2_readOrder_56 : decode cX2_readOrder 56 = .ok (.bipush 9, 2) := by decide +kernel
theorem dX2_readOrder_58 : decode cX2_readOrder 58 = .ok (.bipush 58, 2) := by decide +kernel
theorem dX2_readOrder_60 : decode cX2_readOrder 60 = .ok (.bipush 11, 2) := by decide +kernel
theorem dX2_readOrder_62 : decode cX2_readOrder 62 = .ok (.invokevirtual 59, 3) := by decide +kernel
theorem dX2_readOrder_65 : decode cX2_readOrder 65 = .ok (.ireturn, 1) := by decide +kernel
theorem dX2_readOrder_66 : decode cX2_readOrder 66 = .ok (.aload_n 0, 1) := by decide +kernel
theorem dX2_readOrder_67 : decode cX2_readOrder 67 = .ok (.iload_n 1, 1) := by decide +kernel
theorem dX2_readOrder_68 : decode cX2_readOrder 68 = .ok (.bipush 9, 2) := by decide +kernel
theorem dX2_readOrder_70 : decode cX2_readOrder 70 = .ok (.bipush 64, 2) := by decide +kernel
theorem dX2_readOrder_72 : decode cX2_readOrder 72 = .ok (.iconst 3, 1) := by decide +kernel
theorem dX2_readOrder_73 : decode cX2_readOrder 73 = .ok (.invokevirtual 59, 3) := by decide +kernel
theorem dX2_readOrder_76 : decode cX2_readOrder 76 = .ok (.ireturn, 1) := by decide +kernel
theorem dX2_readOrder_77 : decode cX2_readOrder 77 = .ok (.aload_n 0, 1) := by decide +kernel
theorem dX2_readOrder_78 : decode cX2_readOrder 78 = .ok (.iload_n 1, 1) := by decide +kernel
theorem dX2_readOrder_79 : decode cX2_readOrder 79 = .ok (.bipush 23, 2) := by decide +kernel
theorem dX2_readOrder_81 : decode cX2_readOrder 81 = .ok (.bipush 47, 2) := by decide +kernel
theorem dX2_readOrder_83 : decode cX2_readOrder 83 = .ok (.iconst 2, 1) := by decide +kernel
theorem dX2_readOrder_84 : decode cX2_readOrder 84 = .ok (.invokevirtual 59, 3) := by decide +kernel
theorem dX2_readOrder_87 : decode cX2_readOrder 87 = .ok (.ireturn, 1) := by decide +kernel
theorem dX2_readOrder_88 : decode cX2_readOrder 88 = .ok (.aload_n 0, 1) := by decide +kernel
theorem dX2_readOrder_89 : decode cX2_readOrder 89 = .ok (.iload_n 1, 1) := by decide +kernel
theorem dX2_readOrder_90 : decode cX2_readOrder 90 = .ok (.invokevirtual 63, 3) := by decide +kernel
theorem dX2_readOrder_93 : decode cX2_readOrder 93 = .ok (.ireturn, 1) := by decide +kernel
theorem dX2_readOrder_94 : decode cX2_readOrder 94 = .ok (.iconst 0, 1) := by decide +kernel
theorem dX2_readOrder_95 : decode cX2_readOrder 95 = .ok (.ireturn, 1) := by decide +kernel
theorem dX2_readParts_0 : decode cX2_readParts 0 = .ok (.aload_n 0, 1) := by decide +kernel
theorem dX2_readParts_1 : decode cX2_readParts 1 = .ok (.iconst 0, 1) := by decide +kernel
theorem dX2_readParts_2 : decode cX2_readParts 2 = .ok (.iload_n 2, 1) := by decide +kernel
theorem dX2_readParts_3 : decode cX2_readParts 3 = .ok (.invokevirtual 51, 3) := by decide +kernel
theorem dX2_readParts_6 : decode cX2_readParts 6 = .ok (.istore 5, 2) := by decide +kernel
theorem dX2_readParts_8 : decode cX2_readParts 8 = .ok (.iload 5, 2) := by decide +kernel
theorem dX2_readParts_10 : decode cX2_readParts 10 = .ok (.iconst (-1), 1) := by decide +kernel
theorem dX2_readParts_11 : decode cX2_readParts 11 = .ok (.if_icmp .eq 11, 3) := by decide +kernel
theorem dX2_readParts_14 : decode cX2_readParts 14 = .ok (.aload_n 0, 1) := by decide +kernel
theorem dX2_readParts_15 : decode cX2_readParts 15 = .ok (.iload_n 3, 1) := by decide +kernel
theorem dX2_readParts_16 : decode cX2_readParts 16 = .ok (.invokevirtual 43, 3) := by decide +kernel
theorem dX2_readParts_19 : decode cX2_readParts 19 = .ok (.ifCond .ne 5, 3) := by decide +kernel
theorem dX2_readParts_22 : decode cX2_readParts 22 = .ok (.iconst 0, 1) := by decide +kernel
theorem dX2_readParts_23 : decode cX2_readParts 23 = .ok (.ireturn, 1) := by decide +kernel
theorem dX2_readParts_24 : decode cX2_readParts 24 = .ok (.iload_n 1, 1) := by decide +kernel
theorem dX2_readParts_25 : decode cX2_readParts 25 = .ok (.iconst 1, 1) := by decide +kernel
theorem dX2_readParts_26 : decode cX2_readParts 26 = .ok (.if_icmp .ne 12, 3) := by decide +kernel
theorem dX2_readParts_29 : decode cX2_readParts 29 = .ok (.aload_n 0, 1) := by decide +kernel
theorem dX2_readParts_30 : decode cX2_readParts 30 = .ok (.iload 4, 2) := by decide +kernel
theorem dX2_readParts_32 : decode cX2_readParts 32 = .ok (.invokevirtual 66, 3) := by decide +kernel
theorem dX2_readParts_35 : decode cX2_readParts 35 = .ok (.goto 10, 3) := by decide +kernel
theorem dX2_readParts_38 : decode cX2_readParts 38 = .ok (.aload_n 0, 1) := by decide +kernel
theorem dX2_readParts_39 : decode cX2_readParts 39 = .ok (.iconst 0, 1) := by decide +kernel
theorem dX2_readParts_40 : decode cX2_readParts 40 = .ok (.iload 4, 2) := by decide +kernel
theorem dX2_readParts_42 : decode cX2_readParts 42 = .ok (.invokevirtual 51, 3) := by decide +kernel
theorem dX2_readParts_45 : decode cX2_readParts 45 = .ok (.istore 6, 2) := by decide +kernel
theorem dX2_readParts_47 : decode cX2_readParts 47 = .ok (.iload 6, 2) := by decide +kernel
theorem dX2_readParts_49 : decode cX2_readParts 49 = .ok (.iconst (-1), 1) := by decide +kernel
theorem dX2_readParts_50 : decode cX2_readParts 50 = .ok (.if_icmp .eq 19, 3) := by decide +kernel
theorem dX2_readParts_53 : decode cX2_readParts 53 = .ok (.aload_n 0, 1) := by decide +kernel
theorem dX2_readParts_54 : decode cX2_readParts 54 = .ok (.iload_n 1, 1) := by decide +kernel
theorem dX2_readParts_55 : decode cX2_readParts 55 = .ok (.iload 5, 2) := by decide +kernel
theorem dX2_readParts_57 : decode cX2_readParts 57 = .ok (.iload 6, 2) := by decide +kernel
theorem dX2_readParts_59 : decode cX2_readParts 59 = .ok (.invokevirtual 55, 3) := by decide +kernel
theorem dX2_readParts_62 : decode cX2_readParts 62 = .ok (.ifCond .eq 7, 3) := by decide +kernel
theorem dX2_readParts_65 : decode cX2_readParts 65 = .ok (.iconst 1, 1) := by decide +kernel
theorem dX2_readParts_66 : decode cX2_readParts 66 = .ok (.goto 4, 3) := by decide +kernel
theorem dX2_readParts_69 : decode cX2_readParts 69 = .ok (.iconst 0, 1) := by decide +kernel
theorem dX2_readParts_70 : decode cX2_readParts 70 = .ok (.ireturn, 1) := by decide +kernel
theorem dX2_readDays_0 : decode cX2_readDays 0 = .ok (.aload_n 0, 1) := by decide +kernel
theorem dX2_readDays_1 : decode cX2_readDays 1 = .ok (.iconst 1, 1) := by decide +kernel
theorem dX2_readDays_2 : decode cX2_readDays 2 = .ok (.bipush 30, 2) := by decide +kernel
theorem dX2_readDays_4 : decode cX2_readDays 4 = .ok (.invokevirtual 51, 3) := by decide +kernel
theorem dX2_readDays_7 : decode cX2_readDays 7 = .ok (.istore_n 2, 1) := by decide +kernel
theorem dX2_readDays_8 : decode cX2_readDays 8 = .ok (.iload_n 2, 1) := by decide +kernel
theorem dX2_readDays_9 : decode cX2_readDays 9 = .ok (.iconst (-1), 1) := by decide +kernel
theorem dX2_readDays_10 : decode cX2_readDays 10 = .ok (.if_icmp .eq 17, 3) := by decide +kernel
theorem dX2_readDays_13 : decode cX2_readDays 13 = .ok (.aload_n 0, 1) := by decide +kernel
theorem dX2_readDays_14 : decode cX2_readDays 14 = .ok (.iload_n 1, 1) := by decide +kernel
theorem dX2_readDays_15 : decode cX2_readDays 15 = .ok (.iload_n 2, 1) := by decide +kernel
theorem dX2_readDays_16 : decode cX2_readDays 16 = .ok (.iconst 0, 1) := by decide +kernel
theorem dX2_readDays_17 : decode cX2_readDays 17 = .ok (.invokevirtual 55, 3) := by decide +kernel
theorem dX2_readDays_20 : decode cX2_readDays 20 = .ok (.ifCond .eq 7, 3) := by decide +kernel
theorem dX2_readDays_23 : decode cX2_readDays 23 = .ok (.iconst 1, 1) := by decide +kernel
theorem dX2_readDays_24 : decode cX2_readDays 24 = .ok (.goto 4, 3) := by decide +kernel
theorem dX2_readDays_27 : decode cX2_readDays 27 = .ok (.iconst 0, 1) := by decide +kernel
theorem dX2_readDays_28 : decode cX2_readDays 28 = .ok (.ireturn, 1) := by decide +kernel
theorem dX2_keepOrder_0 : decode cX2_keepOrder 0 = .ok (.aload_n 0, 1) := by decide +kernel
theorem dX2_keepOrder_1 : decode cX2_keepOrder 1 = .ok (.getfield 29, 3) := by decide +kernel
theorem dX2_keepOrder_4 : decode cX2_keepOrder 4 = .ok (.invokestatic 32, 3) := by decide +kernel
theorem dX2_keepOrder_7 : decode cX2_keepOrder 7 = .ok (.ifCond .ne 5, 3) := by decide +kernel
theorem dX2_keepOrder_10 : decode cX2_keepOrder 10 = .ok (.iconst 0, 1) := by decide +kernel
theorem dX2_keepOrder_11 : decode cX2_keepOrder 11 = .ok (.ireturn, 1) := by decide +kernel
theorem dX2_keepOrder_12 : decode cX2_keepOrder 12 = .ok (.aload_n 0, 1) := by decide +kernel
theorem dX2_keepOrder_13 : decode cX2_keepOrder 13 = .ok (.getfield 15, 3) := by decide +kernel
theorem dX2_keepOrder_16 : decode cX2_keepOrder 16 = .ok (.aload_n 0, 1) := by decide +kernel
theorem dX2_keepOrder_17 : decode cX2_keepOrder 17 = .ok (.getfield 29, 3) := by decide +kernel
theorem dX2_keepOrder_20 : decode cX2_keepOrder 20 = .ok (.iload_n 1, 1) := by decide +kernel
theorem dX2_keepOrder_21 : decode cX2_keepOrder 21 = .ok (.iastore, 1) := by decide +kernel
theorem dX2_keepOrder_22 : decode cX2_keepOrder 22 = .ok (.aload_n 0, 1) := by decide +kernel
theorem dX2_keepOrder_23 : decode cX2_keepOrder 23 = .ok (.getfield 19, 3) := by decide +kernel
theorem dX2_keepOrder_26 : decode cX2_keepOrder 26 = .ok (.aload_n 0, 1) := by decide +kernel
theorem dX2_keepOrder_27 : decode cX2_keepOrder 27 = .ok (.getfield 29, 3) := by decide +kernel
theorem dX2_keepOrder_30 : decode cX2_keepOrder 30 = .ok (.iload_n 2, 1) := by decide +kernel
theorem dX2_keepOrder_31 : decode cX2_keepOrder 31 = .ok (.iastore, 1) := by decide +kernel
theorem dX2_keepOrder_32 : decode cX2_keepOrder 32 = .ok (.aload_n 0, 1) := by decide +kernel
theorem dX2_keepOrder_33 : decode cX2_keepOrder 33 = .ok (.getfield 22, 3) := by decide +kernel
theorem dX2_keepOrder_36 : decode cX2_keepOrder 36 = .ok (.aload_n 0, 1) := by decide +kernel
theorem dX2_keepOrder_37 : decode cX2_keepOrder 37 = .ok (.getfield 29, 3) := by decide +kernel
theorem dX2_keepOrder_40 : decode cX2_keepOrder 40 = .ok (.iload_n 3, 1) := by decide +kernel
theorem dX2_keepOrder_41 : decode cX2_keepOrder 41 = .ok (.iastore, 1) := by decide +kernel
theorem dX2_keepOrder_42 : decode cX2_keepOrder 42 = .ok (.aload_n 0, 1) := by decide +kernel
theorem dX2_keepOrder_43 : decode cX2_keepOrder 43 = .ok (.dup, 1) := by decide +kernel
theorem dX2_keepOrder_44 : decode cX2_keepOrder 44 = .ok (.getfield 29, 3) := by decide +kernel
theorem dX2_keepOrder_47 : decode cX2_keepOrder 47 = .ok (.iconst 1, 1) := by decide +kernel
theorem dX2_keepOrder_48 : decode cX2_keepOrder 48 = .ok (.iadd, 1) := by decide +kernel
theorem dX2_keepOrder_49 : decode cX2_keepOrder 49 = .ok (.putfield 29, 3) := by decide +kernel
theorem dX2_keepOrder_52 : decode cX2_keepOrder 52 = .ok (.iconst 1, 1) := by decide +kernel
theorem dX2_keepOrder_53 : decode cX2_keepOrder 53 = .ok (.ireturn, 1) := by decide +kernel
theorem dX2_spelling_0 : decode cX2_spelling 0 = .ok (.iload_n 0, 1) := by decide +kernel
theorem dX2_spelling_1 : decode cX2_spelling 1 = .ok (.tableswitch 43 0 3 #[31, 34, 37, 40], 31) := by decide +kernel
theorem dX2_spelling_32 : decode cX2_spelling 32 = .ok (.ldc 70, 2) := by decide +kernel
theorem dX2_spelling_34 : decode cX2_spelling 34 = .ok (.areturn, 1) := by decide +kernel
theorem dX2_spelling_35 : decode cX2_spelling 35 = .ok (.ldc 72, 2) := by decide +kernel
theorem dX2_spelling_37 : decode cX2_spelling 37 = .ok (.areturn, 1) := by decide +kernel
theorem dX2_spelling_38 : decode cX2_spelling 38 = .ok (.ldc 74, 2) := by decide +kernel
theorem dX2_spelling_40 : decode cX2_spelling 40 = .ok (.areturn, 1) := by decide +kernel
theorem dX2_spelling_41 : decode cX2_spelling 41 = .ok (.ldc 76, 2) := by decide +kernel
theorem dX2_spelling_43 : decode cX2_spelling 43 = .ok (.areturn, 1) := by decide +kernel
theorem dX2_spelling_44 : decode cX2_spelling 44 = .ok (.ldc 78, 2) := by decide +kernel
theorem dX2_spelling_46 : decode cX2_spelling 46 = .ok (.areturn, 1) := by decide +kernel
theorem dX2_readWord_0 : decode cX2_readWord 0 = .ok (.iconst 0, 1) := by decide +kernel
theorem dX2_readWord_1 : decode cX2_readWord 1 = .ok (.istore_n 1, 1) := by decide +kernel
theorem dX2_readWord_2 : decode cX2_readWord 2 = .ok (.iconst 0, 1) := by decide +kernel
theorem dX2_readWord_3 : decode cX2_readWord 3 = .ok (.istore_n 2, 1) := by decide +kernel
theorem dX2_readWord_4 : decode cX2_readWord 4 = .ok (.iload_n 2, 1) := by decide +kernel
theorem dX2_readWord_5 : decode cX2_readWord 5 = .ok (.iconst 5, 1) := by decide +kernel
theorem dX2_readWord_6 : decode cX2_readWord 6 = .ok (.if_icmp .ge 50, 3) := by decide +kernel
theorem dX2_readWord_9 : decode cX2_readWord 9 = .ok (.iload_n 2, 1) := by decide +kernel
theorem dX2_readWord_10 : decode cX2_readWord 10 = .ok (.invokestatic 80, 3) := by decide +kernel
theorem dX2_readWord_13 : decode cX2_readWord 13 = .ok (.astore_n 3, 1) := by decide +kernel
theorem dX2_readWord_14 : decode cX2_readWord 14 = .ok (.aload_n 0, 1) := by decide +kernel
theorem dX2_readWord_15 : decode cX2_readWord 15 = .ok (.aload_n 3, 1) := by decide +kernel
theorem dX2_readWord_16 : decode cX2_readWord 16 = .ok (.invokevirtual 84, 3) := by decide +kernel
theorem dX2_readWord_19 : decode cX2_readWord 19 = .ok (.istore 4, 2) := by decide +kernel
theorem dX2_readWord_21 : decode cX2_readWord 21 = .ok (.iload 4, 2) := by decide +kernel
theorem dX2_readWord_23 : decode cX2_readWord 23 = .ok (.aload_n 3, 1) := by decide +kernel
theorem dX2_readWord_24 : decode cX2_readWord 24 = .ok (.invokevirtual 88, 3) := by decide +kernel
theorem dX2_readWord_27 : decode cX2_readWord 27 = .ok (.if_icmp .ne 16, 3) := by decide +kernel
theorem dX2_readWord_30 : decode cX2_readWord 30 = .ok (.aload_n 0, 1) := by decide +kernel
theorem dX2_readWord_31 : decode cX2_readWord 31 = .ok (.dup, 1) := by decide +kernel
theorem dX2_readWord_32 : decode cX2_readWord 32 = .ok (.getfield 36, 3) := by decide +kernel
theorem dX2_readWord_35 : decode cX2_readWord 35 = .ok (.iload 4, 2) := by decide +kernel
theorem dX2_readWord_37 : decode cX2_readWord 37 = .ok (.iadd, 1) := by decide +kernel
theorem dX2_readWord_38 : decode cX2_readWord 38 = .ok (.putfield 36, 3) := by decide +kernel
theorem dX2_readWord_41 : decode cX2_readWord 41 = .ok (.iload_n 2, 1) := by decide +kernel
theorem dX2_readWord_42 : decode cX2_readWord 42 = .ok (.ireturn, 1) := by decide +kernel
theorem dX2_readWord_43 : decode cX2_readWord 43 = .ok (.iload_n 1, 1) := by decide +kernel
theorem dX2_readWord_44 : decode cX2_readWord 44 = .ok (.iload 4, 2) := by decide +kernel
theorem dX2_readWord_46 : decode cX2_readWord 46 = .ok (.invokestatic 92, 3) := by decide +kernel
theorem dX2_readWord_49 : decode cX2_readWord 49 = .ok (.istore_n 1, 1) := by decide +kernel
theorem dX2_readWord_50 : decode cX2_readWord 50 = .ok (.iinc 2 1, 3) := by decide +kernel
theorem dX2_readWord_53 : decode cX2_readWord 53 = .ok (.goto (-49), 3) := by decide +kernel
theorem dX2_readWord_56 : decode cX2_readWord 56 = .ok (.aload_n 0, 1) := by decide +kernel
theorem dX2_readWord_57 : decode cX2_readWord 57 = .ok (.dup, 1) := by decide +kernel
theorem dX2_readWord_58 : decode cX2_readWord 58 = .ok (.getfield 36, 3) := by decide +kernel
theorem dX2_readWord_61 : decode cX2_readWord 61 = .ok (.iload_n 1, 1) := by decide +kernel
theorem dX2_readWord_62 : decode cX2_readWord 62 = .ok (.iadd, 1) := by decide +kernel
theorem dX2_readWord_63 : decode cX2_readWord 63 = .ok (.putfield 36, 3) := by decide +kernel
theorem dX2_readWord_66 : decode cX2_readWord 66 = .ok (.iconst (-1), 1) := by decide +kernel
theorem dX2_readWord_67 : decode cX2_readWord 67 = .ok (.ireturn, 1) := by decide +kernel
theorem dX2_lettersOf_0 : decode cX2_lettersOf 0 = .ok (.iconst 0, 1) := by decide +kernel
theorem dX2_lettersOf_1 : decode cX2_lettersOf 1 = .ok (.istore_n 2, 1) := by decide +kernel
theorem dX2_lettersOf_2 : decode cX2_lettersOf 2 = .ok (.iload_n 2, 1) := by decide +kernel
theorem dX2_lettersOf_3 : decode cX2_lettersOf 3 = .ok (.aload_n 1, 1) := by decide +kernel
theorem dX2_lettersOf_4 : decode cX2_lettersOf 4 = .ok (.invokevirtual 88, 3) := by decide +kernel
theorem dX2_lettersOf_7 : decode cX2_lettersOf 7 = .ok (.if_icmp .ge 27, 3) := by decide +kernel
theorem dX2_lettersOf_10 : decode cX2_lettersOf 10 = .ok (.aload_n 0, 1) := by decide +kernel
theorem dX2_lettersOf_11 : decode cX2_lettersOf 11 = .ok (.aload_n 0, 1) := by decide +kernel
theorem dX2_lettersOf_12 : decode cX2_lettersOf 12 = .ok (.getfield 36, 3) := by decide +kernel
theorem dX2_lettersOf_15 : decode cX2_lettersOf 15 = .ok (.iload_n 2, 1) := by decide +kernel
theorem dX2_lettersOf_16 : decode cX2_lettersOf 16 = .ok (.iadd, 1) := by decide +kernel
theorem dX2_lettersOf_17 : decode cX2_lettersOf 17 = .ok (.invokevirtual 97, 3) := by decide +kernel
theorem dX2_lettersOf_20 : decode cX2_lettersOf 20 = .ok (.aload_n 1, 1) := by decide +kernel
theorem dX2_lettersOf_21 : decode cX2_lettersOf 21 = .ok (.iload_n 2, 1) := by decide +kernel
theorem dX2_lettersOf_22 : decode cX2_lettersOf 22 = .ok (.invokevirtual 100, 3) := by decide +kernel
theorem dX2_lettersOf_25 : decode cX2_lettersOf 25 = .ok (.if_icmp .ne 9, 3) := by decide +kernel
theorem dX2_lettersOf_28 : decode cX2_lettersOf 28 = .ok (.iinc 2 1, 3) := by decide +kernel
theorem dX2_lettersOf_31 : decode cX2_lettersOf 31 = .ok (.goto (-29), 3) := by decide +kernel
theorem dX2_lettersOf_34 : decode cX2_lettersOf 34 = .ok (.iload_n 2, 1) := by decide +kernel
theorem dX2_lettersOf_35 : decode cX2_lettersOf 35 = .ok (.ireturn, 1) := by decide +kernel
theorem dX2_signAt_0 : decode cX2_signAt 0 = .ok (.iload_n 1, 1) := by decide +kernel
theorem dX2_signAt_1 : decode cX2_signAt 1 = .ok (.ifCond .lt 26, 3) := by decide +kernel
theorem dX2_signAt_4 : decode cX2_signAt 4 = .ok (.iload_n 1, 1) := by decide +kernel
theorem dX2_signAt_5 : decode cX2_signAt 5 = .ok (.aload_n 0, 1) := by decide +kernel
theorem dX2_signAt_6 : decode cX2_signAt 6 = .ok (.getfield 25, 3) := by decide +kernel
theorem dX2_signAt_9 : decode cX2_signAt 9 = .ok (.if_icmp .ge 18, 3) := by decide +kernel
theorem dX2_signAt_12 : decode cX2_signAt 12 = .ok (.iload_n 1, 1) := by decide +kernel
theorem dX2_signAt_13 : decode cX2_signAt 13 = .ok (.bipush 120, 2) := by decide +kernel
theorem dX2_signAt_15 : decode cX2_signAt 15 = .ok (.if_icmp .ge 12, 3) := by decide +kernel
theorem dX2_signAt_18 : decode cX2_signAt 18 = .ok (.aload_n 0, 1) := by decide +kernel
theorem dX2_signAt_19 : decode cX2_signAt 19 = .ok (.getfield 9, 3) := by decide +kernel
theorem dX2_signAt_22 : decode cX2_signAt 22 = .ok (.iload_n 1, 1) := by decide +kernel
theorem dX2_signAt_23 : decode cX2_signAt 23 = .ok (.caload, 1) := by decide +kernel
theorem dX2_signAt_24 : decode cX2_signAt 24 = .ok (.goto 4, 3) := by decide +kernel
theorem dX2_signAt_27 : decode cX2_signAt 27 = .ok (.iconst (-1), 1) := by decide +kernel
theorem dX2_signAt_28 : decode cX2_signAt 28 = .ok (.ireturn, 1) := by decide +kernel
theorem dX2_readSign_0 : decode cX2_readSign 0 = .ok (.aload_n 0, 1) := by decide +kernel
theorem dX2_readSign_1 : decode cX2_readSign 1 = .ok (.aload_n 0, 1) := by decide +kernel
theorem dX2_readSign_2 : decode cX2_readSign 2 = .ok (.getfield 36, 3) := by decide +kernel
theorem dX2_readSign_5 : decode cX2_readSign 5 = .ok (.invokevirtual 97, 3) := by decide +kernel
theorem dX2_readSign_8 : decode cX2_readSign 8 = .ok (.iload_n 1, 1) := by decide +kernel
theorem dX2_readSign_9 : decode cX2_readSign 9 = .ok (.if_icmp .eq 5, 3) := by decide +kernel
theorem dX2_readSign_12 : decode cX2_readSign 12 = .ok (.iconst 0, 1) := by decide +kernel
theorem dX2_readSign_13 : decode cX2_readSign 13 = .ok (.ireturn, 1) := by decide +kernel
theorem dX2_readSign_14 : decode cX2_readSign 14 = .ok (.aload_n 0, 1) := by decide +kernel
theorem dX2_readSign_15 : decode cX2_readSign 15 = .ok (.dup, 1) := by decide +kernel
theorem dX2_readSign_16 : decode cX2_readSign 16 = .ok (.getfield 36, 3) := by decide +kernel
theorem dX2_readSign_19 : decode cX2_readSign 19 = .ok (.iconst 1, 1) := by decide +kernel
theorem dX2_readSign_20 : decode cX2_readSign 20 = .ok (.iadd, 1) := by decide +kernel
theorem dX2_readSign_21 : decode cX2_readSign 21 = .ok (.putfield 36, 3) := by decide +kernel
theorem dX2_readSign_24 : decode cX2_readSign 24 = .ok (.iconst 1, 1) := by decide +kernel
theorem dX2_readSign_25 : decode cX2_readSign 25 = .ok (.ireturn, 1) := by decide +kernel
theorem dX2_readNumber_0 : decode cX2_readNumber 0 = .ok (.iconst (-1), 1) := by decide +kernel
theorem dX2_readNumber_1 : decode cX2_readNumber 1 = .ok (.istore_n 3, 1) := by decide +kernel
theorem dX2_readNumber_2 : decode cX2_readNumber 2 = .ok (.iconst 0, 1) := by decide +kernel
theorem dX2_readNumber_3 : decode cX2_readNumber 3 = .ok (.istore 4, 2) := by decide +kernel
theorem dX2_readNumber_5 : decode cX2_readNumber 5 = .ok (.iload 4, 2) := by decide +kernel
theorem dX2_readNumber_7 : decode cX2_readNumber 7 = .ok (.bipush 120, 2) := by decide +kernel
theorem dX2_readNumber_9 : decode cX2_readNumber 9 = .ok (.if_icmp .ge 86, 3) := by decide +kernel
theorem dX2_readNumber_12 : decode cX2_readNumber 12 = .ok (.aload_n 0, 1) := by decide +kernel
theorem dX2_readNumber_13 : decode cX2_readNumber 13 = .ok (.aload_n 0, 1) := by decide +kernel
theorem dX2_readNumber_14 : decode cX2_readNumber 14 = .ok (.getfield 36, 3) := by decide +kernel
theorem dX2_readNumber_17 : decode cX2_readNumber 17 = .ok (.invokevirtual 97, 3) := by decide +kernel
theorem dX2_readNumber_20 : decode cX2_readNumber 20 = .ok (.bipush 48, 2) := by decide +kernel
theorem dX2_readNumber_22 : decode cX2_readNumber 22 = .ok (.isub, 1) := by decide +kernel
theorem dX2_readNumber_23 : decode cX2_readNumber 23 = .ok (.istore 5, 2) := by decide +kernel
theorem dX2_readNumber_25 : decode cX2_readNumber 25 = .ok (.iload 5, 2) := by decide +kernel
theorem dX2_readNumber_27 : decode cX2_readNumber 27 = .ok (.ifCond .lt 14, 3) := by decide +kernel
theorem dX2_readNumber_30 : decode cX2_readNumber 30 = .ok (.iload 5, 2) := by decide +kernel
theorem dX2_readNumber_32 : decode cX2_readNumber 32 = .ok (.bipush 9, 2) := by decide +kernel
theorem dX2_readNumber_34 : decode cX2_readNumber 34 = .ok (.if_icmp .gt 7, 3) := by decide +kernel
theorem dX2_readNumber_37 : decode cX2_readNumber 37 = .ok (.iload_n 3, 1) := by decide +kernel
theorem dX2_readNumber_38 : decode cX2_readNumber 38 = .ok (.ifCond .ne 5, 3) := by decide +kernel
theorem dX2_readNumber_41 : decode cX2_readNumber 41 = .ok (.iload_n 3, 1) := by decide +kernel
theorem dX2_readNumber_42 : decode cX2_readNumber 42 = .ok (.ireturn, 1) := by decide +kernel
theorem dX2_readNumber_43 : decode cX2_readNumber 43 = .ok (.iload_n 3, 1) := by decide +kernel
theorem dX2_readNumber_44 : decode cX2_readNumber 44 = .ok (.iconst (-1), 1) := by decide +kernel
theorem dX2_readNumber_45 : decode cX2_readNumber 45 = .ok (.if_icmp .ne 8, 3) := by decide +kernel
theorem dX2_readNumber_48 : decode cX2_readNumber 48 = .ok (.iload 5, 2) := by decide +kernel
theorem dX2_readNumber_50 : decode cX2_readNumber 50 = .ok (.goto 10, 3) := by decide +kernel
theorem dX2_readNumber_53 : decode cX2_readNumber 53 = .ok (.iload_n 3, 1) := by decide +kernel
theorem dX2_readNumber_54 : decode cX2_readNumber 54 = .ok (.bipush 10, 2) := by decide +kernel
theorem dX2_readNumber_56 : decode cX2_readNumber 56 = .ok (.imul, 1) := by decide +kernel
theorem dX2_readNumber_57 : decode cX2_readNumber 57 = .ok (.iload 5, 2) := by decide +kernel
theorem dX2_readNumber_59 : decode cX2_readNumber 59 = .ok (.iadd, 1) := by decide +kernel
theorem dX2_readNumber_60 : decode cX2_readNumber 60 = .ok (.istore 6, 2) := by decide +kernel
theorem dX2_readNumber_62 : decode cX2_readNumber 62 = .ok (.iload 6, 2) := by decide +kernel
theorem dX2_readNumber_64 : decode cX2_readNumber 64 = .ok (.iload_n 1, 1) := by decide +kernel
theorem dX2_readNumber_65 : decode cX2_readNumber 65 = .ok (.if_icmp .lt 9, 3) := by decide +kernel
theorem dX2_readNumber_68 : decode cX2_readNumber 68 = .ok (.iload 6, 2) := by decide +kernel
theorem dX2_readNumber_70 : decode cX2_readNumber 70 = .ok (.iload_n 2, 1) := by decide +kernel
theorem dX2_readNumber_71 : decode cX2_readNumber 71 = .ok (.if_icmp .le 5, 3) := by decide +kernel
theorem dX2_readNumber_74 : decode cX2_readNumber 74 = .ok (.iload_n 3, 1) := by decide +kernel
theorem dX2_readNumber_75 : decode cX2_readNumber 75 = .ok (.ireturn, 1) := by decide +kernel
theorem dX2_readNumber_76 : decode cX2_readNumber 76 = .ok (.iload 6, 2) := by decide +kernel
theorem dX2_readNumber_78 : decode cX2_readNumber 78 = .ok (.istore_n 3, 1) := by decide +kernel
theorem dX2_readNumber_79 : decode cX2_readNumber 79 = .ok (.aload_n 0, 1) := by decide +kernel
theorem dX2_readNumber_80 : decode cX2_readNumber 80 = .ok (.dup, 1) := by decide +kernel
theorem dX2_readNumber_81 : decode cX2_readNumber 81 = .ok (.getfield 36, 3) := by decide +kernel
theorem dX2_readNumber_84 : decode cX2_readNumber 84 = .ok (.iconst 1, 1) := by decide +kernel
theorem dX2_readNumber_85 : decode cX2_readNumber 85 = .ok (.iadd, 1) := by decide +kernel
theorem dX2_readNumber_86 : decode cX2_readNumber 86 = .ok (.putfield 36, 3) := by decide +kernel
theorem dX2_readNumber_89 : decode cX2_readNumber 89 = .ok (.iinc 4 1, 3) := by decide +kernel
theorem dX2_readNumber_92 : decode cX2_readNumber 92 = .ok (.goto (-87), 3) := by decide +kernel
theorem dX2_readNumber_95 : decode cX2_readNumber 95 = .ok (.iload_n 3, 1) := by decide +kernel
theorem dX2_readNumber_96 : decode cX2_readNumber 96 = .ok (.ireturn, 1) := by decide +kernel
theorem dX2_readFields_0 : decode cX2_readFields 0 = .ok (.iconst 0, 1) := by decide +kernel
theorem dX2_readFields_1 : decode cX2_readFields 1 = .ok (.istore_n 2, 1) := by decide +kernel
theorem dX2_readFields_2 : decode cX2_readFields 2 = .ok (.iconst (-1), 1) := by decide +kernel
theorem dX2_readFields_3 : decode cX2_readFields 3 = .ok (.istore_n 3, 1) := by decide +kernel
theorem dX2_readFields_4 : decode cX2_readFields 4 = .ok (.iconst 0, 1) := by decide +kernel
theorem dX2_readFields_5 : decode cX2_readFields 5 = .ok (.istore 4, 2) := by decide +kernel
theorem dX2_readFields_7 : decode cX2_readFields 7 = .ok (.iload 4, 2) := by decide +kernel
theorem dX2_readFields_9 : decode cX2_readFields 9 = .ok (.bipush 12, 2) := by decide +kernel
theorem dX2_readFields_11 : decode cX2_readFields 11 = .ok (.if_icmp .gt 46, 3) := by decide +kernel
theorem dX2_readFields_14 : decode cX2_readFields 14 = .ok (.aload_n 0, 1) := by decide +kernel
theorem dX2_readFields_15 : decode cX2_readFields 15 = .ok (.iconst 0, 1) := by decide +kernel
theorem dX2_readFields_16 : decode cX2_readFields 16 = .ok (.iload_n 1, 1) := by decide +kernel
theorem dX2_readFields_17 : decode cX2_readFields 17 = .ok (.invokevirtual 51, 3) := by decide +kernel
theorem dX2_readFields_20 : decode cX2_readFields 20 = .ok (.istore 5, 2) := by decide +kernel
theorem dX2_readFields_22 : decode cX2_readFields 22 = .ok (.iload 5, 2) := by decide +kernel
theorem dX2_readFields_24 : decode cX2_readFields 24 = .ok (.iload_n 3, 1) := by decide +kernel
theorem dX2_readFields_25 : decode cX2_readFields 25 = .ok (.if_icmp .gt 5, 3) := by decide +kernel
theorem dX2_readFields_28 : decode cX2_readFields 28 = .ok (.iconst (-1), 1) := by decide +kernel
theorem dX2_readFields_29 : decode cX2_readFields 29 = .ok (.ireturn, 1) := by decide +kernel
theorem dX2_readFields_30 : decode cX2_readFields 30 = .ok (.iload_n 2, 1) := by decide +kernel
theorem dX2_readFields_31 : decode cX2_readFields 31 = .ok (.iconst 1, 1) := by decide +kernel
theorem dX2_readFields_32 : decode cX2_readFields 32 = .ok (.iload 5, 2) := by decide +kernel
theorem dX2_readFields_34 : decode cX2_readFields 34 = .ok (.ishl, 1) := by decide +kernel
theorem dX2_readFields_35 : decode cX2_readFields 35 = .ok (.ior, 1) := by decide +kernel
theorem dX2_readFields_36 : decode cX2_readFields 36 = .ok (.istore_n 2, 1) := by decide +kernel
theorem dX2_readFields_37 : decode cX2_readFields 37 = .ok (.iload 5, 2) := by decide +kernel
theorem dX2_readFields_39 : decode cX2_readFields 39 = .ok (.istore_n 3, 1) := by decide +kernel
theorem dX2_readFields_40 : decode cX2_readFields 40 = .ok (.aload_n 0, 1) := by decide +kernel
theorem dX2_readFields_41 : decode cX2_readFields 41 = .ok (.bipush 44, 2) := by decide +kernel
theorem dX2_readFields_43 : decode cX2_readFields 43 = .ok (.invokevirtual 43, 3) := by decide +kernel
theorem dX2_readFields_46 : decode cX2_readFields 46 = .ok (.ifCond .ne 5, 3) := by decide +kernel
theorem dX2_readFields_49 : decode cX2_readFields 49 = .ok (.iload_n 2, 1) := by decide +kernel
theorem dX2_readFields_50 : decode cX2_readFields 50 = .ok (.ireturn, 1) := by decide +kernel
theorem dX2_readFields_51 : decode cX2_readFields 51 = .ok (.iinc 4 1, 3) := by decide +kernel
theorem dX2_readFields_54 : decode cX2_readFields 54 = .ok (.goto (-47), 3) := by decide +kernel
theorem dX2_readFields_57 : decode cX2_readFields 57 = .ok (.iconst (-1), 1) := by decide +kernel
theorem dX2_readFields_58 : decode cX2_readFields 58 = .ok (.ireturn, 1) := by decide +kernel
theorem dX5_init_0 : decode cX5_init 0 = .ok (.aload_n 0, 1) := by decide +kernel
theorem dX5_init_1 : decode cX5_init 1 = .ok (.invokespecial 3, 3) := by decide +kernel
theorem dX5_init_4 : decode cX5_init 4 = .ok (.aload_n 0, 1) := by decide +kernel
theorem dX5_init_5 : decode cX5_init 5 = .ok (.iconst 2, 1) := by decide +kernel
theorem dX5_init_6 : decode cX5_init 6 = .ok (.anewarray 9, 3) := by decide +kernel
theorem dX5_init_9 : decode cX5_init 9 = .ok (.putfield 11, 3) := by decide +kernel
theorem dX5_init_12 : decode cX5_init 12 = .ok (.iconst 0, 1) := by decide +kernel
theorem dX5_init_13 : decode cX5_init 13 = .ok (.istore_n 1, 1) := by decide +kernel
theorem dX5_init_14 : decode cX5_init 14 = .ok (.iload_n 1, 1) := by decide +kernel
theorem dX5_init_15 : decode cX5_init 15 = .ok (.iconst 2, 1) := by decide +kernel
theorem dX5_init_16 : decode cX5_init 16 = .ok (.if_icmp .ge 22, 3) := by decide +kernel
theorem dX5_init_19 : decode cX5_init 19 = .ok (.aload_n 0, 1) := by decide +kernel
theorem dX5_init_20 : decode cX5_init 20 = .ok (.getfield 11, 3) := by decide +kernel
theorem dX5_init_23 : decode cX5_init 23 = .ok (.iload_n 1, 1) := by decide +kernel
theorem dX5_init_24 : decode cX5_init 24 = .ok (.new 9, 3) := by decide +kernel
theorem dX5_init_27 : decode cX5_init 27 = .ok (.dup, 1) := by decide +kernel
theorem dX5_init_28 : decode cX5_init 28 = .ok (.invokespecial 17, 3) := by decide +kernel
theorem dX5_init_31 : decode cX5_init 31 = .ok (.aastore, 1) := by decide +kernel
theorem dX5_init_32 : decode cX5_init 32 = .ok (.iinc 1 1, 3) := by decide +kernel
theorem dX5_init_35 : decode cX5_init 35 = .ok (.goto (-21), 3) := by decide +kernel
theorem dX5_init_38 : decode cX5_init 38 = .ok (.return_, 1) := by decide +kernel
theorem dX5_clear_0 : decode cX5_clear 0 = .ok (.aload_n 0, 1) := by decide +kernel
theorem dX5_clear_1 : decode cX5_clear 1 = .ok (.iconst 0, 1) := by decide +kernel
theorem dX5_clear_2 : decode cX5_clear 2 = .ok (.putfield 18, 3) := by decide +kernel
theorem dX5_clear_5 : decode cX5_clear 5 = .ok (.return_, 1) := by decide +kernel
theorem dX5_holds_0 : decode cX5_holds 0 = .ok (.aload_n 0, 1) := by decide +kernel
theorem dX5_holds_1 : decode cX5_holds 1 = .ok (.getfield 18, 3) := by decide +kernel
theorem dX5_holds_4 : decode cX5_holds 4 = .ok (.iload_n 1, 1) := by decide +kernel
theorem dX5_holds_5 : decode cX5_holds 5 = .ok (.invokestatic 22, 3) := by decide +kernel
theorem dX5_holds_8 : decode cX5_holds 8 = .ok (.ireturn, 1) := by decide +kernel
theorem dX5_rowAt_0 : decode cX5_rowAt 0 = .ok (.iload_n 1, 1) := by decide +kernel
theorem dX5_rowAt_1 : decode cX5_rowAt 1 = .ok (.invokestatic 26, 3) := by decide +kernel
theorem dX5_rowAt_4 : decode cX5_rowAt 4 = .ok (.ifCond .eq 12, 3) := by decide +kernel
theorem dX5_rowAt_7 : decode cX5_rowAt 7 = .ok (.aload_n 0, 1) := by decide +kernel
theorem dX5_rowAt_8 : decode cX5_rowAt 8 = .ok (.getfield 11, 3) := by decide +kernel
theorem dX5_rowAt_11 : decode cX5_rowAt 11 = .ok (.iload_n 1, 1) := by decide +kernel
theorem dX5_rowAt_12 : decode cX5_rowAt 12 = .ok (.aaload, 1) := by decide +kernel
theorem dX5_rowAt_13 : decode cX5_rowAt 13 = .ok (.goto 4, 3) := by decide +kernel
theorem dX5_rowAt_16 : decode cX5_rowAt 16 = .ok (.aconst_null, 1) := by decide +kernel
theorem dX5_rowAt_17 : decode cX5_rowAt 17 = .ok (.areturn, 1) := by decide +kernel
theorem dX5_keep_0 : decode cX5_keep 0 = .ok (.aload_n 0, 1) := by decide +kernel
theorem dX5_keep_1 : decode cX5_keep 1 = .ok (.iload_n 1, 1) := by decide +kernel
theorem dX5_keep_2 : decode cX5_keep 2 = .ok (.invokevirtual 30, 3) := by decide +kernel
theorem dX5_keep_5 : decode cX5_keep 5 = .ok (.astore_n 3, 1) := by decide +kernel
theorem dX5_keep_6 : decode cX5_keep 6 = .ok (.aload_n 3, 1) := by decide +kernel
theorem dX5_keep_7 : decode cX5_keep 7 = .ok (.ifnull 20, 3) := by decide +kernel
theorem dX5_keep_10 : decode cX5_keep 10 = .ok (.aload_n 3, 1) := by decide +kernel
theorem dX5_keep_11 : decode cX5_keep 11 = .ok (.aload_n 2, 1) := by decide +kernel
theorem dX5_keep_12 : decode cX5_keep 12 = .ok (.invokevirtual 34, 3) := by decide +kernel
theorem dX5_keep_15 : decode cX5_keep 15 = .ok (.aload_n 0, 1) := by decide +kernel
theorem dX5_keep_16 : decode cX5_keep 16 = .ok (.dup, 1) := by decide +kernel
theorem dX5_keep_17 : decode cX5_keep 17 = .ok (.getfield 18, 3) := by decide +kernel
theorem dX5_keep_20 : decode cX5_keep 20 = .ok (.iconst 1, 1) := by decide +kernel
theorem dX5_keep_21 : decode cX5_keep 21 = .ok (.iload_n 1, 1) := by decide +kernel
theorem dX5_keep_22 : decode cX5_keep 22 = .ok (.ishl, 1) := by decide +kernel
theorem dX5_keep_23 : decode cX5_keep 23 = .ok (.ior, 1) := by decide +kernel
theorem dX5_keep_24 : decode cX5_keep 24 = .ok (.putfield 18, 3) := by decide +kernel
theorem dX5_keep_27 : decode cX5_keep 27 = .ok (.return_, 1) := by decide +kernel
theorem dX5_copyInto_0 : decode cX5_copyInto 0 = .ok (.aload_n 0, 1) := by decide +kernel
theorem dX5_copyInto_1 : decode cX5_copyInto 1 = .ok (.iload_n 1, 1) := by decide +kernel
theorem dX5_copyInto_2 : decode cX5_copyInto 2 = .ok (.invokevirtual 30, 3) := by decide +kernel
theorem dX5_copyInto_5 : decode cX5_copyInto 5 = .ok (.astore_n 3, 1) := by decide +kernel
theorem dX5_copyInto_6 : decode cX5_copyInto 6 = .ok (.aload_n 3, 1) := by decide +kernel
theorem dX5_copyInto_7 : decode cX5_copyInto 7 = .ok (.ifnull 8, 3) := by decide +kernel
theorem dX5_copyInto_10 : decode cX5_copyInto 10 = .ok (.aload_n 2, 1) := by decide +kernel
theorem dX5_copyInto_11 : decode cX5_copyInto 11 = .ok (.aload_n 3, 1) := by decide +kernel
theorem dX5_copyInto_12 : decode cX5_copyInto 12 = .ok (.invokevirtual 34, 3) := by decide +kernel
theorem dX5_copyInto_15 : decode cX5_copyInto 15 = .ok (.return_, 1) := by decide +kernel
theorem dX0_init_0 : decode cX0_init 0 = .ok (.aload_n 0, 1) := by decide +kernel
theorem dX0_init_1 : decode cX0_init 1 = .ok (.invokespecial 3, 3) := by decide +kernel
theorem dX0_init_4 : decode cX0_init 4 = .ok (.aload_n 0, 1) := by decide +kernel
theorem dX0_init_5 : decode cX0_init 5 = .ok (.bipush 15, 2) := by decide +kernel
theorem dX0_init_7 : decode cX0_init 7 = .ok (.anewarray 11, 3) := by decide +kernel
theorem dX0_init_10 : decode cX0_init 10 = .ok (.putfield 13, 3) := by decide +kernel
theorem dX0_init_13 : decode cX0_init 13 = .ok (.iconst 0, 1) := by decide +kernel
theorem dX0_init_14 : decode cX0_init 14 = .ok (.istore_n 1, 1) := by decide +kernel
theorem dX0_init_15 : decode cX0_init 15 = .ok (.iload_n 1, 1) := by decide +kernel
theorem dX0_init_16 : decode cX0_init 16 = .ok (.bipush 15, 2) := by decide +kernel
theorem dX0_init_18 : decode cX0_init 18 = .ok (.if_icmp .ge 22, 3) := by decide +kernel
theorem dX0_init_21 : decode cX0_init 21 = .ok (.aload_n 0, 1) := by decide +kernel
theorem dX0_init_22 : decode cX0_init 22 = .ok (.getfield 13, 3) := by decide +kernel
theorem dX0_init_25 : decode cX0_init 25 = .ok (.iload_n 1, 1) := by decide +kernel
theorem dX0_init_26 : decode cX0_init 26 = .ok (.new 11, 3) := by decide +kernel
theorem dX0_init_29 : decode cX0_init 29 = .ok (.dup, 1) := by decide +kernel
theorem dX0_init_30 : decode cX0_init 30 = .ok (.invokespecial 17, 3) := by decide +kernel
theorem dX0_init_33 : decode cX0_init 33 = .ok (.aastore, 1) := by decide +kernel
theorem dX0_init_34 : decode cX0_init 34 = .ok (.iinc 1 1, 3) := by decide +kernel
theorem dX0_init_37 : decode cX0_init 37 = .ok (.goto (-22), 3) := by decide +kernel
theorem dX0_init_40 : decode cX0_init 40 = .ok (.return_, 1) := by decide +kernel
theorem dX0_clear_0 : decode cX0_clear 0 = .ok (.aload_n 0, 1) := by decide +kernel
theorem dX0_clear_1 : decode cX0_clear 1 = .ok (.iconst 0, 1) := by decide +kernel
theorem dX0_clear_2 : decode cX0_clear 2 = .ok (.putfield 18, 3) := by decide +kernel
theorem dX0_clear_5 : decode cX0_clear 5 = .ok (.return_, 1) := by decide +kernel
theorem dX0_isEmpty_0 : decode cX0_isEmpty 0 = .ok (.aload_n 0, 1) := by decide +kernel
theorem dX0_isEmpty_1 : decode cX0_isEmpty 1 = .ok (.getfield 18, 3) := by decide +kernel
theorem dX0_isEmpty_4 : decode cX0_isEmpty 4 = .ok (.ifCond .ne 7, 3) := by decide +kernel
theorem dX0_isEmpty_7 : decode cX0_isEmpty 7 = .ok (.iconst 1, 1) := by decide +kernel
theorem dX0_isEmpty_8 : decode cX0_isEmpty 8 = .ok (.goto 4, 3) := by decide +kernel
theorem dX0_isEmpty_11 : decode cX0_isEmpty 11 = .ok (.iconst 0, 1) := by decide +kernel
theorem dX0_isEmpty_12 : decode cX0_isEmpty 12 = .ok (.ireturn, 1) := by decide +kernel
theorem dX0_rowAt_0 : decode cX0_rowAt 0 = .ok (.iload_n 1, 1) := by decide +kernel
theorem dX0_rowAt_1 : decode cX0_rowAt 1 = .ok (.ifCond .lt 18, 3) := by decide +kernel
theorem dX0_rowAt_4 : decode cX0_rowAt 4 = .ok (.iload_n 1, 1) := by decide +kernel
theorem dX0_rowAt_5 : decode cX0_rowAt 5 = .ok (.bipush 15, 2) := by decide +kernel
theorem dX0_rowAt_7 : decode cX0_rowAt 7 = .ok (.if_icmp .ge 12, 3) := by decide +kernel
theorem dX0_rowAt_10 : decode cX0_rowAt 10 = .ok (.aload_n 0, 1) := by decide +kernel
theorem dX0_rowAt_11 : decode cX0_rowAt 11 = .ok (.getfield 13, 3) := by decide +kernel
theorem dX0_rowAt_14 : decode cX0_rowAt 14 = .ok (.iload_n 1, 1) := by decide +kernel
theorem dX0_rowAt_15 : decode cX0_rowAt 15 = .ok (.aaload, 1) := by decide +kernel
theorem dX0_rowAt_16 : decode cX0_rowAt 16 = .ok (.goto 4, 3) := by decide +kernel
theorem dX0_rowAt_19 : decode cX0_rowAt 19 = .ok (.aconst_null, 1) := by decide +kernel
theorem dX0_rowAt_20 : decode cX0_rowAt 20 = .ok (.areturn, 1) := by decide +kernel
theorem dX0_hold_0 : decode cX0_hold 0 = .ok (.aload_n 0, 1) := by decide +kernel
theorem dX0_hold_1 : decode cX0_hold 1 = .ok (.aload_n 0, 1) := by decide +kernel
theorem dX0_hold_2 : decode cX0_hold 2 = .ok (.getfield 22, 3) := by decide +kernel
theorem dX0_hold_5 : decode cX0_hold 5 = .ok (.invokevirtual 25, 3) := by decide +kernel
theorem dX0_hold_8 : decode cX0_hold 8 = .ok (.astore_n 2, 1) := by decide +kernel
theorem dX0_hold_9 : decode cX0_hold 9 = .ok (.aload_n 2, 1) := by decide +kernel
theorem dX0_hold_10 : decode cX0_hold 10 = .ok (.ifnull 8, 3) := by decide +kernel
theorem dX0_hold_13 : decode cX0_hold 13 = .ok (.aload_n 2, 1) := by decide +kernel
theorem dX0_hold_14 : decode cX0_hold 14 = .ok (.aload_n 1, 1) := by decide +kernel
theorem dX0_hold_15 : decode cX0_hold 15 = .ok (.invokevirtual 29, 3) := by decide +kernel
theorem dX0_hold_18 : decode cX0_hold 18 = .ok (.return_, 1) := by decide +kernel
theorem dX0_rememberHeld_0 : decode cX0_rememberHeld 0 = .ok (.aload_n 0, 1) := by decide +kernel
theorem dX0_rememberHeld_1 : decode cX0_rememberHeld 1 = .ok (.aload_n 0, 1) := by decide +kernel
theorem dX0_rememberHeld_2 : decode cX0_rememberHeld 2 = .ok (.getfield 22, 3) := by decide +kernel
theorem dX0_rememberHeld_5 : decode cX0_rememberHeld 5 = .ok (.iconst 1, 1) := by decide +kernel
theorem dX0_rememberHeld_6 : decode cX0_rememberHeld 6 = .ok (.iadd, 1) := by decide +kernel
theorem dX0_rememberHeld_7 : decode cX0_rememberHeld 7 = .ok (.bipush 15, 2) := by decide +kernel
theorem dX0_rememberHeld_9 : decode cX0_rememberHeld 9 = .ok (.irem, 1) := by decide +kernel
theorem dX0_rememberHeld_10 : decode cX0_rememberHeld 10 = .ok (.putfield 22, 3) := by decide +kernel
theorem dX0_rememberHeld_13 : decode cX0_rememberHeld 13 = .ok (.aload_n 0, 1) := by decide +kernel
theorem dX0_rememberHeld_14 : decode cX0_rememberHeld 14 = .ok (.aload_n 0, 1) := by decide +kernel
theorem dX0_rememberHeld_15 : decode cX0_rememberHeld 15 = .ok (.getfield 18, 3) := by decide +kernel
theorem dX0_rememberHeld_18 : decode cX0_rememberHeld 18 = .ok (.iconst 1, 1) := by decide +kernel
theorem dX0_rememberHeld_19 : decode cX0_rememberHeld 19 = .ok (.iadd, 1) := by decide +kernel
theorem dX0_rememberHeld_20 : decode cX0_rememberHeld 20 = .ok (.bipush 14, 2) := by decide +kernel
theorem dX0_rememberHeld_22 : decode cX0_rememberHeld 22 = .ok (.invokestatic 33, 3) := by decide +kernel
theorem dX0_rememberHeld_25 : decode cX0_rememberHeld 25 = .ok (.putfield 18, 3) := by decide +kernel
theorem dX0_rememberHeld_28 : decode cX0_rememberHeld 28 = .ok (.return_, 1) := by decide +kernel
theorem dX0_takeBackInto_0 : decode cX0_takeBackInto 0 = .ok (.aload_n 0, 1) := by decide +kernel
theorem dX0_takeBackInto_1 : decode cX0_takeBackInto 1 = .ok (.aload_n 0, 1) := by decide +kernel
theorem dX0_takeBackInto_2 : decode cX0_takeBackInto 2 = .ok (.getfield 22, 3) := by decide +kernel
theorem dX0_takeBackInto_5 : decode cX0_takeBackInto 5 = .ok (.bipush 15, 2) := by decide +kernel
theorem dX0_takeBackInto_7 : decode cX0_takeBackInto 7 = .ok (.iadd, 1) := by decide +kernel
theorem dX0_takeBackInto_8 : decode cX0_takeBackInto 8 = .ok (.iconst 1, 1) := by decide +kernel
theorem dX0_takeBackInto_9 : decode cX0_takeBackInto 9 = .ok (.isub, 1) := by decide +kernel
theorem dX0_takeBackInto_10 : decode cX0_takeBackInto 10 = .ok (.bipush 15, 2) := by decide +kernel
theorem dX0_takeBackInto_12 : decode cX0_takeBackInto 12 = .ok (.irem, 1) := by decide +kernel
theorem dX0_takeBackInto_13 : decode cX0_takeBackInto 13 = .ok (.putfield 22, 3) := by decide +kernel
theorem dX0_takeBackInto_16 : decode cX0_takeBackInto 16 = .ok (.aload_n 0, 1) := by decide +kernel
theorem dX0_takeBackInto_17 : decode cX0_takeBackInto 17 = .ok (.dup, 1) := by decide +kernel
theorem dX0_takeBackInto_18 : decode cX0_takeBackInto 18 = .ok (.getfield 18, 3) := by decide +kernel
theorem dX0_takeBackInto_21 : decode cX0_takeBackInto 21 = .ok (.iconst 1, 1) := by decide +kernel
theorem dX0_takeBackInto_22 : decode cX0_takeBackInto 22 = .ok (.isub, 1) := by decide +kernel
theorem dX0_takeBackInto_23 : decode cX0_takeBackInto 23 = .ok (.putfield 18, 3) := by decide +kernel
theorem dX0_takeBackInto_26 : decode cX0_takeBackInto 26 = .ok (.aload_n 0, 1) := by decide +kernel
theorem dX0_takeBackInto_27 : decode cX0_takeBackInto 27 = .ok (.aload_n 0, 1) := by decide +kernel
theorem dX0_takeBackInto_28 : decode cX0_takeBackInto 28 = .ok (.getfield 22, 3) := by decide +kernel
theorem dX0_takeBackInto_31 : decode cX0_takeBackInto 31 = .ok (.invokevirtual 25, 3) := by decide +kernel
theorem dX0_takeBackInto_34 : decode cX0_takeBackInto 34 = .ok (.astore_n 2, 1) := by decide +kernel
theorem dX0_takeBackInto_35 : decode cX0_takeBackInto 35 = .ok (.aload_n 2, 1) := by decide +kernel
theorem dX0_takeBackInto_36 : decode cX0_takeBackInto 36 = .ok (.ifnull 8, 3) := by decide +kernel
theorem dX0_takeBackInto_39 : decode cX0_takeBackInto 39 = .ok (.aload_n 1, 1) := by decide +kernel
theorem dX0_takeBackInto_40 : decode cX0_takeBackInto 40 = .ok (.aload_n 2, 1) := by decide +kernel
theorem dX0_takeBackInto_41 : decode cX0_takeBackInto 41 = .ok (.invokevirtual 29, 3) := by decide +kernel
theorem dX0_takeBackInto_44 : decode cX0_takeBackInto 44 = .ok (.aload_n 0, 1) := by decide +kernel
theorem dX0_takeBackInto_45 : decode cX0_takeBackInto 45 = .ok (.getfield 18, 3) := by decide +kernel
theorem dX0_takeBackInto_48 : decode cX0_takeBackInto 48 = .ok (.ireturn, 1) := by decide +kernel
