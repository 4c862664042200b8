theorem dX3_init_0 : decode cX3_init 0 = .ok (.aload_n 0, 1) := by decide +kernel
theorem dX3_init_1 : decode cX3_init 1 = .ok (.invokespecial 3, 3) := by decide +kernel
theorem dX3_init_4 : decode cX3_init 4 = .ok (.aload_n 0, 1) := by decide +kernel
theorem dX3_init_5 : decode cX3_init 5 = .ok (.bipush 24, 2) := by decide +kernel
theorem dX3_init_7 : decode cX3_init 7 = .ok (.newarray .int, 2) := by decide +kernel
theorem dX3_init_9 : decode cX3_init 9 = .ok (.putfield 9, 3) := by decide +kernel
theorem dX3_init_12 : decode cX3_init 12 = .ok (.aload_n 0, 1) := by decide +kernel
theorem dX3_init_13 : decode cX3_init 13 = .ok (.bipush 24, 2) := by decide +kernel
theorem dX3_init_15 : decode cX3_init 15 = .ok (.newarray .int, 2) := by decide +kernel
theorem dX3_init_17 : decode cX3_init 17 = .ok (.putfield 15, 3) := by decide +kernel
theorem dX3_init_20 : decode cX3_init 20 = .ok (.aload_n 0, 1) := by decide +kernel
theorem dX3_init_21 : decode cX3_init 21 = .ok (.bipush 24, 2) := by decide +kernel
theorem dX3_init_23 : decode cX3_init 23 = .ok (.newarray .int, 2) := by decide +kernel
theorem dX3_init_25 : decode cX3_init 25 = .ok (.putfield 18, 3) := by decide +kernel
theorem dX3_init_28 : decode cX3_init 28 = .ok (.aload_n 0, 1) := by decide +kernel
theorem dX3_init_29 : decode cX3_init 29 = .ok (.bipush 24, 2) := by decide +kernel
theorem dX3_init_31 : decode cX3_init 31 = .ok (.newarray .int, 2) := by decide +kernel
theorem dX3_init_33 : decode cX3_init 33 = .ok (.putfield 21, 3) := by decide +kernel
theorem dX3_init_36 : decode cX3_init 36 = .ok (.aload_n 0, 1) := by decide +kernel
theorem dX3_init_37 : decode cX3_init 37 = .ok (.bipush 24, 2) := by decide +kernel
theorem dX3_init_39 : decode cX3_init 39 = .ok (.newarray .int, 2) := by decide +kernel
theorem dX3_init_41 : decode cX3_init 41 = .ok (.putfield 24, 3) := by decide +kernel
theorem dX3_init_44 : decode cX3_init 44 = .ok (.aload_n 0, 1) := by decide +kernel
theorem dX3_init_45 : decode cX3_init 45 = .ok (.bipush 24, 2) := by decide +kernel
theorem dX3_init_47 : decode cX3_init 47 = .ok (.newarray .int, 2) := by decide +kernel
theorem dX3_init_49 : decode cX3_init 49 = .ok (.putfield 27, 3) := by decide +kernel
theorem dX3_init_52 : decode cX3_init 52 = .ok (.return_, 1) := by decide +kernel
theorem dX3_clear_0 : decode cX3_clear 0 = .ok (.aload_n 0, 1) := by decide +kernel
theorem dX3_clear_1 : decode cX3_clear 1 = .ok (.iconst 0, 1) := by decide +kernel
theorem dX3_clear_2 : decode cX3_clear 2 = .ok (.putfield 30, 3) := by decide +kernel
theorem dX3_clear_5 : decode cX3_clear 5 = .ok (.aload_n 0, 1) := by decide +kernel
theorem dX3_clear_6 : decode cX3_clear 6 = .ok (.iconst 0, 1) := by decide +kernel
theorem dX3_clear_7 : decode cX3_clear 7 = .ok (.putfield 34, 3) := by decide +kernel
theorem dX3_clear_10 : decode cX3_clear 10 = .ok (.return_, 1) := by decide +kernel
theorem dX3_copyFrom_0 : decode cX3_copyFrom 0 = .ok (.aload_n 0, 1) := by decide +kernel
theorem dX3_copyFrom_1 : decode cX3_copyFrom 1 = .ok (.aload_n 1, 1) := by decide +kernel
theorem dX3_copyFrom_2 : decode cX3_copyFrom 2 = .ok (.getfield 30, 3) := by decide +kernel
theorem dX3_copyFrom_5 : decode cX3_copyFrom 5 = .ok (.putfield 30, 3) := by decide +kernel
theorem dX3_copyFrom_8 : decode cX3_copyFrom 8 = .ok (.aload_n 0, 1) := by decide +kernel
theorem dX3_copyFrom_9 : decode cX3_copyFrom 9 = .ok (.aload_n 1, 1) := by decide +kernel
theorem dX3_copyFrom_10 : decode cX3_copyFrom 10 = .ok (.getfield 34, 3) := by decide +kernel
theorem dX3_copyFrom_13 : decode cX3_copyFrom 13 = .ok (.putfield 34, 3) := by decide +kernel
theorem dX3_copyFrom_16 : decode cX3_copyFrom 16 = .ok (.aload_n 1, 1) := by decide +kernel
theorem dX3_copyFrom_17 : decode cX3_copyFrom 17 = .ok (.getfield 9, 3) := by decide +kernel
theorem dX3_copyFrom_20 : decode cX3_copyFrom 20 = .ok (.iconst 0, 1) := by decide +kernel
theorem dX3_copyFrom_21 : decode cX3_copyFrom 21 = .ok (.aload_n 0, 1) := by decide +kernel
theorem dX3_copyFrom_22 : decode cX3_copyFrom 22 = .ok (.getfield 9, 3) := by decide +kernel
theorem dX3_copyFrom_25 : decode cX3_copyFrom 25 = .ok (.iconst 0, 1) := by decide +kernel
theorem dX3_copyFrom_26 : decode cX3_copyFrom 26 = .ok (.bipush 24, 2) := by decide +kernel
theorem dX3_copyFrom_28 : decode cX3_copyFrom 28 = .ok (.invokestatic 37, 3) := by decide +kernel
theorem dX3_copyFrom_31 : decode cX3_copyFrom 31 = .ok (.aload_n 1, 1) := by decide +kernel
theorem dX3_copyFrom_32 : decode cX3_copyFrom 32 = .ok (.getfield 15, 3) := by decide +kernel
theorem dX3_copyFrom_35 : decode cX3_copyFrom 35 = .ok (.iconst 0, 1) := by decide +kernel
theorem dX3_copyFrom_36 : decode cX3_copyFrom 36 = .ok (.aload_n 0, 1) := by decide +kernel
theorem dX3_copyFrom_37 : decode cX3_copyFrom 37 = .ok (.getfield 15, 3) := by decide +kernel
theorem dX3_copyFrom_40 : decode cX3_copyFrom 40 = .ok (.iconst 0, 1) := by decide +kernel
theorem dX3_copyFrom_41 : decode cX3_copyFrom 41 = .ok (.bipush 24, 2) := by decide +kernel
theorem dX3_copyFrom_43 : decode cX3_copyFrom 43 = .ok (.invokestatic 37, 3) := by decide +kernel
theorem dX3_copyFrom_46 : decode cX3_copyFrom 46 = .ok (.aload_n 1, 1) := by decide +kernel
theorem dX3_copyFrom_47 : decode cX3_copyFrom 47 = .ok (.getfield 18, 3) := by decide +kernel
theorem dX3_copyFrom_50 : decode cX3_copyFrom 50 = .ok (.iconst 0, 1) := by decide +kernel
theorem dX3_copyFrom_51 : decode cX3_copyFrom 51 = .ok (.aload_n 0, 1) := by decide +kernel
theorem dX3_copyFrom_52 : decode cX3_copyFrom 52 = .ok (.getfield 18, 3) := by decide +kernel
theorem dX3_copyFrom_55 : decode cX3_copyFrom 55 = .ok (.iconst 0, 1) := by decide +kernel
theorem dX3_copyFrom_56 : decode cX3_copyFrom 56 = .ok (.bipush 24, 2) := by decide +kernel
theorem dX3_copyFrom_58 : decode cX3_copyFrom 58 = .ok (.invokestatic 37, 3) := by decide +kernel
theorem dX3_copyFrom_61 : decode cX3_copyFrom 61 = .ok (.aload_n 1, 1) := by decide +kernel
theorem dX3_copyFrom_62 : decode cX3_copyFrom 62 = .ok (.getfield 21, 3) := by decide +kernel
theorem dX3_copyFrom_65 : decode cX3_copyFrom 65 = .ok (.iconst 0, 1) := by decide +kernel
theorem dX3_copyFrom_66 : decode cX3_copyFrom 66 = .ok (.aload_n 0, 1) := by decide +kernel
theorem dX3_copyFrom_67 : decode cX3_copyFrom 67 = .ok (.getfield 21, 3) := by decide +kernel
theorem dX3_copyFrom_70 : decode cX3_copyFrom 70 = .ok (.iconst 0, 1) := by decide +kernel
theorem dX3_copyFrom_71 : decode cX3_copyFrom 71 = .ok (.bipush 24, 2) := by decide +kernel
theorem dX3_copyFrom_73 : decode cX3_copyFrom 73 = .ok (.invokestatic 37, 3) := by decide +kernel
theorem dX3_copyFrom_76 : decode cX3_copyFrom 76 = .ok (.aload_n 1, 1) := by decide +kernel
theorem dX3_copyFrom_77 : decode cX3_copyFrom 77 = .ok (.getfield 24, 3) := by decide +kernel
theorem dX3_copyFrom_80 : decode cX3_copyFrom 80 = .ok (.iconst 0, 1) := by decide +kernel
theorem dX3_copyFrom_81 : decode cX3_copyFrom 81 = .ok (.aload_n 0, 1) := by decide +kernel
theorem dX3_copyFrom_82 : decode cX3_copyFrom 82 = .ok (.getfield 24, 3) := by decide +kernel
theorem dX3_copyFrom_85 : decode cX3_copyFrom 85 = .ok (.iconst 0, 1) := by decide +kernel
theorem dX3_copyFrom_86 : decode cX3_copyFrom 86 = .ok (.bipush 24, 2) := by decide +kernel
theorem dX3_copyFrom_88 : decode cX3_copyFrom 88 = .ok (.invokestatic 37, 3) := by decide +kernel
theorem dX3_copyFrom_91 : decode cX3_copyFrom 91 = .ok (.aload_n 1, 1) := by decide +kernel
theorem dX3_copyFrom_92 : decode cX3_copyFrom 92 = .ok (.getfield 27, 3) := by decide +kernel
theorem dX3_copyFrom_95 : decode cX3_copyFrom 95 = .ok (.iconst 0, 1) := by decide +kernel
theorem dX3_copyFrom_96 : decode cX3_copyFrom 96 = .ok (.aload_n 0, 1) := by decide +kernel
theorem dX3_copyFrom_97 : decode cX3_copyFrom 97 = .ok (.getfield 27, 3) := by decide +kernel
theorem dX3_copyFrom_100 : decode cX3_copyFrom 100 = .ok (.iconst 0, 1) := by decide +kernel
theorem dX3_copyFrom_101 : decode cX3_copyFrom 101 = .ok (.bipush 24, 2) := by decide +kernel
theorem dX3_copyFrom_103 : decode cX3_copyFrom 103 = .ok (.invokestatic 37, 3) := by decide +kernel
theorem dX3_copyFrom_106 : decode cX3_copyFrom 106 = .ok (.return_, 1) := by decide +kernel
theorem dX3_has_0 : decode cX3_has 0 = .ok (.iload_n 1, 1) := by decide +kernel
theorem dX3_has_1 : decode cX3_has 1 = .ok (.ifCond .lt 21, 3) := by decide +kernel
theorem dX3_has_4 : decode cX3_has 4 = .ok (.iload_n 1, 1) := by decide +kernel
theorem dX3_has_5 : decode cX3_has 5 = .ok (.aload_n 0, 1) := by decide +kernel
theorem dX3_has_6 : decode cX3_has 6 = .ok (.getfield 30, 3) := by decide +kernel
theorem dX3_has_9 : decode cX3_has 9 = .ok (.if_icmp .ge 13, 3) := by decide +kernel
theorem dX3_has_12 : decode cX3_has 12 = .ok (.iload_n 1, 1) := by decide +kernel
theorem dX3_has_13 : decode cX3_has 13 = .ok (.bipush 24, 2) := by decide +kernel
theorem dX3_has_15 : decode cX3_has 15 = .ok (.if_icmp .ge 7, 3) := by decide +kernel
theorem dX3_has_18 : decode cX3_has 18 = .ok (.iconst 1, 1) := by decide +kernel
theorem dX3_has_19 : decode cX3_has 19 = .ok (.goto 4, 3) := by decide +kernel
theorem dX3_has_22 : decode cX3_has 22 = .ok (.iconst 0, 1) := by decide +kernel
theorem dX3_has_23 : decode cX3_has 23 = .ok (.ireturn, 1) := by decide +kernel
theorem dX3_size_0 : decode cX3_size 0 = .ok (.aload_n 0, 1) := by decide +kernel
theorem dX3_size_1 : decode cX3_size 1 = .ok (.getfield 30, 3) := by decide +kernel
theorem dX3_size_4 : decode cX3_size 4 = .ok (.ireturn, 1) := by decide +kernel
theorem dX3_add_0 : decode cX3_add 0 = .ok (.aload_n 0, 1) := by decide +kernel
theorem dX3_add_1 : decode cX3_add 1 = .ok (.getfield 30, 3) := by decide +kernel
theorem dX3_add_4 : decode cX3_add 4 = .ok (.istore 5, 2) := by decide +kernel
theorem dX3_add_6 : decode cX3_add 6 = .ok (.iload 5, 2) := by decide +kernel
theorem dX3_add_8 : decode cX3_add 8 = .ok (.ifCond .lt 10, 3) := by decide +kernel
theorem dX3_add_11 : decode cX3_add 11 = .ok (.iload 5, 2) := by decide +kernel
theorem dX3_add_13 : decode cX3_add 13 = .ok (.bipush 24, 2) := by decide +kernel
theorem dX3_add_15 : decode cX3_add 15 = .ok (.if_icmp .lt 6, 3) := by decide +kernel
theorem dX3_add_18 : decode cX3_add 18 = .ok (.bipush (-4), 2) := by decide +kernel
theorem dX3_add_20 : decode cX3_add 20 = .ok (.ireturn, 1) := by decide +kernel
theorem dX3_add_21 : decode cX3_add 21 = .ok (.aload_n 0, 1) := by decide +kernel
theorem dX3_add_22 : decode cX3_add 22 = .ok (.getfield 9, 3) := by decide +kernel
theorem dX3_add_25 : decode cX3_add 25 = .ok (.iload 5, 2) := by decide +kernel
theorem dX3_add_27 : decode cX3_add 27 = .ok (.iload_n 1, 1) := by decide +kernel
theorem dX3_add_28 : decode cX3_add 28 = .ok (.iastore, 1) := by decide +kernel
theorem dX3_add_29 : decode cX3_add 29 = .ok (.aload_n 0, 1) := by decide +kernel
theorem dX3_add_30 : decode cX3_add 30 = .ok (.getfield 15, 3) := by decide +kernel
theorem dX3_add_33 : decode cX3_add 33 = .ok (.iload 5, 2) := by decide +kernel
theorem dX3_add_35 : decode cX3_add 35 = .ok (.iload_n 2, 1) := by decide +kernel
theorem dX3_add_36 : decode cX3_add 36 = .ok (.iastore, 1) := by decide +kernel
theorem dX3_add_37 : decode cX3_add 37 = .ok (.aload_n 0, 1) := by decide +kernel
theorem dX3_add_38 : decode cX3_add 38 = .ok (.getfield 18, 3) := by decide +kernel
theorem dX3_add_41 : decode cX3_add 41 = .ok (.iload 5, 2) := by decide +kernel
theorem dX3_add_43 : decode cX3_add 43 = .ok (.iload_n 3, 1) := by decide +kernel
theorem dX3_add_44 : decode cX3_add 44 = .ok (.iastore, 1) := by decide +kernel
theorem dX3_add_45 : decode cX3_add 45 = .ok (.aload_n 0, 1) := by decide +kernel
theorem dX3_add_46 : decode cX3_add 46 = .ok (.getfield 21, 3) := by decide +kernel
theorem dX3_add_49 : decode cX3_add 49 = .ok (.iload 5, 2) := by decide +kernel
theorem dX3_add_51 : decode cX3_add 51 = .ok (.iload 4, 2) := by decide +kernel
theorem dX3_add_53 : decode cX3_add 53 = .ok (.iastore, 1) := by decide +kernel
theorem dX3_add_54 : decode cX3_add 54 = .ok (.aload_n 0, 1) := by decide +kernel
theorem dX3_add_55 : decode cX3_add 55 = .ok (.getfield 24, 3) := by decide +kernel
theorem dX3_add_58 : decode cX3_add 58 = .ok (.iload 5, 2) := by decide +kernel
theorem dX3_add_60 : decode cX3_add 60 = .ok (.iconst 0, 1) := by decide +kernel
theorem dX3_add_61 : decode cX3_add 61 = .ok (.iastore, 1) := by decide +kernel
theorem dX3_add_62 : decode cX3_add 62 = .ok (.aload_n 0, 1) := by decide +kernel
theorem dX3_add_63 : decode cX3_add 63 = .ok (.getfield 27, 3) := by decide +kernel
theorem dX3_add_66 : decode cX3_add 66 = .ok (.iload 5, 2) := by decide +kernel
theorem dX3_add_68 : decode cX3_add 68 = .ok (.iconst (-1), 1) := by decide +kernel
theorem dX3_add_69 : decode cX3_add 69 = .ok (.iastore, 1) := by decide +kernel
theorem dX3_add_70 : decode cX3_add 70 = .ok (.aload_n 0, 1) := by decide +kernel
theorem dX3_add_71 : decode cX3_add 71 = .ok (.dup, 1) := by decide +kernel
theorem dX3_add_72 : decode cX3_add 72 = .ok (.getfield 34, 3) := by decide +kernel
theorem dX3_add_75 : decode cX3_add 75 = .ok (.iconst 1, 1) := by decide +kernel
theorem dX3_add_76 : decode cX3_add 76 = .ok (.iload 5, 2) := by decide +kernel
theorem dX3_add_78 : decode cX3_add 78 = .ok (.ishl, 1) := by decide +kernel
theorem dX3_add_79 : decode cX3_add 79 = .ok (.ior, 1) := by decide +kernel
theorem dX3_add_80 : decode cX3_add 80 = .ok (.putfield 34, 3) := by decide +kernel
theorem dX3_add_83 : decode cX3_add 83 = .ok (.aload_n 0, 1) := by decide +kernel
theorem dX3_add_84 : decode cX3_add 84 = .ok (.dup, 1) := by decide +kernel
theorem dX3_add_85 : decode cX3_add 85 = .ok (.getfield 30, 3) := by decide +kernel
theorem dX3_add_88 : decode cX3_add 88 = .ok (.iconst 1, 1) := by decide +kernel
theorem dX3_add_89 : decode cX3_add 89 = .ok (.iadd, 1) := by decide +kernel
theorem dX3_add_90 : decode cX3_add 90 = .ok (.putfield 30, 3) := by decide +kernel
theorem dX3_add_93 : decode cX3_add 93 = .ok (.iload 5, 2) := by decide +kernel
theorem dX3_add_95 : decode cX3_add 95 = .ok (.ireturn, 1) := by decide +kernel
theorem dX3_sheetOf_0 : decode cX3_sheetOf 0 = .ok (.aload_n 0, 1) := by decide +kernel
theorem dX3_sheetOf_1 : decode cX3_sheetOf 1 = .ok (.iload_n 1, 1) := by decide +kernel
theorem dX3_sheetOf_2 : decode cX3_sheetOf 2 = .ok (.invokevirtual 43, 3) := by decide +kernel
theorem dX3_sheetOf_5 : decode cX3_sheetOf 5 = .ok (.ifCond .eq 12, 3) := by decide +kernel
theorem dX3_sheetOf_8 : decode cX3_sheetOf 8 = .ok (.aload_n 0, 1) := by decide +kernel
theorem dX3_sheetOf_9 : decode cX3_sheetOf 9 = .ok (.getfield 9, 3) := by decide +kernel
theorem dX3_sheetOf_12 : decode cX3_sheetOf 12 = .ok (.iload_n 1, 1) := by decide +kernel
theorem dX3_sheetOf_13 : decode cX3_sheetOf 13 = .ok (.iaload, 1) := by decide +kernel
theorem dX3_sheetOf_14 : decode cX3_sheetOf 14 = .ok (.goto 4, 3) := by decide +kernel
theorem dX3_sheetOf_17 : decode cX3_sheetOf 17 = .ok (.iconst (-1), 1) := by decide +kernel
theorem dX3_sheetOf_18 : decode cX3_sheetOf 18 = .ok (.ireturn, 1) := by decide +kernel
theorem dX3_revisionOf_0 : decode cX3_revisionOf 0 = .ok (.aload_n 0, 1) := by decide +kernel
theorem dX3_revisionOf_1 : decode cX3_revisionOf 1 = .ok (.iload_n 1, 1) := by decide +kernel
theorem dX3_revisionOf_2 : decode cX3_revisionOf 2 = .ok (.invokevirtual 43, 3) := by decide +kernel
theorem dX3_revisionOf_5 : decode cX3_revisionOf 5 = .ok (.ifCond .eq 12, 3) := by decide +kernel
theorem dX3_revisionOf_8 : decode cX3_revisionOf 8 = .ok (.aload_n 0, 1) := by decide +kernel
theorem dX3_revisionOf_9 : decode cX3_revisionOf 9 = .ok (.getfield 15, 3) := by decide +kernel
theorem dX3_revisionOf_12 : decode cX3_revisionOf 12 = .ok (.iload_n 1, 1) := by decide +kernel
theorem dX3_revisionOf_13 : decode cX3_revisionOf 13 = .ok (.iaload, 1) := by decide +kernel
theorem dX3_revisionOf_14 : decode cX3_revisionOf 14 = .ok (.goto 4, 3) := by decide +kernel
theorem dX3_revisionOf_17 : decode cX3_revisionOf 17 = .ok (.iconst (-1), 1) := by decide +kernel
theorem dX3_revisionOf_18 : decode cX3_revisionOf 18 = .ok (.ireturn, 1) := by decide +kernel
theorem dX3_siteOf_0 : decode cX3_siteOf 0 = .ok (.aload_n 0, 1) := by decide +kernel
theorem dX3_siteOf_1 : decode cX3_siteOf 1 = .ok (.iload_n 1, 1) := by decide +kernel
theorem dX3_siteOf_2 : decode cX3_siteOf 2 = .ok (.invokevirtual 43, 3) := by decide +kernel
theorem dX3_siteOf_5 : decode cX3_siteOf 5 = .ok (.ifCond .eq 12, 3) := by decide +kernel
theorem dX3_siteOf_8 : decode cX3_siteOf 8 = .ok (.aload_n 0, 1) := by decide +kernel
theorem dX3_siteOf_9 : decode cX3_siteOf 9 = .ok (.getfield 18, 3) := by decide +kernel
theorem dX3_siteOf_12 : decode cX3_siteOf 12 = .ok (.iload_n 1, 1) := by decide +kernel
theorem dX3_siteOf_13 : decode cX3_siteOf 13 = .ok (.iaload, 1) := by decide +kernel
theorem dX3_siteOf_14 : decode cX3_siteOf 14 = .ok (.goto 4, 3) := by decide +kernel
theorem dX3_siteOf_17 : decode cX3_siteOf 17 = .ok (.iconst (-1), 1) := by decide +kernel
theorem dX3_siteOf_18 : decode cX3_siteOf 18 = .ok (.ireturn, 1) := by decide +kernel
theorem dX3_dayOf_0 : decode cX3_dayOf 0 = .ok (.aload_n 0, 1) := by decide +kernel
theorem dX3_dayOf_1 : decode cX3_dayOf 1 = .ok (.iload_n 1, 1) := by decide +kernel
theorem dX3_dayOf_2 : decode cX3_dayOf 2 = .ok (.invokevirtual 43, 3) := by decide +kernel
theorem dX3_dayOf_5 : decode cX3_dayOf 5 = .ok (.ifCond .eq 12, 3) := by decide +kernel
theorem dX3_dayOf_8 : decode cX3_dayOf 8 = .ok (.aload_n 0, 1) := by decide +kernel
theorem dX3_dayOf_9 : decode cX3_dayOf 9 = .ok (.getfield 21, 3) := by decide +kernel
theorem dX3_dayOf_12 : decode cX3_dayOf 12 = .ok (.iload_n 1, 1) := by decide +kernel
theorem dX3_dayOf_13 : decode cX3_dayOf 13 = .ok (.iaload, 1) := by decide +kernel
theorem dX3_dayOf_14 : decode cX3_dayOf 14 = .ok (.goto 4, 3) := by decide +kernel
theorem dX3_dayOf_17 : decode cX3_dayOf 17 = .ok (.iconst (-1), 1) := by decide +kernel
theorem dX3_dayOf_18 : decode cX3_dayOf 18 = .ok (.ireturn, 1) := by decide +kernel
theorem dX3_stampsOf_0 : decode cX3_stampsOf 0 = .ok (.aload_n 0, 1) := by decide +kernel
theorem dX3_stampsOf_1 : decode cX3_stampsOf 1 = .ok (.iload_n 1, 1) := by decide +kernel
theorem dX3_stampsOf_2 : decode cX3_stampsOf 2 = .ok (.invokevirtual 43, 3) := by decide +kernel
theorem dX3_stampsOf_5 : decode cX3_stampsOf 5 = .ok (.ifCond .eq 12, 3) := by decide +kernel
theorem dX3_stampsOf_8 : decode cX3_stampsOf 8 = .ok (.aload_n 0, 1) := by decide +kernel
theorem dX3_stampsOf_9 : decode cX3_stampsOf 9 = .ok (.getfield 24, 3) := by decide +kernel
theorem dX3_stampsOf_12 : decode cX3_stampsOf 12 = .ok (.iload_n 1, 1) := by decide +kernel
theorem dX3_stampsOf_13 : decode cX3_stampsOf 13 = .ok (.iaload, 1) := by decide +kernel
theorem dX3_stampsOf_14 : decode cX3_stampsOf 14 = .ok (.goto 4, 3) := by decide +kernel
theorem dX3_stampsOf_17 : decode cX3_stampsOf 17 = .ok (.iconst 0, 1) := by decide +kernel
theorem dX3_stampsOf_18 : decode cX3_stampsOf 18 = .ok (.ireturn, 1) := by decide +kernel
theorem dX3_dueOf_0 : decode cX3_dueOf 0 = .ok (.aload_n 0, 1) := by decide +kernel
theorem dX3_dueOf_1 : decode cX3_dueOf 1 = .ok (.iload_n 1, 1) := by decide +kernel
theorem dX3_dueOf_2 : decode cX3_dueOf 2 = .ok (.invokevirtual 43, 3) := by decide +kernel
theorem dX3_dueOf_5 : decode cX3_dueOf 5 = .ok (.ifCond .eq 12, 3) := by decide +kernel
theorem dX3_dueOf_8 : decode cX3_dueOf 8 = .ok (.aload_n 0, 1) := by decide +kernel
theorem dX3_dueOf_9 : decode cX3_dueOf 9 = .ok (.getfield 27, 3) := by decide +kernel
theorem dX3_dueOf_12 : decode cX3_dueOf 12 = .ok (.iload_n 1, 1) := by decide +kernel
theorem dX3_dueOf_13 : decode cX3_dueOf 13 = .ok (.iaload, 1) := by decide +kernel
theorem dX3_dueOf_14 : decode cX3_dueOf 14 = .ok (.goto 4, 3) := by decide +kernel
theorem dX3_dueOf_17 : decode cX3_dueOf 17 = .ok (.iconst (-1), 1) := by decide +kernel
theorem dX3_dueOf_18 : decode cX3_dueOf 18 = .ok (.ireturn, 1) := by decide +kernel
theorem dX3_isOut_0 : decode cX3_isOut 0 = .ok (.aload_n 0, 1) := by decide +kernel
theorem dX3_isOut_1 : decode cX3_isOut 1 = .ok (.getfield 34, 3) := by decide +kernel
theorem dX3_isOut_4 : decode cX3_isOut 4 = .ok (.iload_n 1, 1) := by decide +kernel
theorem dX3_isOut_5 : decode cX3_isOut 5 = .ok (.invokestatic 47, 3) := by decide +kernel
theorem dX3_isOut_8 : decode cX3_isOut 8 = .ok (.ireturn, 1) := by decide +kernel
theorem dX3_isOutNotRecalled_0 : decode cX3_isOutNotRecalled 0 = .ok (.aload_n 0, 1) := by decide +kernel
theorem dX3_isOutNotRecalled_1 : decode cX3_isOutNotRecalled 1 = .ok (.iload_n 1, 1) := by decide +kernel
theorem dX3_isOutNotRecalled_2 : decode cX3_isOutNotRecalled 2 = .ok (.invokevirtual 51, 3) := by decide +kernel
theorem dX3_isOutNotRecalled_5 : decode cX3_isOutNotRecalled 5 = .ok (.ifCond .eq 16, 3) := by decide +kernel
theorem dX3_isOutNotRecalled_8 : decode cX3_isOutNotRecalled 8 = .ok (.aload_n 0, 1) := by decide +kernel
theorem dX3_isOutNotRecalled_9 : decode cX3_isOutNotRecalled 9 = .ok (.iload_n 1, 1) := by decide +kernel
theorem dX3_isOutNotRecalled_10 : decode cX3_isOutNotRecalled 10 = .ok (.invokevirtual 54, 3) := by decide +kernel
theorem dX3_isOutNotRecalled_13 : decode cX3_isOutNotRecalled 13 = .ok (.iconst (-1), 1) := by decide +kernel
theorem dX3_isOutNotRecalled_14 : decode cX3_isOutNotRecalled 14 = .ok (.if_icmp .ne 7, 3) := by decide +kernel
theorem dX3_isOutNotRecalled_17 : decode cX3_isOutNotRecalled 17 = .ok (.iconst 1, 1) := by decide +kernel
theorem dX3_isOutNotRecalled_18 : decode cX3_isOutNotRecalled 18 = .ok (.goto 4, 3) := by decide +kernel
theorem dX3_isOutNotRecalled_21 : decode cX3_isOutNotRecalled 21 = .ok (.iconst 0, 1) := by decide +kernel
theorem dX3_isOutNotRecalled_22 : decode cX3_isOutNotRecalled 22 = .ok (.ireturn, 1) := by decide +kernel
theorem dX3_isOutAndRecalled_0 : decode cX3_isOutAndRecalled 0 = .ok (.aload_n 0, 1) := by decide +kernel
theorem dX3_isOutAndRecalled_1 : decode cX3_isOutAndRecalled 1 = .ok (.iload_n 1, 1) := by decide +kernel
theorem dX3_isOutAndRecalled_2 : decode cX3_isOutAndRecalled 2 = .ok (.invokevirtual 51, 3) := by decide +kernel
theorem dX3_isOutAndRecalled_5 : decode cX3_isOutAndRecalled 5 = .ok (.ifCond .eq 16, 3) := by decide +kernel
theorem dX3_isOutAndRecalled_8 : decode cX3_isOutAndRecalled 8 = .ok (.aload_n 0, 1) := by decide +kernel
theorem dX3_isOutAndRecalled_9 : decode cX3_isOutAndRecalled 9 = .ok (.iload_n 1, 1) := by decide +kernel
theorem dX3_isOutAndRecalled_10 : decode cX3_isOutAndRecalled 10 = .ok (.invokevirtual 54, 3) := by decide +kernel
theorem dX3_isOutAndRecalled_13 : decode cX3_isOutAndRecalled 13 = .ok (.iconst (-1), 1) := by decide +kernel
theorem dX3_isOutAndRecalled_14 : decode cX3_isOutAndRecalled 14 = .ok (.if_icmp .eq 7, 3) := by decide +kernel
theorem dX3_isOutAndRecalled_17 : decode cX3_isOutAndRecalled 17 = .ok (.iconst 1, 1) := by decide +kernel
theorem dX3_isOutAndRecalled_18 : decode cX3_isOutAndRecalled 18 = .ok (.goto 4, 3) := by decide +kernel
theorem dX3_isOutAndRecalled_21 : decode cX3_isOutAndRecalled 21 = .ok (.iconst 0, 1) := by decide +kernel
theorem dX3_isOutAndRecalled_22 : decode cX3_isOutAndRecalled 22 = .ok (.ireturn, 1) := by decide +kernel
theorem dX3_overdueDays_0 : decode cX3_overdueDays 0 = .ok (.aload_n 0, 1) := by decide +kernel
theorem dX3_overdueDays_1 : decode cX3_overdueDays 1 = .ok (.iload_n 1, 1) := by decide +kernel
theorem dX3_overdueDays_2 : decode cX3_overdueDays 2 = .ok (.invokevirtual 58, 3) := by decide +kernel
theorem dX3_overdueDays_5 : decode cX3_overdueDays 5 = .ok (.ifCond .eq 17, 3) := by decide +kernel
theorem dX3_overdueDays_8 : decode cX3_overdueDays 8 = .ok (.iconst 0, 1) := by decide +kernel
theorem dX3_overdueDays_9 : decode cX3_overdueDays 9 = .ok (.iload_n 2, 1) := by decide +kernel
theorem dX3_overdueDays_10 : decode cX3_overdueDays 10 = .ok (.aload_n 0, 1) := by decide +kernel
theorem dX3_overdueDays_11 : decode cX3_overdueDays 11 = .ok (.iload_n 1, 1) := by decide +kernel
theorem dX3_overdueDays_12 : decode cX3_overdueDays 12 = .ok (.invokevirtual 54, 3) := by decide +kernel
theorem dX3_overdueDays_15 : decode cX3_overdueDays 15 = .ok (.isub, 1) := by decide +kernel
theorem dX3_overdueDays_16 : decode cX3_overdueDays 16 = .ok (.invokestatic 61, 3) := by decide +kernel
theorem dX3_overdueDays_19 : decode cX3_overdueDays 19 = .ok (.goto 4, 3) := by decide +kernel
theorem dX3_overdueDays_22 : decode cX3_overdueDays 22 = .ok (.iconst 0, 1) := by decide +kernel
theorem dX3_overdueDays_23 : decode cX3_overdueDays 23 = .ok (.ireturn, 1) := by decide +kernel
theorem dX3_outCount_0 : decode cX3_outCount 0 = .ok (.aload_n 0, 1) := by decide +kernel
theorem dX3_outCount_1 : decode cX3_outCount 1 = .ok (.getfield 34, 3) := by decide +kernel
theorem dX3_outCount_4 : decode cX3_outCount 4 = .ok (.invokestatic 67, 3) := by decide +kernel
theorem dX3_outCount_7 : decode cX3_outCount 7 = .ok (.ireturn, 1) := by decide +kernel
theorem dX3_outCountOf_0 : decode cX3_outCountOf 0 = .ok (.iconst 0, 1) := by decide +kernel
theorem dX3_outCountOf_1 : decode cX3_outCountOf 1 = .ok (.istore_n 2, 1) := by decide +kernel
theorem dX3_outCountOf_2 : decode cX3_outCountOf 2 = .ok (.iconst 0, 1) := by decide +kernel
theorem dX3_outCountOf_3 : decode cX3_outCountOf 3 = .ok (.istore_n 3, 1) := by decide +kernel
theorem dX3_outCountOf_4 : decode cX3_outCountOf 4 = .ok (.iload_n 3, 1) := by decide +kernel
theorem dX3_outCountOf_5 : decode cX3_outCountOf 5 = .ok (.aload_n 0, 1) := by decide +kernel
theorem dX3_outCountOf_6 : decode cX3_outCountOf 6 = .ok (.getfield 30, 3) := by decide +kernel
theorem dX3_outCountOf_9 : decode cX3_outCountOf 9 = .ok (.if_icmp .ge 29, 3) := by decide +kernel
theorem dX3_outCountOf_12 : decode cX3_outCountOf 12 = .ok (.aload_n 0, 1) := by decide +kernel
theorem dX3_outCountOf_13 : decode cX3_outCountOf 13 = .ok (.iload_n 3, 1) := by decide +kernel
theorem dX3_outCountOf_14 : decode cX3_outCountOf 14 = .ok (.invokevirtual 51, 3) := by decide +kernel
theorem dX3_outCountOf_17 : decode cX3_outCountOf 17 = .ok (.ifCond .eq 15, 3) := by decide +kernel
theorem dX3_outCountOf_20 : decode cX3_outCountOf 20 = .ok (.aload_n 0, 1) := by decide +kernel
theorem dX3_outCountOf_21 : decode cX3_outCountOf 21 = .ok (.iload_n 3, 1) := by decide +kernel
theorem dX3_outCountOf_22 : decode cX3_outCountOf 22 = .ok (.invokevirtual 72, 3) := by decide +kernel
theorem dX3_outCountOf_25 : decode cX3_outCountOf 25 = .ok (.iload_n 1, 1) := by decide +kernel
theorem dX3_outCountOf_26 : decode cX3_outCountOf 26 = .ok (.if_icmp .ne 6, 3) := by decide +kernel
theorem dX3_outCountOf_29 : decode cX3_outCountOf 29 = .ok (.iinc 2 1, 3) := by decide +kernel
theorem dX3_outCountOf_32 : decode cX3_outCountOf 32 = .ok (.iinc 3 1, 3) := by decide +kernel
theorem dX3_outCountOf_35 : decode cX3_outCountOf 35 = .ok (.goto (-31), 3) := by decide +kernel
theorem dX3_outCountOf_38 : decode cX3_outCountOf 38 = .ok (.iload_n 2, 1) := by decide +kernel
theorem dX3_outCountOf_39 : decode cX3_outCountOf 39 = .ok (.ireturn, 1) := by decide +kernel
theorem dX3_recalledCount_0 : decode cX3_recalledCount 0 = .ok (.iconst 0, 1) := by decide +kernel
theorem dX3_recalledCount_1 : decode cX3_recalledCount 1 = .ok (.istore_n 1, 1) := by decide +kernel
theorem dX3_recalledCount_2 : decode cX3_recalledCount 2 = .ok (.iconst 0, 1) := by decide +kernel
theorem dX3_recalledCount_3 : decode cX3_recalledCount 3 = .ok (.istore_n 2, 1) := by decide +kernel
theorem dX3_recalledCount_4 : decode cX3_recalledCount 4 = .ok (.iload_n 2, 1) := by decide +kernel
theorem dX3_recalledCount_5 : decode cX3_recalledCount 5 = .ok (.aload_n 0, 1) := by decide +kernel
theorem dX3_recalledCount_6 : decode cX3_recalledCount 6 = .ok (.getfield 30, 3) := by decide +kernel
theorem dX3_recalledCount_9 : decode cX3_recalledCount 9 = .ok (.if_icmp .ge 20, 3) := by decide +kernel
theorem dX3_recalledCount_12 : decode cX3_recalledCount 12 = .ok (.aload_n 0, 1) := by decide +kernel
theorem dX3_recalledCount_13 : decode cX3_recalledCount 13 = .ok (.iload_n 2, 1) := by decide +kernel
theorem dX3_recalledCount_14 : decode cX3_recalledCount 14 = .ok (.invokevirtual 58, 3) := by decide +kernel
theorem dX3_recalledCount_17 : decode cX3_recalledCount 17 = .ok (.ifCond .eq 6, 3) := by decide +kernel
theorem dX3_recalledCount_20 : decode cX3_recalledCount 20 = .ok (.iinc 1 1, 3) := by decide +kernel
theorem dX3_recalledCount_23 : decode cX3_recalledCount 23 = .ok (.iinc 2 1, 3) := by decide +kernel
theorem dX3_recalledCount_26 : decode cX3_recalledCount 26 = .ok (.goto (-22), 3) := by decide +kernel
theorem dX3_recalledCount_29 : decode cX3_recalledCount 29 = .ok (.iload_n 1, 1) := by decide +kernel
theorem dX3_recalledCount_30 : decode cX3_recalledCount 30 = .ok (.ireturn, 1) := by decide +kernel
theorem dX3_overdueCount_0 : decode cX3_overdueCount 0 = .ok (.iconst 0, 1) := by decide +kernel
theorem dX3_overdueCount_1 : decode cX3_overdueCount 1 = .ok (.istore_n 3, 1) := by decide +kernel
theorem dX3_overdueCount_2 : decode cX3_overdueCount 2 = .ok (.iconst 0, 1) := by decide +kernel
theorem dX3_overdueCount_3 : decode cX3_overdueCount 3 = .ok (.istore 4, 2) := by decide +kernel
theorem dX3_overdueCount_5 : decode cX3_overdueCount 5 = .ok (.iload 4, 2) := by decide +kernel
theorem dX3_overdueCount_7 : decode cX3_overdueCount 7 = .ok (.aload_n 0, 1) := by decide +kernel
theorem dX3_overdueCount_8 : decode cX3_overdueCount 8 = .ok (.getfield 30, 3) := by decide +kernel
theorem dX3_overdueCount_11 : decode cX3_overdueCount 11 = .ok (.if_icmp .ge 37, 3) := by decide +kernel
theorem dX3_overdueCount_14 : decode cX3_overdueCount 14 = .ok (.iload_n 1, 1) := by decide +kernel
theorem dX3_overdueCount_15 : decode cX3_overdueCount 15 = .ok (.iconst (-1), 1) := by decide +kernel
theorem dX3_overdueCount_16 : decode cX3_overdueCount 16 = .ok (.if_icmp .eq 13, 3) := by decide +kernel
theorem dX3_overdueCount_19 : decode cX3_overdueCount 19 = .ok (.aload_n 0, 1) := by decide +kernel
theorem dX3_overdueCount_20 : decode cX3_overdueCount 20 = .ok (.iload 4, 2) := by decide +kernel
theorem dX3_overdueCount_22 : decode cX3_overdueCount 22 = .ok (.invokevirtual 75, 3) := by decide +kernel
theorem dX3_overdueCount_25 : decode cX3_overdueCount 25 = .ok (.iload_n 1, 1) := by decide +kernel
theorem dX3_overdueCount_26 : decode cX3_overdueCount 26 = .ok (.if_icmp .ne 16, 3) := by decide +kernel
theorem dX3_overdueCount_29 : decode cX3_overdueCount 29 = .ok (.aload_n 0, 1) := by decide +kernel
theorem dX3_overdueCount_30 : decode cX3_overdueCount 30 = .ok (.iload 4, 2) := by decide +kernel
theorem dX3_overdueCount_32 : decode cX3_overdueCount 32 = .ok (.iload_n 2, 1) := by decide +kernel
theorem dX3_overdueCount_33 : decode cX3_overdueCount 33 = .ok (.invokevirtual 78, 3) := by decide +kernel
theorem dX3_overdueCount_36 : decode cX3_overdueCount 36 = .ok (.ifCond .le 6, 3) := by decide +kernel
theorem dX3_overdueCount_39 : decode cX3_overdueCount 39 = .ok (.iinc 3 1, 3) := by decide +kernel
theorem dX3_overdueCount_42 : decode cX3_overdueCount 42 = .ok (.iinc 4 1, 3) := by decide +kernel
theorem dX3_overdueCount_45 : decode cX3_overdueCount 45 = .ok (.goto (-40), 3) := by decide +kernel
theorem dX3_overdueCount_48 : decode cX3_overdueCount 48 = .ok (.iload_n 3, 1) := by decide +kernel
theorem dX3_overdueCount_49 : decode cX3_overdueCount 49 = .ok (.ireturn, 1) := by decide +kernel
theorem dX3_recallCountOf_0 : decode cX3_recallCountOf 0 = .ok (.iconst 0, 1) := by decide +kernel
theorem dX3_recallCountOf_1 : decode cX3_recallCountOf 1 = .ok (.istore_n 2, 1) := by decide +kernel
theorem dX3_recallCountOf_2 : decode cX3_recallCountOf 2 = .ok (.iconst 0, 1) := by decide +kernel
theorem dX3_recallCountOf_3 : decode cX3_recallCountOf 3 = .ok (.istore_n 3, 1) := by decide +kernel
theorem dX3_recallCountOf_4 : decode cX3_recallCountOf 4 = .ok (.iload_n 3, 1) := by decide +kernel
theorem dX3_recallCountOf_5 : decode cX3_recallCountOf 5 = .ok (.aload_n 0, 1) := by decide +kernel
theorem dX3_recallCountOf_6 : decode cX3_recallCountOf 6 = .ok (.getfield 30, 3) := by decide +kernel
theorem dX3_recallCountOf_9 : decode cX3_recallCountOf 9 = .ok (.if_icmp .ge 29, 3) := by decide +kernel
theorem dX3_recallCountOf_12 : decode cX3_recallCountOf 12 = .ok (.aload_n 0, 1) := by decide +kernel
theorem dX3_recallCountOf_13 : decode cX3_recallCountOf 13 = .ok (.iload_n 3, 1) := by decide +kernel
theorem dX3_recallCountOf_14 : decode cX3_recallCountOf 14 = .ok (.invokevirtual 81, 3) := by decide +kernel
theorem dX3_recallCountOf_17 : decode cX3_recallCountOf 17 = .ok (.ifCond .eq 15, 3) := by decide +kernel
theorem dX3_recallCountOf_20 : decode cX3_recallCountOf 20 = .ok (.aload_n 0, 1) := by decide +kernel
theorem dX3_recallCountOf_21 : decode cX3_recallCountOf 21 = .ok (.iload_n 3, 1) := by decide +kernel
theorem dX3_recallCountOf_22 : decode cX3_recallCountOf 22 = .ok (.invokevirtual 72, 3) := by decide +kernel
theorem dX3_recallCountOf_25 : decode cX3_recallCountOf 25 = .ok (.iload_n 1, 1) := by decide +kernel
theorem dX3_recallCountOf_26 : decode cX3_recallCountOf 26 = .ok (.if_icmp .ne 6, 3) := by decide +kernel
theorem dX3_recallCountOf_29 : decode cX3_recallCountOf 29 = .ok (.iinc 2 1, 3) := by decide +kernel
theorem dX3_recallCountOf_32 : decode cX3_recallCountOf 32 = .ok (.iinc 3 1, 3) := by decide +kernel
theorem dX3_recallCountOf_35 : decode cX3_recallCountOf 35 = .ok (.goto (-31), 3) := by decide +kernel
theorem dX3_recallCountOf_38 : decode cX3_recallCountOf 38 = .ok (.iload_n 2, 1) := by decide +kernel
theorem dX3_recallCountOf_39 : decode cX3_recallCountOf 39 = .ok (.ireturn, 1) := by decide +kernel
theorem dX3_recallAllOf_0 : decode cX3_recallAllOf 0 = .ok (.iconst 0, 1) := by decide +kernel
theorem dX3_recallAllOf_1 : decode cX3_recallAllOf 1 = .ok (.istore_n 3, 1) := by decide +kernel
theorem dX3_recallAllOf_2 : decode cX3_recallAllOf 2 = .ok (.iload_n 3, 1) := by decide +kernel
theorem dX3_recallAllOf_3 : decode cX3_recallAllOf 3 = .ok (.aload_n 0, 1) := by decide +kernel
theorem dX3_recallAllOf_4 : decode cX3_recallAllOf 4 = .ok (.getfield 30, 3) := by decide +kernel
theorem dX3_recallAllOf_7 : decode cX3_recallAllOf 7 = .ok (.if_icmp .ge 39, 3) := by decide +kernel
theorem dX3_recallAllOf_10 : decode cX3_recallAllOf 10 = .ok (.iload_n 3, 1) := by decide +kernel
theorem dX3_recallAllOf_11 : decode cX3_recallAllOf 11 = .ok (.bipush 24, 2) := by decide +kernel
theorem dX3_recallAllOf_13 : decode cX3_recallAllOf 13 = .ok (.if_icmp .ge 33, 3) := by decide +kernel
theorem dX3_recallAllOf_16 : decode cX3_recallAllOf 16 = .ok (.aload_n 0, 1) := by decide +kernel
theorem dX3_recallAllOf_17 : decode cX3_recallAllOf 17 = .ok (.iload_n 3, 1) := by decide +kernel
theorem dX3_recallAllOf_18 : decode cX3_recallAllOf 18 = .ok (.invokevirtual 81, 3) := by decide +kernel
theorem dX3_recallAllOf_21 : decode cX3_recallAllOf 21 = .ok (.ifCond .eq 19, 3) := by decide +kernel
theorem dX3_recallAllOf_24 : decode cX3_recallAllOf 24 = .ok (.aload_n 0, 1) := by decide +kernel
theorem dX3_recallAllOf_25 : decode cX3_recallAllOf 25 = .ok (.iload_n 3, 1) := by decide +kernel
theorem dX3_recallAllOf_26 : decode cX3_recallAllOf 26 = .ok (.invokevirtual 72, 3) := by decide +kernel
theorem dX3_recallAllOf_29 : decode cX3_recallAllOf 29 = .ok (.iload_n 1, 1) := by decide +kernel
theorem dX3_recallAllOf_30 : decode cX3_recallAllOf 30 = .ok (.if_icmp .ne 10, 3) := by decide +kernel
theorem dX3_recallAllOf_33 : decode cX3_recallAllOf 33 = .ok (.aload_n 0, 1) := by decide +kernel
theorem dX3_recallAllOf_34 : decode cX3_recallAllOf 34 = .ok (.getfield 27, 3) := by decide +kernel
theorem dX3_recallAllOf_37 : decode cX3_recallAllOf 37 = .ok (.iload_n 3, 1) := by decide +kernel
theorem dX3_recallAllOf_38 : decode cX3_recallAllOf 38 = .ok (.iload_n 2, 1) := by decide +kernel
theorem dX3_recallAllOf_39 : decode cX3_recallAllOf 39 = .ok (.iastore, 1) := by decide +kernel
theorem dX3_recallAllOf_40 : decode cX3_recallAllOf 40 = .ok (.iinc 3 1, 3) := by decide +kernel
theorem dX3_recallAllOf_43 : decode cX3_recallAllOf 43 = .ok (.goto (-41), 3) := by decide +kernel
theorem dX3_recallAllOf_46 : decode cX3_recallAllOf 46 = .ok (.return_, 1) := by decide +kernel
theorem dX3_addStamp_0 : decode cX3_addStamp 0 = .ok (.aload_n 0, 1) := by decide +kernel
theorem dX3_addStamp_1 : decode cX3_addStamp 1 = .ok (.iload_n 1, 1) := by decide +kernel
theorem dX3_addStamp_2 : decode cX3_addStamp 2 = .ok (.invokevirtual 43, 3) := by decide +kernel
theorem dX3_addStamp_5 : decode cX3_addStamp 5 = .ok (.ifCond .eq 15, 3) := by decide +kernel
theorem dX3_addStamp_8 : decode cX3_addStamp 8 = .ok (.aload_n 0, 1) := by decide +kernel
theorem dX3_addStamp_9 : decode cX3_addStamp 9 = .ok (.getfield 24, 3) := by decide +kernel
theorem dX3_addStamp_12 : decode cX3_addStamp 12 = .ok (.iload_n 1, 1) := by decide +kernel
theorem dX3_addStamp_13 : decode cX3_addStamp 13 = .ok (.dup2, 1) := by decide +kernel
theorem dX3_addStamp_14 : decode cX3_addStamp 14 = .ok (.iaload, 1) := by decide +kernel
theorem dX3_addStamp_15 : decode cX3_addStamp 15 = .ok (.iconst 1, 1) := by decide +kernel
theorem dX3_addStamp_16 : decode cX3_addStamp 16 = .ok (.iload_n 2, 1) := by decide +kernel
theorem dX3_addStamp_17 : decode cX3_addStamp 17 = .ok (.ishl, 1) := by decide +kernel
theorem dX3_addStamp_18 : decode cX3_addStamp 18 = .ok (.ior, 1) := by decide +kernel
theorem dX3_addStamp_19 : decode cX3_addStamp 19 = .ok (.iastore, 1) := by decide +kernel
theorem dX3_addStamp_20 : decode cX3_addStamp 20 = .ok (.aload_n 0, 1) := by decide +kernel
theorem dX3_addStamp_21 : decode cX3_addStamp 21 = .ok (.iload_n 1, 1) := by decide +kernel
theorem dX3_addStamp_22 : decode cX3_addStamp 22 = .ok (.invokevirtual 84, 3) := by decide +kernel
theorem dX3_addStamp_25 : decode cX3_addStamp 25 = .ok (.invokestatic 67, 3) := by decide +kernel
theorem dX3_addStamp_28 : decode cX3_addStamp 28 = .ok (.ireturn, 1) := by decide +kernel
theorem dX3_markBack_0 : decode cX3_markBack 0 = .ok (.aload_n 0, 1) := by decide +kernel
theorem dX3_markBack_1 : decode cX3_markBack 1 = .ok (.dup, 1) := by decide +kernel
theorem dX3_markBack_2 : decode cX3_markBack 2 = .ok (.getfield 34, 3) := by decide +kernel
theorem dX3_markBack_5 : decode cX3_markBack 5 = .ok (.iconst 1, 1) := by decide +kernel
theorem dX3_markBack_6 : decode cX3_markBack 6 = .ok (.iload_n 1, 1) := by decide +kernel
theorem dX3_markBack_7 : decode cX3_markBack 7 = .ok (.ishl, 1) := by decide +kernel
theorem dX3_markBack_8 : decode cX3_markBack 8 = .ok (.iconst (-1), 1) := by decide +kernel
theorem dX3_markBack_9 : decode cX3_markBack 9 = .ok (.ixor, 1) := by decide +kernel
theorem dX3_markBack_10 : decode cX3_markBack 10 = .ok (.iand, 1) := by decide +kernel
theorem dX3_markBack_11 : decode cX3_markBack 11 = .ok (.putfield 34, 3) := by decide +kernel
theorem dX3_markBack_14 : decode cX3_markBack 14 = .ok (.return_, 1) := by decide +kernel
theorem dX3_toFetch_0 : decode cX3_toFetch 0 = .ok (.iconst 0, 1) := by decide +kernel
theorem dX3_toFetch_1 : decode cX3_toFetch 1 = .ok (.istore_n 2, 1) := by decide +kernel
theorem dX3_toFetch_2 : decode cX3_toFetch 2 = .ok (.iload_n 2, 1) := by decide +kernel
theorem dX3_toFetch_3 : decode cX3_toFetch 3 = .ok (.aload_n 0, 1) := by decide +kernel
theorem dX3_toFetch_4 : decode cX3_toFetch 4 = .ok (.getfield 30, 3) := by decide +kernel
theorem dX3_toFetch_7 : decode cX3_toFetch 7 = .ok (.if_icmp .ge 28, 3) := by decide +kernel
theorem dX3_toFetch_10 : decode cX3_toFetch 10 = .ok (.aload_n 0, 1) := by decide +kernel
theorem dX3_toFetch_11 : decode cX3_toFetch 11 = .ok (.iload_n 2, 1) := by decide +kernel
theorem dX3_toFetch_12 : decode cX3_toFetch 12 = .ok (.invokevirtual 58, 3) := by decide +kernel
theorem dX3_toFetch_15 : decode cX3_toFetch 15 = .ok (.ifCond .eq 14, 3) := by decide +kernel
theorem dX3_toFetch_18 : decode cX3_toFetch 18 = .ok (.aload_n 0, 1) := by decide +kernel
theorem dX3_toFetch_19 : decode cX3_toFetch 19 = .ok (.iload_n 2, 1) := by decide +kernel
theorem dX3_toFetch_20 : decode cX3_toFetch 20 = .ok (.invokevirtual 87, 3) := by decide +kernel
theorem dX3_toFetch_23 : decode cX3_toFetch 23 = .ok (.iload_n 1, 1) := by decide +kernel
theorem dX3_toFetch_24 : decode cX3_toFetch 24 = .ok (.if_icmp .ne 5, 3) := by decide +kernel
theorem dX3_toFetch_27 : decode cX3_toFetch 27 = .ok (.iload_n 2, 1) := by decide +kernel
theorem dX3_toFetch_28 : decode cX3_toFetch 28 = .ok (.ireturn, 1) := by decide +kernel
theorem dX3_toFetch_29 : decode cX3_toFetch 29 = .ok (.iinc 2 1, 3) := by decide +kernel
theorem dX3_toFetch_32 : decode cX3_toFetch 32 = .ok (.goto (-30), 3) := by decide +kernel
theorem dX3_toFetch_35 : decode cX3_toFetch 35 = .ok (.iconst (-1), 1) := by decide +kernel
theorem dX3_toFetch_36 : decode cX3_toFetch 36 = .ok (.ireturn, 1) := by decide +kernel
theorem dX3_fetchedBefore_0 : decode cX3_fetchedBefore 0 = .ok (.iconst 0, 1) := by decide +kernel
theorem dX3_fetchedBefore_1 : decode cX3_fetchedBefore 1 = .ok (.istore_n 2, 1) := by decide +kernel
theorem dX3_fetchedBefore_2 : decode cX3_fetchedBefore 2 = .ok (.iconst 0, 1) := by decide +kernel
theorem dX3_fetchedBefore_3 : decode cX3_fetchedBefore 3 = .ok (.istore_n 3, 1) := by decide +kernel
theorem dX3_fetchedBefore_4 : decode cX3_fetchedBefore 4 = .ok (.iload_n 3, 1) := by decide +kernel
theorem dX3_fetchedBefore_5 : decode cX3_fetchedBefore 5 = .ok (.aload_n 0, 1) := by decide +kernel
theorem dX3_fetchedBefore_6 : decode cX3_fetchedBefore 6 = .ok (.getfield 30, 3) := by decide +kernel
theorem dX3_fetchedBefore_9 : decode cX3_fetchedBefore 9 = .ok (.if_icmp .ge 63, 3) := by decide +kernel
theorem dX3_fetchedBefore_12 : decode cX3_fetchedBefore 12 = .ok (.aload_n 0, 1) := by decide +kernel
theorem dX3_fetchedBefore_13 : decode cX3_fetchedBefore 13 = .ok (.iload_n 3, 1) := by decide +kernel
theorem dX3_fetchedBefore_14 : decode cX3_fetchedBefore 14 = .ok (.invokevirtual 54, 3) := by decide +kernel
theorem dX3_fetchedBefore_17 : decode cX3_fetchedBefore 17 = .ok (.aload_n 0, 1) := by decide +kernel
theorem dX3_fetchedBefore_18 : decode cX3_fetchedBefore 18 = .ok (.iload_n 1, 1) := by decide +kernel
theorem dX3_fetchedBefore_19 : decode cX3_fetchedBefore 19 = .ok (.invokevirtual 54, 3) := by decide +kernel
theorem dX3_fetchedBefore_22 : decode cX3_fetchedBefore 22 = .ok (.if_icmp .lt 21, 3) := by decide +kernel
theorem dX3_fetchedBefore_25 : decode cX3_fetchedBefore 25 = .ok (.aload_n 0, 1) := by decide +kernel
theorem dX3_fetchedBefore_26 : decode cX3_fetchedBefore 26 = .ok (.iload_n 3, 1) := by decide +kernel
theorem dX3_fetchedBefore_27 : decode cX3_fetchedBefore 27 = .ok (.invokevirtual 54, 3) := by decide +kernel
theorem dX3_fetchedBefore_30 : decode cX3_fetchedBefore 30 = .ok (.aload_n 0, 1) := by decide +kernel
theorem dX3_fetchedBefore_31 : decode cX3_fetchedBefore 31 = .ok (.iload_n 1, 1) := by decide +kernel
theorem dX3_fetchedBefore_32 : decode cX3_fetchedBefore 32 = .ok (.invokevirtual 54, 3) := by decide +kernel
theorem dX3_fetchedBefore_35 : decode cX3_fetchedBefore 35 = .ok (.if_icmp .ne 12, 3) := by decide +kernel
theorem dX3_fetchedBefore_38 : decode cX3_fetchedBefore 38 = .ok (.iload_n 3, 1) := by decide +kernel
theorem dX3_fetchedBefore_39 : decode cX3_fetchedBefore 39 = .ok (.iload_n 1, 1) := by decide +kernel
theorem dX3_fetchedBefore_40 : decode cX3_fetchedBefore 40 = .ok (.if_icmp .ge 7, 3) := by decide +kernel
theorem dX3_fetchedBefore_43 : decode cX3_fetchedBefore 43 = .ok (.iconst 1, 1) := by decide +kernel
theorem dX3_fetchedBefore_44 : decode cX3_fetchedBefore 44 = .ok (.goto 4, 3) := by decide +kernel
theorem dX3_fetchedBefore_47 : decode cX3_fetchedBefore 47 = .ok (.iconst 0, 1) := by decide +kernel
theorem dX3_fetchedBefore_48 : decode cX3_fetchedBefore 48 = .ok (.istore 4, 2) := by decide +kernel
theorem dX3_fetchedBefore_50 : decode cX3_fetchedBefore 50 = .ok (.aload_n 0, 1) := by decide +kernel
theorem dX3_fetchedBefore_51 : decode cX3_fetchedBefore 51 = .ok (.iload_n 3, 1) := by decide +kernel
theorem dX3_fetchedBefore_52 : decode cX3_fetchedBefore 52 = .ok (.invokevirtual 58, 3) := by decide +kernel
theorem dX3_fetchedBefore_55 : decode cX3_fetchedBefore 55 = .ok (.ifCond .eq 11, 3) := by decide +kernel
theorem dX3_fetchedBefore_58 : decode cX3_fetchedBefore 58 = .ok (.iload 4, 2) := by decide +kernel
theorem dX3_fetchedBefore_60 : decode cX3_fetchedBefore 60 = .ok (.ifCond .eq 6, 3) := by decide +kernel
theorem dX3_fetchedBefore_63 : decode cX3_fetchedBefore 63 = .ok (.iinc 2 1, 3) := by decide +kernel
theorem dX3_fetchedBefore_66 : decode cX3_fetchedBefore 66 = .ok (.iinc 3 1, 3) := by decide +kernel
theorem dX3_fetchedBefore_69 : decode cX3_fetchedBefore 69 = .ok (.goto (-65), 3) := by decide +kernel
theorem dX3_fetchedBefore_72 : decode cX3_fetchedBefore 72 = .ok (.iload_n 2, 1) := by decide +kernel
theorem dX3_fetchedBefore_73 : decode cX3_fetchedBefore 73 = .ok (.ireturn, 1) := by decide +kernel
theorem dX4_init_0 : decode cX4_init 0 = .ok (.aload_n 0, 1) := by decide +kernel
theorem dX4_init_1 : decode cX4_init 1 = .ok (.invokespecial 3, 3) := by decide +kernel
theorem dX4_init_4 : decode cX4_init 4 = .ok (.aload_n 0, 1) := by decide +kernel
theorem dX4_init_5 : decode cX4_init 5 = .ok (.bipush 10, 2) := by decide +kernel
theorem dX4_init_7 : decode cX4_init 7 = .ok (.newarray .int, 2) := by decide +kernel
theorem dX4_init_9 : decode cX4_init 9 = .ok (.putfield 9, 3) := by decide +kernel
theorem dX4_init_12 : decode cX4_init 12 = .ok (.aload_n 0, 1) := by decide +kernel
theorem dX4_init_13 : decode cX4_init 13 = .ok (.bipush 10, 2) := by decide +kernel
theorem dX4_init_15 : decode cX4_init 15 = .ok (.newarray .int, 2) := by decide +kernel
theorem dX4_init_17 : decode cX4_init 17 = .ok (.putfield 15, 3) := by decide +kernel
theorem dX4_init_20 : decode cX4_init 20 = .ok (.aload_n 0, 1) := by decide +kernel
theorem dX4_init_21 : decode cX4_init 21 = .ok (.bipush 120, 2) := by decide +kernel
theorem dX4_init_23 : decode cX4_init 23 = .ok (.newarray .int, 2) := by decide +kernel
theorem dX4_init_25 : decode cX4_init 25 = .ok (.putfield 18, 3) := by decide +kernel
theorem dX4_init_28 : decode cX4_init 28 = .ok (.return_, 1) := by decide +kernel
theorem dX4_clear_0 : decode cX4_clear 0 = .ok (.aload_n 0, 1) := by decide +kernel
theorem dX4_clear_1 : decode cX4_clear 1 = .ok (.iconst 0, 1) := by decide +kernel
theorem dX4_clear_2 : decode cX4_clear 2 = .ok (.putfield 21, 3) := by decide +kernel
theorem dX4_clear_5 : decode cX4_clear 5 = .ok (.aload_n 0, 1) := by decide +kernel
theorem dX4_clear_6 : decode cX4_clear 6 = .ok (.iconst 0, 1) := by decide +kernel
theorem dX4_clear_7 : decode cX4_clear 7 = .ok (.putfield 25, 3) := by decide +kernel
theorem dX4_clear_10 : decode cX4_clear 10 = .ok (.return_, 1) := by decide +kernel
theorem dX4_copyFrom_0 : decode cX4_copyFrom 0 = .ok (.aload_n 0, 1) := by decide +kernel
theorem dX4_copyFrom_1 : decode cX4_copyFrom 1 = .ok (.aload_n 1, 1) := by decide +kernel
theorem dX4_copyFrom_2 : decode cX4_copyFrom 2 = .ok (.getfield 21, 3) := by decide +kernel
theorem dX4_copyFrom_5 : decode cX4_copyFrom 5 = .ok (.putfield 21, 3) := by decide +kernel
theorem dX4_copyFrom_8 : decode cX4_copyFrom 8 = .ok (.aload_n 0, 1) := by decide +kernel
theorem dX4_copyFrom_9 : decode cX4_copyFrom 9 = .ok (.aload_n 1, 1) := by decide +kernel
theorem dX4_copyFrom_10 : decode cX4_copyFrom 10 = .ok (.getfield 25, 3) := by decide +kernel
theorem dX4_copyFrom_13 : decode cX4_copyFrom 13 = .ok (.putfield 25, 3) := by decide +kernel
theorem dX4_copyFrom_16 : decode cX4_copyFrom 16 = .ok (.aload_n 1, 1) := by decide +kernel
theorem dX4_copyFrom_17 : decode cX4_copyFrom 17 = .ok (.getfield 9, 3) := by decide +kernel
theorem dX4_copyFrom_20 : decode cX4_copyFrom 20 = .ok (.iconst 0, 1) := by decide +kernel
theorem dX4_copyFrom_21 : decode cX4_copyFrom 21 = .ok (.aload_n 0, 1) := by decide +kernel
theorem dX4_copyFrom_22 : decode cX4_copyFrom 22 = .ok (.getfield 9, 3) := by decide +kernel
theorem dX4_copyFrom_25 : decode cX4_copyFrom 25 = .ok (.iconst 0, 1) := by decide +kernel
theorem dX4_copyFrom_26 : decode cX4_copyFrom 26 = .ok (.bipush 10, 2) := by decide +kernel
theorem dX4_copyFrom_28 : decode cX4_copyFrom 28 = .ok (.invokestatic 28, 3) := by decide +kernel
theorem dX4_copyFrom_31 : decode cX4_copyFrom 31 = .ok (.aload_n 1, 1) := by decide +kernel
theorem dX4_copyFrom_32 : decode cX4_copyFrom 32 = .ok (.getfield 15, 3) := by decide +kernel
theorem dX4_copyFrom_35 : decode cX4_copyFrom 35 = .ok (.iconst 0, 1) := by decide +kernel
theorem dX4_copyFrom_36 : decode cX4_copyFrom 36 = .ok (.aload_n 0, 1) := by decide +kernel
theorem dX4_copyFrom_37 : decode cX4_copyFrom 37 = .ok (.getfield 15, 3) := by decide +kernel
theorem dX4_copyFrom_40 : decode cX4_copyFrom 40 = .ok (.iconst 0, 1) := by decide +kernel
theorem dX4_copyFrom_41 : decode cX4_copyFrom 41 = .ok (.bipush 10, 2) := by decide +kernel
theorem dX4_copyFrom_43 : decode cX4_copyFrom 43 = .ok (.invokestatic 28, 3) := by decide +kernel
theorem dX4_copyFrom_46 : decode cX4_copyFrom 46 = .ok (.aload_n 1, 1) := by decide +kernel
theorem dX4_copyFrom_47 : decode cX4_copyFrom 47 = .ok (.getfield 18, 3) := by decide +kernel
theorem dX4_copyFrom_50 : decode cX4_copyFrom 50 = .ok (.iconst 0, 1) := by decide +kernel
theorem dX4_copyFrom_51 : decode cX4_copyFrom 51 = .ok (.aload_n 0, 1) := by decide +kernel
theorem dX4_copyFrom_52 : decode cX4_copyFrom 52 = .ok (.getfield 18, 3) := by decide +kernel
theorem dX4_copyFrom_55 : decode cX4_copyFrom 55 = .ok (.iconst 0, 1) := by decide +kernel
theorem dX4_copyFrom_56 : decode cX4_copyFrom 56 = .ok (.bipush 120, 2) := by decide +kernel
theorem dX4_copyFrom_58 : decode cX4_copyFrom 58 = .ok (.invokestatic 28, 3) := by decide +kernel
theorem dX4_copyFrom_61 : decode cX4_copyFrom 61 = .ok (.return_, 1) := by decide +kernel
theorem dX4_has_0 : decode cX4_has 0 = .ok (.iload_n 1, 1) := by decide +kernel
theorem dX4_has_1 : decode cX4_has 1 = .ok (.ifCond .lt 21, 3) := by decide +kernel
theorem dX4_has_4 : decode cX4_has 4 = .ok (.iload_n 1, 1) := by decide +kernel
theorem dX4_has_5 : decode cX4_has 5 = .ok (.aload_n 0, 1) := by decide +kernel
theorem dX4_has_6 : decode cX4_has 6 = .ok (.getfield 21, 3) := by decide +kernel
theorem dX4_has_9 : decode cX4_has 9 = .ok (.if_icmp .ge 13, 3) := by decide +kernel
theorem dX4_has_12 : decode cX4_has 12 = .ok (.iload_n 1, 1) := by decide +kernel
theorem dX4_has_13 : decode cX4_has 13 = .ok (.bipush 10, 2) := by decide +kernel
theorem dX4_has_15 : decode cX4_has 15 = .ok (.if_icmp .ge 7, 3) := by decide +kernel
theorem dX4_has_18 : decode cX4_has 18 = .ok (.iconst 1, 1) := by decide +kernel
theorem dX4_has_19 : decode cX4_has 19 = .ok (.goto 4, 3) := by decide +kernel
theorem dX4_has_22 : decode cX4_has 22 = .ok (.iconst 0, 1) := by decide +kernel
theorem dX4_has_23 : decode cX4_has 23 = .ok (.ireturn, 1) := by decide +kernel
theorem dX4_size_0 : decode cX4_size 0 = .ok (.aload_n 0, 1) := by decide +kernel
theorem dX4_size_1 : decode cX4_size 1 = .ok (.getfield 21, 3) := by decide +kernel
theorem dX4_size_4 : decode cX4_size 4 = .ok (.ireturn, 1) := by decide +kernel
theorem dX4_add_0 : decode cX4_add 0 = .ok (.aload_n 0, 1) := by decide +kernel
theorem dX4_add_1 : decode cX4_add 1 = .ok (.getfield 21, 3) := by decide +kernel
theorem dX4_add_4 : decode cX4_add 4 = .ok (.istore_n 2, 1) := by decide +kernel
theorem dX4_add_5 : decode cX4_add 5 = .ok (.iload_n 2, 1) := by decide +kernel
theorem dX4_add_6 : decode cX4_add 6 = .ok (.ifCond .lt 9, 3) := by decide +kernel
theorem dX4_add_9 : decode cX4_add 9 = .ok (.iload_n 2, 1) := by decide +kernel
theorem dX4_add_10 : decode cX4_add 10 = .ok (.bipush 10, 2) := by decide +kernel
theorem dX4_add_12 : decode cX4_add 12 = .ok (.if_icmp .lt 6, 3) := by decide +kernel
theorem dX4_add_15 : decode cX4_add 15 = .ok (.bipush (-4), 2) := by decide +kernel
theorem dX4_add_17 : decode cX4_add 17 = .ok (.ireturn, 1) := by decide +kernel
theorem dX4_add_18 : decode cX4_add 18 = .ok (.aload_n 0, 1) := by decide +kernel
theorem dX4_add_19 : decode cX4_add 19 = .ok (.getfield 9, 3) := by decide +kernel
theorem dX4_add_22 : decode cX4_add 22 = .ok (.iload_n 2, 1) := by decide +kernel
theorem dX4_add_23 : decode cX4_add 23 = .ok (.iload_n 1, 1) := by decide +kernel
theorem dX4_add_24 : decode cX4_add 24 = .ok (.iastore, 1) := by decide +kernel
theorem dX4_add_25 : decode cX4_add 25 = .ok (.aload_n 0, 1) := by decide +kernel
theorem dX4_add_26 : decode cX4_add 26 = .ok (.getfield 15, 3) := by decide +kernel
theorem dX4_add_29 : decode cX4_add 29 = .ok (.iload_n 2, 1) := by decide +kernel
theorem dX4_add_30 : decode cX4_add 30 = .ok (.iconst 0, 1) := by decide +kernel
theorem dX4_add_31 : decode cX4_add 31 = .ok (.iastore, 1) := by decide +kernel
theorem dX4_add_32 : decode cX4_add 32 = .ok (.iconst 0, 1) := by decide +kernel
theorem dX4_add_33 : decode cX4_add 33 = .ok (.istore_n 3, 1) := by decide +kernel
theorem dX4_add_34 : decode cX4_add 34 = .ok (.iload_n 3, 1) := by decide +kernel
theorem dX4_add_35 : decode cX4_add 35 = .ok (.bipush 12, 2) := by decide +kernel
theorem dX4_add_37 : decode cX4_add 37 = .ok (.if_icmp .ge 21, 3) := by decide +kernel
theorem dX4_add_40 : decode cX4_add 40 = .ok (.aload_n 0, 1) := by decide +kernel
theorem dX4_add_41 : decode cX4_add 41 = .ok (.getfield 18, 3) := by decide +kernel
theorem dX4_add_44 : decode cX4_add 44 = .ok (.iload_n 2, 1) := by decide +kernel
theorem dX4_add_45 : decode cX4_add 45 = .ok (.bipush 12, 2) := by decide +kernel
theorem dX4_add_47 : decode cX4_add 47 = .ok (.imul, 1) := by decide +kernel
theorem dX4_add_48 : decode cX4_add 48 = .ok (.iload_n 3, 1) := by decide +kernel
theorem dX4_add_49 : decode cX4_add 49 = .ok (.iadd, 1) := by decide +kernel
theorem dX4_add_50 : decode cX4_add 50 = .ok (.iconst 0, 1) := by decide +kernel
theorem dX4_add_51 : decode cX4_add 51 = .ok (.iastore, 1) := by decide +kernel
theorem dX4_add_52 : decode cX4_add 52 = .ok (.iinc 3 1, 3) := by decide +kernel
theorem dX4_add_55 : decode cX4_add 55 = .ok (.goto (-21), 3) := by decide +kernel
theorem dX4_add_58 : decode cX4_add 58 = .ok (.aload_n 0, 1) := by decide +kernel
theorem dX4_add_59 : decode cX4_add 59 = .ok (.dup, 1) := by decide +kernel
theorem dX4_add_60 : decode cX4_add 60 = .ok (.getfield 21, 3) := by decide +kernel
theorem dX4_add_63 : decode cX4_add 63 = .ok (.iconst 1, 1) := by decide +kernel
theorem dX4_add_64 : decode cX4_add 64 = .ok (.iadd, 1) := by decide +kernel
theorem dX4_add_65 : decode cX4_add 65 = .ok (.putfield 21, 3) := by decide +kernel
theorem dX4_add_68 : decode cX4_add 68 = .ok (.iload_n 2, 1) := by decide +kernel
theorem dX4_add_69 : decode cX4_add 69 = .ok (.ireturn, 1) := by decide +kernel
theorem dX4_parentOf_0 : decode cX4_parentOf 0 = .ok (.aload_n 0, 1) := by decide +kernel
theorem dX4_parentOf_1 : decode cX4_parentOf 1 = .ok (.iload_n 1, 1) := by decide +kernel
theorem dX4_parentOf_2 : decode cX4_parentOf 2 = .ok (.invokevirtual 34, 3) := by decide +kernel
theorem dX4_parentOf_5 : decode cX4_parentOf 5 = .ok (.ifCond .eq 12, 3) := by decide +kernel
theorem dX4_parentOf_8 : decode cX4_parentOf 8 = .ok (.aload_n 0, 1) := by decide +kernel
theorem dX4_parentOf_9 : decode cX4_parentOf 9 = .ok (.getfield 9, 3) := by decide +kernel
theorem dX4_parentOf_12 : decode cX4_parentOf 12 = .ok (.iload_n 1, 1) := by decide +kernel
theorem dX4_parentOf_13 : decode cX4_parentOf 13 = .ok (.iaload, 1) := by decide +kernel
theorem dX4_parentOf_14 : decode cX4_parentOf 14 = .ok (.goto 4, 3) := by decide +kernel
theorem dX4_parentOf_17 : decode cX4_parentOf 17 = .ok (.iconst (-1), 1) := by decide +kernel
theorem dX4_parentOf_18 : decode cX4_parentOf 18 = .ok (.ireturn, 1) := by decide +kernel
theorem dX4_revisionOf_0 : decode cX4_revisionOf 0 = .ok (.aload_n 0, 1) := by decide +kernel
theorem dX4_revisionOf_1 : decode cX4_revisionOf 1 = .ok (.iload_n 1, 1) := by decide +kernel
theorem dX4_revisionOf_2 : decode cX4_revisionOf 2 = .ok (.invokevirtual 34, 3) := by decide +kernel
theorem dX4_revisionOf_5 : decode cX4_revisionOf 5 = .ok (.ifCond .eq 12, 3) := by decide +kernel
theorem dX4_revisionOf_8 : decode cX4_revisionOf 8 = .ok (.aload_n 0, 1) := by decide +kernel
theorem dX4_revisionOf_9 : decode cX4_revisionOf 9 = .ok (.getfield 15, 3) := by decide +kernel
theorem dX4_revisionOf_12 : decode cX4_revisionOf 12 = .ok (.iload_n 1, 1) := by decide +kernel
theorem dX4_revisionOf_13 : decode cX4_revisionOf 13 = .ok (.iaload, 1) := by decide +kernel
theorem dX4_revisionOf_14 : decode cX4_revisionOf 14 = .ok (.goto 4, 3) := by decide +kernel
theorem dX4_revisionOf_17 : decode cX4_revisionOf 17 = .ok (.iconst (-1), 1) := by decide +kernel
theorem dX4_revisionOf_18 : decode cX4_revisionOf 18 = .ok (.ireturn, 1) := by decide +kernel
theorem dX4_drawnOf_0 : decode cX4_drawnOf 0 = .ok (.aload_n 0, 1) := by decide +kernel
theorem dX4_drawnOf_1 : decode cX4_drawnOf 1 = .ok (.iload_n 1, 1) := by decide +kernel
theorem dX4_drawnOf_2 : decode cX4_drawnOf 2 = .ok (.invokevirtual 34, 3) := by decide +kernel
theorem dX4_drawnOf_5 : decode cX4_drawnOf 5 = .ok (.ifCond .eq 24, 3) := by decide +kernel
theorem dX4_drawnOf_8 : decode cX4_drawnOf 8 = .ok (.iload_n 2, 1) := by decide +kernel
theorem dX4_drawnOf_9 : decode cX4_drawnOf 9 = .ok (.invokestatic 38, 3) := by decide +kernel
theorem dX4_drawnOf_12 : decode cX4_drawnOf 12 = .ok (.ifCond .eq 17, 3) := by decide +kernel
theorem dX4_drawnOf_15 : decode cX4_drawnOf 15 = .ok (.aload_n 0, 1) := by decide +kernel
theorem dX4_drawnOf_16 : decode cX4_drawnOf 16 = .ok (.getfield 18, 3) := by decide +kernel
theorem dX4_drawnOf_19 : decode cX4_drawnOf 19 = .ok (.iload_n 1, 1) := by decide +kernel
theorem dX4_drawnOf_20 : decode cX4_drawnOf 20 = .ok (.bipush 12, 2) := by decide +kernel
theorem dX4_drawnOf_22 : decode cX4_drawnOf 22 = .ok (.imul, 1) := by decide +kernel
theorem dX4_drawnOf_23 : decode cX4_drawnOf 23 = .ok (.iload_n 2, 1) := by decide +kernel
theorem dX4_drawnOf_24 : decode cX4_drawnOf 24 = .ok (.iadd, 1) := by decide +kernel
theorem dX4_drawnOf_25 : decode cX4_drawnOf 25 = .ok (.iaload, 1) := by decide +kernel
theorem dX4_drawnOf_26 : decode cX4_drawnOf 26 = .ok (.goto 4, 3) := by decide +kernel
theorem dX4_drawnOf_29 : decode cX4_drawnOf 29 = .ok (.iconst (-1), 1) := by decide +kernel
theorem dX4_drawnOf_30 : decode cX4_drawnOf 30 = .ok (.ireturn, 1) := by decide +kernel
theorem dX4_isToCheck_0 : decode cX4_isToCheck 0 = .ok (.aload_n 0, 1) := by decide +kernel
theorem dX4_isToCheck_1 : decode cX4_isToCheck 1 = .ok (.getfield 25, 3) := by decide +kernel
theorem dX4_isToCheck_4 : decode cX4_isToCheck 4 = .ok (.iload_n 1, 1) := by decide +kernel
theorem dX4_isToCheck_5 : decode cX4_isToCheck 5 = .ok (.invokestatic 41, 3) := by decide +kernel
theorem dX4_isToCheck_8 : decode cX4_isToCheck 8 = .ok (.ireturn, 1) := by decide +kernel
theorem dX4_toCheckCount_0 : decode cX4_toCheckCount 0 = .ok (.aload_n 0, 1) := by decide +kernel
theorem dX4_toCheckCount_1 : decode cX4_toCheckCount 1 = .ok (.getfield 25, 3) := by decide +kernel
theorem dX4_toCheckCount_4 : decode cX4_toCheckCount 4 = .ok (.invokestatic 45, 3) := by decide +kernel
theorem dX4_toCheckCount_7 : decode cX4_toCheckCount 7 = .ok (.ireturn, 1) := by decide +kernel
theorem dX4_markChecked_0 : decode cX4_markChecked 0 = .ok (.aload_n 0, 1) := by decide +kernel
theorem dX4_markChecked_1 : decode cX4_markChecked 1 = .ok (.dup, 1) := by decide +kernel
theorem dX4_markChecked_2 : decode cX4_markChecked 2 = .ok (.getfield 25, 3) := by decide +kernel
theorem dX4_markChecked_5 : decode cX4_markChecked 5 = .ok (.iconst 1, 1) := by decide +kernel
theorem dX4_markChecked_6 : decode cX4_markChecked 6 = .ok (.iload_n 1, 1) := by decide +kernel
theorem dX4_markChecked_7 : decode cX4_markChecked 7 = .ok (.ishl, 1) := by decide +kernel
theorem dX4_markChecked_8 : decode cX4_markChecked 8 = .ok (.iconst (-1), 1) := by decide +kernel
theorem dX4_markChecked_9 : decode cX4_markChecked 9 = .ok (.ixor, 1) := by decide +kernel
theorem dX4_markChecked_10 : decode cX4_markChecked 10 = .ok (.iand, 1) := by decide +kernel
theorem dX4_markChecked_11 : decode cX4_markChecked 11 = .ok (.putfield 25, 3) := by decide +kernel
theorem dX4_markChecked_14 : decode cX4_markChecked 14 = .ok (.return_, 1) := by decide +kernel
theorem dX4_drawAnew_0 : decode cX4_drawAnew 0 = .ok (.aload_n 0, 1) := by decide +kernel
theorem dX4_drawAnew_1 : decode cX4_drawAnew 1 = .ok (.iload_n 1, 1) := by decide +kernel
theorem dX4_drawAnew_2 : decode cX4_drawAnew 2 = .ok (.invokevirtual 34, 3) := by decide +kernel
theorem dX4_drawAnew_5 : decode cX4_drawAnew 5 = .ok (.ifCond .ne 4, 3) := by decide +kernel
theorem dX4_drawAnew_8 : decode cX4_drawAnew 8 = .ok (.return_, 1) := by decide +kernel
theorem dX4_drawAnew_9 : decode cX4_drawAnew 9 = .ok (.aload_n 0, 1) := by decide +kernel
theorem dX4_drawAnew_10 : decode cX4_drawAnew 10 = .ok (.getfield 15, 3) := by decide +kernel
theorem dX4_drawAnew_13 : decode cX4_drawAnew 13 = .ok (.iload_n 1, 1) := by decide +kernel
theorem dX4_drawAnew_14 : decode cX4_drawAnew 14 = .ok (.dup2, 1) := by decide +kernel
theorem dX4_drawAnew_15 : decode cX4_drawAnew 15 = .ok (.iaload, 1) := by decide +kernel
theorem dX4_drawAnew_16 : decode cX4_drawAnew 16 = .ok (.iconst 1, 1) := by decide +kernel
theorem dX4_drawAnew_17 : decode cX4_drawAnew 17 = .ok (.iadd, 1) := by decide +kernel
theorem dX4_drawAnew_18 : decode cX4_drawAnew 18 = .ok (.iastore, 1) := by decide +kernel
theorem dX4_drawAnew_19 : decode cX4_drawAnew 19 = .ok (.iconst 0, 1) := by decide +kernel
theorem dX4_drawAnew_20 : decode cX4_drawAnew 20 = .ok (.istore_n 3, 1) := by decide +kernel
theorem dX4_drawAnew_21 : decode cX4_drawAnew 21 = .ok (.iload_n 3, 1) := by decide +kernel
theorem dX4_drawAnew_22 : decode cX4_drawAnew 22 = .ok (.bipush 12, 2) := by decide +kernel
theorem dX4_drawAnew_24 : decode cX4_drawAnew 24 = .ok (.if_icmp .ge 34, 3) := by decide +kernel
theorem dX4_drawAnew_27 : decode cX4_drawAnew 27 = .ok (.iload_n 2, 1) := by decide +kernel
theorem dX4_drawAnew_28 : decode cX4_drawAnew 28 = .ok (.iload_n 3, 1) := by decide +kernel
theorem dX4_drawAnew_29 : decode cX4_drawAnew 29 = .ok (.invokestatic 41, 3) := by decide +kernel
theorem dX4_drawAnew_32 : decode cX4_drawAnew 32 = .ok (.ifCond .eq 20, 3) := by decide +kernel
theorem dX4_drawAnew_35 : decode cX4_drawAnew 35 = .ok (.aload_n 0, 1) := by decide +kernel
theorem dX4_drawAnew_36 : decode cX4_drawAnew 36 = .ok (.getfield 18, 3) := by decide +kernel
theorem dX4_drawAnew_39 : decode cX4_drawAnew 39 = .ok (.iload_n 1, 1) := by decide +kernel
theorem dX4_drawAnew_40 : decode cX4_drawAnew 40 = .ok (.bipush 12, 2) := by decide +kernel
theorem dX4_drawAnew_42 : decode cX4_drawAnew 42 = .ok (.imul, 1) := by decide +kernel
theorem dX4_drawAnew_43 : decode cX4_drawAnew 43 = .ok (.iload_n 3, 1) := by decide +kernel
theorem dX4_drawAnew_44 : decode cX4_drawAnew 44 = .ok (.iadd, 1) := by decide +kernel
theorem dX4_drawAnew_45 : decode cX4_drawAnew 45 = .ok (.aload_n 0, 1) := by decide +kernel
theorem dX4_drawAnew_46 : decode cX4_drawAnew 46 = .ok (.getfield 15, 3) := by decide +kernel
theorem dX4_drawAnew_49 : decode cX4_drawAnew 49 = .ok (.iload_n 1, 1) := by decide +kernel
theorem dX4_drawAnew_50 : decode cX4_drawAnew 50 = .ok (.iaload, 1) := by decide +kernel
theorem dX4_drawAnew_51 : decode cX4_drawAnew 51 = .ok (.iastore, 1) := by decide +kernel
theorem dX4_drawAnew_52 : decode cX4_drawAnew 52 = .ok (.iinc 3 1, 3) := by decide +kernel
theorem dX4_drawAnew_55 : decode cX4_drawAnew 55 = .ok (.goto (-34), 3) := by decide +kernel
theorem dX4_drawAnew_58 : decode cX4_drawAnew 58 = .ok (.aload_n 0, 1) := by decide +kernel
theorem dX4_drawAnew_59 : decode cX4_drawAnew 59 = .ok (.dup, 1) := by decide +kernel
theorem dX4_drawAnew_60 : decode cX4_drawAnew 60 = .ok (.getfield 25, 3) := by decide +kernel
theorem dX4_drawAnew_63 : decode cX4_drawAnew 63 = .ok (.aload_n 0, 1) := by decide +kernel
theorem dX4_drawAnew_64 : decode cX4_drawAnew 64 = .ok (.iload_n 1, 1) := by decide +kernel
theorem dX4_drawAnew_65 : decode cX4_drawAnew 65 = .ok (.invokevirtual 51, 3) := by decide +kernel
theorem dX4_drawAnew_68 : decode cX4_drawAnew 68 = .ok (.ior, 1) := by decide +kernel
theorem dX4_drawAnew_69 : decode cX4_drawAnew 69 = .ok (.putfield 25, 3) := by decide +kernel
theorem dX4_drawAnew_72 : decode cX4_drawAnew 72 = .ok (.aload_n 0, 1) := by decide +kernel
theorem dX4_drawAnew_73 : decode cX4_drawAnew 73 = .ok (.iload_n 1, 1) := by decide +kernel
theorem dX4_drawAnew_74 : decode cX4_drawAnew 74 = .ok (.invokevirtual 54, 3) := by decide +kernel
theorem dX4_drawAnew_77 : decode cX4_drawAnew 77 = .ok (.return_, 1) := by decide +kernel
theorem dX4_fieldsDrawn_0 : decode cX4_fieldsDrawn 0 = .ok (.iconst 0, 1) := by decide +kernel
theorem dX4_fieldsDrawn_1 : decode cX4_fieldsDrawn 1 = .ok (.istore 4, 2) := by decide +kernel
theorem dX4_fieldsDrawn_3 : decode cX4_fieldsDrawn 3 = .ok (.iconst 0, 1) := by decide +kernel
theorem dX4_fieldsDrawn_4 : decode cX4_fieldsDrawn 4 = .ok (.istore 5, 2) := by decide +kernel
theorem dX4_fieldsDrawn_6 : decode cX4_fieldsDrawn 6 = .ok (.iload 5, 2) := by decide +kernel
theorem dX4_fieldsDrawn_8 : decode cX4_fieldsDrawn 8 = .ok (.bipush 12, 2) := by decide +kernel
theorem dX4_fieldsDrawn_10 : decode cX4_fieldsDrawn 10 = .ok (.if_icmp .ge 39, 3) := by decide +kernel
theorem dX4_fieldsDrawn_13 : decode cX4_fieldsDrawn 13 = .ok (.aload_n 0, 1) := by decide +kernel
theorem dX4_fieldsDrawn_14 : decode cX4_fieldsDrawn 14 = .ok (.iload_n 1, 1) := by decide +kernel
theorem dX4_fieldsDrawn_15 : decode cX4_fieldsDrawn 15 = .ok (.iload 5, 2) := by decide +kernel
theorem dX4_fieldsDrawn_17 : decode cX4_fieldsDrawn 17 = .ok (.invokevirtual 58, 3) := by decide +kernel
theorem dX4_fieldsDrawn_20 : decode cX4_fieldsDrawn 20 = .ok (.istore 6, 2) := by decide +kernel
theorem dX4_fieldsDrawn_22 : decode cX4_fieldsDrawn 22 = .ok (.iload 6, 2) := by decide +kernel
theorem dX4_fieldsDrawn_24 : decode cX4_fieldsDrawn 24 = .ok (.iload_n 2, 1) := by decide +kernel
theorem dX4_fieldsDrawn_25 : decode cX4_fieldsDrawn 25 = .ok (.if_icmp .lt 18, 3) := by decide +kernel
theorem dX4_fieldsDrawn_28 : decode cX4_fieldsDrawn 28 = .ok (.iload 6, 2) := by decide +kernel
theorem dX4_fieldsDrawn_30 : decode cX4_fieldsDrawn 30 = .ok (.iload_n 3, 1) := by decide +kernel
theorem dX4_fieldsDrawn_31 : decode cX4_fieldsDrawn 31 = .ok (.if_icmp .gt 12, 3) := by decide +kernel
theorem dX4_fieldsDrawn_34 : decode cX4_fieldsDrawn 34 = .ok (.iload 4, 2) := by decide +kernel
theorem dX4_fieldsDrawn_36 : decode cX4_fieldsDrawn 36 = .ok (.iconst 1, 1) := by decide +kernel
theorem dX4_fieldsDrawn_37 : decode cX4_fieldsDrawn 37 = .ok (.iload 5, 2) := by decide +kernel
theorem dX4_fieldsDrawn_39 : decode cX4_fieldsDrawn 39 = .ok (.ishl, 1) := by decide +kernel
theorem dX4_fieldsDrawn_40 : decode cX4_fieldsDrawn 40 = .ok (.ior, 1) := by decide +kernel
theorem dX4_fieldsDrawn_41 : decode cX4_fieldsDrawn 41 = .ok (.istore 4, 2) := by decide +kernel
theorem dX4_fieldsDrawn_43 : decode cX4_fieldsDrawn 43 = .ok (.iinc 5 1, 3) := by decide +kernel
theorem dX4_fieldsDrawn_46 : decode cX4_fieldsDrawn 46 = .ok (.goto (-40), 3) := by decide +kernel
theorem dX4_fieldsDrawn_49 : decode cX4_fieldsDrawn 49 = .ok (.iload 4, 2) := by decide +kernel
theorem dX4_fieldsDrawn_51 : decode cX4_fieldsDrawn 51 = .ok (.ireturn, 1) := by decide +kernel
theorem dX4_above_0 : decode cX4_above 0 = .ok (.iconst 0, 1) := by decide +kernel
theorem dX4_above_1 : decode cX4_above 1 = .ok (.istore_n 2, 1) := by decide +kernel
theorem dX4_above_2 : decode cX4_above 2 = .ok (.aload_n 0, 1) := by decide +kernel
theorem dX4_above_3 : decode cX4_above 3 = .ok (.iload_n 1, 1) := by decide +kernel
theorem dX4_above_4 : decode cX4_above 4 = .ok (.invokevirtual 62, 3) := by decide +kernel
theorem dX4_above_7 : decode cX4_above 7 = .ok (.istore_n 3, 1) := by decide +kernel
theorem dX4_above_8 : decode cX4_above 8 = .ok (.iconst 0, 1) := by decide +kernel
theorem dX4_above_9 : decode cX4_above 9 = .ok (.istore 4, 2) := by decide +kernel
theorem dX4_above_11 : decode cX4_above 11 = .ok (.iload 4, 2) := by decide +kernel
theorem dX4_above_13 : decode cX4_above 13 = .ok (.bipush 10, 2) := by decide +kernel
theorem dX4_above_15 : decode cX4_above 15 = .ok (.if_icmp .ge 29, 3) := by decide +kernel
theorem dX4_above_18 : decode cX4_above 18 = .ok (.aload_n 0, 1) := by decide +kernel
theorem dX4_above_19 : decode cX4_above 19 = .ok (.iload_n 3, 1) := by decide +kernel
theorem dX4_above_20 : decode cX4_above 20 = .ok (.invokevirtual 34, 3) := by decide +kernel
theorem dX4_above_23 : decode cX4_above 23 = .ok (.ifCond .eq 21, 3) := by decide +kernel
theorem dX4_above_26 : decode cX4_above 26 = .ok (.iload_n 2, 1) := by decide +kernel
theorem dX4_above_27 : decode cX4_above 27 = .ok (.iconst 1, 1) := by decide +kernel
theorem dX4_above_28 : decode cX4_above 28 = .ok (.iload_n 3, 1) := by decide +kernel
theorem dX4_above_29 : decode cX4_above 29 = .ok (.ishl, 1) := by decide +kernel
theorem dX4_above_30 : decode cX4_above 30 = .ok (.ior, 1) := by decide +kernel
theorem dX4_above_31 : decode cX4_above 31 = .ok (.istore_n 2, 1) := by decide +kernel
theorem dX4_above_32 : decode cX4_above 32 = .ok (.aload_n 0, 1) := by decide +kernel
theorem dX4_above_33 : decode cX4_above 33 = .ok (.iload_n 3, 1) := by decide +kernel
theorem dX4_above_34 : decode cX4_above 34 = .ok (.invokevirtual 62, 3) := by decide +kernel
theorem dX4_above_37 : decode cX4_above 37 = .ok (.istore_n 3, 1) := by decide +kernel
theorem dX4_above_38 : decode cX4_above 38 = .ok (.iinc 4 1, 3) := by decide +kernel
theorem dX4_above_41 : decode cX4_above 41 = .ok (.goto (-30), 3) := by decide +kernel
theorem dX4_above_44 : decode cX4_above 44 = .ok (.iload_n 2, 1) := by decide +kernel
theorem dX4_above_45 : decode cX4_above 45 = .ok (.ireturn, 1) := by decide +kernel
theorem dX4_aboveNotToCheck_0 : decode cX4_aboveNotToCheck 0 = .ok (.aload_n 0, 1) := by decide +kernel
theorem dX4_aboveNotToCheck_1 : decode cX4_aboveNotToCheck 1 = .ok (.iload_n 1, 1) := by decide +kernel
theorem dX4_aboveNotToCheck_2 : decode cX4_aboveNotToCheck 2 = .ok (.invokevirtual 51, 3) := by decide +kernel
theorem dX4_aboveNotToCheck_5 : decode cX4_aboveNotToCheck 5 = .ok (.aload_n 0, 1) := by decide +kernel
theorem dX4_aboveNotToCheck_6 : decode cX4_aboveNotToCheck 6 = .ok (.getfield 25, 3) := by decide +kernel
theorem dX4_aboveNotToCheck_9 : decode cX4_aboveNotToCheck 9 = .ok (.iconst (-1), 1) := by decide +kernel
theorem dX4_aboveNotToCheck_10 : decode cX4_aboveNotToCheck 10 = .ok (.ixor, 1) := by decide +kernel
theorem dX4_aboveNotToCheck_11 : decode cX4_aboveNotToCheck 11 = .ok (.iand, 1) := by decide +kernel
theorem dX4_aboveNotToCheck_12 : decode cX4_aboveNotToCheck 12 = .ok (.invokestatic 45, 3) := by decide +kernel
theorem dX4_aboveNotToCheck_15 : decode cX4_aboveNotToCheck 15 = .ok (.ireturn, 1) := by decide +kernel
theorem dX4_countUnder_0 : decode cX4_countUnder 0 = .ok (.iconst 0, 1) := by decide +kernel
theorem dX4_countUnder_1 : decode cX4_countUnder 1 = .ok (.istore_n 2, 1) := by decide +kernel
theorem dX4_countUnder_2 : decode cX4_countUnder 2 = .ok (.iconst 0, 1) := by decide +kernel
theorem dX4_countUnder_3 : decode cX4_countUnder 3 = .ok (.istore_n 3, 1) := by decide +kernel
theorem dX4_countUnder_4 : decode cX4_countUnder 4 = .ok (.iload_n 3, 1) := by decide +kernel
theorem dX4_countUnder_5 : decode cX4_countUnder 5 = .ok (.aload_n 0, 1) := by decide +kernel
theorem dX4_countUnder_6 : decode cX4_countUnder 6 = .ok (.getfield 21, 3) := by decide +kernel
theorem dX4_countUnder_9 : decode cX4_countUnder 9 = .ok (.if_icmp .ge 24, 3) := by decide +kernel
theorem dX4_countUnder_12 : decode cX4_countUnder 12 = .ok (.aload_n 0, 1) := by decide +kernel
theorem dX4_countUnder_13 : decode cX4_countUnder 13 = .ok (.iload_n 3, 1) := by decide +kernel
theorem dX4_countUnder_14 : decode cX4_countUnder 14 = .ok (.invokevirtual 51, 3) := by decide +kernel
theorem dX4_countUnder_17 : decode cX4_countUnder 17 = .ok (.iload_n 1, 1) := by decide +kernel
theorem dX4_countUnder_18 : decode cX4_countUnder 18 = .ok (.invokestatic 41, 3) := by decide +kernel
theorem dX4_countUnder_21 : decode cX4_countUnder 21 = .ok (.ifCond .eq 6, 3) := by decide +kernel
theorem dX4_countUnder_24 : decode cX4_countUnder 24 = .ok (.iinc 2 1, 3) := by decide +kernel
theorem dX4_countUnder_27 : decode cX4_countUnder 27 = .ok (.iinc 3 1, 3) := by decide +kernel
theorem dX4_countUnder_30 : decode cX4_countUnder 30 = .ok (.goto (-26), 3) := by decide +kernel
theorem dX4_countUnder_33 : decode cX4_countUnder 33 = .ok (.iload_n 2, 1) := by decide +kernel
theorem dX4_countUnder_34 : decode cX4_countUnder 34 = .ok (.ireturn, 1) := by decide +kernel
theorem dX4_heightOf_0 : decode cX4_heightOf 0 = .ok (.aload_n 0, 1) := by decide +kernel
theorem dX4_heightOf_1 : decode cX4_heightOf 1 = .ok (.iload_n 1, 1) := by decide +kernel
theorem dX4_heightOf_2 : decode cX4_heightOf 2 = .ok (.invokevirtual 51, 3) := by decide +kernel
theorem dX4_heightOf_5 : decode cX4_heightOf 5 = .ok (.invokestatic 45, 3) := by decide +kernel
theorem dX4_heightOf_8 : decode cX4_heightOf 8 = .ok (.istore_n 2, 1) := by decide +kernel
theorem dX4_heightOf_9 : decode cX4_heightOf 9 = .ok (.iconst 1, 1) := by decide +kernel
theorem dX4_heightOf_10 : decode cX4_heightOf 10 = .ok (.istore_n 3, 1) := by decide +kernel
theorem dX4_heightOf_11 : decode cX4_heightOf 11 = .ok (.iconst 0, 1) := by decide +kernel
theorem dX4_heightOf_12 : decode cX4_heightOf 12 = .ok (.istore 4, 2) := by decide +kernel
theorem dX4_heightOf_14 : decode cX4_heightOf 14 = .ok (.iload 4, 2) := by decide +kernel
theorem dX4_heightOf_16 : decode cX4_heightOf 16 = .ok (.aload_n 0, 1) := by decide +kernel
theorem dX4_heightOf_17 : decode cX4_heightOf 17 = .ok (.getfield 21, 3) := by decide +kernel
theorem dX4_heightOf_20 : decode cX4_heightOf 20 = .ok (.if_icmp .ge 40, 3) := by decide +kernel
theorem dX4_heightOf_23 : decode cX4_heightOf 23 = .ok (.aload_n 0, 1) := by decide +kernel
theorem dX4_heightOf_24 : decode cX4_heightOf 24 = .ok (.iload 4, 2) := by decide +kernel
theorem dX4_heightOf_26 : decode cX4_heightOf 26 = .ok (.invokevirtual 51, 3) := by decide +kernel
theorem dX4_heightOf_29 : decode cX4_heightOf 29 = .ok (.istore 5, 2) := by decide +kernel
theorem dX4_heightOf_31 : decode cX4_heightOf 31 = .ok (.iload 5, 2) := by decide +kernel
theorem dX4_heightOf_33 : decode cX4_heightOf 33 = .ok (.iload_n 1, 1) := by decide +kernel
theorem dX4_heightOf_34 : decode cX4_heightOf 34 = .ok (.invokestatic 41, 3) := by decide +kernel
theorem dX4_heightOf_37 : decode cX4_heightOf 37 = .ok (.ifCond .eq 17, 3) := by decide +kernel
theorem dX4_heightOf_40 : decode cX4_heightOf 40 = .ok (.iload_n 3, 1) := by decide +kernel
theorem dX4_heightOf_41 : decode cX4_heightOf 41 = .ok (.iload 5, 2) := by decide +kernel
theorem dX4_heightOf_43 : decode cX4_heightOf 43 = .ok (.invokestatic 45, 3) := by decide +kernel
theorem dX4_heightOf_46 : decode cX4_heightOf 46 = .ok (.iload_n 2, 1) := by decide +kernel
theorem dX4_heightOf_47 : decode cX4_heightOf 47 = .ok (.isub, 1) := by decide +kernel
theorem dX4_heightOf_48 : decode cX4_heightOf 48 = .ok (.iconst 1, 1) := by decide +kernel
theorem dX4_heightOf_49 : decode cX4_heightOf 49 = .ok (.iadd, 1) := by decide +kernel
theorem dX4_heightOf_50 : decode cX4_heightOf 50 = .ok (.invokestatic 65, 3) := by decide +kernel
theorem dX4_heightOf_53 : decode cX4_heightOf 53 = .ok (.istore_n 3, 1) := by decide +kernel
theorem dX4_heightOf_54 : decode cX4_heightOf 54 = .ok (.iinc 4 1, 3) := by decide +kernel
theorem dX4_heightOf_57 : decode cX4_heightOf 57 = .ok (.goto (-43), 3) := by decide +kernel
theorem dX4_heightOf_60 : decode cX4_heightOf 60 = .ok (.iload_n 3, 1) := by decide +kernel
theorem dX4_heightOf_61 : decode cX4_heightOf 61 = .ok (.ireturn, 1) := by decide +kernel
theorem dX4_lowestOverBoth_0 : decode cX4_lowestOverBoth 0 = .ok (.aload_n 0, 1) := by decide +kernel
theorem dX4_lowestOverBoth_1 : decode cX4_lowestOverBoth 1 = .ok (.iload_n 1, 1) := by decide +kernel
theorem dX4_lowestOverBoth_2 : decode cX4_lowestOverBoth 2 = .ok (.invokevirtual 51, 3) := by decide +kernel
theorem dX4_lowestOverBoth_5 : decode cX4_lowestOverBoth 5 = .ok (.iconst 1, 1) := by decide +kernel
theorem dX4_lowestOverBoth_6 : decode cX4_lowestOverBoth 6 = .ok (.iload_n 1, 1) := by decide +kernel
theorem dX4_lowestOverBoth_7 : decode cX4_lowestOverBoth 7 = .ok (.ishl, 1) := by decide +kernel
theorem dX4_lowestOverBoth_8 : decode cX4_lowestOverBoth 8 = .ok (.ior, 1) := by decide +kernel
theorem dX4_lowestOverBoth_9 : decode cX4_lowestOverBoth 9 = .ok (.aload_n 0, 1) := by decide +kernel
theorem dX4_lowestOverBoth_10 : decode cX4_lowestOverBoth 10 = .ok (.iload_n 2, 1) := by decide +kernel
theorem dX4_lowestOverBoth_11 : decode cX4_lowestOverBoth 11 = .ok (.invokevirtual 51, 3) := by decide +kernel
theorem dX4_lowestOverBoth_14 : decode cX4_lowestOverBoth 14 = .ok (.iconst 1, 1) := by decide +kernel
theorem dX4_lowestOverBoth_15 : decode cX4_lowestOverBoth 15 = .ok (.iload_n 2, 1) := by decide +kernel
theorem dX4_lowestOverBoth_16 : decode cX4_lowestOverBoth 16 = .ok (.ishl, 1) := by decide +kernel
theorem dX4_lowestOverBoth_17 : decode cX4_lowestOverBoth 17 = .ok (.ior, 1) := by decide +kernel
theorem dX4_lowestOverBoth_18 : decode cX4_lowestOverBoth 18 = .ok (.iand, 1) := by decide +kernel
theorem dX4_lowestOverBoth_19 : decode cX4_lowestOverBoth 19 = .ok (.istore_n 3, 1) := by decide +kernel
theorem dX4_lowestOverBoth_20 : decode cX4_lowestOverBoth 20 = .ok (.bipush 9, 2) := by decide +kernel
theorem dX4_lowestOverBoth_22 : decode cX4_lowestOverBoth 22 = .ok (.istore 4, 2) := by decide +kernel
theorem dX4_lowestOverBoth_24 : decode cX4_lowestOverBoth 24 = .ok (.iload 4, 2) := by decide +kernel
theorem dX4_lowestOverBoth_26 : decode cX4_lowestOverBoth 26 = .ok (.ifCond .lt 21, 3) := by decide +kernel
theorem dX4_lowestOverBoth_29 : decode cX4_lowestOverBoth 29 = .ok (.iload_n 3, 1) := by decide +kernel
theorem dX4_lowestOverBoth_30 : decode cX4_lowestOverBoth 30 = .ok (.iload 4, 2) := by decide +kernel
theorem dX4_lowestOverBoth_32 : decode cX4_lowestOverBoth 32 = .ok (.invokestatic 41, 3) := by decide +kernel
theorem dX4_lowestOverBoth_35 : decode cX4_lowestOverBoth 35 = .ok (.ifCond .eq 6, 3) := by decide +kernel
theorem dX4_lowestOverBoth_38 : decode cX4_lowestOverBoth 38 = .ok (.iload 4, 2) := by decide +kernel
theorem dX4_lowestOverBoth_40 : decode cX4_lowestOverBoth 40 = .ok (.ireturn, 1) := by decide +kernel
theorem dX4_lowestOverBoth_41 : decode cX4_lowestOverBoth 41 = .ok (.iinc 4 (-1), 3) := by decide +kernel
theorem dX4_lowestOverBoth_44 : decode cX4_lowestOverBoth 44 = .ok (.goto (-20), 3) := by decide +kernel
theorem dX4_lowestOverBoth_47 : decode cX4_lowestOverBoth 47 = .ok (.iconst (-1), 1) := by decide +kernel
theorem dX4_lowestOverBoth_48 : decode cX4_lowestOverBoth 48 = .ok (.ireturn, 1) := by decide +kernel
theorem dX6_init_0 : decode cX6_init 0 = .ok (.aload_n 0, 1) := by decide +kernel
theorem dX6_init_1 : decode cX6_init 1 = .ok (.invokespecial 3, 3) := by decide +kernel
theorem dX6_init_4 : decode cX6_init 4 = .ok (.aload_n 0, 1) := by decide +kernel
theorem dX6_init_5 : decode cX6_init 5 = .ok (.bipush 30, 2) := by decide +kernel
theorem dX6_init_7 : decode cX6_init 7 = .ok (.newarray .int, 2) := by decide +kernel
theorem dX6_init_9 : decode cX6_init 9 = .ok (.putfield 9, 3) := by decide +kernel
theorem dX6_init_12 : decode cX6_init 12 = .ok (.aload_n 0, 1) := by decide +kernel
theorem dX6_init_13 : decode cX6_init 13 = .ok (.bipush 30, 2) := by decide +kernel
theorem dX6_init_15 : decode cX6_init 15 = .ok (.newarray .int, 2) := by decide +kernel
theorem dX6_init_17 : decode cX6_init 17 = .ok (.putfield 15, 3) := by decide +kernel
theorem dX6_init_20 : decode cX6_init 20 = .ok (.aload_n 0, 1) := by decide +kernel
theorem dX6_init_21 : decode cX6_init 21 = .ok (.bipush 30, 2) := by decide +kernel
theorem dX6_init_23 : decode cX6_init 23 = .ok (.newarray .int, 2) := by decide +kernel
theorem dX6_init_25 : decode cX6_init 25 = .ok (.putfield 18, 3) := by decide +kernel
theorem dX6_init_28 : decode cX6_init 28 = .ok (.aload_n 0, 1) := by decide +kernel
theorem dX6_init_29 : decode cX6_init 29 = .ok (.bipush 30, 2) := by decide +kernel
theorem dX6_init_31 : decode cX6_init 31 = .ok (.newarray .int, 2) := by decide +kernel
theorem dX6_init_33 : decode cX6_init 33 = .ok (.putfield 21, 3) := by decide +kernel
theorem dX6_init_36 : decode cX6_init 36 = .ok (.return_, 1) := by decide +kernel
theorem dX6_clear_0 : decode cX6_clear 0 = .ok (.aload_n 0, 1) := by decide +kernel
theorem dX6_clear_1 : decode cX6_clear 1 = .ok (.iconst 0, 1) := by decide +kernel
theorem dX6_clear_2 : decode cX6_clear 2 = .ok (.putfield 24, 3) := by decide +kernel
theorem dX6_clear_5 : decode cX6_clear 5 = .ok (.return_, 1) := by decide +kernel
theorem dX6_copyFrom_0 : decode cX6_copyFrom 0 = .ok (.aload_n 0, 1) := by decide +kernel
theorem dX6_copyFrom_1 : decode cX6_copyFrom 1 = .ok (.aload_n 1, 1) := by decide +kernel
theorem dX6_copyFrom_2 : decode cX6_copyFrom 2 = .ok (.getfield 24, 3) := by decide +kernel
theorem dX6_copyFrom_5 : decode cX6_copyFrom 5 = .ok (.putfield 24, 3) := by decide +kernel
theorem dX6_copyFrom_8 : decode cX6_copyFrom 8 = .ok (.aload_n 1, 1) := by decide +kernel
theorem dX6_copyFrom_9 : decode cX6_copyFrom 9 = .ok (.getfield 9, 3) := by decide +kernel
theorem dX6_copyFrom_12 : decode cX6_copyFrom 12 = .ok (.iconst 0, 1) := by decide +kernel
theorem dX6_copyFrom_13 : decode cX6_copyFrom 13 = .ok (.aload_n 0, 1) := by decide +kernel
theorem dX6_copyFrom_14 : decode cX6_copyFrom 14 = .ok (.getfield 9, 3) := by decide +kernel
theorem dX6_copyFrom_17 : decode cX6_copyFrom 17 = .ok (.iconst 0, 1) := by decide +kernel
theorem dX6_copyFrom_18 : decode cX6_copyFrom 18 = .ok (.bipush 30, 2) := by decide +kernel
theorem dX6_copyFrom_20 : decode cX6_copyFrom 20 = .ok (.invokestatic 28, 3) := by decide +kernel
theorem dX6_copyFrom_23 : decode cX6_copyFrom 23 = .ok (.aload_n 1, 1) := by decide +kernel
theorem dX6_copyFrom_24 : decode cX6_copyFrom 24 = .ok (.getfield 15, 3) := by decide +kernel
theorem dX6_copyFrom_27 : decode cX6_copyFrom 27 = .ok (.iconst 0, 1) := by decide +kernel
theorem dX6_copyFrom_28 : decode cX6_copyFrom 28 = .ok (.aload_n 0, 1) := by decide +kernel
theorem dX6_copyFrom_29 : decode cX6_copyFrom 29 = .ok (.getfield 15, 3) := by decide +kernel
theorem dX6_copyFrom_32 : decode cX6_copyFrom 32 = .ok (.iconst 0, 1) := by decide +kernel
theorem dX6_copyFrom_33 : decode cX6_copyFrom 33 = .ok (.bipush 30, 2) := by decide +kernel
theorem dX6_copyFrom_35 : decode cX6_copyFrom 35 = .ok (.invokestatic 28, 3) := by decide +kernel
theorem dX6_copyFrom_38 : decode cX6_copyFrom 38 = .ok (.aload_n 1, 1) := by decide +kernel
theorem dX6_copyFrom_39 : decode cX6_copyFrom 39 = .ok (.getfield 18, 3) := by decide +kernel
theorem dX6_copyFrom_42 : decode cX6_copyFrom 42 = .ok (.iconst 0, 1) := by decide +kernel
theorem dX6_copyFrom_43 : decode cX6_copyFrom 43 = .ok (.aload_n 0, 1) := by decide +kernel
theorem dX6_copyFrom_44 : decode cX6_copyFrom 44 = .ok (.getfield 18, 3) := by decide +kernel
theorem dX6_copyFrom_47 : decode cX6_copyFrom 47 = .ok (.iconst 0, 1) := by decide +kernel
theorem dX6_copyFrom_48 : decode cX6_copyFrom 48 = .ok (.bipush 30, 2) := by decide +kernel
theorem dX6_copyFrom_50 : decode cX6_copyFrom 50 = .ok (.invokestatic 28, 3) := by decide +kernel
theorem dX6_copyFrom_53 : decode cX6_copyFrom 53 = .ok (.aload_n 1, 1) := by decide +kernel
theorem dX6_copyFrom_54 : decode cX6_copyFrom 54 = .ok (.getfield 21, 3) := by decide +kernel
theorem dX6_copyFrom_57 : decode cX6_copyFrom 57 = .ok (.iconst 0, 1) := by decide +kernel
theorem dX6_copyFrom_58 : decode cX6_copyFrom 58 = .ok (.aload_n 0, 1) := by decide +kernel
theorem dX6_copyFrom_59 : decode cX6_copyFrom 59 = .ok (.getfield 21, 3) := by decide +kernel
theorem dX6_copyFrom_62 : decode cX6_copyFrom 62 = .ok (.iconst 0, 1) := by decide +kernel
theorem dX6_copyFrom_63 : decode cX6_copyFrom 63 = .ok (.bipush 30, 2) := by decide +kernel
theorem dX6_copyFrom_65 : decode cX6_copyFrom 65 = .ok (.invokestatic 28, 3) := by decide +kernel
theorem dX6_copyFrom_68 : decode cX6_copyFrom 68 = .ok (.return_, 1) := by decide +kernel
theorem dX6_has_0 : decode cX6_has 0 = .ok (.iload_n 1, 1) := by decide +kernel
theorem dX6_has_1 : decode cX6_has 1 = .ok (.ifCond .lt 21, 3) := by decide +kernel
theorem dX6_has_4 : decode cX6_has 4 = .ok (.iload_n 1, 1) := by decide +kernel
theorem dX6_has_5 : decode cX6_has 5 = .ok (.aload_n 0, 1) := by decide +kernel
theorem dX6_has_6 : decode cX6_has 6 = .ok (.getfield 24, 3) := by decide +kernel
theorem dX6_has_9 : decode cX6_has 9 = .ok (.if_icmp .ge 13, 3) := by decide +kernel
theorem dX6_has_12 : decode cX6_has 12 = .ok (.iload_n 1, 1) := by decide +kernel
theorem dX6_has_13 : decode cX6_has 13 = .ok (.bipush 30, 2) := by decide +kernel
theorem dX6_has_15 : decode cX6_has 15 = .ok (.if_icmp .ge 7, 3) := by decide +kernel
theorem dX6_has_18 : decode cX6_has 18 = .ok (.iconst 1, 1) := by decide +kernel
theorem dX6_has_19 : decode cX6_has 19 = .ok (.goto 4, 3) := by decide +kernel
theorem dX6_has_22 : decode cX6_has 22 = .ok (.iconst 0, 1) := by decide +kernel
theorem dX6_has_23 : decode cX6_has 23 = .ok (.ireturn, 1) := by decide +kernel
theorem dX6_size_0 : decode cX6_size 0 = .ok (.aload_n 0, 1) := by decide +kernel
theorem dX6_size_1 : decode cX6_size 1 = .ok (.getfield 24, 3) := by decide +kernel
theorem dX6_size_4 : decode cX6_size 4 = .ok (.ireturn, 1) := by decide +kernel
theorem dX6_add_0 : decode cX6_add 0 = .ok (.aload_n 0, 1) := by decide +kernel
theorem dX6_add_1 : decode cX6_add 1 = .ok (.getfield 24, 3) := by decide +kernel
theorem dX6_add_4 : decode cX6_add 4 = .ok (.istore 5, 2) := by decide +kernel
theorem dX6_add_6 : decode cX6_add 6 = .ok (.iload 5, 2) := by decide +kernel
theorem dX6_add_8 : decode cX6_add 8 = .ok (.ifCond .lt 10, 3) := by decide +kernel
theorem dX6_add_11 : decode cX6_add 11 = .ok (.iload 5, 2) := by decide +kernel
theorem dX6_add_13 : decode cX6_add 13 = .ok (.bipush 30, 2) := by decide +kernel
theorem dX6_add_15 : decode cX6_add 15 = .ok (.if_icmp .lt 6, 3) := by decide +kernel
theorem dX6_add_18 : decode cX6_add 18 = .ok (.bipush (-4), 2) := by decide +kernel
theorem dX6_add_20 : decode cX6_add 20 = .ok (.ireturn, 1) := by decide +kernel
theorem dX6_add_21 : decode cX6_add 21 = .ok (.aload_n 0, 1) := by decide +kernel
theorem dX6_add_22 : decode cX6_add 22 = .ok (.getfield 9, 3) := by decide +kernel
theorem dX6_add_25 : decode cX6_add 25 = .ok (.iload 5, 2) := by decide +kernel
theorem dX6_add_27 : decode cX6_add 27 = .ok (.iload_n 1, 1) := by decide +kernel
theorem dX6_add_28 : decode cX6_add 28 = .ok (.iastore, 1) := by decide +kernel
theorem dX6_add_29 : decode cX6_add 29 = .ok (.aload_n 0, 1) := by decide +kernel
theorem dX6_add_30 : decode cX6_add 30 = .ok (.getfield 15, 3) := by decide +kernel
theorem dX6_add_33 : decode cX6_add 33 = .ok (.iload 5, 2) := by decide +kernel
theorem dX6_add_35 : decode cX6_add 35 = .ok (.iload_n 2, 1) := by decide +kernel
theorem dX6_add_36 : decode cX6_add 36 = .ok (.iastore, 1) := by decide +kernel
theorem dX6_add_37 : decode cX6_add 37 = .ok (.aload_n 0, 1) := by decide +kernel
theorem dX6_add_38 : decode cX6_add 38 = .ok (.getfield 18, 3) := by decide +kernel
theorem dX6_add_41 : decode cX6_add 41 = .ok (.iload 5, 2) := by decide +kernel
theorem dX6_add_43 : decode cX6_add 43 = .ok (.iload_n 3, 1) := by decide +kernel
theorem dX6_add_44 : decode cX6_add 44 = .ok (.iastore, 1) := by decide +kernel
theorem dX6_add_45 : decode cX6_add 45 = .ok (.aload_n 0, 1) := by decide +kernel
theorem dX6_add_46 : decode cX6_add 46 = .ok (.getfield 21, 3) := by decide +kernel
theorem dX6_add_49 : decode cX6_add 49 = .ok (.iload 5, 2) := by decide +kernel
theorem dX6_add_51 : decode cX6_add 51 = .ok (.iload 4, 2) := by decide +kernel
theorem dX6_add_53 : decode cX6_add 53 = .ok (.iastore, 1) := by decide +kernel
theorem dX6_add_54 : decode cX6_add 54 = .ok (.aload_n 0, 1) := by decide +kernel
theorem dX6_add_55 : decode cX6_add 55 = .ok (.dup, 1) := by decide +kernel
theorem dX6_add_56 : decode cX6_add 56 = .ok (.getfield 24, 3) := by decide +kernel
theorem dX6_add_59 : decode cX6_add 59 = .ok (.iconst 1, 1) := by decide +kernel
theorem dX6_add_60 : decode cX6_add 60 = .ok (.iadd, 1) := by decide +kernel
theorem dX6_add_61 : decode cX6_add 61 = .ok (.putfield 24, 3) := by decide +kernel
theorem dX6_add_64 : decode cX6_add 64 = .ok (.iload 5, 2) := by decide +kernel
theorem dX6_add_66 : decode cX6_add 66 = .ok (.ireturn, 1) := by decide +kernel
theorem dX6_siteOf_0 : decode cX6_siteOf 0 = .ok (.aload_n 0, 1) := by decide +kernel
theorem dX6_siteOf_1 : decode cX6_siteOf 1 = .ok (.iload_n 1, 1) := by decide +kernel
theorem dX6_siteOf_2 : decode cX6_siteOf 2 = .ok (.invokevirtual 34, 3) := by decide +kernel
theorem dX6_siteOf_5 : decode cX6_siteOf 5 = .ok (.ifCond .eq 12, 3) := by decide +kernel
theorem dX6_siteOf_8 : decode cX6_siteOf 8 = .ok (.aload_n 0, 1) := by decide +kernel
theorem dX6_siteOf_9 : decode cX6_siteOf 9 = .ok (.getfield 9, 3) := by decide +kernel
theorem dX6_siteOf_12 : decode cX6_siteOf 12 = .ok (.iload_n 1, 1) := by decide +kernel
theorem dX6_siteOf_13 : decode cX6_siteOf 13 = .ok (.iaload, 1) := by decide +kernel
theorem dX6_siteOf_14 : decode cX6_siteOf 14 = .ok (.goto 4, 3) := by decide +kernel
theorem dX6_siteOf_17 : decode cX6_siteOf 17 = .ok (.iconst (-1), 1) := by decide +kernel
theorem dX6_siteOf_18 : decode cX6_siteOf 18 = .ok (.ireturn, 1) := by decide +kernel
theorem dX6_sheetOf_0 : decode cX6_sheetOf 0 = .ok (.aload_n 0, 1) := by decide +kernel
theorem dX6_sheetOf_1 : decode cX6_sheetOf 1 = .ok (.iload_n 1, 1) := by decide +kernel
theorem dX6_sheetOf_2 : decode cX6_sheetOf 2 = .ok (.invokevirtual 34, 3) := by decide +kernel
theorem dX6_sheetOf_5 : decode cX6_sheetOf 5 = .ok (.ifCond .eq 12, 3) := by decide +kernel
theorem dX6_sheetOf_8 : decode cX6_sheetOf 8 = .ok (.aload_n 0, 1) := by decide +kernel
theorem dX6_sheetOf_9 : decode cX6_sheetOf 9 = .ok (.getfield 15, 3) := by decide +kernel
theorem dX6_sheetOf_12 : decode cX6_sheetOf 12 = .ok (.iload_n 1, 1) := by decide +kernel
theorem dX6_sheetOf_13 : decode cX6_sheetOf 13 = .ok (.iaload, 1) := by decide +kernel
theorem dX6_sheetOf_14 : decode cX6_sheetOf 14 = .ok (.goto 4, 3) := by decide +kernel
theorem dX6_sheetOf_17 : decode cX6_sheetOf 17 = .ok (.iconst (-1), 1) := by decide +kernel
theorem dX6_sheetOf_18 : decode cX6_sheetOf 18 = .ok (.ireturn, 1) := by decide +kernel
theorem dX6_fieldOf_0 : decode cX6_fieldOf 0 = .ok (.aload_n 0, 1) := by decide +kernel
theorem dX6_fieldOf_1 : decode cX6_fieldOf 1 = .ok (.iload_n 1, 1) := by decide +kernel
theorem dX6_fieldOf_2 : decode cX6_fieldOf 2 = .ok (.invokevirtual 34, 3) := by decide +kernel
theorem dX6_fieldOf_5 : decode cX6_fieldOf 5 = .ok (.ifCond .eq 12, 3) := by decide +kernel
theorem dX6_fieldOf_8 : decode cX6_fieldOf 8 = .ok (.aload_n 0, 1) := by decide +kernel
theorem dX6_fieldOf_9 : decode cX6_fieldOf 9 = .ok (.getfield 18, 3) := by decide +kernel
theorem dX6_fieldOf_12 : decode cX6_fieldOf 12 = .ok (.iload_n 1, 1) := by decide +kernel
theorem dX6_fieldOf_13 : decode cX6_fieldOf 13 = .ok (.iaload, 1) := by decide +kernel
theorem dX6_fieldOf_14 : decode cX6_fieldOf 14 = .ok (.goto 4, 3) := by decide +kernel
theorem dX6_fieldOf_17 : decode cX6_fieldOf 17 = .ok (.iconst (-1), 1) := by decide +kernel
theorem dX6_fieldOf_18 : decode cX6_fieldOf 18 = .ok (.ireturn, 1) := by decide +kernel
theorem dX6_revisionOf_0 : decode cX6_revisionOf 0 = .ok (.aload_n 0, 1) := by decide +kernel
theorem dX6_revisionOf_1 : decode cX6_revisionOf 1 = .ok (.iload_n 1, 1) := by decide +kernel
theorem dX6_revisionOf_2 : decode cX6_revisionOf 2 = .ok (.invokevirtual 34, 3) := by decide +kernel
theorem dX6_revisionOf_5 : decode cX6_revisionOf 5 = .ok (.ifCond .eq 12, 3) := by decide +kernel
theorem dX6_revisionOf_8 : decode cX6_revisionOf 8 = .ok (.aload_n 0, 1) := by decide +kernel
theorem dX6_revisionOf_9 : decode cX6_revisionOf 9 = .ok (.getfield 21, 3) := by decide +kernel
theorem dX6_revisionOf_12 : decode cX6_revisionOf 12 = .ok (.iload_n 1, 1) := by decide +kernel
theorem dX6_revisionOf_13 : decode cX6_revisionOf 13 = .ok (.iaload, 1) := by decide +kernel
theorem dX6_revisionOf_14 : decode cX6_revisionOf 14 = .ok (.goto 4, 3) := by decide +kernel
theorem dX6_revisionOf_17 : decode cX6_revisionOf 17 = .ok (.iconst (-1), 1) := by decide +kernel
theorem dX6_revisionOf_18 : decode cX6_revisionOf 18 = .ok (.ireturn, 1) := by decide +kernel
theorem dX6_putRevision_0 : decode cX6_putRevision 0 = .ok (.aload_n 0, 1) := by decide +kernel
theorem dX6_putRevision_1 : decode cX6_putRevision 1 = .ok (.iload_n 1, 1) := by decide +kernel
theorem dX6_putRevision_2 : decode cX6_putRevision 2 = .ok (.invokevirtual 34, 3) := by decide +kernel
theorem dX6_putRevision_5 : decode cX6_putRevision 5 = .ok (.ifCond .eq 10, 3) := by decide +kernel
theorem dX6_putRevision_8 : decode cX6_putRevision 8 = .ok (.aload_n 0, 1) := by decide +kernel
theorem dX6_putRevision_9 : decode cX6_putRevision 9 = .ok (.getfield 21, 3) := by decide +kernel
theorem dX6_putRevision_12 : decode cX6_putRevision 12 = .ok (.iload_n 1, 1) := by decide +kernel
theorem dX6_putRevision_13 : decode cX6_putRevision 13 = .ok (.iload_n 2, 1) := by decide +kernel
theorem dX6_putRevision_14 : decode cX6_putRevision 14 = .ok (.iastore, 1) := by decide +kernel
theorem dX6_putRevision_15 : decode cX6_putRevision 15 = .ok (.return_, 1) := by decide +kernel
