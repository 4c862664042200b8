theorem dX8_readDraw_65 : decode cX8_readDraw 65 = .ok (.goto 4, 3) := by decide +kernel
theorem dX8_readDraw_68 : decode cX8_readDraw 68 = .ok (.iconst 0, 1) := by decide +kernel
theorem dX8_readDraw_69 : decode cX8_readDraw 69 = .ok (.invokevirtual 120, 3) := by decide +kernel
theorem dX8_readDraw_72 : decode cX8_readDraw 72 = .ok (.iconst (-1), 1) := by decide +kernel
theorem dX8_readDraw_73 : decode cX8_readDraw 73 = .ok (.istore_n 1, 1) := by decide +kernel
theorem dX8_readDraw_74 : decode cX8_readDraw 74 = .ok (.aload_n 0, 1) := by decide +kernel
theorem dX8_readDraw_75 : decode cX8_readDraw 75 = .ok (.getfield 112, 3) := by decide +kernel
theorem dX8_readDraw_78 : decode cX8_readDraw 78 = .ok (.ifCond .eq 28, 3) := by decide +kernel
theorem dX8_readDraw_81 : decode cX8_readDraw 81 = .ok (.aload_n 0, 1) := by decide +kernel
theorem dX8_readDraw_82 : decode cX8_readDraw 82 = .ok (.invokevirtual 116, 3) := by decide +kernel
theorem dX8_readDraw_85 : decode cX8_readDraw 85 = .ok (.i2l, 1) := by decide +kernel
theorem dX8_readDraw_86 : decode cX8_readDraw 86 = .ok (.ldc2_w 128, 3) := by decide +kernel
theorem dX8_readDraw_89 : decode cX8_readDraw 89 = .ok (.ldc2_w 130, 3) := by decide +kernel
theorem dX8_readDraw_92 : decode cX8_readDraw 92 = .ok (.invokestatic 42, 3) := by decide +kernel
theorem dX8_readDraw_95 : decode cX8_readDraw 95 = .ok (.ifCond .eq 11, 3) := by decide +kernel
theorem dX8_readDraw_98 : decode cX8_readDraw 98 = .ok (.aload_n 0, 1) := by decide +kernel
theorem dX8_readDraw_99 : decode cX8_readDraw 99 = .ok (.iconst 0, 1) := by decide +kernel
theorem dX8_readDraw_100 : decode cX8_readDraw 100 = .ok (.bipush 9, 2) := by decide +kernel
theorem dX8_readDraw_102 : decode cX8_readDraw 102 = .ok (.invokevirtual 124, 3) := by decide +kernel
theorem dX8_readDraw_105 : decode cX8_readDraw 105 = .ok (.istore_n 1, 1) := by decide +kernel
theorem dX8_readDraw_106 : decode cX8_readDraw 106 = .ok (.aload_n 0, 1) := by decide +kernel
theorem dX8_readDraw_107 : decode cX8_readDraw 107 = .ok (.aload_n 0, 1) := by decide +kernel
theorem dX8_readDraw_108 : decode cX8_readDraw 108 = .ok (.invokevirtual 135, 3) := by decide +kernel
theorem dX8_readDraw_111 : decode cX8_readDraw 111 = .ok (.ifCond .eq 33, 3) := by decide +kernel
theorem dX8_readDraw_114 : decode cX8_readDraw 114 = .ok (.iload_n 1, 1) := by decide +kernel
theorem dX8_readDraw_115 : decode cX8_readDraw 115 = .ok (.iconst (-1), 1) := by decide +kernel
theorem dX8_readDraw_116 : decode cX8_readDraw 116 = .ok (.if_icmp .eq 14, 3) := by decide +kernel
theorem dX8_readDraw_119 : decode cX8_readDraw 119 = .ok (.aload_n 0, 1) := by decide +kernel
theorem dX8_readDraw_120 : decode cX8_readDraw 120 = .ok (.getfield 16, 3) := by decide +kernel
theorem dX8_readDraw_123 : decode cX8_readDraw 123 = .ok (.iload_n 1, 1) := by decide +kernel
theorem dX8_readDraw_124 : decode cX8_readDraw 124 = .ok (.invokestatic 139, 3) := by decide +kernel
theorem dX8_readDraw_127 : decode cX8_readDraw 127 = .ok (.ifCond .eq 17, 3) := by decide +kernel
theorem dX8_readDraw_130 : decode cX8_readDraw 130 = .ok (.aload_n 0, 1) := by decide +kernel
theorem dX8_readDraw_131 : decode cX8_readDraw 131 = .ok (.getfield 16, 3) := by decide +kernel
theorem dX8_readDraw_134 : decode cX8_readDraw 134 = .ok (.invokestatic 142, 3) := by decide +kernel
theorem dX8_readDraw_137 : decode cX8_readDraw 137 = .ok (.ifCond .eq 7, 3) := by decide +kernel
theorem dX8_readDraw_140 : decode cX8_readDraw 140 = .ok (.iconst 1, 1) := by decide +kernel
theorem dX8_readDraw_141 : decode cX8_readDraw 141 = .ok (.goto 4, 3) := by decide +kernel
theorem dX8_readDraw_144 : decode cX8_readDraw 144 = .ok (.iconst 0, 1) := by decide +kernel
theorem dX8_readDraw_145 : decode cX8_readDraw 145 = .ok (.invokevirtual 146, 3) := by decide +kernel
theorem dX8_readDraw_148 : decode cX8_readDraw 148 = .ok (.ifCond .eq 12, 3) := by decide +kernel
theorem dX8_readDraw_151 : decode cX8_readDraw 151 = .ok (.aload_n 0, 1) := by decide +kernel
theorem dX8_readDraw_152 : decode cX8_readDraw 152 = .ok (.getfield 16, 3) := by decide +kernel
theorem dX8_readDraw_155 : decode cX8_readDraw 155 = .ok (.iload_n 1, 1) := by decide +kernel
theorem dX8_readDraw_156 : decode cX8_readDraw 156 = .ok (.invokestatic 150, 3) := by decide +kernel
theorem dX8_readDraw_159 : decode cX8_readDraw 159 = .ok (.pop, 1) := by decide +kernel
theorem dX8_readDraw_160 : decode cX8_readDraw 160 = .ok (.return_, 1) := by decide +kernel
theorem dX8_end_0 : decode cX8_end 0 = .ok (.aload_n 0, 1) := by decide +kernel
theorem dX8_end_1 : decode cX8_end 1 = .ok (.aload_n 0, 1) := by decide +kernel
theorem dX8_end_2 : decode cX8_end 2 = .ok (.getfield 112, 3) := by decide +kernel
theorem dX8_end_5 : decode cX8_end 5 = .ok (.ifCond .eq 27, 3) := by decide +kernel
theorem dX8_end_8 : decode cX8_end 8 = .ok (.aload_n 0, 1) := by decide +kernel
theorem dX8_end_9 : decode cX8_end 9 = .ok (.getfield 109, 3) := by decide +kernel
theorem dX8_end_12 : decode cX8_end 12 = .ok (.aload_n 0, 1) := by decide +kernel
theorem dX8_end_13 : decode cX8_end 13 = .ok (.getfield 102, 3) := by decide +kernel
theorem dX8_end_16 : decode cX8_end 16 = .ok (.if_icmp .eq 12, 3) := by decide +kernel
theorem dX8_end_19 : decode cX8_end 19 = .ok (.aload_n 0, 1) := by decide +kernel
theorem dX8_end_20 : decode cX8_end 20 = .ok (.invokevirtual 116, 3) := by decide +kernel
theorem dX8_end_23 : decode cX8_end 23 = .ok (.bipush 59, 2) := by decide +kernel
theorem dX8_end_25 : decode cX8_end 25 = .ok (.if_icmp .ne 7, 3) := by decide +kernel
theorem dX8_end_28 : decode cX8_end 28 = .ok (.iconst 1, 1) := by decide +kernel
theorem dX8_end_29 : decode cX8_end 29 = .ok (.goto 4, 3) := by decide +kernel
theorem dX8_end_32 : decode cX8_end 32 = .ok (.iconst 0, 1) := by decide +kernel
theorem dX8_end_33 : decode cX8_end 33 = .ok (.putfield 112, 3) := by decide +kernel
theorem dX8_end_36 : decode cX8_end 36 = .ok (.aload_n 0, 1) := by decide +kernel
theorem dX8_end_37 : decode cX8_end 37 = .ok (.getfield 112, 3) := by decide +kernel
theorem dX8_end_40 : decode cX8_end 40 = .ok (.ireturn, 1) := by decide +kernel
theorem dX8_readCloud_0 : decode cX8_readCloud 0 = .ok (.iconst (-1), 1) := by decide +kernel
theorem dX8_readCloud_1 : decode cX8_readCloud 1 = .ok (.istore_n 1, 1) := by decide +kernel
theorem dX8_readCloud_2 : decode cX8_readCloud 2 = .ok (.iconst 1, 1) := by decide +kernel
theorem dX8_readCloud_3 : decode cX8_readCloud 3 = .ok (.istore_n 2, 1) := by decide +kernel
theorem dX8_readCloud_4 : decode cX8_readCloud 4 = .ok (.aload_n 0, 1) := by decide +kernel
theorem dX8_readCloud_5 : decode cX8_readCloud 5 = .ok (.iconst 0, 1) := by decide +kernel
theorem dX8_readCloud_6 : decode cX8_readCloud 6 = .ok (.putfield 153, 3) := by decide +kernel
theorem dX8_readCloud_9 : decode cX8_readCloud 9 = .ok (.aload_n 0, 1) := by decide +kernel
theorem dX8_readCloud_10 : decode cX8_readCloud 10 = .ok (.getfield 112, 3) := by decide +kernel
theorem dX8_readCloud_13 : decode cX8_readCloud 13 = .ok (.ifCond .eq 95, 3) := by decide +kernel
theorem dX8_readCloud_16 : decode cX8_readCloud 16 = .ok (.iload_n 2, 1) := by decide +kernel
theorem dX8_readCloud_17 : decode cX8_readCloud 17 = .ok (.ifCond .eq 91, 3) := by decide +kernel
theorem dX8_readCloud_20 : decode cX8_readCloud 20 = .ok (.aload_n 0, 1) := by decide +kernel
theorem dX8_readCloud_21 : decode cX8_readCloud 21 = .ok (.iconst 0, 1) := by decide +kernel
theorem dX8_readCloud_22 : decode cX8_readCloud 22 = .ok (.bipush 11, 2) := by decide +kernel
theorem dX8_readCloud_24 : decode cX8_readCloud 24 = .ok (.invokevirtual 156, 3) := by decide +kernel
theorem dX8_readCloud_27 : decode cX8_readCloud 27 = .ok (.istore_n 3, 1) := by decide +kernel
theorem dX8_readCloud_28 : decode cX8_readCloud 28 = .ok (.aload_n 0, 1) := by decide +kernel
theorem dX8_readCloud_29 : decode cX8_readCloud 29 = .ok (.aload_n 0, 1) := by decide +kernel
theorem dX8_readCloud_30 : decode cX8_readCloud 30 = .ok (.getfield 112, 3) := by decide +kernel
theorem dX8_readCloud_33 : decode cX8_readCloud 33 = .ok (.ifCond .eq 12, 3) := by decide +kernel
theorem dX8_readCloud_36 : decode cX8_readCloud 36 = .ok (.iload_n 3, 1) := by decide +kernel
theorem dX8_readCloud_37 : decode cX8_readCloud 37 = .ok (.iload_n 1, 1) := by decide +kernel
theorem dX8_readCloud_38 : decode cX8_readCloud 38 = .ok (.if_icmp .le 7, 3) := by decide +kernel
theorem dX8_readCloud_41 : decode cX8_readCloud 41 = .ok (.iconst 1, 1) := by decide +kernel
theorem dX8_readCloud_42 : decode cX8_readCloud 42 = .ok (.goto 4, 3) := by decide +kernel
theorem dX8_readCloud_45 : decode cX8_readCloud 45 = .ok (.iconst 0, 1) := by decide +kernel
theorem dX8_readCloud_46 : decode cX8_readCloud 46 = .ok (.putfield 112, 3) := by decide +kernel
theorem dX8_readCloud_49 : decode cX8_readCloud 49 = .ok (.aload_n 0, 1) := by decide +kernel
theorem dX8_readCloud_50 : decode cX8_readCloud 50 = .ok (.dup, 1) := by decide +kernel
theorem dX8_readCloud_51 : decode cX8_readCloud 51 = .ok (.getfield 153, 3) := by decide +kernel
theorem dX8_readCloud_54 : decode cX8_readCloud 54 = .ok (.aload_n 0, 1) := by decide +kernel
theorem dX8_readCloud_55 : decode cX8_readCloud 55 = .ok (.getfield 112, 3) := by decide +kernel
theorem dX8_readCloud_58 : decode cX8_readCloud 58 = .ok (.ifCond .eq 9, 3) := by decide +kernel
theorem dX8_readCloud_61 : decode cX8_readCloud 61 = .ok (.iconst 1, 1) := by decide +kernel
theorem dX8_readCloud_62 : decode cX8_readCloud 62 = .ok (.iload_n 3, 1) := by decide +kernel
theorem dX8_readCloud_63 : decode cX8_readCloud 63 = .ok (.ishl, 1) := by decide +kernel
theorem dX8_readCloud_64 : decode cX8_readCloud 64 = .ok (.goto 4, 3) := by decide +kernel
theorem dX8_readCloud_67 : decode cX8_readCloud 67 = .ok (.iconst 0, 1) := by decide +kernel
theorem dX8_readCloud_68 : decode cX8_readCloud 68 = .ok (.ior, 1) := by decide +kernel
theorem dX8_readCloud_69 : decode cX8_readCloud 69 = .ok (.putfield 153, 3) := by decide +kernel
theorem dX8_readCloud_72 : decode cX8_readCloud 72 = .ok (.iload_n 3, 1) := by decide +kernel
theorem dX8_readCloud_73 : decode cX8_readCloud 73 = .ok (.istore_n 1, 1) := by decide +kernel
theorem dX8_readCloud_74 : decode cX8_readCloud 74 = .ok (.aload_n 0, 1) := by decide +kernel
theorem dX8_readCloud_75 : decode cX8_readCloud 75 = .ok (.getfield 112, 3) := by decide +kernel
theorem dX8_readCloud_78 : decode cX8_readCloud 78 = .ok (.ifCond .eq 16, 3) := by decide +kernel
theorem dX8_readCloud_81 : decode cX8_readCloud 81 = .ok (.aload_n 0, 1) := by decide +kernel
theorem dX8_readCloud_82 : decode cX8_readCloud 82 = .ok (.invokevirtual 116, 3) := by decide +kernel
theorem dX8_readCloud_85 : decode cX8_readCloud 85 = .ok (.bipush 44, 2) := by decide +kernel
theorem dX8_readCloud_87 : decode cX8_readCloud 87 = .ok (.if_icmp .ne 7, 3) := by decide +kernel
theorem dX8_readCloud_90 : decode cX8_readCloud 90 = .ok (.iconst 1, 1) := by decide +kernel
theorem dX8_readCloud_91 : decode cX8_readCloud 91 = .ok (.goto 4, 3) := by decide +kernel
theorem dX8_readCloud_94 : decode cX8_readCloud 94 = .ok (.iconst 0, 1) := by decide +kernel
theorem dX8_readCloud_95 : decode cX8_readCloud 95 = .ok (.istore_n 2, 1) := by decide +kernel
theorem dX8_readCloud_96 : decode cX8_readCloud 96 = .ok (.iload_n 2, 1) := by decide +kernel
theorem dX8_readCloud_97 : decode cX8_readCloud 97 = .ok (.ifCond .eq 8, 3) := by decide +kernel
theorem dX8_readCloud_100 : decode cX8_readCloud 100 = .ok (.aload_n 0, 1) := by decide +kernel
theorem dX8_readCloud_101 : decode cX8_readCloud 101 = .ok (.iconst 1, 1) := by decide +kernel
theorem dX8_readCloud_102 : decode cX8_readCloud 102 = .ok (.invokevirtual 120, 3) := by decide +kernel
theorem dX8_readCloud_105 : decode cX8_readCloud 105 = .ok (.goto (-96), 3) := by decide +kernel
theorem dX8_readCloud_108 : decode cX8_readCloud 108 = .ok (.return_, 1) := by decide +kernel
theorem dX8_readRevise_0 : decode cX8_readRevise 0 = .ok (.aload_n 0, 1) := by decide +kernel
theorem dX8_readRevise_1 : decode cX8_readRevise 1 = .ok (.aload_n 0, 1) := by decide +kernel
theorem dX8_readRevise_2 : decode cX8_readRevise 2 = .ok (.invokevirtual 116, 3) := by decide +kernel
theorem dX8_readRevise_5 : decode cX8_readRevise 5 = .ok (.bipush 118, 2) := by decide +kernel
theorem dX8_readRevise_7 : decode cX8_readRevise 7 = .ok (.if_icmp .ne 7, 3) := by decide +kernel
theorem dX8_readRevise_10 : decode cX8_readRevise 10 = .ok (.iconst 1, 1) := by decide +kernel
theorem dX8_readRevise_11 : decode cX8_readRevise 11 = .ok (.goto 4, 3) := by decide +kernel
theorem dX8_readRevise_14 : decode cX8_readRevise 14 = .ok (.iconst 0, 1) := by decide +kernel
theorem dX8_readRevise_15 : decode cX8_readRevise 15 = .ok (.invokevirtual 120, 3) := by decide +kernel
theorem dX8_readRevise_18 : decode cX8_readRevise 18 = .ok (.aload_n 0, 1) := by decide +kernel
theorem dX8_readRevise_19 : decode cX8_readRevise 19 = .ok (.iconst 0, 1) := by decide +kernel
theorem dX8_readRevise_20 : decode cX8_readRevise 20 = .ok (.bipush 9, 2) := by decide +kernel
theorem dX8_readRevise_22 : decode cX8_readRevise 22 = .ok (.invokevirtual 124, 3) := by decide +kernel
theorem dX8_readRevise_25 : decode cX8_readRevise 25 = .ok (.istore_n 1, 1) := by decide +kernel
theorem dX8_readRevise_26 : decode cX8_readRevise 26 = .ok (.aload_n 0, 1) := by decide +kernel
theorem dX8_readRevise_27 : decode cX8_readRevise 27 = .ok (.aload_n 0, 1) := by decide +kernel
theorem dX8_readRevise_28 : decode cX8_readRevise 28 = .ok (.invokevirtual 116, 3) := by decide +kernel
theorem dX8_readRevise_31 : decode cX8_readRevise 31 = .ok (.bipush 58, 2) := by decide +kernel
theorem dX8_readRevise_33 : decode cX8_readRevise 33 = .ok (.if_icmp .ne 7, 3) := by decide +kernel
theorem dX8_readRevise_36 : decode cX8_readRevise 36 = .ok (.iconst 1, 1) := by decide +kernel
theorem dX8_readRevise_37 : decode cX8_readRevise 37 = .ok (.goto 4, 3) := by decide +kernel
theorem dX8_readRevise_40 : decode cX8_readRevise 40 = .ok (.iconst 0, 1) := by decide +kernel
theorem dX8_readRevise_41 : decode cX8_readRevise 41 = .ok (.invokevirtual 120, 3) := by decide +kernel
theorem dX8_readRevise_44 : decode cX8_readRevise 44 = .ok (.aload_n 0, 1) := by decide +kernel
theorem dX8_readRevise_45 : decode cX8_readRevise 45 = .ok (.invokevirtual 159, 3) := by decide +kernel
theorem dX8_readRevise_48 : decode cX8_readRevise 48 = .ok (.aload_n 0, 1) := by decide +kernel
theorem dX8_readRevise_49 : decode cX8_readRevise 49 = .ok (.aload_n 0, 1) := by decide +kernel
theorem dX8_readRevise_50 : decode cX8_readRevise 50 = .ok (.invokevirtual 135, 3) := by decide +kernel
theorem dX8_readRevise_53 : decode cX8_readRevise 53 = .ok (.ifCond .eq 29, 3) := by decide +kernel
theorem dX8_readRevise_56 : decode cX8_readRevise 56 = .ok (.aload_n 0, 1) := by decide +kernel
theorem dX8_readRevise_57 : decode cX8_readRevise 57 = .ok (.getfield 16, 3) := by decide +kernel
theorem dX8_readRevise_60 : decode cX8_readRevise 60 = .ok (.iload_n 1, 1) := by decide +kernel
theorem dX8_readRevise_61 : decode cX8_readRevise 61 = .ok (.invokestatic 139, 3) := by decide +kernel
theorem dX8_readRevise_64 : decode cX8_readRevise 64 = .ok (.ifCond .eq 18, 3) := by decide +kernel
theorem dX8_readRevise_67 : decode cX8_readRevise 67 = .ok (.aload_n 0, 1) := by decide +kernel
theorem dX8_readRevise_68 : decode cX8_readRevise 68 = .ok (.getfield 16, 3) := by decide +kernel
theorem dX8_readRevise_71 : decode cX8_readRevise 71 = .ok (.iload_n 1, 1) := by decide +kernel
theorem dX8_readRevise_72 : decode cX8_readRevise 72 = .ok (.invokestatic 162, 3) := by decide +kernel
theorem dX8_readRevise_75 : decode cX8_readRevise 75 = .ok (.ifCond .eq 7, 3) := by decide +kernel
theorem dX8_readRevise_78 : decode cX8_readRevise 78 = .ok (.iconst 1, 1) := by decide +kernel
theorem dX8_readRevise_79 : decode cX8_readRevise 79 = .ok (.goto 4, 3) := by decide +kernel
theorem dX8_readRevise_82 : decode cX8_readRevise 82 = .ok (.iconst 0, 1) := by decide +kernel
theorem dX8_readRevise_83 : decode cX8_readRevise 83 = .ok (.invokevirtual 146, 3) := by decide +kernel
theorem dX8_readRevise_86 : decode cX8_readRevise 86 = .ok (.ifCond .eq 16, 3) := by decide +kernel
theorem dX8_readRevise_89 : decode cX8_readRevise 89 = .ok (.aload_n 0, 1) := by decide +kernel
theorem dX8_readRevise_90 : decode cX8_readRevise 90 = .ok (.getfield 16, 3) := by decide +kernel
theorem dX8_readRevise_93 : decode cX8_readRevise 93 = .ok (.iload_n 1, 1) := by decide +kernel
theorem dX8_readRevise_94 : decode cX8_readRevise 94 = .ok (.aload_n 0, 1) := by decide +kernel
theorem dX8_readRevise_95 : decode cX8_readRevise 95 = .ok (.getfield 153, 3) := by decide +kernel
theorem dX8_readRevise_98 : decode cX8_readRevise 98 = .ok (.invokestatic 165, 3) := by decide +kernel
theorem dX8_readRevise_101 : decode cX8_readRevise 101 = .ok (.pop, 1) := by decide +kernel
theorem dX8_readRevise_102 : decode cX8_readRevise 102 = .ok (.return_, 1) := by decide +kernel
theorem dX8_readRun_0 : decode cX8_readRun 0 = .ok (.aload_n 0, 1) := by decide +kernel
theorem dX8_readRun_1 : decode cX8_readRun 1 = .ok (.aload_n 0, 1) := by decide +kernel
theorem dX8_readRun_2 : decode cX8_readRun 2 = .ok (.invokevirtual 116, 3) := by decide +kernel
theorem dX8_readRun_5 : decode cX8_readRun 5 = .ok (.bipush 110, 2) := by decide +kernel
theorem dX8_readRun_7 : decode cX8_readRun 7 = .ok (.if_icmp .ne 7, 3) := by decide +kernel
theorem dX8_readRun_10 : decode cX8_readRun 10 = .ok (.iconst 1, 1) := by decide +kernel
theorem dX8_readRun_11 : decode cX8_readRun 11 = .ok (.goto 4, 3) := by decide +kernel
theorem dX8_readRun_14 : decode cX8_readRun 14 = .ok (.iconst 0, 1) := by decide +kernel
theorem dX8_readRun_15 : decode cX8_readRun 15 = .ok (.invokevirtual 120, 3) := by decide +kernel
theorem dX8_readRun_18 : decode cX8_readRun 18 = .ok (.aload_n 0, 1) := by decide +kernel
theorem dX8_readRun_19 : decode cX8_readRun 19 = .ok (.iconst 1, 1) := by decide +kernel
theorem dX8_readRun_20 : decode cX8_readRun 20 = .ok (.bipush 30, 2) := by decide +kernel
theorem dX8_readRun_22 : decode cX8_readRun 22 = .ok (.invokevirtual 156, 3) := by decide +kernel
theorem dX8_readRun_25 : decode cX8_readRun 25 = .ok (.istore_n 1, 1) := by decide +kernel
theorem dX8_readRun_26 : decode cX8_readRun 26 = .ok (.aload_n 0, 1) := by decide +kernel
theorem dX8_readRun_27 : decode cX8_readRun 27 = .ok (.aload_n 0, 1) := by decide +kernel
theorem dX8_readRun_28 : decode cX8_readRun 28 = .ok (.invokevirtual 135, 3) := by decide +kernel
theorem dX8_readRun_31 : decode cX8_readRun 31 = .ok (.invokevirtual 146, 3) := by decide +kernel
theorem dX8_readRun_34 : decode cX8_readRun 34 = .ok (.ifCond .eq 12, 3) := by decide +kernel
theorem dX8_readRun_37 : decode cX8_readRun 37 = .ok (.aload_n 0, 1) := by decide +kernel
theorem dX8_readRun_38 : decode cX8_readRun 38 = .ok (.getfield 16, 3) := by decide +kernel
theorem dX8_readRun_41 : decode cX8_readRun 41 = .ok (.iload_n 1, 1) := by decide +kernel
theorem dX8_readRun_42 : decode cX8_readRun 42 = .ok (.invokestatic 169, 3) := by decide +kernel
theorem dX8_readRun_45 : decode cX8_readRun 45 = .ok (.pop, 1) := by decide +kernel
theorem dX8_readRun_46 : decode cX8_readRun 46 = .ok (.return_, 1) := by decide +kernel
theorem dX8_readPrint_0 : decode cX8_readPrint 0 = .ok (.aload_n 0, 1) := by decide +kernel
theorem dX8_readPrint_1 : decode cX8_readPrint 1 = .ok (.aload_n 0, 1) := by decide +kernel
theorem dX8_readPrint_2 : decode cX8_readPrint 2 = .ok (.invokevirtual 116, 3) := by decide +kernel
theorem dX8_readPrint_5 : decode cX8_readPrint 5 = .ok (.bipush 112, 2) := by decide +kernel
theorem dX8_readPrint_7 : decode cX8_readPrint 7 = .ok (.if_icmp .ne 7, 3) := by decide +kernel
theorem dX8_readPrint_10 : decode cX8_readPrint 10 = .ok (.iconst 1, 1) := by decide +kernel
theorem dX8_readPrint_11 : decode cX8_readPrint 11 = .ok (.goto 4, 3) := by decide +kernel
theorem dX8_readPrint_14 : decode cX8_readPrint 14 = .ok (.iconst 0, 1) := by decide +kernel
theorem dX8_readPrint_15 : decode cX8_readPrint 15 = .ok (.invokevirtual 120, 3) := by decide +kernel
theorem dX8_readPrint_18 : decode cX8_readPrint 18 = .ok (.aload_n 0, 1) := by decide +kernel
theorem dX8_readPrint_19 : decode cX8_readPrint 19 = .ok (.aload_n 0, 1) := by decide +kernel
theorem dX8_readPrint_20 : decode cX8_readPrint 20 = .ok (.invokevirtual 116, 3) := by decide +kernel
theorem dX8_readPrint_23 : decode cX8_readPrint 23 = .ok (.bipush 114, 2) := by decide +kernel
theorem dX8_readPrint_25 : decode cX8_readPrint 25 = .ok (.if_icmp .ne 7, 3) := by decide +kernel
theorem dX8_readPrint_28 : decode cX8_readPrint 28 = .ok (.iconst 1, 1) := by decide +kernel
theorem dX8_readPrint_29 : decode cX8_readPrint 29 = .ok (.goto 4, 3) := by decide +kernel
theorem dX8_readPrint_32 : decode cX8_readPrint 32 = .ok (.iconst 0, 1) := by decide +kernel
theorem dX8_readPrint_33 : decode cX8_readPrint 33 = .ok (.invokevirtual 120, 3) := by decide +kernel
theorem dX8_readPrint_36 : decode cX8_readPrint 36 = .ok (.aload_n 0, 1) := by decide +kernel
theorem dX8_readPrint_37 : decode cX8_readPrint 37 = .ok (.aload_n 0, 1) := by decide +kernel
theorem dX8_readPrint_38 : decode cX8_readPrint 38 = .ok (.invokevirtual 116, 3) := by decide +kernel
theorem dX8_readPrint_41 : decode cX8_readPrint 41 = .ok (.bipush 105, 2) := by decide +kernel
theorem dX8_readPrint_43 : decode cX8_readPrint 43 = .ok (.if_icmp .ne 7, 3) := by decide +kernel
theorem dX8_readPrint_46 : decode cX8_readPrint 46 = .ok (.iconst 1, 1) := by decide +kernel
theorem dX8_readPrint_47 : decode cX8_readPrint 47 = .ok (.goto 4, 3) := by decide +kernel
theorem dX8_readPrint_50 : decode cX8_readPrint 50 = .ok (.iconst 0, 1) := by decide +kernel
theorem dX8_readPrint_51 : decode cX8_readPrint 51 = .ok (.invokevirtual 120, 3) := by decide +kernel
theorem dX8_readPrint_54 : decode cX8_readPrint 54 = .ok (.aload_n 0, 1) := by decide +kernel
theorem dX8_readPrint_55 : decode cX8_readPrint 55 = .ok (.aload_n 0, 1) := by decide +kernel
theorem dX8_readPrint_56 : decode cX8_readPrint 56 = .ok (.invokevirtual 116, 3) := by decide +kernel
theorem dX8_readPrint_59 : decode cX8_readPrint 59 = .ok (.bipush 110, 2) := by decide +kernel
theorem dX8_readPrint_61 : decode cX8_readPrint 61 = .ok (.if_icmp .ne 7, 3) := by decide +kernel
theorem dX8_readPrint_64 : decode cX8_readPrint 64 = .ok (.iconst 1, 1) := by decide +kernel
theorem dX8_readPrint_65 : decode cX8_readPrint 65 = .ok (.goto 4, 3) := by decide +kernel
theorem dX8_readPrint_68 : decode cX8_readPrint 68 = .ok (.iconst 0, 1) := by decide +kernel
theorem dX8_readPrint_69 : decode cX8_readPrint 69 = .ok (.invokevirtual 120, 3) := by decide +kernel
theorem dX8_readPrint_72 : decode cX8_readPrint 72 = .ok (.aload_n 0, 1) := by decide +kernel
theorem dX8_readPrint_73 : decode cX8_readPrint 73 = .ok (.aload_n 0, 1) := by decide +kernel
theorem dX8_readPrint_74 : decode cX8_readPrint 74 = .ok (.invokevirtual 116, 3) := by decide +kernel
theorem dX8_readPrint_77 : decode cX8_readPrint 77 = .ok (.bipush 116, 2) := by decide +kernel
theorem dX8_readPrint_79 : decode cX8_readPrint 79 = .ok (.if_icmp .ne 7, 3) := by decide +kernel
theorem dX8_readPrint_82 : decode cX8_readPrint 82 = .ok (.iconst 1, 1) := by decide +kernel
theorem dX8_readPrint_83 : decode cX8_readPrint 83 = .ok (.goto 4, 3) := by decide +kernel
theorem dX8_readPrint_86 : decode cX8_readPrint 86 = .ok (.iconst 0, 1) := by decide +kernel
theorem dX8_readPrint_87 : decode cX8_readPrint 87 = .ok (.invokevirtual 120, 3) := by decide +kernel
theorem dX8_readPrint_90 : decode cX8_readPrint 90 = .ok (.aload_n 0, 1) := by decide +kernel
theorem dX8_readPrint_91 : decode cX8_readPrint 91 = .ok (.iconst 0, 1) := by decide +kernel
theorem dX8_readPrint_92 : decode cX8_readPrint 92 = .ok (.bipush 9, 2) := by decide +kernel
theorem dX8_readPrint_94 : decode cX8_readPrint 94 = .ok (.invokevirtual 124, 3) := by decide +kernel
theorem dX8_readPrint_97 : decode cX8_readPrint 97 = .ok (.istore_n 1, 1) := by decide +kernel
theorem dX8_readPrint_98 : decode cX8_readPrint 98 = .ok (.aload_n 0, 1) := by decide +kernel
theorem dX8_readPrint_99 : decode cX8_readPrint 99 = .ok (.aload_n 0, 1) := by decide +kernel
theorem dX8_readPrint_100 : decode cX8_readPrint 100 = .ok (.invokevirtual 116, 3) := by decide +kernel
theorem dX8_readPrint_103 : decode cX8_readPrint 103 = .ok (.bipush 64, 2) := by decide +kernel
theorem dX8_readPrint_105 : decode cX8_readPrint 105 = .ok (.if_icmp .ne 7, 3) := by decide +kernel
theorem dX8_readPrint_108 : decode cX8_readPrint 108 = .ok (.iconst 1, 1) := by decide +kernel
theorem dX8_readPrint_109 : decode cX8_readPrint 109 = .ok (.goto 4, 3) := by decide +kernel
theorem dX8_readPrint_112 : decode cX8_readPrint 112 = .ok (.iconst 0, 1) := by decide +kernel
theorem dX8_readPrint_113 : decode cX8_readPrint 113 = .ok (.invokevirtual 120, 3) := by decide +kernel
theorem dX8_readPrint_116 : decode cX8_readPrint 116 = .ok (.aload_n 0, 1) := by decide +kernel
theorem dX8_readPrint_117 : decode cX8_readPrint 117 = .ok (.iconst 0, 1) := by decide +kernel
theorem dX8_readPrint_118 : decode cX8_readPrint 118 = .ok (.iconst 3, 1) := by decide +kernel
theorem dX8_readPrint_119 : decode cX8_readPrint 119 = .ok (.invokevirtual 124, 3) := by decide +kernel
theorem dX8_readPrint_122 : decode cX8_readPrint 122 = .ok (.istore_n 2, 1) := by decide +kernel
theorem dX8_readPrint_123 : decode cX8_readPrint 123 = .ok (.aload_n 0, 1) := by decide +kernel
theorem dX8_readPrint_124 : decode cX8_readPrint 124 = .ok (.aload_n 0, 1) := by decide +kernel
theorem dX8_readPrint_125 : decode cX8_readPrint 125 = .ok (.invokevirtual 135, 3) := by decide +kernel
theorem dX8_readPrint_128 : decode cX8_readPrint 128 = .ok (.ifCond .eq 28, 3) := by decide +kernel
theorem dX8_readPrint_131 : decode cX8_readPrint 131 = .ok (.aload_n 0, 1) := by decide +kernel
theorem dX8_readPrint_132 : decode cX8_readPrint 132 = .ok (.getfield 16, 3) := by decide +kernel
theorem dX8_readPrint_135 : decode cX8_readPrint 135 = .ok (.iload_n 1, 1) := by decide +kernel
theorem dX8_readPrint_136 : decode cX8_readPrint 136 = .ok (.invokestatic 139, 3) := by decide +kernel
theorem dX8_readPrint_139 : decode cX8_readPrint 139 = .ok (.ifCond .eq 17, 3) := by decide +kernel
theorem dX8_readPrint_142 : decode cX8_readPrint 142 = .ok (.aload_n 0, 1) := by decide +kernel
theorem dX8_readPrint_143 : decode cX8_readPrint 143 = .ok (.getfield 16, 3) := by decide +kernel
theorem dX8_readPrint_146 : decode cX8_readPrint 146 = .ok (.invokestatic 172, 3) := by decide +kernel
theorem dX8_readPrint_149 : decode cX8_readPrint 149 = .ok (.ifCond .eq 7, 3) := by decide +kernel
theorem dX8_readPrint_152 : decode cX8_readPrint 152 = .ok (.iconst 1, 1) := by decide +kernel
theorem dX8_readPrint_153 : decode cX8_readPrint 153 = .ok (.goto 4, 3) := by decide +kernel
theorem dX8_readPrint_156 : decode cX8_readPrint 156 = .ok (.iconst 0, 1) := by decide +kernel
theorem dX8_readPrint_157 : decode cX8_readPrint 157 = .ok (.invokevirtual 146, 3) := by decide +kernel
theorem dX8_readPrint_160 : decode cX8_readPrint 160 = .ok (.ifCond .eq 13, 3) := by decide +kernel
theorem dX8_readPrint_163 : decode cX8_readPrint 163 = .ok (.aload_n 0, 1) := by decide +kernel
theorem dX8_readPrint_164 : decode cX8_readPrint 164 = .ok (.getfield 16, 3) := by decide +kernel
theorem dX8_readPrint_167 : decode cX8_readPrint 167 = .ok (.iload_n 1, 1) := by decide +kernel
theorem dX8_readPrint_168 : decode cX8_readPrint 168 = .ok (.iload_n 2, 1) := by decide +kernel
theorem dX8_readPrint_169 : decode cX8_readPrint 169 = .ok (.invokestatic 175, 3) := by decide +kernel
theorem dX8_readPrint_172 : decode cX8_readPrint 172 = .ok (.pop, 1) := by decide +kernel
theorem dX8_readPrint_173 : decode cX8_readPrint 173 = .ok (.return_, 1) := by decide +kernel
theorem dX8_readStamp_0 : decode cX8_readStamp 0 = .ok (.aload_n 0, 1) := by decide +kernel
theorem dX8_readStamp_1 : decode cX8_readStamp 1 = .ok (.aload_n 0, 1) := by decide +kernel
theorem dX8_readStamp_2 : decode cX8_readStamp 2 = .ok (.invokevirtual 116, 3) := by decide +kernel
theorem dX8_readStamp_5 : decode cX8_readStamp 5 = .ok (.bipush 115, 2) := by decide +kernel
theorem dX8_readStamp_7 : decode cX8_readStamp 7 = .ok (.if_icmp .ne 7, 3) := by decide +kernel
theorem dX8_readStamp_10 : decode cX8_readStamp 10 = .ok (.iconst 1, 1) := by decide +kernel
theorem dX8_readStamp_11 : decode cX8_readStamp 11 = .ok (.goto 4, 3) := by decide +kernel
theorem dX8_readStamp_14 : decode cX8_readStamp 14 = .ok (.iconst 0, 1) := by decide +kernel
theorem dX8_readStamp_15 : decode cX8_readStamp 15 = .ok (.invokevirtual 120, 3) := by decide +kernel
theorem dX8_readStamp_18 : decode cX8_readStamp 18 = .ok (.aload_n 0, 1) := by decide +kernel
theorem dX8_readStamp_19 : decode cX8_readStamp 19 = .ok (.aload_n 0, 1) := by decide +kernel
theorem dX8_readStamp_20 : decode cX8_readStamp 20 = .ok (.invokevirtual 116, 3) := by decide +kernel
theorem dX8_readStamp_23 : decode cX8_readStamp 23 = .ok (.bipush 116, 2) := by decide +kernel
theorem dX8_readStamp_25 : decode cX8_readStamp 25 = .ok (.if_icmp .ne 7, 3) := by decide +kernel
theorem dX8_readStamp_28 : decode cX8_readStamp 28 = .ok (.iconst 1, 1) := by decide +kernel
theorem dX8_readStamp_29 : decode cX8_readStamp 29 = .ok (.goto 4, 3) := by decide +kernel
theorem dX8_readStamp_32 : decode cX8_readStamp 32 = .ok (.iconst 0, 1) := by decide +kernel
theorem dX8_readStamp_33 : decode cX8_readStamp 33 = .ok (.invokevirtual 120, 3) := by decide +kernel
theorem dX8_readStamp_36 : decode cX8_readStamp 36 = .ok (.aload_n 0, 1) := by decide +kernel
theorem dX8_readStamp_37 : decode cX8_readStamp 37 = .ok (.aload_n 0, 1) := by decide +kernel
theorem dX8_readStamp_38 : decode cX8_readStamp 38 = .ok (.invokevirtual 116, 3) := by decide +kernel
theorem dX8_readStamp_41 : decode cX8_readStamp 41 = .ok (.bipush 97, 2) := by decide +kernel
theorem dX8_readStamp_43 : decode cX8_readStamp 43 = .ok (.if_icmp .ne 7, 3) := by decide +kernel
theorem dX8_readStamp_46 : decode cX8_readStamp 46 = .ok (.iconst 1, 1) := by decide +kernel
theorem dX8_readStamp_47 : decode cX8_readStamp 47 = .ok (.goto 4, 3) := by decide +kernel
theorem dX8_readStamp_50 : decode cX8_readStamp 50 = .ok (.iconst 0, 1) := by decide +kernel
theorem dX8_readStamp_51 : decode cX8_readStamp 51 = .ok (.invokevirtual 120, 3) := by decide +kernel
theorem dX8_readStamp_54 : decode cX8_readStamp 54 = .ok (.aload_n 0, 1) := by decide +kernel
theorem dX8_readStamp_55 : decode cX8_readStamp 55 = .ok (.aload_n 0, 1) := by decide +kernel
theorem dX8_readStamp_56 : decode cX8_readStamp 56 = .ok (.invokevirtual 116, 3) := by decide +kernel
theorem dX8_readStamp_59 : decode cX8_readStamp 59 = .ok (.bipush 109, 2) := by decide +kernel
theorem dX8_readStamp_61 : decode cX8_readStamp 61 = .ok (.if_icmp .ne 7, 3) := by decide +kernel
theorem dX8_readStamp_64 : decode cX8_readStamp 64 = .ok (.iconst 1, 1) := by decide +kernel
theorem dX8_readStamp_65 : decode cX8_readStamp 65 = .ok (.goto 4, 3) := by decide +kernel
theorem dX8_readStamp_68 : decode cX8_readStamp 68 = .ok (.iconst 0, 1) := by decide +kernel
theorem dX8_readStamp_69 : decode cX8_readStamp 69 = .ok (.invokevirtual 120, 3) := by decide +kernel
theorem dX8_readStamp_72 : decode cX8_readStamp 72 = .ok (.aload_n 0, 1) := by decide +kernel
theorem dX8_readStamp_73 : decode cX8_readStamp 73 = .ok (.aload_n 0, 1) := by decide +kernel
theorem dX8_readStamp_74 : decode cX8_readStamp 74 = .ok (.invokevirtual 116, 3) := by decide +kernel
theorem dX8_readStamp_77 : decode cX8_readStamp 77 = .ok (.bipush 112, 2) := by decide +kernel
theorem dX8_readStamp_79 : decode cX8_readStamp 79 = .ok (.if_icmp .ne 7, 3) := by decide +kernel
theorem dX8_readStamp_82 : decode cX8_readStamp 82 = .ok (.iconst 1, 1) := by decide +kernel
theorem dX8_readStamp_83 : decode cX8_readStamp 83 = .ok (.goto 4, 3) := by decide +kernel
theorem dX8_readStamp_86 : decode cX8_readStamp 86 = .ok (.iconst 0, 1) := by decide +kernel
theorem dX8_readStamp_87 : decode cX8_readStamp 87 = .ok (.invokevirtual 120, 3) := by decide +kernel
theorem dX8_readStamp_90 : decode cX8_readStamp 90 = .ok (.aload_n 0, 1) := by decide +kernel
theorem dX8_readStamp_91 : decode cX8_readStamp 91 = .ok (.iconst 0, 1) := by decide +kernel
theorem dX8_readStamp_92 : decode cX8_readStamp 92 = .ok (.bipush 23, 2) := by decide +kernel
theorem dX8_readStamp_94 : decode cX8_readStamp 94 = .ok (.invokevirtual 156, 3) := by decide +kernel
theorem dX8_readStamp_97 : decode cX8_readStamp 97 = .ok (.istore_n 1, 1) := by decide +kernel
theorem dX8_readStamp_98 : decode cX8_readStamp 98 = .ok (.aload_n 0, 1) := by decide +kernel
theorem dX8_readStamp_99 : decode cX8_readStamp 99 = .ok (.aload_n 0, 1) := by decide +kernel
theorem dX8_readStamp_100 : decode cX8_readStamp 100 = .ok (.invokevirtual 116, 3) := by decide +kernel
theorem dX8_readStamp_103 : decode cX8_readStamp 103 = .ok (.bipush 47, 2) := by decide +kernel
theorem dX8_readStamp_105 : decode cX8_readStamp 105 = .ok (.if_icmp .ne 7, 3) := by decide +kernel
theorem dX8_readStamp_108 : decode cX8_readStamp 108 = .ok (.iconst 1, 1) := by decide +kernel
theorem dX8_readStamp_109 : decode cX8_readStamp 109 = .ok (.goto 4, 3) := by decide +kernel
theorem dX8_readStamp_112 : decode cX8_readStamp 112 = .ok (.iconst 0, 1) := by decide +kernel
theorem dX8_readStamp_113 : decode cX8_readStamp 113 = .ok (.invokevirtual 120, 3) := by decide +kernel
theorem dX8_readStamp_116 : decode cX8_readStamp 116 = .ok (.aload_n 0, 1) := by decide +kernel
theorem dX8_readStamp_117 : decode cX8_readStamp 117 = .ok (.iconst 0, 1) := by decide +kernel
theorem dX8_readStamp_118 : decode cX8_readStamp 118 = .ok (.iconst 2, 1) := by decide +kernel
theorem dX8_readStamp_119 : decode cX8_readStamp 119 = .ok (.invokevirtual 124, 3) := by decide +kernel
theorem dX8_readStamp_122 : decode cX8_readStamp 122 = .ok (.istore_n 2, 1) := by decide +kernel
theorem dX8_readStamp_123 : decode cX8_readStamp 123 = .ok (.aload_n 0, 1) := by decide +kernel
theorem dX8_readStamp_124 : decode cX8_readStamp 124 = .ok (.aload_n 0, 1) := by decide +kernel
theorem dX8_readStamp_125 : decode cX8_readStamp 125 = .ok (.invokevirtual 135, 3) := by decide +kernel
theorem dX8_readStamp_128 : decode cX8_readStamp 128 = .ok (.ifCond .eq 29, 3) := by decide +kernel
theorem dX8_readStamp_131 : decode cX8_readStamp 131 = .ok (.aload_n 0, 1) := by decide +kernel
theorem dX8_readStamp_132 : decode cX8_readStamp 132 = .ok (.getfield 16, 3) := by decide +kernel
theorem dX8_readStamp_135 : decode cX8_readStamp 135 = .ok (.iload_n 1, 1) := by decide +kernel
theorem dX8_readStamp_136 : decode cX8_readStamp 136 = .ok (.invokestatic 178, 3) := by decide +kernel
theorem dX8_readStamp_139 : decode cX8_readStamp 139 = .ok (.ifCond .eq 18, 3) := by decide +kernel
theorem dX8_readStamp_142 : decode cX8_readStamp 142 = .ok (.aload_n 0, 1) := by decide +kernel
theorem dX8_readStamp_143 : decode cX8_readStamp 143 = .ok (.getfield 16, 3) := by decide +kernel
theorem dX8_readStamp_146 : decode cX8_readStamp 146 = .ok (.iload_n 1, 1) := by decide +kernel
theorem dX8_readStamp_147 : decode cX8_readStamp 147 = .ok (.invokestatic 181, 3) := by decide +kernel
theorem dX8_readStamp_150 : decode cX8_readStamp 150 = .ok (.ifCond .eq 7, 3) := by decide +kernel
theorem dX8_readStamp_153 : decode cX8_readStamp 153 = .ok (.iconst 1, 1) := by decide +kernel
theorem dX8_readStamp_154 : decode cX8_readStamp 154 = .ok (.goto 4, 3) := by decide +kernel
theorem dX8_readStamp_157 : decode cX8_readStamp 157 = .ok (.iconst 0, 1) := by decide +kernel
theorem dX8_readStamp_158 : decode cX8_readStamp 158 = .ok (.invokevirtual 146, 3) := by decide +kernel
theorem dX8_readStamp_161 : decode cX8_readStamp 161 = .ok (.ifCond .eq 13, 3) := by decide +kernel
theorem dX8_readStamp_164 : decode cX8_readStamp 164 = .ok (.aload_n 0, 1) := by decide +kernel
theorem dX8_readStamp_165 : decode cX8_readStamp 165 = .ok (.getfield 16, 3) := by decide +kernel
theorem dX8_readStamp_168 : decode cX8_readStamp 168 = .ok (.iload_n 1, 1) := by decide +kernel
theorem dX8_readStamp_169 : decode cX8_readStamp 169 = .ok (.iload_n 2, 1) := by decide +kernel
theorem dX8_readStamp_170 : decode cX8_readStamp 170 = .ok (.invokestatic 184, 3) := by decide +kernel
theorem dX8_readStamp_173 : decode cX8_readStamp 173 = .ok (.pop, 1) := by decide +kernel
theorem dX8_readStamp_174 : decode cX8_readStamp 174 = .ok (.return_, 1) := by decide +kernel
theorem dX8_readOrder_0 : decode cX8_readOrder 0 = .ok (.aload_n 0, 1) := by decide +kernel
theorem dX8_readOrder_1 : decode cX8_readOrder 1 = .ok (.invokevirtual 116, 3) := by decide +kernel
theorem dX8_readOrder_4 : decode cX8_readOrder 4 = .ok (.lookupswitch 116 #[(100, 44), (112, 51), (114, 65), (115, 58)], 44) := by decide +kernel
theorem dX8_readOrder_48 : decode cX8_readOrder 48 = .ok (.aload_n 0, 1) := by decide +kernel
theorem dX8_readOrder_49 : decode cX8_readOrder 49 = .ok (.invokevirtual 187, 3) := by decide +kernel
theorem dX8_readOrder_52 : decode cX8_readOrder 52 = .ok (.goto 73, 3) := by decide +kernel
theorem dX8_readOrder_55 : decode cX8_readOrder 55 = .ok (.aload_n 0, 1) := by decide +kernel
theorem dX8_readOrder_56 : decode cX8_readOrder 56 = .ok (.invokevirtual 190, 3) := by decide +kernel
theorem dX8_readOrder_59 : decode cX8_readOrder 59 = .ok (.goto 66, 3) := by decide +kernel
theorem dX8_readOrder_62 : decode cX8_readOrder 62 = .ok (.aload_n 0, 1) := by decide +kernel
theorem dX8_readOrder_63 : decode cX8_readOrder 63 = .ok (.invokevirtual 193, 3) := by decide +kernel
theorem dX8_readOrder_66 : decode cX8_readOrder 66 = .ok (.goto 59, 3) := by decide +kernel
theorem dX8_readOrder_69 : decode cX8_readOrder 69 = .ok (.aload_n 0, 1) := by decide +kernel
theorem dX8_readOrder_70 : decode cX8_readOrder 70 = .ok (.iconst 1, 1) := by decide +kernel
theorem dX8_readOrder_71 : decode cX8_readOrder 71 = .ok (.invokevirtual 120, 3) := by decide +kernel
theorem dX8_readOrder_74 : decode cX8_readOrder 74 = .ok (.aload_n 0, 1) := by decide +kernel
theorem dX8_readOrder_75 : decode cX8_readOrder 75 = .ok (.invokevirtual 116, 3) := by decide +kernel
theorem dX8_readOrder_78 : decode cX8_readOrder 78 = .ok (.bipush 101, 2) := by decide +kernel
theorem dX8_readOrder_80 : decode cX8_readOrder 80 = .ok (.if_icmp .ne 15, 3) := by decide +kernel
theorem dX8_readOrder_83 : decode cX8_readOrder 83 = .ok (.aload_n 0, 1) := by decide +kernel
theorem dX8_readOrder_84 : decode cX8_readOrder 84 = .ok (.iconst 1, 1) := by decide +kernel
theorem dX8_readOrder_85 : decode cX8_readOrder 85 = .ok (.invokevirtual 120, 3) := by decide +kernel
theorem dX8_readOrder_88 : decode cX8_readOrder 88 = .ok (.aload_n 0, 1) := by decide +kernel
theorem dX8_readOrder_89 : decode cX8_readOrder 89 = .ok (.invokevirtual 196, 3) := by decide +kernel
theorem dX8_readOrder_92 : decode cX8_readOrder 92 = .ok (.goto 33, 3) := by decide +kernel
theorem dX8_readOrder_95 : decode cX8_readOrder 95 = .ok (.aload_n 0, 1) := by decide +kernel
theorem dX8_readOrder_96 : decode cX8_readOrder 96 = .ok (.aload_n 0, 1) := by decide +kernel
theorem dX8_readOrder_97 : decode cX8_readOrder 97 = .ok (.invokevirtual 116, 3) := by decide +kernel
theorem dX8_readOrder_100 : decode cX8_readOrder 100 = .ok (.bipush 117, 2) := by decide +kernel
theorem dX8_readOrder_102 : decode cX8_readOrder 102 = .ok (.if_icmp .ne 7, 3) := by decide +kernel
theorem dX8_readOrder_105 : decode cX8_readOrder 105 = .ok (.iconst 1, 1) := by decide +kernel
theorem dX8_readOrder_106 : decode cX8_readOrder 106 = .ok (.goto 4, 3) := by decide +kernel
theorem dX8_readOrder_109 : decode cX8_readOrder 109 = .ok (.iconst 0, 1) := by decide +kernel
theorem dX8_readOrder_110 : decode cX8_readOrder 110 = .ok (.invokevirtual 120, 3) := by decide +kernel
theorem dX8_readOrder_113 : decode cX8_readOrder 113 = .ok (.aload_n 0, 1) := by decide +kernel
theorem dX8_readOrder_114 : decode cX8_readOrder 114 = .ok (.invokevirtual 199, 3) := by decide +kernel
theorem dX8_readOrder_117 : decode cX8_readOrder 117 = .ok (.goto 8, 3) := by decide +kernel
theorem dX8_readOrder_120 : decode cX8_readOrder 120 = .ok (.aload_n 0, 1) := by decide +kernel
theorem dX8_readOrder_121 : decode cX8_readOrder 121 = .ok (.iconst 0, 1) := by decide +kernel
theorem dX8_readOrder_122 : decode cX8_readOrder 122 = .ok (.putfield 112, 3) := by decide +kernel
theorem dX8_readOrder_125 : decode cX8_readOrder 125 = .ok (.return_, 1) := by decide +kernel
theorem dX8_readAll_0 : decode cX8_readAll 0 = .ok (.aload_n 0, 1) := by decide +kernel
theorem dX8_readAll_1 : decode cX8_readAll 1 = .ok (.iconst 0, 1) := by decide +kernel
theorem dX8_readAll_2 : decode cX8_readAll 2 = .ok (.putfield 109, 3) := by decide +kernel
theorem dX8_readAll_5 : decode cX8_readAll 5 = .ok (.aload_n 0, 1) := by decide +kernel
theorem dX8_readAll_6 : decode cX8_readAll 6 = .ok (.iconst 1, 1) := by decide +kernel
theorem dX8_readAll_7 : decode cX8_readAll 7 = .ok (.putfield 112, 3) := by decide +kernel
theorem dX8_readAll_10 : decode cX8_readAll 10 = .ok (.aload_n 0, 1) := by decide +kernel
theorem dX8_readAll_11 : decode cX8_readAll 11 = .ok (.iconst 0, 1) := by decide +kernel
theorem dX8_readAll_12 : decode cX8_readAll 12 = .ok (.putfield 132, 3) := by decide +kernel
theorem dX8_readAll_15 : decode cX8_readAll 15 = .ok (.aload_n 0, 1) := by decide +kernel
theorem dX8_readAll_16 : decode cX8_readAll 16 = .ok (.getfield 16, 3) := by decide +kernel
theorem dX8_readAll_19 : decode cX8_readAll 19 = .ok (.invokestatic 32, 3) := by decide +kernel
theorem dX8_readAll_22 : decode cX8_readAll 22 = .ok (.aload_n 0, 1) := by decide +kernel
theorem dX8_readAll_23 : decode cX8_readAll 23 = .ok (.invokevirtual 202, 3) := by decide +kernel
theorem dX8_readAll_26 : decode cX8_readAll 26 = .ok (.aload_n 0, 1) := by decide +kernel
theorem dX8_readAll_27 : decode cX8_readAll 27 = .ok (.getfield 112, 3) := by decide +kernel
theorem dX8_readAll_30 : decode cX8_readAll 30 = .ok (.ifCond .eq 26, 3) := by decide +kernel
theorem dX8_readAll_33 : decode cX8_readAll 33 = .ok (.aload_n 0, 1) := by decide +kernel
theorem dX8_readAll_34 : decode cX8_readAll 34 = .ok (.getfield 109, 3) := by decide +kernel
theorem dX8_readAll_37 : decode cX8_readAll 37 = .ok (.aload_n 0, 1) := by decide +kernel
theorem dX8_readAll_38 : decode cX8_readAll 38 = .ok (.getfield 102, 3) := by decide +kernel
theorem dX8_readAll_41 : decode cX8_readAll 41 = .ok (.if_icmp .ge 15, 3) := by decide +kernel
theorem dX8_readAll_44 : decode cX8_readAll 44 = .ok (.aload_n 0, 1) := by decide +kernel
theorem dX8_readAll_45 : decode cX8_readAll 45 = .ok (.iconst 1, 1) := by decide +kernel
theorem dX8_readAll_46 : decode cX8_readAll 46 = .ok (.invokevirtual 120, 3) := by decide +kernel
theorem dX8_readAll_49 : decode cX8_readAll 49 = .ok (.aload_n 0, 1) := by decide +kernel
theorem dX8_readAll_50 : decode cX8_readAll 50 = .ok (.invokevirtual 202, 3) := by decide +kernel
theorem dX8_readAll_53 : decode cX8_readAll 53 = .ok (.goto (-27), 3) := by decide +kernel
theorem dX8_readAll_56 : decode cX8_readAll 56 = .ok (.aload_n 0, 1) := by decide +kernel
theorem dX8_readAll_57 : decode cX8_readAll 57 = .ok (.getfield 112, 3) := by decide +kernel
theorem dX8_readAll_60 : decode cX8_readAll 60 = .ok (.ifCond .eq 7, 3) := by decide +kernel
theorem dX8_readAll_63 : decode cX8_readAll 63 = .ok (.iconst (-1), 1) := by decide +kernel
theorem dX8_readAll_64 : decode cX8_readAll 64 = .ok (.goto 7, 3) := by decide +kernel
theorem dX8_readAll_67 : decode cX8_readAll 67 = .ok (.aload_n 0, 1) := by decide +kernel
theorem dX8_readAll_68 : decode cX8_readAll 68 = .ok (.getfield 109, 3) := by decide +kernel
theorem dX8_readAll_71 : decode cX8_readAll 71 = .ok (.ireturn, 1) := by decide +kernel
theorem dX8_errorPosition_0 : decode cX8_errorPosition 0 = .ok (.aload_n 0, 1) := by decide +kernel
theorem dX8_errorPosition_1 : decode cX8_errorPosition 1 = .ok (.iconst 0, 1) := by decide +kernel
theorem dX8_errorPosition_2 : decode cX8_errorPosition 2 = .ok (.putfield 36, 3) := by decide +kernel
theorem dX8_errorPosition_5 : decode cX8_errorPosition 5 = .ok (.aload_n 0, 1) := by decide +kernel
theorem dX8_errorPosition_6 : decode cX8_errorPosition 6 = .ok (.invokevirtual 205, 3) := by decide +kernel
theorem dX8_errorPosition_9 : decode cX8_errorPosition 9 = .ok (.ireturn, 1) := by decide +kernel
theorem dX8_load_0 : decode cX8_load 0 = .ok (.aload_n 0, 1) := by decide +kernel
theorem dX8_load_1 : decode cX8_load 1 = .ok (.aload_n 0, 1) := by decide +kernel
theorem dX8_load_2 : decode cX8_load 2 = .ok (.invokevirtual 205, 3) := by decide +kernel
theorem dX8_load_5 : decode cX8_load 5 = .ok (.iconst (-1), 1) := by decide +kernel
theorem dX8_load_6 : decode cX8_load 6 = .ok (.if_icmp .ne 7, 3) := by decide +kernel
theorem dX8_load_9 : decode cX8_load 9 = .ok (.iconst 0, 1) := by decide +kernel
theorem dX8_load_10 : decode cX8_load 10 = .ok (.goto 4, 3) := by decide +kernel
theorem dX8_load_13 : decode cX8_load 13 = .ok (.iconst 1, 1) := by decide +kernel
theorem dX8_load_14 : decode cX8_load 14 = .ok (.invokevirtual 105, 3) := by decide +kernel
theorem dX8_load_17 : decode cX8_load 17 = .ok (.ifCond .eq 5, 3) := by decide +kernel
theorem dX8_load_20 : decode cX8_load 20 = .ok (.iconst 0, 1) := by decide +kernel
theorem dX8_load_21 : decode cX8_load 21 = .ok (.ireturn, 1) := by decide +kernel
theorem dX8_load_22 : decode cX8_load 22 = .ok (.aload_n 0, 1) := by decide +kernel
theorem dX8_load_23 : decode cX8_load 23 = .ok (.getfield 16, 3) := by decide +kernel
theorem dX8_load_26 : decode cX8_load 26 = .ok (.aload_n 0, 1) := by decide +kernel
theorem dX8_load_27 : decode cX8_load 27 = .ok (.getfield 7, 3) := by decide +kernel
theorem dX8_load_30 : decode cX8_load 30 = .ok (.invokestatic 208, 3) := by decide +kernel
theorem dX8_load_33 : decode cX8_load 33 = .ok (.aload_n 0, 1) := by decide +kernel
theorem dX8_load_34 : decode cX8_load 34 = .ok (.iconst 0, 1) := by decide +kernel
theorem dX8_load_35 : decode cX8_load 35 = .ok (.putfield 97, 3) := by decide +kernel
theorem dX8_load_38 : decode cX8_load 38 = .ok (.aload_n 0, 1) := by decide +kernel
theorem dX8_load_39 : decode cX8_load 39 = .ok (.getfield 25, 3) := by decide +kernel
theorem dX8_load_42 : decode cX8_load 42 = .ok (.iconst 0, 1) := by decide +kernel
theorem dX8_load_43 : decode cX8_load 43 = .ok (.iconst 0, 1) := by decide +kernel
theorem dX8_load_44 : decode cX8_load 44 = .ok (.bastore, 1) := by decide +kernel
theorem dX8_load_45 : decode cX8_load 45 = .ok (.aload_n 0, 1) := by decide +kernel
theorem dX8_load_46 : decode cX8_load 46 = .ok (.getfield 25, 3) := by decide +kernel
theorem dX8_load_49 : decode cX8_load 49 = .ok (.iconst 1, 1) := by decide +kernel
theorem dX8_load_50 : decode cX8_load 50 = .ok (.iconst 0, 1) := by decide +kernel
theorem dX8_load_51 : decode cX8_load 51 = .ok (.bastore, 1) := by decide +kernel
theorem dX8_load_52 : decode cX8_load 52 = .ok (.aload_n 0, 1) := by decide +kernel
theorem dX8_load_53 : decode cX8_load 53 = .ok (.getfield 132, 3) := by decide +kernel
theorem dX8_load_56 : decode cX8_load 56 = .ok (.ireturn, 1) := by decide +kernel
theorem dX8_out_0 : decode cX8_out 0 = .ok (.iconst 0, 1) := by decide +kernel
theorem dX8_out_1 : decode cX8_out 1 = .ok (.istore_n 2, 1) := by decide +kernel
theorem dX8_out_2 : decode cX8_out 2 = .ok (.iconst 0, 1) := by decide +kernel
theorem dX8_out_3 : decode cX8_out 3 = .ok (.istore_n 3, 1) := by decide +kernel
theorem dX8_out_4 : decode cX8_out 4 = .ok (.iload_n 3, 1) := by decide +kernel
theorem dX8_out_5 : decode cX8_out 5 = .ok (.aload_n 0, 1) := by decide +kernel
theorem dX8_out_6 : decode cX8_out 6 = .ok (.iconst 1, 1) := by decide +kernel
theorem dX8_out_7 : decode cX8_out 7 = .ok (.iaload, 1) := by decide +kernel
theorem dX8_out_8 : decode cX8_out 8 = .ok (.if_icmp .ge 37, 3) := by decide +kernel
theorem dX8_out_11 : decode cX8_out 11 = .ok (.iload_n 2, 1) := by decide +kernel
theorem dX8_out_12 : decode cX8_out 12 = .ok (.aload_n 0, 1) := by decide +kernel
theorem dX8_out_13 : decode cX8_out 13 = .ok (.iload_n 3, 1) := by decide +kernel
theorem dX8_out_14 : decode cX8_out 14 = .ok (.invokestatic 70, 3) := by decide +kernel
theorem dX8_out_17 : decode cX8_out 17 = .ok (.ifCond .eq 19, 3) := by decide +kernel
theorem dX8_out_20 : decode cX8_out 20 = .ok (.iload_n 1, 1) := by decide +kernel
theorem dX8_out_21 : decode cX8_out 21 = .ok (.ifCond .eq 11, 3) := by decide +kernel
theorem dX8_out_24 : decode cX8_out 24 = .ok (.aload_n 0, 1) := by decide +kernel
theorem dX8_out_25 : decode cX8_out 25 = .ok (.iload_n 3, 1) := by decide +kernel
theorem dX8_out_26 : decode cX8_out 26 = .ok (.invokestatic 74, 3) := by decide +kernel
theorem dX8_out_29 : decode cX8_out 29 = .ok (.ifCond .eq 7, 3) := by decide +kernel
theorem dX8_out_32 : decode cX8_out 32 = .ok (.iconst 1, 1) := by decide +kernel
theorem dX8_out_33 : decode cX8_out 33 = .ok (.goto 4, 3) := by decide +kernel
theorem dX8_out_36 : decode cX8_out 36 = .ok (.iconst 0, 1) := by decide +kernel
theorem dX8_out_37 : decode cX8_out 37 = .ok (.iadd, 1) := by decide +kernel
theorem dX8_out_38 : decode cX8_out 38 = .ok (.istore_n 2, 1) := by decide +kernel
theorem dX8_out_39 : decode cX8_out 39 = .ok (.iinc 3 1, 3) := by decide +kernel
theorem dX8_out_42 : decode cX8_out 42 = .ok (.goto (-38), 3) := by decide +kernel
theorem dX8_out_45 : decode cX8_out 45 = .ok (.iload_n 2, 1) := by decide +kernel
theorem dX8_out_46 : decode cX8_out 46 = .ok (.ireturn, 1) := by decide +kernel
theorem dX8_about_0 : decode cX8_about 0 = .ok (.aload_n 0, 1) := by decide +kernel
theorem dX8_about_1 : decode cX8_about 1 = .ok (.iload_n 1, 1) := by decide +kernel
theorem dX8_about_2 : decode cX8_about 2 = .ok (.i2l, 1) := by decide +kernel
theorem dX8_about_3 : decode cX8_about 3 = .ok (.lconst 0, 1) := by decide +kernel
theorem dX8_about_4 : decode cX8_about 4 = .ok (.ldc2_w 212, 3) := by decide +kernel
theorem dX8_about_7 : decode cX8_about 7 = .ok (.invokestatic 42, 3) := by decide +kernel
theorem dX8_about_10 : decode cX8_about 10 = .ok (.ifCond .eq 7, 3) := by decide +kernel
theorem dX8_about_13 : decode cX8_about 13 = .ok (.iconst 0, 1) := by decide +kernel
theorem dX8_about_14 : decode cX8_about 14 = .ok (.goto 4, 3) := by decide +kernel
theorem dX8_about_17 : decode cX8_about 17 = .ok (.iconst 1, 1) := by decide +kernel
theorem dX8_about_18 : decode cX8_about 18 = .ok (.invokevirtual 105, 3) := by decide +kernel
theorem dX8_about_21 : decode cX8_about 21 = .ok (.ifCond .eq 5, 3) := by decide +kernel
theorem dX8_about_24 : decode cX8_about 24 = .ok (.iconst 0, 1) := by decide +kernel
theorem dX8_about_25 : decode cX8_about 25 = .ok (.ireturn, 1) := by decide +kernel
theorem dX8_about_26 : decode cX8_about 26 = .ok (.iload_n 1, 1) := by decide +kernel
theorem dX8_about_27 : decode cX8_about 27 = .ok (.tableswitch 128 0 8 #[49, 56, 63, 72, 81, 95, 102, 110, 121], 49) := by decide +kernel
theorem dX8_about_76 : decode cX8_about 76 = .ok (.aload_n 0, 1) := by decide +kernel
theorem dX8_about_77 : decode cX8_about 77 = .ok (.getfield 7, 3) := by decide +kernel
theorem dX8_about_80 : decode cX8_about 80 = .ok (.iconst 0, 1) := by decide +kernel
theorem dX8_about_81 : decode cX8_about 81 = .ok (.iaload, 1) := by decide +kernel
theorem dX8_about_82 : decode cX8_about 82 = .ok (.ireturn, 1) := by decide +kernel
theorem dX8_about_83 : decode cX8_about 83 = .ok (.aload_n 0, 1) := by decide +kernel
theorem dX8_about_84 : decode cX8_about 84 = .ok (.getfield 7, 3) := by decide +kernel
theorem dX8_about_87 : decode cX8_about 87 = .ok (.iconst 1, 1) := by decide +kernel
theorem dX8_about_88 : decode cX8_about 88 = .ok (.iaload, 1) := by decide +kernel
theorem dX8_about_89 : decode cX8_about 89 = .ok (.ireturn, 1) := by decide +kernel
theorem dX8_about_90 : decode cX8_about 90 = .ok (.aload_n 0, 1) := by decide +kernel
theorem dX8_about_91 : decode cX8_about 91 = .ok (.getfield 7, 3) := by decide +kernel
theorem dX8_about_94 : decode cX8_about 94 = .ok (.iconst 0, 1) := by decide +kernel
theorem dX8_about_95 : decode cX8_about 95 = .ok (.invokestatic 214, 3) := by decide +kernel
theorem dX8_about_98 : decode cX8_about 98 = .ok (.ireturn, 1) := by decide +kernel
theorem dX8_about_99 : decode cX8_about 99 = .ok (.aload_n 0, 1) := by decide +kernel
theorem dX8_about_100 : decode cX8_about 100 = .ok (.getfield 7, 3) := by decide +kernel
theorem dX8_about_103 : decode cX8_about 103 = .ok (.iconst 1, 1) := by decide +kernel
theorem dX8_about_104 : decode cX8_about 104 = .ok (.invokestatic 214, 3) := by decide +kernel
theorem dX8_about_107 : decode cX8_about 107 = .ok (.ireturn, 1) := by decide +kernel
theorem dX8_about_108 : decode cX8_about 108 = .ok (.aload_n 0, 1) := by decide +kernel
theorem dX8_about_109 : decode cX8_about 109 = .ok (.getfield 7, 3) := by decide +kernel
theorem dX8_about_112 : decode cX8_about 112 = .ok (.aload_n 0, 1) := by decide +kernel
theorem dX8_about_113 : decode cX8_about 113 = .ok (.getfield 7, 3) := by decide +kernel
theorem dX8_about_116 : decode cX8_about 116 = .ok (.iconst 3, 1) := by decide +kernel
theorem dX8_about_117 : decode cX8_about 117 = .ok (.iaload, 1) := by decide +kernel
theorem dX8_about_118 : decode cX8_about 118 = .ok (.invokestatic 94, 3) := by decide +kernel
theorem dX8_about_121 : decode cX8_about 121 = .ok (.ireturn, 1) := by decide +kernel
theorem dX8_about_122 : decode cX8_about 122 = .ok (.aload_n 0, 1) := by decide +kernel
theorem dX8_about_123 : decode cX8_about 123 = .ok (.getfield 7, 3) := by decide +kernel
theorem dX8_about_126 : decode cX8_about 126 = .ok (.iconst 2, 1) := by decide +kernel
theorem dX8_about_127 : decode cX8_about 127 = .ok (.iaload, 1) := by decide +kernel
theorem dX8_about_128 : decode cX8_about 128 = .ok (.ireturn, 1) := by decide +kernel
theorem dX8_about_129 : decode cX8_about 129 = .ok (.aload_n 0, 1) := by decide +kernel
theorem dX8_about_130 : decode cX8_about 130 = .ok (.getfield 7, 3) := by decide +kernel
theorem dX8_about_133 : decode cX8_about 133 = .ok (.invokestatic 90, 3) := by decide +kernel
theorem dX8_about_136 : decode cX8_about 136 = .ok (.ireturn, 1) := by decide +kernel
theorem dX8_about_137 : decode cX8_about 137 = .ok (.aload_n 0, 1) := by decide +kernel
theorem dX8_about_138 : decode cX8_about 138 = .ok (.getfield 7, 3) := by decide +kernel
theorem dX8_about_141 : decode cX8_about 141 = .ok (.bipush 8, 2) := by decide +kernel
theorem dX8_about_143 : decode cX8_about 143 = .ok (.iaload, 1) := by decide +kernel
theorem dX8_about_144 : decode cX8_about 144 = .ok (.invokestatic 77, 3) := by decide +kernel
theorem dX8_about_147 : decode cX8_about 147 = .ok (.ireturn, 1) := by decide +kernel
theorem dX8_about_148 : decode cX8_about 148 = .ok (.aload_n 0, 1) := by decide +kernel
theorem dX8_about_149 : decode cX8_about 149 = .ok (.getfield 7, 3) := by decide +kernel
theorem dX8_about_152 : decode cX8_about 152 = .ok (.iconst 3, 1) := by decide +kernel
theorem dX8_about_153 : decode cX8_about 153 = .ok (.iaload, 1) := by decide +kernel
theorem dX8_about_154 : decode cX8_about 154 = .ok (.ireturn, 1) := by decide +kernel
theorem dX8_about_155 : decode cX8_about 155 = .ok (.aload_n 0, 1) := by decide +kernel
theorem dX8_about_156 : decode cX8_about 156 = .ok (.getfield 7, 3) := by decide +kernel
theorem dX8_about_159 : decode cX8_about 159 = .ok (.iconst 4, 1) := by decide +kernel
theorem dX8_about_160 : decode cX8_about 160 = .ok (.iaload, 1) := by decide +kernel
theorem dX8_about_161 : decode cX8_about 161 = .ok (.ireturn, 1) := by decide +kernel
theorem dX8_outOf_0 : decode cX8_outOf 0 = .ok (.iconst 0, 1) := by decide +kernel
theorem dX8_outOf_1 : decode cX8_outOf 1 = .ok (.istore_n 2, 1) := by decide +kernel
theorem dX8_outOf_2 : decode cX8_outOf 2 = .ok (.iconst 0, 1) := by decide +kernel
theorem dX8_outOf_3 : decode cX8_outOf 3 = .ok (.istore_n 3, 1) := by decide +kernel
theorem dX8_outOf_4 : decode cX8_outOf 4 = .ok (.iload_n 3, 1) := by decide +kernel
theorem dX8_outOf_5 : decode cX8_outOf 5 = .ok (.aload_n 0, 1) := by decide +kernel
theorem dX8_outOf_6 : decode cX8_outOf 6 = .ok (.iconst 1, 1) := by decide +kernel
theorem dX8_outOf_7 : decode cX8_outOf 7 = .ok (.iaload, 1) := by decide +kernel
theorem dX8_outOf_8 : decode cX8_outOf 8 = .ok (.if_icmp .ge 36, 3) := by decide +kernel
theorem dX8_outOf_11 : decode cX8_outOf 11 = .ok (.iload_n 2, 1) := by decide +kernel
theorem dX8_outOf_12 : decode cX8_outOf 12 = .ok (.aload_n 0, 1) := by decide +kernel
theorem dX8_outOf_13 : decode cX8_outOf 13 = .ok (.sipush 150, 3) := by decide +kernel
theorem dX8_outOf_16 : decode cX8_outOf 16 = .ok (.iload_n 3, 1) := by decide +kernel
theorem dX8_outOf_17 : decode cX8_outOf 17 = .ok (.iadd, 1) := by decide +kernel
theorem dX8_outOf_18 : decode cX8_outOf 18 = .ok (.iaload, 1) := by decide +kernel
theorem dX8_outOf_19 : decode cX8_outOf 19 = .ok (.iload_n 1, 1) := by decide +kernel
theorem dX8_outOf_20 : decode cX8_outOf 20 = .ok (.if_icmp .ne 15, 3) := by decide +kernel
theorem dX8_outOf_23 : decode cX8_outOf 23 = .ok (.aload_n 0, 1) := by decide +kernel
theorem dX8_outOf_24 : decode cX8_outOf 24 = .ok (.iload_n 3, 1) := by decide +kernel
theorem dX8_outOf_25 : decode cX8_outOf 25 = .ok (.invokestatic 70, 3) := by decide +kernel
theorem dX8_outOf_28 : decode cX8_outOf 28 = .ok (.ifCond .eq 7, 3) := by decide +kernel
theorem dX8_outOf_31 : decode cX8_outOf 31 = .ok (.iconst 1, 1) := by decide +kernel
theorem dX8_outOf_32 : decode cX8_outOf 32 = .ok (.goto 4, 3) := by decide +kernel
theorem dX8_outOf_35 : decode cX8_outOf 35 = .ok (.iconst 0, 1) := by decide +kernel
theorem dX8_outOf_36 : decode cX8_outOf 36 = .ok (.iadd, 1) := by decide +kernel
theorem dX8_outOf_37 : decode cX8_outOf 37 = .ok (.istore_n 2, 1) := by decide +kernel
theorem dX8_outOf_38 : decode cX8_outOf 38 = .ok (.iinc 3 1, 3) := by decide +kernel
theorem dX8_outOf_41 : decode cX8_outOf 41 = .ok (.goto (-37), 3) := by decide +kernel
theorem dX8_outOf_44 : decode cX8_outOf 44 = .ok (.iload_n 2, 1) := by decide +kernel
theorem dX8_outOf_45 : decode cX8_outOf 45 = .ok (.ireturn, 1) := by decide +kernel
theorem dX8_wrongOf_0 : decode cX8_wrongOf 0 = .ok (.iconst 0, 1) := by decide +kernel
theorem dX8_wrongOf_1 : decode cX8_wrongOf 1 = .ok (.istore_n 2, 1) := by decide +kernel
theorem dX8_wrongOf_2 : decode cX8_wrongOf 2 = .ok (.iconst 0, 1) := by decide +kernel
theorem dX8_wrongOf_3 : decode cX8_wrongOf 3 = .ok (.istore_n 3, 1) := by decide +kernel
theorem dX8_wrongOf_4 : decode cX8_wrongOf 4 = .ok (.iload_n 3, 1) := by decide +kernel
theorem dX8_wrongOf_5 : decode cX8_wrongOf 5 = .ok (.aload_n 0, 1) := by decide +kernel
theorem dX8_wrongOf_6 : decode cX8_wrongOf 6 = .ok (.iconst 2, 1) := by decide +kernel
theorem dX8_wrongOf_7 : decode cX8_wrongOf 7 = .ok (.iaload, 1) := by decide +kernel
theorem dX8_wrongOf_8 : decode cX8_wrongOf 8 = .ok (.if_icmp .ge 36, 3) := by decide +kernel
theorem dX8_wrongOf_11 : decode cX8_wrongOf 11 = .ok (.iload_n 2, 1) := by decide +kernel
theorem dX8_wrongOf_12 : decode cX8_wrongOf 12 = .ok (.aload_n 0, 1) := by decide +kernel
theorem dX8_wrongOf_13 : decode cX8_wrongOf 13 = .ok (.sipush 324, 3) := by decide +kernel
theorem dX8_wrongOf_16 : decode cX8_wrongOf 16 = .ok (.iload_n 3, 1) := by decide +kernel
theorem dX8_wrongOf_17 : decode cX8_wrongOf 17 = .ok (.iadd, 1) := by decide +kernel
theorem dX8_wrongOf_18 : decode cX8_wrongOf 18 = .ok (.iaload, 1) := by decide +kernel
theorem dX8_wrongOf_19 : decode cX8_wrongOf 19 = .ok (.iload_n 1, 1) := by decide +kernel
theorem dX8_wrongOf_20 : decode cX8_wrongOf 20 = .ok (.if_icmp .ne 15, 3) := by decide +kernel
theorem dX8_wrongOf_23 : decode cX8_wrongOf 23 = .ok (.aload_n 0, 1) := by decide +kernel
theorem dX8_wrongOf_24 : decode cX8_wrongOf 24 = .ok (.iload_n 3, 1) := by decide +kernel
theorem dX8_wrongOf_25 : decode cX8_wrongOf 25 = .ok (.invokestatic 81, 3) := by decide +kernel
theorem dX8_wrongOf_28 : decode cX8_wrongOf 28 = .ok (.ifCond .eq 7, 3) := by decide +kernel
theorem dX8_wrongOf_31 : decode cX8_wrongOf 31 = .ok (.iconst 1, 1) := by decide +kernel
theorem dX8_wrongOf_32 : decode cX8_wrongOf 32 = .ok (.goto 4, 3) := by decide +kernel
theorem dX8_wrongOf_35 : decode cX8_wrongOf 35 = .ok (.iconst 0, 1) := by decide +kernel
theorem dX8_wrongOf_36 : decode cX8_wrongOf 36 = .ok (.iadd, 1) := by decide +kernel
theorem dX8_wrongOf_37 : decode cX8_wrongOf 37 = .ok (.istore_n 2, 1) := by decide +kernel
theorem dX8_wrongOf_38 : decode cX8_wrongOf 38 = .ok (.iinc 3 1, 3) := by decide +kernel
theorem dX8_wrongOf_41 : decode cX8_wrongOf 41 = .ok (.goto (-37), 3) := by decide +kernel
theorem dX8_wrongOf_44 : decode cX8_wrongOf 44 = .ok (.iload_n 2, 1) := by decide +kernel
theorem dX8_wrongOf_45 : decode cX8_wrongOf 45 = .ok (.ireturn, 1) := by decide +kernel
theorem dX8_sheet_0 : decode cX8_sheet 0 = .ok (.aload_n 0, 1) := by decide +kernel
theorem dX8_sheet_1 : decode cX8_sheet 1 = .ok (.aload_n 0, 1) := by decide +kernel
theorem dX8_sheet_2 : decode cX8_sheet 2 = .ok (.getfield 7, 3) := by decide +kernel
theorem dX8_sheet_5 : decode cX8_sheet 5 = .ok (.iload_n 1, 1) := by decide +kernel
theorem dX8_sheet_6 : decode cX8_sheet 6 = .ok (.invokestatic 139, 3) := by decide +kernel
theorem dX8_sheet_9 : decode cX8_sheet 9 = .ok (.ifCond .ne 7, 3) := by decide +kernel
theorem dX8_sheet_12 : decode cX8_sheet 12 = .ok (.iconst 1, 1) := by decide +kernel
theorem dX8_sheet_13 : decode cX8_sheet 13 = .ok (.goto 20, 3) := by decide +kernel
theorem dX8_sheet_16 : decode cX8_sheet 16 = .ok (.iload_n 2, 1) := by decide +kernel
theorem dX8_sheet_17 : decode cX8_sheet 17 = .ok (.i2l, 1) := by decide +kernel
theorem dX8_sheet_18 : decode cX8_sheet 18 = .ok (.lconst 0, 1) := by decide +kernel
theorem dX8_sheet_19 : decode cX8_sheet 19 = .ok (.ldc2_w 218, 3) := by decide +kernel
theorem dX8_sheet_22 : decode cX8_sheet 22 = .ok (.invokestatic 42, 3) := by decide +kernel
theorem dX8_sheet_25 : decode cX8_sheet 25 = .ok (.ifCond .ne 7, 3) := by decide +kernel
theorem dX8_sheet_28 : decode cX8_sheet 28 = .ok (.iconst 2, 1) := by decide +kernel
theorem dX8_sheet_29 : decode cX8_sheet 29 = .ok (.goto 4, 3) := by decide +kernel
theorem dX8_sheet_32 : decode cX8_sheet 32 = .ok (.iconst 0, 1) := by decide +kernel
theorem dX8_sheet_33 : decode cX8_sheet 33 = .ok (.invokevirtual 105, 3) := by decide +kernel
theorem dX8_sheet_36 : decode cX8_sheet 36 = .ok (.ifCond .eq 5, 3) := by decide +kernel
theorem dX8_sheet_39 : decode cX8_sheet 39 = .ok (.iconst 0, 1) := by decide +kernel
theorem dX8_sheet_40 : decode cX8_sheet 40 = .ok (.ireturn, 1) := by decide +kernel
theorem dX8_sheet_41 : decode cX8_sheet 41 = .ok (.iload_n 2, 1) := by decide +kernel
theorem dX8_sheet_42 : decode cX8_sheet 42 = .ok (.tableswitch 118 0 6 #[42, 52, 62, 82, 91, 100, 109], 42) := by decide +kernel
theorem dX8_sheet_84 : decode cX8_sheet 84 = .ok (.aload_n 0, 1) := by decide +kernel
theorem dX8_sheet_85 : decode cX8_sheet 85 = .ok (.getfield 7, 3) := by decide +kernel
theorem dX8_sheet_88 : decode cX8_sheet 88 = .ok (.bipush 10, 2) := by decide +kernel
theorem dX8_sheet_90 : decode cX8_sheet 90 = .ok (.iload_n 1, 1) := by decide +kernel
theorem dX8_sheet_91 : decode cX8_sheet 91 = .ok (.iadd, 1) := by decide +kernel
theorem dX8_sheet_92 : decode cX8_sheet 92 = .ok (.iaload, 1) := by decide +kernel
theorem dX8_sheet_93 : decode cX8_sheet 93 = .ok (.ireturn, 1) := by decide +kernel
theorem dX8_sheet_94 : decode cX8_sheet 94 = .ok (.aload_n 0, 1) := by decide +kernel
theorem dX8_sheet_95 : decode cX8_sheet 95 = .ok (.getfield 7, 3) := by decide +kernel
theorem dX8_sheet_98 : decode cX8_sheet 98 = .ok (.bipush 20, 2) := by decide +kernel
theorem dX8_sheet_100 : decode cX8_sheet 100 = .ok (.iload_n 1, 1) := by decide +kernel
theorem dX8_sheet_101 : decode cX8_sheet 101 = .ok (.iadd, 1) := by decide +kernel
theorem dX8_sheet_102 : decode cX8_sheet 102 = .ok (.iaload, 1) := by decide +kernel
theorem dX8_sheet_103 : decode cX8_sheet 103 = .ok (.ireturn, 1) := by decide +kernel
theorem dX8_sheet_104 : decode cX8_sheet 104 = .ok (.aload_n 0, 1) := by decide +kernel
theorem dX8_sheet_105 : decode cX8_sheet 105 = .ok (.getfield 7, 3) := by decide +kernel
theorem dX8_sheet_108 : decode cX8_sheet 108 = .ok (.bipush 8, 2) := by decide +kernel
theorem dX8_sheet_110 : decode cX8_sheet 110 = .ok (.iaload, 1) := by decide +kernel
theorem dX8_sheet_111 : decode cX8_sheet 111 = .ok (.iload_n 1, 1) := by decide +kernel
theorem dX8_sheet_112 : decode cX8_sheet 112 = .ok (.invokestatic 66, 3) := by decide +kernel
theorem dX8_sheet_115 : decode cX8_sheet 115 = .ok (.ifCond .eq 7, 3) := by decide +kernel
theorem dX8_sheet_118 : decode cX8_sheet 118 = .ok (.iconst 1, 1) := by decide +kernel
theorem dX8_sheet_119 : decode cX8_sheet 119 = .ok (.goto 4, 3) := by decide +kernel
theorem dX8_sheet_122 : decode cX8_sheet 122 = .ok (.iconst 0, 1) := by decide +kernel
theorem dX8_sheet_123 : decode cX8_sheet 123 = .ok (.ireturn, 1) := by decide +kernel
theorem dX8_sheet_124 : decode cX8_sheet 124 = .ok (.aload_n 0, 1) := by decide +kernel
theorem dX8_sheet_125 : decode cX8_sheet 125 = .ok (.getfield 7, 3) := by decide +kernel
theorem dX8_sheet_128 : decode cX8_sheet 128 = .ok (.iload_n 1, 1) := by decide +kernel
theorem dX8_sheet_129 : decode cX8_sheet 129 = .ok (.invokestatic 220, 3) := by decide +kernel
theorem dX8_sheet_132 : decode cX8_sheet 132 = .ok (.ireturn, 1) := by decide +kernel
theorem dX8_sheet_133 : decode cX8_sheet 133 = .ok (.aload_n 0, 1) := by decide +kernel
theorem dX8_sheet_134 : decode cX8_sheet 134 = .ok (.getfield 7, 3) := by decide +kernel
theorem dX8_sheet_137 : decode cX8_sheet 137 = .ok (.iload_n 1, 1) := by decide +kernel
theorem dX8_sheet_138 : decode cX8_sheet 138 = .ok (.invokestatic 62, 3) := by decide +kernel
theorem dX8_sheet_141 : decode cX8_sheet 141 = .ok (.ireturn, 1) := by decide +kernel
theorem dX8_sheet_142 : decode cX8_sheet 142 = .ok (.aload_n 0, 1) := by decide +kernel
theorem dX8_sheet_143 : decode cX8_sheet 143 = .ok (.getfield 7, 3) := by decide +kernel
theorem dX8_sheet_146 : decode cX8_sheet 146 = .ok (.iload_n 1, 1) := by decide +kernel
theorem dX8_sheet_147 : decode cX8_sheet 147 = .ok (.invokestatic 223, 3) := by decide +kernel
theorem dX8_sheet_150 : decode cX8_sheet 150 = .ok (.ireturn, 1) := by decide +kernel
theorem dX8_sheet_151 : decode cX8_sheet 151 = .ok (.aload_n 0, 1) := by decide +kernel
theorem dX8_sheet_152 : decode cX8_sheet 152 = .ok (.getfield 7, 3) := by decide +kernel
theorem dX8_sheet_155 : decode cX8_sheet 155 = .ok (.iload_n 1, 1) := by decide +kernel
theorem dX8_sheet_156 : decode cX8_sheet 156 = .ok (.invokestatic 226, 3) := by decide +kernel
theorem dX8_sheet_159 : decode cX8_sheet 159 = .ok (.ireturn, 1) := by decide +kernel
theorem dX8_sheet_160 : decode cX8_sheet 160 = .ok (.aload_n 0, 1) := by decide +kernel
theorem dX8_sheet_161 : decode cX8_sheet 161 = .ok (.getfield 7, 3) := by decide +kernel
theorem dX8_sheet_164 : decode cX8_sheet 164 = .ok (.iload_n 1, 1) := by decide +kernel
theorem dX8_sheet_165 : decode cX8_sheet 165 = .ok (.invokestatic 229, 3) := by decide +kernel
theorem dX8_sheet_168 : decode cX8_sheet 168 = .ok (.ireturn, 1) := by decide +kernel
theorem dX8_field_0 : decode cX8_field 0 = .ok (.aload_n 0, 1) := by decide +kernel
theorem dX8_field_1 : decode cX8_field 1 = .ok (.aload_n 0, 1) := by decide +kernel
theorem dX8_field_2 : decode cX8_field 2 = .ok (.getfield 7, 3) := by decide +kernel
theorem dX8_field_5 : decode cX8_field 5 = .ok (.iload_n 1, 1) := by decide +kernel
theorem dX8_field_6 : decode cX8_field 6 = .ok (.invokestatic 139, 3) := by decide +kernel
theorem dX8_field_9 : decode cX8_field 9 = .ok (.ifCond .eq 14, 3) := by decide +kernel
theorem dX8_field_12 : decode cX8_field 12 = .ok (.iload_n 2, 1) := by decide +kernel
theorem dX8_field_13 : decode cX8_field 13 = .ok (.invokestatic 232, 3) := by decide +kernel
theorem dX8_field_16 : decode cX8_field 16 = .ok (.ifCond .eq 7, 3) := by decide +kernel
theorem dX8_field_19 : decode cX8_field 19 = .ok (.iconst 0, 1) := by decide +kernel
theorem dX8_field_20 : decode cX8_field 20 = .ok (.goto 4, 3) := by decide +kernel
theorem dX8_field_23 : decode cX8_field 23 = .ok (.iconst 1, 1) := by decide +kernel
theorem dX8_field_24 : decode cX8_field 24 = .ok (.invokevirtual 105, 3) := by decide +kernel
theorem dX8_field_27 : decode cX8_field 27 = .ok (.ifCond .eq 5, 3) := by decide +kernel
theorem dX8_field_30 : decode cX8_field 30 = .ok (.iconst 0, 1) := by decide +kernel
theorem dX8_field_31 : decode cX8_field 31 = .ok (.ireturn, 1) := by decide +kernel
theorem dX8_field_32 : decode cX8_field 32 = .ok (.aload_n 0, 1) := by decide +kernel
theorem dX8_field_33 : decode cX8_field 33 = .ok (.getfield 7, 3) := by decide +kernel
theorem dX8_field_36 : decode cX8_field 36 = .ok (.bipush 30, 2) := by decide +kernel
theorem dX8_field_38 : decode cX8_field 38 = .ok (.bipush 12, 2) := by decide +kernel
theorem dX8_field_40 : decode cX8_field 40 = .ok (.iload_n 1, 1) := by decide +kernel
theorem dX8_field_41 : decode cX8_field 41 = .ok (.imul, 1) := by decide +kernel
theorem dX8_field_42 : decode cX8_field 42 = .ok (.iadd, 1) := by decide +kernel
theorem dX8_field_43 : decode cX8_field 43 = .ok (.iload_n 2, 1) := by decide +kernel
theorem dX8_field_44 : decode cX8_field 44 = .ok (.iadd, 1) := by decide +kernel
theorem dX8_field_45 : decode cX8_field 45 = .ok (.iaload, 1) := by decide +kernel
theorem dX8_field_46 : decode cX8_field 46 = .ok (.ireturn, 1) := by decide +kernel
theorem dX8_drawnIn_0 : decode cX8_drawnIn 0 = .ok (.aload_n 0, 1) := by decide +kernel
theorem dX8_drawnIn_1 : decode cX8_drawnIn 1 = .ok (.aload_n 0, 1) := by decide +kernel
theorem dX8_drawnIn_2 : decode cX8_drawnIn 2 = .ok (.getfield 7, 3) := by decide +kernel
theorem dX8_drawnIn_5 : decode cX8_drawnIn 5 = .ok (.iload_n 1, 1) := by decide +kernel
theorem dX8_drawnIn_6 : decode cX8_drawnIn 6 = .ok (.invokestatic 139, 3) := by decide +kernel
theorem dX8_drawnIn_9 : decode cX8_drawnIn 9 = .ok (.ifCond .ne 7, 3) := by decide +kernel
theorem dX8_drawnIn_12 : decode cX8_drawnIn 12 = .ok (.iconst 1, 1) := by decide +kernel
theorem dX8_drawnIn_13 : decode cX8_drawnIn 13 = .ok (.goto 27, 3) := by decide +kernel
theorem dX8_drawnIn_16 : decode cX8_drawnIn 16 = .ok (.iload_n 2, 1) := by decide +kernel
theorem dX8_drawnIn_17 : decode cX8_drawnIn 17 = .ok (.i2l, 1) := by decide +kernel
theorem dX8_drawnIn_18 : decode cX8_drawnIn 18 = .ok (.lconst 0, 1) := by decide +kernel
theorem dX8_drawnIn_19 : decode cX8_drawnIn 19 = .ok (.aload_n 0, 1) := by decide +kernel
theorem dX8_drawnIn_20 : decode cX8_drawnIn 20 = .ok (.getfield 7, 3) := by decide +kernel
theorem dX8_drawnIn_23 : decode cX8_drawnIn 23 = .ok (.bipush 20, 2) := by decide +kernel
theorem dX8_drawnIn_25 : decode cX8_drawnIn 25 = .ok (.iload_n 1, 1) := by decide +kernel
theorem dX8_drawnIn_26 : decode cX8_drawnIn 26 = .ok (.iadd, 1) := by decide +kernel
theorem dX8_drawnIn_27 : decode cX8_drawnIn 27 = .ok (.iaload, 1) := by decide +kernel
theorem dX8_drawnIn_28 : decode cX8_drawnIn 28 = .ok (.i2l, 1) := by decide +kernel
theorem dX8_drawnIn_29 : decode cX8_drawnIn 29 = .ok (.invokestatic 42, 3) := by decide +kernel
theorem dX8_drawnIn_32 : decode cX8_drawnIn 32 = .ok (.ifCond .ne 7, 3) := by decide +kernel
theorem dX8_drawnIn_35 : decode cX8_drawnIn 35 = .ok (.iconst 2, 1) := by decide +kernel
theorem dX8_drawnIn_36 : decode cX8_drawnIn 36 = .ok (.goto 4, 3) := by decide +kernel
theorem dX8_drawnIn_39 : decode cX8_drawnIn 39 = .ok (.iconst 0, 1) := by decide +kernel
theorem dX8_drawnIn_40 : decode cX8_drawnIn 40 = .ok (.invokevirtual 105, 3) := by decide +kernel
theorem dX8_drawnIn_43 : decode cX8_drawnIn 43 = .ok (.ifCond .eq 5, 3) := by decide +kernel
theorem dX8_drawnIn_46 : decode cX8_drawnIn 46 = .ok (.iconst 0, 1) := by decide +kernel
theorem dX8_drawnIn_47 : decode cX8_drawnIn 47 = .ok (.ireturn, 1) := by decide +kernel
theorem dX8_drawnIn_48 : decode cX8_drawnIn 48 = .ok (.aload_n 0, 1) := by decide +kernel
theorem dX8_drawnIn_49 : decode cX8_drawnIn 49 = .ok (.iload_n 1, 1) := by decide +kernel
theorem dX8_drawnIn_50 : decode cX8_drawnIn 50 = .ok (.iload_n 2, 1) := by decide +kernel
theorem dX8_drawnIn_51 : decode cX8_drawnIn 51 = .ok (.invokevirtual 235, 3) := by decide +kernel
theorem dX8_drawnIn_54 : decode cX8_drawnIn 54 = .ok (.ireturn, 1) := by decide +kernel
theorem dX8_drawnOf_0 : decode cX8_drawnOf 0 = .ok (.iconst 0, 1) := by decide +kernel
theorem dX8_drawnOf_1 : decode cX8_drawnOf 1 = .ok (.istore_n 3, 1) := by decide +kernel
theorem dX8_drawnOf_2 : decode cX8_drawnOf 2 = .ok (.iconst 0, 1) := by decide +kernel
theorem dX8_drawnOf_3 : decode cX8_drawnOf 3 = .ok (.istore 4, 2) := by decide +kernel
theorem dX8_drawnOf_5 : decode cX8_drawnOf 5 = .ok (.iload 4, 2) := by decide +kernel
theorem dX8_drawnOf_7 : decode cX8_drawnOf 7 = .ok (.bipush 12, 2) := by decide +kernel
theorem dX8_drawnOf_9 : decode cX8_drawnOf 9 = .ok (.if_icmp .ge 39, 3) := by decide +kernel
theorem dX8_drawnOf_12 : decode cX8_drawnOf 12 = .ok (.iload_n 3, 1) := by decide +kernel
theorem dX8_drawnOf_13 : decode cX8_drawnOf 13 = .ok (.aload_n 0, 1) := by decide +kernel
theorem dX8_drawnOf_14 : decode cX8_drawnOf 14 = .ok (.getfield 7, 3) := by decide +kernel
theorem dX8_drawnOf_17 : decode cX8_drawnOf 17 = .ok (.bipush 30, 2) := by decide +kernel
theorem dX8_drawnOf_19 : decode cX8_drawnOf 19 = .ok (.bipush 12, 2) := by decide +kernel
theorem dX8_drawnOf_21 : decode cX8_drawnOf 21 = .ok (.iload_n 1, 1) := by decide +kernel
theorem dX8_drawnOf_22 : decode cX8_drawnOf 22 = .ok (.imul, 1) := by decide +kernel
theorem dX8_drawnOf_23 : decode cX8_drawnOf 23 = .ok (.iadd, 1) := by decide +kernel
theorem dX8_drawnOf_24 : decode cX8_drawnOf 24 = .ok (.iload 4, 2) := by decide +kernel
theorem dX8_drawnOf_26 : decode cX8_drawnOf 26 = .ok (.iadd, 1) := by decide +kernel
theorem dX8_drawnOf_27 : decode cX8_drawnOf 27 = .ok (.iaload, 1) := by decide +kernel
theorem dX8_drawnOf_28 : decode cX8_drawnOf 28 = .ok (.iload_n 2, 1) := by decide +kernel
theorem dX8_drawnOf_29 : decode cX8_drawnOf 29 = .ok (.if_icmp .ne 10, 3) := by decide +kernel
theorem dX8_drawnOf_32 : decode cX8_drawnOf 32 = .ok (.iconst 1, 1) := by decide +kernel
theorem dX8_drawnOf_33 : decode cX8_drawnOf 33 = .ok (.iload 4, 2) := by decide +kernel
theorem dX8_drawnOf_35 : decode cX8_drawnOf 35 = .ok (.ishl, 1) := by decide +kernel
theorem dX8_drawnOf_36 : decode cX8_drawnOf 36 = .ok (.goto 4, 3) := by decide +kernel
theorem dX8_drawnOf_39 : decode cX8_drawnOf 39 = .ok (.iconst 0, 1) := by decide +kernel
theorem dX8_drawnOf_40 : decode cX8_drawnOf 40 = .ok (.ior, 1) := by decide +kernel
theorem dX8_drawnOf_41 : decode cX8_drawnOf 41 = .ok (.istore_n 3, 1) := by decide +kernel
theorem dX8_drawnOf_42 : decode cX8_drawnOf 42 = .ok (.iinc 4 1, 3) := by decide +kernel
theorem dX8_drawnOf_45 : decode cX8_drawnOf 45 = .ok (.goto (-40), 3) := by decide +kernel
theorem dX8_drawnOf_48 : decode cX8_drawnOf 48 = .ok (.iload_n 3, 1) := by decide +kernel
theorem dX8_drawnOf_49 : decode cX8_drawnOf 49 = .ok (.ireturn, 1) := by decide +kernel
theorem dX8_printed_0 : decode cX8_printed 0 = .ok (.aload_n 0, 1) := by decide +kernel
theorem dX8_printed_1 : decode cX8_printed 1 = .ok (.aload_n 0, 1) := by decide +kernel
theorem dX8_printed_2 : decode cX8_printed 2 = .ok (.getfield 7, 3) := by decide +kernel
theorem dX8_printed_5 : decode cX8_printed 5 = .ok (.iload_n 1, 1) := by decide +kernel
theorem dX8_printed_6 : decode cX8_printed 6 = .ok (.invokestatic 178, 3) := by decide +kernel
theorem dX8_printed_9 : decode cX8_printed 9 = .ok (.ifCond .ne 7, 3) := by decide +kernel
theorem dX8_printed_12 : decode cX8_printed 12 = .ok (.iconst 1, 1) := by decide +kernel
theorem dX8_printed_13 : decode cX8_printed 13 = .ok (.goto 20, 3) := by decide +kernel
theorem dX8_printed_16 : decode cX8_printed 16 = .ok (.iload_n 2, 1) := by decide +kernel
theorem dX8_printed_17 : decode cX8_printed 17 = .ok (.i2l, 1) := by decide +kernel
theorem dX8_printed_18 : decode cX8_printed 18 = .ok (.lconst 0, 1) := by decide +kernel
theorem dX8_printed_19 : decode cX8_printed 19 = .ok (.ldc2_w 238, 3) := by decide +kernel
theorem dX8_printed_22 : decode cX8_printed 22 = .ok (.invokestatic 42, 3) := by decide +kernel
theorem dX8_printed_25 : decode cX8_printed 25 = .ok (.ifCond .ne 7, 3) := by decide +kernel
theorem dX8_printed_28 : decode cX8_printed 28 = .ok (.iconst 2, 1) := by decide +kernel
theorem dX8_printed_29 : decode cX8_printed 29 = .ok (.goto 4, 3) := by decide +kernel
theorem dX8_printed_32 : decode cX8_printed 32 = .ok (.iconst 0, 1) := by decide +kernel
theorem dX8_printed_33 : decode cX8_printed 33 = .ok (.invokevirtual 105, 3) := by decide +kernel
theorem dX8_printed_36 : decode cX8_printed 36 = .ok (.ifCond .eq 5, 3) := by decide +kernel
theorem dX8_printed_39 : decode cX8_printed 39 = .ok (.iconst 0, 1) := by decide +kernel
theorem dX8_printed_40 : decode cX8_printed 40 = .ok (.ireturn, 1) := by decide +kernel
theorem dX8_printed_41 : decode cX8_printed 41 = .ok (.iload_n 2, 1) := by decide +kernel
theorem dX8_printed_42 : decode cX8_printed 42 = .ok (.tableswitch 146 0 7 #[46, 57, 68, 79, 90, 101, 118, 129], 46) := by decide +kernel
theorem dX8_printed_88 : decode cX8_printed 88 = .ok (.aload_n 0, 1) := by decide +kernel
theorem dX8_printed_89 : decode cX8_printed 89 = .ok (.getfield 7, 3) := by decide +kernel
theorem dX8_printed_92 : decode cX8_printed 92 = .ok (.sipush 150, 3) := by decide +kernel
theorem dX8_printed_95 : decode cX8_printed 95 = .ok (.iload_n 1, 1) := by decide +kernel
theorem dX8_printed_96 : decode cX8_printed 96 = .ok (.iadd, 1) := by decide +kernel
theorem dX8_printed_97 : decode cX8_printed 97 = .ok (.iaload, 1) := by decide +kernel
theorem dX8_printed_98 : decode cX8_printed 98 = .ok (.ireturn, 1) := by decide +kernel
theorem dX8_printed_99 : decode cX8_printed 99 = .ok (.aload_n 0, 1) := by decide +kernel
theorem dX8_printed_100 : decode cX8_printed 100 = .ok (.getfield 7, 3) := by decide +kernel
theorem dX8_printed_103 : decode cX8_printed 103 = .ok (.sipush 174, 3) := by decide +kernel
theorem dX8_printed_106 : decode cX8_printed 106 = .ok (.iload_n 1, 1) := by decide +kernel
theorem dX8_printed_107 : decode cX8_printed 107 = .ok (.iadd, 1) := by decide +kernel
theorem dX8_printed_108 : decode cX8_printed 108 = .ok (.iaload, 1) := by decide +kernel
theorem dX8_printed_109 : decode cX8_printed 109 = .ok (.ireturn, 1) := by decide +kernel
theorem dX8_printed_110 : decode cX8_printed 110 = .ok (.aload_n 0, 1) := by decide +kernel
theorem dX8_printed_111 : decode cX8_printed 111 = .ok (.getfield 7, 3) := by decide +kernel
theorem dX8_printed_114 : decode cX8_printed 114 = .ok (.sipush 198, 3) := by decide +kernel
theorem dX8_printed_117 : decode cX8_printed 117 = .ok (.iload_n 1, 1) := by decide +kernel
theorem dX8_printed_118 : decode cX8_printed 118 = .ok (.iadd, 1) := by decide +kernel
theorem dX8_printed_119 : decode cX8_printed 119 = .ok (.iaload, 1) := by decide +kernel
theorem dX8_printed_120 : decode cX8_printed 120 = .ok (.ireturn, 1) := by decide +kernel
theorem dX8_printed_121 : decode cX8_printed 121 = .ok (.aload_n 0, 1) := by decide +kernel
theorem dX8_printed_122 : decode cX8_printed 122 = .ok (.getfield 7, 3) := by decide +kernel
theorem dX8_printed_125 : decode cX8_printed 125 = .ok (.sipush 222, 3) := by decide +kernel
theorem dX8_printed_128 : decode cX8_printed 128 = .ok (.iload_n 1, 1) := by decide +kernel
theorem dX8_printed_129 : decode cX8_printed 129 = .ok (.iadd, 1) := by decide +kernel
theorem dX8_printed_130 : decode cX8_printed 130 = .ok (.iaload, 1) := by decide +kernel
theorem dX8_printed_131 : decode cX8_printed 131 = .ok (.ireturn, 1) := by decide +kernel
theorem dX8_printed_132 : decode cX8_printed 132 = .ok (.aload_n 0, 1) := by decide +kernel
theorem dX8_printed_133 : decode cX8_printed 133 = .ok (.getfield 7, 3) := by decide +kernel
theorem dX8_printed_136 : decode cX8_printed 136 = .ok (.sipush 246, 3) := by decide +kernel
theorem dX8_printed_139 : decode cX8_printed 139 = .ok (.iload_n 1, 1) := by decide +kernel
theorem dX8_printed_140 : decode cX8_printed 140 = .ok (.iadd, 1) := by decide +kernel
theorem dX8_printed_141 : decode cX8_printed 141 = .ok (.iaload, 1) := by decide +kernel
theorem dX8_printed_142 : decode cX8_printed 142 = .ok (.ireturn, 1) := by decide +kernel
theorem dX8_printed_143 : decode cX8_printed 143 = .ok (.aload_n 0, 1) := by decide +kernel
theorem dX8_printed_144 : decode cX8_printed 144 = .ok (.getfield 7, 3) := by decide +kernel
theorem dX8_printed_147 : decode cX8_printed 147 = .ok (.iload_n 1, 1) := by decide +kernel
theorem dX8_printed_148 : decode cX8_printed 148 = .ok (.invokestatic 70, 3) := by decide +kernel
theorem dX8_printed_151 : decode cX8_printed 151 = .ok (.ifCond .eq 7, 3) := by decide +kernel
theorem dX8_printed_154 : decode cX8_printed 154 = .ok (.iconst 1, 1) := by decide +kernel
theorem dX8_printed_155 : decode cX8_printed 155 = .ok (.goto 4, 3) := by decide +kernel
theorem dX8_printed_158 : decode cX8_printed 158 = .ok (.iconst 0, 1) := by decide +kernel
theorem dX8_printed_159 : decode cX8_printed 159 = .ok (.ireturn, 1) := by decide +kernel
theorem dX8_printed_160 : decode cX8_printed 160 = .ok (.aload_n 0, 1) := by decide +kernel
theorem dX8_printed_161 : decode cX8_printed 161 = .ok (.getfield 7, 3) := by decide +kernel
theorem dX8_printed_164 : decode cX8_printed 164 = .ok (.sipush 270, 3) := by decide +kernel
theorem dX8_printed_167 : decode cX8_printed 167 = .ok (.iload_n 1, 1) := by decide +kernel
theorem dX8_printed_168 : decode cX8_printed 168 = .ok (.iadd, 1) := by decide +kernel
theorem dX8_printed_169 : decode cX8_printed 169 = .ok (.iaload, 1) := by decide +kernel
theorem dX8_printed_170 : decode cX8_printed 170 = .ok (.ireturn, 1) := by decide +kernel
theorem dX8_printed_171 : decode cX8_printed 171 = .ok (.aload_n 0, 1) := by decide +kernel
theorem dX8_printed_172 : decode cX8_printed 172 = .ok (.getfield 7, 3) := by decide +kernel
theorem dX8_printed_175 : decode cX8_printed 175 = .ok (.iload_n 1, 1) := by decide +kernel
theorem dX8_printed_176 : decode cX8_printed 176 = .ok (.invokestatic 87, 3) := by decide +kernel
theorem dX8_printed_179 : decode cX8_printed 179 = .ok (.ifCond .eq 7, 3) := by decide +kernel
theorem dX8_printed_182 : decode cX8_printed 182 = .ok (.iconst 1, 1) := by decide +kernel
theorem dX8_printed_183 : decode cX8_printed 183 = .ok (.goto 4, 3) := by decide +kernel
theorem dX8_printed_186 : decode cX8_printed 186 = .ok (.iconst 0, 1) := by decide +kernel
theorem dX8_printed_187 : decode cX8_printed 187 = .ok (.ireturn, 1) := by decide +kernel
theorem dX8_printed_188 : decode cX8_printed 188 = .ok (.aload_n 0, 1) := by decide +kernel
theorem dX8_printed_189 : decode cX8_printed 189 = .ok (.getfield 7, 3) := by decide +kernel
theorem dX8_printed_192 : decode cX8_printed 192 = .ok (.iload_n 1, 1) := by decide +kernel
theorem dX8_printed_193 : decode cX8_printed 193 = .ok (.invokestatic 240, 3) := by decide +kernel
theorem dX8_printed_196 : decode cX8_printed 196 = .ok (.ireturn, 1) := by decide +kernel
theorem dX8_work_0 : decode cX8_work 0 = .ok (.aload_n 0, 1) := by decide +kernel
theorem dX8_work_1 : decode cX8_work 1 = .ok (.aload_n 0, 1) := by decide +kernel
theorem dX8_work_2 : decode cX8_work 2 = .ok (.getfield 7, 3) := by decide +kernel
theorem dX8_work_5 : decode cX8_work 5 = .ok (.iload_n 1, 1) := by decide +kernel
theorem dX8_work_6 : decode cX8_work 6 = .ok (.invokestatic 243, 3) := by decide +kernel
theorem dX8_work_9 : decode cX8_work 9 = .ok (.ifCond .ne 7, 3) := by decide +kernel
theorem dX8_work_12 : decode cX8_work 12 = .ok (.iconst 1, 1) := by decide +kernel
theorem dX8_work_13 : decode cX8_work 13 = .ok (.goto 20, 3) := by decide +kernel
theorem dX8_work_16 : decode cX8_work 16 = .ok (.iload_n 2, 1) := by decide +kernel
theorem dX8_work_17 : decode cX8_work 17 = .ok (.i2l, 1) := by decide +kernel
theorem dX8_work_18 : decode cX8_work 18 = .ok (.lconst 0, 1) := by decide +kernel
theorem dX8_work_19 : decode cX8_work 19 = .ok (.ldc2_w 246, 3) := by decide +kernel
theorem dX8_work_22 : decode cX8_work 22 = .ok (.invokestatic 42, 3) := by decide +kernel
theorem dX8_work_25 : decode cX8_work 25 = .ok (.ifCond .ne 7, 3) := by decide +kernel
theorem dX8_work_28 : decode cX8_work 28 = .ok (.iconst 2, 1) := by decide +kernel
theorem dX8_work_29 : decode cX8_work 29 = .ok (.goto 4, 3) := by decide +kernel
theorem dX8_work_32 : decode cX8_work 32 = .ok (.iconst 0, 1) := by decide +kernel
theorem dX8_work_33 : decode cX8_work 33 = .ok (.invokevirtual 105, 3) := by decide +kernel
theorem dX8_work_36 : decode cX8_work 36 = .ok (.ifCond .eq 5, 3) := by decide +kernel
theorem dX8_work_39 : decode cX8_work 39 = .ok (.iconst 0, 1) := by decide +kernel
theorem dX8_work_40 : decode cX8_work 40 = .ok (.ireturn, 1) := by decide +kernel
theorem dX8_work_41 : decode cX8_work 41 = .ok (.iload_n 2, 1) := by decide +kernel
theorem dX8_work_42 : decode cX8_work 42 = .ok (.tableswitch 74 0 3 #[30, 41, 52, 63], 30) := by decide +kernel
theorem dX8_work_72 : decode cX8_work 72 = .ok (.aload_n 0, 1) := by decide +kernel
theorem dX8_work_73 : decode cX8_work 73 = .ok (.getfield 7, 3) := by decide +kernel
theorem dX8_work_76 : decode cX8_work 76 = .ok (.sipush 294, 3) := by decide +kernel
theorem dX8_work_79 : decode cX8_work 79 = .ok (.iload_n 1, 1) := by decide +kernel
theorem dX8_work_80 : decode cX8_work 80 = .ok (.iadd, 1) := by decide +kernel
theorem dX8_work_81 : decode cX8_work 81 = .ok (.iaload, 1) := by decide +kernel
theorem dX8_work_82 : decode cX8_work 82 = .ok (.ireturn, 1) := by decide +kernel
theorem dX8_work_83 : decode cX8_work 83 = .ok (.aload_n 0, 1) := by decide +kernel
theorem dX8_work_84 : decode cX8_work 84 = .ok (.getfield 7, 3) := by decide +kernel
theorem dX8_work_87 : decode cX8_work 87 = .ok (.sipush 324, 3) := by decide +kernel
theorem dX8_work_90 : decode cX8_work 90 = .ok (.iload_n 1, 1) := by decide +kernel
theorem dX8_work_91 : decode cX8_work 91 = .ok (.iadd, 1) := by decide +kernel
theorem dX8_work_92 : decode cX8_work 92 = .ok (.iaload, 1) := by decide +kernel
theorem dX8_work_93 : decode cX8_work 93 = .ok (.ireturn, 1) := by decide +kernel
theorem dX8_work_94 : decode cX8_work 94 = .ok (.aload_n 0, 1) := by decide +kernel
theorem dX8_work_95 : decode cX8_work 95 = .ok (.getfield 7, 3) := by decide +kernel
theorem dX8_work_98 : decode cX8_work 98 = .ok (.sipush 354, 3) := by decide +kernel
theorem dX8_work_101 : decode cX8_work 101 = .ok (.iload_n 1, 1) := by decide +kernel
theorem dX8_work_102 : decode cX8_work 102 = .ok (.iadd, 1) := by decide +kernel
theorem dX8_work_103 : decode cX8_work 103 = .ok (.iaload, 1) := by decide +kernel
theorem dX8_work_104 : decode cX8_work 104 = .ok (.ireturn, 1) := by decide +kernel
theorem dX8_work_105 : decode cX8_work 105 = .ok (.aload_n 0, 1) := by decide +kernel
theorem dX8_work_106 : decode cX8_work 106 = .ok (.getfield 7, 3) := by decide +kernel
theorem dX8_work_109 : decode cX8_work 109 = .ok (.sipush 384, 3) := by decide +kernel
theorem dX8_work_112 : decode cX8_work 112 = .ok (.iload_n 1, 1) := by decide +kernel
theorem dX8_work_113 : decode cX8_work 113 = .ok (.iadd, 1) := by decide +kernel
theorem dX8_work_114 : decode cX8_work 114 = .ok (.iaload, 1) := by decide +kernel
theorem dX8_work_115 : decode cX8_work 115 = .ok (.ireturn, 1) := by decide +kernel
theorem dX8_work_116 : decode cX8_work 116 = .ok (.aload_n 0, 1) := by decide +kernel
theorem dX8_work_117 : decode cX8_work 117 = .ok (.getfield 7, 3) := by decide +kernel
theorem dX8_work_120 : decode cX8_work 120 = .ok (.iload_n 1, 1) := by decide +kernel
theorem dX8_work_121 : decode cX8_work 121 = .ok (.invokestatic 81, 3) := by decide +kernel
theorem dX8_work_124 : decode cX8_work 124 = .ok (.ifCond .eq 7, 3) := by decide +kernel
theorem dX8_work_127 : decode cX8_work 127 = .ok (.iconst 1, 1) := by decide +kernel
theorem dX8_work_128 : decode cX8_work 128 = .ok (.goto 4, 3) := by decide +kernel
theorem dX8_work_131 : decode cX8_work 131 = .ok (.iconst 0, 1) := by decide +kernel
theorem dX8_work_132 : decode cX8_work 132 = .ok (.ireturn, 1) := by decide +kernel
theorem dX8_setting_0 : decode cX8_setting 0 = .ok (.aload_n 0, 1) := by decide +kernel
theorem dX8_setting_1 : decode cX8_setting 1 = .ok (.iload_n 1, 1) := by decide +kernel
theorem dX8_setting_2 : decode cX8_setting 2 = .ok (.i2l, 1) := by decide +kernel
theorem dX8_setting_3 : decode cX8_setting 3 = .ok (.lconst 0, 1) := by decide +kernel
theorem dX8_setting_4 : decode cX8_setting 4 = .ok (.ldc2_w 50, 3) := by decide +kernel
theorem dX8_setting_7 : decode cX8_setting 7 = .ok (.invokestatic 42, 3) := by decide +kernel
theorem dX8_setting_10 : decode cX8_setting 10 = .ok (.ifCond .eq 7, 3) := by decide +kernel
theorem dX8_setting_13 : decode cX8_setting 13 = .ok (.iconst 0, 1) := by decide +kernel
theorem dX8_setting_14 : decode cX8_setting 14 = .ok (.goto 4, 3) := by decide +kernel
theorem dX8_setting_17 : decode cX8_setting 17 = .ok (.iconst 1, 1) := by decide +kernel
theorem dX8_setting_18 : decode cX8_setting 18 = .ok (.invokevirtual 105, 3) := by decide +kernel
theorem dX8_setting_21 : decode cX8_setting 21 = .ok (.ifCond .eq 5, 3) := by decide +kernel
theorem dX8_setting_24 : decode cX8_setting 24 = .ok (.iconst 0, 1) := by decide +kernel
theorem dX8_setting_25 : decode cX8_setting 25 = .ok (.ireturn, 1) := by decide +kernel
theorem dX8_setting_26 : decode cX8_setting 26 = .ok (.aload_n 0, 1) := by decide +kernel
theorem dX8_setting_27 : decode cX8_setting 27 = .ok (.getfield 7, 3) := by decide +kernel
theorem dX8_setting_30 : decode cX8_setting 30 = .ok (.iconst 5, 1) := by decide +kernel
theorem dX8_setting_31 : decode cX8_setting 31 = .ok (.iload_n 1, 1) := by decide +kernel
theorem dX8_setting_32 : decode cX8_setting 32 = .ok (.iadd, 1) := by decide +kernel
theorem dX8_setting_33 : decode cX8_setting 33 = .ok (.iaload, 1) := by decide +kernel
theorem dX8_setting_34 : decode cX8_setting 34 = .ok (.ireturn, 1) := by decide +kernel
theorem dX8_draw_0 : decode cX8_draw 0 = .ok (.aload_n 0, 1) := by decide +kernel
theorem dX8_draw_1 : decode cX8_draw 1 = .ok (.iload_n 1, 1) := by decide +kernel
theorem dX8_draw_2 : decode cX8_draw 2 = .ok (.iconst (-1), 1) := by decide +kernel
theorem dX8_draw_3 : decode cX8_draw 3 = .ok (.if_icmp .eq 18, 3) := by decide +kernel
theorem dX8_draw_6 : decode cX8_draw 6 = .ok (.aload_n 0, 1) := by decide +kernel
theorem dX8_draw_7 : decode cX8_draw 7 = .ok (.getfield 7, 3) := by decide +kernel
theorem dX8_draw_10 : decode cX8_draw 10 = .ok (.iload_n 1, 1) := by decide +kernel
theorem dX8_draw_11 : decode cX8_draw 11 = .ok (.invokestatic 139, 3) := by decide +kernel
theorem dX8_draw_14 : decode cX8_draw 14 = .ok (.ifCond .ne 7, 3) := by decide +kernel
theorem dX8_draw_17 : decode cX8_draw 17 = .ok (.iconst 1, 1) := by decide +kernel
theorem dX8_draw_18 : decode cX8_draw 18 = .ok (.goto 18, 3) := by decide +kernel
theorem dX8_draw_21 : decode cX8_draw 21 = .ok (.aload_n 0, 1) := by decide +kernel
theorem dX8_draw_22 : decode cX8_draw 22 = .ok (.getfield 7, 3) := by decide +kernel
theorem dX8_draw_25 : decode cX8_draw 25 = .ok (.invokestatic 142, 3) := by decide +kernel
theorem dX8_draw_28 : decode cX8_draw 28 = .ok (.ifCond .ne 7, 3) := by decide +kernel
theorem dX8_draw_31 : decode cX8_draw 31 = .ok (.iconst 2, 1) := by decide +kernel
theorem dX8_draw_32 : decode cX8_draw 32 = .ok (.goto 4, 3) := by decide +kernel
theorem dX8_draw_35 : decode cX8_draw 35 = .ok (.iconst 0, 1) := by decide +kernel
theorem dX8_draw_36 : decode cX8_draw 36 = .ok (.invokevirtual 105, 3) := by decide +kernel
theorem dX8_draw_39 : decode cX8_draw 39 = .ok (.ifCond .eq 5, 3) := by decide +kernel
theorem dX8_draw_42 : decode cX8_draw 42 = .ok (.iconst 0, 1) := by decide +kernel
theorem dX8_draw_43 : decode cX8_draw 43 = .ok (.ireturn, 1) := by decide +kernel
theorem dX8_draw_44 : decode cX8_draw 44 = .ok (.aload_n 0, 1) := by decide +kernel
theorem dX8_draw_45 : decode cX8_draw 45 = .ok (.invokevirtual 248, 3) := by decide +kernel
theorem dX8_draw_48 : decode cX8_draw 48 = .ok (.aload_n 0, 1) := by decide +kernel
theorem dX8_draw_49 : decode cX8_draw 49 = .ok (.getfield 7, 3) := by decide +kernel
theorem dX8_draw_52 : decode cX8_draw 52 = .ok (.iload_n 1, 1) := by decide +kernel
theorem dX8_draw_53 : decode cX8_draw 53 = .ok (.invokestatic 150, 3) := by decide +kernel
theorem dX8_draw_56 : decode cX8_draw 56 = .ok (.ireturn, 1) := by decide +kernel
theorem dX8_revise_0 : decode cX8_revise 0 = .ok (.aload_n 0, 1) := by decide +kernel
theorem dX8_revise_1 : decode cX8_revise 1 = .ok (.aload_n 0, 1) := by decide +kernel
theorem dX8_revise_2 : decode cX8_revise 2 = .ok (.getfield 7, 3) := by decide +kernel
theorem dX8_revise_5 : decode cX8_revise 5 = .ok (.iload_n 1, 1) := by decide +kernel
theorem dX8_revise_6 : decode cX8_revise 6 = .ok (.invokestatic 139, 3) := by decide +kernel
theorem dX8_revise_9 : decode cX8_revise 9 = .ok (.ifCond .ne 7, 3) := by decide +kernel
theorem dX8_revise_12 : decode cX8_revise 12 = .ok (.iconst 1, 1) := by decide +kernel
theorem dX8_revise_13 : decode cX8_revise 13 = .ok (.goto 30, 3) := by decide +kernel
theorem dX8_revise_16 : decode cX8_revise 16 = .ok (.iload_n 2, 1) := by decide +kernel
theorem dX8_revise_17 : decode cX8_revise 17 = .ok (.invokestatic 251, 3) := by decide +kernel
theorem dX8_revise_20 : decode cX8_revise 20 = .ok (.ifCond .ne 7, 3) := by decide +kernel
theorem dX8_revise_23 : decode cX8_revise 23 = .ok (.iconst 2, 1) := by decide +kernel
theorem dX8_revise_24 : decode cX8_revise 24 = .ok (.goto 19, 3) := by decide +kernel
theorem dX8_revise_27 : decode cX8_revise 27 = .ok (.aload_n 0, 1) := by decide +kernel
theorem dX8_revise_28 : decode cX8_revise 28 = .ok (.getfield 7, 3) := by decide +kernel
theorem dX8_revise_31 : decode cX8_revise 31 = .ok (.iload_n 1, 1) := by decide +kernel
theorem dX8_revise_32 : decode cX8_revise 32 = .ok (.invokestatic 162, 3) := by decide +kernel
theorem dX8_revise_35 : decode cX8_revise 35 = .ok (.ifCond .ne 7, 3) := by decide +kernel
theorem dX8_revise_38 : decode cX8_revise 38 = .ok (.iconst 3, 1) := by decide +kernel
theorem dX8_revise_39 : decode cX8_revise 39 = .ok (.goto 4, 3) := by decide +kernel
theorem dX8_revise_42 : decode cX8_revise 42 = .ok (.iconst 0, 1) := by decide +kernel
theorem dX8_revise_43 : decode cX8_revise 43 = .ok (.invokevirtual 105, 3) := by decide +kernel
theorem dX8_revise_46 : decode cX8_revise 46 = .ok (.ifCond .eq 5, 3) := by decide +kernel
theorem dX8_revise_49 : decode cX8_revise 49 = .ok (.iconst 0, 1) := by decide +kernel
theorem dX8_revise_50 : decode cX8_revise 50 = .ok (.ireturn, 1) := by decide +kernel
theorem dX8_revise_51 : decode cX8_revise 51 = .ok (.aload_n 0, 1) := by decide +kernel
theorem dX8_revise_52 : decode cX8_revise 52 = .ok (.invokevirtual 248, 3) := by decide +kernel
theorem dX8_revise_55 : decode cX8_revise 55 = .ok (.aload_n 0, 1) := by decide +kernel
theorem dX8_revise_56 : decode cX8_revise 56 = .ok (.getfield 7, 3) := by decide +kernel
theorem dX8_revise_59 : decode cX8_revise 59 = .ok (.iload_n 1, 1) := by decide +kernel
theorem dX8_revise_60 : decode cX8_revise 60 = .ok (.iload_n 2, 1) := by decide +kernel
theorem dX8_revise_61 : decode cX8_revise 61 = .ok (.invokestatic 165, 3) := by decide +kernel
theorem dX8_revise_64 : decode cX8_revise 64 = .ok (.ireturn, 1) := by decide +kernel
theorem dX8_check_0 : decode cX8_check 0 = .ok (.aload_n 0, 1) := by decide +kernel
theorem dX8_check_1 : decode cX8_check 1 = .ok (.aload_n 0, 1) := by decide +kernel
theorem dX8_check_2 : decode cX8_check 2 = .ok (.getfield 7, 3) := by decide +kernel
theorem dX8_check_5 : decode cX8_check 5 = .ok (.iload_n 1, 1) := by decide +kernel
theorem dX8_check_6 : decode cX8_check 6 = .ok (.invokestatic 139, 3) := by decide +kernel
theorem dX8_check_9 : decode cX8_check 9 = .ok (.ifCond .ne 7, 3) := by decide +kernel
theorem dX8_check_12 : decode cX8_check 12 = .ok (.iconst 1, 1) := by decide +kernel
theorem dX8_check_13 : decode cX8_check 13 = .ok (.goto 22, 3) := by decide +kernel
theorem dX8_check_16 : decode cX8_check 16 = .ok (.aload_n 0, 1) := by decide +kernel
theorem dX8_check_17 : decode cX8_check 17 = .ok (.getfield 7, 3) := by decide +kernel
theorem dX8_check_20 : decode cX8_check 20 = .ok (.bipush 8, 2) := by decide +kernel
theorem dX8_check_22 : decode cX8_check 22 = .ok (.iaload, 1) := by decide +kernel
theorem dX8_check_23 : decode cX8_check 23 = .ok (.iload_n 1, 1) := by decide +kernel
theorem dX8_check_24 : decode cX8_check 24 = .ok (.invokestatic 66, 3) := by decide +kernel
theorem dX8_check_27 : decode cX8_check 27 = .ok (.ifCond .ne 7, 3) := by decide +kernel
theorem dX8_check_30 : decode cX8_check 30 = .ok (.iconst 2, 1) := by decide +kernel
theorem dX8_check_31 : decode cX8_check 31 = .ok (.goto 4, 3) := by decide +kernel
theorem dX8_check_34 : decode cX8_check 34 = .ok (.iconst 0, 1) := by decide +kernel
theorem dX8_check_35 : decode cX8_check 35 = .ok (.invokevirtual 105, 3) := by decide +kernel
theorem dX8_check_38 : decode cX8_check 38 = .ok (.ifCond .eq 5, 3) := by decide +kernel
theorem dX8_check_41 : decode cX8_check 41 = .ok (.iconst 0, 1) := by decide +kernel
theorem dX8_check_42 : decode cX8_check 42 = .ok (.ireturn, 1) := by decide +kernel
theorem dX8_check_43 : decode cX8_check 43 = .ok (.aload_n 0, 1) := by decide +kernel
theorem dX8_check_44 : decode cX8_check 44 = .ok (.invokevirtual 248, 3) := by decide +kernel
theorem dX8_check_47 : decode cX8_check 47 = .ok (.aload_n 0, 1) := by decide +kernel
theorem dX8_check_48 : decode cX8_check 48 = .ok (.getfield 7, 3) := by decide +kernel
theorem dX8_check_51 : decode cX8_check 51 = .ok (.iload_n 1, 1) := by decide +kernel
theorem dX8_check_52 : decode cX8_check 52 = .ok (.invokestatic 254, 3) := by decide +kernel
theorem dX8_check_55 : decode cX8_check 55 = .ok (.ireturn, 1) := by decide +kernel
theorem dX8_print_0 : decode cX8_print 0 = .ok (.aload_n 0, 1) := by decide +kernel
theorem dX8_print_1 : decode cX8_print 1 = .ok (.aload_n 0, 1) := by decide +kernel
theorem dX8_print_2 : decode cX8_print 2 = .ok (.getfield 7, 3) := by decide +kernel
theorem dX8_print_5 : decode cX8_print 5 = .ok (.iload_n 1, 1) := by decide +kernel
theorem dX8_print_6 : decode cX8_print 6 = .ok (.invokestatic 139, 3) := by decide +kernel
theorem dX8_print_9 : decode cX8_print 9 = .ok (.ifCond .eq 10, 3) := by decide +kernel
theorem dX8_print_12 : decode cX8_print 12 = .ok (.iload_n 2, 1) := by decide +kernel
theorem dX8_print_13 : decode cX8_print 13 = .ok (.invokestatic 257, 3) := by decide +kernel
theorem dX8_print_16 : decode cX8_print 16 = .ok (.ifCond .ne 7, 3) := by decide +kernel
theorem dX8_print_19 : decode cX8_print 19 = .ok (.iconst 1, 1) := by decide +kernel
theorem dX8_print_20 : decode cX8_print 20 = .ok (.goto 18, 3) := by decide +kernel
theorem dX8_print_23 : decode cX8_print 23 = .ok (.aload_n 0, 1) := by decide +kernel
theorem dX8_print_24 : decode cX8_print 24 = .ok (.getfield 7, 3) := by decide +kernel
theorem dX8_print_27 : decode cX8_print 27 = .ok (.invokestatic 172, 3) := by decide +kernel
theorem dX8_print_30 : decode cX8_print 30 = .ok (.ifCond .ne 7, 3) := by decide +kernel
theorem dX8_print_33 : decode cX8_print 33 = .ok (.iconst 2, 1) := by decide +kernel
theorem dX8_print_34 : decode cX8_print 34 = .ok (.goto 4, 3) := by decide +kernel
theorem dX8_print_37 : decode cX8_print 37 = .ok (.iconst 0, 1) := by decide +kernel
theorem dX8_print_38 : decode cX8_print 38 = .ok (.invokevirtual 105, 3) := by decide +kernel
theorem dX8_print_41 : decode cX8_print 41 = .ok (.ifCond .eq 5, 3) := by decide +kernel
theorem dX8_print_44 : decode cX8_print 44 = .ok (.iconst 0, 1) := by decide +kernel
theorem dX8_print_45 : decode cX8_print 45 = .ok (.ireturn, 1) := by decide +kernel
theorem dX8_print_46 : decode cX8_print 46 = .ok (.aload_n 0, 1) := by decide +kernel
theorem dX8_print_47 : decode cX8_print 47 = .ok (.invokevirtual 248, 3) := by decide +kernel
theorem dX8_print_50 : decode cX8_print 50 = .ok (.aload_n 0, 1) := by decide +kernel
theorem dX8_print_51 : decode cX8_print 51 = .ok (.getfield 7, 3) := by decide +kernel
theorem dX8_print_54 : decode cX8_print 54 = .ok (.iload_n 1, 1) := by decide +kernel
theorem dX8_print_55 : decode cX8_print 55 = .ok (.iload_n 2, 1) := by decide +kernel
theorem dX8_print_56 : decode cX8_print 56 = .ok (.invokestatic 175, 3) := by decide +kernel
theorem dX8_print_59 : decode cX8_print 59 = .ok (.ireturn, 1) := by decide +kernel
theorem dX8_stamp_0 : decode cX8_stamp 0 = .ok (.aload_n 0, 1) := by decide +kernel
theorem dX8_stamp_1 : decode cX8_stamp 1 = .ok (.aload_n 0, 1) := by decide +kernel
theorem dX8_stamp_2 : decode cX8_stamp 2 = .ok (.getfield 7, 3) := by decide +kernel
theorem dX8_stamp_5 : decode cX8_stamp 5 = .ok (.iload_n 1, 1) := by decide +kernel
theorem dX8_stamp_6 : decode cX8_stamp 6 = .ok (.invokestatic 178, 3) := by decide +kernel
theorem dX8_stamp_9 : decode cX8_stamp 9 = .ok (.ifCond .eq 10, 3) := by decide +kernel
theorem dX8_stamp_12 : decode cX8_stamp 12 = .ok (.iload_n 2, 1) := by decide +kernel
theorem dX8_stamp_13 : decode cX8_stamp 13 = .ok (.invokestatic 260, 3) := by decide +kernel
theorem dX8_stamp_16 : decode cX8_stamp 16 = .ok (.ifCond .ne 7, 3) := by decide +kernel
theorem dX8_stamp_19 : decode cX8_stamp 19 = .ok (.iconst 1, 1) := by decide +kernel
theorem dX8_stamp_20 : decode cX8_stamp 20 = .ok (.goto 19, 3) := by decide +kernel
theorem dX8_stamp_23 : decode cX8_stamp 23 = .ok (.aload_n 0, 1) := by decide +kernel
theorem dX8_stamp_24 : decode cX8_stamp 24 = .ok (.getfield 7, 3) := by decide +kernel
theorem dX8_stamp_27 : decode cX8_stamp 27 = .ok (.iload_n 1, 1) := by decide +kernel
theorem dX8_stamp_28 : decode cX8_stamp 28 = .ok (.invokestatic 181, 3) := by decide +kernel
theorem dX8_stamp_31 : decode cX8_stamp 31 = .ok (.ifCond .ne 7, 3) := by decide +kernel
theorem dX8_stamp_34 : decode cX8_stamp 34 = .ok (.iconst 2, 1) := by decide +kernel
theorem dX8_stamp_35 : decode cX8_stamp 35 = .ok (.goto 4, 3) := by decide +kernel
theorem dX8_stamp_38 : decode cX8_stamp 38 = .ok (.iconst 0, 1) := by decide +kernel
theorem dX8_stamp_39 : decode cX8_stamp 39 = .ok (.invokevirtual 105, 3) := by decide +kernel
theorem dX8_stamp_42 : decode cX8_stamp 42 = .ok (.ifCond .eq 5, 3) := by decide +kernel
theorem dX8_stamp_45 : decode cX8_stamp 45 = .ok (.iconst 0, 1) := by decide +kernel
theorem dX8_stamp_46 : decode cX8_stamp 46 = .ok (.ireturn, 1) := by decide +kernel
theorem dX8_stamp_47 : decode cX8_stamp 47 = .ok (.aload_n 0, 1) := by decide +kernel
theorem dX8_stamp_48 : decode cX8_stamp 48 = .ok (.invokevirtual 248, 3) := by decide +kernel
theorem dX8_stamp_51 : decode cX8_stamp 51 = .ok (.aload_n 0, 1) := by decide +kernel
theorem dX8_stamp_52 : decode cX8_stamp 52 = .ok (.getfield 7, 3) := by decide +kernel
theorem dX8_stamp_55 : decode cX8_stamp 55 = .ok (.iload_n 1, 1) := by decide +kernel
theorem dX8_stamp_56 : decode cX8_stamp 56 = .ok (.iload_n 2, 1) := by decide +kernel
theorem dX8_stamp_57 : decode cX8_stamp 57 = .ok (.invokestatic 184, 3) := by decide +kernel
theorem dX8_stamp_60 : decode cX8_stamp 60 = .ok (.ireturn, 1) := by decide +kernel
theorem dX8_back_0 : decode cX8_back 0 = .ok (.aload_n 0, 1) := by decide +kernel
theorem dX8_back_1 : decode cX8_back 1 = .ok (.aload_n 0, 1) := by decide +kernel
theorem dX8_back_2 : decode cX8_back 2 = .ok (.getfield 7, 3) := by decide +kernel
theorem dX8_back_5 : decode cX8_back 5 = .ok (.iload_n 1, 1) := by decide +kernel
theorem dX8_back_6 : decode cX8_back 6 = .ok (.invokestatic 178, 3) := by decide +kernel
theorem dX8_back_9 : decode cX8_back 9 = .ok (.ifCond .ne 7, 3) := by decide +kernel
theorem dX8_back_12 : decode cX8_back 12 = .ok (.iconst 1, 1) := by decide +kernel
theorem dX8_back_13 : decode cX8_back 13 = .ok (.goto 19, 3) := by decide +kernel
theorem dX8_back_16 : decode cX8_back 16 = .ok (.aload_n 0, 1) := by decide +kernel
theorem dX8_back_17 : decode cX8_back 17 = .ok (.getfield 7, 3) := by decide +kernel
theorem dX8_back_20 : decode cX8_back 20 = .ok (.iload_n 1, 1) := by decide +kernel
theorem dX8_back_21 : decode cX8_back 21 = .ok (.invokestatic 70, 3) := by decide +kernel
theorem dX8_back_24 : decode cX8_back 24 = .ok (.ifCond .ne 7, 3) := by decide +kernel
theorem dX8_back_27 : decode cX8_back 27 = .ok (.iconst 2, 1) := by decide +kernel
theorem dX8_back_28 : decode cX8_back 28 = .ok (.goto 4, 3) := by decide +kernel
theorem dX8_back_31 : decode cX8_back 31 = .ok (.iconst 0, 1) := by decide +kernel
theorem dX8_back_32 : decode cX8_back 32 = .ok (.invokevirtual 105, 3) := by decide +kernel
theorem dX8_back_35 : decode cX8_back 35 = .ok (.ifCond .eq 5, 3) := by decide +kernel
theorem dX8_back_38 : decode cX8_back 38 = .ok (.iconst 0, 1) := by decide +kernel
theorem dX8_back_39 : decode cX8_back 39 = .ok (.ireturn, 1) := by decide +kernel
theorem dX8_back_40 : decode cX8_back 40 = .ok (.aload_n 0, 1) := by decide +kernel
theorem dX8_back_41 : decode cX8_back 41 = .ok (.invokevirtual 248, 3) := by decide +kernel
theorem dX8_back_44 : decode cX8_back 44 = .ok (.aload_n 0, 1) := by decide +kernel
theorem dX8_back_45 : decode cX8_back 45 = .ok (.getfield 7, 3) := by decide +kernel
theorem dX8_back_48 : decode cX8_back 48 = .ok (.iload_n 1, 1) := by decide +kernel
theorem dX8_back_49 : decode cX8_back 49 = .ok (.invokestatic 263, 3) := by decide +kernel
theorem dX8_back_52 : decode cX8_back 52 = .ok (.ireturn, 1) := by decide +kernel
theorem dX8_build_0 : decode cX8_build 0 = .ok (.aload_n 0, 1) := by decide +kernel
theorem dX8_build_1 : decode cX8_build 1 = .ok (.aload_n 0, 1) := by decide +kernel
theorem dX8_build_2 : decode cX8_build 2 = .ok (.getfield 7, 3) := by decide +kernel
theorem dX8_build_5 : decode cX8_build 5 = .ok (.iload_n 1, 1) := by decide +kernel
theorem dX8_build_6 : decode cX8_build 6 = .ok (.invokestatic 178, 3) := by decide +kernel
theorem dX8_build_9 : decode cX8_build 9 = .ok (.ifCond .eq 10, 3) := by decide +kernel
theorem dX8_build_12 : decode cX8_build 12 = .ok (.iload_n 2, 1) := by decide +kernel
theorem dX8_build_13 : decode cX8_build 13 = .ok (.invokestatic 232, 3) := by decide +kernel
theorem dX8_build_16 : decode cX8_build 16 = .ok (.ifCond .ne 7, 3) := by decide +kernel
theorem dX8_build_19 : decode cX8_build 19 = .ok (.iconst 1, 1) := by decide +kernel
theorem dX8_build_20 : decode cX8_build 20 = .ok (.goto 19, 3) := by decide +kernel
theorem dX8_build_23 : decode cX8_build 23 = .ok (.aload_n 0, 1) := by decide +kernel
theorem dX8_build_24 : decode cX8_build 24 = .ok (.getfield 7, 3) := by decide +kernel
theorem dX8_build_27 : decode cX8_build 27 = .ok (.iload_n 1, 1) := by decide +kernel
theorem dX8_build_28 : decode cX8_build 28 = .ok (.invokestatic 266, 3) := by decide +kernel
theorem dX8_build_31 : decode cX8_build 31 = .ok (.ifCond .ne 7, 3) := by decide +kernel
theorem dX8_build_34 : decode cX8_build 34 = .ok (.iconst 2, 1) := by decide +kernel
theorem dX8_build_35 : decode cX8_build 35 = .ok (.goto 4, 3) := by decide +kernel
theorem dX8_build_38 : decode cX8_build 38 = .ok (.iconst 0, 1) := by decide +kernel
theorem dX8_build_39 : decode cX8_build 39 = .ok (.invokevirtual 105, 3) := by decide +kernel
theorem dX8_build_42 : decode cX8_build 42 = .ok (.ifCond .eq 5, 3) := by decide +kernel
theorem dX8_build_45 : decode cX8_build 45 = .ok (.iconst 0, 1) := by decide +kernel
theorem dX8_build_46 : decode cX8_build 46 = .ok (.ireturn, 1) := by decide +kernel
theorem dX8_build_47 : decode cX8_build 47 = .ok (.aload_n 0, 1) := by decide +kernel
theorem dX8_build_48 : decode cX8_build 48 = .ok (.invokevirtual 248, 3) := by decide +kernel
theorem dX8_build_51 : decode cX8_build 51 = .ok (.aload_n 0, 1) := by decide +kernel
theorem dX8_build_52 : decode cX8_build 52 = .ok (.getfield 7, 3) := by decide +kernel
theorem dX8_build_55 : decode cX8_build 55 = .ok (.iload_n 1, 1) := by decide +kernel
theorem dX8_build_56 : decode cX8_build 56 = .ok (.iload_n 2, 1) := by decide +kernel
theorem dX8_build_57 : decode cX8_build 57 = .ok (.invokestatic 269, 3) := by decide +kernel
theorem dX8_build_60 : decode cX8_build 60 = .ok (.ireturn, 1) := by decide +kernel
theorem dX8_mend_0 : decode cX8_mend 0 = .ok (.aload_n 0, 1) := by decide +kernel
theorem dX8_mend_1 : decode cX8_mend 1 = .ok (.aload_n 0, 1) := by decide +kernel
theorem dX8_mend_2 : decode cX8_mend 2 = .ok (.getfield 7, 3) := by decide +kernel
theorem dX8_mend_5 : decode cX8_mend 5 = .ok (.iload_n 1, 1) := by decide +kernel
theorem dX8_mend_6 : decode cX8_mend 6 = .ok (.invokestatic 243, 3) := by decide +kernel
theorem dX8_mend_9 : decode cX8_mend 9 = .ok (.ifCond .ne 7, 3) := by decide +kernel
theorem dX8_mend_12 : decode cX8_mend 12 = .ok (.iconst 1, 1) := by decide +kernel
