theorem dX8_init_0 : decode cX8_init 0 = .ok (.aload_n 0, 1) := by decide +kernel
theorem dX8_init_1 : decode cX8_init 1 = .ok (.invokespecial 1, 3) := by decide +kernel
theorem dX8_init_4 : decode cX8_init 4 = .ok (.aload_n 0, 1) := by decide +kernel
theorem dX8_init_5 : decode cX8_init 5 = .ok (.sipush 414, 3) := by decide +kernel
theorem dX8_init_8 : decode cX8_init 8 = .ok (.newarray .int, 2) := by decide +kernel
theorem dX8_init_10 : decode cX8_init 10 = .ok (.putfield 7, 3) := by decide +kernel
theorem dX8_init_13 : decode cX8_init 13 = .ok (.aload_n 0, 1) := by decide +kernel
theorem dX8_init_14 : decode cX8_init 14 = .ok (.sipush 414, 3) := by decide +kernel
theorem dX8_init_17 : decode cX8_init 17 = .ok (.newarray .int, 2) := by decide +kernel
theorem dX8_init_19 : decode cX8_init 19 = .ok (.putfield 13, 3) := by decide +kernel
theorem dX8_init_22 : decode cX8_init 22 = .ok (.aload_n 0, 1) := by decide +kernel
theorem dX8_init_23 : decode cX8_init 23 = .ok (.sipush 414, 3) := by decide +kernel
theorem dX8_init_26 : decode cX8_init 26 = .ok (.newarray .int, 2) := by decide +kernel
theorem dX8_init_28 : decode cX8_init 28 = .ok (.putfield 16, 3) := by decide +kernel
theorem dX8_init_31 : decode cX8_init 31 = .ok (.aload_n 0, 1) := by decide +kernel
theorem dX8_init_32 : decode cX8_init 32 = .ok (.sipush 5796, 3) := by decide +kernel
theorem dX8_init_35 : decode cX8_init 35 = .ok (.newarray .int, 2) := by decide +kernel
theorem dX8_init_37 : decode cX8_init 37 = .ok (.putfield 19, 3) := by decide +kernel
theorem dX8_init_40 : decode cX8_init 40 = .ok (.aload_n 0, 1) := by decide +kernel
theorem dX8_init_41 : decode cX8_init 41 = .ok (.sipush 828, 3) := by decide +kernel
theorem dX8_init_44 : decode cX8_init 44 = .ok (.newarray .int, 2) := by decide +kernel
theorem dX8_init_46 : decode cX8_init 46 = .ok (.putfield 22, 3) := by decide +kernel
theorem dX8_init_49 : decode cX8_init 49 = .ok (.aload_n 0, 1) := by decide +kernel
theorem dX8_init_50 : decode cX8_init 50 = .ok (.iconst 2, 1) := by decide +kernel
theorem dX8_init_51 : decode cX8_init 51 = .ok (.newarray .boolean, 2) := by decide +kernel
theorem dX8_init_53 : decode cX8_init 53 = .ok (.putfield 25, 3) := by decide +kernel
theorem dX8_init_56 : decode cX8_init 56 = .ok (.aload_n 0, 1) := by decide +kernel
theorem dX8_init_57 : decode cX8_init 57 = .ok (.bipush 120, 2) := by decide +kernel
theorem dX8_init_59 : decode cX8_init 59 = .ok (.newarray .int, 2) := by decide +kernel
theorem dX8_init_61 : decode cX8_init 61 = .ok (.putfield 29, 3) := by decide +kernel
theorem dX8_init_64 : decode cX8_init 64 = .ok (.aload_n 0, 1) := by decide +kernel
theorem dX8_init_65 : decode cX8_init 65 = .ok (.getfield 7, 3) := by decide +kernel
theorem dX8_init_68 : decode cX8_init 68 = .ok (.invokestatic 32, 3) := by decide +kernel
theorem dX8_init_71 : decode cX8_init 71 = .ok (.return_, 1) := by decide +kernel
theorem dX8_thrown_0 : decode cX8_thrown 0 = .ok (.aload_n 0, 1) := by decide +kernel
theorem dX8_thrown_1 : decode cX8_thrown 1 = .ok (.getfield 36, 3) := by decide +kernel
theorem dX8_thrown_4 : decode cX8_thrown 4 = .ok (.ireturn, 1) := by decide +kernel
theorem dX8_refused_0 : decode cX8_refused 0 = .ok (.aload_n 0, 1) := by decide +kernel
theorem dX8_refused_1 : decode cX8_refused 1 = .ok (.iload_n 1, 1) := by decide +kernel
theorem dX8_refused_2 : decode cX8_refused 2 = .ok (.putfield 36, 3) := by decide +kernel
theorem dX8_refused_5 : decode cX8_refused 5 = .ok (.iload_n 1, 1) := by decide +kernel
theorem dX8_refused_6 : decode cX8_refused 6 = .ok (.ifCond .eq 7, 3) := by decide +kernel
theorem dX8_refused_9 : decode cX8_refused 9 = .ok (.iconst 1, 1) := by decide +kernel
theorem dX8_refused_10 : decode cX8_refused 10 = .ok (.goto 4, 3) := by decide +kernel
theorem dX8_refused_13 : decode cX8_refused 13 = .ok (.iconst 0, 1) := by decide +kernel
theorem dX8_refused_14 : decode cX8_refused 14 = .ok (.ireturn, 1) := by decide +kernel
theorem dX8_in_0 : decode cX8_in 0 = .ok (.lload_n 0, 1) := by decide +kernel
theorem dX8_in_1 : decode cX8_in 1 = .ok (.lload_n 2, 1) := by decide +kernel
theorem dX8_in_2 : decode cX8_in 2 = .ok (.lcmp, 1) := by decide +kernel
theorem dX8_in_3 : decode cX8_in 3 = .ok (.ifCond .lt 14, 3) := by decide +kernel
theorem dX8_in_6 : decode cX8_in 6 = .ok (.lload_n 0, 1) := by decide +kernel
theorem dX8_in_7 : decode cX8_in 7 = .ok (.lload 4, 2) := by decide +kernel
theorem dX8_in_9 : decode cX8_in 9 = .ok (.lcmp, 1) := by decide +kernel
theorem dX8_in_10 : decode cX8_in 10 = .ok (.ifCond .gt 7, 3) := by decide +kernel
theorem dX8_in_13 : decode cX8_in 13 = .ok (.iconst 1, 1) := by decide +kernel
theorem dX8_in_14 : decode cX8_in 14 = .ok (.goto 4, 3) := by decide +kernel
theorem dX8_in_17 : decode cX8_in 17 = .ok (.iconst 0, 1) := by decide +kernel
theorem dX8_in_18 : decode cX8_in 18 = .ok (.ireturn, 1) := by decide +kernel
theorem dX8_has_0 : decode cX8_has 0 = .ok (.iload_n 0, 1) := by decide +kernel
theorem dX8_has_1 : decode cX8_has 1 = .ok (.iload_n 1, 1) := by decide +kernel
theorem dX8_has_2 : decode cX8_has 2 = .ok (.ishr, 1) := by decide +kernel
theorem dX8_has_3 : decode cX8_has 3 = .ok (.iconst 1, 1) := by decide +kernel
theorem dX8_has_4 : decode cX8_has 4 = .ok (.iand, 1) := by decide +kernel
theorem dX8_has_5 : decode cX8_has 5 = .ok (.iconst 1, 1) := by decide +kernel
theorem dX8_has_6 : decode cX8_has 6 = .ok (.if_icmp .ne 7, 3) := by decide +kernel
theorem dX8_has_9 : decode cX8_has 9 = .ok (.iconst 1, 1) := by decide +kernel
theorem dX8_has_10 : decode cX8_has 10 = .ok (.goto 4, 3) := by decide +kernel
theorem dX8_has_13 : decode cX8_has 13 = .ok (.iconst 0, 1) := by decide +kernel
theorem dX8_has_14 : decode cX8_has 14 = .ok (.ireturn, 1) := by decide +kernel
theorem dX8_many_0 : decode cX8_many 0 = .ok (.iconst 0, 1) := by decide +kernel
theorem dX8_many_1 : decode cX8_many 1 = .ok (.istore_n 1, 1) := by decide +kernel
theorem dX8_many_2 : decode cX8_many 2 = .ok (.iconst 0, 1) := by decide +kernel
theorem dX8_many_3 : decode cX8_many 3 = .ok (.istore_n 2, 1) := by decide +kernel
theorem dX8_many_4 : decode cX8_many 4 = .ok (.iload_n 2, 1) := by decide +kernel
theorem dX8_many_5 : decode cX8_many 5 = .ok (.bipush 30, 2) := by decide +kernel
theorem dX8_many_7 : decode cX8_many 7 = .ok (.if_icmp .ge 17, 3) := by decide +kernel
theorem dX8_many_10 : decode cX8_many 10 = .ok (.iload_n 1, 1) := by decide +kernel
theorem dX8_many_11 : decode cX8_many 11 = .ok (.iload_n 0, 1) := by decide +kernel
theorem dX8_many_12 : decode cX8_many 12 = .ok (.iload_n 2, 1) := by decide +kernel
theorem dX8_many_13 : decode cX8_many 13 = .ok (.ishr, 1) := by decide +kernel
theorem dX8_many_14 : decode cX8_many 14 = .ok (.iconst 1, 1) := by decide +kernel
theorem dX8_many_15 : decode cX8_many 15 = .ok (.iand, 1) := by decide +kernel
theorem dX8_many_16 : decode cX8_many 16 = .ok (.iadd, 1) := by decide +kernel
theorem dX8_many_17 : decode cX8_many 17 = .ok (.istore_n 1, 1) := by decide +kernel
theorem dX8_many_18 : decode cX8_many 18 = .ok (.iinc 2 1, 3) := by decide +kernel
theorem dX8_many_21 : decode cX8_many 21 = .ok (.goto (-17), 3) := by decide +kernel
theorem dX8_many_24 : decode cX8_many 24 = .ok (.iload_n 1, 1) := by decide +kernel
theorem dX8_many_25 : decode cX8_many 25 = .ok (.ireturn, 1) := by decide +kernel
theorem dX8_tens_0 : decode cX8_tens 0 = .ok (.lconst 1, 1) := by decide +kernel
theorem dX8_tens_1 : decode cX8_tens 1 = .ok (.lstore_n 1, 1) := by decide +kernel
theorem dX8_tens_2 : decode cX8_tens 2 = .ok (.iconst 0, 1) := by decide +kernel
theorem dX8_tens_3 : decode cX8_tens 3 = .ok (.istore_n 3, 1) := by decide +kernel
theorem dX8_tens_4 : decode cX8_tens 4 = .ok (.iload_n 3, 1) := by decide +kernel
theorem dX8_tens_5 : decode cX8_tens 5 = .ok (.iload_n 0, 1) := by decide +kernel
theorem dX8_tens_6 : decode cX8_tens 6 = .ok (.if_icmp .ge 15, 3) := by decide +kernel
theorem dX8_tens_9 : decode cX8_tens 9 = .ok (.lload_n 1, 1) := by decide +kernel
theorem dX8_tens_10 : decode cX8_tens 10 = .ok (.ldc2_w 40, 3) := by decide +kernel
theorem dX8_tens_13 : decode cX8_tens 13 = .ok (.lmul, 1) := by decide +kernel
theorem dX8_tens_14 : decode cX8_tens 14 = .ok (.lstore_n 1, 1) := by decide +kernel
theorem dX8_tens_15 : decode cX8_tens 15 = .ok (.iinc 3 1, 3) := by decide +kernel
theorem dX8_tens_18 : decode cX8_tens 18 = .ok (.goto (-14), 3) := by decide +kernel
theorem dX8_tens_21 : decode cX8_tens 21 = .ok (.lload_n 1, 1) := by decide +kernel
theorem dX8_tens_22 : decode cX8_tens 22 = .ok (.lreturn, 1) := by decide +kernel
theorem dX8_fresh_0 : decode cX8_fresh 0 = .ok (.iconst 0, 1) := by decide +kernel
theorem dX8_fresh_1 : decode cX8_fresh 1 = .ok (.istore_n 1, 1) := by decide +kernel
theorem dX8_fresh_2 : decode cX8_fresh 2 = .ok (.iload_n 1, 1) := by decide +kernel
theorem dX8_fresh_3 : decode cX8_fresh 3 = .ok (.sipush 414, 3) := by decide +kernel
theorem dX8_fresh_6 : decode cX8_fresh 6 = .ok (.if_icmp .ge 13, 3) := by decide +kernel
theorem dX8_fresh_9 : decode cX8_fresh 9 = .ok (.aload_n 0, 1) := by decide +kernel
theorem dX8_fresh_10 : decode cX8_fresh 10 = .ok (.iload_n 1, 1) := by decide +kernel
theorem dX8_fresh_11 : decode cX8_fresh 11 = .ok (.iconst 0, 1) := by decide +kernel
theorem dX8_fresh_12 : decode cX8_fresh 12 = .ok (.iastore, 1) := by decide +kernel
theorem dX8_fresh_13 : decode cX8_fresh 13 = .ok (.iinc 1 1, 3) := by decide +kernel
theorem dX8_fresh_16 : decode cX8_fresh 16 = .ok (.goto (-14), 3) := by decide +kernel
theorem dX8_fresh_19 : decode cX8_fresh 19 = .ok (.aload_n 0, 1) := by decide +kernel
theorem dX8_fresh_20 : decode cX8_fresh 20 = .ok (.iconst 5, 1) := by decide +kernel
theorem dX8_fresh_21 : decode cX8_fresh 21 = .ok (.iconst 3, 1) := by decide +kernel
theorem dX8_fresh_22 : decode cX8_fresh 22 = .ok (.iastore, 1) := by decide +kernel
theorem dX8_fresh_23 : decode cX8_fresh 23 = .ok (.aload_n 0, 1) := by decide +kernel
theorem dX8_fresh_24 : decode cX8_fresh 24 = .ok (.bipush 6, 2) := by decide +kernel
theorem dX8_fresh_26 : decode cX8_fresh 26 = .ok (.iconst 1, 1) := by decide +kernel
theorem dX8_fresh_27 : decode cX8_fresh 27 = .ok (.iastore, 1) := by decide +kernel
theorem dX8_fresh_28 : decode cX8_fresh 28 = .ok (.aload_n 0, 1) := by decide +kernel
theorem dX8_fresh_29 : decode cX8_fresh 29 = .ok (.bipush 7, 2) := by decide +kernel
theorem dX8_fresh_31 : decode cX8_fresh 31 = .ok (.iconst 5, 1) := by decide +kernel
theorem dX8_fresh_32 : decode cX8_fresh 32 = .ok (.iastore, 1) := by decide +kernel
theorem dX8_fresh_33 : decode cX8_fresh 33 = .ok (.return_, 1) := by decide +kernel
theorem dX8_copy_0 : decode cX8_copy 0 = .ok (.iconst 0, 1) := by decide +kernel
theorem dX8_copy_1 : decode cX8_copy 1 = .ok (.istore_n 2, 1) := by decide +kernel
theorem dX8_copy_2 : decode cX8_copy 2 = .ok (.iload_n 2, 1) := by decide +kernel
theorem dX8_copy_3 : decode cX8_copy 3 = .ok (.sipush 414, 3) := by decide +kernel
theorem dX8_copy_6 : decode cX8_copy 6 = .ok (.if_icmp .ge 15, 3) := by decide +kernel
theorem dX8_copy_9 : decode cX8_copy 9 = .ok (.aload_n 1, 1) := by decide +kernel
theorem dX8_copy_10 : decode cX8_copy 10 = .ok (.iload_n 2, 1) := by decide +kernel
theorem dX8_copy_11 : decode cX8_copy 11 = .ok (.aload_n 0, 1) := by decide +kernel
theorem dX8_copy_12 : decode cX8_copy 12 = .ok (.iload_n 2, 1) := by decide +kernel
theorem dX8_copy_13 : decode cX8_copy 13 = .ok (.iaload, 1) := by decide +kernel
theorem dX8_copy_14 : decode cX8_copy 14 = .ok (.iastore, 1) := by decide +kernel
theorem dX8_copy_15 : decode cX8_copy 15 = .ok (.iinc 2 1, 3) := by decide +kernel
theorem dX8_copy_18 : decode cX8_copy 18 = .ok (.goto (-16), 3) := by decide +kernel
theorem dX8_copy_21 : decode cX8_copy 21 = .ok (.return_, 1) := by decide +kernel
theorem dX8_hasSheet_0 : decode cX8_hasSheet 0 = .ok (.iload_n 1, 1) := by decide +kernel
theorem dX8_hasSheet_1 : decode cX8_hasSheet 1 = .ok (.i2l, 1) := by decide +kernel
theorem dX8_hasSheet_2 : decode cX8_hasSheet 2 = .ok (.lconst 0, 1) := by decide +kernel
theorem dX8_hasSheet_3 : decode cX8_hasSheet 3 = .ok (.aload_n 0, 1) := by decide +kernel
theorem dX8_hasSheet_4 : decode cX8_hasSheet 4 = .ok (.iconst 0, 1) := by decide +kernel
theorem dX8_hasSheet_5 : decode cX8_hasSheet 5 = .ok (.iaload, 1) := by decide +kernel
theorem dX8_hasSheet_6 : decode cX8_hasSheet 6 = .ok (.iconst 1, 1) := by decide +kernel
theorem dX8_hasSheet_7 : decode cX8_hasSheet 7 = .ok (.isub, 1) := by decide +kernel
theorem dX8_hasSheet_8 : decode cX8_hasSheet 8 = .ok (.i2l, 1) := by decide +kernel
theorem dX8_hasSheet_9 : decode cX8_hasSheet 9 = .ok (.invokestatic 42, 3) := by decide +kernel
theorem dX8_hasSheet_12 : decode cX8_hasSheet 12 = .ok (.ireturn, 1) := by decide +kernel
theorem dX8_hasPrint_0 : decode cX8_hasPrint 0 = .ok (.iload_n 1, 1) := by decide +kernel
theorem dX8_hasPrint_1 : decode cX8_hasPrint 1 = .ok (.i2l, 1) := by decide +kernel
theorem dX8_hasPrint_2 : decode cX8_hasPrint 2 = .ok (.lconst 0, 1) := by decide +kernel
theorem dX8_hasPrint_3 : decode cX8_hasPrint 3 = .ok (.aload_n 0, 1) := by decide +kernel
theorem dX8_hasPrint_4 : decode cX8_hasPrint 4 = .ok (.iconst 1, 1) := by decide +kernel
theorem dX8_hasPrint_5 : decode cX8_hasPrint 5 = .ok (.iaload, 1) := by decide +kernel
theorem dX8_hasPrint_6 : decode cX8_hasPrint 6 = .ok (.iconst 1, 1) := by decide +kernel
theorem dX8_hasPrint_7 : decode cX8_hasPrint 7 = .ok (.isub, 1) := by decide +kernel
theorem dX8_hasPrint_8 : decode cX8_hasPrint 8 = .ok (.i2l, 1) := by decide +kernel
theorem dX8_hasPrint_9 : decode cX8_hasPrint 9 = .ok (.invokestatic 42, 3) := by decide +kernel
theorem dX8_hasPrint_12 : decode cX8_hasPrint 12 = .ok (.ireturn, 1) := by decide +kernel
theorem dX8_hasWork_0 : decode cX8_hasWork 0 = .ok (.iload_n 1, 1) := by decide +kernel
theorem dX8_hasWork_1 : decode cX8_hasWork 1 = .ok (.i2l, 1) := by decide +kernel
theorem dX8_hasWork_2 : decode cX8_hasWork 2 = .ok (.lconst 0, 1) := by decide +kernel
theorem dX8_hasWork_3 : decode cX8_hasWork 3 = .ok (.aload_n 0, 1) := by decide +kernel
theorem dX8_hasWork_4 : decode cX8_hasWork 4 = .ok (.iconst 2, 1) := by decide +kernel
theorem dX8_hasWork_5 : decode cX8_hasWork 5 = .ok (.iaload, 1) := by decide +kernel
theorem dX8_hasWork_6 : decode cX8_hasWork 6 = .ok (.iconst 1, 1) := by decide +kernel
theorem dX8_hasWork_7 : decode cX8_hasWork 7 = .ok (.isub, 1) := by decide +kernel
theorem dX8_hasWork_8 : decode cX8_hasWork 8 = .ok (.i2l, 1) := by decide +kernel
theorem dX8_hasWork_9 : decode cX8_hasWork 9 = .ok (.invokestatic 42, 3) := by decide +kernel
theorem dX8_hasWork_12 : decode cX8_hasWork 12 = .ok (.ireturn, 1) := by decide +kernel
theorem dX8_isField_0 : decode cX8_isField 0 = .ok (.iload_n 0, 1) := by decide +kernel
theorem dX8_isField_1 : decode cX8_isField 1 = .ok (.i2l, 1) := by decide +kernel
theorem dX8_isField_2 : decode cX8_isField 2 = .ok (.lconst 0, 1) := by decide +kernel
theorem dX8_isField_3 : decode cX8_isField 3 = .ok (.ldc2_w 46, 3) := by decide +kernel
theorem dX8_isField_6 : decode cX8_isField 6 = .ok (.invokestatic 42, 3) := by decide +kernel
theorem dX8_isField_9 : decode cX8_isField 9 = .ok (.ireturn, 1) := by decide +kernel
theorem dX8_isSite_0 : decode cX8_isSite 0 = .ok (.iload_n 0, 1) := by decide +kernel
theorem dX8_isSite_1 : decode cX8_isSite 1 = .ok (.i2l, 1) := by decide +kernel
theorem dX8_isSite_2 : decode cX8_isSite 2 = .ok (.lconst 0, 1) := by decide +kernel
theorem dX8_isSite_3 : decode cX8_isSite 3 = .ok (.ldc2_w 48, 3) := by decide +kernel
theorem dX8_isSite_6 : decode cX8_isSite 6 = .ok (.invokestatic 42, 3) := by decide +kernel
theorem dX8_isSite_9 : decode cX8_isSite 9 = .ok (.ireturn, 1) := by decide +kernel
theorem dX8_isHand_0 : decode cX8_isHand 0 = .ok (.iload_n 0, 1) := by decide +kernel
theorem dX8_isHand_1 : decode cX8_isHand 1 = .ok (.i2l, 1) := by decide +kernel
theorem dX8_isHand_2 : decode cX8_isHand 2 = .ok (.lconst 0, 1) := by decide +kernel
theorem dX8_isHand_3 : decode cX8_isHand 3 = .ok (.ldc2_w 50, 3) := by decide +kernel
theorem dX8_isHand_6 : decode cX8_isHand 6 = .ok (.invokestatic 42, 3) := by decide +kernel
theorem dX8_isHand_9 : decode cX8_isHand 9 = .ok (.ireturn, 1) := by decide +kernel
theorem dX8_isCloud_0 : decode cX8_isCloud 0 = .ok (.iload_n 0, 1) := by decide +kernel
theorem dX8_isCloud_1 : decode cX8_isCloud 1 = .ok (.i2l, 1) := by decide +kernel
theorem dX8_isCloud_2 : decode cX8_isCloud 2 = .ok (.lconst 1, 1) := by decide +kernel
theorem dX8_isCloud_3 : decode cX8_isCloud 3 = .ok (.ldc2_w 52, 3) := by decide +kernel
theorem dX8_isCloud_6 : decode cX8_isCloud 6 = .ok (.invokestatic 42, 3) := by decide +kernel
theorem dX8_isCloud_9 : decode cX8_isCloud 9 = .ok (.ireturn, 1) := by decide +kernel
theorem dX8_isSetting_0 : decode cX8_isSetting 0 = .ok (.iload_n 0, 1) := by decide +kernel
theorem dX8_isSetting_1 : decode cX8_isSetting 1 = .ok (.ifCond .ne 15, 3) := by decide +kernel
theorem dX8_isSetting_4 : decode cX8_isSetting 4 = .ok (.iload_n 1, 1) := by decide +kernel
theorem dX8_isSetting_5 : decode cX8_isSetting 5 = .ok (.i2l, 1) := by decide +kernel
theorem dX8_isSetting_6 : decode cX8_isSetting 6 = .ok (.lconst 0, 1) := by decide +kernel
theorem dX8_isSetting_7 : decode cX8_isSetting 7 = .ok (.ldc2_w 54, 3) := by decide +kernel
theorem dX8_isSetting_10 : decode cX8_isSetting 10 = .ok (.invokestatic 42, 3) := by decide +kernel
theorem dX8_isSetting_13 : decode cX8_isSetting 13 = .ok (.ifCond .ne 37, 3) := by decide +kernel
theorem dX8_isSetting_16 : decode cX8_isSetting 16 = .ok (.iload_n 0, 1) := by decide +kernel
theorem dX8_isSetting_17 : decode cX8_isSetting 17 = .ok (.iconst 1, 1) := by decide +kernel
theorem dX8_isSetting_18 : decode cX8_isSetting 18 = .ok (.if_icmp .ne 15, 3) := by decide +kernel
theorem dX8_isSetting_21 : decode cX8_isSetting 21 = .ok (.iload_n 1, 1) := by decide +kernel
theorem dX8_isSetting_22 : decode cX8_isSetting 22 = .ok (.i2l, 1) := by decide +kernel
theorem dX8_isSetting_23 : decode cX8_isSetting 23 = .ok (.lconst 0, 1) := by decide +kernel
theorem dX8_isSetting_24 : decode cX8_isSetting 24 = .ok (.ldc2_w 48, 3) := by decide +kernel
theorem dX8_isSetting_27 : decode cX8_isSetting 27 = .ok (.invokestatic 42, 3) := by decide +kernel
theorem dX8_isSetting_30 : decode cX8_isSetting 30 = .ok (.ifCond .ne 20, 3) := by decide +kernel
theorem dX8_isSetting_33 : decode cX8_isSetting 33 = .ok (.iload_n 0, 1) := by decide +kernel
theorem dX8_isSetting_34 : decode cX8_isSetting 34 = .ok (.iconst 2, 1) := by decide +kernel
theorem dX8_isSetting_35 : decode cX8_isSetting 35 = .ok (.if_icmp .ne 19, 3) := by decide +kernel
theorem dX8_isSetting_38 : decode cX8_isSetting 38 = .ok (.iload_n 1, 1) := by decide +kernel
theorem dX8_isSetting_39 : decode cX8_isSetting 39 = .ok (.i2l, 1) := by decide +kernel
theorem dX8_isSetting_40 : decode cX8_isSetting 40 = .ok (.lconst 0, 1) := by decide +kernel
theorem dX8_isSetting_41 : decode cX8_isSetting 41 = .ok (.ldc2_w 56, 3) := by decide +kernel
theorem dX8_isSetting_44 : decode cX8_isSetting 44 = .ok (.invokestatic 42, 3) := by decide +kernel
theorem dX8_isSetting_47 : decode cX8_isSetting 47 = .ok (.ifCond .eq 7, 3) := by decide +kernel
theorem dX8_isSetting_50 : decode cX8_isSetting 50 = .ok (.iconst 1, 1) := by decide +kernel
theorem dX8_isSetting_51 : decode cX8_isSetting 51 = .ok (.goto 4, 3) := by decide +kernel
theorem dX8_isSetting_54 : decode cX8_isSetting 54 = .ok (.iconst 0, 1) := by decide +kernel
theorem dX8_isSetting_55 : decode cX8_isSetting 55 = .ok (.ireturn, 1) := by decide +kernel
theorem dX8_isUnder_0 : decode cX8_isUnder 0 = .ok (.iload_n 1, 1) := by decide +kernel
theorem dX8_isUnder_1 : decode cX8_isUnder 1 = .ok (.istore_n 3, 1) := by decide +kernel
theorem dX8_isUnder_2 : decode cX8_isUnder 2 = .ok (.iload_n 3, 1) := by decide +kernel
theorem dX8_isUnder_3 : decode cX8_isUnder 3 = .ok (.iconst (-1), 1) := by decide +kernel
theorem dX8_isUnder_4 : decode cX8_isUnder 4 = .ok (.if_icmp .eq 18, 3) := by decide +kernel
theorem dX8_isUnder_7 : decode cX8_isUnder 7 = .ok (.iload_n 3, 1) := by decide +kernel
theorem dX8_isUnder_8 : decode cX8_isUnder 8 = .ok (.iload_n 2, 1) := by decide +kernel
theorem dX8_isUnder_9 : decode cX8_isUnder 9 = .ok (.if_icmp .eq 13, 3) := by decide +kernel
theorem dX8_isUnder_12 : decode cX8_isUnder 12 = .ok (.aload_n 0, 1) := by decide +kernel
theorem dX8_isUnder_13 : decode cX8_isUnder 13 = .ok (.bipush 10, 2) := by decide +kernel
theorem dX8_isUnder_15 : decode cX8_isUnder 15 = .ok (.iload_n 3, 1) := by decide +kernel
theorem dX8_isUnder_16 : decode cX8_isUnder 16 = .ok (.iadd, 1) := by decide +kernel
theorem dX8_isUnder_17 : decode cX8_isUnder 17 = .ok (.iaload, 1) := by decide +kernel
theorem dX8_isUnder_18 : decode cX8_isUnder 18 = .ok (.istore_n 3, 1) := by decide +kernel
theorem dX8_isUnder_19 : decode cX8_isUnder 19 = .ok (.goto (-17), 3) := by decide +kernel
theorem dX8_isUnder_22 : decode cX8_isUnder 22 = .ok (.iload_n 3, 1) := by decide +kernel
theorem dX8_isUnder_23 : decode cX8_isUnder 23 = .ok (.iload_n 2, 1) := by decide +kernel
theorem dX8_isUnder_24 : decode cX8_isUnder 24 = .ok (.if_icmp .ne 7, 3) := by decide +kernel
theorem dX8_isUnder_27 : decode cX8_isUnder 27 = .ok (.iconst 1, 1) := by decide +kernel
theorem dX8_isUnder_28 : decode cX8_isUnder 28 = .ok (.goto 4, 3) := by decide +kernel
theorem dX8_isUnder_31 : decode cX8_isUnder 31 = .ok (.iconst 0, 1) := by decide +kernel
theorem dX8_isUnder_32 : decode cX8_isUnder 32 = .ok (.ireturn, 1) := by decide +kernel
theorem dX8_above_0 : decode cX8_above 0 = .ok (.iconst 0, 1) := by decide +kernel
theorem dX8_above_1 : decode cX8_above 1 = .ok (.istore_n 2, 1) := by decide +kernel
theorem dX8_above_2 : decode cX8_above 2 = .ok (.aload_n 0, 1) := by decide +kernel
theorem dX8_above_3 : decode cX8_above 3 = .ok (.bipush 10, 2) := by decide +kernel
theorem dX8_above_5 : decode cX8_above 5 = .ok (.iload_n 1, 1) := by decide +kernel
theorem dX8_above_6 : decode cX8_above 6 = .ok (.iadd, 1) := by decide +kernel
theorem dX8_above_7 : decode cX8_above 7 = .ok (.iaload, 1) := by decide +kernel
theorem dX8_above_8 : decode cX8_above 8 = .ok (.istore_n 3, 1) := by decide +kernel
theorem dX8_above_9 : decode cX8_above 9 = .ok (.iload_n 3, 1) := by decide +kernel
theorem dX8_above_10 : decode cX8_above 10 = .ok (.iconst (-1), 1) := by decide +kernel
theorem dX8_above_11 : decode cX8_above 11 = .ok (.if_icmp .eq 16, 3) := by decide +kernel
theorem dX8_above_14 : decode cX8_above 14 = .ok (.iinc 2 1, 3) := by decide +kernel
theorem dX8_above_17 : decode cX8_above 17 = .ok (.aload_n 0, 1) := by decide +kernel
theorem dX8_above_18 : decode cX8_above 18 = .ok (.bipush 10, 2) := by decide +kernel
theorem dX8_above_20 : decode cX8_above 20 = .ok (.iload_n 3, 1) := by decide +kernel
theorem dX8_above_21 : decode cX8_above 21 = .ok (.iadd, 1) := by decide +kernel
theorem dX8_above_22 : decode cX8_above 22 = .ok (.iaload, 1) := by decide +kernel
theorem dX8_above_23 : decode cX8_above 23 = .ok (.istore_n 3, 1) := by decide +kernel
theorem dX8_above_24 : decode cX8_above 24 = .ok (.goto (-15), 3) := by decide +kernel
theorem dX8_above_27 : decode cX8_above 27 = .ok (.iload_n 2, 1) := by decide +kernel
theorem dX8_above_28 : decode cX8_above 28 = .ok (.ireturn, 1) := by decide +kernel
theorem dX8_below_0 : decode cX8_below 0 = .ok (.iconst (-1), 1) := by decide +kernel
theorem dX8_below_1 : decode cX8_below 1 = .ok (.istore_n 2, 1) := by decide +kernel
theorem dX8_below_2 : decode cX8_below 2 = .ok (.iconst 0, 1) := by decide +kernel
theorem dX8_below_3 : decode cX8_below 3 = .ok (.istore_n 3, 1) := by decide +kernel
theorem dX8_below_4 : decode cX8_below 4 = .ok (.iload_n 3, 1) := by decide +kernel
theorem dX8_below_5 : decode cX8_below 5 = .ok (.aload_n 0, 1) := by decide +kernel
theorem dX8_below_6 : decode cX8_below 6 = .ok (.iconst 0, 1) := by decide +kernel
theorem dX8_below_7 : decode cX8_below 7 = .ok (.iaload, 1) := by decide +kernel
theorem dX8_below_8 : decode cX8_below 8 = .ok (.if_icmp .ge 26, 3) := by decide +kernel
theorem dX8_below_11 : decode cX8_below 11 = .ok (.iload_n 2, 1) := by decide +kernel
theorem dX8_below_12 : decode cX8_below 12 = .ok (.aload_n 0, 1) := by decide +kernel
theorem dX8_below_13 : decode cX8_below 13 = .ok (.iload_n 3, 1) := by decide +kernel
theorem dX8_below_14 : decode cX8_below 14 = .ok (.iload_n 1, 1) := by decide +kernel
theorem dX8_below_15 : decode cX8_below 15 = .ok (.invokestatic 58, 3) := by decide +kernel
theorem dX8_below_18 : decode cX8_below 18 = .ok (.ifCond .eq 7, 3) := by decide +kernel
theorem dX8_below_21 : decode cX8_below 21 = .ok (.iconst 1, 1) := by decide +kernel
theorem dX8_below_22 : decode cX8_below 22 = .ok (.goto 4, 3) := by decide +kernel
theorem dX8_below_25 : decode cX8_below 25 = .ok (.iconst 0, 1) := by decide +kernel
theorem dX8_below_26 : decode cX8_below 26 = .ok (.iadd, 1) := by decide +kernel
theorem dX8_below_27 : decode cX8_below 27 = .ok (.istore_n 2, 1) := by decide +kernel
theorem dX8_below_28 : decode cX8_below 28 = .ok (.iinc 3 1, 3) := by decide +kernel
theorem dX8_below_31 : decode cX8_below 31 = .ok (.goto (-27), 3) := by decide +kernel
theorem dX8_below_34 : decode cX8_below 34 = .ok (.iload_n 2, 1) := by decide +kernel
theorem dX8_below_35 : decode cX8_below 35 = .ok (.ireturn, 1) := by decide +kernel
theorem dX8_deep_0 : decode cX8_deep 0 = .ok (.iconst 0, 1) := by decide +kernel
theorem dX8_deep_1 : decode cX8_deep 1 = .ok (.istore_n 2, 1) := by decide +kernel
theorem dX8_deep_2 : decode cX8_deep 2 = .ok (.iconst 0, 1) := by decide +kernel
theorem dX8_deep_3 : decode cX8_deep 3 = .ok (.istore_n 3, 1) := by decide +kernel
theorem dX8_deep_4 : decode cX8_deep 4 = .ok (.iload_n 3, 1) := by decide +kernel
theorem dX8_deep_5 : decode cX8_deep 5 = .ok (.aload_n 0, 1) := by decide +kernel
theorem dX8_deep_6 : decode cX8_deep 6 = .ok (.iconst 0, 1) := by decide +kernel
theorem dX8_deep_7 : decode cX8_deep 7 = .ok (.iaload, 1) := by decide +kernel
theorem dX8_deep_8 : decode cX8_deep 8 = .ok (.if_icmp .ge 50, 3) := by decide +kernel
theorem dX8_deep_11 : decode cX8_deep 11 = .ok (.aload_n 0, 1) := by decide +kernel
theorem dX8_deep_12 : decode cX8_deep 12 = .ok (.iload_n 3, 1) := by decide +kernel
theorem dX8_deep_13 : decode cX8_deep 13 = .ok (.iload_n 1, 1) := by decide +kernel
theorem dX8_deep_14 : decode cX8_deep 14 = .ok (.invokestatic 58, 3) := by decide +kernel
theorem dX8_deep_17 : decode cX8_deep 17 = .ok (.ifCond .eq 19, 3) := by decide +kernel
theorem dX8_deep_20 : decode cX8_deep 20 = .ok (.aload_n 0, 1) := by decide +kernel
theorem dX8_deep_21 : decode cX8_deep 21 = .ok (.iload_n 3, 1) := by decide +kernel
theorem dX8_deep_22 : decode cX8_deep 22 = .ok (.invokestatic 62, 3) := by decide +kernel
theorem dX8_deep_25 : decode cX8_deep 25 = .ok (.aload_n 0, 1) := by decide +kernel
theorem dX8_deep_26 : decode cX8_deep 26 = .ok (.iload_n 1, 1) := by decide +kernel
theorem dX8_deep_27 : decode cX8_deep 27 = .ok (.invokestatic 62, 3) := by decide +kernel
theorem dX8_deep_30 : decode cX8_deep 30 = .ok (.isub, 1) := by decide +kernel
theorem dX8_deep_31 : decode cX8_deep 31 = .ok (.iconst 1, 1) := by decide +kernel
theorem dX8_deep_32 : decode cX8_deep 32 = .ok (.iadd, 1) := by decide +kernel
theorem dX8_deep_33 : decode cX8_deep 33 = .ok (.goto 4, 3) := by decide +kernel
theorem dX8_deep_36 : decode cX8_deep 36 = .ok (.iconst 0, 1) := by decide +kernel
theorem dX8_deep_37 : decode cX8_deep 37 = .ok (.istore 4, 2) := by decide +kernel
theorem dX8_deep_39 : decode cX8_deep 39 = .ok (.iload 4, 2) := by decide +kernel
theorem dX8_deep_41 : decode cX8_deep 41 = .ok (.iload_n 2, 1) := by decide +kernel
theorem dX8_deep_42 : decode cX8_deep 42 = .ok (.if_icmp .le 8, 3) := by decide +kernel
theorem dX8_deep_45 : decode cX8_deep 45 = .ok (.iload 4, 2) := by decide +kernel
theorem dX8_deep_47 : decode cX8_deep 47 = .ok (.goto 4, 3) := by decide +kernel
theorem dX8_deep_50 : decode cX8_deep 50 = .ok (.iload_n 2, 1) := by decide +kernel
theorem dX8_deep_51 : decode cX8_deep 51 = .ok (.istore_n 2, 1) := by decide +kernel
theorem dX8_deep_52 : decode cX8_deep 52 = .ok (.iinc 3 1, 3) := by decide +kernel
theorem dX8_deep_55 : decode cX8_deep 55 = .ok (.goto (-51), 3) := by decide +kernel
theorem dX8_deep_58 : decode cX8_deep 58 = .ok (.iload_n 2, 1) := by decide +kernel
theorem dX8_deep_59 : decode cX8_deep 59 = .ok (.ireturn, 1) := by decide +kernel
theorem dX8_isOut_0 : decode cX8_isOut 0 = .ok (.aload_n 0, 1) := by decide +kernel
theorem dX8_isOut_1 : decode cX8_isOut 1 = .ok (.bipush 9, 2) := by decide +kernel
theorem dX8_isOut_3 : decode cX8_isOut 3 = .ok (.iaload, 1) := by decide +kernel
theorem dX8_isOut_4 : decode cX8_isOut 4 = .ok (.iload_n 1, 1) := by decide +kernel
theorem dX8_isOut_5 : decode cX8_isOut 5 = .ok (.invokestatic 66, 3) := by decide +kernel
theorem dX8_isOut_8 : decode cX8_isOut 8 = .ok (.ireturn, 1) := by decide +kernel
theorem dX8_isRecalled_0 : decode cX8_isRecalled 0 = .ok (.aload_n 0, 1) := by decide +kernel
theorem dX8_isRecalled_1 : decode cX8_isRecalled 1 = .ok (.sipush 270, 3) := by decide +kernel
theorem dX8_isRecalled_4 : decode cX8_isRecalled 4 = .ok (.iload_n 1, 1) := by decide +kernel
theorem dX8_isRecalled_5 : decode cX8_isRecalled 5 = .ok (.iadd, 1) := by decide +kernel
theorem dX8_isRecalled_6 : decode cX8_isRecalled 6 = .ok (.iaload, 1) := by decide +kernel
theorem dX8_isRecalled_7 : decode cX8_isRecalled 7 = .ok (.iconst (-1), 1) := by decide +kernel
theorem dX8_isRecalled_8 : decode cX8_isRecalled 8 = .ok (.if_icmp .eq 7, 3) := by decide +kernel
theorem dX8_isRecalled_11 : decode cX8_isRecalled 11 = .ok (.iconst 1, 1) := by decide +kernel
theorem dX8_isRecalled_12 : decode cX8_isRecalled 12 = .ok (.goto 4, 3) := by decide +kernel
theorem dX8_isRecalled_15 : decode cX8_isRecalled 15 = .ok (.iconst 0, 1) := by decide +kernel
theorem dX8_isRecalled_16 : decode cX8_isRecalled 16 = .ok (.ireturn, 1) := by decide +kernel
theorem dX8_isOverdue_0 : decode cX8_isOverdue 0 = .ok (.aload_n 0, 1) := by decide +kernel
theorem dX8_isOverdue_1 : decode cX8_isOverdue 1 = .ok (.iload_n 1, 1) := by decide +kernel
theorem dX8_isOverdue_2 : decode cX8_isOverdue 2 = .ok (.invokestatic 70, 3) := by decide +kernel
theorem dX8_isOverdue_5 : decode cX8_isOverdue 5 = .ok (.ifCond .eq 26, 3) := by decide +kernel
theorem dX8_isOverdue_8 : decode cX8_isOverdue 8 = .ok (.aload_n 0, 1) := by decide +kernel
theorem dX8_isOverdue_9 : decode cX8_isOverdue 9 = .ok (.iload_n 1, 1) := by decide +kernel
theorem dX8_isOverdue_10 : decode cX8_isOverdue 10 = .ok (.invokestatic 74, 3) := by decide +kernel
theorem dX8_isOverdue_13 : decode cX8_isOverdue 13 = .ok (.ifCond .eq 18, 3) := by decide +kernel
theorem dX8_isOverdue_16 : decode cX8_isOverdue 16 = .ok (.iload_n 2, 1) := by decide +kernel
theorem dX8_isOverdue_17 : decode cX8_isOverdue 17 = .ok (.aload_n 0, 1) := by decide +kernel
theorem dX8_isOverdue_18 : decode cX8_isOverdue 18 = .ok (.sipush 270, 3) := by decide +kernel
theorem dX8_isOverdue_21 : decode cX8_isOverdue 21 = .ok (.iload_n 1, 1) := by decide +kernel
theorem dX8_isOverdue_22 : decode cX8_isOverdue 22 = .ok (.iadd, 1) := by decide +kernel
theorem dX8_isOverdue_23 : decode cX8_isOverdue 23 = .ok (.iaload, 1) := by decide +kernel
theorem dX8_isOverdue_24 : decode cX8_isOverdue 24 = .ok (.if_icmp .le 7, 3) := by decide +kernel
theorem dX8_isOverdue_27 : decode cX8_isOverdue 27 = .ok (.iconst 1, 1) := by decide +kernel
theorem dX8_isOverdue_28 : decode cX8_isOverdue 28 = .ok (.goto 4, 3) := by decide +kernel
theorem dX8_isOverdue_31 : decode cX8_isOverdue 31 = .ok (.iconst 0, 1) := by decide +kernel
theorem dX8_isOverdue_32 : decode cX8_isOverdue 32 = .ok (.ireturn, 1) := by decide +kernel
theorem dX8_mayBuild_0 : decode cX8_mayBuild 0 = .ok (.aload_n 0, 1) := by decide +kernel
theorem dX8_mayBuild_1 : decode cX8_mayBuild 1 = .ok (.iload_n 1, 1) := by decide +kernel
theorem dX8_mayBuild_2 : decode cX8_mayBuild 2 = .ok (.invokestatic 70, 3) := by decide +kernel
theorem dX8_mayBuild_5 : decode cX8_mayBuild 5 = .ok (.ifCond .eq 49, 3) := by decide +kernel
theorem dX8_mayBuild_8 : decode cX8_mayBuild 8 = .ok (.aload_n 0, 1) := by decide +kernel
theorem dX8_mayBuild_9 : decode cX8_mayBuild 9 = .ok (.iload_n 1, 1) := by decide +kernel
theorem dX8_mayBuild_10 : decode cX8_mayBuild 10 = .ok (.invokestatic 74, 3) := by decide +kernel
theorem dX8_mayBuild_13 : decode cX8_mayBuild 13 = .ok (.ifCond .ne 41, 3) := by decide +kernel
theorem dX8_mayBuild_16 : decode cX8_mayBuild 16 = .ok (.aload_n 0, 1) := by decide +kernel
theorem dX8_mayBuild_17 : decode cX8_mayBuild 17 = .ok (.sipush 246, 3) := by decide +kernel
theorem dX8_mayBuild_20 : decode cX8_mayBuild 20 = .ok (.iload_n 1, 1) := by decide +kernel
theorem dX8_mayBuild_21 : decode cX8_mayBuild 21 = .ok (.iadd, 1) := by decide +kernel
theorem dX8_mayBuild_22 : decode cX8_mayBuild 22 = .ok (.iaload, 1) := by decide +kernel
theorem dX8_mayBuild_23 : decode cX8_mayBuild 23 = .ok (.invokestatic 77, 3) := by decide +kernel
theorem dX8_mayBuild_26 : decode cX8_mayBuild 26 = .ok (.aload_n 0, 1) := by decide +kernel
theorem dX8_mayBuild_27 : decode cX8_mayBuild 27 = .ok (.bipush 6, 2) := by decide +kernel
theorem dX8_mayBuild_29 : decode cX8_mayBuild 29 = .ok (.iaload, 1) := by decide +kernel
theorem dX8_mayBuild_30 : decode cX8_mayBuild 30 = .ok (.if_icmp .lt 24, 3) := by decide +kernel
theorem dX8_mayBuild_33 : decode cX8_mayBuild 33 = .ok (.aload_n 0, 1) := by decide +kernel
theorem dX8_mayBuild_34 : decode cX8_mayBuild 34 = .ok (.bipush 8, 2) := by decide +kernel
theorem dX8_mayBuild_36 : decode cX8_mayBuild 36 = .ok (.iaload, 1) := by decide +kernel
theorem dX8_mayBuild_37 : decode cX8_mayBuild 37 = .ok (.aload_n 0, 1) := by decide +kernel
theorem dX8_mayBuild_38 : decode cX8_mayBuild 38 = .ok (.sipush 150, 3) := by decide +kernel
theorem dX8_mayBuild_41 : decode cX8_mayBuild 41 = .ok (.iload_n 1, 1) := by decide +kernel
theorem dX8_mayBuild_42 : decode cX8_mayBuild 42 = .ok (.iadd, 1) := by decide +kernel
theorem dX8_mayBuild_43 : decode cX8_mayBuild 43 = .ok (.iaload, 1) := by decide +kernel
theorem dX8_mayBuild_44 : decode cX8_mayBuild 44 = .ok (.invokestatic 66, 3) := by decide +kernel
theorem dX8_mayBuild_47 : decode cX8_mayBuild 47 = .ok (.ifCond .ne 7, 3) := by decide +kernel
theorem dX8_mayBuild_50 : decode cX8_mayBuild 50 = .ok (.iconst 1, 1) := by decide +kernel
theorem dX8_mayBuild_51 : decode cX8_mayBuild 51 = .ok (.goto 4, 3) := by decide +kernel
theorem dX8_mayBuild_54 : decode cX8_mayBuild 54 = .ok (.iconst 0, 1) := by decide +kernel
theorem dX8_mayBuild_55 : decode cX8_mayBuild 55 = .ok (.ireturn, 1) := by decide +kernel
theorem dX8_isWrong_0 : decode cX8_isWrong 0 = .ok (.aload_n 0, 1) := by decide +kernel
theorem dX8_isWrong_1 : decode cX8_isWrong 1 = .ok (.bipush 30, 2) := by decide +kernel
theorem dX8_isWrong_3 : decode cX8_isWrong 3 = .ok (.bipush 12, 2) := by decide +kernel
theorem dX8_isWrong_5 : decode cX8_isWrong 5 = .ok (.aload_n 0, 1) := by decide +kernel
theorem dX8_isWrong_6 : decode cX8_isWrong 6 = .ok (.sipush 324, 3) := by decide +kernel
theorem dX8_isWrong_9 : decode cX8_isWrong 9 = .ok (.iload_n 1, 1) := by decide +kernel
theorem dX8_isWrong_10 : decode cX8_isWrong 10 = .ok (.iadd, 1) := by decide +kernel
theorem dX8_isWrong_11 : decode cX8_isWrong 11 = .ok (.iaload, 1) := by decide +kernel
theorem dX8_isWrong_12 : decode cX8_isWrong 12 = .ok (.imul, 1) := by decide +kernel
theorem dX8_isWrong_13 : decode cX8_isWrong 13 = .ok (.iadd, 1) := by decide +kernel
theorem dX8_isWrong_14 : decode cX8_isWrong 14 = .ok (.aload_n 0, 1) := by decide +kernel
theorem dX8_isWrong_15 : decode cX8_isWrong 15 = .ok (.sipush 354, 3) := by decide +kernel
theorem dX8_isWrong_18 : decode cX8_isWrong 18 = .ok (.iload_n 1, 1) := by decide +kernel
theorem dX8_isWrong_19 : decode cX8_isWrong 19 = .ok (.iadd, 1) := by decide +kernel
theorem dX8_isWrong_20 : decode cX8_isWrong 20 = .ok (.iaload, 1) := by decide +kernel
theorem dX8_isWrong_21 : decode cX8_isWrong 21 = .ok (.iadd, 1) := by decide +kernel
theorem dX8_isWrong_22 : decode cX8_isWrong 22 = .ok (.iaload, 1) := by decide +kernel
theorem dX8_isWrong_23 : decode cX8_isWrong 23 = .ok (.aload_n 0, 1) := by decide +kernel
theorem dX8_isWrong_24 : decode cX8_isWrong 24 = .ok (.sipush 384, 3) := by decide +kernel
theorem dX8_isWrong_27 : decode cX8_isWrong 27 = .ok (.iload_n 1, 1) := by decide +kernel
theorem dX8_isWrong_28 : decode cX8_isWrong 28 = .ok (.iadd, 1) := by decide +kernel
theorem dX8_isWrong_29 : decode cX8_isWrong 29 = .ok (.iaload, 1) := by decide +kernel
theorem dX8_isWrong_30 : decode cX8_isWrong 30 = .ok (.if_icmp .le 7, 3) := by decide +kernel
theorem dX8_isWrong_33 : decode cX8_isWrong 33 = .ok (.iconst 1, 1) := by decide +kernel
theorem dX8_isWrong_34 : decode cX8_isWrong 34 = .ok (.goto 4, 3) := by decide +kernel
theorem dX8_isWrong_37 : decode cX8_isWrong 37 = .ok (.iconst 0, 1) := by decide +kernel
theorem dX8_isWrong_38 : decode cX8_isWrong 38 = .ok (.ireturn, 1) := by decide +kernel
theorem dX8_wrong_0 : decode cX8_wrong 0 = .ok (.iconst 0, 1) := by decide +kernel
theorem dX8_wrong_1 : decode cX8_wrong 1 = .ok (.istore_n 1, 1) := by decide +kernel
theorem dX8_wrong_2 : decode cX8_wrong 2 = .ok (.iconst 0, 1) := by decide +kernel
theorem dX8_wrong_3 : decode cX8_wrong 3 = .ok (.istore_n 2, 1) := by decide +kernel
theorem dX8_wrong_4 : decode cX8_wrong 4 = .ok (.iload_n 2, 1) := by decide +kernel
theorem dX8_wrong_5 : decode cX8_wrong 5 = .ok (.aload_n 0, 1) := by decide +kernel
theorem dX8_wrong_6 : decode cX8_wrong 6 = .ok (.iconst 2, 1) := by decide +kernel
theorem dX8_wrong_7 : decode cX8_wrong 7 = .ok (.iaload, 1) := by decide +kernel
theorem dX8_wrong_8 : decode cX8_wrong 8 = .ok (.if_icmp .ge 25, 3) := by decide +kernel
theorem dX8_wrong_11 : decode cX8_wrong 11 = .ok (.iload_n 1, 1) := by decide +kernel
theorem dX8_wrong_12 : decode cX8_wrong 12 = .ok (.aload_n 0, 1) := by decide +kernel
theorem dX8_wrong_13 : decode cX8_wrong 13 = .ok (.iload_n 2, 1) := by decide +kernel
theorem dX8_wrong_14 : decode cX8_wrong 14 = .ok (.invokestatic 81, 3) := by decide +kernel
theorem dX8_wrong_17 : decode cX8_wrong 17 = .ok (.ifCond .eq 7, 3) := by decide +kernel
theorem dX8_wrong_20 : decode cX8_wrong 20 = .ok (.iconst 1, 1) := by decide +kernel
theorem dX8_wrong_21 : decode cX8_wrong 21 = .ok (.goto 4, 3) := by decide +kernel
theorem dX8_wrong_24 : decode cX8_wrong 24 = .ok (.iconst 0, 1) := by decide +kernel
theorem dX8_wrong_25 : decode cX8_wrong 25 = .ok (.iadd, 1) := by decide +kernel
theorem dX8_wrong_26 : decode cX8_wrong 26 = .ok (.istore_n 1, 1) := by decide +kernel
theorem dX8_wrong_27 : decode cX8_wrong 27 = .ok (.iinc 2 1, 3) := by decide +kernel
theorem dX8_wrong_30 : decode cX8_wrong 30 = .ok (.goto (-26), 3) := by decide +kernel
theorem dX8_wrong_33 : decode cX8_wrong 33 = .ok (.iload_n 1, 1) := by decide +kernel
theorem dX8_wrong_34 : decode cX8_wrong 34 = .ok (.ireturn, 1) := by decide +kernel
theorem dX8_overdue_0 : decode cX8_overdue 0 = .ok (.iconst 0, 1) := by decide +kernel
theorem dX8_overdue_1 : decode cX8_overdue 1 = .ok (.istore_n 2, 1) := by decide +kernel
theorem dX8_overdue_2 : decode cX8_overdue 2 = .ok (.iconst 0, 1) := by decide +kernel
theorem dX8_overdue_3 : decode cX8_overdue 3 = .ok (.istore_n 3, 1) := by decide +kernel
theorem dX8_overdue_4 : decode cX8_overdue 4 = .ok (.iload_n 3, 1) := by decide +kernel
theorem dX8_overdue_5 : decode cX8_overdue 5 = .ok (.aload_n 0, 1) := by decide +kernel
theorem dX8_overdue_6 : decode cX8_overdue 6 = .ok (.iconst 1, 1) := by decide +kernel
theorem dX8_overdue_7 : decode cX8_overdue 7 = .ok (.iaload, 1) := by decide +kernel
theorem dX8_overdue_8 : decode cX8_overdue 8 = .ok (.if_icmp .ge 26, 3) := by decide +kernel
theorem dX8_overdue_11 : decode cX8_overdue 11 = .ok (.iload_n 2, 1) := by decide +kernel
theorem dX8_overdue_12 : decode cX8_overdue 12 = .ok (.aload_n 0, 1) := by decide +kernel
theorem dX8_overdue_13 : decode cX8_overdue 13 = .ok (.iload_n 3, 1) := by decide +kernel
theorem dX8_overdue_14 : decode cX8_overdue 14 = .ok (.iload_n 1, 1) := by decide +kernel
theorem dX8_overdue_15 : decode cX8_overdue 15 = .ok (.invokestatic 84, 3) := by decide +kernel
theorem dX8_overdue_18 : decode cX8_overdue 18 = .ok (.ifCond .eq 7, 3) := by decide +kernel
theorem dX8_overdue_21 : decode cX8_overdue 21 = .ok (.iconst 1, 1) := by decide +kernel
theorem dX8_overdue_22 : decode cX8_overdue 22 = .ok (.goto 4, 3) := by decide +kernel
theorem dX8_overdue_25 : decode cX8_overdue 25 = .ok (.iconst 0, 1) := by decide +kernel
theorem dX8_overdue_26 : decode cX8_overdue 26 = .ok (.iadd, 1) := by decide +kernel
theorem dX8_overdue_27 : decode cX8_overdue 27 = .ok (.istore_n 2, 1) := by decide +kernel
theorem dX8_overdue_28 : decode cX8_overdue 28 = .ok (.iinc 3 1, 3) := by decide +kernel
theorem dX8_overdue_31 : decode cX8_overdue 31 = .ok (.goto (-27), 3) := by decide +kernel
theorem dX8_overdue_34 : decode cX8_overdue 34 = .ok (.iload_n 2, 1) := by decide +kernel
theorem dX8_overdue_35 : decode cX8_overdue 35 = .ok (.ireturn, 1) := by decide +kernel
theorem dX8_fieldsOf_0 : decode cX8_fieldsOf 0 = .ok (.iconst 0, 1) := by decide +kernel
theorem dX8_fieldsOf_1 : decode cX8_fieldsOf 1 = .ok (.istore_n 2, 1) := by decide +kernel
theorem dX8_fieldsOf_2 : decode cX8_fieldsOf 2 = .ok (.iconst 0, 1) := by decide +kernel
theorem dX8_fieldsOf_3 : decode cX8_fieldsOf 3 = .ok (.istore_n 3, 1) := by decide +kernel
theorem dX8_fieldsOf_4 : decode cX8_fieldsOf 4 = .ok (.iload_n 3, 1) := by decide +kernel
theorem dX8_fieldsOf_5 : decode cX8_fieldsOf 5 = .ok (.bipush 12, 2) := by decide +kernel
theorem dX8_fieldsOf_7 : decode cX8_fieldsOf 7 = .ok (.if_icmp .ge 46, 3) := by decide +kernel
theorem dX8_fieldsOf_10 : decode cX8_fieldsOf 10 = .ok (.iload_n 2, 1) := by decide +kernel
theorem dX8_fieldsOf_11 : decode cX8_fieldsOf 11 = .ok (.aload_n 0, 1) := by decide +kernel
theorem dX8_fieldsOf_12 : decode cX8_fieldsOf 12 = .ok (.bipush 30, 2) := by decide +kernel
theorem dX8_fieldsOf_14 : decode cX8_fieldsOf 14 = .ok (.bipush 12, 2) := by decide +kernel
theorem dX8_fieldsOf_16 : decode cX8_fieldsOf 16 = .ok (.aload_n 0, 1) := by decide +kernel
theorem dX8_fieldsOf_17 : decode cX8_fieldsOf 17 = .ok (.sipush 150, 3) := by decide +kernel
theorem dX8_fieldsOf_20 : decode cX8_fieldsOf 20 = .ok (.iload_n 1, 1) := by decide +kernel
theorem dX8_fieldsOf_21 : decode cX8_fieldsOf 21 = .ok (.iadd, 1) := by decide +kernel
theorem dX8_fieldsOf_22 : decode cX8_fieldsOf 22 = .ok (.iaload, 1) := by decide +kernel
theorem dX8_fieldsOf_23 : decode cX8_fieldsOf 23 = .ok (.imul, 1) := by decide +kernel
theorem dX8_fieldsOf_24 : decode cX8_fieldsOf 24 = .ok (.iadd, 1) := by decide +kernel
theorem dX8_fieldsOf_25 : decode cX8_fieldsOf 25 = .ok (.iload_n 3, 1) := by decide +kernel
theorem dX8_fieldsOf_26 : decode cX8_fieldsOf 26 = .ok (.iadd, 1) := by decide +kernel
theorem dX8_fieldsOf_27 : decode cX8_fieldsOf 27 = .ok (.iaload, 1) := by decide +kernel
theorem dX8_fieldsOf_28 : decode cX8_fieldsOf 28 = .ok (.aload_n 0, 1) := by decide +kernel
theorem dX8_fieldsOf_29 : decode cX8_fieldsOf 29 = .ok (.sipush 174, 3) := by decide +kernel
theorem dX8_fieldsOf_32 : decode cX8_fieldsOf 32 = .ok (.iload_n 1, 1) := by decide +kernel
theorem dX8_fieldsOf_33 : decode cX8_fieldsOf 33 = .ok (.iadd, 1) := by decide +kernel
theorem dX8_fieldsOf_34 : decode cX8_fieldsOf 34 = .ok (.iaload, 1) := by decide +kernel
theorem dX8_fieldsOf_35 : decode cX8_fieldsOf 35 = .ok (.if_icmp .gt 9, 3) := by decide +kernel
theorem dX8_fieldsOf_38 : decode cX8_fieldsOf 38 = .ok (.iconst 1, 1) := by decide +kernel
theorem dX8_fieldsOf_39 : decode cX8_fieldsOf 39 = .ok (.iload_n 3, 1) := by decide +kernel
theorem dX8_fieldsOf_40 : decode cX8_fieldsOf 40 = .ok (.ishl, 1) := by decide +kernel
theorem dX8_fieldsOf_41 : decode cX8_fieldsOf 41 = .ok (.goto 4, 3) := by decide +kernel
theorem dX8_fieldsOf_44 : decode cX8_fieldsOf 44 = .ok (.iconst 0, 1) := by decide +kernel
theorem dX8_fieldsOf_45 : decode cX8_fieldsOf 45 = .ok (.ior, 1) := by decide +kernel
theorem dX8_fieldsOf_46 : decode cX8_fieldsOf 46 = .ok (.istore_n 2, 1) := by decide +kernel
theorem dX8_fieldsOf_47 : decode cX8_fieldsOf 47 = .ok (.iinc 3 1, 3) := by decide +kernel
theorem dX8_fieldsOf_50 : decode cX8_fieldsOf 50 = .ok (.goto (-46), 3) := by decide +kernel
theorem dX8_fieldsOf_53 : decode cX8_fieldsOf 53 = .ok (.iload_n 2, 1) := by decide +kernel
theorem dX8_fieldsOf_54 : decode cX8_fieldsOf 54 = .ok (.ireturn, 1) := by decide +kernel
theorem dX8_canDraw_0 : decode cX8_canDraw 0 = .ok (.aload_n 0, 1) := by decide +kernel
theorem dX8_canDraw_1 : decode cX8_canDraw 1 = .ok (.iconst 0, 1) := by decide +kernel
theorem dX8_canDraw_2 : decode cX8_canDraw 2 = .ok (.iaload, 1) := by decide +kernel
theorem dX8_canDraw_3 : decode cX8_canDraw 3 = .ok (.bipush 10, 2) := by decide +kernel
theorem dX8_canDraw_5 : decode cX8_canDraw 5 = .ok (.if_icmp .ge 7, 3) := by decide +kernel
theorem dX8_canDraw_8 : decode cX8_canDraw 8 = .ok (.iconst 1, 1) := by decide +kernel
theorem dX8_canDraw_9 : decode cX8_canDraw 9 = .ok (.goto 4, 3) := by decide +kernel
theorem dX8_canDraw_12 : decode cX8_canDraw 12 = .ok (.iconst 0, 1) := by decide +kernel
theorem dX8_canDraw_13 : decode cX8_canDraw 13 = .ok (.ireturn, 1) := by decide +kernel
theorem dX8_goDraw_0 : decode cX8_goDraw 0 = .ok (.aload_n 0, 1) := by decide +kernel
theorem dX8_goDraw_1 : decode cX8_goDraw 1 = .ok (.iconst 0, 1) := by decide +kernel
theorem dX8_goDraw_2 : decode cX8_goDraw 2 = .ok (.iaload, 1) := by decide +kernel
theorem dX8_goDraw_3 : decode cX8_goDraw 3 = .ok (.istore_n 2, 1) := by decide +kernel
theorem dX8_goDraw_4 : decode cX8_goDraw 4 = .ok (.aload_n 0, 1) := by decide +kernel
theorem dX8_goDraw_5 : decode cX8_goDraw 5 = .ok (.bipush 10, 2) := by decide +kernel
theorem dX8_goDraw_7 : decode cX8_goDraw 7 = .ok (.iload_n 2, 1) := by decide +kernel
theorem dX8_goDraw_8 : decode cX8_goDraw 8 = .ok (.iadd, 1) := by decide +kernel
theorem dX8_goDraw_9 : decode cX8_goDraw 9 = .ok (.iload_n 1, 1) := by decide +kernel
theorem dX8_goDraw_10 : decode cX8_goDraw 10 = .ok (.iastore, 1) := by decide +kernel
theorem dX8_goDraw_11 : decode cX8_goDraw 11 = .ok (.aload_n 0, 1) := by decide +kernel
theorem dX8_goDraw_12 : decode cX8_goDraw 12 = .ok (.bipush 20, 2) := by decide +kernel
theorem dX8_goDraw_14 : decode cX8_goDraw 14 = .ok (.iload_n 2, 1) := by decide +kernel
theorem dX8_goDraw_15 : decode cX8_goDraw 15 = .ok (.iadd, 1) := by decide +kernel
theorem dX8_goDraw_16 : decode cX8_goDraw 16 = .ok (.iconst 0, 1) := by decide +kernel
theorem dX8_goDraw_17 : decode cX8_goDraw 17 = .ok (.iastore, 1) := by decide +kernel
theorem dX8_goDraw_18 : decode cX8_goDraw 18 = .ok (.iconst 0, 1) := by decide +kernel
theorem dX8_goDraw_19 : decode cX8_goDraw 19 = .ok (.istore_n 3, 1) := by decide +kernel
theorem dX8_goDraw_20 : decode cX8_goDraw 20 = .ok (.iload_n 3, 1) := by decide +kernel
theorem dX8_goDraw_21 : decode cX8_goDraw 21 = .ok (.bipush 12, 2) := by decide +kernel
theorem dX8_goDraw_23 : decode cX8_goDraw 23 = .ok (.if_icmp .ge 21, 3) := by decide +kernel
theorem dX8_goDraw_26 : decode cX8_goDraw 26 = .ok (.aload_n 0, 1) := by decide +kernel
theorem dX8_goDraw_27 : decode cX8_goDraw 27 = .ok (.bipush 30, 2) := by decide +kernel
theorem dX8_goDraw_29 : decode cX8_goDraw 29 = .ok (.bipush 12, 2) := by decide +kernel
theorem dX8_goDraw_31 : decode cX8_goDraw 31 = .ok (.iload_n 2, 1) := by decide +kernel
theorem dX8_goDraw_32 : decode cX8_goDraw 32 = .ok (.imul, 1) := by decide +kernel
theorem dX8_goDraw_33 : decode cX8_goDraw 33 = .ok (.iadd, 1) := by decide +kernel
theorem dX8_goDraw_34 : decode cX8_goDraw 34 = .ok (.iload_n 3, 1) := by decide +kernel
theorem dX8_goDraw_35 : decode cX8_goDraw 35 = .ok (.iadd, 1) := by decide +kernel
theorem dX8_goDraw_36 : decode cX8_goDraw 36 = .ok (.iconst 0, 1) := by decide +kernel
theorem dX8_goDraw_37 : decode cX8_goDraw 37 = .ok (.iastore, 1) := by decide +kernel
theorem dX8_goDraw_38 : decode cX8_goDraw 38 = .ok (.iinc 3 1, 3) := by decide +kernel
theorem dX8_goDraw_41 : decode cX8_goDraw 41 = .ok (.goto (-21), 3) := by decide +kernel
theorem dX8_goDraw_44 : decode cX8_goDraw 44 = .ok (.aload_n 0, 1) := by decide +kernel
theorem dX8_goDraw_45 : decode cX8_goDraw 45 = .ok (.iconst 0, 1) := by decide +kernel
theorem dX8_goDraw_46 : decode cX8_goDraw 46 = .ok (.dup2, 1) := by decide +kernel
theorem dX8_goDraw_47 : decode cX8_goDraw 47 = .ok (.iaload, 1) := by decide +kernel
theorem dX8_goDraw_48 : decode cX8_goDraw 48 = .ok (.iconst 1, 1) := by decide +kernel
theorem dX8_goDraw_49 : decode cX8_goDraw 49 = .ok (.iadd, 1) := by decide +kernel
theorem dX8_goDraw_50 : decode cX8_goDraw 50 = .ok (.iastore, 1) := by decide +kernel
theorem dX8_goDraw_51 : decode cX8_goDraw 51 = .ok (.iload_n 2, 1) := by decide +kernel
theorem dX8_goDraw_52 : decode cX8_goDraw 52 = .ok (.ireturn, 1) := by decide +kernel
theorem dX8_canRevise_0 : decode cX8_canRevise 0 = .ok (.aload_n 0, 1) := by decide +kernel
theorem dX8_canRevise_1 : decode cX8_canRevise 1 = .ok (.bipush 20, 2) := by decide +kernel
theorem dX8_canRevise_3 : decode cX8_canRevise 3 = .ok (.iload_n 1, 1) := by decide +kernel
theorem dX8_canRevise_4 : decode cX8_canRevise 4 = .ok (.iadd, 1) := by decide +kernel
theorem dX8_canRevise_5 : decode cX8_canRevise 5 = .ok (.iaload, 1) := by decide +kernel
theorem dX8_canRevise_6 : decode cX8_canRevise 6 = .ok (.bipush 99, 2) := by decide +kernel
theorem dX8_canRevise_8 : decode cX8_canRevise 8 = .ok (.if_icmp .ge 7, 3) := by decide +kernel
theorem dX8_canRevise_11 : decode cX8_canRevise 11 = .ok (.iconst 1, 1) := by decide +kernel
theorem dX8_canRevise_12 : decode cX8_canRevise 12 = .ok (.goto 4, 3) := by decide +kernel
theorem dX8_canRevise_15 : decode cX8_canRevise 15 = .ok (.iconst 0, 1) := by decide +kernel
theorem dX8_canRevise_16 : decode cX8_canRevise 16 = .ok (.ireturn, 1) := by decide +kernel
theorem dX8_goRevise_0 : decode cX8_goRevise 0 = .ok (.aload_n 0, 1) := by decide +kernel
theorem dX8_goRevise_1 : decode cX8_goRevise 1 = .ok (.bipush 20, 2) := by decide +kernel
theorem dX8_goRevise_3 : decode cX8_goRevise 3 = .ok (.iload_n 1, 1) := by decide +kernel
theorem dX8_goRevise_4 : decode cX8_goRevise 4 = .ok (.iadd, 1) := by decide +kernel
theorem dX8_goRevise_5 : decode cX8_goRevise 5 = .ok (.dup2, 1) := by decide +kernel
theorem dX8_goRevise_6 : decode cX8_goRevise 6 = .ok (.iaload, 1) := by decide +kernel
theorem dX8_goRevise_7 : decode cX8_goRevise 7 = .ok (.iconst 1, 1) := by decide +kernel
theorem dX8_goRevise_8 : decode cX8_goRevise 8 = .ok (.iadd, 1) := by decide +kernel
theorem dX8_goRevise_9 : decode cX8_goRevise 9 = .ok (.iastore, 1) := by decide +kernel
theorem dX8_goRevise_10 : decode cX8_goRevise 10 = .ok (.iconst 0, 1) := by decide +kernel
theorem dX8_goRevise_11 : decode cX8_goRevise 11 = .ok (.istore_n 3, 1) := by decide +kernel
theorem dX8_goRevise_12 : decode cX8_goRevise 12 = .ok (.iload_n 3, 1) := by decide +kernel
theorem dX8_goRevise_13 : decode cX8_goRevise 13 = .ok (.bipush 12, 2) := by decide +kernel
theorem dX8_goRevise_15 : decode cX8_goRevise 15 = .ok (.if_icmp .ge 34, 3) := by decide +kernel
theorem dX8_goRevise_18 : decode cX8_goRevise 18 = .ok (.iload_n 2, 1) := by decide +kernel
theorem dX8_goRevise_19 : decode cX8_goRevise 19 = .ok (.iload_n 3, 1) := by decide +kernel
theorem dX8_goRevise_20 : decode cX8_goRevise 20 = .ok (.invokestatic 66, 3) := by decide +kernel
theorem dX8_goRevise_23 : decode cX8_goRevise 23 = .ok (.ifCond .eq 20, 3) := by decide +kernel
theorem dX8_goRevise_26 : decode cX8_goRevise 26 = .ok (.aload_n 0, 1) := by decide +kernel
theorem dX8_goRevise_27 : decode cX8_goRevise 27 = .ok (.bipush 30, 2) := by decide +kernel
theorem dX8_goRevise_29 : decode cX8_goRevise 29 = .ok (.bipush 12, 2) := by decide +kernel
theorem dX8_goRevise_31 : decode cX8_goRevise 31 = .ok (.iload_n 1, 1) := by decide +kernel
theorem dX8_goRevise_32 : decode cX8_goRevise 32 = .ok (.imul, 1) := by decide +kernel
theorem dX8_goRevise_33 : decode cX8_goRevise 33 = .ok (.iadd, 1) := by decide +kernel
theorem dX8_goRevise_34 : decode cX8_goRevise 34 = .ok (.iload_n 3, 1) := by decide +kernel
theorem dX8_goRevise_35 : decode cX8_goRevise 35 = .ok (.iadd, 1) := by decide +kernel
theorem dX8_goRevise_36 : decode cX8_goRevise 36 = .ok (.aload_n 0, 1) := by decide +kernel
theorem dX8_goRevise_37 : decode cX8_goRevise 37 = .ok (.bipush 20, 2) := by decide +kernel
theorem dX8_goRevise_39 : decode cX8_goRevise 39 = .ok (.iload_n 1, 1) := by decide +kernel
theorem dX8_goRevise_40 : decode cX8_goRevise 40 = .ok (.iadd, 1) := by decide +kernel
theorem dX8_goRevise_41 : decode cX8_goRevise 41 = .ok (.iaload, 1) := by decide +kernel
theorem dX8_goRevise_42 : decode cX8_goRevise 42 = .ok (.iastore, 1) := by decide +kernel
theorem dX8_goRevise_43 : decode cX8_goRevise 43 = .ok (.iinc 3 1, 3) := by decide +kernel
theorem dX8_goRevise_46 : decode cX8_goRevise 46 = .ok (.goto (-34), 3) := by decide +kernel
theorem dX8_goRevise_49 : decode cX8_goRevise 49 = .ok (.aload_n 0, 1) := by decide +kernel
theorem dX8_goRevise_50 : decode cX8_goRevise 50 = .ok (.bipush 8, 2) := by decide +kernel
theorem dX8_goRevise_52 : decode cX8_goRevise 52 = .ok (.dup2, 1) := by decide +kernel
theorem dX8_goRevise_53 : decode cX8_goRevise 53 = .ok (.iaload, 1) := by decide +kernel
theorem dX8_goRevise_54 : decode cX8_goRevise 54 = .ok (.iconst 1, 1) := by decide +kernel
theorem dX8_goRevise_55 : decode cX8_goRevise 55 = .ok (.iload_n 1, 1) := by decide +kernel
theorem dX8_goRevise_56 : decode cX8_goRevise 56 = .ok (.ishl, 1) := by decide +kernel
theorem dX8_goRevise_57 : decode cX8_goRevise 57 = .ok (.iconst (-1), 1) := by decide +kernel
theorem dX8_goRevise_58 : decode cX8_goRevise 58 = .ok (.ixor, 1) := by decide +kernel
theorem dX8_goRevise_59 : decode cX8_goRevise 59 = .ok (.iand, 1) := by decide +kernel
theorem dX8_goRevise_60 : decode cX8_goRevise 60 = .ok (.iastore, 1) := by decide +kernel
theorem dX8_goRevise_61 : decode cX8_goRevise 61 = .ok (.aload_n 0, 1) := by decide +kernel
theorem dX8_goRevise_62 : decode cX8_goRevise 62 = .ok (.bipush 10, 2) := by decide +kernel
theorem dX8_goRevise_64 : decode cX8_goRevise 64 = .ok (.iload_n 1, 1) := by decide +kernel
theorem dX8_goRevise_65 : decode cX8_goRevise 65 = .ok (.iadd, 1) := by decide +kernel
theorem dX8_goRevise_66 : decode cX8_goRevise 66 = .ok (.iaload, 1) := by decide +kernel
theorem dX8_goRevise_67 : decode cX8_goRevise 67 = .ok (.istore_n 3, 1) := by decide +kernel
theorem dX8_goRevise_68 : decode cX8_goRevise 68 = .ok (.iload_n 3, 1) := by decide +kernel
theorem dX8_goRevise_69 : decode cX8_goRevise 69 = .ok (.iconst (-1), 1) := by decide +kernel
theorem dX8_goRevise_70 : decode cX8_goRevise 70 = .ok (.if_icmp .eq 23, 3) := by decide +kernel
theorem dX8_goRevise_73 : decode cX8_goRevise 73 = .ok (.aload_n 0, 1) := by decide +kernel
theorem dX8_goRevise_74 : decode cX8_goRevise 74 = .ok (.bipush 8, 2) := by decide +kernel
theorem dX8_goRevise_76 : decode cX8_goRevise 76 = .ok (.dup2, 1) := by decide +kernel
theorem dX8_goRevise_77 : decode cX8_goRevise 77 = .ok (.iaload, 1) := by decide +kernel
theorem dX8_goRevise_78 : decode cX8_goRevise 78 = .ok (.iconst 1, 1) := by decide +kernel
theorem dX8_goRevise_79 : decode cX8_goRevise 79 = .ok (.iload_n 3, 1) := by decide +kernel
theorem dX8_goRevise_80 : decode cX8_goRevise 80 = .ok (.ishl, 1) := by decide +kernel
theorem dX8_goRevise_81 : decode cX8_goRevise 81 = .ok (.ior, 1) := by decide +kernel
theorem dX8_goRevise_82 : decode cX8_goRevise 82 = .ok (.iastore, 1) := by decide +kernel
theorem dX8_goRevise_83 : decode cX8_goRevise 83 = .ok (.aload_n 0, 1) := by decide +kernel
theorem dX8_goRevise_84 : decode cX8_goRevise 84 = .ok (.bipush 10, 2) := by decide +kernel
theorem dX8_goRevise_86 : decode cX8_goRevise 86 = .ok (.iload_n 3, 1) := by decide +kernel
theorem dX8_goRevise_87 : decode cX8_goRevise 87 = .ok (.iadd, 1) := by decide +kernel
theorem dX8_goRevise_88 : decode cX8_goRevise 88 = .ok (.iaload, 1) := by decide +kernel
theorem dX8_goRevise_89 : decode cX8_goRevise 89 = .ok (.istore_n 3, 1) := by decide +kernel
theorem dX8_goRevise_90 : decode cX8_goRevise 90 = .ok (.goto (-22), 3) := by decide +kernel
theorem dX8_goRevise_93 : decode cX8_goRevise 93 = .ok (.iconst 0, 1) := by decide +kernel
theorem dX8_goRevise_94 : decode cX8_goRevise 94 = .ok (.istore_n 3, 1) := by decide +kernel
theorem dX8_goRevise_95 : decode cX8_goRevise 95 = .ok (.iconst 0, 1) := by decide +kernel
theorem dX8_goRevise_96 : decode cX8_goRevise 96 = .ok (.istore 4, 2) := by decide +kernel
theorem dX8_goRevise_98 : decode cX8_goRevise 98 = .ok (.iload 4, 2) := by decide +kernel
theorem dX8_goRevise_100 : decode cX8_goRevise 100 = .ok (.aload_n 0, 1) := by decide +kernel
theorem dX8_goRevise_101 : decode cX8_goRevise 101 = .ok (.iconst 1, 1) := by decide +kernel
theorem dX8_goRevise_102 : decode cX8_goRevise 102 = .ok (.iaload, 1) := by decide +kernel
theorem dX8_goRevise_103 : decode cX8_goRevise 103 = .ok (.if_icmp .ge 57, 3) := by decide +kernel
theorem dX8_goRevise_106 : decode cX8_goRevise 106 = .ok (.aload_n 0, 1) := by decide +kernel
theorem dX8_goRevise_107 : decode cX8_goRevise 107 = .ok (.sipush 150, 3) := by decide +kernel
theorem dX8_goRevise_110 : decode cX8_goRevise 110 = .ok (.iload 4, 2) := by decide +kernel
theorem dX8_goRevise_112 : decode cX8_goRevise 112 = .ok (.iadd, 1) := by decide +kernel
theorem dX8_goRevise_113 : decode cX8_goRevise 113 = .ok (.iaload, 1) := by decide +kernel
theorem dX8_goRevise_114 : decode cX8_goRevise 114 = .ok (.iload_n 1, 1) := by decide +kernel
theorem dX8_goRevise_115 : decode cX8_goRevise 115 = .ok (.if_icmp .ne 39, 3) := by decide +kernel
theorem dX8_goRevise_118 : decode cX8_goRevise 118 = .ok (.aload_n 0, 1) := by decide +kernel
theorem dX8_goRevise_119 : decode cX8_goRevise 119 = .ok (.iload 4, 2) := by decide +kernel
theorem dX8_goRevise_121 : decode cX8_goRevise 121 = .ok (.invokestatic 70, 3) := by decide +kernel
theorem dX8_goRevise_124 : decode cX8_goRevise 124 = .ok (.ifCond .eq 30, 3) := by decide +kernel
theorem dX8_goRevise_127 : decode cX8_goRevise 127 = .ok (.aload_n 0, 1) := by decide +kernel
theorem dX8_goRevise_128 : decode cX8_goRevise 128 = .ok (.iload 4, 2) := by decide +kernel
theorem dX8_goRevise_130 : decode cX8_goRevise 130 = .ok (.invokestatic 74, 3) := by decide +kernel
theorem dX8_goRevise_133 : decode cX8_goRevise 133 = .ok (.ifCond .ne 21, 3) := by decide +kernel
theorem dX8_goRevise_136 : decode cX8_goRevise 136 = .ok (.aload_n 0, 1) := by decide +kernel
theorem dX8_goRevise_137 : decode cX8_goRevise 137 = .ok (.sipush 270, 3) := by decide +kernel
theorem dX8_goRevise_140 : decode cX8_goRevise 140 = .ok (.iload 4, 2) := by decide +kernel
theorem dX8_goRevise_142 : decode cX8_goRevise 142 = .ok (.iadd, 1) := by decide +kernel
theorem dX8_goRevise_143 : decode cX8_goRevise 143 = .ok (.aload_n 0, 1) := by decide +kernel
theorem dX8_goRevise_144 : decode cX8_goRevise 144 = .ok (.iconst 3, 1) := by decide +kernel
theorem dX8_goRevise_145 : decode cX8_goRevise 145 = .ok (.iaload, 1) := by decide +kernel
theorem dX8_goRevise_146 : decode cX8_goRevise 146 = .ok (.aload_n 0, 1) := by decide +kernel
theorem dX8_goRevise_147 : decode cX8_goRevise 147 = .ok (.iconst 5, 1) := by decide +kernel
theorem dX8_goRevise_148 : decode cX8_goRevise 148 = .ok (.iaload, 1) := by decide +kernel
theorem dX8_goRevise_149 : decode cX8_goRevise 149 = .ok (.iadd, 1) := by decide +kernel
theorem dX8_goRevise_150 : decode cX8_goRevise 150 = .ok (.iastore, 1) := by decide +kernel
theorem dX8_goRevise_151 : decode cX8_goRevise 151 = .ok (.iinc 3 1, 3) := by decide +kernel
theorem dX8_goRevise_154 : decode cX8_goRevise 154 = .ok (.iinc 4 1, 3) := by decide +kernel
theorem dX8_goRevise_157 : decode cX8_goRevise 157 = .ok (.goto (-59), 3) := by decide +kernel
theorem dX8_goRevise_160 : decode cX8_goRevise 160 = .ok (.iload_n 3, 1) := by decide +kernel
theorem dX8_goRevise_161 : decode cX8_goRevise 161 = .ok (.ireturn, 1) := by decide +kernel
theorem dX8_goCheck_0 : decode cX8_goCheck 0 = .ok (.aload_n 0, 1) := by decide +kernel
theorem dX8_goCheck_1 : decode cX8_goCheck 1 = .ok (.bipush 8, 2) := by decide +kernel
theorem dX8_goCheck_3 : decode cX8_goCheck 3 = .ok (.dup2, 1) := by decide +kernel
theorem dX8_goCheck_4 : decode cX8_goCheck 4 = .ok (.iaload, 1) := by decide +kernel
theorem dX8_goCheck_5 : decode cX8_goCheck 5 = .ok (.iconst 1, 1) := by decide +kernel
theorem dX8_goCheck_6 : decode cX8_goCheck 6 = .ok (.iload_n 1, 1) := by decide +kernel
theorem dX8_goCheck_7 : decode cX8_goCheck 7 = .ok (.ishl, 1) := by decide +kernel
theorem dX8_goCheck_8 : decode cX8_goCheck 8 = .ok (.iconst (-1), 1) := by decide +kernel
theorem dX8_goCheck_9 : decode cX8_goCheck 9 = .ok (.ixor, 1) := by decide +kernel
theorem dX8_goCheck_10 : decode cX8_goCheck 10 = .ok (.iand, 1) := by decide +kernel
theorem dX8_goCheck_11 : decode cX8_goCheck 11 = .ok (.iastore, 1) := by decide +kernel
theorem dX8_goCheck_12 : decode cX8_goCheck 12 = .ok (.aload_n 0, 1) := by decide +kernel
theorem dX8_goCheck_13 : decode cX8_goCheck 13 = .ok (.bipush 8, 2) := by decide +kernel
theorem dX8_goCheck_15 : decode cX8_goCheck 15 = .ok (.iaload, 1) := by decide +kernel
theorem dX8_goCheck_16 : decode cX8_goCheck 16 = .ok (.invokestatic 77, 3) := by decide +kernel
theorem dX8_goCheck_19 : decode cX8_goCheck 19 = .ok (.ireturn, 1) := by decide +kernel
theorem dX8_canPrint_0 : decode cX8_canPrint 0 = .ok (.aload_n 0, 1) := by decide +kernel
theorem dX8_canPrint_1 : decode cX8_canPrint 1 = .ok (.iconst 1, 1) := by decide +kernel
theorem dX8_canPrint_2 : decode cX8_canPrint 2 = .ok (.iaload, 1) := by decide +kernel
theorem dX8_canPrint_3 : decode cX8_canPrint 3 = .ok (.bipush 24, 2) := by decide +kernel
theorem dX8_canPrint_5 : decode cX8_canPrint 5 = .ok (.if_icmp .ge 7, 3) := by decide +kernel
theorem dX8_canPrint_8 : decode cX8_canPrint 8 = .ok (.iconst 1, 1) := by decide +kernel
theorem dX8_canPrint_9 : decode cX8_canPrint 9 = .ok (.goto 4, 3) := by decide +kernel
theorem dX8_canPrint_12 : decode cX8_canPrint 12 = .ok (.iconst 0, 1) := by decide +kernel
theorem dX8_canPrint_13 : decode cX8_canPrint 13 = .ok (.ireturn, 1) := by decide +kernel
theorem dX8_goPrint_0 : decode cX8_goPrint 0 = .ok (.aload_n 0, 1) := by decide +kernel
theorem dX8_goPrint_1 : decode cX8_goPrint 1 = .ok (.iconst 1, 1) := by decide +kernel
theorem dX8_goPrint_2 : decode cX8_goPrint 2 = .ok (.iaload, 1) := by decide +kernel
theorem dX8_goPrint_3 : decode cX8_goPrint 3 = .ok (.istore_n 3, 1) := by decide +kernel
theorem dX8_goPrint_4 : decode cX8_goPrint 4 = .ok (.aload_n 0, 1) := by decide +kernel
theorem dX8_goPrint_5 : decode cX8_goPrint 5 = .ok (.sipush 150, 3) := by decide +kernel
theorem dX8_goPrint_8 : decode cX8_goPrint 8 = .ok (.iload_n 3, 1) := by decide +kernel
theorem dX8_goPrint_9 : decode cX8_goPrint 9 = .ok (.iadd, 1) := by decide +kernel
theorem dX8_goPrint_10 : decode cX8_goPrint 10 = .ok (.iload_n 1, 1) := by decide +kernel
theorem dX8_goPrint_11 : decode cX8_goPrint 11 = .ok (.iastore, 1) := by decide +kernel
theorem dX8_goPrint_12 : decode cX8_goPrint 12 = .ok (.aload_n 0, 1) := by decide +kernel
theorem dX8_goPrint_13 : decode cX8_goPrint 13 = .ok (.sipush 174, 3) := by decide +kernel
theorem dX8_goPrint_16 : decode cX8_goPrint 16 = .ok (.iload_n 3, 1) := by decide +kernel
theorem dX8_goPrint_17 : decode cX8_goPrint 17 = .ok (.iadd, 1) := by decide +kernel
theorem dX8_goPrint_18 : decode cX8_goPrint 18 = .ok (.aload_n 0, 1) := by decide +kernel
theorem dX8_goPrint_19 : decode cX8_goPrint 19 = .ok (.bipush 20, 2) := by decide +kernel
theorem dX8_goPrint_21 : decode cX8_goPrint 21 = .ok (.iload_n 1, 1) := by decide +kernel
theorem dX8_goPrint_22 : decode cX8_goPrint 22 = .ok (.iadd, 1) := by decide +kernel
theorem dX8_goPrint_23 : decode cX8_goPrint 23 = .ok (.iaload, 1) := by decide +kernel
theorem dX8_goPrint_24 : decode cX8_goPrint 24 = .ok (.iastore, 1) := by decide +kernel
theorem dX8_goPrint_25 : decode cX8_goPrint 25 = .ok (.aload_n 0, 1) := by decide +kernel
theorem dX8_goPrint_26 : decode cX8_goPrint 26 = .ok (.sipush 198, 3) := by decide +kernel
theorem dX8_goPrint_29 : decode cX8_goPrint 29 = .ok (.iload_n 3, 1) := by decide +kernel
theorem dX8_goPrint_30 : decode cX8_goPrint 30 = .ok (.iadd, 1) := by decide +kernel
theorem dX8_goPrint_31 : decode cX8_goPrint 31 = .ok (.iload_n 2, 1) := by decide +kernel
theorem dX8_goPrint_32 : decode cX8_goPrint 32 = .ok (.iastore, 1) := by decide +kernel
theorem dX8_goPrint_33 : decode cX8_goPrint 33 = .ok (.aload_n 0, 1) := by decide +kernel
theorem dX8_goPrint_34 : decode cX8_goPrint 34 = .ok (.sipush 222, 3) := by decide +kernel
theorem dX8_goPrint_37 : decode cX8_goPrint 37 = .ok (.iload_n 3, 1) := by decide +kernel
theorem dX8_goPrint_38 : decode cX8_goPrint 38 = .ok (.iadd, 1) := by decide +kernel
theorem dX8_goPrint_39 : decode cX8_goPrint 39 = .ok (.aload_n 0, 1) := by decide +kernel
theorem dX8_goPrint_40 : decode cX8_goPrint 40 = .ok (.iconst 3, 1) := by decide +kernel
theorem dX8_goPrint_41 : decode cX8_goPrint 41 = .ok (.iaload, 1) := by decide +kernel
theorem dX8_goPrint_42 : decode cX8_goPrint 42 = .ok (.iastore, 1) := by decide +kernel
theorem dX8_goPrint_43 : decode cX8_goPrint 43 = .ok (.aload_n 0, 1) := by decide +kernel
theorem dX8_goPrint_44 : decode cX8_goPrint 44 = .ok (.sipush 246, 3) := by decide +kernel
theorem dX8_goPrint_47 : decode cX8_goPrint 47 = .ok (.iload_n 3, 1) := by decide +kernel
theorem dX8_goPrint_48 : decode cX8_goPrint 48 = .ok (.iadd, 1) := by decide +kernel
theorem dX8_goPrint_49 : decode cX8_goPrint 49 = .ok (.iconst 0, 1) := by decide +kernel
theorem dX8_goPrint_50 : decode cX8_goPrint 50 = .ok (.iastore, 1) := by decide +kernel
theorem dX8_goPrint_51 : decode cX8_goPrint 51 = .ok (.aload_n 0, 1) := by decide +kernel
theorem dX8_goPrint_52 : decode cX8_goPrint 52 = .ok (.sipush 270, 3) := by decide +kernel
theorem dX8_goPrint_55 : decode cX8_goPrint 55 = .ok (.iload_n 3, 1) := by decide +kernel
theorem dX8_goPrint_56 : decode cX8_goPrint 56 = .ok (.iadd, 1) := by decide +kernel
theorem dX8_goPrint_57 : decode cX8_goPrint 57 = .ok (.iconst (-1), 1) := by decide +kernel
theorem dX8_goPrint_58 : decode cX8_goPrint 58 = .ok (.iastore, 1) := by decide +kernel
theorem dX8_goPrint_59 : decode cX8_goPrint 59 = .ok (.aload_n 0, 1) := by decide +kernel
theorem dX8_goPrint_60 : decode cX8_goPrint 60 = .ok (.bipush 9, 2) := by decide +kernel
theorem dX8_goPrint_62 : decode cX8_goPrint 62 = .ok (.dup2, 1) := by decide +kernel
theorem dX8_goPrint_63 : decode cX8_goPrint 63 = .ok (.iaload, 1) := by decide +kernel
theorem dX8_goPrint_64 : decode cX8_goPrint 64 = .ok (.iconst 1, 1) := by decide +kernel
theorem dX8_goPrint_65 : decode cX8_goPrint 65 = .ok (.iload_n 3, 1) := by decide +kernel
theorem dX8_goPrint_66 : decode cX8_goPrint 66 = .ok (.ishl, 1) := by decide +kernel
theorem dX8_goPrint_67 : decode cX8_goPrint 67 = .ok (.ior, 1) := by decide +kernel
theorem dX8_goPrint_68 : decode cX8_goPrint 68 = .ok (.iastore, 1) := by decide +kernel
theorem dX8_goPrint_69 : decode cX8_goPrint 69 = .ok (.aload_n 0, 1) := by decide +kernel
theorem dX8_goPrint_70 : decode cX8_goPrint 70 = .ok (.iconst 1, 1) := by decide +kernel
theorem dX8_goPrint_71 : decode cX8_goPrint 71 = .ok (.dup2, 1) := by decide +kernel
theorem dX8_goPrint_72 : decode cX8_goPrint 72 = .ok (.iaload, 1) := by decide +kernel
theorem dX8_goPrint_73 : decode cX8_goPrint 73 = .ok (.iconst 1, 1) := by decide +kernel
theorem dX8_goPrint_74 : decode cX8_goPrint 74 = .ok (.iadd, 1) := by decide +kernel
theorem dX8_goPrint_75 : decode cX8_goPrint 75 = .ok (.iastore, 1) := by decide +kernel
theorem dX8_goPrint_76 : decode cX8_goPrint 76 = .ok (.iload_n 3, 1) := by decide +kernel
theorem dX8_goPrint_77 : decode cX8_goPrint 77 = .ok (.ireturn, 1) := by decide +kernel
theorem dX8_canStamp_0 : decode cX8_canStamp 0 = .ok (.aload_n 0, 1) := by decide +kernel
theorem dX8_canStamp_1 : decode cX8_canStamp 1 = .ok (.iload_n 1, 1) := by decide +kernel
theorem dX8_canStamp_2 : decode cX8_canStamp 2 = .ok (.invokestatic 70, 3) := by decide +kernel
theorem dX8_canStamp_5 : decode cX8_canStamp 5 = .ok (.ifCond .eq 15, 3) := by decide +kernel
theorem dX8_canStamp_8 : decode cX8_canStamp 8 = .ok (.aload_n 0, 1) := by decide +kernel
theorem dX8_canStamp_9 : decode cX8_canStamp 9 = .ok (.iload_n 1, 1) := by decide +kernel
theorem dX8_canStamp_10 : decode cX8_canStamp 10 = .ok (.invokestatic 74, 3) := by decide +kernel
theorem dX8_canStamp_13 : decode cX8_canStamp 13 = .ok (.ifCond .ne 7, 3) := by decide +kernel
theorem dX8_canStamp_16 : decode cX8_canStamp 16 = .ok (.iconst 1, 1) := by decide +kernel
theorem dX8_canStamp_17 : decode cX8_canStamp 17 = .ok (.goto 4, 3) := by decide +kernel
theorem dX8_canStamp_20 : decode cX8_canStamp 20 = .ok (.iconst 0, 1) := by decide +kernel
theorem dX8_canStamp_21 : decode cX8_canStamp 21 = .ok (.ireturn, 1) := by decide +kernel
theorem dX8_goStamp_0 : decode cX8_goStamp 0 = .ok (.aload_n 0, 1) := by decide +kernel
theorem dX8_goStamp_1 : decode cX8_goStamp 1 = .ok (.sipush 246, 3) := by decide +kernel
theorem dX8_goStamp_4 : decode cX8_goStamp 4 = .ok (.iload_n 1, 1) := by decide +kernel
theorem dX8_goStamp_5 : decode cX8_goStamp 5 = .ok (.iadd, 1) := by decide +kernel
theorem dX8_goStamp_6 : decode cX8_goStamp 6 = .ok (.dup2, 1) := by decide +kernel
theorem dX8_goStamp_7 : decode cX8_goStamp 7 = .ok (.iaload, 1) := by decide +kernel
theorem dX8_goStamp_8 : decode cX8_goStamp 8 = .ok (.iconst 1, 1) := by decide +kernel
theorem dX8_goStamp_9 : decode cX8_goStamp 9 = .ok (.iload_n 2, 1) := by decide +kernel
theorem dX8_goStamp_10 : decode cX8_goStamp 10 = .ok (.ishl, 1) := by decide +kernel
theorem dX8_goStamp_11 : decode cX8_goStamp 11 = .ok (.ior, 1) := by decide +kernel
theorem dX8_goStamp_12 : decode cX8_goStamp 12 = .ok (.iastore, 1) := by decide +kernel
theorem dX8_goStamp_13 : decode cX8_goStamp 13 = .ok (.aload_n 0, 1) := by decide +kernel
theorem dX8_goStamp_14 : decode cX8_goStamp 14 = .ok (.sipush 246, 3) := by decide +kernel
theorem dX8_goStamp_17 : decode cX8_goStamp 17 = .ok (.iload_n 1, 1) := by decide +kernel
theorem dX8_goStamp_18 : decode cX8_goStamp 18 = .ok (.iadd, 1) := by decide +kernel
theorem dX8_goStamp_19 : decode cX8_goStamp 19 = .ok (.iaload, 1) := by decide +kernel
theorem dX8_goStamp_20 : decode cX8_goStamp 20 = .ok (.invokestatic 77, 3) := by decide +kernel
theorem dX8_goStamp_23 : decode cX8_goStamp 23 = .ok (.ireturn, 1) := by decide +kernel
theorem dX8_goBack_0 : decode cX8_goBack 0 = .ok (.aload_n 0, 1) := by decide +kernel
theorem dX8_goBack_1 : decode cX8_goBack 1 = .ok (.iload_n 1, 1) := by decide +kernel
theorem dX8_goBack_2 : decode cX8_goBack 2 = .ok (.aload_n 0, 1) := by decide +kernel
theorem dX8_goBack_3 : decode cX8_goBack 3 = .ok (.iconst 3, 1) := by decide +kernel
theorem dX8_goBack_4 : decode cX8_goBack 4 = .ok (.iaload, 1) := by decide +kernel
theorem dX8_goBack_5 : decode cX8_goBack 5 = .ok (.invokestatic 84, 3) := by decide +kernel
theorem dX8_goBack_8 : decode cX8_goBack 8 = .ok (.ifCond .eq 17, 3) := by decide +kernel
theorem dX8_goBack_11 : decode cX8_goBack 11 = .ok (.aload_n 0, 1) := by decide +kernel
theorem dX8_goBack_12 : decode cX8_goBack 12 = .ok (.iconst 3, 1) := by decide +kernel
theorem dX8_goBack_13 : decode cX8_goBack 13 = .ok (.iaload, 1) := by decide +kernel
theorem dX8_goBack_14 : decode cX8_goBack 14 = .ok (.aload_n 0, 1) := by decide +kernel
theorem dX8_goBack_15 : decode cX8_goBack 15 = .ok (.sipush 270, 3) := by decide +kernel
theorem dX8_goBack_18 : decode cX8_goBack 18 = .ok (.iload_n 1, 1) := by decide +kernel
theorem dX8_goBack_19 : decode cX8_goBack 19 = .ok (.iadd, 1) := by decide +kernel
theorem dX8_goBack_20 : decode cX8_goBack 20 = .ok (.iaload, 1) := by decide +kernel
theorem dX8_goBack_21 : decode cX8_goBack 21 = .ok (.isub, 1) := by decide +kernel
theorem dX8_goBack_22 : decode cX8_goBack 22 = .ok (.goto 4, 3) := by decide +kernel
theorem dX8_goBack_25 : decode cX8_goBack 25 = .ok (.iconst 0, 1) := by decide +kernel
theorem dX8_goBack_26 : decode cX8_goBack 26 = .ok (.istore_n 2, 1) := by decide +kernel
theorem dX8_goBack_27 : decode cX8_goBack 27 = .ok (.aload_n 0, 1) := by decide +kernel
theorem dX8_goBack_28 : decode cX8_goBack 28 = .ok (.bipush 9, 2) := by decide +kernel
theorem dX8_goBack_30 : decode cX8_goBack 30 = .ok (.dup2, 1) := by decide +kernel
theorem dX8_goBack_31 : decode cX8_goBack 31 = .ok (.iaload, 1) := by decide +kernel
theorem dX8_goBack_32 : decode cX8_goBack 32 = .ok (.iconst 1, 1) := by decide +kernel
theorem dX8_goBack_33 : decode cX8_goBack 33 = .ok (.iload_n 1, 1) := by decide +kernel
theorem dX8_goBack_34 : decode cX8_goBack 34 = .ok (.ishl, 1) := by decide +kernel
theorem dX8_goBack_35 : decode cX8_goBack 35 = .ok (.iconst (-1), 1) := by decide +kernel
theorem dX8_goBack_36 : decode cX8_goBack 36 = .ok (.ixor, 1) := by decide +kernel
theorem dX8_goBack_37 : decode cX8_goBack 37 = .ok (.iand, 1) := by decide +kernel
theorem dX8_goBack_38 : decode cX8_goBack 38 = .ok (.iastore, 1) := by decide +kernel
theorem dX8_goBack_39 : decode cX8_goBack 39 = .ok (.iload_n 2, 1) := by decide +kernel
theorem dX8_goBack_40 : decode cX8_goBack 40 = .ok (.ireturn, 1) := by decide +kernel
theorem dX8_canBuild_0 : decode cX8_canBuild 0 = .ok (.aload_n 0, 1) := by decide +kernel
theorem dX8_canBuild_1 : decode cX8_canBuild 1 = .ok (.iload_n 1, 1) := by decide +kernel
theorem dX8_canBuild_2 : decode cX8_canBuild 2 = .ok (.invokestatic 87, 3) := by decide +kernel
theorem dX8_canBuild_5 : decode cX8_canBuild 5 = .ok (.ifCond .eq 15, 3) := by decide +kernel
theorem dX8_canBuild_8 : decode cX8_canBuild 8 = .ok (.aload_n 0, 1) := by decide +kernel
theorem dX8_canBuild_9 : decode cX8_canBuild 9 = .ok (.iconst 2, 1) := by decide +kernel
theorem dX8_canBuild_10 : decode cX8_canBuild 10 = .ok (.iaload, 1) := by decide +kernel
theorem dX8_canBuild_11 : decode cX8_canBuild 11 = .ok (.bipush 30, 2) := by decide +kernel
theorem dX8_canBuild_13 : decode cX8_canBuild 13 = .ok (.if_icmp .ge 7, 3) := by decide +kernel
theorem dX8_canBuild_16 : decode cX8_canBuild 16 = .ok (.iconst 1, 1) := by decide +kernel
theorem dX8_canBuild_17 : decode cX8_canBuild 17 = .ok (.goto 4, 3) := by decide +kernel
theorem dX8_canBuild_20 : decode cX8_canBuild 20 = .ok (.iconst 0, 1) := by decide +kernel
theorem dX8_canBuild_21 : decode cX8_canBuild 21 = .ok (.ireturn, 1) := by decide +kernel
theorem dX8_goBuild_0 : decode cX8_goBuild 0 = .ok (.aload_n 0, 1) := by decide +kernel
theorem dX8_goBuild_1 : decode cX8_goBuild 1 = .ok (.iconst 2, 1) := by decide +kernel
theorem dX8_goBuild_2 : decode cX8_goBuild 2 = .ok (.iaload, 1) := by decide +kernel
theorem dX8_goBuild_3 : decode cX8_goBuild 3 = .ok (.istore_n 3, 1) := by decide +kernel
theorem dX8_goBuild_4 : decode cX8_goBuild 4 = .ok (.aload_n 0, 1) := by decide +kernel
theorem dX8_goBuild_5 : decode cX8_goBuild 5 = .ok (.sipush 294, 3) := by decide +kernel
theorem dX8_goBuild_8 : decode cX8_goBuild 8 = .ok (.iload_n 3, 1) := by decide +kernel
theorem dX8_goBuild_9 : decode cX8_goBuild 9 = .ok (.iadd, 1) := by decide +kernel
theorem dX8_goBuild_10 : decode cX8_goBuild 10 = .ok (.aload_n 0, 1) := by decide +kernel
theorem dX8_goBuild_11 : decode cX8_goBuild 11 = .ok (.sipush 198, 3) := by decide +kernel
theorem dX8_goBuild_14 : decode cX8_goBuild 14 = .ok (.iload_n 1, 1) := by decide +kernel
theorem dX8_goBuild_15 : decode cX8_goBuild 15 = .ok (.iadd, 1) := by decide +kernel
theorem dX8_goBuild_16 : decode cX8_goBuild 16 = .ok (.iaload, 1) := by decide +kernel
theorem dX8_goBuild_17 : decode cX8_goBuild 17 = .ok (.iastore, 1) := by decide +kernel
theorem dX8_goBuild_18 : decode cX8_goBuild 18 = .ok (.aload_n 0, 1) := by decide +kernel
theorem dX8_goBuild_19 : decode cX8_goBuild 19 = .ok (.sipush 324, 3) := by decide +kernel
theorem dX8_goBuild_22 : decode cX8_goBuild 22 = .ok (.iload_n 3, 1) := by decide +kernel
theorem dX8_goBuild_23 : decode cX8_goBuild 23 = .ok (.iadd, 1) := by decide +kernel
theorem dX8_goBuild_24 : decode cX8_goBuild 24 = .ok (.aload_n 0, 1) := by decide +kernel
theorem dX8_goBuild_25 : decode cX8_goBuild 25 = .ok (.sipush 150, 3) := by decide +kernel
theorem dX8_goBuild_28 : decode cX8_goBuild 28 = .ok (.iload_n 1, 1) := by decide +kernel
theorem dX8_goBuild_29 : decode cX8_goBuild 29 = .ok (.iadd, 1) := by decide +kernel
theorem dX8_goBuild_30 : decode cX8_goBuild 30 = .ok (.iaload, 1) := by decide +kernel
theorem dX8_goBuild_31 : decode cX8_goBuild 31 = .ok (.iastore, 1) := by decide +kernel
theorem dX8_goBuild_32 : decode cX8_goBuild 32 = .ok (.aload_n 0, 1) := by decide +kernel
theorem dX8_goBuild_33 : decode cX8_goBuild 33 = .ok (.sipush 354, 3) := by decide +kernel
theorem dX8_goBuild_36 : decode cX8_goBuild 36 = .ok (.iload_n 3, 1) := by decide +kernel
theorem dX8_goBuild_37 : decode cX8_goBuild 37 = .ok (.iadd, 1) := by decide +kernel
theorem dX8_goBuild_38 : decode cX8_goBuild 38 = .ok (.iload_n 2, 1) := by decide +kernel
theorem dX8_goBuild_39 : decode cX8_goBuild 39 = .ok (.iastore, 1) := by decide +kernel
theorem dX8_goBuild_40 : decode cX8_goBuild 40 = .ok (.aload_n 0, 1) := by decide +kernel
theorem dX8_goBuild_41 : decode cX8_goBuild 41 = .ok (.sipush 384, 3) := by decide +kernel
theorem dX8_goBuild_44 : decode cX8_goBuild 44 = .ok (.iload_n 3, 1) := by decide +kernel
theorem dX8_goBuild_45 : decode cX8_goBuild 45 = .ok (.iadd, 1) := by decide +kernel
theorem dX8_goBuild_46 : decode cX8_goBuild 46 = .ok (.aload_n 0, 1) := by decide +kernel
theorem dX8_goBuild_47 : decode cX8_goBuild 47 = .ok (.sipush 174, 3) := by decide +kernel
theorem dX8_goBuild_50 : decode cX8_goBuild 50 = .ok (.iload_n 1, 1) := by decide +kernel
theorem dX8_goBuild_51 : decode cX8_goBuild 51 = .ok (.iadd, 1) := by decide +kernel
theorem dX8_goBuild_52 : decode cX8_goBuild 52 = .ok (.iaload, 1) := by decide +kernel
theorem dX8_goBuild_53 : decode cX8_goBuild 53 = .ok (.iastore, 1) := by decide +kernel
theorem dX8_goBuild_54 : decode cX8_goBuild 54 = .ok (.aload_n 0, 1) := by decide +kernel
theorem dX8_goBuild_55 : decode cX8_goBuild 55 = .ok (.iconst 2, 1) := by decide +kernel
theorem dX8_goBuild_56 : decode cX8_goBuild 56 = .ok (.dup2, 1) := by decide +kernel
theorem dX8_goBuild_57 : decode cX8_goBuild 57 = .ok (.iaload, 1) := by decide +kernel
theorem dX8_goBuild_58 : decode cX8_goBuild 58 = .ok (.iconst 1, 1) := by decide +kernel
theorem dX8_goBuild_59 : decode cX8_goBuild 59 = .ok (.iadd, 1) := by decide +kernel
theorem dX8_goBuild_60 : decode cX8_goBuild 60 = .ok (.iastore, 1) := by decide +kernel
theorem dX8_goBuild_61 : decode cX8_goBuild 61 = .ok (.iload_n 3, 1) := by decide +kernel
theorem dX8_goBuild_62 : decode cX8_goBuild 62 = .ok (.ireturn, 1) := by decide +kernel
theorem dX8_goMend_0 : decode cX8_goMend 0 = .ok (.aload_n 0, 1) := by decide +kernel
theorem dX8_goMend_1 : decode cX8_goMend 1 = .ok (.sipush 384, 3) := by decide +kernel
theorem dX8_goMend_4 : decode cX8_goMend 4 = .ok (.iload_n 1, 1) := by decide +kernel
theorem dX8_goMend_5 : decode cX8_goMend 5 = .ok (.iadd, 1) := by decide +kernel
theorem dX8_goMend_6 : decode cX8_goMend 6 = .ok (.aload_n 0, 1) := by decide +kernel
theorem dX8_goMend_7 : decode cX8_goMend 7 = .ok (.bipush 20, 2) := by decide +kernel
theorem dX8_goMend_9 : decode cX8_goMend 9 = .ok (.aload_n 0, 1) := by decide +kernel
theorem dX8_goMend_10 : decode cX8_goMend 10 = .ok (.sipush 324, 3) := by decide +kernel
theorem dX8_goMend_13 : decode cX8_goMend 13 = .ok (.iload_n 1, 1) := by decide +kernel
theorem dX8_goMend_14 : decode cX8_goMend 14 = .ok (.iadd, 1) := by decide +kernel
theorem dX8_goMend_15 : decode cX8_goMend 15 = .ok (.iaload, 1) := by decide +kernel
theorem dX8_goMend_16 : decode cX8_goMend 16 = .ok (.iadd, 1) := by decide +kernel
theorem dX8_goMend_17 : decode cX8_goMend 17 = .ok (.iaload, 1) := by decide +kernel
theorem dX8_goMend_18 : decode cX8_goMend 18 = .ok (.iastore, 1) := by decide +kernel
theorem dX8_goMend_19 : decode cX8_goMend 19 = .ok (.aload_n 0, 1) := by decide +kernel
theorem dX8_goMend_20 : decode cX8_goMend 20 = .ok (.invokestatic 90, 3) := by decide +kernel
theorem dX8_goMend_23 : decode cX8_goMend 23 = .ok (.ireturn, 1) := by decide +kernel
theorem dX8_goRun_0 : decode cX8_goRun 0 = .ok (.iconst 0, 1) := by decide +kernel
theorem dX8_goRun_1 : decode cX8_goRun 1 = .ok (.istore_n 2, 1) := by decide +kernel
theorem dX8_goRun_2 : decode cX8_goRun 2 = .ok (.iconst 0, 1) := by decide +kernel
theorem dX8_goRun_3 : decode cX8_goRun 3 = .ok (.istore_n 3, 1) := by decide +kernel
theorem dX8_goRun_4 : decode cX8_goRun 4 = .ok (.iload_n 3, 1) := by decide +kernel
theorem dX8_goRun_5 : decode cX8_goRun 5 = .ok (.iload_n 1, 1) := by decide +kernel
theorem dX8_goRun_6 : decode cX8_goRun 6 = .ok (.if_icmp .ge 31, 3) := by decide +kernel
theorem dX8_goRun_9 : decode cX8_goRun 9 = .ok (.aload_n 0, 1) := by decide +kernel
theorem dX8_goRun_10 : decode cX8_goRun 10 = .ok (.iconst 3, 1) := by decide +kernel
theorem dX8_goRun_11 : decode cX8_goRun 11 = .ok (.dup2, 1) := by decide +kernel
theorem dX8_goRun_12 : decode cX8_goRun 12 = .ok (.iaload, 1) := by decide +kernel
theorem dX8_goRun_13 : decode cX8_goRun 13 = .ok (.iconst 1, 1) := by decide +kernel
theorem dX8_goRun_14 : decode cX8_goRun 14 = .ok (.iadd, 1) := by decide +kernel
theorem dX8_goRun_15 : decode cX8_goRun 15 = .ok (.iastore, 1) := by decide +kernel
theorem dX8_goRun_16 : decode cX8_goRun 16 = .ok (.iload_n 2, 1) := by decide +kernel
theorem dX8_goRun_17 : decode cX8_goRun 17 = .ok (.aload_n 0, 1) := by decide +kernel
theorem dX8_goRun_18 : decode cX8_goRun 18 = .ok (.aload_n 0, 1) := by decide +kernel
theorem dX8_goRun_19 : decode cX8_goRun 19 = .ok (.iconst 3, 1) := by decide +kernel
theorem dX8_goRun_20 : decode cX8_goRun 20 = .ok (.iaload, 1) := by decide +kernel
theorem dX8_goRun_21 : decode cX8_goRun 21 = .ok (.invokestatic 94, 3) := by decide +kernel
theorem dX8_goRun_24 : decode cX8_goRun 24 = .ok (.aload_n 0, 1) := by decide +kernel
theorem dX8_goRun_25 : decode cX8_goRun 25 = .ok (.bipush 7, 2) := by decide +kernel
theorem dX8_goRun_27 : decode cX8_goRun 27 = .ok (.iaload, 1) := by decide +kernel
theorem dX8_goRun_28 : decode cX8_goRun 28 = .ok (.imul, 1) := by decide +kernel
theorem dX8_goRun_29 : decode cX8_goRun 29 = .ok (.iadd, 1) := by decide +kernel
theorem dX8_goRun_30 : decode cX8_goRun 30 = .ok (.istore_n 2, 1) := by decide +kernel
theorem dX8_goRun_31 : decode cX8_goRun 31 = .ok (.iinc 3 1, 3) := by decide +kernel
theorem dX8_goRun_34 : decode cX8_goRun 34 = .ok (.goto (-30), 3) := by decide +kernel
theorem dX8_goRun_37 : decode cX8_goRun 37 = .ok (.aload_n 0, 1) := by decide +kernel
theorem dX8_goRun_38 : decode cX8_goRun 38 = .ok (.iconst 4, 1) := by decide +kernel
theorem dX8_goRun_39 : decode cX8_goRun 39 = .ok (.dup2, 1) := by decide +kernel
theorem dX8_goRun_40 : decode cX8_goRun 40 = .ok (.iaload, 1) := by decide +kernel
theorem dX8_goRun_41 : decode cX8_goRun 41 = .ok (.iload_n 2, 1) := by decide +kernel
theorem dX8_goRun_42 : decode cX8_goRun 42 = .ok (.iadd, 1) := by decide +kernel
theorem dX8_goRun_43 : decode cX8_goRun 43 = .ok (.iastore, 1) := by decide +kernel
theorem dX8_goRun_44 : decode cX8_goRun 44 = .ok (.iload_n 2, 1) := by decide +kernel
theorem dX8_goRun_45 : decode cX8_goRun 45 = .ok (.ireturn, 1) := by decide +kernel
theorem dX8_remember_0 : decode cX8_remember 0 = .ok (.aload_n 0, 1) := by decide +kernel
theorem dX8_remember_1 : decode cX8_remember 1 = .ok (.getfield 97, 3) := by decide +kernel
theorem dX8_remember_4 : decode cX8_remember 4 = .ok (.bipush 14, 2) := by decide +kernel
theorem dX8_remember_6 : decode cX8_remember 6 = .ok (.if_icmp .ne 44, 3) := by decide +kernel
theorem dX8_remember_9 : decode cX8_remember 9 = .ok (.iconst 0, 1) := by decide +kernel
theorem dX8_remember_10 : decode cX8_remember 10 = .ok (.istore_n 1, 1) := by decide +kernel
theorem dX8_remember_11 : decode cX8_remember 11 = .ok (.iload_n 1, 1) := by decide +kernel
theorem dX8_remember_12 : decode cX8_remember 12 = .ok (.sipush 5382, 3) := by decide +kernel
theorem dX8_remember_15 : decode cX8_remember 15 = .ok (.if_icmp .ge 25, 3) := by decide +kernel
theorem dX8_remember_18 : decode cX8_remember 18 = .ok (.aload_n 0, 1) := by decide +kernel
theorem dX8_remember_19 : decode cX8_remember 19 = .ok (.getfield 19, 3) := by decide +kernel
theorem dX8_remember_22 : decode cX8_remember 22 = .ok (.iload_n 1, 1) := by decide +kernel
theorem dX8_remember_23 : decode cX8_remember 23 = .ok (.aload_n 0, 1) := by decide +kernel
theorem dX8_remember_24 : decode cX8_remember 24 = .ok (.getfield 19, 3) := by decide +kernel
theorem dX8_remember_27 : decode cX8_remember 27 = .ok (.sipush 414, 3) := by decide +kernel
theorem dX8_remember_30 : decode cX8_remember 30 = .ok (.iload_n 1, 1) := by decide +kernel
theorem dX8_remember_31 : decode cX8_remember 31 = .ok (.iadd, 1) := by decide +kernel
theorem dX8_remember_32 : decode cX8_remember 32 = .ok (.iaload, 1) := by decide +kernel
theorem dX8_remember_33 : decode cX8_remember 33 = .ok (.iastore, 1) := by decide +kernel
theorem dX8_remember_34 : decode cX8_remember 34 = .ok (.iinc 1 1, 3) := by decide +kernel
theorem dX8_remember_37 : decode cX8_remember 37 = .ok (.goto (-26), 3) := by decide +kernel
theorem dX8_remember_40 : decode cX8_remember 40 = .ok (.aload_n 0, 1) := by decide +kernel
theorem dX8_remember_41 : decode cX8_remember 41 = .ok (.dup, 1) := by decide +kernel
theorem dX8_remember_42 : decode cX8_remember 42 = .ok (.getfield 97, 3) := by decide +kernel
theorem dX8_remember_45 : decode cX8_remember 45 = .ok (.iconst 1, 1) := by decide +kernel
theorem dX8_remember_46 : decode cX8_remember 46 = .ok (.isub, 1) := by decide +kernel
theorem dX8_remember_47 : decode cX8_remember 47 = .ok (.putfield 97, 3) := by decide +kernel
theorem dX8_remember_50 : decode cX8_remember 50 = .ok (.iconst 0, 1) := by decide +kernel
theorem dX8_remember_51 : decode cX8_remember 51 = .ok (.istore_n 1, 1) := by decide +kernel
theorem dX8_remember_52 : decode cX8_remember 52 = .ok (.iload_n 1, 1) := by decide +kernel
theorem dX8_remember_53 : decode cX8_remember 53 = .ok (.sipush 414, 3) := by decide +kernel
theorem dX8_remember_56 : decode cX8_remember 56 = .ok (.if_icmp .ge 30, 3) := by decide +kernel
theorem dX8_remember_59 : decode cX8_remember 59 = .ok (.aload_n 0, 1) := by decide +kernel
theorem dX8_remember_60 : decode cX8_remember 60 = .ok (.getfield 19, 3) := by decide +kernel
theorem dX8_remember_63 : decode cX8_remember 63 = .ok (.sipush 414, 3) := by decide +kernel
theorem dX8_remember_66 : decode cX8_remember 66 = .ok (.aload_n 0, 1) := by decide +kernel
theorem dX8_remember_67 : decode cX8_remember 67 = .ok (.getfield 97, 3) := by decide +kernel
theorem dX8_remember_70 : decode cX8_remember 70 = .ok (.imul, 1) := by decide +kernel
theorem dX8_remember_71 : decode cX8_remember 71 = .ok (.iload_n 1, 1) := by decide +kernel
theorem dX8_remember_72 : decode cX8_remember 72 = .ok (.iadd, 1) := by decide +kernel
theorem dX8_remember_73 : decode cX8_remember 73 = .ok (.aload_n 0, 1) := by decide +kernel
theorem dX8_remember_74 : decode cX8_remember 74 = .ok (.getfield 7, 3) := by decide +kernel
theorem dX8_remember_77 : decode cX8_remember 77 = .ok (.iload_n 1, 1) := by decide +kernel
theorem dX8_remember_78 : decode cX8_remember 78 = .ok (.iaload, 1) := by decide +kernel
theorem dX8_remember_79 : decode cX8_remember 79 = .ok (.iastore, 1) := by decide +kernel
theorem dX8_remember_80 : decode cX8_remember 80 = .ok (.iinc 1 1, 3) := by decide +kernel
theorem dX8_remember_83 : decode cX8_remember 83 = .ok (.goto (-31), 3) := by decide +kernel
theorem dX8_remember_86 : decode cX8_remember 86 = .ok (.aload_n 0, 1) := by decide +kernel
theorem dX8_remember_87 : decode cX8_remember 87 = .ok (.dup, 1) := by decide +kernel
theorem dX8_remember_88 : decode cX8_remember 88 = .ok (.getfield 97, 3) := by decide +kernel
theorem dX8_remember_91 : decode cX8_remember 91 = .ok (.iconst 1, 1) := by decide +kernel
theorem dX8_remember_92 : decode cX8_remember 92 = .ok (.iadd, 1) := by decide +kernel
theorem dX8_remember_93 : decode cX8_remember 93 = .ok (.putfield 97, 3) := by decide +kernel
theorem dX8_remember_96 : decode cX8_remember 96 = .ok (.return_, 1) := by decide +kernel
theorem dX8_append_0 : decode cX8_append 0 = .ok (.aload_n 0, 1) := by decide +kernel
theorem dX8_append_1 : decode cX8_append 1 = .ok (.iload_n 1, 1) := by decide +kernel
theorem dX8_append_2 : decode cX8_append 2 = .ok (.i2l, 1) := by decide +kernel
theorem dX8_append_3 : decode cX8_append 3 = .ok (.lconst 0, 1) := by decide +kernel
theorem dX8_append_4 : decode cX8_append 4 = .ok (.ldc2_w 100, 3) := by decide +kernel
theorem dX8_append_7 : decode cX8_append 7 = .ok (.invokestatic 42, 3) := by decide +kernel
theorem dX8_append_10 : decode cX8_append 10 = .ok (.ifCond .ne 7, 3) := by decide +kernel
theorem dX8_append_13 : decode cX8_append 13 = .ok (.iconst 1, 1) := by decide +kernel
theorem dX8_append_14 : decode cX8_append 14 = .ok (.goto 17, 3) := by decide +kernel
theorem dX8_append_17 : decode cX8_append 17 = .ok (.aload_n 0, 1) := by decide +kernel
theorem dX8_append_18 : decode cX8_append 18 = .ok (.getfield 102, 3) := by decide +kernel
theorem dX8_append_21 : decode cX8_append 21 = .ok (.bipush 120, 2) := by decide +kernel
theorem dX8_append_23 : decode cX8_append 23 = .ok (.if_icmp .ne 7, 3) := by decide +kernel
theorem dX8_append_26 : decode cX8_append 26 = .ok (.iconst 2, 1) := by decide +kernel
theorem dX8_append_27 : decode cX8_append 27 = .ok (.goto 4, 3) := by decide +kernel
theorem dX8_append_30 : decode cX8_append 30 = .ok (.iconst 0, 1) := by decide +kernel
theorem dX8_append_31 : decode cX8_append 31 = .ok (.invokevirtual 105, 3) := by decide +kernel
theorem dX8_append_34 : decode cX8_append 34 = .ok (.ifCond .eq 5, 3) := by decide +kernel
theorem dX8_append_37 : decode cX8_append 37 = .ok (.iconst 0, 1) := by decide +kernel
theorem dX8_append_38 : decode cX8_append 38 = .ok (.ireturn, 1) := by decide +kernel
theorem dX8_append_39 : decode cX8_append 39 = .ok (.aload_n 0, 1) := by decide +kernel
theorem dX8_append_40 : decode cX8_append 40 = .ok (.getfield 29, 3) := by decide +kernel
theorem dX8_append_43 : decode cX8_append 43 = .ok (.aload_n 0, 1) := by decide +kernel
theorem dX8_append_44 : decode cX8_append 44 = .ok (.getfield 102, 3) := by decide +kernel
theorem dX8_append_47 : decode cX8_append 47 = .ok (.iload_n 1, 1) := by decide +kernel
theorem dX8_append_48 : decode cX8_append 48 = .ok (.iastore, 1) := by decide +kernel
theorem dX8_append_49 : decode cX8_append 49 = .ok (.aload_n 0, 1) := by decide +kernel
theorem dX8_append_50 : decode cX8_append 50 = .ok (.dup, 1) := by decide +kernel
theorem dX8_append_51 : decode cX8_append 51 = .ok (.getfield 102, 3) := by decide +kernel
theorem dX8_append_54 : decode cX8_append 54 = .ok (.iconst 1, 1) := by decide +kernel
theorem dX8_append_55 : decode cX8_append 55 = .ok (.iadd, 1) := by decide +kernel
theorem dX8_append_56 : decode cX8_append 56 = .ok (.putfield 102, 3) := by decide +kernel
theorem dX8_append_59 : decode cX8_append 59 = .ok (.aload_n 0, 1) := by decide +kernel
theorem dX8_append_60 : decode cX8_append 60 = .ok (.getfield 102, 3) := by decide +kernel
theorem dX8_append_63 : decode cX8_append 63 = .ok (.ireturn, 1) := by decide +kernel
theorem dX8_clearText_0 : decode cX8_clearText 0 = .ok (.aload_n 0, 1) := by decide +kernel
theorem dX8_clearText_1 : decode cX8_clearText 1 = .ok (.iconst 0, 1) := by decide +kernel
theorem dX8_clearText_2 : decode cX8_clearText 2 = .ok (.putfield 36, 3) := by decide +kernel
theorem dX8_clearText_5 : decode cX8_clearText 5 = .ok (.aload_n 0, 1) := by decide +kernel
theorem dX8_clearText_6 : decode cX8_clearText 6 = .ok (.getfield 102, 3) := by decide +kernel
theorem dX8_clearText_9 : decode cX8_clearText 9 = .ok (.istore_n 1, 1) := by decide +kernel
theorem dX8_clearText_10 : decode cX8_clearText 10 = .ok (.aload_n 0, 1) := by decide +kernel
theorem dX8_clearText_11 : decode cX8_clearText 11 = .ok (.iconst 0, 1) := by decide +kernel
theorem dX8_clearText_12 : decode cX8_clearText 12 = .ok (.putfield 102, 3) := by decide +kernel
theorem dX8_clearText_15 : decode cX8_clearText 15 = .ok (.iload_n 1, 1) := by decide +kernel
theorem dX8_clearText_16 : decode cX8_clearText 16 = .ok (.ireturn, 1) := by decide +kernel
theorem dX8_here_0 : decode cX8_here 0 = .ok (.aload_n 0, 1) := by decide +kernel
theorem dX8_here_1 : decode cX8_here 1 = .ok (.getfield 109, 3) := by decide +kernel
theorem dX8_here_4 : decode cX8_here 4 = .ok (.aload_n 0, 1) := by decide +kernel
theorem dX8_here_5 : decode cX8_here 5 = .ok (.getfield 102, 3) := by decide +kernel
theorem dX8_here_8 : decode cX8_here 8 = .ok (.if_icmp .ge 15, 3) := by decide +kernel
theorem dX8_here_11 : decode cX8_here 11 = .ok (.aload_n 0, 1) := by decide +kernel
theorem dX8_here_12 : decode cX8_here 12 = .ok (.getfield 29, 3) := by decide +kernel
theorem dX8_here_15 : decode cX8_here 15 = .ok (.aload_n 0, 1) := by decide +kernel
theorem dX8_here_16 : decode cX8_here 16 = .ok (.getfield 109, 3) := by decide +kernel
theorem dX8_here_19 : decode cX8_here 19 = .ok (.iaload, 1) := by decide +kernel
theorem dX8_here_20 : decode cX8_here 20 = .ok (.goto 4, 3) := by decide +kernel
theorem dX8_here_23 : decode cX8_here 23 = .ok (.iconst (-1), 1) := by decide +kernel
theorem dX8_here_24 : decode cX8_here 24 = .ok (.ireturn, 1) := by decide +kernel
theorem dX8_take_0 : decode cX8_take 0 = .ok (.aload_n 0, 1) := by decide +kernel
theorem dX8_take_1 : decode cX8_take 1 = .ok (.aload_n 0, 1) := by decide +kernel
theorem dX8_take_2 : decode cX8_take 2 = .ok (.getfield 112, 3) := by decide +kernel
theorem dX8_take_5 : decode cX8_take 5 = .ok (.ifCond .eq 11, 3) := by decide +kernel
theorem dX8_take_8 : decode cX8_take 8 = .ok (.iload_n 1, 1) := by decide +kernel
theorem dX8_take_9 : decode cX8_take 9 = .ok (.ifCond .eq 7, 3) := by decide +kernel
theorem dX8_take_12 : decode cX8_take 12 = .ok (.iconst 1, 1) := by decide +kernel
theorem dX8_take_13 : decode cX8_take 13 = .ok (.goto 4, 3) := by decide +kernel
theorem dX8_take_16 : decode cX8_take 16 = .ok (.iconst 0, 1) := by decide +kernel
theorem dX8_take_17 : decode cX8_take 17 = .ok (.putfield 112, 3) := by decide +kernel
theorem dX8_take_20 : decode cX8_take 20 = .ok (.aload_n 0, 1) := by decide +kernel
theorem dX8_take_21 : decode cX8_take 21 = .ok (.dup, 1) := by decide +kernel
theorem dX8_take_22 : decode cX8_take 22 = .ok (.getfield 109, 3) := by decide +kernel
theorem dX8_take_25 : decode cX8_take 25 = .ok (.aload_n 0, 1) := by decide +kernel
theorem dX8_take_26 : decode cX8_take 26 = .ok (.getfield 112, 3) := by decide +kernel
theorem dX8_take_29 : decode cX8_take 29 = .ok (.ifCond .eq 7, 3) := by decide +kernel
theorem dX8_take_32 : decode cX8_take 32 = .ok (.iconst 1, 1) := by decide +kernel
theorem dX8_take_33 : decode cX8_take 33 = .ok (.goto 4, 3) := by decide +kernel
theorem dX8_take_36 : decode cX8_take 36 = .ok (.iconst 0, 1) := by decide +kernel
theorem dX8_take_37 : decode cX8_take 37 = .ok (.iadd, 1) := by decide +kernel
theorem dX8_take_38 : decode cX8_take 38 = .ok (.putfield 109, 3) := by decide +kernel
theorem dX8_take_41 : decode cX8_take 41 = .ok (.return_, 1) := by decide +kernel
theorem dX8_digit_0 : decode cX8_digit 0 = .ok (.aload_n 0, 1) := by decide +kernel
theorem dX8_digit_1 : decode cX8_digit 1 = .ok (.invokevirtual 116, 3) := by decide +kernel
theorem dX8_digit_4 : decode cX8_digit 4 = .ok (.bipush 48, 2) := by decide +kernel
theorem dX8_digit_6 : decode cX8_digit 6 = .ok (.isub, 1) := by decide +kernel
theorem dX8_digit_7 : decode cX8_digit 7 = .ok (.istore_n 3, 1) := by decide +kernel
theorem dX8_digit_8 : decode cX8_digit 8 = .ok (.aload_n 0, 1) := by decide +kernel
theorem dX8_digit_9 : decode cX8_digit 9 = .ok (.iload_n 3, 1) := by decide +kernel
theorem dX8_digit_10 : decode cX8_digit 10 = .ok (.i2l, 1) := by decide +kernel
theorem dX8_digit_11 : decode cX8_digit 11 = .ok (.iload_n 1, 1) := by decide +kernel
theorem dX8_digit_12 : decode cX8_digit 12 = .ok (.i2l, 1) := by decide +kernel
theorem dX8_digit_13 : decode cX8_digit 13 = .ok (.iload_n 2, 1) := by decide +kernel
theorem dX8_digit_14 : decode cX8_digit 14 = .ok (.i2l, 1) := by decide +kernel
theorem dX8_digit_15 : decode cX8_digit 15 = .ok (.invokestatic 42, 3) := by decide +kernel
theorem dX8_digit_18 : decode cX8_digit 18 = .ok (.invokevirtual 120, 3) := by decide +kernel
theorem dX8_digit_21 : decode cX8_digit 21 = .ok (.aload_n 0, 1) := by decide +kernel
theorem dX8_digit_22 : decode cX8_digit 22 = .ok (.getfield 112, 3) := by decide +kernel
theorem dX8_digit_25 : decode cX8_digit 25 = .ok (.ifCond .eq 7, 3) := by decide +kernel
theorem dX8_digit_28 : decode cX8_digit 28 = .ok (.iload_n 3, 1) := by decide +kernel
theorem dX8_digit_29 : decode cX8_digit 29 = .ok (.goto 4, 3) := by decide +kernel
theorem dX8_digit_32 : decode cX8_digit 32 = .ok (.iconst 0, 1) := by decide +kernel
theorem dX8_digit_33 : decode cX8_digit 33 = .ok (.ireturn, 1) := by decide +kernel
theorem dX8_number_0 : decode cX8_number 0 = .ok (.aload_n 0, 1) := by decide +kernel
theorem dX8_number_1 : decode cX8_number 1 = .ok (.iload_n 1, 1) := by decide +kernel
theorem dX8_number_2 : decode cX8_number 2 = .ok (.bipush 9, 2) := by decide +kernel
theorem dX8_number_4 : decode cX8_number 4 = .ok (.invokevirtual 124, 3) := by decide +kernel
theorem dX8_number_7 : decode cX8_number 7 = .ok (.istore_n 3, 1) := by decide +kernel
theorem dX8_number_8 : decode cX8_number 8 = .ok (.aload_n 0, 1) := by decide +kernel
theorem dX8_number_9 : decode cX8_number 9 = .ok (.getfield 112, 3) := by decide +kernel
theorem dX8_number_12 : decode cX8_number 12 = .ok (.ifCond .eq 28, 3) := by decide +kernel
theorem dX8_number_15 : decode cX8_number 15 = .ok (.iload_n 3, 1) := by decide +kernel
theorem dX8_number_16 : decode cX8_number 16 = .ok (.ifCond .le 24, 3) := by decide +kernel
theorem dX8_number_19 : decode cX8_number 19 = .ok (.aload_n 0, 1) := by decide +kernel
theorem dX8_number_20 : decode cX8_number 20 = .ok (.invokevirtual 116, 3) := by decide +kernel
theorem dX8_number_23 : decode cX8_number 23 = .ok (.i2l, 1) := by decide +kernel
theorem dX8_number_24 : decode cX8_number 24 = .ok (.ldc2_w 128, 3) := by decide +kernel
theorem dX8_number_27 : decode cX8_number 27 = .ok (.ldc2_w 130, 3) := by decide +kernel
theorem dX8_number_30 : decode cX8_number 30 = .ok (.invokestatic 42, 3) := by decide +kernel
theorem dX8_number_33 : decode cX8_number 33 = .ok (.ifCond .eq 7, 3) := by decide +kernel
theorem dX8_number_36 : decode cX8_number 36 = .ok (.iconst 1, 1) := by decide +kernel
theorem dX8_number_37 : decode cX8_number 37 = .ok (.goto 4, 3) := by decide +kernel
theorem dX8_number_40 : decode cX8_number 40 = .ok (.iconst 0, 1) := by decide +kernel
theorem dX8_number_41 : decode cX8_number 41 = .ok (.istore 4, 2) := by decide +kernel
theorem dX8_number_43 : decode cX8_number 43 = .ok (.iload 4, 2) := by decide +kernel
theorem dX8_number_45 : decode cX8_number 45 = .ok (.ifCond .eq 32, 3) := by decide +kernel
theorem dX8_number_48 : decode cX8_number 48 = .ok (.bipush 10, 2) := by decide +kernel
theorem dX8_number_50 : decode cX8_number 50 = .ok (.iload_n 3, 1) := by decide +kernel
theorem dX8_number_51 : decode cX8_number 51 = .ok (.imul, 1) := by decide +kernel
theorem dX8_number_52 : decode cX8_number 52 = .ok (.aload_n 0, 1) := by decide +kernel
theorem dX8_number_53 : decode cX8_number 53 = .ok (.invokevirtual 116, 3) := by decide +kernel
theorem dX8_number_56 : decode cX8_number 56 = .ok (.iadd, 1) := by decide +kernel
theorem dX8_number_57 : decode cX8_number 57 = .ok (.bipush 48, 2) := by decide +kernel
theorem dX8_number_59 : decode cX8_number 59 = .ok (.isub, 1) := by decide +kernel
theorem dX8_number_60 : decode cX8_number 60 = .ok (.iload_n 2, 1) := by decide +kernel
theorem dX8_number_61 : decode cX8_number 61 = .ok (.if_icmp .gt 16, 3) := by decide +kernel
theorem dX8_number_64 : decode cX8_number 64 = .ok (.bipush 10, 2) := by decide +kernel
theorem dX8_number_66 : decode cX8_number 66 = .ok (.iload_n 3, 1) := by decide +kernel
theorem dX8_number_67 : decode cX8_number 67 = .ok (.imul, 1) := by decide +kernel
theorem dX8_number_68 : decode cX8_number 68 = .ok (.aload_n 0, 1) := by decide +kernel
theorem dX8_number_69 : decode cX8_number 69 = .ok (.iconst 0, 1) := by decide +kernel
theorem dX8_number_70 : decode cX8_number 70 = .ok (.bipush 9, 2) := by decide +kernel
theorem dX8_number_72 : decode cX8_number 72 = .ok (.invokevirtual 124, 3) := by decide +kernel
theorem dX8_number_75 : decode cX8_number 75 = .ok (.iadd, 1) := by decide +kernel
theorem dX8_number_76 : decode cX8_number 76 = .ok (.istore_n 3, 1) := by decide +kernel
theorem dX8_number_77 : decode cX8_number 77 = .ok (.iload_n 3, 1) := by decide +kernel
theorem dX8_number_78 : decode cX8_number 78 = .ok (.ireturn, 1) := by decide +kernel
theorem dX8_goes_0 : decode cX8_goes 0 = .ok (.aload_n 0, 1) := by decide +kernel
theorem dX8_goes_1 : decode cX8_goes 1 = .ok (.dup, 1) := by decide +kernel
theorem dX8_goes_2 : decode cX8_goes 2 = .ok (.getfield 132, 3) := by decide +kernel
theorem dX8_goes_5 : decode cX8_goes 5 = .ok (.aload_n 0, 1) := by decide +kernel
theorem dX8_goes_6 : decode cX8_goes 6 = .ok (.getfield 112, 3) := by decide +kernel
theorem dX8_goes_9 : decode cX8_goes 9 = .ok (.ifCond .eq 11, 3) := by decide +kernel
theorem dX8_goes_12 : decode cX8_goes 12 = .ok (.iload_n 1, 1) := by decide +kernel
theorem dX8_goes_13 : decode cX8_goes 13 = .ok (.ifCond .ne 7, 3) := by decide +kernel
theorem dX8_goes_16 : decode cX8_goes 16 = .ok (.iconst 1, 1) := by decide +kernel
theorem dX8_goes_17 : decode cX8_goes 17 = .ok (.goto 4, 3) := by decide +kernel
theorem dX8_goes_20 : decode cX8_goes 20 = .ok (.iconst 0, 1) := by decide +kernel
theorem dX8_goes_21 : decode cX8_goes 21 = .ok (.iadd, 1) := by decide +kernel
theorem dX8_goes_22 : decode cX8_goes 22 = .ok (.putfield 132, 3) := by decide +kernel
theorem dX8_goes_25 : decode cX8_goes 25 = .ok (.aload_n 0, 1) := by decide +kernel
theorem dX8_goes_26 : decode cX8_goes 26 = .ok (.getfield 112, 3) := by decide +kernel
theorem dX8_goes_29 : decode cX8_goes 29 = .ok (.ifCond .eq 11, 3) := by decide +kernel
theorem dX8_goes_32 : decode cX8_goes 32 = .ok (.iload_n 1, 1) := by decide +kernel
theorem dX8_goes_33 : decode cX8_goes 33 = .ok (.ifCond .eq 7, 3) := by decide +kernel
theorem dX8_goes_36 : decode cX8_goes 36 = .ok (.iconst 1, 1) := by decide +kernel
theorem dX8_goes_37 : decode cX8_goes 37 = .ok (.goto 4, 3) := by decide +kernel
theorem dX8_goes_40 : decode cX8_goes 40 = .ok (.iconst 0, 1) := by decide +kernel
theorem dX8_goes_41 : decode cX8_goes 41 = .ok (.ireturn, 1) := by decide +kernel
theorem dX8_readDraw_0 : decode cX8_readDraw 0 = .ok (.aload_n 0, 1) := by decide +kernel
theorem dX8_readDraw_1 : decode cX8_readDraw 1 = .ok (.aload_n 0, 1) := by decide +kernel
theorem dX8_readDraw_2 : decode cX8_readDraw 2 = .ok (.invokevirtual 116, 3) := by decide +kernel
theorem dX8_readDraw_5 : decode cX8_readDraw 5 = .ok (.bipush 100, 2) := by decide +kernel
theorem dX8_readDraw_7 : decode cX8_readDraw 7 = .ok (.if_icmp .ne 7, 3) := by decide +kernel
theorem dX8_readDraw_10 : decode cX8_readDraw 10 = .ok (.iconst 1, 1) := by decide +kernel
theorem dX8_readDraw_11 : decode cX8_readDraw 11 = .ok (.goto 4, 3) := by decide +kernel
theorem dX8_readDraw_14 : decode cX8_readDraw 14 = .ok (.iconst 0, 1) := by decide +kernel
theorem dX8_readDraw_15 : decode cX8_readDraw 15 = .ok (.invokevirtual 120, 3) := by decide +kernel
theorem dX8_readDraw_18 : decode cX8_readDraw 18 = .ok (.aload_n 0, 1) := by decide +kernel
theorem dX8_readDraw_19 : decode cX8_readDraw 19 = .ok (.aload_n 0, 1) := by decide +kernel
theorem dX8_readDraw_20 : decode cX8_readDraw 20 = .ok (.invokevirtual 116, 3) := by decide +kernel
theorem dX8_readDraw_23 : decode cX8_readDraw 23 = .ok (.bipush 114, 2) := by decide +kernel
theorem dX8_readDraw_25 : decode cX8_readDraw 25 = .ok (.if_icmp .ne 7, 3) := by decide +kernel
theorem dX8_readDraw_28 : decode cX8_readDraw 28 = .ok (.iconst 1, 1) := by decide +kernel
theorem dX8_readDraw_29 : decode cX8_readDraw 29 = .ok (.goto 4, 3) := by decide +kernel
theorem dX8_readDraw_32 : decode cX8_readDraw 32 = .ok (.iconst 0, 1) := by decide +kernel
theorem dX8_readDraw_33 : decode cX8_readDraw 33 = .ok (.invokevirtual 120, 3) := by decide +kernel
theorem dX8_readDraw_36 : decode cX8_readDraw 36 = .ok (.aload_n 0, 1) := by decide +kernel
theorem dX8_readDraw_37 : decode cX8_readDraw 37 = .ok (.aload_n 0, 1) := by decide +kernel
theorem dX8_readDraw_38 : decode cX8_readDraw 38 = .ok (.invokevirtual 116, 3) := by decide +kernel
theorem dX8_readDraw_41 : decode cX8_readDraw 41 = .ok (.bipush 97, 2) := by decide +kernel
theorem dX8_readDraw_43 : decode cX8_readDraw 43 = .ok (.if_icmp .ne 7, 3) := by decide +kernel
theorem dX8_readDraw_46 : decode cX8_readDraw 46 = .ok (.iconst 1, 1) := by decide +kernel
theorem dX8_readDraw_47 : decode cX8_readDraw 47 = .ok (.goto 4, 3) := by decide +kernel
theorem dX8_readDraw_50 : decode cX8_readDraw 50 = .ok (.iconst 0, 1) := by decide +kernel
theorem dX8_readDraw_51 : decode cX8_readDraw 51 = .ok (.invokevirtual 120, 3) := by decide +kernel
theorem dX8_readDraw_54 : decode cX8_readDraw 54 = .ok (.aload_n 0, 1) := by decide +kernel
theorem dX8_readDraw_55 : decode cX8_readDraw 55 = .ok (.aload_n 0, 1) := by decide +kernel
theorem dX8_readDraw_56 : decode cX8_readDraw 56 = .ok (.invokevirtual 116, 3) := by decide +kernel
theorem dX8_readDraw_59 : decode cX8_readDraw 59 = .ok (.bipush 119, 2) := by decide +kernel
theorem dX8_readDraw_61 : decode cX8_readDraw 61 = .ok (.if_icmp .ne 7, 3) := by decide +kernel
theorem dX8_readDraw_64 : decode cX8_readDraw 64 = .ok (.iconst 1, 1) := by decide +kernel
