theorem dX8_mend_13 : decode cX8_mend 13 = .ok (.goto 19, 3) := by decide +kernel
theorem dX8_mend_16 : decode cX8_mend 16 = .ok (.aload_n 0, 1) := by decide +kernel
theorem dX8_mend_17 : decode cX8_mend 17 = .ok (.getfield 7, 3) := by decide +kernel
theorem dX8_mend_20 : decode cX8_mend 20 = .ok (.iload_n 1, 1) := by decide +kernel
theorem dX8_mend_21 : decode cX8_mend 21 = .ok (.invokestatic 81, 3) := by decide +kernel
theorem dX8_mend_24 : decode cX8_mend 24 = .ok (.ifCond .ne 7, 3) := by decide +kernel
theorem dX8_mend_27 : decode cX8_mend 27 = .ok (.iconst 2, 1) := by decide +kernel
theorem dX8_mend_28 : decode cX8_mend 28 = .ok (.goto 4, 3) := by decide +kernel
theorem dX8_mend_31 : decode cX8_mend 31 = .ok (.iconst 0, 1) := by decide +kernel
theorem dX8_mend_32 : decode cX8_mend 32 = .ok (.invokevirtual 105, 3) := by decide +kernel
theorem dX8_mend_35 : decode cX8_mend 35 = .ok (.ifCond .eq 5, 3) := by decide +kernel
theorem dX8_mend_38 : decode cX8_mend 38 = .ok (.iconst 0, 1) := by decide +kernel
theorem dX8_mend_39 : decode cX8_mend 39 = .ok (.ireturn, 1) := by decide +kernel
theorem dX8_mend_40 : decode cX8_mend 40 = .ok (.aload_n 0, 1) := by decide +kernel
theorem dX8_mend_41 : decode cX8_mend 41 = .ok (.invokevirtual 248, 3) := by decide +kernel
theorem dX8_mend_44 : decode cX8_mend 44 = .ok (.aload_n 0, 1) := by decide +kernel
theorem dX8_mend_45 : decode cX8_mend 45 = .ok (.getfield 7, 3) := by decide +kernel
theorem dX8_mend_48 : decode cX8_mend 48 = .ok (.iload_n 1, 1) := by decide +kernel
theorem dX8_mend_49 : decode cX8_mend 49 = .ok (.invokestatic 272, 3) := by decide +kernel
theorem dX8_mend_52 : decode cX8_mend 52 = .ok (.ireturn, 1) := by decide +kernel
theorem dX8_run_0 : decode cX8_run 0 = .ok (.aload_n 0, 1) := by decide +kernel
theorem dX8_run_1 : decode cX8_run 1 = .ok (.iload_n 1, 1) := by decide +kernel
theorem dX8_run_2 : decode cX8_run 2 = .ok (.i2l, 1) := by decide +kernel
theorem dX8_run_3 : decode cX8_run 3 = .ok (.lconst 1, 1) := by decide +kernel
theorem dX8_run_4 : decode cX8_run 4 = .ok (.ldc2_w 275, 3) := by decide +kernel
theorem dX8_run_7 : decode cX8_run 7 = .ok (.invokestatic 42, 3) := by decide +kernel
theorem dX8_run_10 : decode cX8_run 10 = .ok (.ifCond .eq 7, 3) := by decide +kernel
theorem dX8_run_13 : decode cX8_run 13 = .ok (.iconst 0, 1) := by decide +kernel
theorem dX8_run_14 : decode cX8_run 14 = .ok (.goto 4, 3) := by decide +kernel
theorem dX8_run_17 : decode cX8_run 17 = .ok (.iconst 1, 1) := by decide +kernel
theorem dX8_run_18 : decode cX8_run 18 = .ok (.invokevirtual 105, 3) := by decide +kernel
theorem dX8_run_21 : decode cX8_run 21 = .ok (.ifCond .eq 5, 3) := by decide +kernel
theorem dX8_run_24 : decode cX8_run 24 = .ok (.iconst 0, 1) := by decide +kernel
theorem dX8_run_25 : decode cX8_run 25 = .ok (.ireturn, 1) := by decide +kernel
theorem dX8_run_26 : decode cX8_run 26 = .ok (.aload_n 0, 1) := by decide +kernel
theorem dX8_run_27 : decode cX8_run 27 = .ok (.invokevirtual 248, 3) := by decide +kernel
theorem dX8_run_30 : decode cX8_run 30 = .ok (.aload_n 0, 1) := by decide +kernel
theorem dX8_run_31 : decode cX8_run 31 = .ok (.getfield 7, 3) := by decide +kernel
theorem dX8_run_34 : decode cX8_run 34 = .ok (.iload_n 1, 1) := by decide +kernel
theorem dX8_run_35 : decode cX8_run 35 = .ok (.invokestatic 169, 3) := by decide +kernel
theorem dX8_run_38 : decode cX8_run 38 = .ok (.ireturn, 1) := by decide +kernel
theorem dX8_set_0 : decode cX8_set 0 = .ok (.aload_n 0, 1) := by decide +kernel
theorem dX8_set_1 : decode cX8_set 1 = .ok (.iload_n 1, 1) := by decide +kernel
theorem dX8_set_2 : decode cX8_set 2 = .ok (.iload_n 2, 1) := by decide +kernel
theorem dX8_set_3 : decode cX8_set 3 = .ok (.invokestatic 277, 3) := by decide +kernel
theorem dX8_set_6 : decode cX8_set 6 = .ok (.ifCond .eq 7, 3) := by decide +kernel
theorem dX8_set_9 : decode cX8_set 9 = .ok (.iconst 0, 1) := by decide +kernel
theorem dX8_set_10 : decode cX8_set 10 = .ok (.goto 4, 3) := by decide +kernel
theorem dX8_set_13 : decode cX8_set 13 = .ok (.iconst 1, 1) := by decide +kernel
theorem dX8_set_14 : decode cX8_set 14 = .ok (.invokevirtual 105, 3) := by decide +kernel
theorem dX8_set_17 : decode cX8_set 17 = .ok (.ifCond .eq 5, 3) := by decide +kernel
theorem dX8_set_20 : decode cX8_set 20 = .ok (.iconst 0, 1) := by decide +kernel
theorem dX8_set_21 : decode cX8_set 21 = .ok (.ireturn, 1) := by decide +kernel
theorem dX8_set_22 : decode cX8_set 22 = .ok (.aload_n 0, 1) := by decide +kernel
theorem dX8_set_23 : decode cX8_set 23 = .ok (.invokevirtual 248, 3) := by decide +kernel
theorem dX8_set_26 : decode cX8_set 26 = .ok (.aload_n 0, 1) := by decide +kernel
theorem dX8_set_27 : decode cX8_set 27 = .ok (.getfield 7, 3) := by decide +kernel
theorem dX8_set_30 : decode cX8_set 30 = .ok (.iconst 5, 1) := by decide +kernel
theorem dX8_set_31 : decode cX8_set 31 = .ok (.iload_n 1, 1) := by decide +kernel
theorem dX8_set_32 : decode cX8_set 32 = .ok (.iadd, 1) := by decide +kernel
theorem dX8_set_33 : decode cX8_set 33 = .ok (.iaload, 1) := by decide +kernel
theorem dX8_set_34 : decode cX8_set 34 = .ok (.istore_n 3, 1) := by decide +kernel
theorem dX8_set_35 : decode cX8_set 35 = .ok (.aload_n 0, 1) := by decide +kernel
theorem dX8_set_36 : decode cX8_set 36 = .ok (.getfield 7, 3) := by decide +kernel
theorem dX8_set_39 : decode cX8_set 39 = .ok (.iconst 5, 1) := by decide +kernel
theorem dX8_set_40 : decode cX8_set 40 = .ok (.iload_n 1, 1) := by decide +kernel
theorem dX8_set_41 : decode cX8_set 41 = .ok (.iadd, 1) := by decide +kernel
theorem dX8_set_42 : decode cX8_set 42 = .ok (.iload_n 2, 1) := by decide +kernel
theorem dX8_set_43 : decode cX8_set 43 = .ok (.iastore, 1) := by decide +kernel
theorem dX8_set_44 : decode cX8_set 44 = .ok (.iload_n 3, 1) := by decide +kernel
theorem dX8_set_45 : decode cX8_set 45 = .ok (.ireturn, 1) := by decide +kernel
theorem dX8_undo_0 : decode cX8_undo 0 = .ok (.aload_n 0, 1) := by decide +kernel
theorem dX8_undo_1 : decode cX8_undo 1 = .ok (.aload_n 0, 1) := by decide +kernel
theorem dX8_undo_2 : decode cX8_undo 2 = .ok (.getfield 97, 3) := by decide +kernel
theorem dX8_undo_5 : decode cX8_undo 5 = .ok (.ifCond .ne 7, 3) := by decide +kernel
theorem dX8_undo_8 : decode cX8_undo 8 = .ok (.iconst 1, 1) := by decide +kernel
theorem dX8_undo_9 : decode cX8_undo 9 = .ok (.goto 4, 3) := by decide +kernel
theorem dX8_undo_12 : decode cX8_undo 12 = .ok (.iconst 0, 1) := by decide +kernel
theorem dX8_undo_13 : decode cX8_undo 13 = .ok (.invokevirtual 105, 3) := by decide +kernel
theorem dX8_undo_16 : decode cX8_undo 16 = .ok (.ifCond .eq 5, 3) := by decide +kernel
theorem dX8_undo_19 : decode cX8_undo 19 = .ok (.iconst 0, 1) := by decide +kernel
theorem dX8_undo_20 : decode cX8_undo 20 = .ok (.ireturn, 1) := by decide +kernel
theorem dX8_undo_21 : decode cX8_undo 21 = .ok (.aload_n 0, 1) := by decide +kernel
theorem dX8_undo_22 : decode cX8_undo 22 = .ok (.dup, 1) := by decide +kernel
theorem dX8_undo_23 : decode cX8_undo 23 = .ok (.getfield 97, 3) := by decide +kernel
theorem dX8_undo_26 : decode cX8_undo 26 = .ok (.iconst 1, 1) := by decide +kernel
theorem dX8_undo_27 : decode cX8_undo 27 = .ok (.isub, 1) := by decide +kernel
theorem dX8_undo_28 : decode cX8_undo 28 = .ok (.putfield 97, 3) := by decide +kernel
theorem dX8_undo_31 : decode cX8_undo 31 = .ok (.iconst 0, 1) := by decide +kernel
theorem dX8_undo_32 : decode cX8_undo 32 = .ok (.istore_n 1, 1) := by decide +kernel
theorem dX8_undo_33 : decode cX8_undo 33 = .ok (.iload_n 1, 1) := by decide +kernel
theorem dX8_undo_34 : decode cX8_undo 34 = .ok (.sipush 414, 3) := by decide +kernel
theorem dX8_undo_37 : decode cX8_undo 37 = .ok (.if_icmp .ge 30, 3) := by decide +kernel
theorem dX8_undo_40 : decode cX8_undo 40 = .ok (.aload_n 0, 1) := by decide +kernel
theorem dX8_undo_41 : decode cX8_undo 41 = .ok (.getfield 7, 3) := by decide +kernel
theorem dX8_undo_44 : decode cX8_undo 44 = .ok (.iload_n 1, 1) := by decide +kernel
theorem dX8_undo_45 : decode cX8_undo 45 = .ok (.aload_n 0, 1) := by decide +kernel
theorem dX8_undo_46 : decode cX8_undo 46 = .ok (.getfield 19, 3) := by decide +kernel
theorem dX8_undo_49 : decode cX8_undo 49 = .ok (.sipush 414, 3) := by decide +kernel
theorem dX8_undo_52 : decode cX8_undo 52 = .ok (.aload_n 0, 1) := by decide +kernel
theorem dX8_undo_53 : decode cX8_undo 53 = .ok (.getfield 97, 3) := by decide +kernel
theorem dX8_undo_56 : decode cX8_undo 56 = .ok (.imul, 1) := by decide +kernel
theorem dX8_undo_57 : decode cX8_undo 57 = .ok (.iload_n 1, 1) := by decide +kernel
theorem dX8_undo_58 : decode cX8_undo 58 = .ok (.iadd, 1) := by decide +kernel
theorem dX8_undo_59 : decode cX8_undo 59 = .ok (.iaload, 1) := by decide +kernel
theorem dX8_undo_60 : decode cX8_undo 60 = .ok (.iastore, 1) := by decide +kernel
theorem dX8_undo_61 : decode cX8_undo 61 = .ok (.iinc 1 1, 3) := by decide +kernel
theorem dX8_undo_64 : decode cX8_undo 64 = .ok (.goto (-31), 3) := by decide +kernel
theorem dX8_undo_67 : decode cX8_undo 67 = .ok (.aload_n 0, 1) := by decide +kernel
theorem dX8_undo_68 : decode cX8_undo 68 = .ok (.getfield 97, 3) := by decide +kernel
theorem dX8_undo_71 : decode cX8_undo 71 = .ok (.ireturn, 1) := by decide +kernel
theorem dX8_first_0 : decode cX8_first 0 = .ok (.iconst (-1), 1) := by decide +kernel
theorem dX8_first_1 : decode cX8_first 1 = .ok (.istore_n 3, 1) := by decide +kernel
theorem dX8_first_2 : decode cX8_first 2 = .ok (.aload_n 0, 1) := by decide +kernel
theorem dX8_first_3 : decode cX8_first 3 = .ok (.iconst 1, 1) := by decide +kernel
theorem dX8_first_4 : decode cX8_first 4 = .ok (.iaload, 1) := by decide +kernel
theorem dX8_first_5 : decode cX8_first 5 = .ok (.iconst 1, 1) := by decide +kernel
theorem dX8_first_6 : decode cX8_first 6 = .ok (.isub, 1) := by decide +kernel
theorem dX8_first_7 : decode cX8_first 7 = .ok (.istore 4, 2) := by decide +kernel
theorem dX8_first_9 : decode cX8_first 9 = .ok (.iload 4, 2) := by decide +kernel
theorem dX8_first_11 : decode cX8_first 11 = .ok (.ifCond .lt 49, 3) := by decide +kernel
theorem dX8_first_14 : decode cX8_first 14 = .ok (.aload_n 0, 1) := by decide +kernel
theorem dX8_first_15 : decode cX8_first 15 = .ok (.sipush 198, 3) := by decide +kernel
theorem dX8_first_18 : decode cX8_first 18 = .ok (.iload 4, 2) := by decide +kernel
theorem dX8_first_20 : decode cX8_first 20 = .ok (.iadd, 1) := by decide +kernel
theorem dX8_first_21 : decode cX8_first 21 = .ok (.iaload, 1) := by decide +kernel
theorem dX8_first_22 : decode cX8_first 22 = .ok (.iload_n 1, 1) := by decide +kernel
theorem dX8_first_23 : decode cX8_first 23 = .ok (.if_icmp .ne 29, 3) := by decide +kernel
theorem dX8_first_26 : decode cX8_first 26 = .ok (.aload_n 0, 1) := by decide +kernel
theorem dX8_first_27 : decode cX8_first 27 = .ok (.sipush 150, 3) := by decide +kernel
theorem dX8_first_30 : decode cX8_first 30 = .ok (.iload 4, 2) := by decide +kernel
theorem dX8_first_32 : decode cX8_first 32 = .ok (.iadd, 1) := by decide +kernel
theorem dX8_first_33 : decode cX8_first 33 = .ok (.iaload, 1) := by decide +kernel
theorem dX8_first_34 : decode cX8_first 34 = .ok (.iload_n 2, 1) := by decide +kernel
theorem dX8_first_35 : decode cX8_first 35 = .ok (.if_icmp .ne 17, 3) := by decide +kernel
theorem dX8_first_38 : decode cX8_first 38 = .ok (.aload_n 0, 1) := by decide +kernel
theorem dX8_first_39 : decode cX8_first 39 = .ok (.iload 4, 2) := by decide +kernel
theorem dX8_first_41 : decode cX8_first 41 = .ok (.invokestatic 87, 3) := by decide +kernel
theorem dX8_first_44 : decode cX8_first 44 = .ok (.ifCond .eq 8, 3) := by decide +kernel
theorem dX8_first_47 : decode cX8_first 47 = .ok (.iload 4, 2) := by decide +kernel
theorem dX8_first_49 : decode cX8_first 49 = .ok (.goto 4, 3) := by decide +kernel
theorem dX8_first_52 : decode cX8_first 52 = .ok (.iload_n 3, 1) := by decide +kernel
theorem dX8_first_53 : decode cX8_first 53 = .ok (.istore_n 3, 1) := by decide +kernel
theorem dX8_first_54 : decode cX8_first 54 = .ok (.iinc 4 (-1), 3) := by decide +kernel
theorem dX8_first_57 : decode cX8_first 57 = .ok (.goto (-48), 3) := by decide +kernel
theorem dX8_first_60 : decode cX8_first 60 = .ok (.iload_n 3, 1) := by decide +kernel
theorem dX8_first_61 : decode cX8_first 61 = .ok (.ireturn, 1) := by decide +kernel
theorem dX8_truePrint_0 : decode cX8_truePrint 0 = .ok (.aload_n 0, 1) := by decide +kernel
theorem dX8_truePrint_1 : decode cX8_truePrint 1 = .ok (.iload_n 1, 1) := by decide +kernel
theorem dX8_truePrint_2 : decode cX8_truePrint 2 = .ok (.invokestatic 257, 3) := by decide +kernel
theorem dX8_truePrint_5 : decode cX8_truePrint 5 = .ok (.ifCond .eq 18, 3) := by decide +kernel
theorem dX8_truePrint_8 : decode cX8_truePrint 8 = .ok (.aload_n 0, 1) := by decide +kernel
theorem dX8_truePrint_9 : decode cX8_truePrint 9 = .ok (.getfield 7, 3) := by decide +kernel
theorem dX8_truePrint_12 : decode cX8_truePrint 12 = .ok (.iload_n 2, 1) := by decide +kernel
theorem dX8_truePrint_13 : decode cX8_truePrint 13 = .ok (.invokestatic 139, 3) := by decide +kernel
theorem dX8_truePrint_16 : decode cX8_truePrint 16 = .ok (.ifCond .eq 7, 3) := by decide +kernel
theorem dX8_truePrint_19 : decode cX8_truePrint 19 = .ok (.iconst 0, 1) := by decide +kernel
theorem dX8_truePrint_20 : decode cX8_truePrint 20 = .ok (.goto 4, 3) := by decide +kernel
theorem dX8_truePrint_23 : decode cX8_truePrint 23 = .ok (.iconst 1, 1) := by decide +kernel
theorem dX8_truePrint_24 : decode cX8_truePrint 24 = .ok (.invokevirtual 105, 3) := by decide +kernel
theorem dX8_truePrint_27 : decode cX8_truePrint 27 = .ok (.ifCond .eq 5, 3) := by decide +kernel
theorem dX8_truePrint_30 : decode cX8_truePrint 30 = .ok (.iconst 0, 1) := by decide +kernel
theorem dX8_truePrint_31 : decode cX8_truePrint 31 = .ok (.ireturn, 1) := by decide +kernel
theorem dX8_truePrint_32 : decode cX8_truePrint 32 = .ok (.aload_n 0, 1) := by decide +kernel
theorem dX8_truePrint_33 : decode cX8_truePrint 33 = .ok (.getfield 7, 3) := by decide +kernel
theorem dX8_truePrint_36 : decode cX8_truePrint 36 = .ok (.iload_n 1, 1) := by decide +kernel
theorem dX8_truePrint_37 : decode cX8_truePrint 37 = .ok (.iload_n 2, 1) := by decide +kernel
theorem dX8_truePrint_38 : decode cX8_truePrint 38 = .ok (.invokestatic 280, 3) := by decide +kernel
theorem dX8_truePrint_41 : decode cX8_truePrint 41 = .ok (.ireturn, 1) := by decide +kernel
theorem dX8_sitesLost_0 : decode cX8_sitesLost 0 = .ok (.iconst 0, 1) := by decide +kernel
theorem dX8_sitesLost_1 : decode cX8_sitesLost 1 = .ok (.istore_n 2, 1) := by decide +kernel
theorem dX8_sitesLost_2 : decode cX8_sitesLost 2 = .ok (.iconst 0, 1) := by decide +kernel
theorem dX8_sitesLost_3 : decode cX8_sitesLost 3 = .ok (.istore_n 3, 1) := by decide +kernel
theorem dX8_sitesLost_4 : decode cX8_sitesLost 4 = .ok (.iload_n 3, 1) := by decide +kernel
theorem dX8_sitesLost_5 : decode cX8_sitesLost 5 = .ok (.iconst 4, 1) := by decide +kernel
theorem dX8_sitesLost_6 : decode cX8_sitesLost 6 = .ok (.if_icmp .ge 43, 3) := by decide +kernel
theorem dX8_sitesLost_9 : decode cX8_sitesLost 9 = .ok (.iload_n 2, 1) := by decide +kernel
theorem dX8_sitesLost_10 : decode cX8_sitesLost 10 = .ok (.aload_n 0, 1) := by decide +kernel
theorem dX8_sitesLost_11 : decode cX8_sitesLost 11 = .ok (.getfield 7, 3) := by decide +kernel
theorem dX8_sitesLost_14 : decode cX8_sitesLost 14 = .ok (.iload_n 3, 1) := by decide +kernel
theorem dX8_sitesLost_15 : decode cX8_sitesLost 15 = .ok (.iload_n 1, 1) := by decide +kernel
theorem dX8_sitesLost_16 : decode cX8_sitesLost 16 = .ok (.invokestatic 280, 3) := by decide +kernel
theorem dX8_sitesLost_19 : decode cX8_sitesLost 19 = .ok (.iconst (-1), 1) := by decide +kernel
theorem dX8_sitesLost_20 : decode cX8_sitesLost 20 = .ok (.if_icmp .eq 20, 3) := by decide +kernel
theorem dX8_sitesLost_23 : decode cX8_sitesLost 23 = .ok (.aload_n 0, 1) := by decide +kernel
theorem dX8_sitesLost_24 : decode cX8_sitesLost 24 = .ok (.getfield 13, 3) := by decide +kernel
theorem dX8_sitesLost_27 : decode cX8_sitesLost 27 = .ok (.iload_n 3, 1) := by decide +kernel
theorem dX8_sitesLost_28 : decode cX8_sitesLost 28 = .ok (.iload_n 1, 1) := by decide +kernel
theorem dX8_sitesLost_29 : decode cX8_sitesLost 29 = .ok (.invokestatic 280, 3) := by decide +kernel
theorem dX8_sitesLost_32 : decode cX8_sitesLost 32 = .ok (.iconst (-1), 1) := by decide +kernel
theorem dX8_sitesLost_33 : decode cX8_sitesLost 33 = .ok (.if_icmp .ne 7, 3) := by decide +kernel
theorem dX8_sitesLost_36 : decode cX8_sitesLost 36 = .ok (.iconst 1, 1) := by decide +kernel
theorem dX8_sitesLost_37 : decode cX8_sitesLost 37 = .ok (.goto 4, 3) := by decide +kernel
theorem dX8_sitesLost_40 : decode cX8_sitesLost 40 = .ok (.iconst 0, 1) := by decide +kernel
theorem dX8_sitesLost_41 : decode cX8_sitesLost 41 = .ok (.iadd, 1) := by decide +kernel
theorem dX8_sitesLost_42 : decode cX8_sitesLost 42 = .ok (.istore_n 2, 1) := by decide +kernel
theorem dX8_sitesLost_43 : decode cX8_sitesLost 43 = .ok (.iinc 3 1, 3) := by decide +kernel
theorem dX8_sitesLost_46 : decode cX8_sitesLost 46 = .ok (.goto (-42), 3) := by decide +kernel
theorem dX8_sitesLost_49 : decode cX8_sitesLost 49 = .ok (.iload_n 2, 1) := by decide +kernel
theorem dX8_sitesLost_50 : decode cX8_sitesLost 50 = .ok (.ireturn, 1) := by decide +kernel
theorem dX8_ifRevised_0 : decode cX8_ifRevised 0 = .ok (.aload_n 0, 1) := by decide +kernel
theorem dX8_ifRevised_1 : decode cX8_ifRevised 1 = .ok (.aload_n 0, 1) := by decide +kernel
theorem dX8_ifRevised_2 : decode cX8_ifRevised 2 = .ok (.getfield 7, 3) := by decide +kernel
theorem dX8_ifRevised_5 : decode cX8_ifRevised 5 = .ok (.iload_n 1, 1) := by decide +kernel
theorem dX8_ifRevised_6 : decode cX8_ifRevised 6 = .ok (.invokestatic 139, 3) := by decide +kernel
theorem dX8_ifRevised_9 : decode cX8_ifRevised 9 = .ok (.ifCond .ne 7, 3) := by decide +kernel
theorem dX8_ifRevised_12 : decode cX8_ifRevised 12 = .ok (.iconst 1, 1) := by decide +kernel
theorem dX8_ifRevised_13 : decode cX8_ifRevised 13 = .ok (.goto 42, 3) := by decide +kernel
theorem dX8_ifRevised_16 : decode cX8_ifRevised 16 = .ok (.iload_n 2, 1) := by decide +kernel
theorem dX8_ifRevised_17 : decode cX8_ifRevised 17 = .ok (.invokestatic 251, 3) := by decide +kernel
theorem dX8_ifRevised_20 : decode cX8_ifRevised 20 = .ok (.ifCond .eq 15, 3) := by decide +kernel
theorem dX8_ifRevised_23 : decode cX8_ifRevised 23 = .ok (.iload_n 3, 1) := by decide +kernel
theorem dX8_ifRevised_24 : decode cX8_ifRevised 24 = .ok (.i2l, 1) := by decide +kernel
theorem dX8_ifRevised_25 : decode cX8_ifRevised 25 = .ok (.lconst 0, 1) := by decide +kernel
theorem dX8_ifRevised_26 : decode cX8_ifRevised 26 = .ok (.ldc2_w 48, 3) := by decide +kernel
theorem dX8_ifRevised_29 : decode cX8_ifRevised 29 = .ok (.invokestatic 42, 3) := by decide +kernel
theorem dX8_ifRevised_32 : decode cX8_ifRevised 32 = .ok (.ifCond .ne 7, 3) := by decide +kernel
theorem dX8_ifRevised_35 : decode cX8_ifRevised 35 = .ok (.iconst 2, 1) := by decide +kernel
theorem dX8_ifRevised_36 : decode cX8_ifRevised 36 = .ok (.goto 19, 3) := by decide +kernel
theorem dX8_ifRevised_39 : decode cX8_ifRevised 39 = .ok (.aload_n 0, 1) := by decide +kernel
theorem dX8_ifRevised_40 : decode cX8_ifRevised 40 = .ok (.getfield 7, 3) := by decide +kernel
theorem dX8_ifRevised_43 : decode cX8_ifRevised 43 = .ok (.iload_n 1, 1) := by decide +kernel
theorem dX8_ifRevised_44 : decode cX8_ifRevised 44 = .ok (.invokestatic 162, 3) := by decide +kernel
theorem dX8_ifRevised_47 : decode cX8_ifRevised 47 = .ok (.ifCond .ne 7, 3) := by decide +kernel
theorem dX8_ifRevised_50 : decode cX8_ifRevised 50 = .ok (.iconst 3, 1) := by decide +kernel
theorem dX8_ifRevised_51 : decode cX8_ifRevised 51 = .ok (.goto 4, 3) := by decide +kernel
theorem dX8_ifRevised_54 : decode cX8_ifRevised 54 = .ok (.iconst 0, 1) := by decide +kernel
theorem dX8_ifRevised_55 : decode cX8_ifRevised 55 = .ok (.invokevirtual 105, 3) := by decide +kernel
theorem dX8_ifRevised_58 : decode cX8_ifRevised 58 = .ok (.ifCond .eq 5, 3) := by decide +kernel
theorem dX8_ifRevised_61 : decode cX8_ifRevised 61 = .ok (.iconst 0, 1) := by decide +kernel
theorem dX8_ifRevised_62 : decode cX8_ifRevised 62 = .ok (.ireturn, 1) := by decide +kernel
theorem dX8_ifRevised_63 : decode cX8_ifRevised 63 = .ok (.aload_n 0, 1) := by decide +kernel
theorem dX8_ifRevised_64 : decode cX8_ifRevised 64 = .ok (.getfield 7, 3) := by decide +kernel
theorem dX8_ifRevised_67 : decode cX8_ifRevised 67 = .ok (.aload_n 0, 1) := by decide +kernel
theorem dX8_ifRevised_68 : decode cX8_ifRevised 68 = .ok (.getfield 13, 3) := by decide +kernel
theorem dX8_ifRevised_71 : decode cX8_ifRevised 71 = .ok (.invokestatic 208, 3) := by decide +kernel
theorem dX8_ifRevised_74 : decode cX8_ifRevised 74 = .ok (.aload_n 0, 1) := by decide +kernel
theorem dX8_ifRevised_75 : decode cX8_ifRevised 75 = .ok (.getfield 13, 3) := by decide +kernel
theorem dX8_ifRevised_78 : decode cX8_ifRevised 78 = .ok (.iload_n 1, 1) := by decide +kernel
theorem dX8_ifRevised_79 : decode cX8_ifRevised 79 = .ok (.iload_n 2, 1) := by decide +kernel
theorem dX8_ifRevised_80 : decode cX8_ifRevised 80 = .ok (.invokestatic 165, 3) := by decide +kernel
theorem dX8_ifRevised_83 : decode cX8_ifRevised 83 = .ok (.istore 4, 2) := by decide +kernel
theorem dX8_ifRevised_85 : decode cX8_ifRevised 85 = .ok (.iload_n 3, 1) := by decide +kernel
theorem dX8_ifRevised_86 : decode cX8_ifRevised 86 = .ok (.tableswitch 66 0 2 #[26, 29, 45], 26) := by decide +kernel
theorem dX8_ifRevised_112 : decode cX8_ifRevised 112 = .ok (.iload 4, 2) := by decide +kernel
theorem dX8_ifRevised_114 : decode cX8_ifRevised 114 = .ok (.ireturn, 1) := by decide +kernel
theorem dX8_ifRevised_115 : decode cX8_ifRevised 115 = .ok (.aload_n 0, 1) := by decide +kernel
theorem dX8_ifRevised_116 : decode cX8_ifRevised 116 = .ok (.getfield 13, 3) := by decide +kernel
theorem dX8_ifRevised_119 : decode cX8_ifRevised 119 = .ok (.invokestatic 90, 3) := by decide +kernel
theorem dX8_ifRevised_122 : decode cX8_ifRevised 122 = .ok (.aload_n 0, 1) := by decide +kernel
theorem dX8_ifRevised_123 : decode cX8_ifRevised 123 = .ok (.getfield 7, 3) := by decide +kernel
theorem dX8_ifRevised_126 : decode cX8_ifRevised 126 = .ok (.invokestatic 90, 3) := by decide +kernel
theorem dX8_ifRevised_129 : decode cX8_ifRevised 129 = .ok (.isub, 1) := by decide +kernel
theorem dX8_ifRevised_130 : decode cX8_ifRevised 130 = .ok (.ireturn, 1) := by decide +kernel
theorem dX8_ifRevised_131 : decode cX8_ifRevised 131 = .ok (.aload_n 0, 1) := by decide +kernel
theorem dX8_ifRevised_132 : decode cX8_ifRevised 132 = .ok (.getfield 13, 3) := by decide +kernel
theorem dX8_ifRevised_135 : decode cX8_ifRevised 135 = .ok (.bipush 8, 2) := by decide +kernel
theorem dX8_ifRevised_137 : decode cX8_ifRevised 137 = .ok (.iaload, 1) := by decide +kernel
theorem dX8_ifRevised_138 : decode cX8_ifRevised 138 = .ok (.aload_n 0, 1) := by decide +kernel
theorem dX8_ifRevised_139 : decode cX8_ifRevised 139 = .ok (.getfield 7, 3) := by decide +kernel
theorem dX8_ifRevised_142 : decode cX8_ifRevised 142 = .ok (.bipush 8, 2) := by decide +kernel
theorem dX8_ifRevised_144 : decode cX8_ifRevised 144 = .ok (.iaload, 1) := by decide +kernel
theorem dX8_ifRevised_145 : decode cX8_ifRevised 145 = .ok (.iconst (-1), 1) := by decide +kernel
theorem dX8_ifRevised_146 : decode cX8_ifRevised 146 = .ok (.ixor, 1) := by decide +kernel
theorem dX8_ifRevised_147 : decode cX8_ifRevised 147 = .ok (.iand, 1) := by decide +kernel
theorem dX8_ifRevised_148 : decode cX8_ifRevised 148 = .ok (.invokestatic 77, 3) := by decide +kernel
theorem dX8_ifRevised_151 : decode cX8_ifRevised 151 = .ok (.ireturn, 1) := by decide +kernel
theorem dX8_ifRevised_152 : decode cX8_ifRevised 152 = .ok (.aload_n 0, 1) := by decide +kernel
theorem dX8_ifRevised_153 : decode cX8_ifRevised 153 = .ok (.iload_n 1, 1) := by decide +kernel
theorem dX8_ifRevised_154 : decode cX8_ifRevised 154 = .ok (.invokevirtual 283, 3) := by decide +kernel
theorem dX8_ifRevised_157 : decode cX8_ifRevised 157 = .ok (.ireturn, 1) := by decide +kernel
theorem dX8_coming_0 : decode cX8_coming 0 = .ok (.aload_n 0, 1) := by decide +kernel
theorem dX8_coming_1 : decode cX8_coming 1 = .ok (.iload_n 1, 1) := by decide +kernel
theorem dX8_coming_2 : decode cX8_coming 2 = .ok (.i2l, 1) := by decide +kernel
theorem dX8_coming_3 : decode cX8_coming 3 = .ok (.lconst 1, 1) := by decide +kernel
theorem dX8_coming_4 : decode cX8_coming 4 = .ok (.ldc2_w 275, 3) := by decide +kernel
theorem dX8_coming_7 : decode cX8_coming 7 = .ok (.invokestatic 42, 3) := by decide +kernel
theorem dX8_coming_10 : decode cX8_coming 10 = .ok (.ifCond .eq 7, 3) := by decide +kernel
theorem dX8_coming_13 : decode cX8_coming 13 = .ok (.iconst 0, 1) := by decide +kernel
theorem dX8_coming_14 : decode cX8_coming 14 = .ok (.goto 4, 3) := by decide +kernel
theorem dX8_coming_17 : decode cX8_coming 17 = .ok (.iconst 1, 1) := by decide +kernel
theorem dX8_coming_18 : decode cX8_coming 18 = .ok (.invokevirtual 105, 3) := by decide +kernel
theorem dX8_coming_21 : decode cX8_coming 21 = .ok (.ifCond .eq 5, 3) := by decide +kernel
theorem dX8_coming_24 : decode cX8_coming 24 = .ok (.iconst 0, 1) := by decide +kernel
theorem dX8_coming_25 : decode cX8_coming 25 = .ok (.ireturn, 1) := by decide +kernel
theorem dX8_coming_26 : decode cX8_coming 26 = .ok (.aload_n 0, 1) := by decide +kernel
theorem dX8_coming_27 : decode cX8_coming 27 = .ok (.getfield 7, 3) := by decide +kernel
theorem dX8_coming_30 : decode cX8_coming 30 = .ok (.aload_n 0, 1) := by decide +kernel
theorem dX8_coming_31 : decode cX8_coming 31 = .ok (.getfield 13, 3) := by decide +kernel
theorem dX8_coming_34 : decode cX8_coming 34 = .ok (.invokestatic 208, 3) := by decide +kernel
theorem dX8_coming_37 : decode cX8_coming 37 = .ok (.aload_n 0, 1) := by decide +kernel
theorem dX8_coming_38 : decode cX8_coming 38 = .ok (.getfield 13, 3) := by decide +kernel
theorem dX8_coming_41 : decode cX8_coming 41 = .ok (.iload_n 1, 1) := by decide +kernel
theorem dX8_coming_42 : decode cX8_coming 42 = .ok (.invokestatic 169, 3) := by decide +kernel
theorem dX8_coming_45 : decode cX8_coming 45 = .ok (.ireturn, 1) := by decide +kernel
theorem dX8_ahead_0 : decode cX8_ahead 0 = .ok (.iconst 0, 1) := by decide +kernel
theorem dX8_ahead_1 : decode cX8_ahead 1 = .ok (.istore_n 2, 1) := by decide +kernel
theorem dX8_ahead_2 : decode cX8_ahead 2 = .ok (.iconst 0, 1) := by decide +kernel
theorem dX8_ahead_3 : decode cX8_ahead 3 = .ok (.istore_n 3, 1) := by decide +kernel
theorem dX8_ahead_4 : decode cX8_ahead 4 = .ok (.iload_n 3, 1) := by decide +kernel
theorem dX8_ahead_5 : decode cX8_ahead 5 = .ok (.aload_n 0, 1) := by decide +kernel
theorem dX8_ahead_6 : decode cX8_ahead 6 = .ok (.getfield 7, 3) := by decide +kernel
theorem dX8_ahead_9 : decode cX8_ahead 9 = .ok (.iconst 1, 1) := by decide +kernel
theorem dX8_ahead_10 : decode cX8_ahead 10 = .ok (.iaload, 1) := by decide +kernel
theorem dX8_ahead_11 : decode cX8_ahead 11 = .ok (.if_icmp .ge 102, 3) := by decide +kernel
theorem dX8_ahead_14 : decode cX8_ahead 14 = .ok (.aload_n 0, 1) := by decide +kernel
theorem dX8_ahead_15 : decode cX8_ahead 15 = .ok (.getfield 7, 3) := by decide +kernel
theorem dX8_ahead_18 : decode cX8_ahead 18 = .ok (.iload_n 3, 1) := by decide +kernel
theorem dX8_ahead_19 : decode cX8_ahead 19 = .ok (.invokestatic 70, 3) := by decide +kernel
theorem dX8_ahead_22 : decode cX8_ahead 22 = .ok (.ifCond .eq 18, 3) := by decide +kernel
theorem dX8_ahead_25 : decode cX8_ahead 25 = .ok (.aload_n 0, 1) := by decide +kernel
theorem dX8_ahead_26 : decode cX8_ahead 26 = .ok (.getfield 7, 3) := by decide +kernel
theorem dX8_ahead_29 : decode cX8_ahead 29 = .ok (.iload_n 3, 1) := by decide +kernel
theorem dX8_ahead_30 : decode cX8_ahead 30 = .ok (.invokestatic 74, 3) := by decide +kernel
theorem dX8_ahead_33 : decode cX8_ahead 33 = .ok (.ifCond .eq 7, 3) := by decide +kernel
theorem dX8_ahead_36 : decode cX8_ahead 36 = .ok (.iconst 1, 1) := by decide +kernel
theorem dX8_ahead_37 : decode cX8_ahead 37 = .ok (.goto 4, 3) := by decide +kernel
theorem dX8_ahead_40 : decode cX8_ahead 40 = .ok (.iconst 0, 1) := by decide +kernel
theorem dX8_ahead_41 : decode cX8_ahead 41 = .ok (.istore 4, 2) := by decide +kernel
theorem dX8_ahead_43 : decode cX8_ahead 43 = .ok (.iload_n 2, 1) := by decide +kernel
theorem dX8_ahead_44 : decode cX8_ahead 44 = .ok (.iload 4, 2) := by decide +kernel
theorem dX8_ahead_46 : decode cX8_ahead 46 = .ok (.ifCond .eq 58, 3) := by decide +kernel
theorem dX8_ahead_49 : decode cX8_ahead 49 = .ok (.aload_n 0, 1) := by decide +kernel
theorem dX8_ahead_50 : decode cX8_ahead 50 = .ok (.getfield 7, 3) := by decide +kernel
theorem dX8_ahead_53 : decode cX8_ahead 53 = .ok (.sipush 270, 3) := by decide +kernel
theorem dX8_ahead_56 : decode cX8_ahead 56 = .ok (.iload_n 3, 1) := by decide +kernel
theorem dX8_ahead_57 : decode cX8_ahead 57 = .ok (.iadd, 1) := by decide +kernel
theorem dX8_ahead_58 : decode cX8_ahead 58 = .ok (.iaload, 1) := by decide +kernel
theorem dX8_ahead_59 : decode cX8_ahead 59 = .ok (.aload_n 0, 1) := by decide +kernel
theorem dX8_ahead_60 : decode cX8_ahead 60 = .ok (.getfield 7, 3) := by decide +kernel
theorem dX8_ahead_63 : decode cX8_ahead 63 = .ok (.sipush 270, 3) := by decide +kernel
theorem dX8_ahead_66 : decode cX8_ahead 66 = .ok (.iload_n 1, 1) := by decide +kernel
theorem dX8_ahead_67 : decode cX8_ahead 67 = .ok (.iadd, 1) := by decide +kernel
theorem dX8_ahead_68 : decode cX8_ahead 68 = .ok (.iaload, 1) := by decide +kernel
theorem dX8_ahead_69 : decode cX8_ahead 69 = .ok (.if_icmp .lt 31, 3) := by decide +kernel
theorem dX8_ahead_72 : decode cX8_ahead 72 = .ok (.aload_n 0, 1) := by decide +kernel
theorem dX8_ahead_73 : decode cX8_ahead 73 = .ok (.getfield 7, 3) := by decide +kernel
theorem dX8_ahead_76 : decode cX8_ahead 76 = .ok (.sipush 270, 3) := by decide +kernel
theorem dX8_ahead_79 : decode cX8_ahead 79 = .ok (.iload_n 3, 1) := by decide +kernel
theorem dX8_ahead_80 : decode cX8_ahead 80 = .ok (.iadd, 1) := by decide +kernel
theorem dX8_ahead_81 : decode cX8_ahead 81 = .ok (.iaload, 1) := by decide +kernel
theorem dX8_ahead_82 : decode cX8_ahead 82 = .ok (.aload_n 0, 1) := by decide +kernel
theorem dX8_ahead_83 : decode cX8_ahead 83 = .ok (.getfield 7, 3) := by decide +kernel
theorem dX8_ahead_86 : decode cX8_ahead 86 = .ok (.sipush 270, 3) := by decide +kernel
theorem dX8_ahead_89 : decode cX8_ahead 89 = .ok (.iload_n 1, 1) := by decide +kernel
theorem dX8_ahead_90 : decode cX8_ahead 90 = .ok (.iadd, 1) := by decide +kernel
theorem dX8_ahead_91 : decode cX8_ahead 91 = .ok (.iaload, 1) := by decide +kernel
theorem dX8_ahead_92 : decode cX8_ahead 92 = .ok (.if_icmp .ne 12, 3) := by decide +kernel
theorem dX8_ahead_95 : decode cX8_ahead 95 = .ok (.iload_n 3, 1) := by decide +kernel
theorem dX8_ahead_96 : decode cX8_ahead 96 = .ok (.iload_n 1, 1) := by decide +kernel
theorem dX8_ahead_97 : decode cX8_ahead 97 = .ok (.if_icmp .ge 7, 3) := by decide +kernel
theorem dX8_ahead_100 : decode cX8_ahead 100 = .ok (.iconst 1, 1) := by decide +kernel
theorem dX8_ahead_101 : decode cX8_ahead 101 = .ok (.goto 4, 3) := by decide +kernel
theorem dX8_ahead_104 : decode cX8_ahead 104 = .ok (.iconst 0, 1) := by decide +kernel
theorem dX8_ahead_105 : decode cX8_ahead 105 = .ok (.iadd, 1) := by decide +kernel
theorem dX8_ahead_106 : decode cX8_ahead 106 = .ok (.istore_n 2, 1) := by decide +kernel
theorem dX8_ahead_107 : decode cX8_ahead 107 = .ok (.iinc 3 1, 3) := by decide +kernel
theorem dX8_ahead_110 : decode cX8_ahead 110 = .ok (.goto (-106), 3) := by decide +kernel
theorem dX8_ahead_113 : decode cX8_ahead 113 = .ok (.iload_n 2, 1) := by decide +kernel
theorem dX8_ahead_114 : decode cX8_ahead 114 = .ok (.ireturn, 1) := by decide +kernel
theorem dX8_fetch_0 : decode cX8_fetch 0 = .ok (.aload_n 0, 1) := by decide +kernel
theorem dX8_fetch_1 : decode cX8_fetch 1 = .ok (.iload_n 1, 1) := by decide +kernel
theorem dX8_fetch_2 : decode cX8_fetch 2 = .ok (.ifCond .ge 7, 3) := by decide +kernel
theorem dX8_fetch_5 : decode cX8_fetch 5 = .ok (.iconst 1, 1) := by decide +kernel
theorem dX8_fetch_6 : decode cX8_fetch 6 = .ok (.goto 4, 3) := by decide +kernel
theorem dX8_fetch_9 : decode cX8_fetch 9 = .ok (.iconst 0, 1) := by decide +kernel
theorem dX8_fetch_10 : decode cX8_fetch 10 = .ok (.invokevirtual 105, 3) := by decide +kernel
theorem dX8_fetch_13 : decode cX8_fetch 13 = .ok (.ifCond .eq 5, 3) := by decide +kernel
theorem dX8_fetch_16 : decode cX8_fetch 16 = .ok (.iconst 0, 1) := by decide +kernel
theorem dX8_fetch_17 : decode cX8_fetch 17 = .ok (.ireturn, 1) := by decide +kernel
theorem dX8_fetch_18 : decode cX8_fetch 18 = .ok (.iconst (-1), 1) := by decide +kernel
theorem dX8_fetch_19 : decode cX8_fetch 19 = .ok (.istore_n 2, 1) := by decide +kernel
theorem dX8_fetch_20 : decode cX8_fetch 20 = .ok (.iconst 0, 1) := by decide +kernel
theorem dX8_fetch_21 : decode cX8_fetch 21 = .ok (.istore_n 3, 1) := by decide +kernel
theorem dX8_fetch_22 : decode cX8_fetch 22 = .ok (.iload_n 3, 1) := by decide +kernel
theorem dX8_fetch_23 : decode cX8_fetch 23 = .ok (.aload_n 0, 1) := by decide +kernel
theorem dX8_fetch_24 : decode cX8_fetch 24 = .ok (.getfield 7, 3) := by decide +kernel
theorem dX8_fetch_27 : decode cX8_fetch 27 = .ok (.iconst 1, 1) := by decide +kernel
theorem dX8_fetch_28 : decode cX8_fetch 28 = .ok (.iaload, 1) := by decide +kernel
theorem dX8_fetch_29 : decode cX8_fetch 29 = .ok (.if_icmp .ge 46, 3) := by decide +kernel
theorem dX8_fetch_32 : decode cX8_fetch 32 = .ok (.aload_n 0, 1) := by decide +kernel
theorem dX8_fetch_33 : decode cX8_fetch 33 = .ok (.getfield 7, 3) := by decide +kernel
theorem dX8_fetch_36 : decode cX8_fetch 36 = .ok (.iload_n 3, 1) := by decide +kernel
theorem dX8_fetch_37 : decode cX8_fetch 37 = .ok (.invokestatic 70, 3) := by decide +kernel
theorem dX8_fetch_40 : decode cX8_fetch 40 = .ok (.ifCond .eq 27, 3) := by decide +kernel
theorem dX8_fetch_43 : decode cX8_fetch 43 = .ok (.aload_n 0, 1) := by decide +kernel
theorem dX8_fetch_44 : decode cX8_fetch 44 = .ok (.getfield 7, 3) := by decide +kernel
theorem dX8_fetch_47 : decode cX8_fetch 47 = .ok (.iload_n 3, 1) := by decide +kernel
theorem dX8_fetch_48 : decode cX8_fetch 48 = .ok (.invokestatic 74, 3) := by decide +kernel
theorem dX8_fetch_51 : decode cX8_fetch 51 = .ok (.ifCond .eq 16, 3) := by decide +kernel
theorem dX8_fetch_54 : decode cX8_fetch 54 = .ok (.aload_n 0, 1) := by decide +kernel
theorem dX8_fetch_55 : decode cX8_fetch 55 = .ok (.iload_n 3, 1) := by decide +kernel
theorem dX8_fetch_56 : decode cX8_fetch 56 = .ok (.invokevirtual 286, 3) := by decide +kernel
theorem dX8_fetch_59 : decode cX8_fetch 59 = .ok (.iload_n 1, 1) := by decide +kernel
theorem dX8_fetch_60 : decode cX8_fetch 60 = .ok (.if_icmp .ne 7, 3) := by decide +kernel
theorem dX8_fetch_63 : decode cX8_fetch 63 = .ok (.iload_n 3, 1) := by decide +kernel
theorem dX8_fetch_64 : decode cX8_fetch 64 = .ok (.goto 4, 3) := by decide +kernel
theorem dX8_fetch_67 : decode cX8_fetch 67 = .ok (.iload_n 2, 1) := by decide +kernel
theorem dX8_fetch_68 : decode cX8_fetch 68 = .ok (.istore_n 2, 1) := by decide +kernel
theorem dX8_fetch_69 : decode cX8_fetch 69 = .ok (.iinc 3 1, 3) := by decide +kernel
theorem dX8_fetch_72 : decode cX8_fetch 72 = .ok (.goto (-50), 3) := by decide +kernel
theorem dX8_fetch_75 : decode cX8_fetch 75 = .ok (.iload_n 2, 1) := by decide +kernel
theorem dX8_fetch_76 : decode cX8_fetch 76 = .ok (.ireturn, 1) := by decide +kernel
theorem dX8_badness_0 : decode cX8_badness 0 = .ok (.iconst 0, 1) := by decide +kernel
theorem dX8_badness_1 : decode cX8_badness 1 = .ok (.istore_n 2, 1) := by decide +kernel
theorem dX8_badness_2 : decode cX8_badness 2 = .ok (.iconst 0, 1) := by decide +kernel
theorem dX8_badness_3 : decode cX8_badness 3 = .ok (.istore_n 3, 1) := by decide +kernel
theorem dX8_badness_4 : decode cX8_badness 4 = .ok (.iload_n 3, 1) := by decide +kernel
theorem dX8_badness_5 : decode cX8_badness 5 = .ok (.aload_n 0, 1) := by decide +kernel
theorem dX8_badness_6 : decode cX8_badness 6 = .ok (.getfield 7, 3) := by decide +kernel
theorem dX8_badness_9 : decode cX8_badness 9 = .ok (.iconst 1, 1) := by decide +kernel
theorem dX8_badness_10 : decode cX8_badness 10 = .ok (.iaload, 1) := by decide +kernel
theorem dX8_badness_11 : decode cX8_badness 11 = .ok (.if_icmp .ge 49, 3) := by decide +kernel
theorem dX8_badness_14 : decode cX8_badness 14 = .ok (.iload_n 2, 1) := by decide +kernel
theorem dX8_badness_15 : decode cX8_badness 15 = .ok (.aload_n 0, 1) := by decide +kernel
theorem dX8_badness_16 : decode cX8_badness 16 = .ok (.getfield 7, 3) := by decide +kernel
theorem dX8_badness_19 : decode cX8_badness 19 = .ok (.sipush 198, 3) := by decide +kernel
theorem dX8_badness_22 : decode cX8_badness 22 = .ok (.iload_n 3, 1) := by decide +kernel
theorem dX8_badness_23 : decode cX8_badness 23 = .ok (.iadd, 1) := by decide +kernel
theorem dX8_badness_24 : decode cX8_badness 24 = .ok (.iaload, 1) := by decide +kernel
theorem dX8_badness_25 : decode cX8_badness 25 = .ok (.iload_n 1, 1) := by decide +kernel
theorem dX8_badness_26 : decode cX8_badness 26 = .ok (.if_icmp .ne 25, 3) := by decide +kernel
theorem dX8_badness_29 : decode cX8_badness 29 = .ok (.aload_n 0, 1) := by decide +kernel
theorem dX8_badness_30 : decode cX8_badness 30 = .ok (.getfield 7, 3) := by decide +kernel
theorem dX8_badness_33 : decode cX8_badness 33 = .ok (.iload_n 3, 1) := by decide +kernel
theorem dX8_badness_34 : decode cX8_badness 34 = .ok (.aload_n 0, 1) := by decide +kernel
theorem dX8_badness_35 : decode cX8_badness 35 = .ok (.getfield 7, 3) := by decide +kernel
theorem dX8_badness_38 : decode cX8_badness 38 = .ok (.iconst 3, 1) := by decide +kernel
theorem dX8_badness_39 : decode cX8_badness 39 = .ok (.iaload, 1) := by decide +kernel
theorem dX8_badness_40 : decode cX8_badness 40 = .ok (.invokestatic 84, 3) := by decide +kernel
theorem dX8_badness_43 : decode cX8_badness 43 = .ok (.ifCond .eq 8, 3) := by decide +kernel
theorem dX8_badness_46 : decode cX8_badness 46 = .ok (.bipush 100, 2) := by decide +kernel
theorem dX8_badness_48 : decode cX8_badness 48 = .ok (.goto 4, 3) := by decide +kernel
theorem dX8_badness_51 : decode cX8_badness 51 = .ok (.iconst 0, 1) := by decide +kernel
theorem dX8_badness_52 : decode cX8_badness 52 = .ok (.iadd, 1) := by decide +kernel
theorem dX8_badness_53 : decode cX8_badness 53 = .ok (.istore_n 2, 1) := by decide +kernel
theorem dX8_badness_54 : decode cX8_badness 54 = .ok (.iinc 3 1, 3) := by decide +kernel
theorem dX8_badness_57 : decode cX8_badness 57 = .ok (.goto (-53), 3) := by decide +kernel
theorem dX8_badness_60 : decode cX8_badness 60 = .ok (.iconst 0, 1) := by decide +kernel
theorem dX8_badness_61 : decode cX8_badness 61 = .ok (.istore_n 3, 1) := by decide +kernel
theorem dX8_badness_62 : decode cX8_badness 62 = .ok (.iload_n 3, 1) := by decide +kernel
theorem dX8_badness_63 : decode cX8_badness 63 = .ok (.aload_n 0, 1) := by decide +kernel
theorem dX8_badness_64 : decode cX8_badness 64 = .ok (.getfield 7, 3) := by decide +kernel
theorem dX8_badness_67 : decode cX8_badness 67 = .ok (.iconst 2, 1) := by decide +kernel
theorem dX8_badness_68 : decode cX8_badness 68 = .ok (.iaload, 1) := by decide +kernel
theorem dX8_badness_69 : decode cX8_badness 69 = .ok (.if_icmp .ge 42, 3) := by decide +kernel
theorem dX8_badness_72 : decode cX8_badness 72 = .ok (.iload_n 2, 1) := by decide +kernel
theorem dX8_badness_73 : decode cX8_badness 73 = .ok (.aload_n 0, 1) := by decide +kernel
theorem dX8_badness_74 : decode cX8_badness 74 = .ok (.getfield 7, 3) := by decide +kernel
theorem dX8_badness_77 : decode cX8_badness 77 = .ok (.sipush 294, 3) := by decide +kernel
theorem dX8_badness_80 : decode cX8_badness 80 = .ok (.iload_n 3, 1) := by decide +kernel
theorem dX8_badness_81 : decode cX8_badness 81 = .ok (.iadd, 1) := by decide +kernel
theorem dX8_badness_82 : decode cX8_badness 82 = .ok (.iaload, 1) := by decide +kernel
theorem dX8_badness_83 : decode cX8_badness 83 = .ok (.iload_n 1, 1) := by decide +kernel
theorem dX8_badness_84 : decode cX8_badness 84 = .ok (.if_icmp .ne 18, 3) := by decide +kernel
theorem dX8_badness_87 : decode cX8_badness 87 = .ok (.aload_n 0, 1) := by decide +kernel
theorem dX8_badness_88 : decode cX8_badness 88 = .ok (.getfield 7, 3) := by decide +kernel
theorem dX8_badness_91 : decode cX8_badness 91 = .ok (.iload_n 3, 1) := by decide +kernel
theorem dX8_badness_92 : decode cX8_badness 92 = .ok (.invokestatic 81, 3) := by decide +kernel
theorem dX8_badness_95 : decode cX8_badness 95 = .ok (.ifCond .eq 7, 3) := by decide +kernel
theorem dX8_badness_98 : decode cX8_badness 98 = .ok (.iconst 1, 1) := by decide +kernel
theorem dX8_badness_99 : decode cX8_badness 99 = .ok (.goto 4, 3) := by decide +kernel
theorem dX8_badness_102 : decode cX8_badness 102 = .ok (.iconst 0, 1) := by decide +kernel
theorem dX8_badness_103 : decode cX8_badness 103 = .ok (.iadd, 1) := by decide +kernel
theorem dX8_badness_104 : decode cX8_badness 104 = .ok (.istore_n 2, 1) := by decide +kernel
theorem dX8_badness_105 : decode cX8_badness 105 = .ok (.iinc 3 1, 3) := by decide +kernel
theorem dX8_badness_108 : decode cX8_badness 108 = .ok (.goto (-46), 3) := by decide +kernel
theorem dX8_badness_111 : decode cX8_badness 111 = .ok (.iload_n 2, 1) := by decide +kernel
theorem dX8_badness_112 : decode cX8_badness 112 = .ok (.ireturn, 1) := by decide +kernel
theorem dX8_worst_0 : decode cX8_worst 0 = .ok (.aload_n 0, 1) := by decide +kernel
theorem dX8_worst_1 : decode cX8_worst 1 = .ok (.iconst 0, 1) := by decide +kernel
theorem dX8_worst_2 : decode cX8_worst 2 = .ok (.putfield 36, 3) := by decide +kernel
theorem dX8_worst_5 : decode cX8_worst 5 = .ok (.iconst 0, 1) := by decide +kernel
theorem dX8_worst_6 : decode cX8_worst 6 = .ok (.istore_n 1, 1) := by decide +kernel
theorem dX8_worst_7 : decode cX8_worst 7 = .ok (.iconst 1, 1) := by decide +kernel
theorem dX8_worst_8 : decode cX8_worst 8 = .ok (.istore_n 2, 1) := by decide +kernel
theorem dX8_worst_9 : decode cX8_worst 9 = .ok (.iload_n 2, 1) := by decide +kernel
theorem dX8_worst_10 : decode cX8_worst 10 = .ok (.iconst 4, 1) := by decide +kernel
theorem dX8_worst_11 : decode cX8_worst 11 = .ok (.if_icmp .ge 28, 3) := by decide +kernel
theorem dX8_worst_14 : decode cX8_worst 14 = .ok (.aload_n 0, 1) := by decide +kernel
theorem dX8_worst_15 : decode cX8_worst 15 = .ok (.iload_n 2, 1) := by decide +kernel
theorem dX8_worst_16 : decode cX8_worst 16 = .ok (.invokevirtual 289, 3) := by decide +kernel
theorem dX8_worst_19 : decode cX8_worst 19 = .ok (.aload_n 0, 1) := by decide +kernel
theorem dX8_worst_20 : decode cX8_worst 20 = .ok (.iload_n 1, 1) := by decide +kernel
theorem dX8_worst_21 : decode cX8_worst 21 = .ok (.invokevirtual 289, 3) := by decide +kernel
theorem dX8_worst_24 : decode cX8_worst 24 = .ok (.if_icmp .le 7, 3) := by decide +kernel
theorem dX8_worst_27 : decode cX8_worst 27 = .ok (.iload_n 2, 1) := by decide +kernel
theorem dX8_worst_28 : decode cX8_worst 28 = .ok (.goto 4, 3) := by decide +kernel
theorem dX8_worst_31 : decode cX8_worst 31 = .ok (.iload_n 1, 1) := by decide +kernel
theorem dX8_worst_32 : decode cX8_worst 32 = .ok (.istore_n 1, 1) := by decide +kernel
theorem dX8_worst_33 : decode cX8_worst 33 = .ok (.iinc 2 1, 3) := by decide +kernel
theorem dX8_worst_36 : decode cX8_worst 36 = .ok (.goto (-27), 3) := by decide +kernel
theorem dX8_worst_39 : decode cX8_worst 39 = .ok (.iload_n 1, 1) := by decide +kernel
theorem dX8_worst_40 : decode cX8_worst 40 = .ok (.ireturn, 1) := by decide +kernel
theorem dX8_common_0 : decode cX8_common 0 = .ok (.aload_n 0, 1) := by decide +kernel
theorem dX8_common_1 : decode cX8_common 1 = .ok (.aload_n 0, 1) := by decide +kernel
theorem dX8_common_2 : decode cX8_common 2 = .ok (.getfield 7, 3) := by decide +kernel
theorem dX8_common_5 : decode cX8_common 5 = .ok (.iload_n 1, 1) := by decide +kernel
theorem dX8_common_6 : decode cX8_common 6 = .ok (.invokestatic 139, 3) := by decide +kernel
theorem dX8_common_9 : decode cX8_common 9 = .ok (.ifCond .eq 18, 3) := by decide +kernel
theorem dX8_common_12 : decode cX8_common 12 = .ok (.aload_n 0, 1) := by decide +kernel
theorem dX8_common_13 : decode cX8_common 13 = .ok (.getfield 7, 3) := by decide +kernel
theorem dX8_common_16 : decode cX8_common 16 = .ok (.iload_n 2, 1) := by decide +kernel
theorem dX8_common_17 : decode cX8_common 17 = .ok (.invokestatic 139, 3) := by decide +kernel
theorem dX8_common_20 : decode cX8_common 20 = .ok (.ifCond .eq 7, 3) := by decide +kernel
theorem dX8_common_23 : decode cX8_common 23 = .ok (.iconst 0, 1) := by decide +kernel
theorem dX8_common_24 : decode cX8_common 24 = .ok (.goto 4, 3) := by decide +kernel
theorem dX8_common_27 : decode cX8_common 27 = .ok (.iconst 1, 1) := by decide +kernel
theorem dX8_common_28 : decode cX8_common 28 = .ok (.invokevirtual 105, 3) := by decide +kernel
theorem dX8_common_31 : decode cX8_common 31 = .ok (.ifCond .eq 5, 3) := by decide +kernel
theorem dX8_common_34 : decode cX8_common 34 = .ok (.iconst 0, 1) := by decide +kernel
theorem dX8_common_35 : decode cX8_common 35 = .ok (.ireturn, 1) := by decide +kernel
theorem dX8_common_36 : decode cX8_common 36 = .ok (.iload_n 1, 1) := by decide +kernel
theorem dX8_common_37 : decode cX8_common 37 = .ok (.istore_n 3, 1) := by decide +kernel
theorem dX8_common_38 : decode cX8_common 38 = .ok (.iload_n 3, 1) := by decide +kernel
theorem dX8_common_39 : decode cX8_common 39 = .ok (.iconst (-1), 1) := by decide +kernel
theorem dX8_common_40 : decode cX8_common 40 = .ok (.if_icmp .eq 28, 3) := by decide +kernel
theorem dX8_common_43 : decode cX8_common 43 = .ok (.aload_n 0, 1) := by decide +kernel
theorem dX8_common_44 : decode cX8_common 44 = .ok (.getfield 7, 3) := by decide +kernel
theorem dX8_common_47 : decode cX8_common 47 = .ok (.iload_n 2, 1) := by decide +kernel
theorem dX8_common_48 : decode cX8_common 48 = .ok (.iload_n 3, 1) := by decide +kernel
theorem dX8_common_49 : decode cX8_common 49 = .ok (.invokestatic 58, 3) := by decide +kernel
theorem dX8_common_52 : decode cX8_common 52 = .ok (.ifCond .ne 16, 3) := by decide +kernel
theorem dX8_common_55 : decode cX8_common 55 = .ok (.aload_n 0, 1) := by decide +kernel
theorem dX8_common_56 : decode cX8_common 56 = .ok (.getfield 7, 3) := by decide +kernel
theorem dX8_common_59 : decode cX8_common 59 = .ok (.bipush 10, 2) := by decide +kernel
theorem dX8_common_61 : decode cX8_common 61 = .ok (.iload_n 3, 1) := by decide +kernel
theorem dX8_common_62 : decode cX8_common 62 = .ok (.iadd, 1) := by decide +kernel
theorem dX8_common_63 : decode cX8_common 63 = .ok (.iaload, 1) := by decide +kernel
theorem dX8_common_64 : decode cX8_common 64 = .ok (.istore_n 3, 1) := by decide +kernel
theorem dX8_common_65 : decode cX8_common 65 = .ok (.goto (-27), 3) := by decide +kernel
theorem dX8_common_68 : decode cX8_common 68 = .ok (.iload_n 3, 1) := by decide +kernel
theorem dX8_common_69 : decode cX8_common 69 = .ok (.ireturn, 1) := by decide +kernel
theorem dX8_runRevise_0 : decode cX8_runRevise 0 = .ok (.aload_n 0, 1) := by decide +kernel
theorem dX8_runRevise_1 : decode cX8_runRevise 1 = .ok (.getfield 13, 3) := by decide +kernel
theorem dX8_runRevise_4 : decode cX8_runRevise 4 = .ok (.iload_n 1, 1) := by decide +kernel
theorem dX8_runRevise_5 : decode cX8_runRevise 5 = .ok (.invokestatic 139, 3) := by decide +kernel
theorem dX8_runRevise_8 : decode cX8_runRevise 8 = .ok (.ifCond .eq 25, 3) := by decide +kernel
theorem dX8_runRevise_11 : decode cX8_runRevise 11 = .ok (.iload_n 2, 1) := by decide +kernel
theorem dX8_runRevise_12 : decode cX8_runRevise 12 = .ok (.invokestatic 232, 3) := by decide +kernel
theorem dX8_runRevise_15 : decode cX8_runRevise 15 = .ok (.ifCond .eq 18, 3) := by decide +kernel
theorem dX8_runRevise_18 : decode cX8_runRevise 18 = .ok (.aload_n 0, 1) := by decide +kernel
theorem dX8_runRevise_19 : decode cX8_runRevise 19 = .ok (.getfield 13, 3) := by decide +kernel
theorem dX8_runRevise_22 : decode cX8_runRevise 22 = .ok (.iload_n 1, 1) := by decide +kernel
theorem dX8_runRevise_23 : decode cX8_runRevise 23 = .ok (.invokestatic 162, 3) := by decide +kernel
theorem dX8_runRevise_26 : decode cX8_runRevise 26 = .ok (.ifCond .eq 7, 3) := by decide +kernel
theorem dX8_runRevise_29 : decode cX8_runRevise 29 = .ok (.iconst 1, 1) := by decide +kernel
theorem dX8_runRevise_30 : decode cX8_runRevise 30 = .ok (.goto 4, 3) := by decide +kernel
theorem dX8_runRevise_33 : decode cX8_runRevise 33 = .ok (.iconst 0, 1) := by decide +kernel
theorem dX8_runRevise_34 : decode cX8_runRevise 34 = .ok (.istore_n 3, 1) := by decide +kernel
theorem dX8_runRevise_35 : decode cX8_runRevise 35 = .ok (.iload_n 3, 1) := by decide +kernel
theorem dX8_runRevise_36 : decode cX8_runRevise 36 = .ok (.ifCond .eq 21, 3) := by decide +kernel
theorem dX8_runRevise_39 : decode cX8_runRevise 39 = .ok (.aload_n 0, 1) := by decide +kernel
theorem dX8_runRevise_40 : decode cX8_runRevise 40 = .ok (.getfield 13, 3) := by decide +kernel
theorem dX8_runRevise_43 : decode cX8_runRevise 43 = .ok (.iload_n 1, 1) := by decide +kernel
theorem dX8_runRevise_44 : decode cX8_runRevise 44 = .ok (.iconst 1, 1) := by decide +kernel
theorem dX8_runRevise_45 : decode cX8_runRevise 45 = .ok (.iload_n 2, 1) := by decide +kernel
theorem dX8_runRevise_46 : decode cX8_runRevise 46 = .ok (.ishl, 1) := by decide +kernel
theorem dX8_runRevise_47 : decode cX8_runRevise 47 = .ok (.invokestatic 165, 3) := by decide +kernel
theorem dX8_runRevise_50 : decode cX8_runRevise 50 = .ok (.ifCond .lt 7, 3) := by decide +kernel
theorem dX8_runRevise_53 : decode cX8_runRevise 53 = .ok (.iconst 1, 1) := by decide +kernel
theorem dX8_runRevise_54 : decode cX8_runRevise 54 = .ok (.goto 4, 3) := by decide +kernel
theorem dX8_runRevise_57 : decode cX8_runRevise 57 = .ok (.iconst 0, 1) := by decide +kernel
theorem dX8_runRevise_58 : decode cX8_runRevise 58 = .ok (.ireturn, 1) := by decide +kernel
theorem dX8_runPrint_0 : decode cX8_runPrint 0 = .ok (.aload_n 0, 1) := by decide +kernel
theorem dX8_runPrint_1 : decode cX8_runPrint 1 = .ok (.getfield 13, 3) := by decide +kernel
theorem dX8_runPrint_4 : decode cX8_runPrint 4 = .ok (.iload_n 1, 1) := by decide +kernel
theorem dX8_runPrint_5 : decode cX8_runPrint 5 = .ok (.invokestatic 139, 3) := by decide +kernel
theorem dX8_runPrint_8 : decode cX8_runPrint 8 = .ok (.ifCond .eq 36, 3) := by decide +kernel
theorem dX8_runPrint_11 : decode cX8_runPrint 11 = .ok (.iload_n 2, 1) := by decide +kernel
theorem dX8_runPrint_12 : decode cX8_runPrint 12 = .ok (.invokestatic 257, 3) := by decide +kernel
theorem dX8_runPrint_15 : decode cX8_runPrint 15 = .ok (.ifCond .eq 29, 3) := by decide +kernel
theorem dX8_runPrint_18 : decode cX8_runPrint 18 = .ok (.aload_n 0, 1) := by decide +kernel
theorem dX8_runPrint_19 : decode cX8_runPrint 19 = .ok (.getfield 13, 3) := by decide +kernel
theorem dX8_runPrint_22 : decode cX8_runPrint 22 = .ok (.invokestatic 172, 3) := by decide +kernel
theorem dX8_runPrint_25 : decode cX8_runPrint 25 = .ok (.ifCond .eq 19, 3) := by decide +kernel
theorem dX8_runPrint_28 : decode cX8_runPrint 28 = .ok (.aload_n 0, 1) := by decide +kernel
theorem dX8_runPrint_29 : decode cX8_runPrint 29 = .ok (.getfield 13, 3) := by decide +kernel
theorem dX8_runPrint_32 : decode cX8_runPrint 32 = .ok (.iload_n 1, 1) := by decide +kernel
theorem dX8_runPrint_33 : decode cX8_runPrint 33 = .ok (.iload_n 2, 1) := by decide +kernel
theorem dX8_runPrint_34 : decode cX8_runPrint 34 = .ok (.invokestatic 175, 3) := by decide +kernel
theorem dX8_runPrint_37 : decode cX8_runPrint 37 = .ok (.ifCond .lt 7, 3) := by decide +kernel
theorem dX8_runPrint_40 : decode cX8_runPrint 40 = .ok (.iconst 1, 1) := by decide +kernel
theorem dX8_runPrint_41 : decode cX8_runPrint 41 = .ok (.goto 4, 3) := by decide +kernel
theorem dX8_runPrint_44 : decode cX8_runPrint 44 = .ok (.iconst 0, 1) := by decide +kernel
theorem dX8_runPrint_45 : decode cX8_runPrint 45 = .ok (.ireturn, 1) := by decide +kernel
theorem dX8_runStamp_0 : decode cX8_runStamp 0 = .ok (.aload_n 0, 1) := by decide +kernel
theorem dX8_runStamp_1 : decode cX8_runStamp 1 = .ok (.getfield 13, 3) := by decide +kernel
theorem dX8_runStamp_4 : decode cX8_runStamp 4 = .ok (.iload_n 1, 1) := by decide +kernel
theorem dX8_runStamp_5 : decode cX8_runStamp 5 = .ok (.invokestatic 178, 3) := by decide +kernel
theorem dX8_runStamp_8 : decode cX8_runStamp 8 = .ok (.ifCond .eq 37, 3) := by decide +kernel
theorem dX8_runStamp_11 : decode cX8_runStamp 11 = .ok (.iload_n 2, 1) := by decide +kernel
theorem dX8_runStamp_12 : decode cX8_runStamp 12 = .ok (.invokestatic 260, 3) := by decide +kernel
theorem dX8_runStamp_15 : decode cX8_runStamp 15 = .ok (.ifCond .eq 30, 3) := by decide +kernel
theorem dX8_runStamp_18 : decode cX8_runStamp 18 = .ok (.aload_n 0, 1) := by decide +kernel
theorem dX8_runStamp_19 : decode cX8_runStamp 19 = .ok (.getfield 13, 3) := by decide +kernel
theorem dX8_runStamp_22 : decode cX8_runStamp 22 = .ok (.iload_n 1, 1) := by decide +kernel
theorem dX8_runStamp_23 : decode cX8_runStamp 23 = .ok (.invokestatic 181, 3) := by decide +kernel
theorem dX8_runStamp_26 : decode cX8_runStamp 26 = .ok (.ifCond .eq 19, 3) := by decide +kernel
theorem dX8_runStamp_29 : decode cX8_runStamp 29 = .ok (.aload_n 0, 1) := by decide +kernel
theorem dX8_runStamp_30 : decode cX8_runStamp 30 = .ok (.getfield 13, 3) := by decide +kernel
theorem dX8_runStamp_33 : decode cX8_runStamp 33 = .ok (.iload_n 1, 1) := by decide +kernel
theorem dX8_runStamp_34 : decode cX8_runStamp 34 = .ok (.iload_n 2, 1) := by decide +kernel
theorem dX8_runStamp_35 : decode cX8_runStamp 35 = .ok (.invokestatic 184, 3) := by decide +kernel
theorem dX8_runStamp_38 : decode cX8_runStamp 38 = .ok (.ifCond .le 7, 3) := by decide +kernel
theorem dX8_runStamp_41 : decode cX8_runStamp 41 = .ok (.iconst 1, 1) := by decide +kernel
theorem dX8_runStamp_42 : decode cX8_runStamp 42 = .ok (.goto 4, 3) := by decide +kernel
theorem dX8_runStamp_45 : decode cX8_runStamp 45 = .ok (.iconst 0, 1) := by decide +kernel
theorem dX8_runStamp_46 : decode cX8_runStamp 46 = .ok (.ireturn, 1) := by decide +kernel
theorem dX8_runBuild_0 : decode cX8_runBuild 0 = .ok (.aload_n 0, 1) := by decide +kernel
theorem dX8_runBuild_1 : decode cX8_runBuild 1 = .ok (.getfield 13, 3) := by decide +kernel
theorem dX8_runBuild_4 : decode cX8_runBuild 4 = .ok (.iload_n 1, 1) := by decide +kernel
theorem dX8_runBuild_5 : decode cX8_runBuild 5 = .ok (.invokestatic 178, 3) := by decide +kernel
theorem dX8_runBuild_8 : decode cX8_runBuild 8 = .ok (.ifCond .eq 37, 3) := by decide +kernel
theorem dX8_runBuild_11 : decode cX8_runBuild 11 = .ok (.iload_n 2, 1) := by decide +kernel
theorem dX8_runBuild_12 : decode cX8_runBuild 12 = .ok (.invokestatic 232, 3) := by decide +kernel
theorem dX8_runBuild_15 : decode cX8_runBuild 15 = .ok (.ifCond .eq 30, 3) := by decide +kernel
theorem dX8_runBuild_18 : decode cX8_runBuild 18 = .ok (.aload_n 0, 1) := by decide +kernel
theorem dX8_runBuild_19 : decode cX8_runBuild 19 = .ok (.getfield 13, 3) := by decide +kernel
theorem dX8_runBuild_22 : decode cX8_runBuild 22 = .ok (.iload_n 1, 1) := by decide +kernel
theorem dX8_runBuild_23 : decode cX8_runBuild 23 = .ok (.invokestatic 266, 3) := by decide +kernel
theorem dX8_runBuild_26 : decode cX8_runBuild 26 = .ok (.ifCond .eq 19, 3) := by decide +kernel
theorem dX8_runBuild_29 : decode cX8_runBuild 29 = .ok (.aload_n 0, 1) := by decide +kernel
theorem dX8_runBuild_30 : decode cX8_runBuild 30 = .ok (.getfield 13, 3) := by decide +kernel
theorem dX8_runBuild_33 : decode cX8_runBuild 33 = .ok (.iload_n 1, 1) := by decide +kernel
theorem dX8_runBuild_34 : decode cX8_runBuild 34 = .ok (.iload_n 2, 1) := by decide +kernel
theorem dX8_runBuild_35 : decode cX8_runBuild 35 = .ok (.invokestatic 269, 3) := by decide +kernel
theorem dX8_runBuild_38 : decode cX8_runBuild 38 = .ok (.ifCond .lt 7, 3) := by decide +kernel
theorem dX8_runBuild_41 : decode cX8_runBuild 41 = .ok (.iconst 1, 1) := by decide +kernel
theorem dX8_runBuild_42 : decode cX8_runBuild 42 = .ok (.goto 4, 3) := by decide +kernel
theorem dX8_runBuild_45 : decode cX8_runBuild 45 = .ok (.iconst 0, 1) := by decide +kernel
theorem dX8_runBuild_46 : decode cX8_runBuild 46 = .ok (.ireturn, 1) := by decide +kernel
theorem dX8_runBack_0 : decode cX8_runBack 0 = .ok (.aload_n 0, 1) := by decide +kernel
theorem dX8_runBack_1 : decode cX8_runBack 1 = .ok (.getfield 13, 3) := by decide +kernel
theorem dX8_runBack_4 : decode cX8_runBack 4 = .ok (.iload_n 1, 1) := by decide +kernel
theorem dX8_runBack_5 : decode cX8_runBack 5 = .ok (.invokestatic 178, 3) := by decide +kernel
theorem dX8_runBack_8 : decode cX8_runBack 8 = .ok (.ifCond .eq 29, 3) := by decide +kernel
theorem dX8_runBack_11 : decode cX8_runBack 11 = .ok (.aload_n 0, 1) := by decide +kernel
theorem dX8_runBack_12 : decode cX8_runBack 12 = .ok (.getfield 13, 3) := by decide +kernel
theorem dX8_runBack_15 : decode cX8_runBack 15 = .ok (.iload_n 1, 1) := by decide +kernel
theorem dX8_runBack_16 : decode cX8_runBack 16 = .ok (.invokestatic 70, 3) := by decide +kernel
theorem dX8_runBack_19 : decode cX8_runBack 19 = .ok (.ifCond .eq 18, 3) := by decide +kernel
theorem dX8_runBack_22 : decode cX8_runBack 22 = .ok (.aload_n 0, 1) := by decide +kernel
theorem dX8_runBack_23 : decode cX8_runBack 23 = .ok (.getfield 13, 3) := by decide +kernel
theorem dX8_runBack_26 : decode cX8_runBack 26 = .ok (.iload_n 1, 1) := by decide +kernel
theorem dX8_runBack_27 : decode cX8_runBack 27 = .ok (.invokestatic 263, 3) := by decide +kernel
theorem dX8_runBack_30 : decode cX8_runBack 30 = .ok (.ifCond .lt 7, 3) := by decide +kernel
theorem dX8_runBack_33 : decode cX8_runBack 33 = .ok (.iconst 1, 1) := by decide +kernel
theorem dX8_runBack_34 : decode cX8_runBack 34 = .ok (.goto 4, 3) := by decide +kernel
theorem dX8_runBack_37 : decode cX8_runBack 37 = .ok (.iconst 0, 1) := by decide +kernel
theorem dX8_runBack_38 : decode cX8_runBack 38 = .ok (.ireturn, 1) := by decide +kernel
theorem dX8_runCheck_0 : decode cX8_runCheck 0 = .ok (.aload_n 0, 1) := by decide +kernel
theorem dX8_runCheck_1 : decode cX8_runCheck 1 = .ok (.getfield 13, 3) := by decide +kernel
theorem dX8_runCheck_4 : decode cX8_runCheck 4 = .ok (.iload_n 1, 1) := by decide +kernel
theorem dX8_runCheck_5 : decode cX8_runCheck 5 = .ok (.invokestatic 139, 3) := by decide +kernel
theorem dX8_runCheck_8 : decode cX8_runCheck 8 = .ok (.ifCond .eq 32, 3) := by decide +kernel
theorem dX8_runCheck_11 : decode cX8_runCheck 11 = .ok (.aload_n 0, 1) := by decide +kernel
theorem dX8_runCheck_12 : decode cX8_runCheck 12 = .ok (.getfield 13, 3) := by decide +kernel
theorem dX8_runCheck_15 : decode cX8_runCheck 15 = .ok (.bipush 8, 2) := by decide +kernel
theorem dX8_runCheck_17 : decode cX8_runCheck 17 = .ok (.iaload, 1) := by decide +kernel
theorem dX8_runCheck_18 : decode cX8_runCheck 18 = .ok (.iload_n 1, 1) := by decide +kernel
theorem dX8_runCheck_19 : decode cX8_runCheck 19 = .ok (.invokestatic 66, 3) := by decide +kernel
theorem dX8_runCheck_22 : decode cX8_runCheck 22 = .ok (.ifCond .eq 18, 3) := by decide +kernel
theorem dX8_runCheck_25 : decode cX8_runCheck 25 = .ok (.aload_n 0, 1) := by decide +kernel
theorem dX8_runCheck_26 : decode cX8_runCheck 26 = .ok (.getfield 13, 3) := by decide +kernel
theorem dX8_runCheck_29 : decode cX8_runCheck 29 = .ok (.iload_n 1, 1) := by decide +kernel
theorem dX8_runCheck_30 : decode cX8_runCheck 30 = .ok (.invokestatic 254, 3) := by decide +kernel
theorem dX8_runCheck_33 : decode cX8_runCheck 33 = .ok (.ifCond .lt 7, 3) := by decide +kernel
theorem dX8_runCheck_36 : decode cX8_runCheck 36 = .ok (.iconst 1, 1) := by decide +kernel
theorem dX8_runCheck_37 : decode cX8_runCheck 37 = .ok (.goto 4, 3) := by decide +kernel
theorem dX8_runCheck_40 : decode cX8_runCheck 40 = .ok (.iconst 0, 1) := by decide +kernel
theorem dX8_runCheck_41 : decode cX8_runCheck 41 = .ok (.ireturn, 1) := by decide +kernel
theorem dX8_runDays_0 : decode cX8_runDays 0 = .ok (.iload_n 1, 1) := by decide +kernel
theorem dX8_runDays_1 : decode cX8_runDays 1 = .ok (.i2l, 1) := by decide +kernel
theorem dX8_runDays_2 : decode cX8_runDays 2 = .ok (.lconst 1, 1) := by decide +kernel
theorem dX8_runDays_3 : decode cX8_runDays 3 = .ok (.ldc2_w 275, 3) := by decide +kernel
theorem dX8_runDays_6 : decode cX8_runDays 6 = .ok (.invokestatic 42, 3) := by decide +kernel
theorem dX8_runDays_9 : decode cX8_runDays 9 = .ok (.ifCond .eq 18, 3) := by decide +kernel
theorem dX8_runDays_12 : decode cX8_runDays 12 = .ok (.aload_n 0, 1) := by decide +kernel
theorem dX8_runDays_13 : decode cX8_runDays 13 = .ok (.getfield 13, 3) := by decide +kernel
theorem dX8_runDays_16 : decode cX8_runDays 16 = .ok (.iload_n 1, 1) := by decide +kernel
theorem dX8_runDays_17 : decode cX8_runDays 17 = .ok (.invokestatic 169, 3) := by decide +kernel
theorem dX8_runDays_20 : decode cX8_runDays 20 = .ok (.ifCond .lt 7, 3) := by decide +kernel
theorem dX8_runDays_23 : decode cX8_runDays 23 = .ok (.iconst 1, 1) := by decide +kernel
theorem dX8_runDays_24 : decode cX8_runDays 24 = .ok (.goto 4, 3) := by decide +kernel
theorem dX8_runDays_27 : decode cX8_runDays 27 = .ok (.iconst 0, 1) := by decide +kernel
theorem dX8_runDays_28 : decode cX8_runDays 28 = .ok (.ireturn, 1) := by decide +kernel
theorem dX8_command_0 : decode cX8_command 0 = .ok (.iload_n 1, 1) := by decide +kernel
theorem dX8_command_1 : decode cX8_command 1 = .ok (.sipush 10000, 3) := by decide +kernel
theorem dX8_command_4 : decode cX8_command 4 = .ok (.idiv, 1) := by decide +kernel
theorem dX8_command_5 : decode cX8_command 5 = .ok (.bipush 10, 2) := by decide +kernel
theorem dX8_command_7 : decode cX8_command 7 = .ok (.irem, 1) := by decide +kernel
theorem dX8_command_8 : decode cX8_command 8 = .ok (.istore_n 2, 1) := by decide +kernel
theorem dX8_command_9 : decode cX8_command 9 = .ok (.iload_n 1, 1) := by decide +kernel
theorem dX8_command_10 : decode cX8_command 10 = .ok (.sipush 1000, 3) := by decide +kernel
theorem dX8_command_13 : decode cX8_command 13 = .ok (.idiv, 1) := by decide +kernel
theorem dX8_command_14 : decode cX8_command 14 = .ok (.bipush 100, 2) := by decide +kernel
theorem dX8_command_16 : decode cX8_command 16 = .ok (.irem, 1) := by decide +kernel
theorem dX8_command_17 : decode cX8_command 17 = .ok (.istore_n 3, 1) := by decide +kernel
theorem dX8_command_18 : decode cX8_command 18 = .ok (.iload_n 1, 1) := by decide +kernel
theorem dX8_command_19 : decode cX8_command 19 = .ok (.sipush 1000, 3) := by decide +kernel
theorem dX8_command_22 : decode cX8_command 22 = .ok (.irem, 1) := by decide +kernel
theorem dX8_command_23 : decode cX8_command 23 = .ok (.istore 4, 2) := by decide +kernel
theorem dX8_command_25 : decode cX8_command 25 = .ok (.iload_n 1, 1) := by decide +kernel
theorem dX8_command_26 : decode cX8_command 26 = .ok (.bipush 100, 2) := by decide +kernel
theorem dX8_command_28 : decode cX8_command 28 = .ok (.irem, 1) := by decide +kernel
theorem dX8_command_29 : decode cX8_command 29 = .ok (.istore 5, 2) := by decide +kernel
theorem dX8_command_31 : decode cX8_command 31 = .ok (.iload_n 1, 1) := by decide +kernel
theorem dX8_command_32 : decode cX8_command 32 = .ok (.bipush 10, 2) := by decide +kernel
theorem dX8_command_34 : decode cX8_command 34 = .ok (.irem, 1) := by decide +kernel
theorem dX8_command_35 : decode cX8_command 35 = .ok (.istore 6, 2) := by decide +kernel
theorem dX8_command_37 : decode cX8_command 37 = .ok (.iload_n 1, 1) := by decide +kernel
theorem dX8_command_38 : decode cX8_command 38 = .ok (.ldc_w 292, 3) := by decide +kernel
theorem dX8_command_41 : decode cX8_command 41 = .ok (.idiv, 1) := by decide +kernel
theorem dX8_command_42 : decode cX8_command 42 = .ok (.tableswitch 304 1 9 #[50, 87, 114, 140, 166, 191, 210, 232, 260], 50) := by decide +kernel
theorem dX8_command_92 : decode cX8_command 92 = .ok (.iload_n 1, 1) := by decide +kernel
theorem dX8_command_93 : decode cX8_command 93 = .ok (.sipush 1000, 3) := by decide +kernel
theorem dX8_command_96 : decode cX8_command 96 = .ok (.idiv, 1) := by decide +kernel
theorem dX8_command_97 : decode cX8_command 97 = .ok (.bipush 10, 2) := by decide +kernel
theorem dX8_command_99 : decode cX8_command 99 = .ok (.irem, 1) := by decide +kernel
theorem dX8_command_100 : decode cX8_command 100 = .ok (.ifCond .ne 27, 3) := by decide +kernel
theorem dX8_command_103 : decode cX8_command 103 = .ok (.iload 6, 2) := by decide +kernel
theorem dX8_command_105 : decode cX8_command 105 = .ok (.ifCond .ne 22, 3) := by decide +kernel
theorem dX8_command_108 : decode cX8_command 108 = .ok (.aload_n 0, 1) := by decide +kernel
theorem dX8_command_109 : decode cX8_command 109 = .ok (.iload_n 2, 1) := by decide +kernel
theorem dX8_command_110 : decode cX8_command 110 = .ok (.iload_n 1, 1) := by decide +kernel
theorem dX8_command_111 : decode cX8_command 111 = .ok (.bipush 10, 2) := by decide +kernel
theorem dX8_command_113 : decode cX8_command 113 = .ok (.idiv, 1) := by decide +kernel
theorem dX8_command_114 : decode cX8_command 114 = .ok (.bipush 100, 2) := by decide +kernel
theorem dX8_command_116 : decode cX8_command 116 = .ok (.irem, 1) := by decide +kernel
theorem dX8_command_117 : decode cX8_command 117 = .ok (.invokevirtual 293, 3) := by decide +kernel
theorem dX8_command_120 : decode cX8_command 120 = .ok (.ifCond .eq 7, 3) := by decide +kernel
theorem dX8_command_123 : decode cX8_command 123 = .ok (.iconst 1, 1) := by decide +kernel
theorem dX8_command_124 : decode cX8_command 124 = .ok (.goto 4, 3) := by decide +kernel
theorem dX8_command_127 : decode cX8_command 127 = .ok (.iconst 0, 1) := by decide +kernel
theorem dX8_command_128 : decode cX8_command 128 = .ok (.ireturn, 1) := by decide +kernel
theorem dX8_command_129 : decode cX8_command 129 = .ok (.iload 4, 2) := by decide +kernel
theorem dX8_command_131 : decode cX8_command 131 = .ok (.ifCond .ne 23, 3) := by decide +kernel
theorem dX8_command_134 : decode cX8_command 134 = .ok (.aload_n 0, 1) := by decide +kernel
theorem dX8_command_135 : decode cX8_command 135 = .ok (.iload_n 2, 1) := by decide +kernel
theorem dX8_command_136 : decode cX8_command 136 = .ok (.iload_n 1, 1) := by decide +kernel
theorem dX8_command_137 : decode cX8_command 137 = .ok (.sipush 1000, 3) := by decide +kernel
theorem dX8_command_140 : decode cX8_command 140 = .ok (.idiv, 1) := by decide +kernel
theorem dX8_command_141 : decode cX8_command 141 = .ok (.bipush 10, 2) := by decide +kernel
theorem dX8_command_143 : decode cX8_command 143 = .ok (.irem, 1) := by decide +kernel
theorem dX8_command_144 : decode cX8_command 144 = .ok (.invokevirtual 296, 3) := by decide +kernel
theorem dX8_command_147 : decode cX8_command 147 = .ok (.ifCond .eq 7, 3) := by decide +kernel
theorem dX8_command_150 : decode cX8_command 150 = .ok (.iconst 1, 1) := by decide +kernel
theorem dX8_command_151 : decode cX8_command 151 = .ok (.goto 4, 3) := by decide +kernel
theorem dX8_command_154 : decode cX8_command 154 = .ok (.iconst 0, 1) := by decide +kernel
theorem dX8_command_155 : decode cX8_command 155 = .ok (.ireturn, 1) := by decide +kernel
theorem dX8_command_156 : decode cX8_command 156 = .ok (.iload 5, 2) := by decide +kernel
theorem dX8_command_158 : decode cX8_command 158 = .ok (.ifCond .ne 22, 3) := by decide +kernel
theorem dX8_command_161 : decode cX8_command 161 = .ok (.aload_n 0, 1) := by decide +kernel
theorem dX8_command_162 : decode cX8_command 162 = .ok (.iload_n 3, 1) := by decide +kernel
theorem dX8_command_163 : decode cX8_command 163 = .ok (.iload_n 1, 1) := by decide +kernel
theorem dX8_command_164 : decode cX8_command 164 = .ok (.bipush 100, 2) := by decide +kernel
theorem dX8_command_166 : decode cX8_command 166 = .ok (.idiv, 1) := by decide +kernel
theorem dX8_command_167 : decode cX8_command 167 = .ok (.bipush 10, 2) := by decide +kernel
theorem dX8_command_169 : decode cX8_command 169 = .ok (.irem, 1) := by decide +kernel
theorem dX8_command_170 : decode cX8_command 170 = .ok (.invokevirtual 299, 3) := by decide +kernel
theorem dX8_command_173 : decode cX8_command 173 = .ok (.ifCond .eq 7, 3) := by decide +kernel
theorem dX8_command_176 : decode cX8_command 176 = .ok (.iconst 1, 1) := by decide +kernel
theorem dX8_command_177 : decode cX8_command 177 = .ok (.goto 4, 3) := by decide +kernel
theorem dX8_command_180 : decode cX8_command 180 = .ok (.iconst 0, 1) := by decide +kernel
theorem dX8_command_181 : decode cX8_command 181 = .ok (.ireturn, 1) := by decide +kernel
theorem dX8_command_182 : decode cX8_command 182 = .ok (.iload 6, 2) := by decide +kernel
theorem dX8_command_184 : decode cX8_command 184 = .ok (.ifCond .ne 22, 3) := by decide +kernel
theorem dX8_command_187 : decode cX8_command 187 = .ok (.aload_n 0, 1) := by decide +kernel
theorem dX8_command_188 : decode cX8_command 188 = .ok (.iload_n 3, 1) := by decide +kernel
theorem dX8_command_189 : decode cX8_command 189 = .ok (.iload_n 1, 1) := by decide +kernel
theorem dX8_command_190 : decode cX8_command 190 = .ok (.bipush 10, 2) := by decide +kernel
theorem dX8_command_192 : decode cX8_command 192 = .ok (.idiv, 1) := by decide +kernel
theorem dX8_command_193 : decode cX8_command 193 = .ok (.bipush 100, 2) := by decide +kernel
theorem dX8_command_195 : decode cX8_command 195 = .ok (.irem, 1) := by decide +kernel
theorem dX8_command_196 : decode cX8_command 196 = .ok (.invokevirtual 302, 3) := by decide +kernel
theorem dX8_command_199 : decode cX8_command 199 = .ok (.ifCond .eq 7, 3) := by decide +kernel
theorem dX8_command_202 : decode cX8_command 202 = .ok (.iconst 1, 1) := by decide +kernel
theorem dX8_command_203 : decode cX8_command 203 = .ok (.goto 4, 3) := by decide +kernel
theorem dX8_command_206 : decode cX8_command 206 = .ok (.iconst 0, 1) := by decide +kernel
theorem dX8_command_207 : decode cX8_command 207 = .ok (.ireturn, 1) := by decide +kernel
theorem dX8_command_208 : decode cX8_command 208 = .ok (.iload_n 1, 1) := by decide +kernel
theorem dX8_command_209 : decode cX8_command 209 = .ok (.ldc_w 292, 3) := by decide +kernel
theorem dX8_command_212 : decode cX8_command 212 = .ok (.irem, 1) := by decide +kernel
theorem dX8_command_213 : decode cX8_command 213 = .ok (.bipush 100, 2) := by decide +kernel
theorem dX8_command_215 : decode cX8_command 215 = .ok (.if_icmp .ge 16, 3) := by decide +kernel
theorem dX8_command_218 : decode cX8_command 218 = .ok (.aload_n 0, 1) := by decide +kernel
theorem dX8_command_219 : decode cX8_command 219 = .ok (.iload 5, 2) := by decide +kernel
theorem dX8_command_221 : decode cX8_command 221 = .ok (.invokevirtual 305, 3) := by decide +kernel
theorem dX8_command_224 : decode cX8_command 224 = .ok (.ifCond .eq 7, 3) := by decide +kernel
theorem dX8_command_227 : decode cX8_command 227 = .ok (.iconst 1, 1) := by decide +kernel
theorem dX8_command_228 : decode cX8_command 228 = .ok (.goto 4, 3) := by decide +kernel
theorem dX8_command_231 : decode cX8_command 231 = .ok (.iconst 0, 1) := by decide +kernel
theorem dX8_command_232 : decode cX8_command 232 = .ok (.ireturn, 1) := by decide +kernel
theorem dX8_command_233 : decode cX8_command 233 = .ok (.iload 4, 2) := by decide +kernel
theorem dX8_command_235 : decode cX8_command 235 = .ok (.ifCond .ne 15, 3) := by decide +kernel
theorem dX8_command_238 : decode cX8_command 238 = .ok (.aload_n 0, 1) := by decide +kernel
theorem dX8_command_239 : decode cX8_command 239 = .ok (.iload_n 3, 1) := by decide +kernel
theorem dX8_command_240 : decode cX8_command 240 = .ok (.invokevirtual 308, 3) := by decide +kernel
theorem dX8_command_243 : decode cX8_command 243 = .ok (.ifCond .eq 7, 3) := by decide +kernel
theorem dX8_command_246 : decode cX8_command 246 = .ok (.iconst 1, 1) := by decide +kernel
theorem dX8_command_247 : decode cX8_command 247 = .ok (.goto 4, 3) := by decide +kernel
theorem dX8_command_250 : decode cX8_command 250 = .ok (.iconst 0, 1) := by decide +kernel
theorem dX8_command_251 : decode cX8_command 251 = .ok (.ireturn, 1) := by decide +kernel
theorem dX8_command_252 : decode cX8_command 252 = .ok (.iload_n 1, 1) := by decide +kernel
theorem dX8_command_253 : decode cX8_command 253 = .ok (.sipush 10000, 3) := by decide +kernel
theorem dX8_command_256 : decode cX8_command 256 = .ok (.irem, 1) := by decide +kernel
theorem dX8_command_257 : decode cX8_command 257 = .ok (.ifCond .ne 15, 3) := by decide +kernel
theorem dX8_command_260 : decode cX8_command 260 = .ok (.aload_n 0, 1) := by decide +kernel
theorem dX8_command_261 : decode cX8_command 261 = .ok (.iload_n 2, 1) := by decide +kernel
theorem dX8_command_262 : decode cX8_command 262 = .ok (.invokevirtual 311, 3) := by decide +kernel
theorem dX8_command_265 : decode cX8_command 265 = .ok (.ifCond .eq 7, 3) := by decide +kernel
theorem dX8_command_268 : decode cX8_command 268 = .ok (.iconst 1, 1) := by decide +kernel
theorem dX8_command_269 : decode cX8_command 269 = .ok (.goto 4, 3) := by decide +kernel
theorem dX8_command_272 : decode cX8_command 272 = .ok (.iconst 0, 1) := by decide +kernel
theorem dX8_command_273 : decode cX8_command 273 = .ok (.ireturn, 1) := by decide +kernel
theorem dX8_command_274 : decode cX8_command 274 = .ok (.iload_n 1, 1) := by decide +kernel
theorem dX8_command_275 : decode cX8_command 275 = .ok (.ldc_w 292, 3) := by decide +kernel
theorem dX8_command_278 : decode cX8_command 278 = .ok (.irem, 1) := by decide +kernel
theorem dX8_command_279 : decode cX8_command 279 = .ok (.bipush 100, 2) := by decide +kernel
theorem dX8_command_281 : decode cX8_command 281 = .ok (.if_icmp .ge 19, 3) := by decide +kernel
theorem dX8_command_284 : decode cX8_command 284 = .ok (.aload_n 0, 1) := by decide +kernel
theorem dX8_command_285 : decode cX8_command 285 = .ok (.getfield 13, 3) := by decide +kernel
theorem dX8_command_288 : decode cX8_command 288 = .ok (.invokestatic 90, 3) := by decide +kernel
theorem dX8_command_291 : decode cX8_command 291 = .ok (.iload 5, 2) := by decide +kernel
theorem dX8_command_293 : decode cX8_command 293 = .ok (.if_icmp .gt 7, 3) := by decide +kernel
theorem dX8_command_296 : decode cX8_command 296 = .ok (.iconst 1, 1) := by decide +kernel
theorem dX8_command_297 : decode cX8_command 297 = .ok (.goto 4, 3) := by decide +kernel
theorem dX8_command_300 : decode cX8_command 300 = .ok (.iconst 0, 1) := by decide +kernel
theorem dX8_command_301 : decode cX8_command 301 = .ok (.ireturn, 1) := by decide +kernel
theorem dX8_command_302 : decode cX8_command 302 = .ok (.iload 4, 2) := by decide +kernel
theorem dX8_command_304 : decode cX8_command 304 = .ok (.iconst 2, 1) := by decide +kernel
theorem dX8_command_305 : decode cX8_command 305 = .ok (.if_icmp .ge 39, 3) := by decide +kernel
theorem dX8_command_308 : decode cX8_command 308 = .ok (.aload_n 0, 1) := by decide +kernel
theorem dX8_command_309 : decode cX8_command 309 = .ok (.getfield 13, 3) := by decide +kernel
theorem dX8_command_312 : decode cX8_command 312 = .ok (.iload_n 3, 1) := by decide +kernel
theorem dX8_command_313 : decode cX8_command 313 = .ok (.invokestatic 178, 3) := by decide +kernel
theorem dX8_command_316 : decode cX8_command 316 = .ok (.ifCond .eq 28, 3) := by decide +kernel
theorem dX8_command_319 : decode cX8_command 319 = .ok (.iload 6, 2) := by decide +kernel
theorem dX8_command_321 : decode cX8_command 321 = .ok (.aload_n 0, 1) := by decide +kernel
theorem dX8_command_322 : decode cX8_command 322 = .ok (.getfield 13, 3) := by decide +kernel
theorem dX8_command_325 : decode cX8_command 325 = .ok (.iload_n 3, 1) := by decide +kernel
theorem dX8_command_326 : decode cX8_command 326 = .ok (.invokestatic 87, 3) := by decide +kernel
theorem dX8_command_329 : decode cX8_command 329 = .ok (.ifCond .eq 7, 3) := by decide +kernel
theorem dX8_command_332 : decode cX8_command 332 = .ok (.iconst 1, 1) := by decide +kernel
theorem dX8_command_333 : decode cX8_command 333 = .ok (.goto 4, 3) := by decide +kernel
theorem dX8_command_336 : decode cX8_command 336 = .ok (.iconst 0, 1) := by decide +kernel
theorem dX8_command_337 : decode cX8_command 337 = .ok (.if_icmp .ne 7, 3) := by decide +kernel
theorem dX8_command_340 : decode cX8_command 340 = .ok (.iconst 1, 1) := by decide +kernel
theorem dX8_command_341 : decode cX8_command 341 = .ok (.goto 4, 3) := by decide +kernel
theorem dX8_command_344 : decode cX8_command 344 = .ok (.iconst 0, 1) := by decide +kernel
theorem dX8_command_345 : decode cX8_command 345 = .ok (.ireturn, 1) := by decide +kernel
theorem dX8_command_346 : decode cX8_command 346 = .ok (.iconst 0, 1) := by decide +kernel
theorem dX8_command_347 : decode cX8_command 347 = .ok (.ireturn, 1) := by decide +kernel
theorem dX8_runScript_0 : decode cX8_runScript 0 = .ok (.aload_n 0, 1) := by decide +kernel
theorem dX8_runScript_1 : decode cX8_runScript 1 = .ok (.iload_n 1, 1) := by decide +kernel
theorem dX8_runScript_2 : decode cX8_runScript 2 = .ok (.i2l, 1) := by decide +kernel
theorem dX8_runScript_3 : decode cX8_runScript 3 = .ok (.lconst 1, 1) := by decide +kernel
theorem dX8_runScript_4 : decode cX8_runScript 4 = .ok (.ldc2_w 48, 3) := by decide +kernel
theorem dX8_runScript_7 : decode cX8_runScript 7 = .ok (.invokestatic 42, 3) := by decide +kernel
theorem dX8_runScript_10 : decode cX8_runScript 10 = .ok (.ifCond .eq 24, 3) := by decide +kernel
theorem dX8_runScript_13 : decode cX8_runScript 13 = .ok (.lload_n 2, 1) := by decide +kernel
theorem dX8_runScript_14 : decode cX8_runScript 14 = .ok (.lconst 0, 1) := by decide +kernel
theorem dX8_runScript_15 : decode cX8_runScript 15 = .ok (.bipush 6, 2) := by decide +kernel
theorem dX8_runScript_17 : decode cX8_runScript 17 = .ok (.iload_n 1, 1) := by decide +kernel
theorem dX8_runScript_18 : decode cX8_runScript 18 = .ok (.imul, 1) := by decide +kernel
theorem dX8_runScript_19 : decode cX8_runScript 19 = .ok (.invokestatic 314, 3) := by decide +kernel
theorem dX8_runScript_22 : decode cX8_runScript 22 = .ok (.lconst 1, 1) := by decide +kernel
theorem dX8_runScript_23 : decode cX8_runScript 23 = .ok (.lsub, 1) := by decide +kernel
theorem dX8_runScript_24 : decode cX8_runScript 24 = .ok (.invokestatic 42, 3) := by decide +kernel
theorem dX8_runScript_27 : decode cX8_runScript 27 = .ok (.ifCond .eq 7, 3) := by decide +kernel
theorem dX8_runScript_30 : decode cX8_runScript 30 = .ok (.iconst 0, 1) := by decide +kernel
theorem dX8_runScript_31 : decode cX8_runScript 31 = .ok (.goto 4, 3) := by decide +kernel
theorem dX8_runScript_34 : decode cX8_runScript 34 = .ok (.iconst 1, 1) := by decide +kernel
theorem dX8_runScript_35 : decode cX8_runScript 35 = .ok (.invokevirtual 105, 3) := by decide +kernel
theorem dX8_runScript_38 : decode cX8_runScript 38 = .ok (.ifCond .eq 5, 3) := by decide +kernel
theorem dX8_runScript_41 : decode cX8_runScript 41 = .ok (.iconst 0, 1) := by decide +kernel
theorem dX8_runScript_42 : decode cX8_runScript 42 = .ok (.ireturn, 1) := by decide +kernel
theorem dX8_runScript_43 : decode cX8_runScript 43 = .ok (.aload_n 0, 1) := by decide +kernel
theorem dX8_runScript_44 : decode cX8_runScript 44 = .ok (.getfield 7, 3) := by decide +kernel
theorem dX8_runScript_47 : decode cX8_runScript 47 = .ok (.aload_n 0, 1) := by decide +kernel
theorem dX8_runScript_48 : decode cX8_runScript 48 = .ok (.getfield 13, 3) := by decide +kernel
theorem dX8_runScript_51 : decode cX8_runScript 51 = .ok (.invokestatic 208, 3) := by decide +kernel
theorem dX8_runScript_54 : decode cX8_runScript 54 = .ok (.iconst 0, 1) := by decide +kernel
theorem dX8_runScript_55 : decode cX8_runScript 55 = .ok (.istore 4, 2) := by decide +kernel
theorem dX8_runScript_57 : decode cX8_runScript 57 = .ok (.iload 4, 2) := by decide +kernel
theorem dX8_runScript_59 : decode cX8_runScript 59 = .ok (.iload_n 1, 1) := by decide +kernel
theorem dX8_runScript_60 : decode cX8_runScript 60 = .ok (.if_icmp .ge 38, 3) := by decide +kernel
theorem dX8_runScript_63 : decode cX8_runScript 63 = .ok (.aload_n 0, 1) := by decide +kernel
theorem dX8_runScript_64 : decode cX8_runScript 64 = .ok (.lload_n 2, 1) := by decide +kernel
theorem dX8_runScript_65 : decode cX8_runScript 65 = .ok (.bipush 6, 2) := by decide +kernel
theorem dX8_runScript_67 : decode cX8_runScript 67 = .ok (.iload_n 1, 1) := by decide +kernel
theorem dX8_runScript_68 : decode cX8_runScript 68 = .ok (.iconst 1, 1) := by decide +kernel
theorem dX8_runScript_69 : decode cX8_runScript 69 = .ok (.isub, 1) := by decide +kernel
theorem dX8_runScript_70 : decode cX8_runScript 70 = .ok (.iload 4, 2) := by decide +kernel
theorem dX8_runScript_72 : decode cX8_runScript 72 = .ok (.isub, 1) := by decide +kernel
theorem dX8_runScript_73 : decode cX8_runScript 73 = .ok (.imul, 1) := by decide +kernel
theorem dX8_runScript_74 : decode cX8_runScript 74 = .ok (.invokestatic 314, 3) := by decide +kernel
theorem dX8_runScript_77 : decode cX8_runScript 77 = .ok (.ldiv, 1) := by decide +kernel
theorem dX8_runScript_78 : decode cX8_runScript 78 = .ok (.ldc2_w 318, 3) := by decide +kernel
theorem dX8_runScript_81 : decode cX8_runScript 81 = .ok (.lrem, 1) := by decide +kernel
theorem dX8_runScript_82 : decode cX8_runScript 82 = .ok (.l2i, 1) := by decide +kernel
theorem dX8_runScript_83 : decode cX8_runScript 83 = .ok (.invokevirtual 320, 3) := by decide +kernel
theorem dX8_runScript_86 : decode cX8_runScript 86 = .ok (.ifCond .ne 6, 3) := by decide +kernel
theorem dX8_runScript_89 : decode cX8_runScript 89 = .ok (.iload 4, 2) := by decide +kernel
theorem dX8_runScript_91 : decode cX8_runScript 91 = .ok (.ireturn, 1) := by decide +kernel
theorem dX8_runScript_92 : decode cX8_runScript 92 = .ok (.iinc 4 1, 3) := by decide +kernel
theorem dX8_runScript_95 : decode cX8_runScript 95 = .ok (.goto (-38), 3) := by decide +kernel
theorem dX8_runScript_98 : decode cX8_runScript 98 = .ok (.iconst (-1), 1) := by decide +kernel
theorem dX8_runScript_99 : decode cX8_runScript 99 = .ok (.ireturn, 1) := by decide +kernel
theorem dX8_stir_0 : decode cX8_stir 0 = .ok (.iload_n 1, 1) := by decide +kernel
theorem dX8_stir_1 : decode cX8_stir 1 = .ok (.bipush 16, 2) := by decide +kernel
theorem dX8_stir_3 : decode cX8_stir 3 = .ok (.idiv, 1) := by decide +kernel
theorem dX8_stir_4 : decode cX8_stir 4 = .ok (.bipush 10, 2) := by decide +kernel
theorem dX8_stir_6 : decode cX8_stir 6 = .ok (.irem, 1) := by decide +kernel
theorem dX8_stir_7 : decode cX8_stir 7 = .ok (.istore_n 2, 1) := by decide +kernel
theorem dX8_stir_8 : decode cX8_stir 8 = .ok (.iload_n 1, 1) := by decide +kernel
theorem dX8_stir_9 : decode cX8_stir 9 = .ok (.bipush 16, 2) := by decide +kernel
theorem dX8_stir_11 : decode cX8_stir 11 = .ok (.idiv, 1) := by decide +kernel
theorem dX8_stir_12 : decode cX8_stir 12 = .ok (.bipush 24, 2) := by decide +kernel
theorem dX8_stir_14 : decode cX8_stir 14 = .ok (.irem, 1) := by decide +kernel
theorem dX8_stir_15 : decode cX8_stir 15 = .ok (.istore_n 3, 1) := by decide +kernel
theorem dX8_stir_16 : decode cX8_stir 16 = .ok (.iload_n 1, 1) := by decide +kernel
theorem dX8_stir_17 : decode cX8_stir 17 = .ok (.bipush 16, 2) := by decide +kernel
theorem dX8_stir_19 : decode cX8_stir 19 = .ok (.irem, 1) := by decide +kernel
theorem dX8_stir_20 : decode cX8_stir 20 = .ok (.tableswitch 301 0 13 #[72, 114, 114, 168, 178, 178, 178, 195, 195, 212, 222, 222, 222, 240], 72) := by decide +kernel
theorem dX8_stir_92 : decode cX8_stir 92 = .ok (.aload_n 0, 1) := by decide +kernel
theorem dX8_stir_93 : decode cX8_stir 93 = .ok (.getfield 13, 3) := by decide +kernel
theorem dX8_stir_96 : decode cX8_stir 96 = .ok (.iload_n 2, 1) := by decide +kernel
theorem dX8_stir_97 : decode cX8_stir 97 = .ok (.invokestatic 139, 3) := by decide +kernel
theorem dX8_stir_100 : decode cX8_stir 100 = .ok (.ifCond .eq 28, 3) := by decide +kernel
theorem dX8_stir_103 : decode cX8_stir 103 = .ok (.aload_n 0, 1) := by decide +kernel
theorem dX8_stir_104 : decode cX8_stir 104 = .ok (.getfield 13, 3) := by decide +kernel
theorem dX8_stir_107 : decode cX8_stir 107 = .ok (.invokestatic 142, 3) := by decide +kernel
theorem dX8_stir_110 : decode cX8_stir 110 = .ok (.ifCond .eq 18, 3) := by decide +kernel
theorem dX8_stir_113 : decode cX8_stir 113 = .ok (.aload_n 0, 1) := by decide +kernel
theorem dX8_stir_114 : decode cX8_stir 114 = .ok (.getfield 13, 3) := by decide +kernel
theorem dX8_stir_117 : decode cX8_stir 117 = .ok (.iload_n 2, 1) := by decide +kernel
theorem dX8_stir_118 : decode cX8_stir 118 = .ok (.invokestatic 150, 3) := by decide +kernel
theorem dX8_stir_121 : decode cX8_stir 121 = .ok (.ifCond .lt 7, 3) := by decide +kernel
theorem dX8_stir_124 : decode cX8_stir 124 = .ok (.iconst 1, 1) := by decide +kernel
theorem dX8_stir_125 : decode cX8_stir 125 = .ok (.goto 4, 3) := by decide +kernel
theorem dX8_stir_128 : decode cX8_stir 128 = .ok (.iconst 0, 1) := by decide +kernel
theorem dX8_stir_129 : decode cX8_stir 129 = .ok (.istore 4, 2) := by decide +kernel
theorem dX8_stir_131 : decode cX8_stir 131 = .ok (.goto 204, 3) := by decide +kernel
theorem dX8_stir_134 : decode cX8_stir 134 = .ok (.aload_n 0, 1) := by decide +kernel
theorem dX8_stir_135 : decode cX8_stir 135 = .ok (.getfield 13, 3) := by decide +kernel
theorem dX8_stir_138 : decode cX8_stir 138 = .ok (.iload_n 2, 1) := by decide +kernel
theorem dX8_stir_139 : decode cX8_stir 139 = .ok (.invokestatic 139, 3) := by decide +kernel
theorem dX8_stir_142 : decode cX8_stir 142 = .ok (.ifCond .eq 40, 3) := by decide +kernel
theorem dX8_stir_145 : decode cX8_stir 145 = .ok (.aload_n 0, 1) := by decide +kernel
theorem dX8_stir_146 : decode cX8_stir 146 = .ok (.getfield 13, 3) := by decide +kernel
theorem dX8_stir_149 : decode cX8_stir 149 = .ok (.iload_n 2, 1) := by decide +kernel
theorem dX8_stir_150 : decode cX8_stir 150 = .ok (.invokestatic 162, 3) := by decide +kernel
theorem dX8_stir_153 : decode cX8_stir 153 = .ok (.ifCond .eq 29, 3) := by decide +kernel
theorem dX8_stir_156 : decode cX8_stir 156 = .ok (.aload_n 0, 1) := by decide +kernel
theorem dX8_stir_157 : decode cX8_stir 157 = .ok (.getfield 13, 3) := by decide +kernel
theorem dX8_stir_160 : decode cX8_stir 160 = .ok (.iload_n 2, 1) := by decide +kernel
theorem dX8_stir_161 : decode cX8_stir 161 = .ok (.iconst 1, 1) := by decide +kernel
theorem dX8_stir_162 : decode cX8_stir 162 = .ok (.iload_n 1, 1) := by decide +kernel
theorem dX8_stir_163 : decode cX8_stir 163 = .ok (.sipush 256, 3) := by decide +kernel
theorem dX8_stir_166 : decode cX8_stir 166 = .ok (.idiv, 1) := by decide +kernel
theorem dX8_stir_167 : decode cX8_stir 167 = .ok (.sipush 4095, 3) := by decide +kernel
theorem dX8_stir_170 : decode cX8_stir 170 = .ok (.irem, 1) := by decide +kernel
theorem dX8_stir_171 : decode cX8_stir 171 = .ok (.iadd, 1) := by decide +kernel
theorem dX8_stir_172 : decode cX8_stir 172 = .ok (.invokestatic 165, 3) := by decide +kernel
theorem dX8_stir_175 : decode cX8_stir 175 = .ok (.ifCond .lt 7, 3) := by decide +kernel
theorem dX8_stir_178 : decode cX8_stir 178 = .ok (.iconst 1, 1) := by decide +kernel
theorem dX8_stir_179 : decode cX8_stir 179 = .ok (.goto 4, 3) := by decide +kernel
theorem dX8_stir_182 : decode cX8_stir 182 = .ok (.iconst 0, 1) := by decide +kernel
theorem dX8_stir_183 : decode cX8_stir 183 = .ok (.istore 4, 2) := by decide +kernel
theorem dX8_stir_185 : decode cX8_stir 185 = .ok (.goto 150, 3) := by decide +kernel
theorem dX8_stir_188 : decode cX8_stir 188 = .ok (.aload_n 0, 1) := by decide +kernel
theorem dX8_stir_189 : decode cX8_stir 189 = .ok (.iload_n 2, 1) := by decide +kernel
theorem dX8_stir_190 : decode cX8_stir 190 = .ok (.invokevirtual 311, 3) := by decide +kernel
theorem dX8_stir_193 : decode cX8_stir 193 = .ok (.istore 4, 2) := by decide +kernel
theorem dX8_stir_195 : decode cX8_stir 195 = .ok (.goto 140, 3) := by decide +kernel
theorem dX8_stir_198 : decode cX8_stir 198 = .ok (.aload_n 0, 1) := by decide +kernel
theorem dX8_stir_199 : decode cX8_stir 199 = .ok (.iload_n 2, 1) := by decide +kernel
theorem dX8_stir_200 : decode cX8_stir 200 = .ok (.iload_n 1, 1) := by decide +kernel
theorem dX8_stir_201 : decode cX8_stir 201 = .ok (.sipush 256, 3) := by decide +kernel
theorem dX8_stir_204 : decode cX8_stir 204 = .ok (.idiv, 1) := by decide +kernel
theorem dX8_stir_205 : decode cX8_stir 205 = .ok (.iconst 4, 1) := by decide +kernel
theorem dX8_stir_206 : decode cX8_stir 206 = .ok (.irem, 1) := by decide +kernel
theorem dX8_stir_207 : decode cX8_stir 207 = .ok (.invokevirtual 296, 3) := by decide +kernel
theorem dX8_stir_210 : decode cX8_stir 210 = .ok (.istore 4, 2) := by decide +kernel
theorem dX8_stir_212 : decode cX8_stir 212 = .ok (.goto 123, 3) := by decide +kernel
theorem dX8_stir_215 : decode cX8_stir 215 = .ok (.aload_n 0, 1) := by decide +kernel
theorem dX8_stir_216 : decode cX8_stir 216 = .ok (.iload_n 3, 1) := by decide +kernel
theorem dX8_stir_217 : decode cX8_stir 217 = .ok (.iload_n 1, 1) := by decide +kernel
theorem dX8_stir_218 : decode cX8_stir 218 = .ok (.sipush 512, 3) := by decide +kernel
theorem dX8_stir_221 : decode cX8_stir 221 = .ok (.idiv, 1) := by decide +kernel
theorem dX8_stir_222 : decode cX8_stir 222 = .ok (.iconst 3, 1) := by decide +kernel
theorem dX8_stir_223 : decode cX8_stir 223 = .ok (.irem, 1) := by decide +kernel
theorem dX8_stir_224 : decode cX8_stir 224 = .ok (.invokevirtual 299, 3) := by decide +kernel
theorem dX8_stir_227 : decode cX8_stir 227 = .ok (.istore 4, 2) := by decide +kernel
theorem dX8_stir_229 : decode cX8_stir 229 = .ok (.goto 106, 3) := by decide +kernel
theorem dX8_stir_232 : decode cX8_stir 232 = .ok (.aload_n 0, 1) := by decide +kernel
theorem dX8_stir_233 : decode cX8_stir 233 = .ok (.iload_n 3, 1) := by decide +kernel
theorem dX8_stir_234 : decode cX8_stir 234 = .ok (.invokevirtual 308, 3) := by decide +kernel
theorem dX8_stir_237 : decode cX8_stir 237 = .ok (.istore 4, 2) := by decide +kernel
theorem dX8_stir_239 : decode cX8_stir 239 = .ok (.goto 96, 3) := by decide +kernel
theorem dX8_stir_242 : decode cX8_stir 242 = .ok (.aload_n 0, 1) := by decide +kernel
theorem dX8_stir_243 : decode cX8_stir 243 = .ok (.iload_n 3, 1) := by decide +kernel
theorem dX8_stir_244 : decode cX8_stir 244 = .ok (.iload_n 1, 1) := by decide +kernel
theorem dX8_stir_245 : decode cX8_stir 245 = .ok (.sipush 512, 3) := by decide +kernel
theorem dX8_stir_248 : decode cX8_stir 248 = .ok (.idiv, 1) := by decide +kernel
theorem dX8_stir_249 : decode cX8_stir 249 = .ok (.bipush 12, 2) := by decide +kernel
theorem dX8_stir_251 : decode cX8_stir 251 = .ok (.irem, 1) := by decide +kernel
theorem dX8_stir_252 : decode cX8_stir 252 = .ok (.invokevirtual 302, 3) := by decide +kernel
theorem dX8_stir_255 : decode cX8_stir 255 = .ok (.istore 4, 2) := by decide +kernel
theorem dX8_stir_257 : decode cX8_stir 257 = .ok (.goto 78, 3) := by decide +kernel
theorem dX8_stir_260 : decode cX8_stir 260 = .ok (.aload_n 0, 1) := by decide +kernel
theorem dX8_stir_261 : decode cX8_stir 261 = .ok (.getfield 13, 3) := by decide +kernel
theorem dX8_stir_264 : decode cX8_stir 264 = .ok (.iload_n 1, 1) := by decide +kernel
theorem dX8_stir_265 : decode cX8_stir 265 = .ok (.bipush 16, 2) := by decide +kernel
theorem dX8_stir_267 : decode cX8_stir 267 = .ok (.idiv, 1) := by decide +kernel
theorem dX8_stir_268 : decode cX8_stir 268 = .ok (.bipush 30, 2) := by decide +kernel
theorem dX8_stir_270 : decode cX8_stir 270 = .ok (.irem, 1) := by decide +kernel
theorem dX8_stir_271 : decode cX8_stir 271 = .ok (.invokestatic 243, 3) := by decide +kernel
theorem dX8_stir_274 : decode cX8_stir 274 = .ok (.ifCond .eq 41, 3) := by decide +kernel
theorem dX8_stir_277 : decode cX8_stir 277 = .ok (.aload_n 0, 1) := by decide +kernel
theorem dX8_stir_278 : decode cX8_stir 278 = .ok (.getfield 13, 3) := by decide +kernel
theorem dX8_stir_281 : decode cX8_stir 281 = .ok (.iload_n 1, 1) := by decide +kernel
theorem dX8_stir_282 : decode cX8_stir 282 = .ok (.bipush 16, 2) := by decide +kernel
theorem dX8_stir_284 : decode cX8_stir 284 = .ok (.idiv, 1) := by decide +kernel
theorem dX8_stir_285 : decode cX8_stir 285 = .ok (.bipush 30, 2) := by decide +kernel
theorem dX8_stir_287 : decode cX8_stir 287 = .ok (.irem, 1) := by decide +kernel
theorem dX8_stir_288 : decode cX8_stir 288 = .ok (.invokestatic 81, 3) := by decide +kernel
theorem dX8_stir_291 : decode cX8_stir 291 = .ok (.ifCond .eq 24, 3) := by decide +kernel
theorem dX8_stir_294 : decode cX8_stir 294 = .ok (.aload_n 0, 1) := by decide +kernel
theorem dX8_stir_295 : decode cX8_stir 295 = .ok (.getfield 13, 3) := by decide +kernel
theorem dX8_stir_298 : decode cX8_stir 298 = .ok (.iload_n 1, 1) := by decide +kernel
theorem dX8_stir_299 : decode cX8_stir 299 = .ok (.bipush 16, 2) := by decide +kernel
theorem dX8_stir_301 : decode cX8_stir 301 = .ok (.idiv, 1) := by decide +kernel
theorem dX8_stir_302 : decode cX8_stir 302 = .ok (.bipush 30, 2) := by decide +kernel
theorem dX8_stir_304 : decode cX8_stir 304 = .ok (.irem, 1) := by decide +kernel
theorem dX8_stir_305 : decode cX8_stir 305 = .ok (.invokestatic 272, 3) := by decide +kernel
theorem dX8_stir_308 : decode cX8_stir 308 = .ok (.ifCond .lt 7, 3) := by decide +kernel
theorem dX8_stir_311 : decode cX8_stir 311 = .ok (.iconst 1, 1) := by decide +kernel
theorem dX8_stir_312 : decode cX8_stir 312 = .ok (.goto 4, 3) := by decide +kernel
theorem dX8_stir_315 : decode cX8_stir 315 = .ok (.iconst 0, 1) := by decide +kernel
theorem dX8_stir_316 : decode cX8_stir 316 = .ok (.istore 4, 2) := by decide +kernel
theorem dX8_stir_318 : decode cX8_stir 318 = .ok (.goto 17, 3) := by decide +kernel
theorem dX8_stir_321 : decode cX8_stir 321 = .ok (.aload_n 0, 1) := by decide +kernel
theorem dX8_stir_322 : decode cX8_stir 322 = .ok (.iconst 1, 1) := by decide +kernel
theorem dX8_stir_323 : decode cX8_stir 323 = .ok (.iload_n 1, 1) := by decide +kernel
theorem dX8_stir_324 : decode cX8_stir 324 = .ok (.bipush 16, 2) := by decide +kernel
theorem dX8_stir_326 : decode cX8_stir 326 = .ok (.idiv, 1) := by decide +kernel
theorem dX8_stir_327 : decode cX8_stir 327 = .ok (.iconst 5, 1) := by decide +kernel
theorem dX8_stir_328 : decode cX8_stir 328 = .ok (.irem, 1) := by decide +kernel
theorem dX8_stir_329 : decode cX8_stir 329 = .ok (.iadd, 1) := by decide +kernel
theorem dX8_stir_330 : decode cX8_stir 330 = .ok (.invokevirtual 305, 3) := by decide +kernel
theorem dX8_stir_333 : decode cX8_stir 333 = .ok (.istore 4, 2) := by decide +kernel
theorem dX8_stir_335 : decode cX8_stir 335 = .ok (.return_, 1) := by decide +kernel
theorem dX8_simulate_0 : decode cX8_simulate 0 = .ok (.aload_n 0, 1) := by decide +kernel
theorem dX8_simulate_1 : decode cX8_simulate 1 = .ok (.iload_n 3, 1) := by decide +kernel
theorem dX8_simulate_2 : decode cX8_simulate 2 = .ok (.i2l, 1) := by decide +kernel
theorem dX8_simulate_3 : decode cX8_simulate 3 = .ok (.lconst 1, 1) := by decide +kernel
theorem dX8_simulate_4 : decode cX8_simulate 4 = .ok (.ldc2_w 323, 3) := by decide +kernel
theorem dX8_simulate_7 : decode cX8_simulate 7 = .ok (.invokestatic 42, 3) := by decide +kernel
theorem dX8_simulate_10 : decode cX8_simulate 10 = .ok (.ifCond .eq 7, 3) := by decide +kernel
theorem dX8_simulate_13 : decode cX8_simulate 13 = .ok (.iconst 0, 1) := by decide +kernel
theorem dX8_simulate_14 : decode cX8_simulate 14 = .ok (.goto 4, 3) := by decide +kernel
theorem dX8_simulate_17 : decode cX8_simulate 17 = .ok (.iconst 1, 1) := by decide +kernel
theorem dX8_simulate_18 : decode cX8_simulate 18 = .ok (.invokevirtual 105, 3) := by decide +kernel
theorem dX8_simulate_21 : decode cX8_simulate 21 = .ok (.ifCond .eq 5, 3) := by decide +kernel
theorem dX8_simulate_24 : decode cX8_simulate 24 = .ok (.iconst 0, 1) := by decide +kernel
theorem dX8_simulate_25 : decode cX8_simulate 25 = .ok (.ireturn, 1) := by decide +kernel
theorem dX8_simulate_26 : decode cX8_simulate 26 = .ok (.aload_n 0, 1) := by decide +kernel
theorem dX8_simulate_27 : decode cX8_simulate 27 = .ok (.getfield 7, 3) := by decide +kernel
theorem dX8_simulate_30 : decode cX8_simulate 30 = .ok (.aload_n 0, 1) := by decide +kernel
theorem dX8_simulate_31 : decode cX8_simulate 31 = .ok (.getfield 13, 3) := by decide +kernel
theorem dX8_simulate_34 : decode cX8_simulate 34 = .ok (.invokestatic 208, 3) := by decide +kernel
theorem dX8_simulate_37 : decode cX8_simulate 37 = .ok (.lload_n 1, 1) := by decide +kernel
theorem dX8_simulate_38 : decode cX8_simulate 38 = .ok (.lstore 4, 2) := by decide +kernel
theorem dX8_simulate_40 : decode cX8_simulate 40 = .ok (.iconst 0, 1) := by decide +kernel
theorem dX8_simulate_41 : decode cX8_simulate 41 = .ok (.istore 6, 2) := by decide +kernel
theorem dX8_simulate_43 : decode cX8_simulate 43 = .ok (.iload 6, 2) := by decide +kernel
theorem dX8_simulate_45 : decode cX8_simulate 45 = .ok (.iload_n 3, 1) := by decide +kernel
theorem dX8_simulate_46 : decode cX8_simulate 46 = .ok (.if_icmp .ge 31, 3) := by decide +kernel
theorem dX8_simulate_49 : decode cX8_simulate 49 = .ok (.lload 4, 2) := by decide +kernel
theorem dX8_simulate_51 : decode cX8_simulate 51 = .ok (.ldc2_w 325, 3) := by decide +kernel
theorem dX8_simulate_54 : decode cX8_simulate 54 = .ok (.lmul, 1) := by decide +kernel
theorem dX8_simulate_55 : decode cX8_simulate 55 = .ok (.ldc2_w 327, 3) := by decide +kernel
theorem dX8_simulate_58 : decode cX8_simulate 58 = .ok (.ladd, 1) := by decide +kernel
theorem dX8_simulate_59 : decode cX8_simulate 59 = .ok (.lstore 4, 2) := by decide +kernel
theorem dX8_simulate_61 : decode cX8_simulate 61 = .ok (.aload_n 0, 1) := by decide +kernel
theorem dX8_simulate_62 : decode cX8_simulate 62 = .ok (.lload 4, 2) := by decide +kernel
theorem dX8_simulate_64 : decode cX8_simulate 64 = .ok (.bipush 33, 2) := by decide +kernel
theorem dX8_simulate_66 : decode cX8_simulate 66 = .ok (.lushr, 1) := by decide +kernel
theorem dX8_simulate_67 : decode cX8_simulate 67 = .ok (.l2i, 1) := by decide +kernel
theorem dX8_simulate_68 : decode cX8_simulate 68 = .ok (.invokevirtual 329, 3) := by decide +kernel
theorem dX8_simulate_71 : decode cX8_simulate 71 = .ok (.iinc 6 1, 3) := by decide +kernel
theorem dX8_simulate_74 : decode cX8_simulate 74 = .ok (.goto (-31), 3) := by decide +kernel
theorem dX8_simulate_77 : decode cX8_simulate 77 = .ok (.aload_n 0, 1) := by decide +kernel
theorem dX8_simulate_78 : decode cX8_simulate 78 = .ok (.getfield 13, 3) := by decide +kernel
theorem dX8_simulate_81 : decode cX8_simulate 81 = .ok (.iconst 4, 1) := by decide +kernel
theorem dX8_simulate_82 : decode cX8_simulate 82 = .ok (.iaload, 1) := by decide +kernel
theorem dX8_simulate_83 : decode cX8_simulate 83 = .ok (.aload_n 0, 1) := by decide +kernel
theorem dX8_simulate_84 : decode cX8_simulate 84 = .ok (.getfield 7, 3) := by decide +kernel
theorem dX8_simulate_87 : decode cX8_simulate 87 = .ok (.iconst 4, 1) := by decide +kernel
theorem dX8_simulate_88 : decode cX8_simulate 88 = .ok (.iaload, 1) := by decide +kernel
theorem dX8_simulate_89 : decode cX8_simulate 89 = .ok (.isub, 1) := by decide +kernel
theorem dX8_simulate_90 : decode cX8_simulate 90 = .ok (.istore 6, 2) := by decide +kernel
theorem dX8_simulate_92 : decode cX8_simulate 92 = .ok (.sipush 1000, 3) := by decide +kernel
theorem dX8_simulate_95 : decode cX8_simulate 95 = .ok (.aload_n 0, 1) := by decide +kernel
theorem dX8_simulate_96 : decode cX8_simulate 96 = .ok (.getfield 13, 3) := by decide +kernel
theorem dX8_simulate_99 : decode cX8_simulate 99 = .ok (.invokestatic 90, 3) := by decide +kernel
theorem dX8_simulate_102 : decode cX8_simulate 102 = .ok (.imul, 1) := by decide +kernel
theorem dX8_simulate_103 : decode cX8_simulate 103 = .ok (.iload 6, 2) := by decide +kernel
theorem dX8_simulate_105 : decode cX8_simulate 105 = .ok (.sipush 999, 3) := by decide +kernel
theorem dX8_simulate_108 : decode cX8_simulate 108 = .ok (.if_icmp .ge 8, 3) := by decide +kernel
theorem dX8_simulate_111 : decode cX8_simulate 111 = .ok (.iload 6, 2) := by decide +kernel
theorem dX8_simulate_113 : decode cX8_simulate 113 = .ok (.goto 6, 3) := by decide +kernel
theorem dX8_simulate_116 : decode cX8_simulate 116 = .ok (.sipush 999, 3) := by decide +kernel
theorem dX8_simulate_119 : decode cX8_simulate 119 = .ok (.iadd, 1) := by decide +kernel
theorem dX8_simulate_120 : decode cX8_simulate 120 = .ok (.ireturn, 1) := by decide +kernel
theorem dX8_save_0 : decode cX8_save 0 = .ok (.aload_n 0, 1) := by decide +kernel
theorem dX8_save_1 : decode cX8_save 1 = .ok (.iload_n 1, 1) := by decide +kernel
theorem dX8_save_2 : decode cX8_save 2 = .ok (.i2l, 1) := by decide +kernel
theorem dX8_save_3 : decode cX8_save 3 = .ok (.lconst 0, 1) := by decide +kernel
theorem dX8_save_4 : decode cX8_save 4 = .ok (.lconst 1, 1) := by decide +kernel
theorem dX8_save_5 : decode cX8_save 5 = .ok (.invokestatic 42, 3) := by decide +kernel
theorem dX8_save_8 : decode cX8_save 8 = .ok (.ifCond .eq 7, 3) := by decide +kernel
theorem dX8_save_11 : decode cX8_save 11 = .ok (.iconst 0, 1) := by decide +kernel
theorem dX8_save_12 : decode cX8_save 12 = .ok (.goto 4, 3) := by decide +kernel
theorem dX8_save_15 : decode cX8_save 15 = .ok (.iconst 1, 1) := by decide +kernel
theorem dX8_save_16 : decode cX8_save 16 = .ok (.invokevirtual 105, 3) := by decide +kernel
theorem dX8_save_19 : decode cX8_save 19 = .ok (.ifCond .eq 5, 3) := by decide +kernel
theorem dX8_save_22 : decode cX8_save 22 = .ok (.iconst 0, 1) := by decide +kernel
theorem dX8_save_23 : decode cX8_save 23 = .ok (.ireturn, 1) := by decide +kernel
theorem dX8_save_24 : decode cX8_save 24 = .ok (.iconst 0, 1) := by decide +kernel
theorem dX8_save_25 : decode cX8_save 25 = .ok (.istore_n 2, 1) := by decide +kernel
theorem dX8_save_26 : decode cX8_save 26 = .ok (.iload_n 2, 1) := by decide +kernel
theorem dX8_save_27 : decode cX8_save 27 = .ok (.sipush 414, 3) := by decide +kernel
theorem dX8_save_30 : decode cX8_save 30 = .ok (.if_icmp .ge 27, 3) := by decide +kernel
theorem dX8_save_33 : decode cX8_save 33 = .ok (.aload_n 0, 1) := by decide +kernel
theorem dX8_save_34 : decode cX8_save 34 = .ok (.getfield 22, 3) := by decide +kernel
theorem dX8_save_37 : decode cX8_save 37 = .ok (.sipush 414, 3) := by decide +kernel
theorem dX8_save_40 : decode cX8_save 40 = .ok (.iload_n 1, 1) := by decide +kernel
theorem dX8_save_41 : decode cX8_save 41 = .ok (.imul, 1) := by decide +kernel
theorem dX8_save_42 : decode cX8_save 42 = .ok (.iload_n 2, 1) := by decide +kernel
theorem dX8_save_43 : decode cX8_save 43 = .ok (.iadd, 1) := by decide +kernel
theorem dX8_save_44 : decode cX8_save 44 = .ok (.aload_n 0, 1) := by decide +kernel
theorem dX8_save_45 : decode cX8_save 45 = .ok (.getfield 7, 3) := by decide +kernel
theorem dX8_save_48 : decode cX8_save 48 = .ok (.iload_n 2, 1) := by decide +kernel
theorem dX8_save_49 : decode cX8_save 49 = .ok (.iaload, 1) := by decide +kernel
theorem dX8_save_50 : decode cX8_save 50 = .ok (.iastore, 1) := by decide +kernel
theorem dX8_save_51 : decode cX8_save 51 = .ok (.iinc 2 1, 3) := by decide +kernel
theorem dX8_save_54 : decode cX8_save 54 = .ok (.goto (-28), 3) := by decide +kernel
theorem dX8_save_57 : decode cX8_save 57 = .ok (.aload_n 0, 1) := by decide +kernel
theorem dX8_save_58 : decode cX8_save 58 = .ok (.getfield 25, 3) := by decide +kernel
theorem dX8_save_61 : decode cX8_save 61 = .ok (.iload_n 1, 1) := by decide +kernel
theorem dX8_save_62 : decode cX8_save 62 = .ok (.iconst 1, 1) := by decide +kernel
theorem dX8_save_63 : decode cX8_save 63 = .ok (.bastore, 1) := by decide +kernel
theorem dX8_save_64 : decode cX8_save 64 = .ok (.aload_n 0, 1) := by decide +kernel
theorem dX8_save_65 : decode cX8_save 65 = .ok (.getfield 7, 3) := by decide +kernel
theorem dX8_save_68 : decode cX8_save 68 = .ok (.iconst 3, 1) := by decide +kernel
theorem dX8_save_69 : decode cX8_save 69 = .ok (.iaload, 1) := by decide +kernel
theorem dX8_save_70 : decode cX8_save 70 = .ok (.ireturn, 1) := by decide +kernel
theorem dX8_restore_0 : decode cX8_restore 0 = .ok (.aload_n 0, 1) := by decide +kernel
theorem dX8_restore_1 : decode cX8_restore 1 = .ok (.iload_n 1, 1) := by decide +kernel
theorem dX8_restore_2 : decode cX8_restore 2 = .ok (.i2l, 1) := by decide +kernel
theorem dX8_restore_3 : decode cX8_restore 3 = .ok (.lconst 0, 1) := by decide +kernel
theorem dX8_restore_4 : decode cX8_restore 4 = .ok (.lconst 1, 1) := by decide +kernel
theorem dX8_restore_5 : decode cX8_restore 5 = .ok (.invokestatic 42, 3) := by decide +kernel
theorem dX8_restore_8 : decode cX8_restore 8 = .ok (.ifCond .ne 7, 3) := by decide +kernel
theorem dX8_restore_11 : decode cX8_restore 11 = .ok (.iconst 1, 1) := by decide +kernel
theorem dX8_restore_12 : decode cX8_restore 12 = .ok (.goto 17, 3) := by decide +kernel
theorem dX8_restore_15 : decode cX8_restore 15 = .ok (.aload_n 0, 1) := by decide +kernel
theorem dX8_restore_16 : decode cX8_restore 16 = .ok (.getfield 25, 3) := by decide +kernel
theorem dX8_restore_19 : decode cX8_restore 19 = .ok (.iload_n 1, 1) := by decide +kernel
theorem dX8_restore_20 : decode cX8_restore 20 = .ok (.baload, 1) := by decide +kernel
theorem dX8_restore_21 : decode cX8_restore 21 = .ok (.ifCond .ne 7, 3) := by decide +kernel
theorem dX8_restore_24 : decode cX8_restore 24 = .ok (.iconst 2, 1) := by decide +kernel
theorem dX8_restore_25 : decode cX8_restore 25 = .ok (.goto 4, 3) := by decide +kernel
theorem dX8_restore_28 : decode cX8_restore 28 = .ok (.iconst 0, 1) := by decide +kernel
theorem dX8_restore_29 : decode cX8_restore 29 = .ok (.invokevirtual 105, 3) := by decide +kernel
theorem dX8_restore_32 : decode cX8_restore 32 = .ok (.ifCond .eq 5, 3) := by decide +kernel
theorem dX8_restore_35 : decode cX8_restore 35 = .ok (.iconst 0, 1) := by decide +kernel
theorem dX8_restore_36 : decode cX8_restore 36 = .ok (.ireturn, 1) := by decide +kernel
theorem dX8_restore_37 : decode cX8_restore 37 = .ok (.iconst 0, 1) := by decide +kernel
theorem dX8_restore_38 : decode cX8_restore 38 = .ok (.istore_n 2, 1) := by decide +kernel
theorem dX8_restore_39 : decode cX8_restore 39 = .ok (.iload_n 2, 1) := by decide +kernel
theorem dX8_restore_40 : decode cX8_restore 40 = .ok (.sipush 414, 3) := by decide +kernel
theorem dX8_restore_43 : decode cX8_restore 43 = .ok (.if_icmp .ge 27, 3) := by decide +kernel
theorem dX8_restore_46 : decode cX8_restore 46 = .ok (.aload_n 0, 1) := by decide +kernel
theorem dX8_restore_47 : decode cX8_restore 47 = .ok (.getfield 7, 3) := by decide +kernel
theorem dX8_restore_50 : decode cX8_restore 50 = .ok (.iload_n 2, 1) := by decide +kernel
theorem dX8_restore_51 : decode cX8_restore 51 = .ok (.aload_n 0, 1) := by decide +kernel
theorem dX8_restore_52 : decode cX8_restore 52 = .ok (.getfield 22, 3) := by decide +kernel
theorem dX8_restore_55 : decode cX8_restore 55 = .ok (.sipush 414, 3) := by decide +kernel
theorem dX8_restore_58 : decode cX8_restore 58 = .ok (.iload_n 1, 1) := by decide +kernel
theorem dX8_restore_59 : decode cX8_restore 59 = .ok (.imul, 1) := by decide +kernel
theorem dX8_restore_60 : decode cX8_restore 60 = .ok (.iload_n 2, 1) := by decide +kernel
theorem dX8_restore_61 : decode cX8_restore 61 = .ok (.iadd, 1) := by decide +kernel
theorem dX8_restore_62 : decode cX8_restore 62 = .ok (.iaload, 1) := by decide +kernel
theorem dX8_restore_63 : decode cX8_restore 63 = .ok (.iastore, 1) := by decide +kernel
theorem dX8_restore_64 : decode cX8_restore 64 = .ok (.iinc 2 1, 3) := by decide +kernel
theorem dX8_restore_67 : decode cX8_restore 67 = .ok (.goto (-28), 3) := by decide +kernel
theorem dX8_restore_70 : decode cX8_restore 70 = .ok (.aload_n 0, 1) := by decide +kernel
theorem dX8_restore_71 : decode cX8_restore 71 = .ok (.iconst 0, 1) := by decide +kernel
theorem dX8_restore_72 : decode cX8_restore 72 = .ok (.putfield 97, 3) := by decide +kernel
theorem dX8_restore_75 : decode cX8_restore 75 = .ok (.aload_n 0, 1) := by decide +kernel
theorem dX8_restore_76 : decode cX8_restore 76 = .ok (.getfield 7, 3) := by decide +kernel
theorem dX8_restore_79 : decode cX8_restore 79 = .ok (.iconst 3, 1) := by decide +kernel
theorem dX8_restore_80 : decode cX8_restore 80 = .ok (.iaload, 1) := by decide +kernel
theorem dX8_restore_81 : decode cX8_restore 81 = .ok (.ireturn, 1) := by decide +kernel
