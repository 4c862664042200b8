theorem dX7_init_0 : decode cX7_init 0 = .ok (.aload_n 0, 1) := by decide +kernel
theorem dX7_init_1 : decode cX7_init 1 = .ok (.invokespecial 3, 3) := by decide +kernel
theorem dX7_init_4 : decode cX7_init 4 = .ok (.aload_n 0, 1) := by decide +kernel
theorem dX7_init_5 : decode cX7_init 5 = .ok (.new 9, 3) := by decide +kernel
theorem dX7_init_8 : decode cX7_init 8 = .ok (.dup, 1) := by decide +kernel
theorem dX7_init_9 : decode cX7_init 9 = .ok (.invokespecial 11, 3) := by decide +kernel
theorem dX7_init_12 : decode cX7_init 12 = .ok (.putfield 12, 3) := by decide +kernel
theorem dX7_init_15 : decode cX7_init 15 = .ok (.aload_n 0, 1) := by decide +kernel
theorem dX7_init_16 : decode cX7_init 16 = .ok (.new 16, 3) := by decide +kernel
theorem dX7_init_19 : decode cX7_init 19 = .ok (.dup, 1) := by decide +kernel
theorem dX7_init_20 : decode cX7_init 20 = .ok (.invokespecial 18, 3) := by decide +kernel
theorem dX7_init_23 : decode cX7_init 23 = .ok (.putfield 19, 3) := by decide +kernel
theorem dX7_init_26 : decode cX7_init 26 = .ok (.aload_n 0, 1) := by decide +kernel
theorem dX7_init_27 : decode cX7_init 27 = .ok (.new 16, 3) := by decide +kernel
theorem dX7_init_30 : decode cX7_init 30 = .ok (.dup, 1) := by decide +kernel
theorem dX7_init_31 : decode cX7_init 31 = .ok (.invokespecial 18, 3) := by decide +kernel
theorem dX7_init_34 : decode cX7_init 34 = .ok (.putfield 23, 3) := by decide +kernel
theorem dX7_init_37 : decode cX7_init 37 = .ok (.aload_n 0, 1) := by decide +kernel
theorem dX7_init_38 : decode cX7_init 38 = .ok (.new 26, 3) := by decide +kernel
theorem dX7_init_41 : decode cX7_init 41 = .ok (.dup, 1) := by decide +kernel
theorem dX7_init_42 : decode cX7_init 42 = .ok (.invokespecial 28, 3) := by decide +kernel
theorem dX7_init_45 : decode cX7_init 45 = .ok (.putfield 29, 3) := by decide +kernel
theorem dX7_init_48 : decode cX7_init 48 = .ok (.aload_n 0, 1) := by decide +kernel
theorem dX7_init_49 : decode cX7_init 49 = .ok (.new 33, 3) := by decide +kernel
theorem dX7_init_52 : decode cX7_init 52 = .ok (.dup, 1) := by decide +kernel
theorem dX7_init_53 : decode cX7_init 53 = .ok (.invokespecial 35, 3) := by decide +kernel
theorem dX7_init_56 : decode cX7_init 56 = .ok (.putfield 36, 3) := by decide +kernel
theorem dX7_init_59 : decode cX7_init 59 = .ok (.return_, 1) := by decide +kernel
theorem dX7_append_0 : decode cX7_append 0 = .ok (.iload_n 1, 1) := by decide +kernel
theorem dX7_append_1 : decode cX7_append 1 = .ok (.ifCond .lt 10, 3) := by decide +kernel
theorem dX7_append_4 : decode cX7_append 4 = .ok (.iload_n 1, 1) := by decide +kernel
theorem dX7_append_5 : decode cX7_append 5 = .ok (.sipush 255, 3) := by decide +kernel
theorem dX7_append_8 : decode cX7_append 8 = .ok (.if_icmp .le 13, 3) := by decide +kernel
theorem dX7_append_11 : decode cX7_append 11 = .ok (.new 40, 3) := by decide +kernel
theorem dX7_append_14 : decode cX7_append 14 = .ok (.dup, 1) := by decide +kernel
theorem dX7_append_15 : decode cX7_append 15 = .ok (.ldc 42, 2) := by decide +kernel
theorem dX7_append_17 : decode cX7_append 17 = .ok (.invokespecial 44, 3) := by decide +kernel
theorem dX7_append_20 : decode cX7_append 20 = .ok (.athrow, 1) := by decide +kernel
theorem dX7_append_21 : decode cX7_append 21 = .ok (.aload_n 0, 1) := by decide +kernel
theorem dX7_append_22 : decode cX7_append 22 = .ok (.getfield 12, 3) := by decide +kernel
theorem dX7_append_25 : decode cX7_append 25 = .ok (.invokevirtual 47, 3) := by decide +kernel
theorem dX7_append_28 : decode cX7_append 28 = .ok (.ifCond .eq 13, 3) := by decide +kernel
theorem dX7_append_31 : decode cX7_append 31 = .ok (.new 51, 3) := by decide +kernel
theorem dX7_append_34 : decode cX7_append 34 = .ok (.dup, 1) := by decide +kernel
theorem dX7_append_35 : decode cX7_append 35 = .ok (.ldc 53, 2) := by decide +kernel
theorem dX7_append_37 : decode cX7_append 37 = .ok (.invokespecial 55, 3) := by decide +kernel
theorem dX7_append_40 : decode cX7_append 40 = .ok (.athrow, 1) := by decide +kernel
theorem dX7_append_41 : decode cX7_append 41 = .ok (.aload_n 0, 1) := by decide +kernel
theorem dX7_append_42 : decode cX7_append 42 = .ok (.getfield 12, 3) := by decide +kernel
theorem dX7_append_45 : decode cX7_append 45 = .ok (.iload_n 1, 1) := by decide +kernel
theorem dX7_append_46 : decode cX7_append 46 = .ok (.i2c, 1) := by decide +kernel
theorem dX7_append_47 : decode cX7_append 47 = .ok (.invokevirtual 56, 3) := by decide +kernel
theorem dX7_append_50 : decode cX7_append 50 = .ok (.ireturn, 1) := by decide +kernel
theorem dX7_clearText_0 : decode cX7_clearText 0 = .ok (.aload_n 0, 1) := by decide +kernel
theorem dX7_clearText_1 : decode cX7_clearText 1 = .ok (.getfield 12, 3) := by decide +kernel
theorem dX7_clearText_4 : decode cX7_clearText 4 = .ok (.invokevirtual 60, 3) := by decide +kernel
theorem dX7_clearText_7 : decode cX7_clearText 7 = .ok (.ireturn, 1) := by decide +kernel
theorem dX7_errorPosition_0 : decode cX7_errorPosition 0 = .ok (.aload_n 0, 1) := by decide +kernel
theorem dX7_errorPosition_1 : decode cX7_errorPosition 1 = .ok (.getfield 12, 3) := by decide +kernel
theorem dX7_errorPosition_4 : decode cX7_errorPosition 4 = .ok (.invokevirtual 64, 3) := by decide +kernel
theorem dX7_errorPosition_7 : decode cX7_errorPosition 7 = .ok (.ireturn, 1) := by decide +kernel
theorem dX7_load_0 : decode cX7_load 0 = .ok (.aload_n 0, 1) := by decide +kernel
theorem dX7_load_1 : decode cX7_load 1 = .ok (.getfield 12, 3) := by decide +kernel
theorem dX7_load_4 : decode cX7_load 4 = .ok (.invokevirtual 64, 3) := by decide +kernel
theorem dX7_load_7 : decode cX7_load 7 = .ok (.iconst (-1), 1) := by decide +kernel
theorem dX7_load_8 : decode cX7_load 8 = .ok (.if_icmp .eq 13, 3) := by decide +kernel
theorem dX7_load_11 : decode cX7_load 11 = .ok (.new 51, 3) := by decide +kernel
theorem dX7_load_14 : decode cX7_load 14 = .ok (.dup, 1) := by decide +kernel
theorem dX7_load_15 : decode cX7_load 15 = .ok (.ldc 67, 2) := by decide +kernel
theorem dX7_load_17 : decode cX7_load 17 = .ok (.invokespecial 55, 3) := by decide +kernel
theorem dX7_load_20 : decode cX7_load 20 = .ok (.athrow, 1) := by decide +kernel
theorem dX7_load_21 : decode cX7_load 21 = .ok (.aload_n 0, 1) := by decide +kernel
theorem dX7_load_22 : decode cX7_load 22 = .ok (.getfield 19, 3) := by decide +kernel
theorem dX7_load_25 : decode cX7_load 25 = .ok (.invokevirtual 69, 3) := by decide +kernel
theorem dX7_load_28 : decode cX7_load 28 = .ok (.aload_n 0, 1) := by decide +kernel
theorem dX7_load_29 : decode cX7_load 29 = .ok (.getfield 29, 3) := by decide +kernel
theorem dX7_load_32 : decode cX7_load 32 = .ok (.invokevirtual 72, 3) := by decide +kernel
theorem dX7_load_35 : decode cX7_load 35 = .ok (.aload_n 0, 1) := by decide +kernel
theorem dX7_load_36 : decode cX7_load 36 = .ok (.getfield 36, 3) := by decide +kernel
theorem dX7_load_39 : decode cX7_load 39 = .ok (.invokevirtual 73, 3) := by decide +kernel
theorem dX7_load_42 : decode cX7_load 42 = .ok (.iconst 0, 1) := by decide +kernel
theorem dX7_load_43 : decode cX7_load 43 = .ok (.istore_n 1, 1) := by decide +kernel
theorem dX7_load_44 : decode cX7_load 44 = .ok (.iconst 0, 1) := by decide +kernel
theorem dX7_load_45 : decode cX7_load 45 = .ok (.istore_n 2, 1) := by decide +kernel
theorem dX7_load_46 : decode cX7_load 46 = .ok (.iload_n 2, 1) := by decide +kernel
theorem dX7_load_47 : decode cX7_load 47 = .ok (.aload_n 0, 1) := by decide +kernel
theorem dX7_load_48 : decode cX7_load 48 = .ok (.getfield 12, 3) := by decide +kernel
theorem dX7_load_51 : decode cX7_load 51 = .ok (.invokevirtual 74, 3) := by decide +kernel
theorem dX7_load_54 : decode cX7_load 54 = .ok (.if_icmp .ge 20, 3) := by decide +kernel
theorem dX7_load_57 : decode cX7_load 57 = .ok (.aload_n 0, 1) := by decide +kernel
theorem dX7_load_58 : decode cX7_load 58 = .ok (.iload_n 2, 1) := by decide +kernel
theorem dX7_load_59 : decode cX7_load 59 = .ok (.invokevirtual 77, 3) := by decide +kernel
theorem dX7_load_62 : decode cX7_load 62 = .ok (.ifCond .ge 6, 3) := by decide +kernel
theorem dX7_load_65 : decode cX7_load 65 = .ok (.iinc 1 1, 3) := by decide +kernel
theorem dX7_load_68 : decode cX7_load 68 = .ok (.iinc 2 1, 3) := by decide +kernel
theorem dX7_load_71 : decode cX7_load 71 = .ok (.goto (-25), 3) := by decide +kernel
theorem dX7_load_74 : decode cX7_load 74 = .ok (.iload_n 1, 1) := by decide +kernel
theorem dX7_load_75 : decode cX7_load 75 = .ok (.ireturn, 1) := by decide +kernel
theorem dX7_about_0 : decode cX7_about 0 = .ok (.iload_n 1, 1) := by decide +kernel
theorem dX7_about_1 : decode cX7_about 1 = .ok (.ifCond .lt 9, 3) := by decide +kernel
theorem dX7_about_4 : decode cX7_about 4 = .ok (.iload_n 1, 1) := by decide +kernel
theorem dX7_about_5 : decode cX7_about 5 = .ok (.bipush 9, 2) := by decide +kernel
theorem dX7_about_7 : decode cX7_about 7 = .ok (.if_icmp .le 13, 3) := by decide +kernel
theorem dX7_about_10 : decode cX7_about 10 = .ok (.new 40, 3) := by decide +kernel
theorem dX7_about_13 : decode cX7_about 13 = .ok (.dup, 1) := by decide +kernel
theorem dX7_about_14 : decode cX7_about 14 = .ok (.ldc 81, 2) := by decide +kernel
theorem dX7_about_16 : decode cX7_about 16 = .ok (.invokespecial 44, 3) := by decide +kernel
theorem dX7_about_19 : decode cX7_about 19 = .ok (.athrow, 1) := by decide +kernel
theorem dX7_about_20 : decode cX7_about 20 = .ok (.aload_n 0, 1) := by decide +kernel
theorem dX7_about_21 : decode cX7_about 21 = .ok (.getfield 19, 3) := by decide +kernel
theorem dX7_about_24 : decode cX7_about 24 = .ok (.iload_n 1, 1) := by decide +kernel
theorem dX7_about_25 : decode cX7_about 25 = .ok (.invokevirtual 83, 3) := by decide +kernel
theorem dX7_about_28 : decode cX7_about 28 = .ok (.ireturn, 1) := by decide +kernel
theorem dX7_sheet_0 : decode cX7_sheet 0 = .ok (.aload_n 0, 1) := by decide +kernel
theorem dX7_sheet_1 : decode cX7_sheet 1 = .ok (.iload_n 1, 1) := by decide +kernel
theorem dX7_sheet_2 : decode cX7_sheet 2 = .ok (.invokevirtual 86, 3) := by decide +kernel
theorem dX7_sheet_5 : decode cX7_sheet 5 = .ok (.iload_n 2, 1) := by decide +kernel
theorem dX7_sheet_6 : decode cX7_sheet 6 = .ok (.ifCond .lt 9, 3) := by decide +kernel
theorem dX7_sheet_9 : decode cX7_sheet 9 = .ok (.iload_n 2, 1) := by decide +kernel
theorem dX7_sheet_10 : decode cX7_sheet 10 = .ok (.bipush 7, 2) := by decide +kernel
theorem dX7_sheet_12 : decode cX7_sheet 12 = .ok (.if_icmp .le 13, 3) := by decide +kernel
theorem dX7_sheet_15 : decode cX7_sheet 15 = .ok (.new 40, 3) := by decide +kernel
theorem dX7_sheet_18 : decode cX7_sheet 18 = .ok (.dup, 1) := by decide +kernel
theorem dX7_sheet_19 : decode cX7_sheet 19 = .ok (.ldc 90, 2) := by decide +kernel
theorem dX7_sheet_21 : decode cX7_sheet 21 = .ok (.invokespecial 44, 3) := by decide +kernel
theorem dX7_sheet_24 : decode cX7_sheet 24 = .ok (.athrow, 1) := by decide +kernel
theorem dX7_sheet_25 : decode cX7_sheet 25 = .ok (.aload_n 0, 1) := by decide +kernel
theorem dX7_sheet_26 : decode cX7_sheet 26 = .ok (.getfield 19, 3) := by decide +kernel
theorem dX7_sheet_29 : decode cX7_sheet 29 = .ok (.iload_n 1, 1) := by decide +kernel
theorem dX7_sheet_30 : decode cX7_sheet 30 = .ok (.iload_n 2, 1) := by decide +kernel
theorem dX7_sheet_31 : decode cX7_sheet 31 = .ok (.invokevirtual 92, 3) := by decide +kernel
theorem dX7_sheet_34 : decode cX7_sheet 34 = .ok (.ireturn, 1) := by decide +kernel
theorem dX7_field_0 : decode cX7_field 0 = .ok (.aload_n 0, 1) := by decide +kernel
theorem dX7_field_1 : decode cX7_field 1 = .ok (.iload_n 1, 1) := by decide +kernel
theorem dX7_field_2 : decode cX7_field 2 = .ok (.invokevirtual 86, 3) := by decide +kernel
theorem dX7_field_5 : decode cX7_field 5 = .ok (.iload_n 2, 1) := by decide +kernel
theorem dX7_field_6 : decode cX7_field 6 = .ok (.invokestatic 96, 3) := by decide +kernel
theorem dX7_field_9 : decode cX7_field 9 = .ok (.ifCond .ne 13, 3) := by decide +kernel
theorem dX7_field_12 : decode cX7_field 12 = .ok (.new 100, 3) := by decide +kernel
theorem dX7_field_15 : decode cX7_field 15 = .ok (.dup, 1) := by decide +kernel
theorem dX7_field_16 : decode cX7_field 16 = .ok (.ldc 102, 2) := by decide +kernel
theorem dX7_field_18 : decode cX7_field 18 = .ok (.invokespecial 104, 3) := by decide +kernel
theorem dX7_field_21 : decode cX7_field 21 = .ok (.athrow, 1) := by decide +kernel
theorem dX7_field_22 : decode cX7_field 22 = .ok (.aload_n 0, 1) := by decide +kernel
theorem dX7_field_23 : decode cX7_field 23 = .ok (.getfield 19, 3) := by decide +kernel
theorem dX7_field_26 : decode cX7_field 26 = .ok (.getfield 105, 3) := by decide +kernel
theorem dX7_field_29 : decode cX7_field 29 = .ok (.iload_n 1, 1) := by decide +kernel
theorem dX7_field_30 : decode cX7_field 30 = .ok (.iload_n 2, 1) := by decide +kernel
theorem dX7_field_31 : decode cX7_field 31 = .ok (.invokevirtual 109, 3) := by decide +kernel
theorem dX7_field_34 : decode cX7_field 34 = .ok (.ireturn, 1) := by decide +kernel
theorem dX7_drawnIn_0 : decode cX7_drawnIn 0 = .ok (.aload_n 0, 1) := by decide +kernel
theorem dX7_drawnIn_1 : decode cX7_drawnIn 1 = .ok (.iload_n 1, 1) := by decide +kernel
theorem dX7_drawnIn_2 : decode cX7_drawnIn 2 = .ok (.invokevirtual 86, 3) := by decide +kernel
theorem dX7_drawnIn_5 : decode cX7_drawnIn 5 = .ok (.iload_n 2, 1) := by decide +kernel
theorem dX7_drawnIn_6 : decode cX7_drawnIn 6 = .ok (.ifCond .lt 18, 3) := by decide +kernel
theorem dX7_drawnIn_9 : decode cX7_drawnIn 9 = .ok (.iload_n 2, 1) := by decide +kernel
theorem dX7_drawnIn_10 : decode cX7_drawnIn 10 = .ok (.aload_n 0, 1) := by decide +kernel
theorem dX7_drawnIn_11 : decode cX7_drawnIn 11 = .ok (.getfield 19, 3) := by decide +kernel
theorem dX7_drawnIn_14 : decode cX7_drawnIn 14 = .ok (.getfield 105, 3) := by decide +kernel
theorem dX7_drawnIn_17 : decode cX7_drawnIn 17 = .ok (.iload_n 1, 1) := by decide +kernel
theorem dX7_drawnIn_18 : decode cX7_drawnIn 18 = .ok (.invokevirtual 114, 3) := by decide +kernel
theorem dX7_drawnIn_21 : decode cX7_drawnIn 21 = .ok (.if_icmp .le 13, 3) := by decide +kernel
theorem dX7_drawnIn_24 : decode cX7_drawnIn 24 = .ok (.new 40, 3) := by decide +kernel
theorem dX7_drawnIn_27 : decode cX7_drawnIn 27 = .ok (.dup, 1) := by decide +kernel
theorem dX7_drawnIn_28 : decode cX7_drawnIn 28 = .ok (.ldc 117, 2) := by decide +kernel
theorem dX7_drawnIn_30 : decode cX7_drawnIn 30 = .ok (.invokespecial 44, 3) := by decide +kernel
theorem dX7_drawnIn_33 : decode cX7_drawnIn 33 = .ok (.athrow, 1) := by decide +kernel
theorem dX7_drawnIn_34 : decode cX7_drawnIn 34 = .ok (.aload_n 0, 1) := by decide +kernel
theorem dX7_drawnIn_35 : decode cX7_drawnIn 35 = .ok (.getfield 19, 3) := by decide +kernel
theorem dX7_drawnIn_38 : decode cX7_drawnIn 38 = .ok (.getfield 105, 3) := by decide +kernel
theorem dX7_drawnIn_41 : decode cX7_drawnIn 41 = .ok (.iload_n 1, 1) := by decide +kernel
theorem dX7_drawnIn_42 : decode cX7_drawnIn 42 = .ok (.iload_n 2, 1) := by decide +kernel
theorem dX7_drawnIn_43 : decode cX7_drawnIn 43 = .ok (.iload_n 2, 1) := by decide +kernel
theorem dX7_drawnIn_44 : decode cX7_drawnIn 44 = .ok (.invokevirtual 119, 3) := by decide +kernel
theorem dX7_drawnIn_47 : decode cX7_drawnIn 47 = .ok (.ireturn, 1) := by decide +kernel
theorem dX7_printed_0 : decode cX7_printed 0 = .ok (.aload_n 0, 1) := by decide +kernel
theorem dX7_printed_1 : decode cX7_printed 1 = .ok (.getfield 19, 3) := by decide +kernel
theorem dX7_printed_4 : decode cX7_printed 4 = .ok (.getfield 123, 3) := by decide +kernel
theorem dX7_printed_7 : decode cX7_printed 7 = .ok (.iload_n 1, 1) := by decide +kernel
theorem dX7_printed_8 : decode cX7_printed 8 = .ok (.invokevirtual 127, 3) := by decide +kernel
theorem dX7_printed_11 : decode cX7_printed 11 = .ok (.ifCond .ne 13, 3) := by decide +kernel
theorem dX7_printed_14 : decode cX7_printed 14 = .ok (.new 100, 3) := by decide +kernel
theorem dX7_printed_17 : decode cX7_printed 17 = .ok (.dup, 1) := by decide +kernel
theorem dX7_printed_18 : decode cX7_printed 18 = .ok (.ldc 132, 2) := by decide +kernel
theorem dX7_printed_20 : decode cX7_printed 20 = .ok (.invokespecial 104, 3) := by decide +kernel
theorem dX7_printed_23 : decode cX7_printed 23 = .ok (.athrow, 1) := by decide +kernel
theorem dX7_printed_24 : decode cX7_printed 24 = .ok (.iload_n 2, 1) := by decide +kernel
theorem dX7_printed_25 : decode cX7_printed 25 = .ok (.ifCond .lt 9, 3) := by decide +kernel
theorem dX7_printed_28 : decode cX7_printed 28 = .ok (.iload_n 2, 1) := by decide +kernel
theorem dX7_printed_29 : decode cX7_printed 29 = .ok (.bipush 8, 2) := by decide +kernel
theorem dX7_printed_31 : decode cX7_printed 31 = .ok (.if_icmp .le 13, 3) := by decide +kernel
theorem dX7_printed_34 : decode cX7_printed 34 = .ok (.new 40, 3) := by decide +kernel
theorem dX7_printed_37 : decode cX7_printed 37 = .ok (.dup, 1) := by decide +kernel
theorem dX7_printed_38 : decode cX7_printed 38 = .ok (.ldc 134, 2) := by decide +kernel
theorem dX7_printed_40 : decode cX7_printed 40 = .ok (.invokespecial 44, 3) := by decide +kernel
theorem dX7_printed_43 : decode cX7_printed 43 = .ok (.athrow, 1) := by decide +kernel
theorem dX7_printed_44 : decode cX7_printed 44 = .ok (.aload_n 0, 1) := by decide +kernel
theorem dX7_printed_45 : decode cX7_printed 45 = .ok (.getfield 19, 3) := by decide +kernel
theorem dX7_printed_48 : decode cX7_printed 48 = .ok (.iload_n 1, 1) := by decide +kernel
theorem dX7_printed_49 : decode cX7_printed 49 = .ok (.iload_n 2, 1) := by decide +kernel
theorem dX7_printed_50 : decode cX7_printed 50 = .ok (.invokevirtual 136, 3) := by decide +kernel
theorem dX7_printed_53 : decode cX7_printed 53 = .ok (.ireturn, 1) := by decide +kernel
theorem dX7_work_0 : decode cX7_work 0 = .ok (.aload_n 0, 1) := by decide +kernel
theorem dX7_work_1 : decode cX7_work 1 = .ok (.getfield 19, 3) := by decide +kernel
theorem dX7_work_4 : decode cX7_work 4 = .ok (.getfield 139, 3) := by decide +kernel
theorem dX7_work_7 : decode cX7_work 7 = .ok (.iload_n 1, 1) := by decide +kernel
theorem dX7_work_8 : decode cX7_work 8 = .ok (.invokevirtual 143, 3) := by decide +kernel
theorem dX7_work_11 : decode cX7_work 11 = .ok (.ifCond .ne 13, 3) := by decide +kernel
theorem dX7_work_14 : decode cX7_work 14 = .ok (.new 100, 3) := by decide +kernel
theorem dX7_work_17 : decode cX7_work 17 = .ok (.dup, 1) := by decide +kernel
theorem dX7_work_18 : decode cX7_work 18 = .ok (.ldc 146, 2) := by decide +kernel
theorem dX7_work_20 : decode cX7_work 20 = .ok (.invokespecial 104, 3) := by decide +kernel
theorem dX7_work_23 : decode cX7_work 23 = .ok (.athrow, 1) := by decide +kernel
theorem dX7_work_24 : decode cX7_work 24 = .ok (.iload_n 2, 1) := by decide +kernel
theorem dX7_work_25 : decode cX7_work 25 = .ok (.ifCond .lt 8, 3) := by decide +kernel
theorem dX7_work_28 : decode cX7_work 28 = .ok (.iload_n 2, 1) := by decide +kernel
theorem dX7_work_29 : decode cX7_work 29 = .ok (.iconst 4, 1) := by decide +kernel
theorem dX7_work_30 : decode cX7_work 30 = .ok (.if_icmp .le 13, 3) := by decide +kernel
theorem dX7_work_33 : decode cX7_work 33 = .ok (.new 40, 3) := by decide +kernel
theorem dX7_work_36 : decode cX7_work 36 = .ok (.dup, 1) := by decide +kernel
theorem dX7_work_37 : decode cX7_work 37 = .ok (.ldc 148, 2) := by decide +kernel
theorem dX7_work_39 : decode cX7_work 39 = .ok (.invokespecial 44, 3) := by decide +kernel
theorem dX7_work_42 : decode cX7_work 42 = .ok (.athrow, 1) := by decide +kernel
theorem dX7_work_43 : decode cX7_work 43 = .ok (.aload_n 0, 1) := by decide +kernel
theorem dX7_work_44 : decode cX7_work 44 = .ok (.getfield 19, 3) := by decide +kernel
theorem dX7_work_47 : decode cX7_work 47 = .ok (.iload_n 1, 1) := by decide +kernel
theorem dX7_work_48 : decode cX7_work 48 = .ok (.iload_n 2, 1) := by decide +kernel
theorem dX7_work_49 : decode cX7_work 49 = .ok (.invokevirtual 150, 3) := by decide +kernel
theorem dX7_work_52 : decode cX7_work 52 = .ok (.ireturn, 1) := by decide +kernel
theorem dX7_setting_0 : decode cX7_setting 0 = .ok (.iload_n 1, 1) := by decide +kernel
theorem dX7_setting_1 : decode cX7_setting 1 = .ok (.invokestatic 153, 3) := by decide +kernel
theorem dX7_setting_4 : decode cX7_setting 4 = .ok (.ifCond .ne 13, 3) := by decide +kernel
theorem dX7_setting_7 : decode cX7_setting 7 = .ok (.new 40, 3) := by decide +kernel
theorem dX7_setting_10 : decode cX7_setting 10 = .ok (.dup, 1) := by decide +kernel
theorem dX7_setting_11 : decode cX7_setting 11 = .ok (.ldc 156, 2) := by decide +kernel
theorem dX7_setting_13 : decode cX7_setting 13 = .ok (.invokespecial 44, 3) := by decide +kernel
theorem dX7_setting_16 : decode cX7_setting 16 = .ok (.athrow, 1) := by decide +kernel
theorem dX7_setting_17 : decode cX7_setting 17 = .ok (.aload_n 0, 1) := by decide +kernel
theorem dX7_setting_18 : decode cX7_setting 18 = .ok (.getfield 19, 3) := by decide +kernel
theorem dX7_setting_21 : decode cX7_setting 21 = .ok (.iload_n 1, 1) := by decide +kernel
theorem dX7_setting_22 : decode cX7_setting 22 = .ok (.invokevirtual 158, 3) := by decide +kernel
theorem dX7_setting_25 : decode cX7_setting 25 = .ok (.ireturn, 1) := by decide +kernel
theorem dX7_draw_0 : decode cX7_draw 0 = .ok (.aload_n 0, 1) := by decide +kernel
theorem dX7_draw_1 : decode cX7_draw 1 = .ok (.getfield 29, 3) := by decide +kernel
theorem dX7_draw_4 : decode cX7_draw 4 = .ok (.aload_n 0, 1) := by decide +kernel
theorem dX7_draw_5 : decode cX7_draw 5 = .ok (.getfield 19, 3) := by decide +kernel
theorem dX7_draw_8 : decode cX7_draw 8 = .ok (.invokevirtual 161, 3) := by decide +kernel
theorem dX7_draw_11 : decode cX7_draw 11 = .ok (.aload_n 0, 1) := by decide +kernel
theorem dX7_draw_12 : decode cX7_draw 12 = .ok (.aload_n 0, 1) := by decide +kernel
theorem dX7_draw_13 : decode cX7_draw 13 = .ok (.getfield 19, 3) := by decide +kernel
theorem dX7_draw_16 : decode cX7_draw 16 = .ok (.iload_n 1, 1) := by decide +kernel
theorem dX7_draw_17 : decode cX7_draw 17 = .ok (.invokevirtual 165, 3) := by decide +kernel
theorem dX7_draw_20 : decode cX7_draw 20 = .ok (.invokevirtual 168, 3) := by decide +kernel
theorem dX7_draw_23 : decode cX7_draw 23 = .ok (.ireturn, 1) := by decide +kernel
theorem dX7_revise_0 : decode cX7_revise 0 = .ok (.aload_n 0, 1) := by decide +kernel
theorem dX7_revise_1 : decode cX7_revise 1 = .ok (.getfield 29, 3) := by decide +kernel
theorem dX7_revise_4 : decode cX7_revise 4 = .ok (.aload_n 0, 1) := by decide +kernel
theorem dX7_revise_5 : decode cX7_revise 5 = .ok (.getfield 19, 3) := by decide +kernel
theorem dX7_revise_8 : decode cX7_revise 8 = .ok (.invokevirtual 161, 3) := by decide +kernel
theorem dX7_revise_11 : decode cX7_revise 11 = .ok (.aload_n 0, 1) := by decide +kernel
theorem dX7_revise_12 : decode cX7_revise 12 = .ok (.aload_n 0, 1) := by decide +kernel
theorem dX7_revise_13 : decode cX7_revise 13 = .ok (.getfield 19, 3) := by decide +kernel
theorem dX7_revise_16 : decode cX7_revise 16 = .ok (.iload_n 1, 1) := by decide +kernel
theorem dX7_revise_17 : decode cX7_revise 17 = .ok (.iload_n 2, 1) := by decide +kernel
theorem dX7_revise_18 : decode cX7_revise 18 = .ok (.invokevirtual 171, 3) := by decide +kernel
theorem dX7_revise_21 : decode cX7_revise 21 = .ok (.invokevirtual 168, 3) := by decide +kernel
theorem dX7_revise_24 : decode cX7_revise 24 = .ok (.ireturn, 1) := by decide +kernel
theorem dX7_check_0 : decode cX7_check 0 = .ok (.aload_n 0, 1) := by decide +kernel
theorem dX7_check_1 : decode cX7_check 1 = .ok (.getfield 29, 3) := by decide +kernel
theorem dX7_check_4 : decode cX7_check 4 = .ok (.aload_n 0, 1) := by decide +kernel
theorem dX7_check_5 : decode cX7_check 5 = .ok (.getfield 19, 3) := by decide +kernel
theorem dX7_check_8 : decode cX7_check 8 = .ok (.invokevirtual 161, 3) := by decide +kernel
theorem dX7_check_11 : decode cX7_check 11 = .ok (.aload_n 0, 1) := by decide +kernel
theorem dX7_check_12 : decode cX7_check 12 = .ok (.aload_n 0, 1) := by decide +kernel
theorem dX7_check_13 : decode cX7_check 13 = .ok (.getfield 19, 3) := by decide +kernel
theorem dX7_check_16 : decode cX7_check 16 = .ok (.iload_n 1, 1) := by decide +kernel
theorem dX7_check_17 : decode cX7_check 17 = .ok (.invokevirtual 174, 3) := by decide +kernel
theorem dX7_check_20 : decode cX7_check 20 = .ok (.invokevirtual 168, 3) := by decide +kernel
theorem dX7_check_23 : decode cX7_check 23 = .ok (.ireturn, 1) := by decide +kernel
theorem dX7_print_0 : decode cX7_print 0 = .ok (.aload_n 0, 1) := by decide +kernel
theorem dX7_print_1 : decode cX7_print 1 = .ok (.getfield 29, 3) := by decide +kernel
theorem dX7_print_4 : decode cX7_print 4 = .ok (.aload_n 0, 1) := by decide +kernel
theorem dX7_print_5 : decode cX7_print 5 = .ok (.getfield 19, 3) := by decide +kernel
theorem dX7_print_8 : decode cX7_print 8 = .ok (.invokevirtual 161, 3) := by decide +kernel
theorem dX7_print_11 : decode cX7_print 11 = .ok (.aload_n 0, 1) := by decide +kernel
theorem dX7_print_12 : decode cX7_print 12 = .ok (.aload_n 0, 1) := by decide +kernel
theorem dX7_print_13 : decode cX7_print 13 = .ok (.getfield 19, 3) := by decide +kernel
theorem dX7_print_16 : decode cX7_print 16 = .ok (.iload_n 1, 1) := by decide +kernel
theorem dX7_print_17 : decode cX7_print 17 = .ok (.iload_n 2, 1) := by decide +kernel
theorem dX7_print_18 : decode cX7_print 18 = .ok (.invokevirtual 177, 3) := by decide +kernel
theorem dX7_print_21 : decode cX7_print 21 = .ok (.invokevirtual 168, 3) := by decide +kernel
theorem dX7_print_24 : decode cX7_print 24 = .ok (.ireturn, 1) := by decide +kernel
theorem dX7_stamp_0 : decode cX7_stamp 0 = .ok (.aload_n 0, 1) := by decide +kernel
theorem dX7_stamp_1 : decode cX7_stamp 1 = .ok (.getfield 29, 3) := by decide +kernel
theorem dX7_stamp_4 : decode cX7_stamp 4 = .ok (.aload_n 0, 1) := by decide +kernel
theorem dX7_stamp_5 : decode cX7_stamp 5 = .ok (.getfield 19, 3) := by decide +kernel
theorem dX7_stamp_8 : decode cX7_stamp 8 = .ok (.invokevirtual 161, 3) := by decide +kernel
theorem dX7_stamp_11 : decode cX7_stamp 11 = .ok (.aload_n 0, 1) := by decide +kernel
theorem dX7_stamp_12 : decode cX7_stamp 12 = .ok (.aload_n 0, 1) := by decide +kernel
theorem dX7_stamp_13 : decode cX7_stamp 13 = .ok (.getfield 19, 3) := by decide +kernel
theorem dX7_stamp_16 : decode cX7_stamp 16 = .ok (.iload_n 1, 1) := by decide +kernel
theorem dX7_stamp_17 : decode cX7_stamp 17 = .ok (.iload_n 2, 1) := by decide +kernel
theorem dX7_stamp_18 : decode cX7_stamp 18 = .ok (.invokevirtual 180, 3) := by decide +kernel
theorem dX7_stamp_21 : decode cX7_stamp 21 = .ok (.invokevirtual 168, 3) := by decide +kernel
theorem dX7_stamp_24 : decode cX7_stamp 24 = .ok (.ireturn, 1) := by decide +kernel
theorem dX7_back_0 : decode cX7_back 0 = .ok (.aload_n 0, 1) := by decide +kernel
theorem dX7_back_1 : decode cX7_back 1 = .ok (.getfield 29, 3) := by decide +kernel
theorem dX7_back_4 : decode cX7_back 4 = .ok (.aload_n 0, 1) := by decide +kernel
theorem dX7_back_5 : decode cX7_back 5 = .ok (.getfield 19, 3) := by decide +kernel
theorem dX7_back_8 : decode cX7_back 8 = .ok (.invokevirtual 161, 3) := by decide +kernel
theorem dX7_back_11 : decode cX7_back 11 = .ok (.aload_n 0, 1) := by decide +kernel
theorem dX7_back_12 : decode cX7_back 12 = .ok (.aload_n 0, 1) := by decide +kernel
theorem dX7_back_13 : decode cX7_back 13 = .ok (.getfield 19, 3) := by decide +kernel
theorem dX7_back_16 : decode cX7_back 16 = .ok (.iload_n 1, 1) := by decide +kernel
theorem dX7_back_17 : decode cX7_back 17 = .ok (.invokevirtual 183, 3) := by decide +kernel
theorem dX7_back_20 : decode cX7_back 20 = .ok (.invokevirtual 168, 3) := by decide +kernel
theorem dX7_back_23 : decode cX7_back 23 = .ok (.ireturn, 1) := by decide +kernel
theorem dX7_build_0 : decode cX7_build 0 = .ok (.aload_n 0, 1) := by decide +kernel
theorem dX7_build_1 : decode cX7_build 1 = .ok (.getfield 29, 3) := by decide +kernel
theorem dX7_build_4 : decode cX7_build 4 = .ok (.aload_n 0, 1) := by decide +kernel
theorem dX7_build_5 : decode cX7_build 5 = .ok (.getfield 19, 3) := by decide +kernel
theorem dX7_build_8 : decode cX7_build 8 = .ok (.invokevirtual 161, 3) := by decide +kernel
theorem dX7_build_11 : decode cX7_build 11 = .ok (.aload_n 0, 1) := by decide +kernel
theorem dX7_build_12 : decode cX7_build 12 = .ok (.aload_n 0, 1) := by decide +kernel
theorem dX7_build_13 : decode cX7_build 13 = .ok (.getfield 19, 3) := by decide +kernel
theorem dX7_build_16 : decode cX7_build 16 = .ok (.iload_n 1, 1) := by decide +kernel
theorem dX7_build_17 : decode cX7_build 17 = .ok (.iload_n 2, 1) := by decide +kernel
theorem dX7_build_18 : decode cX7_build 18 = .ok (.invokevirtual 186, 3) := by decide +kernel
theorem dX7_build_21 : decode cX7_build 21 = .ok (.invokevirtual 168, 3) := by decide +kernel
theorem dX7_build_24 : decode cX7_build 24 = .ok (.ireturn, 1) := by decide +kernel
theorem dX7_mend_0 : decode cX7_mend 0 = .ok (.aload_n 0, 1) := by decide +kernel
theorem dX7_mend_1 : decode cX7_mend 1 = .ok (.getfield 29, 3) := by decide +kernel
theorem dX7_mend_4 : decode cX7_mend 4 = .ok (.aload_n 0, 1) := by decide +kernel
theorem dX7_mend_5 : decode cX7_mend 5 = .ok (.getfield 19, 3) := by decide +kernel
theorem dX7_mend_8 : decode cX7_mend 8 = .ok (.invokevirtual 161, 3) := by decide +kernel
theorem dX7_mend_11 : decode cX7_mend 11 = .ok (.aload_n 0, 1) := by decide +kernel
theorem dX7_mend_12 : decode cX7_mend 12 = .ok (.aload_n 0, 1) := by decide +kernel
theorem dX7_mend_13 : decode cX7_mend 13 = .ok (.getfield 19, 3) := by decide +kernel
theorem dX7_mend_16 : decode cX7_mend 16 = .ok (.iload_n 1, 1) := by decide +kernel
theorem dX7_mend_17 : decode cX7_mend 17 = .ok (.invokevirtual 189, 3) := by decide +kernel
theorem dX7_mend_20 : decode cX7_mend 20 = .ok (.invokevirtual 168, 3) := by decide +kernel
theorem dX7_mend_23 : decode cX7_mend 23 = .ok (.ireturn, 1) := by decide +kernel
theorem dX7_run_0 : decode cX7_run 0 = .ok (.aload_n 0, 1) := by decide +kernel
theorem dX7_run_1 : decode cX7_run 1 = .ok (.getfield 29, 3) := by decide +kernel
theorem dX7_run_4 : decode cX7_run 4 = .ok (.aload_n 0, 1) := by decide +kernel
theorem dX7_run_5 : decode cX7_run 5 = .ok (.getfield 19, 3) := by decide +kernel
theorem dX7_run_8 : decode cX7_run 8 = .ok (.invokevirtual 161, 3) := by decide +kernel
theorem dX7_run_11 : decode cX7_run 11 = .ok (.aload_n 0, 1) := by decide +kernel
theorem dX7_run_12 : decode cX7_run 12 = .ok (.aload_n 0, 1) := by decide +kernel
theorem dX7_run_13 : decode cX7_run 13 = .ok (.getfield 19, 3) := by decide +kernel
theorem dX7_run_16 : decode cX7_run 16 = .ok (.iload_n 1, 1) := by decide +kernel
theorem dX7_run_17 : decode cX7_run 17 = .ok (.invokevirtual 192, 3) := by decide +kernel
theorem dX7_run_20 : decode cX7_run 20 = .ok (.invokevirtual 168, 3) := by decide +kernel
theorem dX7_run_23 : decode cX7_run 23 = .ok (.ireturn, 1) := by decide +kernel
theorem dX7_set_0 : decode cX7_set 0 = .ok (.aload_n 0, 1) := by decide +kernel
theorem dX7_set_1 : decode cX7_set 1 = .ok (.getfield 29, 3) := by decide +kernel
theorem dX7_set_4 : decode cX7_set 4 = .ok (.aload_n 0, 1) := by decide +kernel
theorem dX7_set_5 : decode cX7_set 5 = .ok (.getfield 19, 3) := by decide +kernel
theorem dX7_set_8 : decode cX7_set 8 = .ok (.invokevirtual 161, 3) := by decide +kernel
theorem dX7_set_11 : decode cX7_set 11 = .ok (.aload_n 0, 1) := by decide +kernel
theorem dX7_set_12 : decode cX7_set 12 = .ok (.aload_n 0, 1) := by decide +kernel
theorem dX7_set_13 : decode cX7_set 13 = .ok (.getfield 19, 3) := by decide +kernel
theorem dX7_set_16 : decode cX7_set 16 = .ok (.iload_n 1, 1) := by decide +kernel
theorem dX7_set_17 : decode cX7_set 17 = .ok (.iload_n 2, 1) := by decide +kernel
theorem dX7_set_18 : decode cX7_set 18 = .ok (.invokevirtual 195, 3) := by decide +kernel
theorem dX7_set_21 : decode cX7_set 21 = .ok (.invokevirtual 168, 3) := by decide +kernel
theorem dX7_set_24 : decode cX7_set 24 = .ok (.ireturn, 1) := by decide +kernel
theorem dX7_undo_0 : decode cX7_undo 0 = .ok (.aload_n 0, 1) := by decide +kernel
theorem dX7_undo_1 : decode cX7_undo 1 = .ok (.getfield 29, 3) := by decide +kernel
theorem dX7_undo_4 : decode cX7_undo 4 = .ok (.invokevirtual 198, 3) := by decide +kernel
theorem dX7_undo_7 : decode cX7_undo 7 = .ok (.ifCond .eq 13, 3) := by decide +kernel
theorem dX7_undo_10 : decode cX7_undo 10 = .ok (.new 51, 3) := by decide +kernel
theorem dX7_undo_13 : decode cX7_undo 13 = .ok (.dup, 1) := by decide +kernel
theorem dX7_undo_14 : decode cX7_undo 14 = .ok (.ldc 201, 2) := by decide +kernel
theorem dX7_undo_16 : decode cX7_undo 16 = .ok (.invokespecial 55, 3) := by decide +kernel
theorem dX7_undo_19 : decode cX7_undo 19 = .ok (.athrow, 1) := by decide +kernel
theorem dX7_undo_20 : decode cX7_undo 20 = .ok (.aload_n 0, 1) := by decide +kernel
theorem dX7_undo_21 : decode cX7_undo 21 = .ok (.getfield 29, 3) := by decide +kernel
theorem dX7_undo_24 : decode cX7_undo 24 = .ok (.aload_n 0, 1) := by decide +kernel
theorem dX7_undo_25 : decode cX7_undo 25 = .ok (.getfield 19, 3) := by decide +kernel
theorem dX7_undo_28 : decode cX7_undo 28 = .ok (.invokevirtual 203, 3) := by decide +kernel
theorem dX7_undo_31 : decode cX7_undo 31 = .ok (.ireturn, 1) := by decide +kernel
theorem dX7_truePrint_0 : decode cX7_truePrint 0 = .ok (.iload_n 1, 1) := by decide +kernel
theorem dX7_truePrint_1 : decode cX7_truePrint 1 = .ok (.invokestatic 207, 3) := by decide +kernel
theorem dX7_truePrint_4 : decode cX7_truePrint 4 = .ok (.ifCond .ne 13, 3) := by decide +kernel
theorem dX7_truePrint_7 : decode cX7_truePrint 7 = .ok (.new 100, 3) := by decide +kernel
theorem dX7_truePrint_10 : decode cX7_truePrint 10 = .ok (.dup, 1) := by decide +kernel
theorem dX7_truePrint_11 : decode cX7_truePrint 11 = .ok (.ldc 210, 2) := by decide +kernel
theorem dX7_truePrint_13 : decode cX7_truePrint 13 = .ok (.invokespecial 104, 3) := by decide +kernel
theorem dX7_truePrint_16 : decode cX7_truePrint 16 = .ok (.athrow, 1) := by decide +kernel
theorem dX7_truePrint_17 : decode cX7_truePrint 17 = .ok (.aload_n 0, 1) := by decide +kernel
theorem dX7_truePrint_18 : decode cX7_truePrint 18 = .ok (.iload_n 2, 1) := by decide +kernel
theorem dX7_truePrint_19 : decode cX7_truePrint 19 = .ok (.invokevirtual 86, 3) := by decide +kernel
theorem dX7_truePrint_22 : decode cX7_truePrint 22 = .ok (.aload_n 0, 1) := by decide +kernel
theorem dX7_truePrint_23 : decode cX7_truePrint 23 = .ok (.getfield 19, 3) := by decide +kernel
theorem dX7_truePrint_26 : decode cX7_truePrint 26 = .ok (.iload_n 1, 1) := by decide +kernel
theorem dX7_truePrint_27 : decode cX7_truePrint 27 = .ok (.iload_n 2, 1) := by decide +kernel
theorem dX7_truePrint_28 : decode cX7_truePrint 28 = .ok (.invokevirtual 212, 3) := by decide +kernel
theorem dX7_truePrint_31 : decode cX7_truePrint 31 = .ok (.ireturn, 1) := by decide +kernel
theorem dX7_ifRevised_0 : decode cX7_ifRevised 0 = .ok (.aload_n 0, 1) := by decide +kernel
theorem dX7_ifRevised_1 : decode cX7_ifRevised 1 = .ok (.iload_n 1, 1) := by decide +kernel
theorem dX7_ifRevised_2 : decode cX7_ifRevised 2 = .ok (.invokevirtual 86, 3) := by decide +kernel
theorem dX7_ifRevised_5 : decode cX7_ifRevised 5 = .ok (.iload_n 2, 1) := by decide +kernel
theorem dX7_ifRevised_6 : decode cX7_ifRevised 6 = .ok (.invokestatic 215, 3) := by decide +kernel
theorem dX7_ifRevised_9 : decode cX7_ifRevised 9 = .ok (.ifCond .eq 12, 3) := by decide +kernel
theorem dX7_ifRevised_12 : decode cX7_ifRevised 12 = .ok (.iload_n 3, 1) := by decide +kernel
theorem dX7_ifRevised_13 : decode cX7_ifRevised 13 = .ok (.ifCond .lt 8, 3) := by decide +kernel
theorem dX7_ifRevised_16 : decode cX7_ifRevised 16 = .ok (.iload_n 3, 1) := by decide +kernel
theorem dX7_ifRevised_17 : decode cX7_ifRevised 17 = .ok (.iconst 3, 1) := by decide +kernel
theorem dX7_ifRevised_18 : decode cX7_ifRevised 18 = .ok (.if_icmp .le 13, 3) := by decide +kernel
theorem dX7_ifRevised_21 : decode cX7_ifRevised 21 = .ok (.new 40, 3) := by decide +kernel
theorem dX7_ifRevised_24 : decode cX7_ifRevised 24 = .ok (.dup, 1) := by decide +kernel
theorem dX7_ifRevised_25 : decode cX7_ifRevised 25 = .ok (.ldc 218, 2) := by decide +kernel
theorem dX7_ifRevised_27 : decode cX7_ifRevised 27 = .ok (.invokespecial 44, 3) := by decide +kernel
theorem dX7_ifRevised_30 : decode cX7_ifRevised 30 = .ok (.athrow, 1) := by decide +kernel
theorem dX7_ifRevised_31 : decode cX7_ifRevised 31 = .ok (.aload_n 0, 1) := by decide +kernel
theorem dX7_ifRevised_32 : decode cX7_ifRevised 32 = .ok (.getfield 19, 3) := by decide +kernel
theorem dX7_ifRevised_35 : decode cX7_ifRevised 35 = .ok (.getfield 105, 3) := by decide +kernel
theorem dX7_ifRevised_38 : decode cX7_ifRevised 38 = .ok (.iload_n 1, 1) := by decide +kernel
theorem dX7_ifRevised_39 : decode cX7_ifRevised 39 = .ok (.invokevirtual 114, 3) := by decide +kernel
theorem dX7_ifRevised_42 : decode cX7_ifRevised 42 = .ok (.bipush 99, 2) := by decide +kernel
theorem dX7_ifRevised_44 : decode cX7_ifRevised 44 = .ok (.if_icmp .lt 13, 3) := by decide +kernel
theorem dX7_ifRevised_47 : decode cX7_ifRevised 47 = .ok (.new 51, 3) := by decide +kernel
theorem dX7_ifRevised_50 : decode cX7_ifRevised 50 = .ok (.dup, 1) := by decide +kernel
theorem dX7_ifRevised_51 : decode cX7_ifRevised 51 = .ok (.ldc 220, 2) := by decide +kernel
theorem dX7_ifRevised_53 : decode cX7_ifRevised 53 = .ok (.invokespecial 55, 3) := by decide +kernel
theorem dX7_ifRevised_56 : decode cX7_ifRevised 56 = .ok (.athrow, 1) := by decide +kernel
theorem dX7_ifRevised_57 : decode cX7_ifRevised 57 = .ok (.iload_n 3, 1) := by decide +kernel
theorem dX7_ifRevised_58 : decode cX7_ifRevised 58 = .ok (.tableswitch 60 0 2 #[26, 38, 48], 26) := by decide +kernel
theorem dX7_ifRevised_84 : decode cX7_ifRevised 84 = .ok (.aload_n 0, 1) := by decide +kernel
theorem dX7_ifRevised_85 : decode cX7_ifRevised 85 = .ok (.getfield 19, 3) := by decide +kernel
theorem dX7_ifRevised_88 : decode cX7_ifRevised 88 = .ok (.getfield 123, 3) := by decide +kernel
theorem dX7_ifRevised_91 : decode cX7_ifRevised 91 = .ok (.iload_n 1, 1) := by decide +kernel
theorem dX7_ifRevised_92 : decode cX7_ifRevised 92 = .ok (.invokevirtual 222, 3) := by decide +kernel
theorem dX7_ifRevised_95 : decode cX7_ifRevised 95 = .ok (.ireturn, 1) := by decide +kernel
theorem dX7_ifRevised_96 : decode cX7_ifRevised 96 = .ok (.aload_n 0, 1) := by decide +kernel
theorem dX7_ifRevised_97 : decode cX7_ifRevised 97 = .ok (.getfield 19, 3) := by decide +kernel
theorem dX7_ifRevised_100 : decode cX7_ifRevised 100 = .ok (.iload_n 1, 1) := by decide +kernel
theorem dX7_ifRevised_101 : decode cX7_ifRevised 101 = .ok (.iload_n 2, 1) := by decide +kernel
theorem dX7_ifRevised_102 : decode cX7_ifRevised 102 = .ok (.invokevirtual 225, 3) := by decide +kernel
theorem dX7_ifRevised_105 : decode cX7_ifRevised 105 = .ok (.ireturn, 1) := by decide +kernel
theorem dX7_ifRevised_106 : decode cX7_ifRevised 106 = .ok (.aload_n 0, 1) := by decide +kernel
theorem dX7_ifRevised_107 : decode cX7_ifRevised 107 = .ok (.getfield 19, 3) := by decide +kernel
theorem dX7_ifRevised_110 : decode cX7_ifRevised 110 = .ok (.getfield 105, 3) := by decide +kernel
theorem dX7_ifRevised_113 : decode cX7_ifRevised 113 = .ok (.iload_n 1, 1) := by decide +kernel
theorem dX7_ifRevised_114 : decode cX7_ifRevised 114 = .ok (.invokevirtual 228, 3) := by decide +kernel
theorem dX7_ifRevised_117 : decode cX7_ifRevised 117 = .ok (.ireturn, 1) := by decide +kernel
theorem dX7_ifRevised_118 : decode cX7_ifRevised 118 = .ok (.aload_n 0, 1) := by decide +kernel
theorem dX7_ifRevised_119 : decode cX7_ifRevised 119 = .ok (.getfield 19, 3) := by decide +kernel
theorem dX7_ifRevised_122 : decode cX7_ifRevised 122 = .ok (.iload_n 1, 1) := by decide +kernel
theorem dX7_ifRevised_123 : decode cX7_ifRevised 123 = .ok (.invokevirtual 231, 3) := by decide +kernel
theorem dX7_ifRevised_126 : decode cX7_ifRevised 126 = .ok (.ireturn, 1) := by decide +kernel
theorem dX7_coming_0 : decode cX7_coming 0 = .ok (.iload_n 1, 1) := by decide +kernel
theorem dX7_coming_1 : decode cX7_coming 1 = .ok (.invokestatic 234, 3) := by decide +kernel
theorem dX7_coming_4 : decode cX7_coming 4 = .ok (.ifCond .ne 13, 3) := by decide +kernel
theorem dX7_coming_7 : decode cX7_coming 7 = .ok (.new 40, 3) := by decide +kernel
theorem dX7_coming_10 : decode cX7_coming 10 = .ok (.dup, 1) := by decide +kernel
theorem dX7_coming_11 : decode cX7_coming 11 = .ok (.ldc 237, 2) := by decide +kernel
theorem dX7_coming_13 : decode cX7_coming 13 = .ok (.invokespecial 44, 3) := by decide +kernel
theorem dX7_coming_16 : decode cX7_coming 16 = .ok (.athrow, 1) := by decide +kernel
theorem dX7_coming_17 : decode cX7_coming 17 = .ok (.aload_n 0, 1) := by decide +kernel
theorem dX7_coming_18 : decode cX7_coming 18 = .ok (.getfield 19, 3) := by decide +kernel
theorem dX7_coming_21 : decode cX7_coming 21 = .ok (.iload_n 1, 1) := by decide +kernel
theorem dX7_coming_22 : decode cX7_coming 22 = .ok (.invokevirtual 239, 3) := by decide +kernel
theorem dX7_coming_25 : decode cX7_coming 25 = .ok (.ireturn, 1) := by decide +kernel
theorem dX7_fetch_0 : decode cX7_fetch 0 = .ok (.iload_n 1, 1) := by decide +kernel
theorem dX7_fetch_1 : decode cX7_fetch 1 = .ok (.ifCond .ge 13, 3) := by decide +kernel
theorem dX7_fetch_4 : decode cX7_fetch 4 = .ok (.new 40, 3) := by decide +kernel
theorem dX7_fetch_7 : decode cX7_fetch 7 = .ok (.dup, 1) := by decide +kernel
theorem dX7_fetch_8 : decode cX7_fetch 8 = .ok (.ldc 242, 2) := by decide +kernel
theorem dX7_fetch_10 : decode cX7_fetch 10 = .ok (.invokespecial 44, 3) := by decide +kernel
theorem dX7_fetch_13 : decode cX7_fetch 13 = .ok (.athrow, 1) := by decide +kernel
theorem dX7_fetch_14 : decode cX7_fetch 14 = .ok (.aload_n 0, 1) := by decide +kernel
theorem dX7_fetch_15 : decode cX7_fetch 15 = .ok (.getfield 19, 3) := by decide +kernel
theorem dX7_fetch_18 : decode cX7_fetch 18 = .ok (.getfield 123, 3) := by decide +kernel
theorem dX7_fetch_21 : decode cX7_fetch 21 = .ok (.iload_n 1, 1) := by decide +kernel
theorem dX7_fetch_22 : decode cX7_fetch 22 = .ok (.invokevirtual 244, 3) := by decide +kernel
theorem dX7_fetch_25 : decode cX7_fetch 25 = .ok (.ireturn, 1) := by decide +kernel
theorem dX7_worst_0 : decode cX7_worst 0 = .ok (.aload_n 0, 1) := by decide +kernel
theorem dX7_worst_1 : decode cX7_worst 1 = .ok (.getfield 19, 3) := by decide +kernel
theorem dX7_worst_4 : decode cX7_worst 4 = .ok (.invokevirtual 247, 3) := by decide +kernel
theorem dX7_worst_7 : decode cX7_worst 7 = .ok (.ireturn, 1) := by decide +kernel
theorem dX7_common_0 : decode cX7_common 0 = .ok (.aload_n 0, 1) := by decide +kernel
theorem dX7_common_1 : decode cX7_common 1 = .ok (.iload_n 1, 1) := by decide +kernel
theorem dX7_common_2 : decode cX7_common 2 = .ok (.invokevirtual 86, 3) := by decide +kernel
theorem dX7_common_5 : decode cX7_common 5 = .ok (.aload_n 0, 1) := by decide +kernel
theorem dX7_common_6 : decode cX7_common 6 = .ok (.iload_n 2, 1) := by decide +kernel
theorem dX7_common_7 : decode cX7_common 7 = .ok (.invokevirtual 86, 3) := by decide +kernel
theorem dX7_common_10 : decode cX7_common 10 = .ok (.aload_n 0, 1) := by decide +kernel
theorem dX7_common_11 : decode cX7_common 11 = .ok (.getfield 19, 3) := by decide +kernel
theorem dX7_common_14 : decode cX7_common 14 = .ok (.getfield 105, 3) := by decide +kernel
theorem dX7_common_17 : decode cX7_common 17 = .ok (.iload_n 1, 1) := by decide +kernel
theorem dX7_common_18 : decode cX7_common 18 = .ok (.iload_n 2, 1) := by decide +kernel
theorem dX7_common_19 : decode cX7_common 19 = .ok (.invokevirtual 250, 3) := by decide +kernel
theorem dX7_common_22 : decode cX7_common 22 = .ok (.ireturn, 1) := by decide +kernel
theorem dX7_runScript_0 : decode cX7_runScript 0 = .ok (.iload_n 1, 1) := by decide +kernel
theorem dX7_runScript_1 : decode cX7_runScript 1 = .ok (.iconst 1, 1) := by decide +kernel
theorem dX7_runScript_2 : decode cX7_runScript 2 = .ok (.if_icmp .lt 8, 3) := by decide +kernel
theorem dX7_runScript_5 : decode cX7_runScript 5 = .ok (.iload_n 1, 1) := by decide +kernel
theorem dX7_runScript_6 : decode cX7_runScript 6 = .ok (.iconst 3, 1) := by decide +kernel
theorem dX7_runScript_7 : decode cX7_runScript 7 = .ok (.if_icmp .le 13, 3) := by decide +kernel
theorem dX7_runScript_10 : decode cX7_runScript 10 = .ok (.new 40, 3) := by decide +kernel
theorem dX7_runScript_13 : decode cX7_runScript 13 = .ok (.dup, 1) := by decide +kernel
theorem dX7_runScript_14 : decode cX7_runScript 14 = .ok (.ldc 253, 2) := by decide +kernel
theorem dX7_runScript_16 : decode cX7_runScript 16 = .ok (.invokespecial 44, 3) := by decide +kernel
theorem dX7_runScript_19 : decode cX7_runScript 19 = .ok (.athrow, 1) := by decide +kernel
theorem dX7_runScript_20 : decode cX7_runScript 20 = .ok (.lload_n 2, 1) := by decide +kernel
theorem dX7_runScript_21 : decode cX7_runScript 21 = .ok (.lconst 0, 1) := by decide +kernel
theorem dX7_runScript_22 : decode cX7_runScript 22 = .ok (.lcmp, 1) := by decide +kernel
theorem dX7_runScript_23 : decode cX7_runScript 23 = .ok (.ifCond .lt 13, 3) := by decide +kernel
theorem dX7_runScript_26 : decode cX7_runScript 26 = .ok (.lload_n 2, 1) := by decide +kernel
theorem dX7_runScript_27 : decode cX7_runScript 27 = .ok (.iload_n 1, 1) := by decide +kernel
theorem dX7_runScript_28 : decode cX7_runScript 28 = .ok (.invokestatic 255, 3) := by decide +kernel
theorem dX7_runScript_31 : decode cX7_runScript 31 = .ok (.lconst 0, 1) := by decide +kernel
theorem dX7_runScript_32 : decode cX7_runScript 32 = .ok (.lcmp, 1) := by decide +kernel
theorem dX7_runScript_33 : decode cX7_runScript 33 = .ok (.ifCond .eq 14, 3) := by decide +kernel
theorem dX7_runScript_36 : decode cX7_runScript 36 = .ok (.new 40, 3) := by decide +kernel
theorem dX7_runScript_39 : decode cX7_runScript 39 = .ok (.dup, 1) := by decide +kernel
theorem dX7_runScript_40 : decode cX7_runScript 40 = .ok (.ldc_w 259, 3) := by decide +kernel
theorem dX7_runScript_43 : decode cX7_runScript 43 = .ok (.invokespecial 44, 3) := by decide +kernel
theorem dX7_runScript_46 : decode cX7_runScript 46 = .ok (.athrow, 1) := by decide +kernel
theorem dX7_runScript_47 : decode cX7_runScript 47 = .ok (.aload_n 0, 1) := by decide +kernel
theorem dX7_runScript_48 : decode cX7_runScript 48 = .ok (.getfield 23, 3) := by decide +kernel
theorem dX7_runScript_51 : decode cX7_runScript 51 = .ok (.aload_n 0, 1) := by decide +kernel
theorem dX7_runScript_52 : decode cX7_runScript 52 = .ok (.getfield 19, 3) := by decide +kernel
theorem dX7_runScript_55 : decode cX7_runScript 55 = .ok (.invokevirtual 261, 3) := by decide +kernel
theorem dX7_runScript_58 : decode cX7_runScript 58 = .ok (.iconst 0, 1) := by decide +kernel
theorem dX7_runScript_59 : decode cX7_runScript 59 = .ok (.istore 4, 2) := by decide +kernel
theorem dX7_runScript_61 : decode cX7_runScript 61 = .ok (.iload 4, 2) := by decide +kernel
theorem dX7_runScript_63 : decode cX7_runScript 63 = .ok (.iload_n 1, 1) := by decide +kernel
theorem dX7_runScript_64 : decode cX7_runScript 64 = .ok (.if_icmp .ge 41, 3) := by decide +kernel
theorem dX7_runScript_67 : decode cX7_runScript 67 = .ok (.lload_n 2, 1) := by decide +kernel
theorem dX7_runScript_68 : decode cX7_runScript 68 = .ok (.iload_n 1, 1) := by decide +kernel
theorem dX7_runScript_69 : decode cX7_runScript 69 = .ok (.iconst 1, 1) := by decide +kernel
theorem dX7_runScript_70 : decode cX7_runScript 70 = .ok (.isub, 1) := by decide +kernel
theorem dX7_runScript_71 : decode cX7_runScript 71 = .ok (.iload 4, 2) := by decide +kernel
theorem dX7_runScript_73 : decode cX7_runScript 73 = .ok (.isub, 1) := by decide +kernel
theorem dX7_runScript_74 : decode cX7_runScript 74 = .ok (.invokestatic 255, 3) := by decide +kernel
theorem dX7_runScript_77 : decode cX7_runScript 77 = .ok (.ldc2_w 264, 3) := by decide +kernel
theorem dX7_runScript_80 : decode cX7_runScript 80 = .ok (.lrem, 1) := by decide +kernel
theorem dX7_runScript_81 : decode cX7_runScript 81 = .ok (.l2i, 1) := by decide +kernel
theorem dX7_runScript_82 : decode cX7_runScript 82 = .ok (.istore 5, 2) := by decide +kernel
theorem dX7_runScript_84 : decode cX7_runScript 84 = .ok (.aload_n 0, 1) := by decide +kernel
theorem dX7_runScript_85 : decode cX7_runScript 85 = .ok (.getfield 23, 3) := by decide +kernel
theorem dX7_runScript_88 : decode cX7_runScript 88 = .ok (.iload 5, 2) := by decide +kernel
theorem dX7_runScript_90 : decode cX7_runScript 90 = .ok (.invokestatic 266, 3) := by decide +kernel
theorem dX7_runScript_93 : decode cX7_runScript 93 = .ok (.ifCond .ne 6, 3) := by decide +kernel
theorem dX7_runScript_96 : decode cX7_runScript 96 = .ok (.iload 4, 2) := by decide +kernel
theorem dX7_runScript_98 : decode cX7_runScript 98 = .ok (.ireturn, 1) := by decide +kernel
theorem dX7_runScript_99 : decode cX7_runScript 99 = .ok (.iinc 4 1, 3) := by decide +kernel
theorem dX7_runScript_102 : decode cX7_runScript 102 = .ok (.goto (-41), 3) := by decide +kernel
theorem dX7_runScript_105 : decode cX7_runScript 105 = .ok (.iconst (-1), 1) := by decide +kernel
theorem dX7_runScript_106 : decode cX7_runScript 106 = .ok (.ireturn, 1) := by decide +kernel
theorem dX7_simulate_0 : decode cX7_simulate 0 = .ok (.iload_n 3, 1) := by decide +kernel
theorem dX7_simulate_1 : decode cX7_simulate 1 = .ok (.iconst 1, 1) := by decide +kernel
theorem dX7_simulate_2 : decode cX7_simulate 2 = .ok (.if_icmp .lt 9, 3) := by decide +kernel
theorem dX7_simulate_5 : decode cX7_simulate 5 = .ok (.iload_n 3, 1) := by decide +kernel
theorem dX7_simulate_6 : decode cX7_simulate 6 = .ok (.bipush 80, 2) := by decide +kernel
theorem dX7_simulate_8 : decode cX7_simulate 8 = .ok (.if_icmp .le 14, 3) := by decide +kernel
theorem dX7_simulate_11 : decode cX7_simulate 11 = .ok (.new 40, 3) := by decide +kernel
theorem dX7_simulate_14 : decode cX7_simulate 14 = .ok (.dup, 1) := by decide +kernel
theorem dX7_simulate_15 : decode cX7_simulate 15 = .ok (.ldc_w 270, 3) := by decide +kernel
theorem dX7_simulate_18 : decode cX7_simulate 18 = .ok (.invokespecial 44, 3) := by decide +kernel
theorem dX7_simulate_21 : decode cX7_simulate 21 = .ok (.athrow, 1) := by decide +kernel
theorem dX7_simulate_22 : decode cX7_simulate 22 = .ok (.aload_n 0, 1) := by decide +kernel
theorem dX7_simulate_23 : decode cX7_simulate 23 = .ok (.getfield 23, 3) := by decide +kernel
theorem dX7_simulate_26 : decode cX7_simulate 26 = .ok (.aload_n 0, 1) := by decide +kernel
theorem dX7_simulate_27 : decode cX7_simulate 27 = .ok (.getfield 19, 3) := by decide +kernel
theorem dX7_simulate_30 : decode cX7_simulate 30 = .ok (.invokevirtual 261, 3) := by decide +kernel
theorem dX7_simulate_33 : decode cX7_simulate 33 = .ok (.lload_n 1, 1) := by decide +kernel
theorem dX7_simulate_34 : decode cX7_simulate 34 = .ok (.lstore 4, 2) := by decide +kernel
theorem dX7_simulate_36 : decode cX7_simulate 36 = .ok (.iconst 0, 1) := by decide +kernel
theorem dX7_simulate_37 : decode cX7_simulate 37 = .ok (.istore 6, 2) := by decide +kernel
theorem dX7_simulate_39 : decode cX7_simulate 39 = .ok (.iload 6, 2) := by decide +kernel
theorem dX7_simulate_41 : decode cX7_simulate 41 = .ok (.iload_n 3, 1) := by decide +kernel
theorem dX7_simulate_42 : decode cX7_simulate 42 = .ok (.if_icmp .ge 34, 3) := by decide +kernel
theorem dX7_simulate_45 : decode cX7_simulate 45 = .ok (.lload 4, 2) := by decide +kernel
theorem dX7_simulate_47 : decode cX7_simulate 47 = .ok (.ldc2_w 272, 3) := by decide +kernel
theorem dX7_simulate_50 : decode cX7_simulate 50 = .ok (.lmul, 1) := by decide +kernel
theorem dX7_simulate_51 : decode cX7_simulate 51 = .ok (.ldc2_w 274, 3) := by decide +kernel
theorem dX7_simulate_54 : decode cX7_simulate 54 = .ok (.ladd, 1) := by decide +kernel
theorem dX7_simulate_55 : decode cX7_simulate 55 = .ok (.lstore 4, 2) := by decide +kernel
theorem dX7_simulate_57 : decode cX7_simulate 57 = .ok (.aload_n 0, 1) := by decide +kernel
theorem dX7_simulate_58 : decode cX7_simulate 58 = .ok (.getfield 23, 3) := by decide +kernel
theorem dX7_simulate_61 : decode cX7_simulate 61 = .ok (.lload 4, 2) := by decide +kernel
theorem dX7_simulate_63 : decode cX7_simulate 63 = .ok (.bipush 33, 2) := by decide +kernel
theorem dX7_simulate_65 : decode cX7_simulate 65 = .ok (.lushr, 1) := by decide +kernel
theorem dX7_simulate_66 : decode cX7_simulate 66 = .ok (.l2i, 1) := by decide +kernel
theorem dX7_simulate_67 : decode cX7_simulate 67 = .ok (.invokestatic 276, 3) := by decide +kernel
theorem dX7_simulate_70 : decode cX7_simulate 70 = .ok (.iinc 6 1, 3) := by decide +kernel
theorem dX7_simulate_73 : decode cX7_simulate 73 = .ok (.goto (-34), 3) := by decide +kernel
theorem dX7_simulate_76 : decode cX7_simulate 76 = .ok (.sipush 1000, 3) := by decide +kernel
theorem dX7_simulate_79 : decode cX7_simulate 79 = .ok (.aload_n 0, 1) := by decide +kernel
theorem dX7_simulate_80 : decode cX7_simulate 80 = .ok (.getfield 23, 3) := by decide +kernel
theorem dX7_simulate_83 : decode cX7_simulate 83 = .ok (.iconst (-1), 1) := by decide +kernel
theorem dX7_simulate_84 : decode cX7_simulate 84 = .ok (.iconst (-1), 1) := by decide +kernel
theorem dX7_simulate_85 : decode cX7_simulate 85 = .ok (.invokevirtual 280, 3) := by decide +kernel
theorem dX7_simulate_88 : decode cX7_simulate 88 = .ok (.imul, 1) := by decide +kernel
theorem dX7_simulate_89 : decode cX7_simulate 89 = .ok (.sipush 999, 3) := by decide +kernel
theorem dX7_simulate_92 : decode cX7_simulate 92 = .ok (.aload_n 0, 1) := by decide +kernel
theorem dX7_simulate_93 : decode cX7_simulate 93 = .ok (.getfield 23, 3) := by decide +kernel
theorem dX7_simulate_96 : decode cX7_simulate 96 = .ok (.getfield 283, 3) := by decide +kernel
theorem dX7_simulate_99 : decode cX7_simulate 99 = .ok (.aload_n 0, 1) := by decide +kernel
theorem dX7_simulate_100 : decode cX7_simulate 100 = .ok (.getfield 19, 3) := by decide +kernel
theorem dX7_simulate_103 : decode cX7_simulate 103 = .ok (.getfield 283, 3) := by decide +kernel
theorem dX7_simulate_106 : decode cX7_simulate 106 = .ok (.isub, 1) := by decide +kernel
theorem dX7_simulate_107 : decode cX7_simulate 107 = .ok (.invokestatic 287, 3) := by decide +kernel
theorem dX7_simulate_110 : decode cX7_simulate 110 = .ok (.iadd, 1) := by decide +kernel
theorem dX7_simulate_111 : decode cX7_simulate 111 = .ok (.ireturn, 1) := by decide +kernel
theorem dX7_save_0 : decode cX7_save 0 = .ok (.iload_n 1, 1) := by decide +kernel
theorem dX7_save_1 : decode cX7_save 1 = .ok (.invokestatic 292, 3) := by decide +kernel
theorem dX7_save_4 : decode cX7_save 4 = .ok (.ifCond .ne 14, 3) := by decide +kernel
theorem dX7_save_7 : decode cX7_save 7 = .ok (.new 100, 3) := by decide +kernel
theorem dX7_save_10 : decode cX7_save 10 = .ok (.dup, 1) := by decide +kernel
theorem dX7_save_11 : decode cX7_save 11 = .ok (.ldc_w 295, 3) := by decide +kernel
theorem dX7_save_14 : decode cX7_save 14 = .ok (.invokespecial 104, 3) := by decide +kernel
theorem dX7_save_17 : decode cX7_save 17 = .ok (.athrow, 1) := by decide +kernel
theorem dX7_save_18 : decode cX7_save 18 = .ok (.aload_n 0, 1) := by decide +kernel
theorem dX7_save_19 : decode cX7_save 19 = .ok (.getfield 36, 3) := by decide +kernel
theorem dX7_save_22 : decode cX7_save 22 = .ok (.iload_n 1, 1) := by decide +kernel
theorem dX7_save_23 : decode cX7_save 23 = .ok (.aload_n 0, 1) := by decide +kernel
theorem dX7_save_24 : decode cX7_save 24 = .ok (.getfield 19, 3) := by decide +kernel
theorem dX7_save_27 : decode cX7_save 27 = .ok (.invokevirtual 297, 3) := by decide +kernel
theorem dX7_save_30 : decode cX7_save 30 = .ok (.aload_n 0, 1) := by decide +kernel
theorem dX7_save_31 : decode cX7_save 31 = .ok (.getfield 19, 3) := by decide +kernel
theorem dX7_save_34 : decode cX7_save 34 = .ok (.getfield 301, 3) := by decide +kernel
theorem dX7_save_37 : decode cX7_save 37 = .ok (.ireturn, 1) := by decide +kernel
theorem dX7_restore_0 : decode cX7_restore 0 = .ok (.iload_n 1, 1) := by decide +kernel
theorem dX7_restore_1 : decode cX7_restore 1 = .ok (.invokestatic 292, 3) := by decide +kernel
theorem dX7_restore_4 : decode cX7_restore 4 = .ok (.ifCond .ne 14, 3) := by decide +kernel
theorem dX7_restore_7 : decode cX7_restore 7 = .ok (.new 100, 3) := by decide +kernel
theorem dX7_restore_10 : decode cX7_restore 10 = .ok (.dup, 1) := by decide +kernel
theorem dX7_restore_11 : decode cX7_restore 11 = .ok (.ldc_w 295, 3) := by decide +kernel
theorem dX7_restore_14 : decode cX7_restore 14 = .ok (.invokespecial 104, 3) := by decide +kernel
theorem dX7_restore_17 : decode cX7_restore 17 = .ok (.athrow, 1) := by decide +kernel
theorem dX7_restore_18 : decode cX7_restore 18 = .ok (.aload_n 0, 1) := by decide +kernel
theorem dX7_restore_19 : decode cX7_restore 19 = .ok (.getfield 36, 3) := by decide +kernel
theorem dX7_restore_22 : decode cX7_restore 22 = .ok (.iload_n 1, 1) := by decide +kernel
theorem dX7_restore_23 : decode cX7_restore 23 = .ok (.invokevirtual 304, 3) := by decide +kernel
theorem dX7_restore_26 : decode cX7_restore 26 = .ok (.ifCond .ne 14, 3) := by decide +kernel
theorem dX7_restore_29 : decode cX7_restore 29 = .ok (.new 51, 3) := by decide +kernel
theorem dX7_restore_32 : decode cX7_restore 32 = .ok (.dup, 1) := by decide +kernel
theorem dX7_restore_33 : decode cX7_restore 33 = .ok (.ldc_w 307, 3) := by decide +kernel
theorem dX7_restore_36 : decode cX7_restore 36 = .ok (.invokespecial 55, 3) := by decide +kernel
theorem dX7_restore_39 : decode cX7_restore 39 = .ok (.athrow, 1) := by decide +kernel
theorem dX7_restore_40 : decode cX7_restore 40 = .ok (.aload_n 0, 1) := by decide +kernel
theorem dX7_restore_41 : decode cX7_restore 41 = .ok (.getfield 36, 3) := by decide +kernel
theorem dX7_restore_44 : decode cX7_restore 44 = .ok (.iload_n 1, 1) := by decide +kernel
theorem dX7_restore_45 : decode cX7_restore 45 = .ok (.aload_n 0, 1) := by decide +kernel
theorem dX7_restore_46 : decode cX7_restore 46 = .ok (.getfield 19, 3) := by decide +kernel
theorem dX7_restore_49 : decode cX7_restore 49 = .ok (.invokevirtual 309, 3) := by decide +kernel
theorem dX7_restore_52 : decode cX7_restore 52 = .ok (.aload_n 0, 1) := by decide +kernel
theorem dX7_restore_53 : decode cX7_restore 53 = .ok (.getfield 29, 3) := by decide +kernel
theorem dX7_restore_56 : decode cX7_restore 56 = .ok (.invokevirtual 72, 3) := by decide +kernel
theorem dX7_restore_59 : decode cX7_restore 59 = .ok (.aload_n 0, 1) := by decide +kernel
theorem dX7_restore_60 : decode cX7_restore 60 = .ok (.getfield 19, 3) := by decide +kernel
theorem dX7_restore_63 : decode cX7_restore 63 = .ok (.getfield 301, 3) := by decide +kernel
theorem dX7_restore_66 : decode cX7_restore 66 = .ok (.ireturn, 1) := by decide +kernel
theorem dX7_needSheet_0 : decode cX7_needSheet 0 = .ok (.aload_n 0, 1) := by decide +kernel
theorem dX7_needSheet_1 : decode cX7_needSheet 1 = .ok (.getfield 19, 3) := by decide +kernel
theorem dX7_needSheet_4 : decode cX7_needSheet 4 = .ok (.getfield 105, 3) := by decide +kernel
theorem dX7_needSheet_7 : decode cX7_needSheet 7 = .ok (.iload_n 1, 1) := by decide +kernel
theorem dX7_needSheet_8 : decode cX7_needSheet 8 = .ok (.invokevirtual 312, 3) := by decide +kernel
theorem dX7_needSheet_11 : decode cX7_needSheet 11 = .ok (.ifCond .ne 14, 3) := by decide +kernel
theorem dX7_needSheet_14 : decode cX7_needSheet 14 = .ok (.new 100, 3) := by decide +kernel
theorem dX7_needSheet_17 : decode cX7_needSheet 17 = .ok (.dup, 1) := by decide +kernel
theorem dX7_needSheet_18 : decode cX7_needSheet 18 = .ok (.ldc_w 313, 3) := by decide +kernel
theorem dX7_needSheet_21 : decode cX7_needSheet 21 = .ok (.invokespecial 104, 3) := by decide +kernel
theorem dX7_needSheet_24 : decode cX7_needSheet 24 = .ok (.athrow, 1) := by decide +kernel
theorem dX7_needSheet_25 : decode cX7_needSheet 25 = .ok (.return_, 1) := by decide +kernel
theorem dX7_keptAnswer_0 : decode cX7_keptAnswer 0 = .ok (.iload_n 1, 1) := by decide +kernel
theorem dX7_keptAnswer_1 : decode cX7_keptAnswer 1 = .ok (.bipush (-2), 2) := by decide +kernel
theorem dX7_keptAnswer_3 : decode cX7_keptAnswer 3 = .ok (.if_icmp .ne 14, 3) := by decide +kernel
theorem dX7_keptAnswer_6 : decode cX7_keptAnswer 6 = .ok (.new 100, 3) := by decide +kernel
theorem dX7_keptAnswer_9 : decode cX7_keptAnswer 9 = .ok (.dup, 1) := by decide +kernel
theorem dX7_keptAnswer_10 : decode cX7_keptAnswer 10 = .ok (.ldc_w 315, 3) := by decide +kernel
theorem dX7_keptAnswer_13 : decode cX7_keptAnswer 13 = .ok (.invokespecial 104, 3) := by decide +kernel
theorem dX7_keptAnswer_16 : decode cX7_keptAnswer 16 = .ok (.athrow, 1) := by decide +kernel
theorem dX7_keptAnswer_17 : decode cX7_keptAnswer 17 = .ok (.iload_n 1, 1) := by decide +kernel
theorem dX7_keptAnswer_18 : decode cX7_keptAnswer 18 = .ok (.bipush (-3), 2) := by decide +kernel
theorem dX7_keptAnswer_20 : decode cX7_keptAnswer 20 = .ok (.if_icmp .ne 14, 3) := by decide +kernel
theorem dX7_keptAnswer_23 : decode cX7_keptAnswer 23 = .ok (.new 40, 3) := by decide +kernel
theorem dX7_keptAnswer_26 : decode cX7_keptAnswer 26 = .ok (.dup, 1) := by decide +kernel
theorem dX7_keptAnswer_27 : decode cX7_keptAnswer 27 = .ok (.ldc_w 317, 3) := by decide +kernel
theorem dX7_keptAnswer_30 : decode cX7_keptAnswer 30 = .ok (.invokespecial 44, 3) := by decide +kernel
theorem dX7_keptAnswer_33 : decode cX7_keptAnswer 33 = .ok (.athrow, 1) := by decide +kernel
theorem dX7_keptAnswer_34 : decode cX7_keptAnswer 34 = .ok (.iload_n 1, 1) := by decide +kernel
theorem dX7_keptAnswer_35 : decode cX7_keptAnswer 35 = .ok (.bipush (-4), 2) := by decide +kernel
theorem dX7_keptAnswer_37 : decode cX7_keptAnswer 37 = .ok (.if_icmp .ne 14, 3) := by decide +kernel
theorem dX7_keptAnswer_40 : decode cX7_keptAnswer 40 = .ok (.new 51, 3) := by decide +kernel
theorem dX7_keptAnswer_43 : decode cX7_keptAnswer 43 = .ok (.dup, 1) := by decide +kernel
theorem dX7_keptAnswer_44 : decode cX7_keptAnswer 44 = .ok (.ldc_w 319, 3) := by decide +kernel
theorem dX7_keptAnswer_47 : decode cX7_keptAnswer 47 = .ok (.invokespecial 55, 3) := by decide +kernel
theorem dX7_keptAnswer_50 : decode cX7_keptAnswer 50 = .ok (.athrow, 1) := by decide +kernel
theorem dX7_keptAnswer_51 : decode cX7_keptAnswer 51 = .ok (.aload_n 0, 1) := by decide +kernel
theorem dX7_keptAnswer_52 : decode cX7_keptAnswer 52 = .ok (.getfield 29, 3) := by decide +kernel
theorem dX7_keptAnswer_55 : decode cX7_keptAnswer 55 = .ok (.invokevirtual 321, 3) := by decide +kernel
theorem dX7_keptAnswer_58 : decode cX7_keptAnswer 58 = .ok (.iload_n 1, 1) := by decide +kernel
theorem dX7_keptAnswer_59 : decode cX7_keptAnswer 59 = .ok (.ireturn, 1) := by decide +kernel
theorem dX7_doOrder_0 : decode cX7_doOrder 0 = .ok (.aload_n 0, 1) := by decide +kernel
theorem dX7_doOrder_1 : decode cX7_doOrder 1 = .ok (.getfield 12, 3) := by decide +kernel
theorem dX7_doOrder_4 : decode cX7_doOrder 4 = .ok (.iload_n 1, 1) := by decide +kernel
theorem dX7_doOrder_5 : decode cX7_doOrder 5 = .ok (.invokevirtual 324, 3) := by decide +kernel
theorem dX7_doOrder_8 : decode cX7_doOrder 8 = .ok (.istore_n 2, 1) := by decide +kernel
theorem dX7_doOrder_9 : decode cX7_doOrder 9 = .ok (.aload_n 0, 1) := by decide +kernel
theorem dX7_doOrder_10 : decode cX7_doOrder 10 = .ok (.getfield 12, 3) := by decide +kernel
theorem dX7_doOrder_13 : decode cX7_doOrder 13 = .ok (.iload_n 1, 1) := by decide +kernel
theorem dX7_doOrder_14 : decode cX7_doOrder 14 = .ok (.invokevirtual 327, 3) := by decide +kernel
theorem dX7_doOrder_17 : decode cX7_doOrder 17 = .ok (.istore_n 3, 1) := by decide +kernel
theorem dX7_doOrder_18 : decode cX7_doOrder 18 = .ok (.aload_n 0, 1) := by decide +kernel
theorem dX7_doOrder_19 : decode cX7_doOrder 19 = .ok (.getfield 12, 3) := by decide +kernel
theorem dX7_doOrder_22 : decode cX7_doOrder 22 = .ok (.iload_n 1, 1) := by decide +kernel
theorem dX7_doOrder_23 : decode cX7_doOrder 23 = .ok (.invokevirtual 330, 3) := by decide +kernel
theorem dX7_doOrder_26 : decode cX7_doOrder 26 = .ok (.tableswitch 69 0 3 #[30, 39, 49, 59], 30) := by decide +kernel
theorem dX7_doOrder_56 : decode cX7_doOrder 56 = .ok (.aload_n 0, 1) := by decide +kernel
theorem dX7_doOrder_57 : decode cX7_doOrder 57 = .ok (.getfield 19, 3) := by decide +kernel
theorem dX7_doOrder_60 : decode cX7_doOrder 60 = .ok (.iload_n 2, 1) := by decide +kernel
theorem dX7_doOrder_61 : decode cX7_doOrder 61 = .ok (.invokevirtual 165, 3) := by decide +kernel
theorem dX7_doOrder_64 : decode cX7_doOrder 64 = .ok (.ireturn, 1) := by decide +kernel
theorem dX7_doOrder_65 : decode cX7_doOrder 65 = .ok (.aload_n 0, 1) := by decide +kernel
theorem dX7_doOrder_66 : decode cX7_doOrder 66 = .ok (.getfield 19, 3) := by decide +kernel
theorem dX7_doOrder_69 : decode cX7_doOrder 69 = .ok (.iload_n 2, 1) := by decide +kernel
theorem dX7_doOrder_70 : decode cX7_doOrder 70 = .ok (.iload_n 3, 1) := by decide +kernel
theorem dX7_doOrder_71 : decode cX7_doOrder 71 = .ok (.invokevirtual 171, 3) := by decide +kernel
theorem dX7_doOrder_74 : decode cX7_doOrder 74 = .ok (.ireturn, 1) := by decide +kernel
theorem dX7_doOrder_75 : decode cX7_doOrder 75 = .ok (.aload_n 0, 1) := by decide +kernel
theorem dX7_doOrder_76 : decode cX7_doOrder 76 = .ok (.getfield 19, 3) := by decide +kernel
theorem dX7_doOrder_79 : decode cX7_doOrder 79 = .ok (.iload_n 2, 1) := by decide +kernel
theorem dX7_doOrder_80 : decode cX7_doOrder 80 = .ok (.iload_n 3, 1) := by decide +kernel
theorem dX7_doOrder_81 : decode cX7_doOrder 81 = .ok (.invokevirtual 177, 3) := by decide +kernel
theorem dX7_doOrder_84 : decode cX7_doOrder 84 = .ok (.ireturn, 1) := by decide +kernel
theorem dX7_doOrder_85 : decode cX7_doOrder 85 = .ok (.aload_n 0, 1) := by decide +kernel
theorem dX7_doOrder_86 : decode cX7_doOrder 86 = .ok (.getfield 19, 3) := by decide +kernel
theorem dX7_doOrder_89 : decode cX7_doOrder 89 = .ok (.iload_n 2, 1) := by decide +kernel
theorem dX7_doOrder_90 : decode cX7_doOrder 90 = .ok (.iload_n 3, 1) := by decide +kernel
theorem dX7_doOrder_91 : decode cX7_doOrder 91 = .ok (.invokevirtual 180, 3) := by decide +kernel
theorem dX7_doOrder_94 : decode cX7_doOrder 94 = .ok (.ireturn, 1) := by decide +kernel
theorem dX7_doOrder_95 : decode cX7_doOrder 95 = .ok (.aload_n 0, 1) := by decide +kernel
theorem dX7_doOrder_96 : decode cX7_doOrder 96 = .ok (.getfield 19, 3) := by decide +kernel
theorem dX7_doOrder_99 : decode cX7_doOrder 99 = .ok (.iload_n 2, 1) := by decide +kernel
theorem dX7_doOrder_100 : decode cX7_doOrder 100 = .ok (.invokevirtual 192, 3) := by decide +kernel
theorem dX7_doOrder_103 : decode cX7_doOrder 103 = .ok (.ireturn, 1) := by decide +kernel
theorem dX7_groupsDropped_0 : decode cX7_groupsDropped 0 = .ok (.lload_n 0, 1) := by decide +kernel
theorem dX7_groupsDropped_1 : decode cX7_groupsDropped 1 = .ok (.lstore_n 3, 1) := by decide +kernel
theorem dX7_groupsDropped_2 : decode cX7_groupsDropped 2 = .ok (.iconst 0, 1) := by decide +kernel
theorem dX7_groupsDropped_3 : decode cX7_groupsDropped 3 = .ok (.istore 5, 2) := by decide +kernel
theorem dX7_groupsDropped_5 : decode cX7_groupsDropped 5 = .ok (.iload 5, 2) := by decide +kernel
theorem dX7_groupsDropped_7 : decode cX7_groupsDropped 7 = .ok (.iload_n 2, 1) := by decide +kernel
theorem dX7_groupsDropped_8 : decode cX7_groupsDropped 8 = .ok (.if_icmp .ge 15, 3) := by decide +kernel
theorem dX7_groupsDropped_11 : decode cX7_groupsDropped 11 = .ok (.lload_n 3, 1) := by decide +kernel
theorem dX7_groupsDropped_12 : decode cX7_groupsDropped 12 = .ok (.ldc2_w 264, 3) := by decide +kernel
theorem dX7_groupsDropped_15 : decode cX7_groupsDropped 15 = .ok (.ldiv, 1) := by decide +kernel
theorem dX7_groupsDropped_16 : decode cX7_groupsDropped 16 = .ok (.lstore_n 3, 1) := by decide +kernel
theorem dX7_groupsDropped_17 : decode cX7_groupsDropped 17 = .ok (.iinc 5 1, 3) := by decide +kernel
theorem dX7_groupsDropped_20 : decode cX7_groupsDropped 20 = .ok (.goto (-15), 3) := by decide +kernel
theorem dX7_groupsDropped_23 : decode cX7_groupsDropped 23 = .ok (.lload_n 3, 1) := by decide +kernel
theorem dX7_groupsDropped_24 : decode cX7_groupsDropped 24 = .ok (.lreturn, 1) := by decide +kernel
theorem dX7_succeeds_0 : decode cX7_succeeds 0 = .ok (.iload_n 1, 1) := by decide +kernel
theorem dX7_succeeds_1 : decode cX7_succeeds 1 = .ok (.ldc_w 333, 3) := by decide +kernel
theorem dX7_succeeds_4 : decode cX7_succeeds 4 = .ok (.irem, 1) := by decide +kernel
theorem dX7_succeeds_5 : decode cX7_succeeds 5 = .ok (.istore_n 2, 1) := by decide +kernel
theorem dX7_succeeds_6 : decode cX7_succeeds 6 = .ok (.iload_n 1, 1) := by decide +kernel
theorem dX7_succeeds_7 : decode cX7_succeeds 7 = .ok (.sipush 10000, 3) := by decide +kernel
theorem dX7_succeeds_10 : decode cX7_succeeds 10 = .ok (.irem, 1) := by decide +kernel
theorem dX7_succeeds_11 : decode cX7_succeeds 11 = .ok (.istore_n 3, 1) := by decide +kernel
theorem dX7_succeeds_12 : decode cX7_succeeds 12 = .ok (.iload_n 1, 1) := by decide +kernel
theorem dX7_succeeds_13 : decode cX7_succeeds 13 = .ok (.sipush 1000, 3) := by decide +kernel
theorem dX7_succeeds_16 : decode cX7_succeeds 16 = .ok (.irem, 1) := by decide +kernel
theorem dX7_succeeds_17 : decode cX7_succeeds 17 = .ok (.istore 4, 2) := by decide +kernel
theorem dX7_succeeds_19 : decode cX7_succeeds 19 = .ok (.iload_n 1, 1) := by decide +kernel
theorem dX7_succeeds_20 : decode cX7_succeeds 20 = .ok (.bipush 100, 2) := by decide +kernel
theorem dX7_succeeds_22 : decode cX7_succeeds 22 = .ok (.irem, 1) := by decide +kernel
theorem dX7_succeeds_23 : decode cX7_succeeds 23 = .ok (.istore 5, 2) := by decide +kernel
theorem dX7_succeeds_25 : decode cX7_succeeds 25 = .ok (.iload_n 1, 1) := by decide +kernel
theorem dX7_succeeds_26 : decode cX7_succeeds 26 = .ok (.bipush 10, 2) := by decide +kernel
theorem dX7_succeeds_28 : decode cX7_succeeds 28 = .ok (.irem, 1) := by decide +kernel
theorem dX7_succeeds_29 : decode cX7_succeeds 29 = .ok (.istore 6, 2) := by decide +kernel
theorem dX7_succeeds_31 : decode cX7_succeeds 31 = .ok (.iload_n 2, 1) := by decide +kernel
theorem dX7_succeeds_32 : decode cX7_succeeds 32 = .ok (.sipush 10000, 3) := by decide +kernel
theorem dX7_succeeds_35 : decode cX7_succeeds 35 = .ok (.idiv, 1) := by decide +kernel
theorem dX7_succeeds_36 : decode cX7_succeeds 36 = .ok (.istore 7, 2) := by decide +kernel
theorem dX7_succeeds_38 : decode cX7_succeeds 38 = .ok (.iload_n 2, 1) := by decide +kernel
theorem dX7_succeeds_39 : decode cX7_succeeds 39 = .ok (.sipush 1000, 3) := by decide +kernel
theorem dX7_succeeds_42 : decode cX7_succeeds 42 = .ok (.idiv, 1) := by decide +kernel
theorem dX7_succeeds_43 : decode cX7_succeeds 43 = .ok (.istore 8, 2) := by decide +kernel
theorem dX7_succeeds_45 : decode cX7_succeeds 45 = .ok (.iload 4, 2) := by decide +kernel
theorem dX7_succeeds_47 : decode cX7_succeeds 47 = .ok (.bipush 10, 2) := by decide +kernel
theorem dX7_succeeds_49 : decode cX7_succeeds 49 = .ok (.idiv, 1) := by decide +kernel
theorem dX7_succeeds_50 : decode cX7_succeeds 50 = .ok (.istore 9, 2) := by decide +kernel
theorem dX7_succeeds_52 : decode cX7_succeeds 52 = .ok (.iload_n 1, 1) := by decide +kernel
theorem dX7_succeeds_53 : decode cX7_succeeds 53 = .ok (.ldc_w 333, 3) := by decide +kernel
theorem dX7_succeeds_56 : decode cX7_succeeds 56 = .ok (.idiv, 1) := by decide +kernel
theorem dX7_succeeds_57 : decode cX7_succeeds 57 = .ok (.tableswitch 289 1 9 #[51, 90, 115, 140, 162, 183, 203, 222, 245], 51) := by decide +kernel
theorem dX7_succeeds_108 : decode cX7_succeeds 108 = .ok (.iload_n 3, 1) := by decide +kernel
theorem dX7_succeeds_109 : decode cX7_succeeds 109 = .ok (.sipush 1000, 3) := by decide +kernel
theorem dX7_succeeds_112 : decode cX7_succeeds 112 = .ok (.if_icmp .ge 33, 3) := by decide +kernel
theorem dX7_succeeds_115 : decode cX7_succeeds 115 = .ok (.iload 6, 2) := by decide +kernel
theorem dX7_succeeds_117 : decode cX7_succeeds 117 = .ok (.ifCond .ne 28, 3) := by decide +kernel
theorem dX7_succeeds_120 : decode cX7_succeeds 120 = .ok (.iload 9, 2) := by decide +kernel
theorem dX7_succeeds_122 : decode cX7_succeeds 122 = .ok (.invokestatic 96, 3) := by decide +kernel
theorem dX7_succeeds_125 : decode cX7_succeeds 125 = .ok (.ifCond .eq 20, 3) := by decide +kernel
theorem dX7_succeeds_128 : decode cX7_succeeds 128 = .ok (.aload_n 0, 1) := by decide +kernel
theorem dX7_succeeds_129 : decode cX7_succeeds 129 = .ok (.iload 7, 2) := by decide +kernel
theorem dX7_succeeds_131 : decode cX7_succeeds 131 = .ok (.iconst 1, 1) := by decide +kernel
theorem dX7_succeeds_132 : decode cX7_succeeds 132 = .ok (.iload 9, 2) := by decide +kernel
theorem dX7_succeeds_134 : decode cX7_succeeds 134 = .ok (.ishl, 1) := by decide +kernel
theorem dX7_succeeds_135 : decode cX7_succeeds 135 = .ok (.invokevirtual 171, 3) := by decide +kernel
theorem dX7_succeeds_138 : decode cX7_succeeds 138 = .ok (.ifCond .lt 7, 3) := by decide +kernel
theorem dX7_succeeds_141 : decode cX7_succeeds 141 = .ok (.iconst 1, 1) := by decide +kernel
theorem dX7_succeeds_142 : decode cX7_succeeds 142 = .ok (.goto 4, 3) := by decide +kernel
theorem dX7_succeeds_145 : decode cX7_succeeds 145 = .ok (.iconst 0, 1) := by decide +kernel
theorem dX7_succeeds_146 : decode cX7_succeeds 146 = .ok (.ireturn, 1) := by decide +kernel
theorem dX7_succeeds_147 : decode cX7_succeeds 147 = .ok (.iload 4, 2) := by decide +kernel
theorem dX7_succeeds_149 : decode cX7_succeeds 149 = .ok (.ifCond .ne 21, 3) := by decide +kernel
theorem dX7_succeeds_152 : decode cX7_succeeds 152 = .ok (.aload_n 0, 1) := by decide +kernel
theorem dX7_succeeds_153 : decode cX7_succeeds 153 = .ok (.iload 7, 2) := by decide +kernel
theorem dX7_succeeds_155 : decode cX7_succeeds 155 = .ok (.iload_n 3, 1) := by decide +kernel
theorem dX7_succeeds_156 : decode cX7_succeeds 156 = .ok (.sipush 1000, 3) := by decide +kernel
theorem dX7_succeeds_159 : decode cX7_succeeds 159 = .ok (.idiv, 1) := by decide +kernel
theorem dX7_succeeds_160 : decode cX7_succeeds 160 = .ok (.invokevirtual 177, 3) := by decide +kernel
theorem dX7_succeeds_163 : decode cX7_succeeds 163 = .ok (.ifCond .lt 7, 3) := by decide +kernel
theorem dX7_succeeds_166 : decode cX7_succeeds 166 = .ok (.iconst 1, 1) := by decide +kernel
theorem dX7_succeeds_167 : decode cX7_succeeds 167 = .ok (.goto 4, 3) := by decide +kernel
theorem dX7_succeeds_170 : decode cX7_succeeds 170 = .ok (.iconst 0, 1) := by decide +kernel
theorem dX7_succeeds_171 : decode cX7_succeeds 171 = .ok (.ireturn, 1) := by decide +kernel
theorem dX7_succeeds_172 : decode cX7_succeeds 172 = .ok (.iload 5, 2) := by decide +kernel
theorem dX7_succeeds_174 : decode cX7_succeeds 174 = .ok (.ifCond .ne 21, 3) := by decide +kernel
theorem dX7_succeeds_177 : decode cX7_succeeds 177 = .ok (.aload_n 0, 1) := by decide +kernel
theorem dX7_succeeds_178 : decode cX7_succeeds 178 = .ok (.iload 8, 2) := by decide +kernel
theorem dX7_succeeds_180 : decode cX7_succeeds 180 = .ok (.iload 4, 2) := by decide +kernel
theorem dX7_succeeds_182 : decode cX7_succeeds 182 = .ok (.bipush 100, 2) := by decide +kernel
theorem dX7_succeeds_184 : decode cX7_succeeds 184 = .ok (.idiv, 1) := by decide +kernel
theorem dX7_succeeds_185 : decode cX7_succeeds 185 = .ok (.invokevirtual 180, 3) := by decide +kernel
theorem dX7_succeeds_188 : decode cX7_succeeds 188 = .ok (.ifCond .lt 7, 3) := by decide +kernel
theorem dX7_succeeds_191 : decode cX7_succeeds 191 = .ok (.iconst 1, 1) := by decide +kernel
theorem dX7_succeeds_192 : decode cX7_succeeds 192 = .ok (.goto 4, 3) := by decide +kernel
theorem dX7_succeeds_195 : decode cX7_succeeds 195 = .ok (.iconst 0, 1) := by decide +kernel
theorem dX7_succeeds_196 : decode cX7_succeeds 196 = .ok (.ireturn, 1) := by decide +kernel
theorem dX7_succeeds_197 : decode cX7_succeeds 197 = .ok (.iload 6, 2) := by decide +kernel
theorem dX7_succeeds_199 : decode cX7_succeeds 199 = .ok (.ifCond .ne 18, 3) := by decide +kernel
theorem dX7_succeeds_202 : decode cX7_succeeds 202 = .ok (.aload_n 0, 1) := by decide +kernel
theorem dX7_succeeds_203 : decode cX7_succeeds 203 = .ok (.iload 8, 2) := by decide +kernel
theorem dX7_succeeds_205 : decode cX7_succeeds 205 = .ok (.iload 9, 2) := by decide +kernel
theorem dX7_succeeds_207 : decode cX7_succeeds 207 = .ok (.invokevirtual 186, 3) := by decide +kernel
theorem dX7_succeeds_210 : decode cX7_succeeds 210 = .ok (.ifCond .lt 7, 3) := by decide +kernel
theorem dX7_succeeds_213 : decode cX7_succeeds 213 = .ok (.iconst 1, 1) := by decide +kernel
theorem dX7_succeeds_214 : decode cX7_succeeds 214 = .ok (.goto 4, 3) := by decide +kernel
theorem dX7_succeeds_217 : decode cX7_succeeds 217 = .ok (.iconst 0, 1) := by decide +kernel
theorem dX7_succeeds_218 : decode cX7_succeeds 218 = .ok (.ireturn, 1) := by decide +kernel
theorem dX7_succeeds_219 : decode cX7_succeeds 219 = .ok (.iload_n 2, 1) := by decide +kernel
theorem dX7_succeeds_220 : decode cX7_succeeds 220 = .ok (.bipush 100, 2) := by decide +kernel
theorem dX7_succeeds_222 : decode cX7_succeeds 222 = .ok (.if_icmp .ge 16, 3) := by decide +kernel
theorem dX7_succeeds_225 : decode cX7_succeeds 225 = .ok (.aload_n 0, 1) := by decide +kernel
theorem dX7_succeeds_226 : decode cX7_succeeds 226 = .ok (.iload 5, 2) := by decide +kernel
theorem dX7_succeeds_228 : decode cX7_succeeds 228 = .ok (.invokevirtual 192, 3) := by decide +kernel
theorem dX7_succeeds_231 : decode cX7_succeeds 231 = .ok (.ifCond .lt 7, 3) := by decide +kernel
theorem dX7_succeeds_234 : decode cX7_succeeds 234 = .ok (.iconst 1, 1) := by decide +kernel
theorem dX7_succeeds_235 : decode cX7_succeeds 235 = .ok (.goto 4, 3) := by decide +kernel
theorem dX7_succeeds_238 : decode cX7_succeeds 238 = .ok (.iconst 0, 1) := by decide +kernel
theorem dX7_succeeds_239 : decode cX7_succeeds 239 = .ok (.ireturn, 1) := by decide +kernel
theorem dX7_succeeds_240 : decode cX7_succeeds 240 = .ok (.iload 4, 2) := by decide +kernel
theorem dX7_succeeds_242 : decode cX7_succeeds 242 = .ok (.ifCond .ne 16, 3) := by decide +kernel
theorem dX7_succeeds_245 : decode cX7_succeeds 245 = .ok (.aload_n 0, 1) := by decide +kernel
theorem dX7_succeeds_246 : decode cX7_succeeds 246 = .ok (.iload 8, 2) := by decide +kernel
theorem dX7_succeeds_248 : decode cX7_succeeds 248 = .ok (.invokevirtual 183, 3) := by decide +kernel
theorem dX7_succeeds_251 : decode cX7_succeeds 251 = .ok (.ifCond .lt 7, 3) := by decide +kernel
theorem dX7_succeeds_254 : decode cX7_succeeds 254 = .ok (.iconst 1, 1) := by decide +kernel
theorem dX7_succeeds_255 : decode cX7_succeeds 255 = .ok (.goto 4, 3) := by decide +kernel
theorem dX7_succeeds_258 : decode cX7_succeeds 258 = .ok (.iconst 0, 1) := by decide +kernel
theorem dX7_succeeds_259 : decode cX7_succeeds 259 = .ok (.ireturn, 1) := by decide +kernel
theorem dX7_succeeds_260 : decode cX7_succeeds 260 = .ok (.iload_n 3, 1) := by decide +kernel
theorem dX7_succeeds_261 : decode cX7_succeeds 261 = .ok (.ifCond .ne 16, 3) := by decide +kernel
theorem dX7_succeeds_264 : decode cX7_succeeds 264 = .ok (.aload_n 0, 1) := by decide +kernel
theorem dX7_succeeds_265 : decode cX7_succeeds 265 = .ok (.iload 7, 2) := by decide +kernel
theorem dX7_succeeds_267 : decode cX7_succeeds 267 = .ok (.invokevirtual 174, 3) := by decide +kernel
theorem dX7_succeeds_270 : decode cX7_succeeds 270 = .ok (.ifCond .lt 7, 3) := by decide +kernel
theorem dX7_succeeds_273 : decode cX7_succeeds 273 = .ok (.iconst 1, 1) := by decide +kernel
theorem dX7_succeeds_274 : decode cX7_succeeds 274 = .ok (.goto 4, 3) := by decide +kernel
theorem dX7_succeeds_277 : decode cX7_succeeds 277 = .ok (.iconst 0, 1) := by decide +kernel
theorem dX7_succeeds_278 : decode cX7_succeeds 278 = .ok (.ireturn, 1) := by decide +kernel
theorem dX7_succeeds_279 : decode cX7_succeeds 279 = .ok (.iload_n 2, 1) := by decide +kernel
theorem dX7_succeeds_280 : decode cX7_succeeds 280 = .ok (.bipush 100, 2) := by decide +kernel
theorem dX7_succeeds_282 : decode cX7_succeeds 282 = .ok (.if_icmp .ge 18, 3) := by decide +kernel
theorem dX7_succeeds_285 : decode cX7_succeeds 285 = .ok (.aload_n 0, 1) := by decide +kernel
theorem dX7_succeeds_286 : decode cX7_succeeds 286 = .ok (.iconst (-1), 1) := by decide +kernel
theorem dX7_succeeds_287 : decode cX7_succeeds 287 = .ok (.iconst (-1), 1) := by decide +kernel
theorem dX7_succeeds_288 : decode cX7_succeeds 288 = .ok (.invokevirtual 280, 3) := by decide +kernel
theorem dX7_succeeds_291 : decode cX7_succeeds 291 = .ok (.iload 5, 2) := by decide +kernel
theorem dX7_succeeds_293 : decode cX7_succeeds 293 = .ok (.if_icmp .gt 7, 3) := by decide +kernel
theorem dX7_succeeds_296 : decode cX7_succeeds 296 = .ok (.iconst 1, 1) := by decide +kernel
theorem dX7_succeeds_297 : decode cX7_succeeds 297 = .ok (.goto 4, 3) := by decide +kernel
theorem dX7_succeeds_300 : decode cX7_succeeds 300 = .ok (.iconst 0, 1) := by decide +kernel
theorem dX7_succeeds_301 : decode cX7_succeeds 301 = .ok (.ireturn, 1) := by decide +kernel
theorem dX7_succeeds_302 : decode cX7_succeeds 302 = .ok (.iload 4, 2) := by decide +kernel
theorem dX7_succeeds_304 : decode cX7_succeeds 304 = .ok (.iconst 2, 1) := by decide +kernel
theorem dX7_succeeds_305 : decode cX7_succeeds 305 = .ok (.if_icmp .ge 39, 3) := by decide +kernel
theorem dX7_succeeds_308 : decode cX7_succeeds 308 = .ok (.aload_n 0, 1) := by decide +kernel
theorem dX7_succeeds_309 : decode cX7_succeeds 309 = .ok (.getfield 123, 3) := by decide +kernel
theorem dX7_succeeds_312 : decode cX7_succeeds 312 = .ok (.iload 8, 2) := by decide +kernel
theorem dX7_succeeds_314 : decode cX7_succeeds 314 = .ok (.invokevirtual 127, 3) := by decide +kernel
theorem dX7_succeeds_317 : decode cX7_succeeds 317 = .ok (.ifCond .eq 27, 3) := by decide +kernel
theorem dX7_succeeds_320 : decode cX7_succeeds 320 = .ok (.aload_n 0, 1) := by decide +kernel
theorem dX7_succeeds_321 : decode cX7_succeeds 321 = .ok (.iload 8, 2) := by decide +kernel
theorem dX7_succeeds_323 : decode cX7_succeeds 323 = .ok (.invokevirtual 334, 3) := by decide +kernel
theorem dX7_succeeds_326 : decode cX7_succeeds 326 = .ok (.iload 6, 2) := by decide +kernel
theorem dX7_succeeds_328 : decode cX7_succeeds 328 = .ok (.iconst 1, 1) := by decide +kernel
theorem dX7_succeeds_329 : decode cX7_succeeds 329 = .ok (.if_icmp .ne 7, 3) := by decide +kernel
theorem dX7_succeeds_332 : decode cX7_succeeds 332 = .ok (.iconst 1, 1) := by decide +kernel
theorem dX7_succeeds_333 : decode cX7_succeeds 333 = .ok (.goto 4, 3) := by decide +kernel
theorem dX7_succeeds_336 : decode cX7_succeeds 336 = .ok (.iconst 0, 1) := by decide +kernel
theorem dX7_succeeds_337 : decode cX7_succeeds 337 = .ok (.if_icmp .ne 7, 3) := by decide +kernel
theorem dX7_succeeds_340 : decode cX7_succeeds 340 = .ok (.iconst 1, 1) := by decide +kernel
theorem dX7_succeeds_341 : decode cX7_succeeds 341 = .ok (.goto 4, 3) := by decide +kernel
theorem dX7_succeeds_344 : decode cX7_succeeds 344 = .ok (.iconst 0, 1) := by decide +kernel
theorem dX7_succeeds_345 : decode cX7_succeeds 345 = .ok (.ireturn, 1) := by decide +kernel
theorem dX7_succeeds_346 : decode cX7_succeeds 346 = .ok (.iconst 0, 1) := by decide +kernel
theorem dX7_succeeds_347 : decode cX7_succeeds 347 = .ok (.ireturn, 1) := by decide +kernel
theorem dX7_takeTurn_0 : decode cX7_takeTurn 0 = .ok (.iload_n 1, 1) := by decide +kernel
theorem dX7_takeTurn_1 : decode cX7_takeTurn 1 = .ok (.bipush 16, 2) := by decide +kernel
theorem dX7_takeTurn_3 : decode cX7_takeTurn 3 = .ok (.idiv, 1) := by decide +kernel
theorem dX7_takeTurn_4 : decode cX7_takeTurn 4 = .ok (.istore_n 2, 1) := by decide +kernel
theorem dX7_takeTurn_5 : decode cX7_takeTurn 5 = .ok (.iload_n 1, 1) := by decide +kernel
theorem dX7_takeTurn_6 : decode cX7_takeTurn 6 = .ok (.bipush 16, 2) := by decide +kernel
theorem dX7_takeTurn_8 : decode cX7_takeTurn 8 = .ok (.irem, 1) := by decide +kernel
theorem dX7_takeTurn_9 : decode cX7_takeTurn 9 = .ok (.tableswitch 200 0 13 #[71, 83, 83, 106, 118, 118, 118, 137, 137, 156, 168, 168, 168, 188], 71) := by decide +kernel
theorem dX7_takeTurn_80 : decode cX7_takeTurn 80 = .ok (.aload_n 0, 1) := by decide +kernel
theorem dX7_takeTurn_81 : decode cX7_takeTurn 81 = .ok (.iload_n 2, 1) := by decide +kernel
theorem dX7_takeTurn_82 : decode cX7_takeTurn 82 = .ok (.bipush 10, 2) := by decide +kernel
theorem dX7_takeTurn_84 : decode cX7_takeTurn 84 = .ok (.irem, 1) := by decide +kernel
theorem dX7_takeTurn_85 : decode cX7_takeTurn 85 = .ok (.invokevirtual 165, 3) := by decide +kernel
theorem dX7_takeTurn_88 : decode cX7_takeTurn 88 = .ok (.pop, 1) := by decide +kernel
theorem dX7_takeTurn_89 : decode cX7_takeTurn 89 = .ok (.goto 130, 3) := by decide +kernel
theorem dX7_takeTurn_92 : decode cX7_takeTurn 92 = .ok (.aload_n 0, 1) := by decide +kernel
theorem dX7_takeTurn_93 : decode cX7_takeTurn 93 = .ok (.iload_n 2, 1) := by decide +kernel
theorem dX7_takeTurn_94 : decode cX7_takeTurn 94 = .ok (.bipush 10, 2) := by decide +kernel
theorem dX7_takeTurn_96 : decode cX7_takeTurn 96 = .ok (.irem, 1) := by decide +kernel
theorem dX7_takeTurn_97 : decode cX7_takeTurn 97 = .ok (.iconst 1, 1) := by decide +kernel
theorem dX7_takeTurn_98 : decode cX7_takeTurn 98 = .ok (.iload_n 1, 1) := by decide +kernel
theorem dX7_takeTurn_99 : decode cX7_takeTurn 99 = .ok (.sipush 256, 3) := by decide +kernel
theorem dX7_takeTurn_102 : decode cX7_takeTurn 102 = .ok (.idiv, 1) := by decide +kernel
theorem dX7_takeTurn_103 : decode cX7_takeTurn 103 = .ok (.sipush 4095, 3) := by decide +kernel
theorem dX7_takeTurn_106 : decode cX7_takeTurn 106 = .ok (.irem, 1) := by decide +kernel
theorem dX7_takeTurn_107 : decode cX7_takeTurn 107 = .ok (.iadd, 1) := by decide +kernel
theorem dX7_takeTurn_108 : decode cX7_takeTurn 108 = .ok (.invokevirtual 171, 3) := by decide +kernel
theorem dX7_takeTurn_111 : decode cX7_takeTurn 111 = .ok (.pop, 1) := by decide +kernel
theorem dX7_takeTurn_112 : decode cX7_takeTurn 112 = .ok (.goto 107, 3) := by decide +kernel
theorem dX7_takeTurn_115 : decode cX7_takeTurn 115 = .ok (.aload_n 0, 1) := by decide +kernel
theorem dX7_takeTurn_116 : decode cX7_takeTurn 116 = .ok (.iload_n 2, 1) := by decide +kernel
theorem dX7_takeTurn_117 : decode cX7_takeTurn 117 = .ok (.bipush 10, 2) := by decide +kernel
theorem dX7_takeTurn_119 : decode cX7_takeTurn 119 = .ok (.irem, 1) := by decide +kernel
theorem dX7_takeTurn_120 : decode cX7_takeTurn 120 = .ok (.invokevirtual 174, 3) := by decide +kernel
theorem dX7_takeTurn_123 : decode cX7_takeTurn 123 = .ok (.pop, 1) := by decide +kernel
theorem dX7_takeTurn_124 : decode cX7_takeTurn 124 = .ok (.goto 95, 3) := by decide +kernel
theorem dX7_takeTurn_127 : decode cX7_takeTurn 127 = .ok (.aload_n 0, 1) := by decide +kernel
theorem dX7_takeTurn_128 : decode cX7_takeTurn 128 = .ok (.iload_n 2, 1) := by decide +kernel
theorem dX7_takeTurn_129 : decode cX7_takeTurn 129 = .ok (.bipush 10, 2) := by decide +kernel
theorem dX7_takeTurn_131 : decode cX7_takeTurn 131 = .ok (.irem, 1) := by decide +kernel
theorem dX7_takeTurn_132 : decode cX7_takeTurn 132 = .ok (.iload_n 1, 1) := by decide +kernel
theorem dX7_takeTurn_133 : decode cX7_takeTurn 133 = .ok (.sipush 256, 3) := by decide +kernel
theorem dX7_takeTurn_136 : decode cX7_takeTurn 136 = .ok (.idiv, 1) := by decide +kernel
theorem dX7_takeTurn_137 : decode cX7_takeTurn 137 = .ok (.iconst 4, 1) := by decide +kernel
theorem dX7_takeTurn_138 : decode cX7_takeTurn 138 = .ok (.irem, 1) := by decide +kernel
theorem dX7_takeTurn_139 : decode cX7_takeTurn 139 = .ok (.invokevirtual 177, 3) := by decide +kernel
theorem dX7_takeTurn_142 : decode cX7_takeTurn 142 = .ok (.pop, 1) := by decide +kernel
theorem dX7_takeTurn_143 : decode cX7_takeTurn 143 = .ok (.goto 76, 3) := by decide +kernel
theorem dX7_takeTurn_146 : decode cX7_takeTurn 146 = .ok (.aload_n 0, 1) := by decide +kernel
theorem dX7_takeTurn_147 : decode cX7_takeTurn 147 = .ok (.iload_n 2, 1) := by decide +kernel
theorem dX7_takeTurn_148 : decode cX7_takeTurn 148 = .ok (.bipush 24, 2) := by decide +kernel
theorem dX7_takeTurn_150 : decode cX7_takeTurn 150 = .ok (.irem, 1) := by decide +kernel
theorem dX7_takeTurn_151 : decode cX7_takeTurn 151 = .ok (.iload_n 1, 1) := by decide +kernel
theorem dX7_takeTurn_152 : decode cX7_takeTurn 152 = .ok (.sipush 512, 3) := by decide +kernel
theorem dX7_takeTurn_155 : decode cX7_takeTurn 155 = .ok (.idiv, 1) := by decide +kernel
theorem dX7_takeTurn_156 : decode cX7_takeTurn 156 = .ok (.iconst 3, 1) := by decide +kernel
theorem dX7_takeTurn_157 : decode cX7_takeTurn 157 = .ok (.irem, 1) := by decide +kernel
theorem dX7_takeTurn_158 : decode cX7_takeTurn 158 = .ok (.invokevirtual 180, 3) := by decide +kernel
theorem dX7_takeTurn_161 : decode cX7_takeTurn 161 = .ok (.pop, 1) := by decide +kernel
theorem dX7_takeTurn_162 : decode cX7_takeTurn 162 = .ok (.goto 57, 3) := by decide +kernel
theorem dX7_takeTurn_165 : decode cX7_takeTurn 165 = .ok (.aload_n 0, 1) := by decide +kernel
theorem dX7_takeTurn_166 : decode cX7_takeTurn 166 = .ok (.iload_n 2, 1) := by decide +kernel
theorem dX7_takeTurn_167 : decode cX7_takeTurn 167 = .ok (.bipush 24, 2) := by decide +kernel
theorem dX7_takeTurn_169 : decode cX7_takeTurn 169 = .ok (.irem, 1) := by decide +kernel
theorem dX7_takeTurn_170 : decode cX7_takeTurn 170 = .ok (.invokevirtual 183, 3) := by decide +kernel
theorem dX7_takeTurn_173 : decode cX7_takeTurn 173 = .ok (.pop, 1) := by decide +kernel
theorem dX7_takeTurn_174 : decode cX7_takeTurn 174 = .ok (.goto 45, 3) := by decide +kernel
theorem dX7_takeTurn_177 : decode cX7_takeTurn 177 = .ok (.aload_n 0, 1) := by decide +kernel
theorem dX7_takeTurn_178 : decode cX7_takeTurn 178 = .ok (.iload_n 2, 1) := by decide +kernel
theorem dX7_takeTurn_179 : decode cX7_takeTurn 179 = .ok (.bipush 24, 2) := by decide +kernel
theorem dX7_takeTurn_181 : decode cX7_takeTurn 181 = .ok (.irem, 1) := by decide +kernel
theorem dX7_takeTurn_182 : decode cX7_takeTurn 182 = .ok (.iload_n 1, 1) := by decide +kernel
theorem dX7_takeTurn_183 : decode cX7_takeTurn 183 = .ok (.sipush 512, 3) := by decide +kernel
theorem dX7_takeTurn_186 : decode cX7_takeTurn 186 = .ok (.idiv, 1) := by decide +kernel
theorem dX7_takeTurn_187 : decode cX7_takeTurn 187 = .ok (.bipush 12, 2) := by decide +kernel
theorem dX7_takeTurn_189 : decode cX7_takeTurn 189 = .ok (.irem, 1) := by decide +kernel
theorem dX7_takeTurn_190 : decode cX7_takeTurn 190 = .ok (.invokevirtual 186, 3) := by decide +kernel
theorem dX7_takeTurn_193 : decode cX7_takeTurn 193 = .ok (.pop, 1) := by decide +kernel
theorem dX7_takeTurn_194 : decode cX7_takeTurn 194 = .ok (.goto 25, 3) := by decide +kernel
theorem dX7_takeTurn_197 : decode cX7_takeTurn 197 = .ok (.aload_n 0, 1) := by decide +kernel
theorem dX7_takeTurn_198 : decode cX7_takeTurn 198 = .ok (.iload_n 2, 1) := by decide +kernel
theorem dX7_takeTurn_199 : decode cX7_takeTurn 199 = .ok (.bipush 30, 2) := by decide +kernel
theorem dX7_takeTurn_201 : decode cX7_takeTurn 201 = .ok (.irem, 1) := by decide +kernel
theorem dX7_takeTurn_202 : decode cX7_takeTurn 202 = .ok (.invokevirtual 189, 3) := by decide +kernel
theorem dX7_takeTurn_205 : decode cX7_takeTurn 205 = .ok (.pop, 1) := by decide +kernel
theorem dX7_takeTurn_206 : decode cX7_takeTurn 206 = .ok (.goto 13, 3) := by decide +kernel
theorem dX7_takeTurn_209 : decode cX7_takeTurn 209 = .ok (.aload_n 0, 1) := by decide +kernel
theorem dX7_takeTurn_210 : decode cX7_takeTurn 210 = .ok (.iconst 1, 1) := by decide +kernel
theorem dX7_takeTurn_211 : decode cX7_takeTurn 211 = .ok (.iload_n 2, 1) := by decide +kernel
theorem dX7_takeTurn_212 : decode cX7_takeTurn 212 = .ok (.iconst 5, 1) := by decide +kernel
theorem dX7_takeTurn_213 : decode cX7_takeTurn 213 = .ok (.irem, 1) := by decide +kernel
theorem dX7_takeTurn_214 : decode cX7_takeTurn 214 = .ok (.iadd, 1) := by decide +kernel
theorem dX7_takeTurn_215 : decode cX7_takeTurn 215 = .ok (.invokevirtual 192, 3) := by decide +kernel
theorem dX7_takeTurn_218 : decode cX7_takeTurn 218 = .ok (.pop, 1) := by decide +kernel
theorem dX7_takeTurn_219 : decode cX7_takeTurn 219 = .ok (.return_, 1) := by decide +kernel
theorem dX7_isField_0 : decode cX7_isField 0 = .ok (.iload_n 0, 1) := by decide +kernel
theorem dX7_isField_1 : decode cX7_isField 1 = .ok (.ifCond .lt 13, 3) := by decide +kernel
theorem dX7_isField_4 : decode cX7_isField 4 = .ok (.iload_n 0, 1) := by decide +kernel
theorem dX7_isField_5 : decode cX7_isField 5 = .ok (.bipush 12, 2) := by decide +kernel
theorem dX7_isField_7 : decode cX7_isField 7 = .ok (.if_icmp .ge 7, 3) := by decide +kernel
theorem dX7_isField_10 : decode cX7_isField 10 = .ok (.iconst 1, 1) := by decide +kernel
theorem dX7_isField_11 : decode cX7_isField 11 = .ok (.goto 4, 3) := by decide +kernel
theorem dX7_isField_14 : decode cX7_isField 14 = .ok (.iconst 0, 1) := by decide +kernel
theorem dX7_isField_15 : decode cX7_isField 15 = .ok (.ireturn, 1) := by decide +kernel
theorem dX7_isCloud_0 : decode cX7_isCloud 0 = .ok (.iload_n 0, 1) := by decide +kernel
theorem dX7_isCloud_1 : decode cX7_isCloud 1 = .ok (.iconst 1, 1) := by decide +kernel
theorem dX7_isCloud_2 : decode cX7_isCloud 2 = .ok (.if_icmp .lt 14, 3) := by decide +kernel
theorem dX7_isCloud_5 : decode cX7_isCloud 5 = .ok (.iload_n 0, 1) := by decide +kernel
theorem dX7_isCloud_6 : decode cX7_isCloud 6 = .ok (.sipush 4095, 3) := by decide +kernel
theorem dX7_isCloud_9 : decode cX7_isCloud 9 = .ok (.if_icmp .gt 7, 3) := by decide +kernel
theorem dX7_isCloud_12 : decode cX7_isCloud 12 = .ok (.iconst 1, 1) := by decide +kernel
theorem dX7_isCloud_13 : decode cX7_isCloud 13 = .ok (.goto 4, 3) := by decide +kernel
theorem dX7_isCloud_16 : decode cX7_isCloud 16 = .ok (.iconst 0, 1) := by decide +kernel
theorem dX7_isCloud_17 : decode cX7_isCloud 17 = .ok (.ireturn, 1) := by decide +kernel
theorem dX7_isSite_0 : decode cX7_isSite 0 = .ok (.iload_n 0, 1) := by decide +kernel
theorem dX7_isSite_1 : decode cX7_isSite 1 = .ok (.ifCond .lt 12, 3) := by decide +kernel
theorem dX7_isSite_4 : decode cX7_isSite 4 = .ok (.iload_n 0, 1) := by decide +kernel
theorem dX7_isSite_5 : decode cX7_isSite 5 = .ok (.iconst 4, 1) := by decide +kernel
theorem dX7_isSite_6 : decode cX7_isSite 6 = .ok (.if_icmp .ge 7, 3) := by decide +kernel
theorem dX7_isSite_9 : decode cX7_isSite 9 = .ok (.iconst 1, 1) := by decide +kernel
theorem dX7_isSite_10 : decode cX7_isSite 10 = .ok (.goto 4, 3) := by decide +kernel
theorem dX7_isSite_13 : decode cX7_isSite 13 = .ok (.iconst 0, 1) := by decide +kernel
theorem dX7_isSite_14 : decode cX7_isSite 14 = .ok (.ireturn, 1) := by decide +kernel
theorem dX7_isDays_0 : decode cX7_isDays 0 = .ok (.iload_n 0, 1) := by decide +kernel
theorem dX7_isDays_1 : decode cX7_isDays 1 = .ok (.iconst 1, 1) := by decide +kernel
theorem dX7_isDays_2 : decode cX7_isDays 2 = .ok (.if_icmp .lt 13, 3) := by decide +kernel
theorem dX7_isDays_5 : decode cX7_isDays 5 = .ok (.iload_n 0, 1) := by decide +kernel
theorem dX7_isDays_6 : decode cX7_isDays 6 = .ok (.bipush 30, 2) := by decide +kernel
theorem dX7_isDays_8 : decode cX7_isDays 8 = .ok (.if_icmp .gt 7, 3) := by decide +kernel
theorem dX7_isDays_11 : decode cX7_isDays 11 = .ok (.iconst 1, 1) := by decide +kernel
theorem dX7_isDays_12 : decode cX7_isDays 12 = .ok (.goto 4, 3) := by decide +kernel
theorem dX7_isDays_15 : decode cX7_isDays 15 = .ok (.iconst 0, 1) := by decide +kernel
theorem dX7_isDays_16 : decode cX7_isDays 16 = .ok (.ireturn, 1) := by decide +kernel
theorem dX7_isSetting_0 : decode cX7_isSetting 0 = .ok (.iload_n 0, 1) := by decide +kernel
theorem dX7_isSetting_1 : decode cX7_isSetting 1 = .ok (.ifCond .lt 12, 3) := by decide +kernel
theorem dX7_isSetting_4 : decode cX7_isSetting 4 = .ok (.iload_n 0, 1) := by decide +kernel
theorem dX7_isSetting_5 : decode cX7_isSetting 5 = .ok (.iconst 3, 1) := by decide +kernel
theorem dX7_isSetting_6 : decode cX7_isSetting 6 = .ok (.if_icmp .ge 7, 3) := by decide +kernel
theorem dX7_isSetting_9 : decode cX7_isSetting 9 = .ok (.iconst 1, 1) := by decide +kernel
theorem dX7_isSetting_10 : decode cX7_isSetting 10 = .ok (.goto 4, 3) := by decide +kernel
theorem dX7_isSetting_13 : decode cX7_isSetting 13 = .ok (.iconst 0, 1) := by decide +kernel
theorem dX7_isSetting_14 : decode cX7_isSetting 14 = .ok (.ireturn, 1) := by decide +kernel
theorem dX7_isSlot_0 : decode cX7_isSlot 0 = .ok (.iload_n 0, 1) := by decide +kernel
theorem dX7_isSlot_1 : decode cX7_isSlot 1 = .ok (.ifCond .lt 12, 3) := by decide +kernel
theorem dX7_isSlot_4 : decode cX7_isSlot 4 = .ok (.iload_n 0, 1) := by decide +kernel
theorem dX7_isSlot_5 : decode cX7_isSlot 5 = .ok (.iconst 2, 1) := by decide +kernel
theorem dX7_isSlot_6 : decode cX7_isSlot 6 = .ok (.if_icmp .ge 7, 3) := by decide +kernel
theorem dX7_isSlot_9 : decode cX7_isSlot 9 = .ok (.iconst 1, 1) := by decide +kernel
theorem dX7_isSlot_10 : decode cX7_isSlot 10 = .ok (.goto 4, 3) := by decide +kernel
theorem dX7_isSlot_13 : decode cX7_isSlot 13 = .ok (.iconst 0, 1) := by decide +kernel
theorem dX7_isSlot_14 : decode cX7_isSlot 14 = .ok (.ireturn, 1) := by decide +kernel
theorem dX7_isIn_0 : decode cX7_isIn 0 = .ok (.iload_n 0, 1) := by decide +kernel
theorem dX7_isIn_1 : decode cX7_isIn 1 = .ok (.iload_n 1, 1) := by decide +kernel
theorem dX7_isIn_2 : decode cX7_isIn 2 = .ok (.ishr, 1) := by decide +kernel
theorem dX7_isIn_3 : decode cX7_isIn 3 = .ok (.iconst 1, 1) := by decide +kernel
theorem dX7_isIn_4 : decode cX7_isIn 4 = .ok (.iand, 1) := by decide +kernel
theorem dX7_isIn_5 : decode cX7_isIn 5 = .ok (.ifCond .eq 7, 3) := by decide +kernel
theorem dX7_isIn_8 : decode cX7_isIn 8 = .ok (.iconst 1, 1) := by decide +kernel
theorem dX7_isIn_9 : decode cX7_isIn 9 = .ok (.goto 4, 3) := by decide +kernel
theorem dX7_isIn_12 : decode cX7_isIn 12 = .ok (.iconst 0, 1) := by decide +kernel
theorem dX7_isIn_13 : decode cX7_isIn 13 = .ok (.ireturn, 1) := by decide +kernel
