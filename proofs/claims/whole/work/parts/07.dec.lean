theorem dX1_init_0 : decode cX1_init 0 = .ok (.aload_n 0, 1) := by decide +kernel
theorem dX1_init_1 : decode cX1_init 1 = .ok (.invokespecial 3, 3) := by decide +kernel
theorem dX1_init_4 : decode cX1_init 4 = .ok (.aload_n 0, 1) := by decide +kernel
theorem dX1_init_5 : decode cX1_init 5 = .ok (.new 9, 3) := by decide +kernel
theorem dX1_init_8 : decode cX1_init 8 = .ok (.dup, 1) := by decide +kernel
theorem dX1_init_9 : decode cX1_init 9 = .ok (.invokespecial 11, 3) := by decide +kernel
theorem dX1_init_12 : decode cX1_init 12 = .ok (.putfield 12, 3) := by decide +kernel
theorem dX1_init_15 : decode cX1_init 15 = .ok (.aload_n 0, 1) := by decide +kernel
theorem dX1_init_16 : decode cX1_init 16 = .ok (.new 18, 3) := by decide +kernel
theorem dX1_init_19 : decode cX1_init 19 = .ok (.dup, 1) := by decide +kernel
theorem dX1_init_20 : decode cX1_init 20 = .ok (.invokespecial 20, 3) := by decide +kernel
theorem dX1_init_23 : decode cX1_init 23 = .ok (.putfield 21, 3) := by decide +kernel
theorem dX1_init_26 : decode cX1_init 26 = .ok (.aload_n 0, 1) := by decide +kernel
theorem dX1_init_27 : decode cX1_init 27 = .ok (.new 25, 3) := by decide +kernel
theorem dX1_init_30 : decode cX1_init 30 = .ok (.dup, 1) := by decide +kernel
theorem dX1_init_31 : decode cX1_init 31 = .ok (.invokespecial 27, 3) := by decide +kernel
theorem dX1_init_34 : decode cX1_init 34 = .ok (.putfield 28, 3) := by decide +kernel
theorem dX1_init_37 : decode cX1_init 37 = .ok (.aload_n 0, 1) := by decide +kernel
theorem dX1_init_38 : decode cX1_init 38 = .ok (.iconst 3, 1) := by decide +kernel
theorem dX1_init_39 : decode cX1_init 39 = .ok (.newarray .int, 2) := by decide +kernel
theorem dX1_init_41 : decode cX1_init 41 = .ok (.putfield 32, 3) := by decide +kernel
theorem dX1_init_44 : decode cX1_init 44 = .ok (.aload_n 0, 1) := by decide +kernel
theorem dX1_init_45 : decode cX1_init 45 = .ok (.invokevirtual 36, 3) := by decide +kernel
theorem dX1_init_48 : decode cX1_init 48 = .ok (.return_, 1) := by decide +kernel
theorem dX1_clear_0 : decode cX1_clear 0 = .ok (.aload_n 0, 1) := by decide +kernel
theorem dX1_clear_1 : decode cX1_clear 1 = .ok (.getfield 12, 3) := by decide +kernel
theorem dX1_clear_4 : decode cX1_clear 4 = .ok (.invokevirtual 39, 3) := by decide +kernel
theorem dX1_clear_7 : decode cX1_clear 7 = .ok (.aload_n 0, 1) := by decide +kernel
theorem dX1_clear_8 : decode cX1_clear 8 = .ok (.getfield 21, 3) := by decide +kernel
theorem dX1_clear_11 : decode cX1_clear 11 = .ok (.invokevirtual 40, 3) := by decide +kernel
theorem dX1_clear_14 : decode cX1_clear 14 = .ok (.aload_n 0, 1) := by decide +kernel
theorem dX1_clear_15 : decode cX1_clear 15 = .ok (.getfield 28, 3) := by decide +kernel
theorem dX1_clear_18 : decode cX1_clear 18 = .ok (.invokevirtual 41, 3) := by decide +kernel
theorem dX1_clear_21 : decode cX1_clear 21 = .ok (.aload_n 0, 1) := by decide +kernel
theorem dX1_clear_22 : decode cX1_clear 22 = .ok (.getfield 32, 3) := by decide +kernel
theorem dX1_clear_25 : decode cX1_clear 25 = .ok (.iconst 0, 1) := by decide +kernel
theorem dX1_clear_26 : decode cX1_clear 26 = .ok (.iconst 3, 1) := by decide +kernel
theorem dX1_clear_27 : decode cX1_clear 27 = .ok (.iastore, 1) := by decide +kernel
theorem dX1_clear_28 : decode cX1_clear 28 = .ok (.aload_n 0, 1) := by decide +kernel
theorem dX1_clear_29 : decode cX1_clear 29 = .ok (.getfield 32, 3) := by decide +kernel
theorem dX1_clear_32 : decode cX1_clear 32 = .ok (.iconst 1, 1) := by decide +kernel
theorem dX1_clear_33 : decode cX1_clear 33 = .ok (.iconst 1, 1) := by decide +kernel
theorem dX1_clear_34 : decode cX1_clear 34 = .ok (.iastore, 1) := by decide +kernel
theorem dX1_clear_35 : decode cX1_clear 35 = .ok (.aload_n 0, 1) := by decide +kernel
theorem dX1_clear_36 : decode cX1_clear 36 = .ok (.getfield 32, 3) := by decide +kernel
theorem dX1_clear_39 : decode cX1_clear 39 = .ok (.iconst 2, 1) := by decide +kernel
theorem dX1_clear_40 : decode cX1_clear 40 = .ok (.iconst 5, 1) := by decide +kernel
theorem dX1_clear_41 : decode cX1_clear 41 = .ok (.iastore, 1) := by decide +kernel
theorem dX1_clear_42 : decode cX1_clear 42 = .ok (.aload_n 0, 1) := by decide +kernel
theorem dX1_clear_43 : decode cX1_clear 43 = .ok (.iconst 0, 1) := by decide +kernel
theorem dX1_clear_44 : decode cX1_clear 44 = .ok (.putfield 42, 3) := by decide +kernel
theorem dX1_clear_47 : decode cX1_clear 47 = .ok (.aload_n 0, 1) := by decide +kernel
theorem dX1_clear_48 : decode cX1_clear 48 = .ok (.iconst 0, 1) := by decide +kernel
theorem dX1_clear_49 : decode cX1_clear 49 = .ok (.putfield 46, 3) := by decide +kernel
theorem dX1_clear_52 : decode cX1_clear 52 = .ok (.return_, 1) := by decide +kernel
theorem dX1_copyFrom_0 : decode cX1_copyFrom 0 = .ok (.aload_n 0, 1) := by decide +kernel
theorem dX1_copyFrom_1 : decode cX1_copyFrom 1 = .ok (.getfield 12, 3) := by decide +kernel
theorem dX1_copyFrom_4 : decode cX1_copyFrom 4 = .ok (.aload_n 1, 1) := by decide +kernel
theorem dX1_copyFrom_5 : decode cX1_copyFrom 5 = .ok (.getfield 12, 3) := by decide +kernel
theorem dX1_copyFrom_8 : decode cX1_copyFrom 8 = .ok (.invokevirtual 49, 3) := by decide +kernel
theorem dX1_copyFrom_11 : decode cX1_copyFrom 11 = .ok (.aload_n 0, 1) := by decide +kernel
theorem dX1_copyFrom_12 : decode cX1_copyFrom 12 = .ok (.getfield 21, 3) := by decide +kernel
theorem dX1_copyFrom_15 : decode cX1_copyFrom 15 = .ok (.aload_n 1, 1) := by decide +kernel
theorem dX1_copyFrom_16 : decode cX1_copyFrom 16 = .ok (.getfield 21, 3) := by decide +kernel
theorem dX1_copyFrom_19 : decode cX1_copyFrom 19 = .ok (.invokevirtual 53, 3) := by decide +kernel
theorem dX1_copyFrom_22 : decode cX1_copyFrom 22 = .ok (.aload_n 0, 1) := by decide +kernel
theorem dX1_copyFrom_23 : decode cX1_copyFrom 23 = .ok (.getfield 28, 3) := by decide +kernel
theorem dX1_copyFrom_26 : decode cX1_copyFrom 26 = .ok (.aload_n 1, 1) := by decide +kernel
theorem dX1_copyFrom_27 : decode cX1_copyFrom 27 = .ok (.getfield 28, 3) := by decide +kernel
theorem dX1_copyFrom_30 : decode cX1_copyFrom 30 = .ok (.invokevirtual 56, 3) := by decide +kernel
theorem dX1_copyFrom_33 : decode cX1_copyFrom 33 = .ok (.aload_n 1, 1) := by decide +kernel
theorem dX1_copyFrom_34 : decode cX1_copyFrom 34 = .ok (.getfield 32, 3) := by decide +kernel
theorem dX1_copyFrom_37 : decode cX1_copyFrom 37 = .ok (.iconst 0, 1) := by decide +kernel
theorem dX1_copyFrom_38 : decode cX1_copyFrom 38 = .ok (.aload_n 0, 1) := by decide +kernel
theorem dX1_copyFrom_39 : decode cX1_copyFrom 39 = .ok (.getfield 32, 3) := by decide +kernel
theorem dX1_copyFrom_42 : decode cX1_copyFrom 42 = .ok (.iconst 0, 1) := by decide +kernel
theorem dX1_copyFrom_43 : decode cX1_copyFrom 43 = .ok (.iconst 3, 1) := by decide +kernel
theorem dX1_copyFrom_44 : decode cX1_copyFrom 44 = .ok (.invokestatic 59, 3) := by decide +kernel
theorem dX1_copyFrom_47 : decode cX1_copyFrom 47 = .ok (.aload_n 0, 1) := by decide +kernel
theorem dX1_copyFrom_48 : decode cX1_copyFrom 48 = .ok (.aload_n 1, 1) := by decide +kernel
theorem dX1_copyFrom_49 : decode cX1_copyFrom 49 = .ok (.getfield 42, 3) := by decide +kernel
theorem dX1_copyFrom_52 : decode cX1_copyFrom 52 = .ok (.putfield 42, 3) := by decide +kernel
theorem dX1_copyFrom_55 : decode cX1_copyFrom 55 = .ok (.aload_n 0, 1) := by decide +kernel
theorem dX1_copyFrom_56 : decode cX1_copyFrom 56 = .ok (.aload_n 1, 1) := by decide +kernel
theorem dX1_copyFrom_57 : decode cX1_copyFrom 57 = .ok (.getfield 46, 3) := by decide +kernel
theorem dX1_copyFrom_60 : decode cX1_copyFrom 60 = .ok (.putfield 46, 3) := by decide +kernel
theorem dX1_copyFrom_63 : decode cX1_copyFrom 63 = .ok (.return_, 1) := by decide +kernel
theorem dX1_settingOf_0 : decode cX1_settingOf 0 = .ok (.iload_n 1, 1) := by decide +kernel
theorem dX1_settingOf_1 : decode cX1_settingOf 1 = .ok (.invokestatic 65, 3) := by decide +kernel
theorem dX1_settingOf_4 : decode cX1_settingOf 4 = .ok (.ifCond .eq 12, 3) := by decide +kernel
theorem dX1_settingOf_7 : decode cX1_settingOf 7 = .ok (.aload_n 0, 1) := by decide +kernel
theorem dX1_settingOf_8 : decode cX1_settingOf 8 = .ok (.getfield 32, 3) := by decide +kernel
theorem dX1_settingOf_11 : decode cX1_settingOf 11 = .ok (.iload_n 1, 1) := by decide +kernel
theorem dX1_settingOf_12 : decode cX1_settingOf 12 = .ok (.iaload, 1) := by decide +kernel
theorem dX1_settingOf_13 : decode cX1_settingOf 13 = .ok (.goto 4, 3) := by decide +kernel
theorem dX1_settingOf_16 : decode cX1_settingOf 16 = .ok (.iconst (-1), 1) := by decide +kernel
theorem dX1_settingOf_17 : decode cX1_settingOf 17 = .ok (.ireturn, 1) := by decide +kernel
theorem dX1_mostOfSetting_0 : decode cX1_mostOfSetting 0 = .ok (.iload_n 0, 1) := by decide +kernel
theorem dX1_mostOfSetting_1 : decode cX1_mostOfSetting 1 = .ok (.lookupswitch 32 #[(0, 27), (1, 30)], 27) := by decide +kernel
theorem dX1_mostOfSetting_28 : decode cX1_mostOfSetting 28 = .ok (.bipush 20, 2) := by decide +kernel
theorem dX1_mostOfSetting_30 : decode cX1_mostOfSetting 30 = .ok (.ireturn, 1) := by decide +kernel
theorem dX1_mostOfSetting_31 : decode cX1_mostOfSetting 31 = .ok (.iconst 3, 1) := by decide +kernel
theorem dX1_mostOfSetting_32 : decode cX1_mostOfSetting 32 = .ok (.ireturn, 1) := by decide +kernel
theorem dX1_mostOfSetting_33 : decode cX1_mostOfSetting 33 = .ok (.bipush 99, 2) := by decide +kernel
theorem dX1_mostOfSetting_35 : decode cX1_mostOfSetting 35 = .ok (.ireturn, 1) := by decide +kernel
theorem dX1_mayBuildBy_0 : decode cX1_mayBuildBy 0 = .ok (.aload_n 0, 1) := by decide +kernel
theorem dX1_mayBuildBy_1 : decode cX1_mayBuildBy 1 = .ok (.getfield 21, 3) := by decide +kernel
theorem dX1_mayBuildBy_4 : decode cX1_mayBuildBy 4 = .ok (.iload_n 1, 1) := by decide +kernel
theorem dX1_mayBuildBy_5 : decode cX1_mayBuildBy 5 = .ok (.invokevirtual 69, 3) := by decide +kernel
theorem dX1_mayBuildBy_8 : decode cX1_mayBuildBy 8 = .ok (.ifCond .eq 45, 3) := by decide +kernel
theorem dX1_mayBuildBy_11 : decode cX1_mayBuildBy 11 = .ok (.aload_n 0, 1) := by decide +kernel
theorem dX1_mayBuildBy_12 : decode cX1_mayBuildBy 12 = .ok (.getfield 21, 3) := by decide +kernel
theorem dX1_mayBuildBy_15 : decode cX1_mayBuildBy 15 = .ok (.iload_n 1, 1) := by decide +kernel
theorem dX1_mayBuildBy_16 : decode cX1_mayBuildBy 16 = .ok (.invokevirtual 72, 3) := by decide +kernel
theorem dX1_mayBuildBy_19 : decode cX1_mayBuildBy 19 = .ok (.invokestatic 76, 3) := by decide +kernel
theorem dX1_mayBuildBy_22 : decode cX1_mayBuildBy 22 = .ok (.aload_n 0, 1) := by decide +kernel
theorem dX1_mayBuildBy_23 : decode cX1_mayBuildBy 23 = .ok (.getfield 32, 3) := by decide +kernel
theorem dX1_mayBuildBy_26 : decode cX1_mayBuildBy 26 = .ok (.iconst 1, 1) := by decide +kernel
theorem dX1_mayBuildBy_27 : decode cX1_mayBuildBy 27 = .ok (.iaload, 1) := by decide +kernel
theorem dX1_mayBuildBy_28 : decode cX1_mayBuildBy 28 = .ok (.if_icmp .lt 25, 3) := by decide +kernel
theorem dX1_mayBuildBy_31 : decode cX1_mayBuildBy 31 = .ok (.aload_n 0, 1) := by decide +kernel
theorem dX1_mayBuildBy_32 : decode cX1_mayBuildBy 32 = .ok (.getfield 12, 3) := by decide +kernel
theorem dX1_mayBuildBy_35 : decode cX1_mayBuildBy 35 = .ok (.aload_n 0, 1) := by decide +kernel
theorem dX1_mayBuildBy_36 : decode cX1_mayBuildBy 36 = .ok (.getfield 21, 3) := by decide +kernel
theorem dX1_mayBuildBy_39 : decode cX1_mayBuildBy 39 = .ok (.iload_n 1, 1) := by decide +kernel
theorem dX1_mayBuildBy_40 : decode cX1_mayBuildBy 40 = .ok (.invokevirtual 81, 3) := by decide +kernel
theorem dX1_mayBuildBy_43 : decode cX1_mayBuildBy 43 = .ok (.invokevirtual 84, 3) := by decide +kernel
theorem dX1_mayBuildBy_46 : decode cX1_mayBuildBy 46 = .ok (.ifCond .ne 7, 3) := by decide +kernel
theorem dX1_mayBuildBy_49 : decode cX1_mayBuildBy 49 = .ok (.iconst 1, 1) := by decide +kernel
theorem dX1_mayBuildBy_50 : decode cX1_mayBuildBy 50 = .ok (.goto 4, 3) := by decide +kernel
theorem dX1_mayBuildBy_53 : decode cX1_mayBuildBy 53 = .ok (.iconst 0, 1) := by decide +kernel
theorem dX1_mayBuildBy_54 : decode cX1_mayBuildBy 54 = .ok (.ireturn, 1) := by decide +kernel
theorem dX1_isWrong_0 : decode cX1_isWrong 0 = .ok (.aload_n 0, 1) := by decide +kernel
theorem dX1_isWrong_1 : decode cX1_isWrong 1 = .ok (.getfield 12, 3) := by decide +kernel
theorem dX1_isWrong_4 : decode cX1_isWrong 4 = .ok (.aload_n 0, 1) := by decide +kernel
theorem dX1_isWrong_5 : decode cX1_isWrong 5 = .ok (.getfield 28, 3) := by decide +kernel
theorem dX1_isWrong_8 : decode cX1_isWrong 8 = .ok (.iload_n 1, 1) := by decide +kernel
theorem dX1_isWrong_9 : decode cX1_isWrong 9 = .ok (.invokevirtual 87, 3) := by decide +kernel
theorem dX1_isWrong_12 : decode cX1_isWrong 12 = .ok (.aload_n 0, 1) := by decide +kernel
theorem dX1_isWrong_13 : decode cX1_isWrong 13 = .ok (.getfield 28, 3) := by decide +kernel
theorem dX1_isWrong_16 : decode cX1_isWrong 16 = .ok (.iload_n 1, 1) := by decide +kernel
theorem dX1_isWrong_17 : decode cX1_isWrong 17 = .ok (.invokevirtual 88, 3) := by decide +kernel
theorem dX1_isWrong_20 : decode cX1_isWrong 20 = .ok (.invokevirtual 91, 3) := by decide +kernel
theorem dX1_isWrong_23 : decode cX1_isWrong 23 = .ok (.aload_n 0, 1) := by decide +kernel
theorem dX1_isWrong_24 : decode cX1_isWrong 24 = .ok (.getfield 28, 3) := by decide +kernel
theorem dX1_isWrong_27 : decode cX1_isWrong 27 = .ok (.iload_n 1, 1) := by decide +kernel
theorem dX1_isWrong_28 : decode cX1_isWrong 28 = .ok (.invokevirtual 95, 3) := by decide +kernel
theorem dX1_isWrong_31 : decode cX1_isWrong 31 = .ok (.if_icmp .le 7, 3) := by decide +kernel
theorem dX1_isWrong_34 : decode cX1_isWrong 34 = .ok (.iconst 1, 1) := by decide +kernel
theorem dX1_isWrong_35 : decode cX1_isWrong 35 = .ok (.goto 4, 3) := by decide +kernel
theorem dX1_isWrong_38 : decode cX1_isWrong 38 = .ok (.iconst 0, 1) := by decide +kernel
theorem dX1_isWrong_39 : decode cX1_isWrong 39 = .ok (.ireturn, 1) := by decide +kernel
theorem dX1_wrongWorks_0 : decode cX1_wrongWorks 0 = .ok (.iconst 0, 1) := by decide +kernel
theorem dX1_wrongWorks_1 : decode cX1_wrongWorks 1 = .ok (.istore_n 3, 1) := by decide +kernel
theorem dX1_wrongWorks_2 : decode cX1_wrongWorks 2 = .ok (.iconst 0, 1) := by decide +kernel
theorem dX1_wrongWorks_3 : decode cX1_wrongWorks 3 = .ok (.istore 4, 2) := by decide +kernel
theorem dX1_wrongWorks_5 : decode cX1_wrongWorks 5 = .ok (.iload 4, 2) := by decide +kernel
theorem dX1_wrongWorks_7 : decode cX1_wrongWorks 7 = .ok (.aload_n 0, 1) := by decide +kernel
theorem dX1_wrongWorks_8 : decode cX1_wrongWorks 8 = .ok (.getfield 28, 3) := by decide +kernel
theorem dX1_wrongWorks_11 : decode cX1_wrongWorks 11 = .ok (.invokevirtual 98, 3) := by decide +kernel
theorem dX1_wrongWorks_14 : decode cX1_wrongWorks 14 = .ok (.if_icmp .ge 69, 3) := by decide +kernel
theorem dX1_wrongWorks_17 : decode cX1_wrongWorks 17 = .ok (.iload_n 1, 1) := by decide +kernel
theorem dX1_wrongWorks_18 : decode cX1_wrongWorks 18 = .ok (.iconst (-1), 1) := by decide +kernel
theorem dX1_wrongWorks_19 : decode cX1_wrongWorks 19 = .ok (.if_icmp .eq 16, 3) := by decide +kernel
theorem dX1_wrongWorks_22 : decode cX1_wrongWorks 22 = .ok (.aload_n 0, 1) := by decide +kernel
theorem dX1_wrongWorks_23 : decode cX1_wrongWorks 23 = .ok (.getfield 28, 3) := by decide +kernel
theorem dX1_wrongWorks_26 : decode cX1_wrongWorks 26 = .ok (.iload 4, 2) := by decide +kernel
theorem dX1_wrongWorks_28 : decode cX1_wrongWorks 28 = .ok (.invokevirtual 102, 3) := by decide +kernel
theorem dX1_wrongWorks_31 : decode cX1_wrongWorks 31 = .ok (.iload_n 1, 1) := by decide +kernel
theorem dX1_wrongWorks_32 : decode cX1_wrongWorks 32 = .ok (.if_icmp .ne 25, 3) := by decide +kernel
theorem dX1_wrongWorks_35 : decode cX1_wrongWorks 35 = .ok (.iload_n 2, 1) := by decide +kernel
theorem dX1_wrongWorks_36 : decode cX1_wrongWorks 36 = .ok (.iconst (-1), 1) := by decide +kernel
theorem dX1_wrongWorks_37 : decode cX1_wrongWorks 37 = .ok (.if_icmp .eq 16, 3) := by decide +kernel
theorem dX1_wrongWorks_40 : decode cX1_wrongWorks 40 = .ok (.aload_n 0, 1) := by decide +kernel
theorem dX1_wrongWorks_41 : decode cX1_wrongWorks 41 = .ok (.getfield 28, 3) := by decide +kernel
theorem dX1_wrongWorks_44 : decode cX1_wrongWorks 44 = .ok (.iload 4, 2) := by decide +kernel
theorem dX1_wrongWorks_46 : decode cX1_wrongWorks 46 = .ok (.invokevirtual 87, 3) := by decide +kernel
theorem dX1_wrongWorks_49 : decode cX1_wrongWorks 49 = .ok (.iload_n 2, 1) := by decide +kernel
theorem dX1_wrongWorks_50 : decode cX1_wrongWorks 50 = .ok (.if_icmp .ne 7, 3) := by decide +kernel
theorem dX1_wrongWorks_53 : decode cX1_wrongWorks 53 = .ok (.iconst 1, 1) := by decide +kernel
theorem dX1_wrongWorks_54 : decode cX1_wrongWorks 54 = .ok (.goto 4, 3) := by decide +kernel
theorem dX1_wrongWorks_57 : decode cX1_wrongWorks 57 = .ok (.iconst 0, 1) := by decide +kernel
theorem dX1_wrongWorks_58 : decode cX1_wrongWorks 58 = .ok (.istore 5, 2) := by decide +kernel
theorem dX1_wrongWorks_60 : decode cX1_wrongWorks 60 = .ok (.iload 5, 2) := by decide +kernel
theorem dX1_wrongWorks_62 : decode cX1_wrongWorks 62 = .ok (.ifCond .eq 15, 3) := by decide +kernel
theorem dX1_wrongWorks_65 : decode cX1_wrongWorks 65 = .ok (.aload_n 0, 1) := by decide +kernel
theorem dX1_wrongWorks_66 : decode cX1_wrongWorks 66 = .ok (.iload 4, 2) := by decide +kernel
theorem dX1_wrongWorks_68 : decode cX1_wrongWorks 68 = .ok (.invokevirtual 105, 3) := by decide +kernel
theorem dX1_wrongWorks_71 : decode cX1_wrongWorks 71 = .ok (.ifCond .eq 6, 3) := by decide +kernel
theorem dX1_wrongWorks_74 : decode cX1_wrongWorks 74 = .ok (.iinc 3 1, 3) := by decide +kernel
theorem dX1_wrongWorks_77 : decode cX1_wrongWorks 77 = .ok (.iinc 4 1, 3) := by decide +kernel
theorem dX1_wrongWorks_80 : decode cX1_wrongWorks 80 = .ok (.goto (-75), 3) := by decide +kernel
theorem dX1_wrongWorks_83 : decode cX1_wrongWorks 83 = .ok (.iload_n 3, 1) := by decide +kernel
theorem dX1_wrongWorks_84 : decode cX1_wrongWorks 84 = .ok (.ireturn, 1) := by decide +kernel
theorem dX1_totalNumber_0 : decode cX1_totalNumber 0 = .ok (.iload_n 1, 1) := by decide +kernel
theorem dX1_totalNumber_1 : decode cX1_totalNumber 1 = .ok (.tableswitch 124 0 8 #[51, 59, 67, 75, 83, 96, 104, 111, 119], 51) := by decide +kernel
theorem dX1_totalNumber_52 : decode cX1_totalNumber 52 = .ok (.aload_n 0, 1) := by decide +kernel
theorem dX1_totalNumber_53 : decode cX1_totalNumber 53 = .ok (.getfield 12, 3) := by decide +kernel
theorem dX1_totalNumber_56 : decode cX1_totalNumber 56 = .ok (.invokevirtual 108, 3) := by decide +kernel
theorem dX1_totalNumber_59 : decode cX1_totalNumber 59 = .ok (.ireturn, 1) := by decide +kernel
theorem dX1_totalNumber_60 : decode cX1_totalNumber 60 = .ok (.aload_n 0, 1) := by decide +kernel
theorem dX1_totalNumber_61 : decode cX1_totalNumber 61 = .ok (.getfield 21, 3) := by decide +kernel
theorem dX1_totalNumber_64 : decode cX1_totalNumber 64 = .ok (.invokevirtual 109, 3) := by decide +kernel
theorem dX1_totalNumber_67 : decode cX1_totalNumber 67 = .ok (.ireturn, 1) := by decide +kernel
theorem dX1_totalNumber_68 : decode cX1_totalNumber 68 = .ok (.aload_n 0, 1) := by decide +kernel
theorem dX1_totalNumber_69 : decode cX1_totalNumber 69 = .ok (.getfield 21, 3) := by decide +kernel
theorem dX1_totalNumber_72 : decode cX1_totalNumber 72 = .ok (.invokevirtual 110, 3) := by decide +kernel
theorem dX1_totalNumber_75 : decode cX1_totalNumber 75 = .ok (.ireturn, 1) := by decide +kernel
theorem dX1_totalNumber_76 : decode cX1_totalNumber 76 = .ok (.aload_n 0, 1) := by decide +kernel
theorem dX1_totalNumber_77 : decode cX1_totalNumber 77 = .ok (.getfield 21, 3) := by decide +kernel
theorem dX1_totalNumber_80 : decode cX1_totalNumber 80 = .ok (.invokevirtual 113, 3) := by decide +kernel
theorem dX1_totalNumber_83 : decode cX1_totalNumber 83 = .ok (.ireturn, 1) := by decide +kernel
theorem dX1_totalNumber_84 : decode cX1_totalNumber 84 = .ok (.aload_n 0, 1) := by decide +kernel
theorem dX1_totalNumber_85 : decode cX1_totalNumber 85 = .ok (.getfield 21, 3) := by decide +kernel
theorem dX1_totalNumber_88 : decode cX1_totalNumber 88 = .ok (.iconst (-1), 1) := by decide +kernel
theorem dX1_totalNumber_89 : decode cX1_totalNumber 89 = .ok (.aload_n 0, 1) := by decide +kernel
theorem dX1_totalNumber_90 : decode cX1_totalNumber 90 = .ok (.getfield 42, 3) := by decide +kernel
theorem dX1_totalNumber_93 : decode cX1_totalNumber 93 = .ok (.invokevirtual 116, 3) := by decide +kernel
theorem dX1_totalNumber_96 : decode cX1_totalNumber 96 = .ok (.ireturn, 1) := by decide +kernel
theorem dX1_totalNumber_97 : decode cX1_totalNumber 97 = .ok (.aload_n 0, 1) := by decide +kernel
theorem dX1_totalNumber_98 : decode cX1_totalNumber 98 = .ok (.getfield 28, 3) := by decide +kernel
theorem dX1_totalNumber_101 : decode cX1_totalNumber 101 = .ok (.invokevirtual 98, 3) := by decide +kernel
theorem dX1_totalNumber_104 : decode cX1_totalNumber 104 = .ok (.ireturn, 1) := by decide +kernel
theorem dX1_totalNumber_105 : decode cX1_totalNumber 105 = .ok (.aload_n 0, 1) := by decide +kernel
theorem dX1_totalNumber_106 : decode cX1_totalNumber 106 = .ok (.iconst (-1), 1) := by decide +kernel
theorem dX1_totalNumber_107 : decode cX1_totalNumber 107 = .ok (.iconst (-1), 1) := by decide +kernel
theorem dX1_totalNumber_108 : decode cX1_totalNumber 108 = .ok (.invokevirtual 119, 3) := by decide +kernel
theorem dX1_totalNumber_111 : decode cX1_totalNumber 111 = .ok (.ireturn, 1) := by decide +kernel
theorem dX1_totalNumber_112 : decode cX1_totalNumber 112 = .ok (.aload_n 0, 1) := by decide +kernel
theorem dX1_totalNumber_113 : decode cX1_totalNumber 113 = .ok (.getfield 12, 3) := by decide +kernel
theorem dX1_totalNumber_116 : decode cX1_totalNumber 116 = .ok (.invokevirtual 122, 3) := by decide +kernel
theorem dX1_totalNumber_119 : decode cX1_totalNumber 119 = .ok (.ireturn, 1) := by decide +kernel
theorem dX1_totalNumber_120 : decode cX1_totalNumber 120 = .ok (.aload_n 0, 1) := by decide +kernel
theorem dX1_totalNumber_121 : decode cX1_totalNumber 121 = .ok (.getfield 42, 3) := by decide +kernel
theorem dX1_totalNumber_124 : decode cX1_totalNumber 124 = .ok (.ireturn, 1) := by decide +kernel
theorem dX1_totalNumber_125 : decode cX1_totalNumber 125 = .ok (.aload_n 0, 1) := by decide +kernel
theorem dX1_totalNumber_126 : decode cX1_totalNumber 126 = .ok (.getfield 46, 3) := by decide +kernel
theorem dX1_totalNumber_129 : decode cX1_totalNumber 129 = .ok (.ireturn, 1) := by decide +kernel
theorem dX1_sheetNumber_0 : decode cX1_sheetNumber 0 = .ok (.iload_n 2, 1) := by decide +kernel
theorem dX1_sheetNumber_1 : decode cX1_sheetNumber 1 = .ok (.tableswitch 117 0 6 #[43, 52, 61, 78, 87, 99, 108], 43) := by decide +kernel
theorem dX1_sheetNumber_44 : decode cX1_sheetNumber 44 = .ok (.aload_n 0, 1) := by decide +kernel
theorem dX1_sheetNumber_45 : decode cX1_sheetNumber 45 = .ok (.getfield 12, 3) := by decide +kernel
theorem dX1_sheetNumber_48 : decode cX1_sheetNumber 48 = .ok (.iload_n 1, 1) := by decide +kernel
theorem dX1_sheetNumber_49 : decode cX1_sheetNumber 49 = .ok (.invokevirtual 125, 3) := by decide +kernel
theorem dX1_sheetNumber_52 : decode cX1_sheetNumber 52 = .ok (.ireturn, 1) := by decide +kernel
theorem dX1_sheetNumber_53 : decode cX1_sheetNumber 53 = .ok (.aload_n 0, 1) := by decide +kernel
theorem dX1_sheetNumber_54 : decode cX1_sheetNumber 54 = .ok (.getfield 12, 3) := by decide +kernel
theorem dX1_sheetNumber_57 : decode cX1_sheetNumber 57 = .ok (.iload_n 1, 1) := by decide +kernel
theorem dX1_sheetNumber_58 : decode cX1_sheetNumber 58 = .ok (.invokevirtual 128, 3) := by decide +kernel
theorem dX1_sheetNumber_61 : decode cX1_sheetNumber 61 = .ok (.ireturn, 1) := by decide +kernel
theorem dX1_sheetNumber_62 : decode cX1_sheetNumber 62 = .ok (.aload_n 0, 1) := by decide +kernel
theorem dX1_sheetNumber_63 : decode cX1_sheetNumber 63 = .ok (.getfield 12, 3) := by decide +kernel
theorem dX1_sheetNumber_66 : decode cX1_sheetNumber 66 = .ok (.iload_n 1, 1) := by decide +kernel
theorem dX1_sheetNumber_67 : decode cX1_sheetNumber 67 = .ok (.invokevirtual 84, 3) := by decide +kernel
theorem dX1_sheetNumber_70 : decode cX1_sheetNumber 70 = .ok (.ifCond .eq 7, 3) := by decide +kernel
theorem dX1_sheetNumber_73 : decode cX1_sheetNumber 73 = .ok (.iconst 1, 1) := by decide +kernel
theorem dX1_sheetNumber_74 : decode cX1_sheetNumber 74 = .ok (.goto 4, 3) := by decide +kernel
theorem dX1_sheetNumber_77 : decode cX1_sheetNumber 77 = .ok (.iconst 0, 1) := by decide +kernel
theorem dX1_sheetNumber_78 : decode cX1_sheetNumber 78 = .ok (.ireturn, 1) := by decide +kernel
theorem dX1_sheetNumber_79 : decode cX1_sheetNumber 79 = .ok (.aload_n 0, 1) := by decide +kernel
theorem dX1_sheetNumber_80 : decode cX1_sheetNumber 80 = .ok (.getfield 12, 3) := by decide +kernel
theorem dX1_sheetNumber_83 : decode cX1_sheetNumber 83 = .ok (.iload_n 1, 1) := by decide +kernel
theorem dX1_sheetNumber_84 : decode cX1_sheetNumber 84 = .ok (.invokevirtual 129, 3) := by decide +kernel
theorem dX1_sheetNumber_87 : decode cX1_sheetNumber 87 = .ok (.ireturn, 1) := by decide +kernel
theorem dX1_sheetNumber_88 : decode cX1_sheetNumber 88 = .ok (.aload_n 0, 1) := by decide +kernel
theorem dX1_sheetNumber_89 : decode cX1_sheetNumber 89 = .ok (.getfield 12, 3) := by decide +kernel
theorem dX1_sheetNumber_92 : decode cX1_sheetNumber 92 = .ok (.iload_n 1, 1) := by decide +kernel
theorem dX1_sheetNumber_93 : decode cX1_sheetNumber 93 = .ok (.invokevirtual 132, 3) := by decide +kernel
theorem dX1_sheetNumber_96 : decode cX1_sheetNumber 96 = .ok (.invokestatic 76, 3) := by decide +kernel
theorem dX1_sheetNumber_99 : decode cX1_sheetNumber 99 = .ok (.ireturn, 1) := by decide +kernel
theorem dX1_sheetNumber_100 : decode cX1_sheetNumber 100 = .ok (.aload_n 0, 1) := by decide +kernel
theorem dX1_sheetNumber_101 : decode cX1_sheetNumber 101 = .ok (.getfield 21, 3) := by decide +kernel
theorem dX1_sheetNumber_104 : decode cX1_sheetNumber 104 = .ok (.iload_n 1, 1) := by decide +kernel
theorem dX1_sheetNumber_105 : decode cX1_sheetNumber 105 = .ok (.invokevirtual 135, 3) := by decide +kernel
theorem dX1_sheetNumber_108 : decode cX1_sheetNumber 108 = .ok (.ireturn, 1) := by decide +kernel
theorem dX1_sheetNumber_109 : decode cX1_sheetNumber 109 = .ok (.aload_n 0, 1) := by decide +kernel
theorem dX1_sheetNumber_110 : decode cX1_sheetNumber 110 = .ok (.getfield 12, 3) := by decide +kernel
theorem dX1_sheetNumber_113 : decode cX1_sheetNumber 113 = .ok (.iload_n 1, 1) := by decide +kernel
theorem dX1_sheetNumber_114 : decode cX1_sheetNumber 114 = .ok (.invokevirtual 138, 3) := by decide +kernel
theorem dX1_sheetNumber_117 : decode cX1_sheetNumber 117 = .ok (.ireturn, 1) := by decide +kernel
theorem dX1_sheetNumber_118 : decode cX1_sheetNumber 118 = .ok (.aload_n 0, 1) := by decide +kernel
theorem dX1_sheetNumber_119 : decode cX1_sheetNumber 119 = .ok (.iconst (-1), 1) := by decide +kernel
theorem dX1_sheetNumber_120 : decode cX1_sheetNumber 120 = .ok (.iload_n 1, 1) := by decide +kernel
theorem dX1_sheetNumber_121 : decode cX1_sheetNumber 121 = .ok (.invokevirtual 119, 3) := by decide +kernel
theorem dX1_sheetNumber_124 : decode cX1_sheetNumber 124 = .ok (.ireturn, 1) := by decide +kernel
theorem dX1_printNumber_0 : decode cX1_printNumber 0 = .ok (.iload_n 2, 1) := by decide +kernel
theorem dX1_printNumber_1 : decode cX1_printNumber 1 = .ok (.tableswitch 132 0 7 #[47, 56, 65, 74, 83, 92, 109, 118], 47) := by decide +kernel
theorem dX1_printNumber_48 : decode cX1_printNumber 48 = .ok (.aload_n 0, 1) := by decide +kernel
theorem dX1_printNumber_49 : decode cX1_printNumber 49 = .ok (.getfield 21, 3) := by decide +kernel
theorem dX1_printNumber_52 : decode cX1_printNumber 52 = .ok (.iload_n 1, 1) := by decide +kernel
theorem dX1_printNumber_53 : decode cX1_printNumber 53 = .ok (.invokevirtual 81, 3) := by decide +kernel
theorem dX1_printNumber_56 : decode cX1_printNumber 56 = .ok (.ireturn, 1) := by decide +kernel
theorem dX1_printNumber_57 : decode cX1_printNumber 57 = .ok (.aload_n 0, 1) := by decide +kernel
theorem dX1_printNumber_58 : decode cX1_printNumber 58 = .ok (.getfield 21, 3) := by decide +kernel
theorem dX1_printNumber_61 : decode cX1_printNumber 61 = .ok (.iload_n 1, 1) := by decide +kernel
theorem dX1_printNumber_62 : decode cX1_printNumber 62 = .ok (.invokevirtual 141, 3) := by decide +kernel
theorem dX1_printNumber_65 : decode cX1_printNumber 65 = .ok (.ireturn, 1) := by decide +kernel
theorem dX1_printNumber_66 : decode cX1_printNumber 66 = .ok (.aload_n 0, 1) := by decide +kernel
theorem dX1_printNumber_67 : decode cX1_printNumber 67 = .ok (.getfield 21, 3) := by decide +kernel
theorem dX1_printNumber_70 : decode cX1_printNumber 70 = .ok (.iload_n 1, 1) := by decide +kernel
theorem dX1_printNumber_71 : decode cX1_printNumber 71 = .ok (.invokevirtual 142, 3) := by decide +kernel
theorem dX1_printNumber_74 : decode cX1_printNumber 74 = .ok (.ireturn, 1) := by decide +kernel
theorem dX1_printNumber_75 : decode cX1_printNumber 75 = .ok (.aload_n 0, 1) := by decide +kernel
theorem dX1_printNumber_76 : decode cX1_printNumber 76 = .ok (.getfield 21, 3) := by decide +kernel
theorem dX1_printNumber_79 : decode cX1_printNumber 79 = .ok (.iload_n 1, 1) := by decide +kernel
theorem dX1_printNumber_80 : decode cX1_printNumber 80 = .ok (.invokevirtual 143, 3) := by decide +kernel
theorem dX1_printNumber_83 : decode cX1_printNumber 83 = .ok (.ireturn, 1) := by decide +kernel
theorem dX1_printNumber_84 : decode cX1_printNumber 84 = .ok (.aload_n 0, 1) := by decide +kernel
theorem dX1_printNumber_85 : decode cX1_printNumber 85 = .ok (.getfield 21, 3) := by decide +kernel
theorem dX1_printNumber_88 : decode cX1_printNumber 88 = .ok (.iload_n 1, 1) := by decide +kernel
theorem dX1_printNumber_89 : decode cX1_printNumber 89 = .ok (.invokevirtual 72, 3) := by decide +kernel
theorem dX1_printNumber_92 : decode cX1_printNumber 92 = .ok (.ireturn, 1) := by decide +kernel
theorem dX1_printNumber_93 : decode cX1_printNumber 93 = .ok (.aload_n 0, 1) := by decide +kernel
theorem dX1_printNumber_94 : decode cX1_printNumber 94 = .ok (.getfield 21, 3) := by decide +kernel
theorem dX1_printNumber_97 : decode cX1_printNumber 97 = .ok (.iload_n 1, 1) := by decide +kernel
theorem dX1_printNumber_98 : decode cX1_printNumber 98 = .ok (.invokevirtual 146, 3) := by decide +kernel
theorem dX1_printNumber_101 : decode cX1_printNumber 101 = .ok (.ifCond .eq 7, 3) := by decide +kernel
theorem dX1_printNumber_104 : decode cX1_printNumber 104 = .ok (.iconst 1, 1) := by decide +kernel
theorem dX1_printNumber_105 : decode cX1_printNumber 105 = .ok (.goto 4, 3) := by decide +kernel
theorem dX1_printNumber_108 : decode cX1_printNumber 108 = .ok (.iconst 0, 1) := by decide +kernel
theorem dX1_printNumber_109 : decode cX1_printNumber 109 = .ok (.ireturn, 1) := by decide +kernel
theorem dX1_printNumber_110 : decode cX1_printNumber 110 = .ok (.aload_n 0, 1) := by decide +kernel
theorem dX1_printNumber_111 : decode cX1_printNumber 111 = .ok (.getfield 21, 3) := by decide +kernel
theorem dX1_printNumber_114 : decode cX1_printNumber 114 = .ok (.iload_n 1, 1) := by decide +kernel
theorem dX1_printNumber_115 : decode cX1_printNumber 115 = .ok (.invokevirtual 149, 3) := by decide +kernel
theorem dX1_printNumber_118 : decode cX1_printNumber 118 = .ok (.ireturn, 1) := by decide +kernel
theorem dX1_printNumber_119 : decode cX1_printNumber 119 = .ok (.aload_n 0, 1) := by decide +kernel
theorem dX1_printNumber_120 : decode cX1_printNumber 120 = .ok (.iload_n 1, 1) := by decide +kernel
theorem dX1_printNumber_121 : decode cX1_printNumber 121 = .ok (.invokevirtual 152, 3) := by decide +kernel
theorem dX1_printNumber_124 : decode cX1_printNumber 124 = .ok (.ifCond .eq 7, 3) := by decide +kernel
theorem dX1_printNumber_127 : decode cX1_printNumber 127 = .ok (.iconst 1, 1) := by decide +kernel
theorem dX1_printNumber_128 : decode cX1_printNumber 128 = .ok (.goto 4, 3) := by decide +kernel
theorem dX1_printNumber_131 : decode cX1_printNumber 131 = .ok (.iconst 0, 1) := by decide +kernel
theorem dX1_printNumber_132 : decode cX1_printNumber 132 = .ok (.ireturn, 1) := by decide +kernel
theorem dX1_printNumber_133 : decode cX1_printNumber 133 = .ok (.aload_n 0, 1) := by decide +kernel
theorem dX1_printNumber_134 : decode cX1_printNumber 134 = .ok (.getfield 12, 3) := by decide +kernel
theorem dX1_printNumber_137 : decode cX1_printNumber 137 = .ok (.aload_n 0, 1) := by decide +kernel
theorem dX1_printNumber_138 : decode cX1_printNumber 138 = .ok (.getfield 21, 3) := by decide +kernel
theorem dX1_printNumber_141 : decode cX1_printNumber 141 = .ok (.iload_n 1, 1) := by decide +kernel
theorem dX1_printNumber_142 : decode cX1_printNumber 142 = .ok (.invokevirtual 81, 3) := by decide +kernel
theorem dX1_printNumber_145 : decode cX1_printNumber 145 = .ok (.iconst 0, 1) := by decide +kernel
theorem dX1_printNumber_146 : decode cX1_printNumber 146 = .ok (.aload_n 0, 1) := by decide +kernel
theorem dX1_printNumber_147 : decode cX1_printNumber 147 = .ok (.getfield 21, 3) := by decide +kernel
theorem dX1_printNumber_150 : decode cX1_printNumber 150 = .ok (.iload_n 1, 1) := by decide +kernel
theorem dX1_printNumber_151 : decode cX1_printNumber 151 = .ok (.invokevirtual 141, 3) := by decide +kernel
theorem dX1_printNumber_154 : decode cX1_printNumber 154 = .ok (.invokevirtual 155, 3) := by decide +kernel
theorem dX1_printNumber_157 : decode cX1_printNumber 157 = .ok (.ireturn, 1) := by decide +kernel
theorem dX1_workNumber_0 : decode cX1_workNumber 0 = .ok (.iload_n 2, 1) := by decide +kernel
theorem dX1_workNumber_1 : decode cX1_workNumber 1 = .ok (.tableswitch 67 0 3 #[31, 40, 49, 58], 31) := by decide +kernel
theorem dX1_workNumber_32 : decode cX1_workNumber 32 = .ok (.aload_n 0, 1) := by decide +kernel
theorem dX1_workNumber_33 : decode cX1_workNumber 33 = .ok (.getfield 28, 3) := by decide +kernel
theorem dX1_workNumber_36 : decode cX1_workNumber 36 = .ok (.iload_n 1, 1) := by decide +kernel
theorem dX1_workNumber_37 : decode cX1_workNumber 37 = .ok (.invokevirtual 102, 3) := by decide +kernel
theorem dX1_workNumber_40 : decode cX1_workNumber 40 = .ok (.ireturn, 1) := by decide +kernel
theorem dX1_workNumber_41 : decode cX1_workNumber 41 = .ok (.aload_n 0, 1) := by decide +kernel
theorem dX1_workNumber_42 : decode cX1_workNumber 42 = .ok (.getfield 28, 3) := by decide +kernel
theorem dX1_workNumber_45 : decode cX1_workNumber 45 = .ok (.iload_n 1, 1) := by decide +kernel
theorem dX1_workNumber_46 : decode cX1_workNumber 46 = .ok (.invokevirtual 87, 3) := by decide +kernel
theorem dX1_workNumber_49 : decode cX1_workNumber 49 = .ok (.ireturn, 1) := by decide +kernel
theorem dX1_workNumber_50 : decode cX1_workNumber 50 = .ok (.aload_n 0, 1) := by decide +kernel
theorem dX1_workNumber_51 : decode cX1_workNumber 51 = .ok (.getfield 28, 3) := by decide +kernel
theorem dX1_workNumber_54 : decode cX1_workNumber 54 = .ok (.iload_n 1, 1) := by decide +kernel
theorem dX1_workNumber_55 : decode cX1_workNumber 55 = .ok (.invokevirtual 88, 3) := by decide +kernel
theorem dX1_workNumber_58 : decode cX1_workNumber 58 = .ok (.ireturn, 1) := by decide +kernel
theorem dX1_workNumber_59 : decode cX1_workNumber 59 = .ok (.aload_n 0, 1) := by decide +kernel
theorem dX1_workNumber_60 : decode cX1_workNumber 60 = .ok (.getfield 28, 3) := by decide +kernel
theorem dX1_workNumber_63 : decode cX1_workNumber 63 = .ok (.iload_n 1, 1) := by decide +kernel
theorem dX1_workNumber_64 : decode cX1_workNumber 64 = .ok (.invokevirtual 95, 3) := by decide +kernel
theorem dX1_workNumber_67 : decode cX1_workNumber 67 = .ok (.ireturn, 1) := by decide +kernel
theorem dX1_workNumber_68 : decode cX1_workNumber 68 = .ok (.aload_n 0, 1) := by decide +kernel
theorem dX1_workNumber_69 : decode cX1_workNumber 69 = .ok (.iload_n 1, 1) := by decide +kernel
theorem dX1_workNumber_70 : decode cX1_workNumber 70 = .ok (.invokevirtual 105, 3) := by decide +kernel
theorem dX1_workNumber_73 : decode cX1_workNumber 73 = .ok (.ifCond .eq 7, 3) := by decide +kernel
theorem dX1_workNumber_76 : decode cX1_workNumber 76 = .ok (.iconst 1, 1) := by decide +kernel
theorem dX1_workNumber_77 : decode cX1_workNumber 77 = .ok (.goto 4, 3) := by decide +kernel
theorem dX1_workNumber_80 : decode cX1_workNumber 80 = .ok (.iconst 0, 1) := by decide +kernel
theorem dX1_workNumber_81 : decode cX1_workNumber 81 = .ok (.ireturn, 1) := by decide +kernel
theorem dX1_addSheet_0 : decode cX1_addSheet 0 = .ok (.iload_n 1, 1) := by decide +kernel
theorem dX1_addSheet_1 : decode cX1_addSheet 1 = .ok (.iconst (-1), 1) := by decide +kernel
theorem dX1_addSheet_2 : decode cX1_addSheet 2 = .ok (.if_icmp .eq 17, 3) := by decide +kernel
theorem dX1_addSheet_5 : decode cX1_addSheet 5 = .ok (.aload_n 0, 1) := by decide +kernel
theorem dX1_addSheet_6 : decode cX1_addSheet 6 = .ok (.getfield 12, 3) := by decide +kernel
theorem dX1_addSheet_9 : decode cX1_addSheet 9 = .ok (.iload_n 1, 1) := by decide +kernel
theorem dX1_addSheet_10 : decode cX1_addSheet 10 = .ok (.invokevirtual 159, 3) := by decide +kernel
theorem dX1_addSheet_13 : decode cX1_addSheet 13 = .ok (.ifCond .ne 6, 3) := by decide +kernel
theorem dX1_addSheet_16 : decode cX1_addSheet 16 = .ok (.bipush (-2), 2) := by decide +kernel
theorem dX1_addSheet_18 : decode cX1_addSheet 18 = .ok (.ireturn, 1) := by decide +kernel
theorem dX1_addSheet_19 : decode cX1_addSheet 19 = .ok (.aload_n 0, 1) := by decide +kernel
theorem dX1_addSheet_20 : decode cX1_addSheet 20 = .ok (.getfield 12, 3) := by decide +kernel
theorem dX1_addSheet_23 : decode cX1_addSheet 23 = .ok (.iload_n 1, 1) := by decide +kernel
theorem dX1_addSheet_24 : decode cX1_addSheet 24 = .ok (.invokevirtual 162, 3) := by decide +kernel
theorem dX1_addSheet_27 : decode cX1_addSheet 27 = .ok (.ireturn, 1) := by decide +kernel
theorem dX1_reviseSheet_0 : decode cX1_reviseSheet 0 = .ok (.aload_n 0, 1) := by decide +kernel
theorem dX1_reviseSheet_1 : decode cX1_reviseSheet 1 = .ok (.getfield 12, 3) := by decide +kernel
theorem dX1_reviseSheet_4 : decode cX1_reviseSheet 4 = .ok (.iload_n 1, 1) := by decide +kernel
theorem dX1_reviseSheet_5 : decode cX1_reviseSheet 5 = .ok (.invokevirtual 159, 3) := by decide +kernel
theorem dX1_reviseSheet_8 : decode cX1_reviseSheet 8 = .ok (.ifCond .ne 6, 3) := by decide +kernel
theorem dX1_reviseSheet_11 : decode cX1_reviseSheet 11 = .ok (.bipush (-2), 2) := by decide +kernel
theorem dX1_reviseSheet_13 : decode cX1_reviseSheet 13 = .ok (.ireturn, 1) := by decide +kernel
theorem dX1_reviseSheet_14 : decode cX1_reviseSheet 14 = .ok (.iload_n 2, 1) := by decide +kernel
theorem dX1_reviseSheet_15 : decode cX1_reviseSheet 15 = .ok (.invokestatic 165, 3) := by decide +kernel
theorem dX1_reviseSheet_18 : decode cX1_reviseSheet 18 = .ok (.ifCond .ne 6, 3) := by decide +kernel
theorem dX1_reviseSheet_21 : decode cX1_reviseSheet 21 = .ok (.bipush (-3), 2) := by decide +kernel
theorem dX1_reviseSheet_23 : decode cX1_reviseSheet 23 = .ok (.ireturn, 1) := by decide +kernel
theorem dX1_reviseSheet_24 : decode cX1_reviseSheet 24 = .ok (.aload_n 0, 1) := by decide +kernel
theorem dX1_reviseSheet_25 : decode cX1_reviseSheet 25 = .ok (.getfield 12, 3) := by decide +kernel
theorem dX1_reviseSheet_28 : decode cX1_reviseSheet 28 = .ok (.iload_n 1, 1) := by decide +kernel
theorem dX1_reviseSheet_29 : decode cX1_reviseSheet 29 = .ok (.invokevirtual 128, 3) := by decide +kernel
theorem dX1_reviseSheet_32 : decode cX1_reviseSheet 32 = .ok (.bipush 99, 2) := by decide +kernel
theorem dX1_reviseSheet_34 : decode cX1_reviseSheet 34 = .ok (.if_icmp .lt 6, 3) := by decide +kernel
theorem dX1_reviseSheet_37 : decode cX1_reviseSheet 37 = .ok (.bipush (-4), 2) := by decide +kernel
theorem dX1_reviseSheet_39 : decode cX1_reviseSheet 39 = .ok (.ireturn, 1) := by decide +kernel
theorem dX1_reviseSheet_40 : decode cX1_reviseSheet 40 = .ok (.aload_n 0, 1) := by decide +kernel
theorem dX1_reviseSheet_41 : decode cX1_reviseSheet 41 = .ok (.getfield 21, 3) := by decide +kernel
theorem dX1_reviseSheet_44 : decode cX1_reviseSheet 44 = .ok (.iload_n 1, 1) := by decide +kernel
theorem dX1_reviseSheet_45 : decode cX1_reviseSheet 45 = .ok (.invokevirtual 168, 3) := by decide +kernel
theorem dX1_reviseSheet_48 : decode cX1_reviseSheet 48 = .ok (.istore_n 3, 1) := by decide +kernel
theorem dX1_reviseSheet_49 : decode cX1_reviseSheet 49 = .ok (.aload_n 0, 1) := by decide +kernel
theorem dX1_reviseSheet_50 : decode cX1_reviseSheet 50 = .ok (.getfield 21, 3) := by decide +kernel
theorem dX1_reviseSheet_53 : decode cX1_reviseSheet 53 = .ok (.iload_n 1, 1) := by decide +kernel
theorem dX1_reviseSheet_54 : decode cX1_reviseSheet 54 = .ok (.aload_n 0, 1) := by decide +kernel
theorem dX1_reviseSheet_55 : decode cX1_reviseSheet 55 = .ok (.getfield 42, 3) := by decide +kernel
theorem dX1_reviseSheet_58 : decode cX1_reviseSheet 58 = .ok (.aload_n 0, 1) := by decide +kernel
theorem dX1_reviseSheet_59 : decode cX1_reviseSheet 59 = .ok (.getfield 32, 3) := by decide +kernel
theorem dX1_reviseSheet_62 : decode cX1_reviseSheet 62 = .ok (.iconst 0, 1) := by decide +kernel
theorem dX1_reviseSheet_63 : decode cX1_reviseSheet 63 = .ok (.iaload, 1) := by decide +kernel
theorem dX1_reviseSheet_64 : decode cX1_reviseSheet 64 = .ok (.iadd, 1) := by decide +kernel
theorem dX1_reviseSheet_65 : decode cX1_reviseSheet 65 = .ok (.invokevirtual 171, 3) := by decide +kernel
theorem dX1_reviseSheet_68 : decode cX1_reviseSheet 68 = .ok (.aload_n 0, 1) := by decide +kernel
theorem dX1_reviseSheet_69 : decode cX1_reviseSheet 69 = .ok (.getfield 12, 3) := by decide +kernel
theorem dX1_reviseSheet_72 : decode cX1_reviseSheet 72 = .ok (.iload_n 1, 1) := by decide +kernel
theorem dX1_reviseSheet_73 : decode cX1_reviseSheet 73 = .ok (.iload_n 2, 1) := by decide +kernel
theorem dX1_reviseSheet_74 : decode cX1_reviseSheet 74 = .ok (.invokevirtual 175, 3) := by decide +kernel
theorem dX1_reviseSheet_77 : decode cX1_reviseSheet 77 = .ok (.iload_n 3, 1) := by decide +kernel
theorem dX1_reviseSheet_78 : decode cX1_reviseSheet 78 = .ok (.ireturn, 1) := by decide +kernel
theorem dX1_checkSheet_0 : decode cX1_checkSheet 0 = .ok (.aload_n 0, 1) := by decide +kernel
theorem dX1_checkSheet_1 : decode cX1_checkSheet 1 = .ok (.getfield 12, 3) := by decide +kernel
theorem dX1_checkSheet_4 : decode cX1_checkSheet 4 = .ok (.iload_n 1, 1) := by decide +kernel
theorem dX1_checkSheet_5 : decode cX1_checkSheet 5 = .ok (.invokevirtual 159, 3) := by decide +kernel
theorem dX1_checkSheet_8 : decode cX1_checkSheet 8 = .ok (.ifCond .ne 6, 3) := by decide +kernel
theorem dX1_checkSheet_11 : decode cX1_checkSheet 11 = .ok (.bipush (-2), 2) := by decide +kernel
theorem dX1_checkSheet_13 : decode cX1_checkSheet 13 = .ok (.ireturn, 1) := by decide +kernel
theorem dX1_checkSheet_14 : decode cX1_checkSheet 14 = .ok (.aload_n 0, 1) := by decide +kernel
theorem dX1_checkSheet_15 : decode cX1_checkSheet 15 = .ok (.getfield 12, 3) := by decide +kernel
theorem dX1_checkSheet_18 : decode cX1_checkSheet 18 = .ok (.iload_n 1, 1) := by decide +kernel
theorem dX1_checkSheet_19 : decode cX1_checkSheet 19 = .ok (.invokevirtual 84, 3) := by decide +kernel
theorem dX1_checkSheet_22 : decode cX1_checkSheet 22 = .ok (.ifCond .ne 6, 3) := by decide +kernel
theorem dX1_checkSheet_25 : decode cX1_checkSheet 25 = .ok (.bipush (-4), 2) := by decide +kernel
theorem dX1_checkSheet_27 : decode cX1_checkSheet 27 = .ok (.ireturn, 1) := by decide +kernel
theorem dX1_checkSheet_28 : decode cX1_checkSheet 28 = .ok (.aload_n 0, 1) := by decide +kernel
theorem dX1_checkSheet_29 : decode cX1_checkSheet 29 = .ok (.getfield 12, 3) := by decide +kernel
theorem dX1_checkSheet_32 : decode cX1_checkSheet 32 = .ok (.iload_n 1, 1) := by decide +kernel
theorem dX1_checkSheet_33 : decode cX1_checkSheet 33 = .ok (.invokevirtual 178, 3) := by decide +kernel
theorem dX1_checkSheet_36 : decode cX1_checkSheet 36 = .ok (.aload_n 0, 1) := by decide +kernel
theorem dX1_checkSheet_37 : decode cX1_checkSheet 37 = .ok (.getfield 12, 3) := by decide +kernel
theorem dX1_checkSheet_40 : decode cX1_checkSheet 40 = .ok (.invokevirtual 122, 3) := by decide +kernel
theorem dX1_checkSheet_43 : decode cX1_checkSheet 43 = .ok (.ireturn, 1) := by decide +kernel
theorem dX1_addPrint_0 : decode cX1_addPrint 0 = .ok (.aload_n 0, 1) := by decide +kernel
theorem dX1_addPrint_1 : decode cX1_addPrint 1 = .ok (.getfield 12, 3) := by decide +kernel
theorem dX1_addPrint_4 : decode cX1_addPrint 4 = .ok (.iload_n 1, 1) := by decide +kernel
theorem dX1_addPrint_5 : decode cX1_addPrint 5 = .ok (.invokevirtual 159, 3) := by decide +kernel
theorem dX1_addPrint_8 : decode cX1_addPrint 8 = .ok (.ifCond .eq 10, 3) := by decide +kernel
theorem dX1_addPrint_11 : decode cX1_addPrint 11 = .ok (.iload_n 2, 1) := by decide +kernel
theorem dX1_addPrint_12 : decode cX1_addPrint 12 = .ok (.invokestatic 182, 3) := by decide +kernel
theorem dX1_addPrint_15 : decode cX1_addPrint 15 = .ok (.ifCond .ne 6, 3) := by decide +kernel
theorem dX1_addPrint_18 : decode cX1_addPrint 18 = .ok (.bipush (-2), 2) := by decide +kernel
theorem dX1_addPrint_20 : decode cX1_addPrint 20 = .ok (.ireturn, 1) := by decide +kernel
theorem dX1_addPrint_21 : decode cX1_addPrint 21 = .ok (.aload_n 0, 1) := by decide +kernel
theorem dX1_addPrint_22 : decode cX1_addPrint 22 = .ok (.getfield 21, 3) := by decide +kernel
theorem dX1_addPrint_25 : decode cX1_addPrint 25 = .ok (.iload_n 1, 1) := by decide +kernel
theorem dX1_addPrint_26 : decode cX1_addPrint 26 = .ok (.aload_n 0, 1) := by decide +kernel
theorem dX1_addPrint_27 : decode cX1_addPrint 27 = .ok (.getfield 12, 3) := by decide +kernel
theorem dX1_addPrint_30 : decode cX1_addPrint 30 = .ok (.iload_n 1, 1) := by decide +kernel
theorem dX1_addPrint_31 : decode cX1_addPrint 31 = .ok (.invokevirtual 128, 3) := by decide +kernel
theorem dX1_addPrint_34 : decode cX1_addPrint 34 = .ok (.iload_n 2, 1) := by decide +kernel
theorem dX1_addPrint_35 : decode cX1_addPrint 35 = .ok (.aload_n 0, 1) := by decide +kernel
theorem dX1_addPrint_36 : decode cX1_addPrint 36 = .ok (.getfield 42, 3) := by decide +kernel
theorem dX1_addPrint_39 : decode cX1_addPrint 39 = .ok (.invokevirtual 185, 3) := by decide +kernel
theorem dX1_addPrint_42 : decode cX1_addPrint 42 = .ok (.ireturn, 1) := by decide +kernel
theorem dX1_stampPrint_0 : decode cX1_stampPrint 0 = .ok (.aload_n 0, 1) := by decide +kernel
theorem dX1_stampPrint_1 : decode cX1_stampPrint 1 = .ok (.getfield 21, 3) := by decide +kernel
theorem dX1_stampPrint_4 : decode cX1_stampPrint 4 = .ok (.iload_n 1, 1) := by decide +kernel
theorem dX1_stampPrint_5 : decode cX1_stampPrint 5 = .ok (.invokevirtual 188, 3) := by decide +kernel
theorem dX1_stampPrint_8 : decode cX1_stampPrint 8 = .ok (.ifCond .eq 12, 3) := by decide +kernel
theorem dX1_stampPrint_11 : decode cX1_stampPrint 11 = .ok (.iload_n 2, 1) := by decide +kernel
theorem dX1_stampPrint_12 : decode cX1_stampPrint 12 = .ok (.ifCond .lt 8, 3) := by decide +kernel
theorem dX1_stampPrint_15 : decode cX1_stampPrint 15 = .ok (.iload_n 2, 1) := by decide +kernel
theorem dX1_stampPrint_16 : decode cX1_stampPrint 16 = .ok (.iconst 3, 1) := by decide +kernel
theorem dX1_stampPrint_17 : decode cX1_stampPrint 17 = .ok (.if_icmp .lt 6, 3) := by decide +kernel
theorem dX1_stampPrint_20 : decode cX1_stampPrint 20 = .ok (.bipush (-2), 2) := by decide +kernel
theorem dX1_stampPrint_22 : decode cX1_stampPrint 22 = .ok (.ireturn, 1) := by decide +kernel
theorem dX1_stampPrint_23 : decode cX1_stampPrint 23 = .ok (.aload_n 0, 1) := by decide +kernel
theorem dX1_stampPrint_24 : decode cX1_stampPrint 24 = .ok (.getfield 21, 3) := by decide +kernel
theorem dX1_stampPrint_27 : decode cX1_stampPrint 27 = .ok (.iload_n 1, 1) := by decide +kernel
theorem dX1_stampPrint_28 : decode cX1_stampPrint 28 = .ok (.invokevirtual 69, 3) := by decide +kernel
theorem dX1_stampPrint_31 : decode cX1_stampPrint 31 = .ok (.ifCond .ne 6, 3) := by decide +kernel
theorem dX1_stampPrint_34 : decode cX1_stampPrint 34 = .ok (.bipush (-4), 2) := by decide +kernel
theorem dX1_stampPrint_36 : decode cX1_stampPrint 36 = .ok (.ireturn, 1) := by decide +kernel
theorem dX1_stampPrint_37 : decode cX1_stampPrint 37 = .ok (.aload_n 0, 1) := by decide +kernel
theorem dX1_stampPrint_38 : decode cX1_stampPrint 38 = .ok (.getfield 21, 3) := by decide +kernel
theorem dX1_stampPrint_41 : decode cX1_stampPrint 41 = .ok (.iload_n 1, 1) := by decide +kernel
theorem dX1_stampPrint_42 : decode cX1_stampPrint 42 = .ok (.iload_n 2, 1) := by decide +kernel
theorem dX1_stampPrint_43 : decode cX1_stampPrint 43 = .ok (.invokevirtual 189, 3) := by decide +kernel
theorem dX1_stampPrint_46 : decode cX1_stampPrint 46 = .ok (.ireturn, 1) := by decide +kernel
theorem dX1_takeBack_0 : decode cX1_takeBack 0 = .ok (.aload_n 0, 1) := by decide +kernel
theorem dX1_takeBack_1 : decode cX1_takeBack 1 = .ok (.getfield 21, 3) := by decide +kernel
theorem dX1_takeBack_4 : decode cX1_takeBack 4 = .ok (.iload_n 1, 1) := by decide +kernel
theorem dX1_takeBack_5 : decode cX1_takeBack 5 = .ok (.invokevirtual 188, 3) := by decide +kernel
theorem dX1_takeBack_8 : decode cX1_takeBack 8 = .ok (.ifCond .ne 6, 3) := by decide +kernel
theorem dX1_takeBack_11 : decode cX1_takeBack 11 = .ok (.bipush (-2), 2) := by decide +kernel
theorem dX1_takeBack_13 : decode cX1_takeBack 13 = .ok (.ireturn, 1) := by decide +kernel
theorem dX1_takeBack_14 : decode cX1_takeBack 14 = .ok (.aload_n 0, 1) := by decide +kernel
theorem dX1_takeBack_15 : decode cX1_takeBack 15 = .ok (.getfield 21, 3) := by decide +kernel
theorem dX1_takeBack_18 : decode cX1_takeBack 18 = .ok (.iload_n 1, 1) := by decide +kernel
theorem dX1_takeBack_19 : decode cX1_takeBack 19 = .ok (.invokevirtual 146, 3) := by decide +kernel
theorem dX1_takeBack_22 : decode cX1_takeBack 22 = .ok (.ifCond .ne 6, 3) := by decide +kernel
theorem dX1_takeBack_25 : decode cX1_takeBack 25 = .ok (.bipush (-4), 2) := by decide +kernel
theorem dX1_takeBack_27 : decode cX1_takeBack 27 = .ok (.ireturn, 1) := by decide +kernel
theorem dX1_takeBack_28 : decode cX1_takeBack 28 = .ok (.aload_n 0, 1) := by decide +kernel
theorem dX1_takeBack_29 : decode cX1_takeBack 29 = .ok (.getfield 21, 3) := by decide +kernel
theorem dX1_takeBack_32 : decode cX1_takeBack 32 = .ok (.iload_n 1, 1) := by decide +kernel
theorem dX1_takeBack_33 : decode cX1_takeBack 33 = .ok (.aload_n 0, 1) := by decide +kernel
theorem dX1_takeBack_34 : decode cX1_takeBack 34 = .ok (.getfield 42, 3) := by decide +kernel
theorem dX1_takeBack_37 : decode cX1_takeBack 37 = .ok (.invokevirtual 192, 3) := by decide +kernel
theorem dX1_takeBack_40 : decode cX1_takeBack 40 = .ok (.istore_n 2, 1) := by decide +kernel
theorem dX1_takeBack_41 : decode cX1_takeBack 41 = .ok (.aload_n 0, 1) := by decide +kernel
theorem dX1_takeBack_42 : decode cX1_takeBack 42 = .ok (.getfield 21, 3) := by decide +kernel
theorem dX1_takeBack_45 : decode cX1_takeBack 45 = .ok (.iload_n 1, 1) := by decide +kernel
theorem dX1_takeBack_46 : decode cX1_takeBack 46 = .ok (.invokevirtual 195, 3) := by decide +kernel
theorem dX1_takeBack_49 : decode cX1_takeBack 49 = .ok (.iload_n 2, 1) := by decide +kernel
theorem dX1_takeBack_50 : decode cX1_takeBack 50 = .ok (.ireturn, 1) := by decide +kernel
theorem dX1_buildField_0 : decode cX1_buildField 0 = .ok (.aload_n 0, 1) := by decide +kernel
theorem dX1_buildField_1 : decode cX1_buildField 1 = .ok (.getfield 21, 3) := by decide +kernel
theorem dX1_buildField_4 : decode cX1_buildField 4 = .ok (.iload_n 1, 1) := by decide +kernel
theorem dX1_buildField_5 : decode cX1_buildField 5 = .ok (.invokevirtual 188, 3) := by decide +kernel
theorem dX1_buildField_8 : decode cX1_buildField 8 = .ok (.ifCond .eq 10, 3) := by decide +kernel
theorem dX1_buildField_11 : decode cX1_buildField 11 = .ok (.iload_n 2, 1) := by decide +kernel
theorem dX1_buildField_12 : decode cX1_buildField 12 = .ok (.invokestatic 198, 3) := by decide +kernel
theorem dX1_buildField_15 : decode cX1_buildField 15 = .ok (.ifCond .ne 6, 3) := by decide +kernel
theorem dX1_buildField_18 : decode cX1_buildField 18 = .ok (.bipush (-2), 2) := by decide +kernel
theorem dX1_buildField_20 : decode cX1_buildField 20 = .ok (.ireturn, 1) := by decide +kernel
theorem dX1_buildField_21 : decode cX1_buildField 21 = .ok (.aload_n 0, 1) := by decide +kernel
theorem dX1_buildField_22 : decode cX1_buildField 22 = .ok (.iload_n 1, 1) := by decide +kernel
theorem dX1_buildField_23 : decode cX1_buildField 23 = .ok (.invokevirtual 152, 3) := by decide +kernel
theorem dX1_buildField_26 : decode cX1_buildField 26 = .ok (.ifCond .ne 6, 3) := by decide +kernel
theorem dX1_buildField_29 : decode cX1_buildField 29 = .ok (.bipush (-4), 2) := by decide +kernel
theorem dX1_buildField_31 : decode cX1_buildField 31 = .ok (.ireturn, 1) := by decide +kernel
theorem dX1_buildField_32 : decode cX1_buildField 32 = .ok (.aload_n 0, 1) := by decide +kernel
theorem dX1_buildField_33 : decode cX1_buildField 33 = .ok (.getfield 28, 3) := by decide +kernel
theorem dX1_buildField_36 : decode cX1_buildField 36 = .ok (.aload_n 0, 1) := by decide +kernel
theorem dX1_buildField_37 : decode cX1_buildField 37 = .ok (.getfield 21, 3) := by decide +kernel
theorem dX1_buildField_40 : decode cX1_buildField 40 = .ok (.iload_n 1, 1) := by decide +kernel
theorem dX1_buildField_41 : decode cX1_buildField 41 = .ok (.invokevirtual 142, 3) := by decide +kernel
theorem dX1_buildField_44 : decode cX1_buildField 44 = .ok (.aload_n 0, 1) := by decide +kernel
theorem dX1_buildField_45 : decode cX1_buildField 45 = .ok (.getfield 21, 3) := by decide +kernel
theorem dX1_buildField_48 : decode cX1_buildField 48 = .ok (.iload_n 1, 1) := by decide +kernel
theorem dX1_buildField_49 : decode cX1_buildField 49 = .ok (.invokevirtual 81, 3) := by decide +kernel
theorem dX1_buildField_52 : decode cX1_buildField 52 = .ok (.iload_n 2, 1) := by decide +kernel
theorem dX1_buildField_53 : decode cX1_buildField 53 = .ok (.aload_n 0, 1) := by decide +kernel
theorem dX1_buildField_54 : decode cX1_buildField 54 = .ok (.getfield 21, 3) := by decide +kernel
theorem dX1_buildField_57 : decode cX1_buildField 57 = .ok (.iload_n 1, 1) := by decide +kernel
theorem dX1_buildField_58 : decode cX1_buildField 58 = .ok (.invokevirtual 141, 3) := by decide +kernel
theorem dX1_buildField_61 : decode cX1_buildField 61 = .ok (.invokevirtual 201, 3) := by decide +kernel
theorem dX1_buildField_64 : decode cX1_buildField 64 = .ok (.ireturn, 1) := by decide +kernel
theorem dX1_mendWork_0 : decode cX1_mendWork 0 = .ok (.aload_n 0, 1) := by decide +kernel
theorem dX1_mendWork_1 : decode cX1_mendWork 1 = .ok (.getfield 28, 3) := by decide +kernel
theorem dX1_mendWork_4 : decode cX1_mendWork 4 = .ok (.iload_n 1, 1) := by decide +kernel
theorem dX1_mendWork_5 : decode cX1_mendWork 5 = .ok (.invokevirtual 202, 3) := by decide +kernel
theorem dX1_mendWork_8 : decode cX1_mendWork 8 = .ok (.ifCond .ne 6, 3) := by decide +kernel
theorem dX1_mendWork_11 : decode cX1_mendWork 11 = .ok (.bipush (-2), 2) := by decide +kernel
theorem dX1_mendWork_13 : decode cX1_mendWork 13 = .ok (.ireturn, 1) := by decide +kernel
theorem dX1_mendWork_14 : decode cX1_mendWork 14 = .ok (.aload_n 0, 1) := by decide +kernel
theorem dX1_mendWork_15 : decode cX1_mendWork 15 = .ok (.iload_n 1, 1) := by decide +kernel
theorem dX1_mendWork_16 : decode cX1_mendWork 16 = .ok (.invokevirtual 105, 3) := by decide +kernel
theorem dX1_mendWork_19 : decode cX1_mendWork 19 = .ok (.ifCond .ne 6, 3) := by decide +kernel
theorem dX1_mendWork_22 : decode cX1_mendWork 22 = .ok (.bipush (-4), 2) := by decide +kernel
theorem dX1_mendWork_24 : decode cX1_mendWork 24 = .ok (.ireturn, 1) := by decide +kernel
theorem dX1_mendWork_25 : decode cX1_mendWork 25 = .ok (.aload_n 0, 1) := by decide +kernel
theorem dX1_mendWork_26 : decode cX1_mendWork 26 = .ok (.getfield 28, 3) := by decide +kernel
theorem dX1_mendWork_29 : decode cX1_mendWork 29 = .ok (.iload_n 1, 1) := by decide +kernel
theorem dX1_mendWork_30 : decode cX1_mendWork 30 = .ok (.aload_n 0, 1) := by decide +kernel
theorem dX1_mendWork_31 : decode cX1_mendWork 31 = .ok (.getfield 12, 3) := by decide +kernel
theorem dX1_mendWork_34 : decode cX1_mendWork 34 = .ok (.aload_n 0, 1) := by decide +kernel
theorem dX1_mendWork_35 : decode cX1_mendWork 35 = .ok (.getfield 28, 3) := by decide +kernel
theorem dX1_mendWork_38 : decode cX1_mendWork 38 = .ok (.iload_n 1, 1) := by decide +kernel
theorem dX1_mendWork_39 : decode cX1_mendWork 39 = .ok (.invokevirtual 87, 3) := by decide +kernel
theorem dX1_mendWork_42 : decode cX1_mendWork 42 = .ok (.invokevirtual 128, 3) := by decide +kernel
theorem dX1_mendWork_45 : decode cX1_mendWork 45 = .ok (.invokevirtual 203, 3) := by decide +kernel
theorem dX1_mendWork_48 : decode cX1_mendWork 48 = .ok (.aload_n 0, 1) := by decide +kernel
theorem dX1_mendWork_49 : decode cX1_mendWork 49 = .ok (.iconst (-1), 1) := by decide +kernel
theorem dX1_mendWork_50 : decode cX1_mendWork 50 = .ok (.iconst (-1), 1) := by decide +kernel
theorem dX1_mendWork_51 : decode cX1_mendWork 51 = .ok (.invokevirtual 119, 3) := by decide +kernel
theorem dX1_mendWork_54 : decode cX1_mendWork 54 = .ok (.ireturn, 1) := by decide +kernel
theorem dX1_passDays_0 : decode cX1_passDays 0 = .ok (.iload_n 1, 1) := by decide +kernel
theorem dX1_passDays_1 : decode cX1_passDays 1 = .ok (.invokestatic 206, 3) := by decide +kernel
theorem dX1_passDays_4 : decode cX1_passDays 4 = .ok (.ifCond .ne 6, 3) := by decide +kernel
theorem dX1_passDays_7 : decode cX1_passDays 7 = .ok (.bipush (-3), 2) := by decide +kernel
theorem dX1_passDays_9 : decode cX1_passDays 9 = .ok (.ireturn, 1) := by decide +kernel
theorem dX1_passDays_10 : decode cX1_passDays 10 = .ok (.aload_n 0, 1) := by decide +kernel
theorem dX1_passDays_11 : decode cX1_passDays 11 = .ok (.iload_n 1, 1) := by decide +kernel
theorem dX1_passDays_12 : decode cX1_passDays 12 = .ok (.invokevirtual 209, 3) := by decide +kernel
theorem dX1_passDays_15 : decode cX1_passDays 15 = .ok (.istore_n 2, 1) := by decide +kernel
theorem dX1_passDays_16 : decode cX1_passDays 16 = .ok (.aload_n 0, 1) := by decide +kernel
theorem dX1_passDays_17 : decode cX1_passDays 17 = .ok (.dup, 1) := by decide +kernel
theorem dX1_passDays_18 : decode cX1_passDays 18 = .ok (.getfield 42, 3) := by decide +kernel
theorem dX1_passDays_21 : decode cX1_passDays 21 = .ok (.iload_n 1, 1) := by decide +kernel
theorem dX1_passDays_22 : decode cX1_passDays 22 = .ok (.iadd, 1) := by decide +kernel
theorem dX1_passDays_23 : decode cX1_passDays 23 = .ok (.putfield 42, 3) := by decide +kernel
theorem dX1_passDays_26 : decode cX1_passDays 26 = .ok (.aload_n 0, 1) := by decide +kernel
theorem dX1_passDays_27 : decode cX1_passDays 27 = .ok (.dup, 1) := by decide +kernel
theorem dX1_passDays_28 : decode cX1_passDays 28 = .ok (.getfield 46, 3) := by decide +kernel
theorem dX1_passDays_31 : decode cX1_passDays 31 = .ok (.iload_n 2, 1) := by decide +kernel
theorem dX1_passDays_32 : decode cX1_passDays 32 = .ok (.iadd, 1) := by decide +kernel
theorem dX1_passDays_33 : decode cX1_passDays 33 = .ok (.putfield 46, 3) := by decide +kernel
theorem dX1_passDays_36 : decode cX1_passDays 36 = .ok (.iload_n 2, 1) := by decide +kernel
theorem dX1_passDays_37 : decode cX1_passDays 37 = .ok (.ireturn, 1) := by decide +kernel
theorem dX1_changeSetting_0 : decode cX1_changeSetting 0 = .ok (.iload_n 1, 1) := by decide +kernel
theorem dX1_changeSetting_1 : decode cX1_changeSetting 1 = .ok (.invokestatic 65, 3) := by decide +kernel
theorem dX1_changeSetting_4 : decode cX1_changeSetting 4 = .ok (.ifCond .eq 15, 3) := by decide +kernel
theorem dX1_changeSetting_7 : decode cX1_changeSetting 7 = .ok (.iload_n 2, 1) := by decide +kernel
theorem dX1_changeSetting_8 : decode cX1_changeSetting 8 = .ok (.ifCond .lt 11, 3) := by decide +kernel
theorem dX1_changeSetting_11 : decode cX1_changeSetting 11 = .ok (.iload_n 2, 1) := by decide +kernel
theorem dX1_changeSetting_12 : decode cX1_changeSetting 12 = .ok (.iload_n 1, 1) := by decide +kernel
theorem dX1_changeSetting_13 : decode cX1_changeSetting 13 = .ok (.invokestatic 212, 3) := by decide +kernel
theorem dX1_changeSetting_16 : decode cX1_changeSetting 16 = .ok (.if_icmp .le 6, 3) := by decide +kernel
theorem dX1_changeSetting_19 : decode cX1_changeSetting 19 = .ok (.bipush (-3), 2) := by decide +kernel
theorem dX1_changeSetting_21 : decode cX1_changeSetting 21 = .ok (.ireturn, 1) := by decide +kernel
theorem dX1_changeSetting_22 : decode cX1_changeSetting 22 = .ok (.aload_n 0, 1) := by decide +kernel
theorem dX1_changeSetting_23 : decode cX1_changeSetting 23 = .ok (.getfield 32, 3) := by decide +kernel
theorem dX1_changeSetting_26 : decode cX1_changeSetting 26 = .ok (.iload_n 1, 1) := by decide +kernel
theorem dX1_changeSetting_27 : decode cX1_changeSetting 27 = .ok (.iaload, 1) := by decide +kernel
theorem dX1_changeSetting_28 : decode cX1_changeSetting 28 = .ok (.istore_n 3, 1) := by decide +kernel
theorem dX1_changeSetting_29 : decode cX1_changeSetting 29 = .ok (.aload_n 0, 1) := by decide +kernel
theorem dX1_changeSetting_30 : decode cX1_changeSetting 30 = .ok (.getfield 32, 3) := by decide +kernel
theorem dX1_changeSetting_33 : decode cX1_changeSetting 33 = .ok (.iload_n 1, 1) := by decide +kernel
theorem dX1_changeSetting_34 : decode cX1_changeSetting 34 = .ok (.iload_n 2, 1) := by decide +kernel
theorem dX1_changeSetting_35 : decode cX1_changeSetting 35 = .ok (.iastore, 1) := by decide +kernel
theorem dX1_changeSetting_36 : decode cX1_changeSetting 36 = .ok (.iload_n 3, 1) := by decide +kernel
theorem dX1_changeSetting_37 : decode cX1_changeSetting 37 = .ok (.ireturn, 1) := by decide +kernel
theorem dX1_costOfNext_0 : decode cX1_costOfNext 0 = .ok (.iconst 0, 1) := by decide +kernel
theorem dX1_costOfNext_1 : decode cX1_costOfNext 1 = .ok (.istore_n 2, 1) := by decide +kernel
theorem dX1_costOfNext_2 : decode cX1_costOfNext 2 = .ok (.iconst 0, 1) := by decide +kernel
theorem dX1_costOfNext_3 : decode cX1_costOfNext 3 = .ok (.istore_n 3, 1) := by decide +kernel
theorem dX1_costOfNext_4 : decode cX1_costOfNext 4 = .ok (.iload_n 3, 1) := by decide +kernel
theorem dX1_costOfNext_5 : decode cX1_costOfNext 5 = .ok (.aload_n 0, 1) := by decide +kernel
theorem dX1_costOfNext_6 : decode cX1_costOfNext 6 = .ok (.getfield 21, 3) := by decide +kernel
theorem dX1_costOfNext_9 : decode cX1_costOfNext 9 = .ok (.invokevirtual 109, 3) := by decide +kernel
theorem dX1_costOfNext_12 : decode cX1_costOfNext 12 = .ok (.if_icmp .ge 30, 3) := by decide +kernel
theorem dX1_costOfNext_15 : decode cX1_costOfNext 15 = .ok (.iload_n 2, 1) := by decide +kernel
theorem dX1_costOfNext_16 : decode cX1_costOfNext 16 = .ok (.iload_n 1, 1) := by decide +kernel
theorem dX1_costOfNext_17 : decode cX1_costOfNext 17 = .ok (.aload_n 0, 1) := by decide +kernel
theorem dX1_costOfNext_18 : decode cX1_costOfNext 18 = .ok (.getfield 21, 3) := by decide +kernel
theorem dX1_costOfNext_21 : decode cX1_costOfNext 21 = .ok (.iload_n 3, 1) := by decide +kernel
theorem dX1_costOfNext_22 : decode cX1_costOfNext 22 = .ok (.aload_n 0, 1) := by decide +kernel
theorem dX1_costOfNext_23 : decode cX1_costOfNext 23 = .ok (.getfield 42, 3) := by decide +kernel
theorem dX1_costOfNext_26 : decode cX1_costOfNext 26 = .ok (.iload_n 1, 1) := by decide +kernel
theorem dX1_costOfNext_27 : decode cX1_costOfNext 27 = .ok (.iadd, 1) := by decide +kernel
theorem dX1_costOfNext_28 : decode cX1_costOfNext 28 = .ok (.invokevirtual 192, 3) := by decide +kernel
theorem dX1_costOfNext_31 : decode cX1_costOfNext 31 = .ok (.invokestatic 215, 3) := by decide +kernel
theorem dX1_costOfNext_34 : decode cX1_costOfNext 34 = .ok (.iadd, 1) := by decide +kernel
theorem dX1_costOfNext_35 : decode cX1_costOfNext 35 = .ok (.istore_n 2, 1) := by decide +kernel
theorem dX1_costOfNext_36 : decode cX1_costOfNext 36 = .ok (.iinc 3 1, 3) := by decide +kernel
theorem dX1_costOfNext_39 : decode cX1_costOfNext 39 = .ok (.goto (-35), 3) := by decide +kernel
theorem dX1_costOfNext_42 : decode cX1_costOfNext 42 = .ok (.iload_n 2, 1) := by decide +kernel
theorem dX1_costOfNext_43 : decode cX1_costOfNext 43 = .ok (.aload_n 0, 1) := by decide +kernel
theorem dX1_costOfNext_44 : decode cX1_costOfNext 44 = .ok (.getfield 32, 3) := by decide +kernel
theorem dX1_costOfNext_47 : decode cX1_costOfNext 47 = .ok (.iconst 2, 1) := by decide +kernel
theorem dX1_costOfNext_48 : decode cX1_costOfNext 48 = .ok (.iaload, 1) := by decide +kernel
theorem dX1_costOfNext_49 : decode cX1_costOfNext 49 = .ok (.imul, 1) := by decide +kernel
theorem dX1_costOfNext_50 : decode cX1_costOfNext 50 = .ok (.ireturn, 1) := by decide +kernel
theorem dX1_firstTruePrint_0 : decode cX1_firstTruePrint 0 = .ok (.iconst 0, 1) := by decide +kernel
theorem dX1_firstTruePrint_1 : decode cX1_firstTruePrint 1 = .ok (.istore_n 3, 1) := by decide +kernel
theorem dX1_firstTruePrint_2 : decode cX1_firstTruePrint 2 = .ok (.iload_n 3, 1) := by decide +kernel
theorem dX1_firstTruePrint_3 : decode cX1_firstTruePrint 3 = .ok (.aload_n 0, 1) := by decide +kernel
theorem dX1_firstTruePrint_4 : decode cX1_firstTruePrint 4 = .ok (.getfield 21, 3) := by decide +kernel
theorem dX1_firstTruePrint_7 : decode cX1_firstTruePrint 7 = .ok (.invokevirtual 109, 3) := by decide +kernel
theorem dX1_firstTruePrint_10 : decode cX1_firstTruePrint 10 = .ok (.if_icmp .ge 43, 3) := by decide +kernel
theorem dX1_firstTruePrint_13 : decode cX1_firstTruePrint 13 = .ok (.aload_n 0, 1) := by decide +kernel
theorem dX1_firstTruePrint_14 : decode cX1_firstTruePrint 14 = .ok (.getfield 21, 3) := by decide +kernel
theorem dX1_firstTruePrint_17 : decode cX1_firstTruePrint 17 = .ok (.iload_n 3, 1) := by decide +kernel
theorem dX1_firstTruePrint_18 : decode cX1_firstTruePrint 18 = .ok (.invokevirtual 142, 3) := by decide +kernel
theorem dX1_firstTruePrint_21 : decode cX1_firstTruePrint 21 = .ok (.iload_n 1, 1) := by decide +kernel
theorem dX1_firstTruePrint_22 : decode cX1_firstTruePrint 22 = .ok (.if_icmp .ne 25, 3) := by decide +kernel
theorem dX1_firstTruePrint_25 : decode cX1_firstTruePrint 25 = .ok (.aload_n 0, 1) := by decide +kernel
theorem dX1_firstTruePrint_26 : decode cX1_firstTruePrint 26 = .ok (.getfield 21, 3) := by decide +kernel
theorem dX1_firstTruePrint_29 : decode cX1_firstTruePrint 29 = .ok (.iload_n 3, 1) := by decide +kernel
theorem dX1_firstTruePrint_30 : decode cX1_firstTruePrint 30 = .ok (.invokevirtual 81, 3) := by decide +kernel
theorem dX1_firstTruePrint_33 : decode cX1_firstTruePrint 33 = .ok (.iload_n 2, 1) := by decide +kernel
theorem dX1_firstTruePrint_34 : decode cX1_firstTruePrint 34 = .ok (.if_icmp .ne 13, 3) := by decide +kernel
theorem dX1_firstTruePrint_37 : decode cX1_firstTruePrint 37 = .ok (.aload_n 0, 1) := by decide +kernel
theorem dX1_firstTruePrint_38 : decode cX1_firstTruePrint 38 = .ok (.iload_n 3, 1) := by decide +kernel
theorem dX1_firstTruePrint_39 : decode cX1_firstTruePrint 39 = .ok (.invokevirtual 152, 3) := by decide +kernel
theorem dX1_firstTruePrint_42 : decode cX1_firstTruePrint 42 = .ok (.ifCond .eq 5, 3) := by decide +kernel
theorem dX1_firstTruePrint_45 : decode cX1_firstTruePrint 45 = .ok (.iload_n 3, 1) := by decide +kernel
theorem dX1_firstTruePrint_46 : decode cX1_firstTruePrint 46 = .ok (.ireturn, 1) := by decide +kernel
theorem dX1_firstTruePrint_47 : decode cX1_firstTruePrint 47 = .ok (.iinc 3 1, 3) := by decide +kernel
theorem dX1_firstTruePrint_50 : decode cX1_firstTruePrint 50 = .ok (.goto (-48), 3) := by decide +kernel
theorem dX1_firstTruePrint_53 : decode cX1_firstTruePrint 53 = .ok (.iconst (-1), 1) := by decide +kernel
theorem dX1_firstTruePrint_54 : decode cX1_firstTruePrint 54 = .ok (.ireturn, 1) := by decide +kernel
theorem dX1_worksMadeWrong_0 : decode cX1_worksMadeWrong 0 = .ok (.iconst 0, 1) := by decide +kernel
theorem dX1_worksMadeWrong_1 : decode cX1_worksMadeWrong 1 = .ok (.istore_n 3, 1) := by decide +kernel
theorem dX1_worksMadeWrong_2 : decode cX1_worksMadeWrong 2 = .ok (.iconst 0, 1) := by decide +kernel
theorem dX1_worksMadeWrong_3 : decode cX1_worksMadeWrong 3 = .ok (.istore 4, 2) := by decide +kernel
theorem dX1_worksMadeWrong_5 : decode cX1_worksMadeWrong 5 = .ok (.iload 4, 2) := by decide +kernel
theorem dX1_worksMadeWrong_7 : decode cX1_worksMadeWrong 7 = .ok (.aload_n 0, 1) := by decide +kernel
theorem dX1_worksMadeWrong_8 : decode cX1_worksMadeWrong 8 = .ok (.getfield 28, 3) := by decide +kernel
theorem dX1_worksMadeWrong_11 : decode cX1_worksMadeWrong 11 = .ok (.invokevirtual 98, 3) := by decide +kernel
theorem dX1_worksMadeWrong_14 : decode cX1_worksMadeWrong 14 = .ok (.if_icmp .ge 50, 3) := by decide +kernel
theorem dX1_worksMadeWrong_17 : decode cX1_worksMadeWrong 17 = .ok (.aload_n 0, 1) := by decide +kernel
theorem dX1_worksMadeWrong_18 : decode cX1_worksMadeWrong 18 = .ok (.getfield 28, 3) := by decide +kernel
theorem dX1_worksMadeWrong_21 : decode cX1_worksMadeWrong 21 = .ok (.iload 4, 2) := by decide +kernel
theorem dX1_worksMadeWrong_23 : decode cX1_worksMadeWrong 23 = .ok (.invokevirtual 87, 3) := by decide +kernel
theorem dX1_worksMadeWrong_26 : decode cX1_worksMadeWrong 26 = .ok (.iload_n 1, 1) := by decide +kernel
theorem dX1_worksMadeWrong_27 : decode cX1_worksMadeWrong 27 = .ok (.if_icmp .ne 31, 3) := by decide +kernel
theorem dX1_worksMadeWrong_30 : decode cX1_worksMadeWrong 30 = .ok (.iload_n 2, 1) := by decide +kernel
theorem dX1_worksMadeWrong_31 : decode cX1_worksMadeWrong 31 = .ok (.aload_n 0, 1) := by decide +kernel
theorem dX1_worksMadeWrong_32 : decode cX1_worksMadeWrong 32 = .ok (.getfield 28, 3) := by decide +kernel
theorem dX1_worksMadeWrong_35 : decode cX1_worksMadeWrong 35 = .ok (.iload 4, 2) := by decide +kernel
theorem dX1_worksMadeWrong_37 : decode cX1_worksMadeWrong 37 = .ok (.invokevirtual 88, 3) := by decide +kernel
theorem dX1_worksMadeWrong_40 : decode cX1_worksMadeWrong 40 = .ok (.invokestatic 220, 3) := by decide +kernel
theorem dX1_worksMadeWrong_43 : decode cX1_worksMadeWrong 43 = .ok (.ifCond .eq 15, 3) := by decide +kernel
theorem dX1_worksMadeWrong_46 : decode cX1_worksMadeWrong 46 = .ok (.aload_n 0, 1) := by decide +kernel
theorem dX1_worksMadeWrong_47 : decode cX1_worksMadeWrong 47 = .ok (.iload 4, 2) := by decide +kernel
theorem dX1_worksMadeWrong_49 : decode cX1_worksMadeWrong 49 = .ok (.invokevirtual 105, 3) := by decide +kernel
theorem dX1_worksMadeWrong_52 : decode cX1_worksMadeWrong 52 = .ok (.ifCond .ne 6, 3) := by decide +kernel
theorem dX1_worksMadeWrong_55 : decode cX1_worksMadeWrong 55 = .ok (.iinc 3 1, 3) := by decide +kernel
theorem dX1_worksMadeWrong_58 : decode cX1_worksMadeWrong 58 = .ok (.iinc 4 1, 3) := by decide +kernel
theorem dX1_worksMadeWrong_61 : decode cX1_worksMadeWrong 61 = .ok (.goto (-56), 3) := by decide +kernel
theorem dX1_worksMadeWrong_64 : decode cX1_worksMadeWrong 64 = .ok (.iload_n 3, 1) := by decide +kernel
theorem dX1_worksMadeWrong_65 : decode cX1_worksMadeWrong 65 = .ok (.ireturn, 1) := by decide +kernel
theorem dX1_sitesWithTruePrint_0 : decode cX1_sitesWithTruePrint 0 = .ok (.iconst 0, 1) := by decide +kernel
theorem dX1_sitesWithTruePrint_1 : decode cX1_sitesWithTruePrint 1 = .ok (.istore_n 2, 1) := by decide +kernel
theorem dX1_sitesWithTruePrint_2 : decode cX1_sitesWithTruePrint 2 = .ok (.iconst 0, 1) := by decide +kernel
theorem dX1_sitesWithTruePrint_3 : decode cX1_sitesWithTruePrint 3 = .ok (.istore_n 3, 1) := by decide +kernel
theorem dX1_sitesWithTruePrint_4 : decode cX1_sitesWithTruePrint 4 = .ok (.iload_n 3, 1) := by decide +kernel
theorem dX1_sitesWithTruePrint_5 : decode cX1_sitesWithTruePrint 5 = .ok (.iconst 4, 1) := by decide +kernel
theorem dX1_sitesWithTruePrint_6 : decode cX1_sitesWithTruePrint 6 = .ok (.if_icmp .ge 22, 3) := by decide +kernel
theorem dX1_sitesWithTruePrint_9 : decode cX1_sitesWithTruePrint 9 = .ok (.aload_n 0, 1) := by decide +kernel
theorem dX1_sitesWithTruePrint_10 : decode cX1_sitesWithTruePrint 10 = .ok (.iload_n 3, 1) := by decide +kernel
theorem dX1_sitesWithTruePrint_11 : decode cX1_sitesWithTruePrint 11 = .ok (.iload_n 1, 1) := by decide +kernel
theorem dX1_sitesWithTruePrint_12 : decode cX1_sitesWithTruePrint 12 = .ok (.invokevirtual 224, 3) := by decide +kernel
theorem dX1_sitesWithTruePrint_15 : decode cX1_sitesWithTruePrint 15 = .ok (.iconst (-1), 1) := by decide +kernel
theorem dX1_sitesWithTruePrint_16 : decode cX1_sitesWithTruePrint 16 = .ok (.if_icmp .eq 6, 3) := by decide +kernel
theorem dX1_sitesWithTruePrint_19 : decode cX1_sitesWithTruePrint 19 = .ok (.iinc 2 1, 3) := by decide +kernel
theorem dX1_sitesWithTruePrint_22 : decode cX1_sitesWithTruePrint 22 = .ok (.iinc 3 1, 3) := by decide +kernel
theorem dX1_sitesWithTruePrint_25 : decode cX1_sitesWithTruePrint 25 = .ok (.goto (-21), 3) := by decide +kernel
theorem dX1_sitesWithTruePrint_28 : decode cX1_sitesWithTruePrint 28 = .ok (.iload_n 2, 1) := by decide +kernel
theorem dX1_sitesWithTruePrint_29 : decode cX1_sitesWithTruePrint 29 = .ok (.ireturn, 1) := by decide +kernel
theorem dX1_worstSite_0 : decode cX1_worstSite 0 = .ok (.iconst 0, 1) := by decide +kernel
theorem dX1_worstSite_1 : decode cX1_worstSite 1 = .ok (.istore_n 1, 1) := by decide +kernel
theorem dX1_worstSite_2 : decode cX1_worstSite 2 = .ok (.aload_n 0, 1) := by decide +kernel
theorem dX1_worstSite_3 : decode cX1_worstSite 3 = .ok (.getfield 21, 3) := by decide +kernel
theorem dX1_worstSite_6 : decode cX1_worstSite 6 = .ok (.iconst 0, 1) := by decide +kernel
theorem dX1_worstSite_7 : decode cX1_worstSite 7 = .ok (.aload_n 0, 1) := by decide +kernel
theorem dX1_worstSite_8 : decode cX1_worstSite 8 = .ok (.getfield 42, 3) := by decide +kernel
theorem dX1_worstSite_11 : decode cX1_worstSite 11 = .ok (.invokevirtual 116, 3) := by decide +kernel
theorem dX1_worstSite_14 : decode cX1_worstSite 14 = .ok (.istore_n 2, 1) := by decide +kernel
theorem dX1_worstSite_15 : decode cX1_worstSite 15 = .ok (.aload_n 0, 1) := by decide +kernel
theorem dX1_worstSite_16 : decode cX1_worstSite 16 = .ok (.iconst 0, 1) := by decide +kernel
theorem dX1_worstSite_17 : decode cX1_worstSite 17 = .ok (.iconst (-1), 1) := by decide +kernel
theorem dX1_worstSite_18 : decode cX1_worstSite 18 = .ok (.invokevirtual 119, 3) := by decide +kernel
theorem dX1_worstSite_21 : decode cX1_worstSite 21 = .ok (.istore_n 3, 1) := by decide +kernel
theorem dX1_worstSite_22 : decode cX1_worstSite 22 = .ok (.iconst 1, 1) := by decide +kernel
theorem dX1_worstSite_23 : decode cX1_worstSite 23 = .ok (.istore 4, 2) := by decide +kernel
theorem dX1_worstSite_25 : decode cX1_worstSite 25 = .ok (.iload 4, 2) := by decide +kernel
theorem dX1_worstSite_27 : decode cX1_worstSite 27 = .ok (.iconst 4, 1) := by decide +kernel
theorem dX1_worstSite_28 : decode cX1_worstSite 28 = .ok (.if_icmp .ge 60, 3) := by decide +kernel
theorem dX1_worstSite_31 : decode cX1_worstSite 31 = .ok (.aload_n 0, 1) := by decide +kernel
theorem dX1_worstSite_32 : decode cX1_worstSite 32 = .ok (.getfield 21, 3) := by decide +kernel
theorem dX1_worstSite_35 : decode cX1_worstSite 35 = .ok (.iload 4, 2) := by decide +kernel
theorem dX1_worstSite_37 : decode cX1_worstSite 37 = .ok (.aload_n 0, 1) := by decide +kernel
theorem dX1_worstSite_38 : decode cX1_worstSite 38 = .ok (.getfield 42, 3) := by decide +kernel
theorem dX1_worstSite_41 : decode cX1_worstSite 41 = .ok (.invokevirtual 116, 3) := by decide +kernel
theorem dX1_worstSite_44 : decode cX1_worstSite 44 = .ok (.istore 5, 2) := by decide +kernel
theorem dX1_worstSite_46 : decode cX1_worstSite 46 = .ok (.aload_n 0, 1) := by decide +kernel
theorem dX1_worstSite_47 : decode cX1_worstSite 47 = .ok (.iload 4, 2) := by decide +kernel
theorem dX1_worstSite_49 : decode cX1_worstSite 49 = .ok (.iconst (-1), 1) := by decide +kernel
theorem dX1_worstSite_50 : decode cX1_worstSite 50 = .ok (.invokevirtual 119, 3) := by decide +kernel
theorem dX1_worstSite_53 : decode cX1_worstSite 53 = .ok (.istore 6, 2) := by decide +kernel
theorem dX1_worstSite_55 : decode cX1_worstSite 55 = .ok (.iload 5, 2) := by decide +kernel
theorem dX1_worstSite_57 : decode cX1_worstSite 57 = .ok (.iload_n 2, 1) := by decide +kernel
theorem dX1_worstSite_58 : decode cX1_worstSite 58 = .ok (.if_icmp .gt 15, 3) := by decide +kernel
theorem dX1_worstSite_61 : decode cX1_worstSite 61 = .ok (.iload 5, 2) := by decide +kernel
theorem dX1_worstSite_63 : decode cX1_worstSite 63 = .ok (.iload_n 2, 1) := by decide +kernel
theorem dX1_worstSite_64 : decode cX1_worstSite 64 = .ok (.if_icmp .ne 18, 3) := by decide +kernel
theorem dX1_worstSite_67 : decode cX1_worstSite 67 = .ok (.iload 6, 2) := by decide +kernel
theorem dX1_worstSite_69 : decode cX1_worstSite 69 = .ok (.iload_n 3, 1) := by decide +kernel
theorem dX1_worstSite_70 : decode cX1_worstSite 70 = .ok (.if_icmp .le 12, 3) := by decide +kernel
theorem dX1_worstSite_73 : decode cX1_worstSite 73 = .ok (.iload 4, 2) := by decide +kernel
theorem dX1_worstSite_75 : decode cX1_worstSite 75 = .ok (.istore_n 1, 1) := by decide +kernel
theorem dX1_worstSite_76 : decode cX1_worstSite 76 = .ok (.iload 5, 2) := by decide +kernel
theorem dX1_worstSite_78 : decode cX1_worstSite 78 = .ok (.istore_n 2, 1) := by decide +kernel
theorem dX1_worstSite_79 : decode cX1_worstSite 79 = .ok (.iload 6, 2) := by decide +kernel
theorem dX1_worstSite_81 : decode cX1_worstSite 81 = .ok (.istore_n 3, 1) := by decide +kernel
theorem dX1_worstSite_82 : decode cX1_worstSite 82 = .ok (.iinc 4 1, 3) := by decide +kernel
theorem dX1_worstSite_85 : decode cX1_worstSite 85 = .ok (.goto (-60), 3) := by decide +kernel
theorem dX1_worstSite_88 : decode cX1_worstSite 88 = .ok (.iload_n 1, 1) := by decide +kernel
theorem dX1_worstSite_89 : decode cX1_worstSite 89 = .ok (.ireturn, 1) := by decide +kernel
