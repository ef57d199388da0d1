theorem d_al_yearOf_0 : decode b_al_yearOf 0 = .ok (.sipush 2000, 3) := by decide +kernel
theorem d_al_yearOf_3 : decode b_al_yearOf 3 = .ok (.iload_n 0, 1) := by decide +kernel
theorem d_al_yearOf_4 : decode b_al_yearOf 4 = .ok (.bipush 12, 2) := by decide +kernel
theorem d_al_yearOf_6 : decode b_al_yearOf 6 = .ok (.idiv, 1) := by decide +kernel
theorem d_al_yearOf_7 : decode b_al_yearOf 7 = .ok (.iadd, 1) := by decide +kernel
theorem d_al_yearOf_8 : decode b_al_yearOf 8 = .ok (.ireturn, 1) := by decide +kernel
theorem d_al_monthOf_0 : decode b_al_monthOf 0 = .ok (.iload_n 0, 1) := by decide +kernel
theorem d_al_monthOf_1 : decode b_al_monthOf 1 = .ok (.bipush 12, 2) := by decide +kernel
theorem d_al_monthOf_3 : decode b_al_monthOf 3 = .ok (.irem, 1) := by decide +kernel
theorem d_al_monthOf_4 : decode b_al_monthOf 4 = .ok (.iconst 1, 1) := by decide +kernel
theorem d_al_monthOf_5 : decode b_al_monthOf 5 = .ok (.iadd, 1) := by decide +kernel
theorem d_al_monthOf_6 : decode b_al_monthOf 6 = .ok (.ireturn, 1) := by decide +kernel
theorem d_al_firstDayOf_0 : decode b_al_firstDayOf 0 = .ok (.iload_n 0, 1) := by decide +kernel
theorem d_al_firstDayOf_1 : decode b_al_firstDayOf 1 = .ok (.invokestatic 9, 3) := by decide +kernel
theorem d_al_firstDayOf_4 : decode b_al_firstDayOf 4 = .ok (.istore_n 1, 1) := by decide +kernel
theorem d_al_firstDayOf_5 : decode b_al_firstDayOf 5 = .ok (.iload_n 1, 1) := by decide +kernel
theorem d_al_firstDayOf_6 : decode b_al_firstDayOf 6 = .ok (.invokestatic 13, 3) := by decide +kernel
theorem d_al_firstDayOf_9 : decode b_al_firstDayOf 9 = .ok (.istore_n 2, 1) := by decide +kernel
theorem d_al_firstDayOf_10 : decode b_al_firstDayOf 10 = .ok (.iconst 1, 1) := by decide +kernel
theorem d_al_firstDayOf_11 : decode b_al_firstDayOf 11 = .ok (.istore_n 3, 1) := by decide +kernel
theorem d_al_firstDayOf_12 : decode b_al_firstDayOf 12 = .ok (.iload_n 3, 1) := by decide +kernel
theorem d_al_firstDayOf_13 : decode b_al_firstDayOf 13 = .ok (.iload_n 0, 1) := by decide +kernel
theorem d_al_firstDayOf_14 : decode b_al_firstDayOf 14 = .ok (.invokestatic 16, 3) := by decide +kernel
theorem d_al_firstDayOf_17 : decode b_al_firstDayOf 17 = .ok (.if_icmp .ge 17, 3) := by decide +kernel
theorem d_al_firstDayOf_20 : decode b_al_firstDayOf 20 = .ok (.iload_n 2, 1) := by decide +kernel
theorem d_al_firstDayOf_21 : decode b_al_firstDayOf 21 = .ok (.iload_n 1, 1) := by decide +kernel
theorem d_al_firstDayOf_22 : decode b_al_firstDayOf 22 = .ok (.iload_n 3, 1) := by decide +kernel
theorem d_al_firstDayOf_23 : decode b_al_firstDayOf 23 = .ok (.invokestatic 19, 3) := by decide +kernel
theorem d_al_firstDayOf_26 : decode b_al_firstDayOf 26 = .ok (.iadd, 1) := by decide +kernel
theorem d_al_firstDayOf_27 : decode b_al_firstDayOf 27 = .ok (.istore_n 2, 1) := by decide +kernel
theorem d_al_firstDayOf_28 : decode b_al_firstDayOf 28 = .ok (.iinc 3 1, 3) := by decide +kernel
theorem d_al_firstDayOf_31 : decode b_al_firstDayOf 31 = .ok (.goto (-19), 3) := by decide +kernel
theorem d_al_firstDayOf_34 : decode b_al_firstDayOf 34 = .ok (.iload_n 2, 1) := by decide +kernel
theorem d_al_firstDayOf_35 : decode b_al_firstDayOf 35 = .ok (.ireturn, 1) := by decide +kernel
theorem d_al_periodOf_0 : decode b_al_periodOf 0 = .ok (.sipush 2000, 3) := by decide +kernel
theorem d_al_periodOf_3 : decode b_al_periodOf 3 = .ok (.iload_n 0, 1) := by decide +kernel
theorem d_al_periodOf_4 : decode b_al_periodOf 4 = .ok (.sipush 366, 3) := by decide +kernel
theorem d_al_periodOf_7 : decode b_al_periodOf 7 = .ok (.idiv, 1) := by decide +kernel
theorem d_al_periodOf_8 : decode b_al_periodOf 8 = .ok (.iadd, 1) := by decide +kernel
theorem d_al_periodOf_9 : decode b_al_periodOf 9 = .ok (.istore_n 1, 1) := by decide +kernel
theorem d_al_periodOf_10 : decode b_al_periodOf 10 = .ok (.iload_n 1, 1) := by decide +kernel
theorem d_al_periodOf_11 : decode b_al_periodOf 11 = .ok (.sipush 2400, 3) := by decide +kernel
theorem d_al_periodOf_14 : decode b_al_periodOf 14 = .ok (.if_icmp .ge 19, 3) := by decide +kernel
theorem d_al_periodOf_17 : decode b_al_periodOf 17 = .ok (.iload_n 1, 1) := by decide +kernel
theorem d_al_periodOf_18 : decode b_al_periodOf 18 = .ok (.iconst 1, 1) := by decide +kernel
theorem d_al_periodOf_19 : decode b_al_periodOf 19 = .ok (.iadd, 1) := by decide +kernel
theorem d_al_periodOf_20 : decode b_al_periodOf 20 = .ok (.invokestatic 13, 3) := by decide +kernel
theorem d_al_periodOf_23 : decode b_al_periodOf 23 = .ok (.iload_n 0, 1) := by decide +kernel
theorem d_al_periodOf_24 : decode b_al_periodOf 24 = .ok (.if_icmp .gt 9, 3) := by decide +kernel
theorem d_al_periodOf_27 : decode b_al_periodOf 27 = .ok (.iinc 1 1, 3) := by decide +kernel
theorem d_al_periodOf_30 : decode b_al_periodOf 30 = .ok (.goto (-20), 3) := by decide +kernel
theorem d_al_periodOf_33 : decode b_al_periodOf 33 = .ok (.iconst 1, 1) := by decide +kernel
theorem d_al_periodOf_34 : decode b_al_periodOf 34 = .ok (.istore_n 2, 1) := by decide +kernel
theorem d_al_periodOf_35 : decode b_al_periodOf 35 = .ok (.iload_n 0, 1) := by decide +kernel
theorem d_al_periodOf_36 : decode b_al_periodOf 36 = .ok (.iload_n 1, 1) := by decide +kernel
theorem d_al_periodOf_37 : decode b_al_periodOf 37 = .ok (.invokestatic 13, 3) := by decide +kernel
theorem d_al_periodOf_40 : decode b_al_periodOf 40 = .ok (.isub, 1) := by decide +kernel
theorem d_al_periodOf_41 : decode b_al_periodOf 41 = .ok (.istore_n 3, 1) := by decide +kernel
theorem d_al_periodOf_42 : decode b_al_periodOf 42 = .ok (.iload_n 2, 1) := by decide +kernel
theorem d_al_periodOf_43 : decode b_al_periodOf 43 = .ok (.bipush 12, 2) := by decide +kernel
theorem d_al_periodOf_45 : decode b_al_periodOf 45 = .ok (.if_icmp .ge 26, 3) := by decide +kernel
theorem d_al_periodOf_48 : decode b_al_periodOf 48 = .ok (.iload_n 3, 1) := by decide +kernel
theorem d_al_periodOf_49 : decode b_al_periodOf 49 = .ok (.iload_n 1, 1) := by decide +kernel
theorem d_al_periodOf_50 : decode b_al_periodOf 50 = .ok (.iload_n 2, 1) := by decide +kernel
theorem d_al_periodOf_51 : decode b_al_periodOf 51 = .ok (.invokestatic 19, 3) := by decide +kernel
theorem d_al_periodOf_54 : decode b_al_periodOf 54 = .ok (.if_icmp .lt 17, 3) := by decide +kernel
theorem d_al_periodOf_57 : decode b_al_periodOf 57 = .ok (.iload_n 3, 1) := by decide +kernel
theorem d_al_periodOf_58 : decode b_al_periodOf 58 = .ok (.iload_n 1, 1) := by decide +kernel
theorem d_al_periodOf_59 : decode b_al_periodOf 59 = .ok (.iload_n 2, 1) := by decide +kernel
theorem d_al_periodOf_60 : decode b_al_periodOf 60 = .ok (.invokestatic 19, 3) := by decide +kernel
theorem d_al_periodOf_63 : decode b_al_periodOf 63 = .ok (.isub, 1) := by decide +kernel
theorem d_al_periodOf_64 : decode b_al_periodOf 64 = .ok (.istore_n 3, 1) := by decide +kernel
theorem d_al_periodOf_65 : decode b_al_periodOf 65 = .ok (.iinc 2 1, 3) := by decide +kernel
theorem d_al_periodOf_68 : decode b_al_periodOf 68 = .ok (.goto (-26), 3) := by decide +kernel
theorem d_al_periodOf_71 : decode b_al_periodOf 71 = .ok (.iload_n 1, 1) := by decide +kernel
theorem d_al_periodOf_72 : decode b_al_periodOf 72 = .ok (.sipush 2000, 3) := by decide +kernel
theorem d_al_periodOf_75 : decode b_al_periodOf 75 = .ok (.isub, 1) := by decide +kernel
theorem d_al_periodOf_76 : decode b_al_periodOf 76 = .ok (.bipush 12, 2) := by decide +kernel
theorem d_al_periodOf_78 : decode b_al_periodOf 78 = .ok (.imul, 1) := by decide +kernel
theorem d_al_periodOf_79 : decode b_al_periodOf 79 = .ok (.iload_n 2, 1) := by decide +kernel
theorem d_al_periodOf_80 : decode b_al_periodOf 80 = .ok (.iadd, 1) := by decide +kernel
theorem d_al_periodOf_81 : decode b_al_periodOf 81 = .ok (.iconst 1, 1) := by decide +kernel
theorem d_al_periodOf_82 : decode b_al_periodOf 82 = .ok (.isub, 1) := by decide +kernel
theorem d_al_periodOf_83 : decode b_al_periodOf 83 = .ok (.ireturn, 1) := by decide +kernel
theorem d_al_firstDayOfYear_0 : decode b_al_firstDayOfYear 0 = .ok (.iload_n 0, 1) := by decide +kernel
theorem d_al_firstDayOfYear_1 : decode b_al_firstDayOfYear 1 = .ok (.sipush 2000, 3) := by decide +kernel
theorem d_al_firstDayOfYear_4 : decode b_al_firstDayOfYear 4 = .ok (.isub, 1) := by decide +kernel
theorem d_al_firstDayOfYear_5 : decode b_al_firstDayOfYear 5 = .ok (.istore_n 1, 1) := by decide +kernel
theorem d_al_firstDayOfYear_6 : decode b_al_firstDayOfYear 6 = .ok (.iload_n 1, 1) := by decide +kernel
theorem d_al_firstDayOfYear_7 : decode b_al_firstDayOfYear 7 = .ok (.iconst 3, 1) := by decide +kernel
theorem d_al_firstDayOfYear_8 : decode b_al_firstDayOfYear 8 = .ok (.iadd, 1) := by decide +kernel
theorem d_al_firstDayOfYear_9 : decode b_al_firstDayOfYear 9 = .ok (.iconst 4, 1) := by decide +kernel
theorem d_al_firstDayOfYear_10 : decode b_al_firstDayOfYear 10 = .ok (.idiv, 1) := by decide +kernel
theorem d_al_firstDayOfYear_11 : decode b_al_firstDayOfYear 11 = .ok (.iload_n 1, 1) := by decide +kernel
theorem d_al_firstDayOfYear_12 : decode b_al_firstDayOfYear 12 = .ok (.bipush 99, 2) := by decide +kernel
theorem d_al_firstDayOfYear_14 : decode b_al_firstDayOfYear 14 = .ok (.iadd, 1) := by decide +kernel
theorem d_al_firstDayOfYear_15 : decode b_al_firstDayOfYear 15 = .ok (.bipush 100, 2) := by decide +kernel
theorem d_al_firstDayOfYear_17 : decode b_al_firstDayOfYear 17 = .ok (.idiv, 1) := by decide +kernel
theorem d_al_firstDayOfYear_18 : decode b_al_firstDayOfYear 18 = .ok (.isub, 1) := by decide +kernel
theorem d_al_firstDayOfYear_19 : decode b_al_firstDayOfYear 19 = .ok (.iload_n 1, 1) := by decide +kernel
theorem d_al_firstDayOfYear_20 : decode b_al_firstDayOfYear 20 = .ok (.sipush 399, 3) := by decide +kernel
theorem d_al_firstDayOfYear_23 : decode b_al_firstDayOfYear 23 = .ok (.iadd, 1) := by decide +kernel
theorem d_al_firstDayOfYear_24 : decode b_al_firstDayOfYear 24 = .ok (.sipush 400, 3) := by decide +kernel
theorem d_al_firstDayOfYear_27 : decode b_al_firstDayOfYear 27 = .ok (.idiv, 1) := by decide +kernel
theorem d_al_firstDayOfYear_28 : decode b_al_firstDayOfYear 28 = .ok (.iadd, 1) := by decide +kernel
theorem d_al_firstDayOfYear_29 : decode b_al_firstDayOfYear 29 = .ok (.istore_n 2, 1) := by decide +kernel
theorem d_al_firstDayOfYear_30 : decode b_al_firstDayOfYear 30 = .ok (.sipush 365, 3) := by decide +kernel
theorem d_al_firstDayOfYear_33 : decode b_al_firstDayOfYear 33 = .ok (.iload_n 1, 1) := by decide +kernel
theorem d_al_firstDayOfYear_34 : decode b_al_firstDayOfYear 34 = .ok (.imul, 1) := by decide +kernel
theorem d_al_firstDayOfYear_35 : decode b_al_firstDayOfYear 35 = .ok (.iload_n 2, 1) := by decide +kernel
theorem d_al_firstDayOfYear_36 : decode b_al_firstDayOfYear 36 = .ok (.iadd, 1) := by decide +kernel
theorem d_al_firstDayOfYear_37 : decode b_al_firstDayOfYear 37 = .ok (.ireturn, 1) := by decide +kernel
theorem d_al_daysInMonth_0 : decode b_al_daysInMonth 0 = .ok (.iload_n 1, 1) := by decide +kernel
theorem d_al_daysInMonth_1 : decode b_al_daysInMonth 1 = .ok (.iconst 2, 1) := by decide +kernel
theorem d_al_daysInMonth_2 : decode b_al_daysInMonth 2 = .ok (.if_icmp .ne 18, 3) := by decide +kernel
theorem d_al_daysInMonth_5 : decode b_al_daysInMonth 5 = .ok (.iload_n 0, 1) := by decide +kernel
theorem d_al_daysInMonth_6 : decode b_al_daysInMonth 6 = .ok (.invokestatic 23, 3) := by decide +kernel
theorem d_al_daysInMonth_9 : decode b_al_daysInMonth 9 = .ok (.ifCond .eq 8, 3) := by decide +kernel
theorem d_al_daysInMonth_12 : decode b_al_daysInMonth 12 = .ok (.bipush 29, 2) := by decide +kernel
theorem d_al_daysInMonth_14 : decode b_al_daysInMonth 14 = .ok (.goto 5, 3) := by decide +kernel
theorem d_al_daysInMonth_17 : decode b_al_daysInMonth 17 = .ok (.bipush 28, 2) := by decide +kernel
theorem d_al_daysInMonth_19 : decode b_al_daysInMonth 19 = .ok (.ireturn, 1) := by decide +kernel
theorem d_al_daysInMonth_20 : decode b_al_daysInMonth 20 = .ok (.iload_n 1, 1) := by decide +kernel
theorem d_al_daysInMonth_21 : decode b_al_daysInMonth 21 = .ok (.iconst 4, 1) := by decide +kernel
theorem d_al_daysInMonth_22 : decode b_al_daysInMonth 22 = .ok (.if_icmp .eq 21, 3) := by decide +kernel
theorem d_al_daysInMonth_25 : decode b_al_daysInMonth 25 = .ok (.iload_n 1, 1) := by decide +kernel
theorem d_al_daysInMonth_26 : decode b_al_daysInMonth 26 = .ok (.bipush 6, 2) := by decide +kernel
theorem d_al_daysInMonth_28 : decode b_al_daysInMonth 28 = .ok (.if_icmp .eq 15, 3) := by decide +kernel
theorem d_al_daysInMonth_31 : decode b_al_daysInMonth 31 = .ok (.iload_n 1, 1) := by decide +kernel
theorem d_al_daysInMonth_32 : decode b_al_daysInMonth 32 = .ok (.bipush 9, 2) := by decide +kernel
theorem d_al_daysInMonth_34 : decode b_al_daysInMonth 34 = .ok (.if_icmp .eq 9, 3) := by decide +kernel
theorem d_al_daysInMonth_37 : decode b_al_daysInMonth 37 = .ok (.iload_n 1, 1) := by decide +kernel
theorem d_al_daysInMonth_38 : decode b_al_daysInMonth 38 = .ok (.bipush 11, 2) := by decide +kernel
theorem d_al_daysInMonth_40 : decode b_al_daysInMonth 40 = .ok (.if_icmp .ne 8, 3) := by decide +kernel
theorem d_al_daysInMonth_43 : decode b_al_daysInMonth 43 = .ok (.bipush 30, 2) := by decide +kernel
theorem d_al_daysInMonth_45 : decode b_al_daysInMonth 45 = .ok (.goto 5, 3) := by decide +kernel
theorem d_al_daysInMonth_48 : decode b_al_daysInMonth 48 = .ok (.bipush 31, 2) := by decide +kernel
theorem d_al_daysInMonth_50 : decode b_al_daysInMonth 50 = .ok (.ireturn, 1) := by decide +kernel
theorem d_al_isLeapYear_0 : decode b_al_isLeapYear 0 = .ok (.iload_n 0, 1) := by decide +kernel
theorem d_al_isLeapYear_1 : decode b_al_isLeapYear 1 = .ok (.iconst 4, 1) := by decide +kernel
theorem d_al_isLeapYear_2 : decode b_al_isLeapYear 2 = .ok (.irem, 1) := by decide +kernel
theorem d_al_isLeapYear_3 : decode b_al_isLeapYear 3 = .ok (.ifCond .ne 10, 3) := by decide +kernel
theorem d_al_isLeapYear_6 : decode b_al_isLeapYear 6 = .ok (.iload_n 0, 1) := by decide +kernel
theorem d_al_isLeapYear_7 : decode b_al_isLeapYear 7 = .ok (.bipush 100, 2) := by decide +kernel
theorem d_al_isLeapYear_9 : decode b_al_isLeapYear 9 = .ok (.irem, 1) := by decide +kernel
theorem d_al_isLeapYear_10 : decode b_al_isLeapYear 10 = .ok (.ifCond .ne 11, 3) := by decide +kernel
theorem d_al_isLeapYear_13 : decode b_al_isLeapYear 13 = .ok (.iload_n 0, 1) := by decide +kernel
theorem d_al_isLeapYear_14 : decode b_al_isLeapYear 14 = .ok (.sipush 400, 3) := by decide +kernel
theorem d_al_isLeapYear_17 : decode b_al_isLeapYear 17 = .ok (.irem, 1) := by decide +kernel
theorem d_al_isLeapYear_18 : decode b_al_isLeapYear 18 = .ok (.ifCond .ne 7, 3) := by decide +kernel
theorem d_al_isLeapYear_21 : decode b_al_isLeapYear 21 = .ok (.iconst 1, 1) := by decide +kernel
theorem d_al_isLeapYear_22 : decode b_al_isLeapYear 22 = .ok (.goto 4, 3) := by decide +kernel
theorem d_al_isLeapYear_25 : decode b_al_isLeapYear 25 = .ok (.iconst 0, 1) := by decide +kernel
theorem d_al_isLeapYear_26 : decode b_al_isLeapYear 26 = .ok (.ireturn, 1) := by decide +kernel
theorem d_cu_init_0 : decode b_cu_init 0 = .ok (.aload_n 0, 1) := by decide +kernel
theorem d_cu_init_1 : decode b_cu_init 1 = .ok (.invokespecial 3, 3) := by decide +kernel
theorem d_cu_init_4 : decode b_cu_init 4 = .ok (.aload_n 0, 1) := by decide +kernel
theorem d_cu_init_5 : decode b_cu_init 5 = .ok (.sipush 401, 3) := by decide +kernel
theorem d_cu_init_8 : decode b_cu_init 8 = .ok (.newarray .byte, 2) := by decide +kernel
theorem d_cu_init_10 : decode b_cu_init 10 = .ok (.putfield 9, 3) := by decide +kernel
theorem d_cu_init_13 : decode b_cu_init 13 = .ok (.aload_n 0, 1) := by decide +kernel
theorem d_cu_init_14 : decode b_cu_init 14 = .ok (.iconst (-1), 1) := by decide +kernel
theorem d_cu_init_15 : decode b_cu_init 15 = .ok (.putfield 15, 3) := by decide +kernel
theorem d_cu_init_18 : decode b_cu_init 18 = .ok (.aload_n 0, 1) := by decide +kernel
theorem d_cu_init_19 : decode b_cu_init 19 = .ok (.iconst 0, 1) := by decide +kernel
theorem d_cu_init_20 : decode b_cu_init 20 = .ok (.putfield 19, 3) := by decide +kernel
theorem d_cu_init_23 : decode b_cu_init 23 = .ok (.aload_n 0, 1) := by decide +kernel
theorem d_cu_init_24 : decode b_cu_init 24 = .ok (.iconst 0, 1) := by decide +kernel
theorem d_cu_init_25 : decode b_cu_init 25 = .ok (.putfield 23, 3) := by decide +kernel
theorem d_cu_init_28 : decode b_cu_init 28 = .ok (.aload_n 0, 1) := by decide +kernel
theorem d_cu_init_29 : decode b_cu_init 29 = .ok (.lconst 0, 1) := by decide +kernel
theorem d_cu_init_30 : decode b_cu_init 30 = .ok (.putfield 26, 3) := by decide +kernel
theorem d_cu_init_33 : decode b_cu_init 33 = .ok (.return_, 1) := by decide +kernel
theorem d_cu_tariffNow_0 : decode b_cu_tariffNow 0 = .ok (.aload_n 0, 1) := by decide +kernel
theorem d_cu_tariffNow_1 : decode b_cu_tariffNow 1 = .ok (.getfield 15, 3) := by decide +kernel
theorem d_cu_tariffNow_4 : decode b_cu_tariffNow 4 = .ok (.ireturn, 1) := by decide +kernel
theorem d_cu_isPaused_0 : decode b_cu_isPaused 0 = .ok (.aload_n 0, 1) := by decide +kernel
theorem d_cu_isPaused_1 : decode b_cu_isPaused 1 = .ok (.getfield 19, 3) := by decide +kernel
theorem d_cu_isPaused_4 : decode b_cu_isPaused 4 = .ok (.ireturn, 1) := by decide +kernel
theorem d_cu_stage_0 : decode b_cu_stage 0 = .ok (.aload_n 0, 1) := by decide +kernel
theorem d_cu_stage_1 : decode b_cu_stage 1 = .ok (.getfield 23, 3) := by decide +kernel
theorem d_cu_stage_4 : decode b_cu_stage 4 = .ok (.ireturn, 1) := by decide +kernel
theorem d_cu_credit_0 : decode b_cu_credit 0 = .ok (.aload_n 0, 1) := by decide +kernel
theorem d_cu_credit_1 : decode b_cu_credit 1 = .ok (.getfield 26, 3) := by decide +kernel
theorem d_cu_credit_4 : decode b_cu_credit 4 = .ok (.lreturn, 1) := by decide +kernel
theorem d_cu_isStopped_0 : decode b_cu_isStopped 0 = .ok (.aload_n 0, 1) := by decide +kernel
theorem d_cu_isStopped_1 : decode b_cu_isStopped 1 = .ok (.getfield 23, 3) := by decide +kernel
theorem d_cu_isStopped_4 : decode b_cu_isStopped 4 = .ok (.iconst 3, 1) := by decide +kernel
theorem d_cu_isStopped_5 : decode b_cu_isStopped 5 = .ok (.if_icmp .ne 7, 3) := by decide +kernel
theorem d_cu_isStopped_8 : decode b_cu_isStopped 8 = .ok (.iconst 1, 1) := by decide +kernel
theorem d_cu_isStopped_9 : decode b_cu_isStopped 9 = .ok (.goto 4, 3) := by decide +kernel
theorem d_cu_isStopped_12 : decode b_cu_isStopped 12 = .ok (.iconst 0, 1) := by decide +kernel
theorem d_cu_isStopped_13 : decode b_cu_isStopped 13 = .ok (.ireturn, 1) := by decide +kernel
theorem d_cu_changeTariff_0 : decode b_cu_changeTariff 0 = .ok (.aload_n 0, 1) := by decide +kernel
theorem d_cu_changeTariff_1 : decode b_cu_changeTariff 1 = .ok (.iload_n 1, 1) := by decide +kernel
theorem d_cu_changeTariff_2 : decode b_cu_changeTariff 2 = .ok (.putfield 15, 3) := by decide +kernel
theorem d_cu_changeTariff_5 : decode b_cu_changeTariff 5 = .ok (.aload_n 0, 1) := by decide +kernel
theorem d_cu_changeTariff_6 : decode b_cu_changeTariff 6 = .ok (.aload_n 0, 1) := by decide +kernel
theorem d_cu_changeTariff_7 : decode b_cu_changeTariff 7 = .ok (.invokevirtual 30, 3) := by decide +kernel
theorem d_cu_changeTariff_10 : decode b_cu_changeTariff 10 = .ok (.putfield 19, 3) := by decide +kernel
theorem d_cu_changeTariff_13 : decode b_cu_changeTariff 13 = .ok (.return_, 1) := by decide +kernel
theorem d_cu_setPaused_0 : decode b_cu_setPaused 0 = .ok (.aload_n 0, 1) := by decide +kernel
theorem d_cu_setPaused_1 : decode b_cu_setPaused 1 = .ok (.iload_n 1, 1) := by decide +kernel
theorem d_cu_setPaused_2 : decode b_cu_setPaused 2 = .ok (.putfield 19, 3) := by decide +kernel
theorem d_cu_setPaused_5 : decode b_cu_setPaused 5 = .ok (.return_, 1) := by decide +kernel
theorem d_cu_addCredit_0 : decode b_cu_addCredit 0 = .ok (.aload_n 0, 1) := by decide +kernel
theorem d_cu_addCredit_1 : decode b_cu_addCredit 1 = .ok (.dup, 1) := by decide +kernel
theorem d_cu_addCredit_2 : decode b_cu_addCredit 2 = .ok (.getfield 26, 3) := by decide +kernel
theorem d_cu_addCredit_5 : decode b_cu_addCredit 5 = .ok (.lload_n 1, 1) := by decide +kernel
theorem d_cu_addCredit_6 : decode b_cu_addCredit 6 = .ok (.ladd, 1) := by decide +kernel
theorem d_cu_addCredit_7 : decode b_cu_addCredit 7 = .ok (.putfield 26, 3) := by decide +kernel
theorem d_cu_addCredit_10 : decode b_cu_addCredit 10 = .ok (.return_, 1) := by decide +kernel
theorem d_cu_keepDay_0 : decode b_cu_keepDay 0 = .ok (.iload_n 1, 1) := by decide +kernel
theorem d_cu_keepDay_1 : decode b_cu_keepDay 1 = .ok (.ifCond .lt 23, 3) := by decide +kernel
theorem d_cu_keepDay_4 : decode b_cu_keepDay 4 = .ok (.iload_n 1, 1) := by decide +kernel
theorem d_cu_keepDay_5 : decode b_cu_keepDay 5 = .ok (.aload_n 0, 1) := by decide +kernel
theorem d_cu_keepDay_6 : decode b_cu_keepDay 6 = .ok (.getfield 9, 3) := by decide +kernel
theorem d_cu_keepDay_9 : decode b_cu_keepDay 9 = .ok (.arraylength, 1) := by decide +kernel
theorem d_cu_keepDay_10 : decode b_cu_keepDay 10 = .ok (.if_icmp .ge 14, 3) := by decide +kernel
theorem d_cu_keepDay_13 : decode b_cu_keepDay 13 = .ok (.aload_n 0, 1) := by decide +kernel
theorem d_cu_keepDay_14 : decode b_cu_keepDay 14 = .ok (.getfield 9, 3) := by decide +kernel
theorem d_cu_keepDay_17 : decode b_cu_keepDay 17 = .ok (.iload_n 1, 1) := by decide +kernel
theorem d_cu_keepDay_18 : decode b_cu_keepDay 18 = .ok (.aload_n 0, 1) := by decide +kernel
theorem d_cu_keepDay_19 : decode b_cu_keepDay 19 = .ok (.invokevirtual 34, 3) := by decide +kernel
theorem d_cu_keepDay_22 : decode b_cu_keepDay 22 = .ok (.i2b, 1) := by decide +kernel
theorem d_cu_keepDay_23 : decode b_cu_keepDay 23 = .ok (.bastore, 1) := by decide +kernel
theorem d_cu_keepDay_24 : decode b_cu_keepDay 24 = .ok (.return_, 1) := by decide +kernel
theorem d_cu_liveTariff_0 : decode b_cu_liveTariff 0 = .ok (.iload_n 1, 1) := by decide +kernel
theorem d_cu_liveTariff_1 : decode b_cu_liveTariff 1 = .ok (.iload_n 2, 1) := by decide +kernel
theorem d_cu_liveTariff_2 : decode b_cu_liveTariff 2 = .ok (.if_icmp .ne 8, 3) := by decide +kernel
theorem d_cu_liveTariff_5 : decode b_cu_liveTariff 5 = .ok (.aload_n 0, 1) := by decide +kernel
theorem d_cu_liveTariff_6 : decode b_cu_liveTariff 6 = .ok (.invokevirtual 34, 3) := by decide +kernel
theorem d_cu_liveTariff_9 : decode b_cu_liveTariff 9 = .ok (.ireturn, 1) := by decide +kernel
theorem d_cu_liveTariff_10 : decode b_cu_liveTariff 10 = .ok (.iload_n 1, 1) := by decide +kernel
theorem d_cu_liveTariff_11 : decode b_cu_liveTariff 11 = .ok (.ifCond .lt 26, 3) := by decide +kernel
theorem d_cu_liveTariff_14 : decode b_cu_liveTariff 14 = .ok (.iload_n 1, 1) := by decide +kernel
theorem d_cu_liveTariff_15 : decode b_cu_liveTariff 15 = .ok (.iload_n 2, 1) := by decide +kernel
theorem d_cu_liveTariff_16 : decode b_cu_liveTariff 16 = .ok (.if_icmp .ge 21, 3) := by decide +kernel
theorem d_cu_liveTariff_19 : decode b_cu_liveTariff 19 = .ok (.iload_n 1, 1) := by decide +kernel
theorem d_cu_liveTariff_20 : decode b_cu_liveTariff 20 = .ok (.aload_n 0, 1) := by decide +kernel
theorem d_cu_liveTariff_21 : decode b_cu_liveTariff 21 = .ok (.getfield 9, 3) := by decide +kernel
theorem d_cu_liveTariff_24 : decode b_cu_liveTariff 24 = .ok (.arraylength, 1) := by decide +kernel
theorem d_cu_liveTariff_25 : decode b_cu_liveTariff 25 = .ok (.if_icmp .ge 12, 3) := by decide +kernel
theorem d_cu_liveTariff_28 : decode b_cu_liveTariff 28 = .ok (.aload_n 0, 1) := by decide +kernel
theorem d_cu_liveTariff_29 : decode b_cu_liveTariff 29 = .ok (.getfield 9, 3) := by decide +kernel
theorem d_cu_liveTariff_32 : decode b_cu_liveTariff 32 = .ok (.iload_n 1, 1) := by decide +kernel
theorem d_cu_liveTariff_33 : decode b_cu_liveTariff 33 = .ok (.baload, 1) := by decide +kernel
theorem d_cu_liveTariff_34 : decode b_cu_liveTariff 34 = .ok (.goto 4, 3) := by decide +kernel
theorem d_cu_liveTariff_37 : decode b_cu_liveTariff 37 = .ok (.iconst (-1), 1) := by decide +kernel
theorem d_cu_liveTariff_38 : decode b_cu_liveTariff 38 = .ok (.ireturn, 1) := by decide +kernel
theorem d_cu_lookAtStage_0 : decode b_cu_lookAtStage 0 = .ok (.iload_n 1, 1) := by decide +kernel
theorem d_cu_lookAtStage_1 : decode b_cu_lookAtStage 1 = .ok (.ifCond .ne 7, 3) := by decide +kernel
theorem d_cu_lookAtStage_4 : decode b_cu_lookAtStage 4 = .ok (.iconst 0, 1) := by decide +kernel
theorem d_cu_lookAtStage_5 : decode b_cu_lookAtStage 5 = .ok (.goto 14, 3) := by decide +kernel
theorem d_cu_lookAtStage_8 : decode b_cu_lookAtStage 8 = .ok (.aload_n 0, 1) := by decide +kernel
theorem d_cu_lookAtStage_9 : decode b_cu_lookAtStage 9 = .ok (.getfield 23, 3) := by decide +kernel
theorem d_cu_lookAtStage_12 : decode b_cu_lookAtStage 12 = .ok (.iload_n 1, 1) := by decide +kernel
theorem d_cu_lookAtStage_13 : decode b_cu_lookAtStage 13 = .ok (.invokestatic 38, 3) := by decide +kernel
theorem d_cu_lookAtStage_16 : decode b_cu_lookAtStage 16 = .ok (.invokestatic 42, 3) := by decide +kernel
theorem d_cu_lookAtStage_19 : decode b_cu_lookAtStage 19 = .ok (.istore_n 2, 1) := by decide +kernel
theorem d_cu_lookAtStage_20 : decode b_cu_lookAtStage 20 = .ok (.iload_n 2, 1) := by decide +kernel
theorem d_cu_lookAtStage_21 : decode b_cu_lookAtStage 21 = .ok (.iconst 3, 1) := by decide +kernel
theorem d_cu_lookAtStage_22 : decode b_cu_lookAtStage 22 = .ok (.if_icmp .ne 16, 3) := by decide +kernel
theorem d_cu_lookAtStage_25 : decode b_cu_lookAtStage 25 = .ok (.aload_n 0, 1) := by decide +kernel
theorem d_cu_lookAtStage_26 : decode b_cu_lookAtStage 26 = .ok (.getfield 23, 3) := by decide +kernel
theorem d_cu_lookAtStage_29 : decode b_cu_lookAtStage 29 = .ok (.iconst 3, 1) := by decide +kernel
theorem d_cu_lookAtStage_30 : decode b_cu_lookAtStage 30 = .ok (.if_icmp .eq 8, 3) := by decide +kernel
theorem d_cu_lookAtStage_33 : decode b_cu_lookAtStage 33 = .ok (.aload_n 0, 1) := by decide +kernel
theorem d_cu_lookAtStage_34 : decode b_cu_lookAtStage 34 = .ok (.iconst 1, 1) := by decide +kernel
theorem d_cu_lookAtStage_35 : decode b_cu_lookAtStage 35 = .ok (.putfield 19, 3) := by decide +kernel
theorem d_cu_lookAtStage_38 : decode b_cu_lookAtStage 38 = .ok (.iload_n 2, 1) := by decide +kernel
theorem d_cu_lookAtStage_39 : decode b_cu_lookAtStage 39 = .ok (.ifCond .ne 16, 3) := by decide +kernel
theorem d_cu_lookAtStage_42 : decode b_cu_lookAtStage 42 = .ok (.aload_n 0, 1) := by decide +kernel
theorem d_cu_lookAtStage_43 : decode b_cu_lookAtStage 43 = .ok (.getfield 23, 3) := by decide +kernel
theorem d_cu_lookAtStage_46 : decode b_cu_lookAtStage 46 = .ok (.iconst 3, 1) := by decide +kernel
theorem d_cu_lookAtStage_47 : decode b_cu_lookAtStage 47 = .ok (.if_icmp .ne 8, 3) := by decide +kernel
theorem d_cu_lookAtStage_50 : decode b_cu_lookAtStage 50 = .ok (.aload_n 0, 1) := by decide +kernel
theorem d_cu_lookAtStage_51 : decode b_cu_lookAtStage 51 = .ok (.iconst 0, 1) := by decide +kernel
theorem d_cu_lookAtStage_52 : decode b_cu_lookAtStage 52 = .ok (.putfield 19, 3) := by decide +kernel
theorem d_cu_lookAtStage_55 : decode b_cu_lookAtStage 55 = .ok (.aload_n 0, 1) := by decide +kernel
theorem d_cu_lookAtStage_56 : decode b_cu_lookAtStage 56 = .ok (.iload_n 2, 1) := by decide +kernel
theorem d_cu_lookAtStage_57 : decode b_cu_lookAtStage 57 = .ok (.putfield 23, 3) := by decide +kernel
theorem d_cu_lookAtStage_60 : decode b_cu_lookAtStage 60 = .ok (.return_, 1) := by decide +kernel
theorem d_cu_liveTariffNow_0 : decode b_cu_liveTariffNow 0 = .ok (.aload_n 0, 1) := by decide +kernel
theorem d_cu_liveTariffNow_1 : decode b_cu_liveTariffNow 1 = .ok (.getfield 19, 3) := by decide +kernel
theorem d_cu_liveTariffNow_4 : decode b_cu_liveTariffNow 4 = .ok (.ifCond .eq 7, 3) := by decide +kernel
theorem d_cu_liveTariffNow_7 : decode b_cu_liveTariffNow 7 = .ok (.iconst (-1), 1) := by decide +kernel
theorem d_cu_liveTariffNow_8 : decode b_cu_liveTariffNow 8 = .ok (.goto 7, 3) := by decide +kernel
theorem d_cu_liveTariffNow_11 : decode b_cu_liveTariffNow 11 = .ok (.aload_n 0, 1) := by decide +kernel
theorem d_cu_liveTariffNow_12 : decode b_cu_liveTariffNow 12 = .ok (.getfield 15, 3) := by decide +kernel
theorem d_cu_liveTariffNow_15 : decode b_cu_liveTariffNow 15 = .ok (.ireturn, 1) := by decide +kernel
theorem d_cu_stageFor_0 : decode b_cu_stageFor 0 = .ok (.iload_n 0, 1) := by decide +kernel
theorem d_cu_stageFor_1 : decode b_cu_stageFor 1 = .ok (.bipush 10, 2) := by decide +kernel
theorem d_cu_stageFor_3 : decode b_cu_stageFor 3 = .ok (.if_icmp .gt 5, 3) := by decide +kernel
theorem d_cu_stageFor_6 : decode b_cu_stageFor 6 = .ok (.iconst 1, 1) := by decide +kernel
theorem d_cu_stageFor_7 : decode b_cu_stageFor 7 = .ok (.ireturn, 1) := by decide +kernel
theorem d_cu_stageFor_8 : decode b_cu_stageFor 8 = .ok (.iload_n 0, 1) := by decide +kernel
theorem d_cu_stageFor_9 : decode b_cu_stageFor 9 = .ok (.bipush 20, 2) := by decide +kernel
theorem d_cu_stageFor_11 : decode b_cu_stageFor 11 = .ok (.if_icmp .gt 7, 3) := by decide +kernel
theorem d_cu_stageFor_14 : decode b_cu_stageFor 14 = .ok (.iconst 2, 1) := by decide +kernel
theorem d_cu_stageFor_15 : decode b_cu_stageFor 15 = .ok (.goto 4, 3) := by decide +kernel
theorem d_cu_stageFor_18 : decode b_cu_stageFor 18 = .ok (.iconst 3, 1) := by decide +kernel
theorem d_cu_stageFor_19 : decode b_cu_stageFor 19 = .ok (.ireturn, 1) := by decide +kernel
theorem d_ev_init_0 : decode b_ev_init 0 = .ok (.aload_n 0, 1) := by decide +kernel
theorem d_ev_init_1 : decode b_ev_init 1 = .ok (.invokespecial 1, 3) := by decide +kernel
theorem d_ev_init_4 : decode b_ev_init 4 = .ok (.aload_n 0, 1) := by decide +kernel
theorem d_ev_init_5 : decode b_ev_init 5 = .ok (.bipush 80, 2) := by decide +kernel
theorem d_ev_init_7 : decode b_ev_init 7 = .ok (.newarray .int, 2) := by decide +kernel
theorem d_ev_init_9 : decode b_ev_init 9 = .ok (.putfield 9, 3) := by decide +kernel
theorem d_ev_init_12 : decode b_ev_init 12 = .ok (.aload_n 0, 1) := by decide +kernel
theorem d_ev_init_13 : decode b_ev_init 13 = .ok (.bipush 80, 2) := by decide +kernel
theorem d_ev_init_15 : decode b_ev_init 15 = .ok (.newarray .int, 2) := by decide +kernel
theorem d_ev_init_17 : decode b_ev_init 17 = .ok (.putfield 13, 3) := by decide +kernel
theorem d_ev_init_20 : decode b_ev_init 20 = .ok (.aload_n 0, 1) := by decide +kernel
theorem d_ev_init_21 : decode b_ev_init 21 = .ok (.bipush 80, 2) := by decide +kernel
theorem d_ev_init_23 : decode b_ev_init 23 = .ok (.newarray .int, 2) := by decide +kernel
theorem d_ev_init_25 : decode b_ev_init 25 = .ok (.putfield 16, 3) := by decide +kernel
theorem d_ev_init_28 : decode b_ev_init 28 = .ok (.aload_n 0, 1) := by decide +kernel
theorem d_ev_init_29 : decode b_ev_init 29 = .ok (.bipush 80, 2) := by decide +kernel
theorem d_ev_init_31 : decode b_ev_init 31 = .ok (.newarray .int, 2) := by decide +kernel
theorem d_ev_init_33 : decode b_ev_init 33 = .ok (.putfield 19, 3) := by decide +kernel
theorem d_ev_init_36 : decode b_ev_init 36 = .ok (.aload_n 0, 1) := by decide +kernel
theorem d_ev_init_37 : decode b_ev_init 37 = .ok (.iconst 0, 1) := by decide +kernel
theorem d_ev_init_38 : decode b_ev_init 38 = .ok (.putfield 22, 3) := by decide +kernel
theorem d_ev_init_41 : decode b_ev_init 41 = .ok (.return_, 1) := by decide +kernel
theorem d_ev_size_0 : decode b_ev_size 0 = .ok (.aload_n 0, 1) := by decide +kernel
theorem d_ev_size_1 : decode b_ev_size 1 = .ok (.getfield 22, 3) := by decide +kernel
theorem d_ev_size_4 : decode b_ev_size 4 = .ok (.ireturn, 1) := by decide +kernel
theorem d_ev_isFull_0 : decode b_ev_isFull 0 = .ok (.aload_n 0, 1) := by decide +kernel
theorem d_ev_isFull_1 : decode b_ev_isFull 1 = .ok (.getfield 22, 3) := by decide +kernel
theorem d_ev_isFull_4 : decode b_ev_isFull 4 = .ok (.bipush 80, 2) := by decide +kernel
theorem d_ev_isFull_6 : decode b_ev_isFull 6 = .ok (.if_icmp .lt 7, 3) := by decide +kernel
theorem d_ev_isFull_9 : decode b_ev_isFull 9 = .ok (.iconst 1, 1) := by decide +kernel
theorem d_ev_isFull_10 : decode b_ev_isFull 10 = .ok (.goto 4, 3) := by decide +kernel
theorem d_ev_isFull_13 : decode b_ev_isFull 13 = .ok (.iconst 0, 1) := by decide +kernel
theorem d_ev_isFull_14 : decode b_ev_isFull 14 = .ok (.ireturn, 1) := by decide +kernel
theorem d_ev_has_0 : decode b_ev_has 0 = .ok (.iconst 0, 1) := by decide +kernel
theorem d_ev_has_1 : decode b_ev_has 1 = .ok (.istore_n 2, 1) := by decide +kernel
theorem d_ev_has_2 : decode b_ev_has 2 = .ok (.iload_n 2, 1) := by decide +kernel
theorem d_ev_has_3 : decode b_ev_has 3 = .ok (.aload_n 0, 1) := by decide +kernel
theorem d_ev_has_4 : decode b_ev_has 4 = .ok (.getfield 22, 3) := by decide +kernel
theorem d_ev_has_7 : decode b_ev_has 7 = .ok (.if_icmp .ge 21, 3) := by decide +kernel
theorem d_ev_has_10 : decode b_ev_has 10 = .ok (.aload_n 0, 1) := by decide +kernel
theorem d_ev_has_11 : decode b_ev_has 11 = .ok (.getfield 9, 3) := by decide +kernel
theorem d_ev_has_14 : decode b_ev_has 14 = .ok (.iload_n 2, 1) := by decide +kernel
theorem d_ev_has_15 : decode b_ev_has 15 = .ok (.iaload, 1) := by decide +kernel
theorem d_ev_has_16 : decode b_ev_has 16 = .ok (.iload_n 1, 1) := by decide +kernel
theorem d_ev_has_17 : decode b_ev_has 17 = .ok (.if_icmp .ne 5, 3) := by decide +kernel
theorem d_ev_has_20 : decode b_ev_has 20 = .ok (.iconst 1, 1) := by decide +kernel
theorem d_ev_has_21 : decode b_ev_has 21 = .ok (.ireturn, 1) := by decide +kernel
theorem d_ev_has_22 : decode b_ev_has 22 = .ok (.iinc 2 1, 3) := by decide +kernel
theorem d_ev_has_25 : decode b_ev_has 25 = .ok (.goto (-23), 3) := by decide +kernel
theorem d_ev_has_28 : decode b_ev_has 28 = .ok (.iconst 0, 1) := by decide +kernel
theorem d_ev_has_29 : decode b_ev_has 29 = .ok (.ireturn, 1) := by decide +kernel
theorem d_ev_add_0 : decode b_ev_add 0 = .ok (.aload_n 0, 1) := by decide +kernel
theorem d_ev_add_1 : decode b_ev_add 1 = .ok (.invokevirtual 26, 3) := by decide +kernel
theorem d_ev_add_4 : decode b_ev_add 4 = .ok (.ifCond .ne 54, 3) := by decide +kernel
theorem d_ev_add_7 : decode b_ev_add 7 = .ok (.aload_n 0, 1) := by decide +kernel
theorem d_ev_add_8 : decode b_ev_add 8 = .ok (.getfield 9, 3) := by decide +kernel
theorem d_ev_add_11 : decode b_ev_add 11 = .ok (.aload_n 0, 1) := by decide +kernel
theorem d_ev_add_12 : decode b_ev_add 12 = .ok (.getfield 22, 3) := by decide +kernel
theorem d_ev_add_15 : decode b_ev_add 15 = .ok (.iload_n 1, 1) := by decide +kernel
theorem d_ev_add_16 : decode b_ev_add 16 = .ok (.iastore, 1) := by decide +kernel
theorem d_ev_add_17 : decode b_ev_add 17 = .ok (.aload_n 0, 1) := by decide +kernel
theorem d_ev_add_18 : decode b_ev_add 18 = .ok (.getfield 13, 3) := by decide +kernel
theorem d_ev_add_21 : decode b_ev_add 21 = .ok (.aload_n 0, 1) := by decide +kernel
theorem d_ev_add_22 : decode b_ev_add 22 = .ok (.getfield 22, 3) := by decide +kernel
theorem d_ev_add_25 : decode b_ev_add 25 = .ok (.iload_n 2, 1) := by decide +kernel
theorem d_ev_add_26 : decode b_ev_add 26 = .ok (.iastore, 1) := by decide +kernel
theorem d_ev_add_27 : decode b_ev_add 27 = .ok (.aload_n 0, 1) := by decide +kernel
theorem d_ev_add_28 : decode b_ev_add 28 = .ok (.getfield 16, 3) := by decide +kernel
theorem d_ev_add_31 : decode b_ev_add 31 = .ok (.aload_n 0, 1) := by decide +kernel
theorem d_ev_add_32 : decode b_ev_add 32 = .ok (.getfield 22, 3) := by decide +kernel
theorem d_ev_add_35 : decode b_ev_add 35 = .ok (.iload_n 3, 1) := by decide +kernel
theorem d_ev_add_36 : decode b_ev_add 36 = .ok (.iastore, 1) := by decide +kernel
theorem d_ev_add_37 : decode b_ev_add 37 = .ok (.aload_n 0, 1) := by decide +kernel
theorem d_ev_add_38 : decode b_ev_add 38 = .ok (.getfield 19, 3) := by decide +kernel
theorem d_ev_add_41 : decode b_ev_add 41 = .ok (.aload_n 0, 1) := by decide +kernel
theorem d_ev_add_42 : decode b_ev_add 42 = .ok (.getfield 22, 3) := by decide +kernel
theorem d_ev_add_45 : decode b_ev_add 45 = .ok (.iload 4, 2) := by decide +kernel
theorem d_ev_add_47 : decode b_ev_add 47 = .ok (.iastore, 1) := by decide +kernel
theorem d_ev_add_48 : decode b_ev_add 48 = .ok (.aload_n 0, 1) := by decide +kernel
theorem d_ev_add_49 : decode b_ev_add 49 = .ok (.dup, 1) := by decide +kernel
theorem d_ev_add_50 : decode b_ev_add 50 = .ok (.getfield 22, 3) := by decide +kernel
theorem d_ev_add_53 : decode b_ev_add 53 = .ok (.iconst 1, 1) := by decide +kernel
theorem d_ev_add_54 : decode b_ev_add 54 = .ok (.iadd, 1) := by decide +kernel
theorem d_ev_add_55 : decode b_ev_add 55 = .ok (.putfield 22, 3) := by decide +kernel
theorem d_ev_add_58 : decode b_ev_add 58 = .ok (.return_, 1) := by decide +kernel
theorem d_ev_customerOf_0 : decode b_ev_customerOf 0 = .ok (.aload_n 0, 1) := by decide +kernel
theorem d_ev_customerOf_1 : decode b_ev_customerOf 1 = .ok (.getfield 13, 3) := by decide +kernel
theorem d_ev_customerOf_4 : decode b_ev_customerOf 4 = .ok (.iload_n 1, 1) := by decide +kernel
theorem d_ev_customerOf_5 : decode b_ev_customerOf 5 = .ok (.iaload, 1) := by decide +kernel
theorem d_ev_customerOf_6 : decode b_ev_customerOf 6 = .ok (.ireturn, 1) := by decide +kernel
theorem d_ev_dayOf_0 : decode b_ev_dayOf 0 = .ok (.aload_n 0, 1) := by decide +kernel
theorem d_ev_dayOf_1 : decode b_ev_dayOf 1 = .ok (.getfield 16, 3) := by decide +kernel
theorem d_ev_dayOf_4 : decode b_ev_dayOf 4 = .ok (.iload_n 1, 1) := by decide +kernel
theorem d_ev_dayOf_5 : decode b_ev_dayOf 5 = .ok (.iaload, 1) := by decide +kernel
theorem d_ev_dayOf_6 : decode b_ev_dayOf 6 = .ok (.ireturn, 1) := by decide +kernel
theorem d_ev_unitsOf_0 : decode b_ev_unitsOf 0 = .ok (.aload_n 0, 1) := by decide +kernel
theorem d_ev_unitsOf_1 : decode b_ev_unitsOf 1 = .ok (.getfield 19, 3) := by decide +kernel
theorem d_ev_unitsOf_4 : decode b_ev_unitsOf 4 = .ok (.iload_n 1, 1) := by decide +kernel
theorem d_ev_unitsOf_5 : decode b_ev_unitsOf 5 = .ok (.iaload, 1) := by decide +kernel
theorem d_ev_unitsOf_6 : decode b_ev_unitsOf 6 = .ok (.ireturn, 1) := by decide +kernel
theorem d_ib_init_0 : decode b_ib_init 0 = .ok (.aload_n 0, 1) := by decide +kernel
theorem d_ib_init_1 : decode b_ib_init 1 = .ok (.invokespecial 1, 3) := by decide +kernel
theorem d_ib_init_4 : decode b_ib_init 4 = .ok (.aload_n 0, 1) := by decide +kernel
theorem d_ib_init_5 : decode b_ib_init 5 = .ok (.bipush 50, 2) := by decide +kernel
theorem d_ib_init_7 : decode b_ib_init 7 = .ok (.newarray .int, 2) := by decide +kernel
theorem d_ib_init_9 : decode b_ib_init 9 = .ok (.putfield 9, 3) := by decide +kernel
theorem d_ib_init_12 : decode b_ib_init 12 = .ok (.aload_n 0, 1) := by decide +kernel
theorem d_ib_init_13 : decode b_ib_init 13 = .ok (.bipush 50, 2) := by decide +kernel
theorem d_ib_init_15 : decode b_ib_init 15 = .ok (.newarray .int, 2) := by decide +kernel
theorem d_ib_init_17 : decode b_ib_init 17 = .ok (.putfield 13, 3) := by decide +kernel
theorem d_ib_init_20 : decode b_ib_init 20 = .ok (.aload_n 0, 1) := by decide +kernel
theorem d_ib_init_21 : decode b_ib_init 21 = .ok (.bipush 50, 2) := by decide +kernel
theorem d_ib_init_23 : decode b_ib_init 23 = .ok (.newarray .long, 2) := by decide +kernel
theorem d_ib_init_25 : decode b_ib_init 25 = .ok (.putfield 16, 3) := by decide +kernel
theorem d_ib_init_28 : decode b_ib_init 28 = .ok (.aload_n 0, 1) := by decide +kernel
theorem d_ib_init_29 : decode b_ib_init 29 = .ok (.bipush 50, 2) := by decide +kernel
theorem d_ib_init_31 : decode b_ib_init 31 = .ok (.newarray .int, 2) := by decide +kernel
theorem d_ib_init_33 : decode b_ib_init 33 = .ok (.putfield 20, 3) := by decide +kernel
theorem d_ib_init_36 : decode b_ib_init 36 = .ok (.aload_n 0, 1) := by decide +kernel
theorem d_ib_init_37 : decode b_ib_init 37 = .ok (.bipush 50, 2) := by decide +kernel
theorem d_ib_init_39 : decode b_ib_init 39 = .ok (.newarray .long, 2) := by decide +kernel
theorem d_ib_init_41 : decode b_ib_init 41 = .ok (.putfield 23, 3) := by decide +kernel
theorem d_ib_init_44 : decode b_ib_init 44 = .ok (.aload_n 0, 1) := by decide +kernel
theorem d_ib_init_45 : decode b_ib_init 45 = .ok (.iconst 0, 1) := by decide +kernel
theorem d_ib_init_46 : decode b_ib_init 46 = .ok (.putfield 26, 3) := by decide +kernel
theorem d_ib_init_49 : decode b_ib_init 49 = .ok (.return_, 1) := by decide +kernel
theorem d_ib_size_0 : decode b_ib_size 0 = .ok (.aload_n 0, 1) := by decide +kernel
theorem d_ib_size_1 : decode b_ib_size 1 = .ok (.getfield 26, 3) := by decide +kernel
theorem d_ib_size_4 : decode b_ib_size 4 = .ok (.ireturn, 1) := by decide +kernel
theorem d_ib_isFull_0 : decode b_ib_isFull 0 = .ok (.aload_n 0, 1) := by decide +kernel
theorem d_ib_isFull_1 : decode b_ib_isFull 1 = .ok (.getfield 26, 3) := by decide +kernel
theorem d_ib_isFull_4 : decode b_ib_isFull 4 = .ok (.bipush 50, 2) := by decide +kernel
theorem d_ib_isFull_6 : decode b_ib_isFull 6 = .ok (.if_icmp .lt 7, 3) := by decide +kernel
theorem d_ib_isFull_9 : decode b_ib_isFull 9 = .ok (.iconst 1, 1) := by decide +kernel
theorem d_ib_isFull_10 : decode b_ib_isFull 10 = .ok (.goto 4, 3) := by decide +kernel
theorem d_ib_isFull_13 : decode b_ib_isFull 13 = .ok (.iconst 0, 1) := by decide +kernel
theorem d_ib_isFull_14 : decode b_ib_isFull 14 = .ok (.ireturn, 1) := by decide +kernel
theorem d_ib_has_0 : decode b_ib_has 0 = .ok (.iload_n 1, 1) := by decide +kernel
theorem d_ib_has_1 : decode b_ib_has 1 = .ok (.ifCond .lt 15, 3) := by decide +kernel
theorem d_ib_has_4 : decode b_ib_has 4 = .ok (.iload_n 1, 1) := by decide +kernel
theorem d_ib_has_5 : decode b_ib_has 5 = .ok (.aload_n 0, 1) := by decide +kernel
theorem d_ib_has_6 : decode b_ib_has 6 = .ok (.getfield 26, 3) := by decide +kernel
theorem d_ib_has_9 : decode b_ib_has 9 = .ok (.if_icmp .ge 7, 3) := by decide +kernel
theorem d_ib_has_12 : decode b_ib_has 12 = .ok (.iconst 1, 1) := by decide +kernel
theorem d_ib_has_13 : decode b_ib_has 13 = .ok (.goto 4, 3) := by decide +kernel
theorem d_ib_has_16 : decode b_ib_has 16 = .ok (.iconst 0, 1) := by decide +kernel
theorem d_ib_has_17 : decode b_ib_has 17 = .ok (.ireturn, 1) := by decide +kernel
theorem d_ib_add_0 : decode b_ib_add 0 = .ok (.aload_n 0, 1) := by decide +kernel
theorem d_ib_add_1 : decode b_ib_add 1 = .ok (.invokevirtual 30, 3) := by decide +kernel
theorem d_ib_add_4 : decode b_ib_add 4 = .ok (.ifCond .ne 68, 3) := by decide +kernel
theorem d_ib_add_7 : decode b_ib_add 7 = .ok (.aload_n 0, 1) := by decide +kernel
theorem d_ib_add_8 : decode b_ib_add 8 = .ok (.getfield 9, 3) := by decide +kernel
theorem d_ib_add_11 : decode b_ib_add 11 = .ok (.aload_n 0, 1) := by decide +kernel
theorem d_ib_add_12 : decode b_ib_add 12 = .ok (.getfield 26, 3) := by decide +kernel
theorem d_ib_add_15 : decode b_ib_add 15 = .ok (.iload_n 1, 1) := by decide +kernel
theorem d_ib_add_16 : decode b_ib_add 16 = .ok (.iastore, 1) := by decide +kernel
theorem d_ib_add_17 : decode b_ib_add 17 = .ok (.aload_n 0, 1) := by decide +kernel
theorem d_ib_add_18 : decode b_ib_add 18 = .ok (.getfield 13, 3) := by decide +kernel
theorem d_ib_add_21 : decode b_ib_add 21 = .ok (.aload_n 0, 1) := by decide +kernel
theorem d_ib_add_22 : decode b_ib_add 22 = .ok (.getfield 26, 3) := by decide +kernel
theorem d_ib_add_25 : decode b_ib_add 25 = .ok (.iload_n 2, 1) := by decide +kernel
theorem d_ib_add_26 : decode b_ib_add 26 = .ok (.iastore, 1) := by decide +kernel
theorem d_ib_add_27 : decode b_ib_add 27 = .ok (.aload_n 0, 1) := by decide +kernel
theorem d_ib_add_28 : decode b_ib_add 28 = .ok (.getfield 16, 3) := by decide +kernel
theorem d_ib_add_31 : decode b_ib_add 31 = .ok (.aload_n 0, 1) := by decide +kernel
theorem d_ib_add_32 : decode b_ib_add 32 = .ok (.getfield 26, 3) := by decide +kernel
theorem d_ib_add_35 : decode b_ib_add 35 = .ok (.lload_n 3, 1) := by decide +kernel
theorem d_ib_add_36 : decode b_ib_add 36 = .ok (.lastore, 1) := by decide +kernel
theorem d_ib_add_37 : decode b_ib_add 37 = .ok (.aload_n 0, 1) := by decide +kernel
theorem d_ib_add_38 : decode b_ib_add 38 = .ok (.getfield 20, 3) := by decide +kernel
theorem d_ib_add_41 : decode b_ib_add 41 = .ok (.aload_n 0, 1) := by decide +kernel
theorem d_ib_add_42 : decode b_ib_add 42 = .ok (.getfield 26, 3) := by decide +kernel
theorem d_ib_add_45 : decode b_ib_add 45 = .ok (.iload 5, 2) := by decide +kernel
theorem d_ib_add_47 : decode b_ib_add 47 = .ok (.iastore, 1) := by decide +kernel
theorem d_ib_add_48 : decode b_ib_add 48 = .ok (.aload_n 0, 1) := by decide +kernel
theorem d_ib_add_49 : decode b_ib_add 49 = .ok (.getfield 23, 3) := by decide +kernel
theorem d_ib_add_52 : decode b_ib_add 52 = .ok (.aload_n 0, 1) := by decide +kernel
theorem d_ib_add_53 : decode b_ib_add 53 = .ok (.getfield 26, 3) := by decide +kernel
theorem d_ib_add_56 : decode b_ib_add 56 = .ok (.lload_n 3, 1) := by decide +kernel
theorem d_ib_add_57 : decode b_ib_add 57 = .ok (.lconst 0, 1) := by decide +kernel
theorem d_ib_add_58 : decode b_ib_add 58 = .ok (.invokestatic 34, 3) := by decide +kernel
theorem d_ib_add_61 : decode b_ib_add 61 = .ok (.lastore, 1) := by decide +kernel
theorem d_ib_add_62 : decode b_ib_add 62 = .ok (.aload_n 0, 1) := by decide +kernel
theorem d_ib_add_63 : decode b_ib_add 63 = .ok (.dup, 1) := by decide +kernel
theorem d_ib_add_64 : decode b_ib_add 64 = .ok (.getfield 26, 3) := by decide +kernel
theorem d_ib_add_67 : decode b_ib_add 67 = .ok (.iconst 1, 1) := by decide +kernel
theorem d_ib_add_68 : decode b_ib_add 68 = .ok (.iadd, 1) := by decide +kernel
theorem d_ib_add_69 : decode b_ib_add 69 = .ok (.putfield 26, 3) := by decide +kernel
theorem d_ib_add_72 : decode b_ib_add 72 = .ok (.return_, 1) := by decide +kernel
theorem d_ib_customerOf_0 : decode b_ib_customerOf 0 = .ok (.aload_n 0, 1) := by decide +kernel
theorem d_ib_customerOf_1 : decode b_ib_customerOf 1 = .ok (.getfield 9, 3) := by decide +kernel
theorem d_ib_customerOf_4 : decode b_ib_customerOf 4 = .ok (.iload_n 1, 1) := by decide +kernel
theorem d_ib_customerOf_5 : decode b_ib_customerOf 5 = .ok (.iaload, 1) := by decide +kernel
theorem d_ib_customerOf_6 : decode b_ib_customerOf 6 = .ok (.ireturn, 1) := by decide +kernel
theorem d_ib_periodOf_0 : decode b_ib_periodOf 0 = .ok (.aload_n 0, 1) := by decide +kernel
theorem d_ib_periodOf_1 : decode b_ib_periodOf 1 = .ok (.getfield 13, 3) := by decide +kernel
theorem d_ib_periodOf_4 : decode b_ib_periodOf 4 = .ok (.iload_n 1, 1) := by decide +kernel
theorem d_ib_periodOf_5 : decode b_ib_periodOf 5 = .ok (.iaload, 1) := by decide +kernel
theorem d_ib_periodOf_6 : decode b_ib_periodOf 6 = .ok (.ireturn, 1) := by decide +kernel
theorem d_ib_amountOf_0 : decode b_ib_amountOf 0 = .ok (.aload_n 0, 1) := by decide +kernel
theorem d_ib_amountOf_1 : decode b_ib_amountOf 1 = .ok (.getfield 16, 3) := by decide +kernel
theorem d_ib_amountOf_4 : decode b_ib_amountOf 4 = .ok (.iload_n 1, 1) := by decide +kernel
theorem d_ib_amountOf_5 : decode b_ib_amountOf 5 = .ok (.laload, 1) := by decide +kernel
theorem d_ib_amountOf_6 : decode b_ib_amountOf 6 = .ok (.lreturn, 1) := by decide +kernel
theorem d_ib_dayOf_0 : decode b_ib_dayOf 0 = .ok (.aload_n 0, 1) := by decide +kernel
theorem d_ib_dayOf_1 : decode b_ib_dayOf 1 = .ok (.getfield 20, 3) := by decide +kernel
theorem d_ib_dayOf_4 : decode b_ib_dayOf 4 = .ok (.iload_n 1, 1) := by decide +kernel
theorem d_ib_dayOf_5 : decode b_ib_dayOf 5 = .ok (.iaload, 1) := by decide +kernel
theorem d_ib_dayOf_6 : decode b_ib_dayOf 6 = .ok (.ireturn, 1) := by decide +kernel
theorem d_ib_paidOf_0 : decode b_ib_paidOf 0 = .ok (.aload_n 0, 1) := by decide +kernel
theorem d_ib_paidOf_1 : decode b_ib_paidOf 1 = .ok (.getfield 23, 3) := by decide +kernel
theorem d_ib_paidOf_4 : decode b_ib_paidOf 4 = .ok (.iload_n 1, 1) := by decide +kernel
theorem d_ib_paidOf_5 : decode b_ib_paidOf 5 = .ok (.laload, 1) := by decide +kernel
theorem d_ib_paidOf_6 : decode b_ib_paidOf 6 = .ok (.lreturn, 1) := by decide +kernel
theorem d_ib_overdueDays_0 : decode b_ib_overdueDays 0 = .ok (.aload_n 0, 1) := by decide +kernel
theorem d_ib_overdueDays_1 : decode b_ib_overdueDays 1 = .ok (.getfield 23, 3) := by decide +kernel
theorem d_ib_overdueDays_4 : decode b_ib_overdueDays 4 = .ok (.iload_n 1, 1) := by decide +kernel
theorem d_ib_overdueDays_5 : decode b_ib_overdueDays 5 = .ok (.laload, 1) := by decide +kernel
theorem d_ib_overdueDays_6 : decode b_ib_overdueDays 6 = .ok (.aload_n 0, 1) := by decide +kernel
theorem d_ib_overdueDays_7 : decode b_ib_overdueDays 7 = .ok (.getfield 16, 3) := by decide +kernel
theorem d_ib_overdueDays_10 : decode b_ib_overdueDays 10 = .ok (.iload_n 1, 1) := by decide +kernel
theorem d_ib_overdueDays_11 : decode b_ib_overdueDays 11 = .ok (.laload, 1) := by decide +kernel
theorem d_ib_overdueDays_12 : decode b_ib_overdueDays 12 = .ok (.lcmp, 1) := by decide +kernel
theorem d_ib_overdueDays_13 : decode b_ib_overdueDays 13 = .ok (.ifCond .ne 7, 3) := by decide +kernel
theorem d_ib_overdueDays_16 : decode b_ib_overdueDays 16 = .ok (.iconst 0, 1) := by decide +kernel
theorem d_ib_overdueDays_17 : decode b_ib_overdueDays 17 = .ok (.goto 18, 3) := by decide +kernel
theorem d_ib_overdueDays_20 : decode b_ib_overdueDays 20 = .ok (.iconst 0, 1) := by decide +kernel
theorem d_ib_overdueDays_21 : decode b_ib_overdueDays 21 = .ok (.iload_n 2, 1) := by decide +kernel
theorem d_ib_overdueDays_22 : decode b_ib_overdueDays 22 = .ok (.aload_n 0, 1) := by decide +kernel
theorem d_ib_overdueDays_23 : decode b_ib_overdueDays 23 = .ok (.getfield 20, 3) := by decide +kernel
theorem d_ib_overdueDays_26 : decode b_ib_overdueDays 26 = .ok (.iload_n 1, 1) := by decide +kernel
theorem d_ib_overdueDays_27 : decode b_ib_overdueDays 27 = .ok (.iaload, 1) := by decide +kernel
theorem d_ib_overdueDays_28 : decode b_ib_overdueDays 28 = .ok (.isub, 1) := by decide +kernel
theorem d_ib_overdueDays_29 : decode b_ib_overdueDays 29 = .ok (.bipush 14, 2) := by decide +kernel
theorem d_ib_overdueDays_31 : decode b_ib_overdueDays 31 = .ok (.isub, 1) := by decide +kernel
theorem d_ib_overdueDays_32 : decode b_ib_overdueDays 32 = .ok (.invokestatic 40, 3) := by decide +kernel
theorem d_ib_overdueDays_35 : decode b_ib_overdueDays 35 = .ok (.ireturn, 1) := by decide +kernel
theorem d_ib_mostOverdueDays_0 : decode b_ib_mostOverdueDays 0 = .ok (.iconst 0, 1) := by decide +kernel
theorem d_ib_mostOverdueDays_1 : decode b_ib_mostOverdueDays 1 = .ok (.istore_n 3, 1) := by decide +kernel
theorem d_ib_mostOverdueDays_2 : decode b_ib_mostOverdueDays 2 = .ok (.iconst 0, 1) := by decide +kernel
theorem d_ib_mostOverdueDays_3 : decode b_ib_mostOverdueDays 3 = .ok (.istore 4, 2) := by decide +kernel
theorem d_ib_mostOverdueDays_5 : decode b_ib_mostOverdueDays 5 = .ok (.iload 4, 2) := by decide +kernel
theorem d_ib_mostOverdueDays_7 : decode b_ib_mostOverdueDays 7 = .ok (.aload_n 0, 1) := by decide +kernel
theorem d_ib_mostOverdueDays_8 : decode b_ib_mostOverdueDays 8 = .ok (.getfield 26, 3) := by decide +kernel
theorem d_ib_mostOverdueDays_11 : decode b_ib_mostOverdueDays 11 = .ok (.if_icmp .ge 32, 3) := by decide +kernel
theorem d_ib_mostOverdueDays_14 : decode b_ib_mostOverdueDays 14 = .ok (.aload_n 0, 1) := by decide +kernel
theorem d_ib_mostOverdueDays_15 : decode b_ib_mostOverdueDays 15 = .ok (.getfield 9, 3) := by decide +kernel
theorem d_ib_mostOverdueDays_18 : decode b_ib_mostOverdueDays 18 = .ok (.iload 4, 2) := by decide +kernel
theorem d_ib_mostOverdueDays_20 : decode b_ib_mostOverdueDays 20 = .ok (.iaload, 1) := by decide +kernel
theorem d_ib_mostOverdueDays_21 : decode b_ib_mostOverdueDays 21 = .ok (.iload_n 1, 1) := by decide +kernel
theorem d_ib_mostOverdueDays_22 : decode b_ib_mostOverdueDays 22 = .ok (.if_icmp .ne 15, 3) := by decide +kernel
theorem d_ib_mostOverdueDays_25 : decode b_ib_mostOverdueDays 25 = .ok (.iload_n 3, 1) := by decide +kernel
theorem d_ib_mostOverdueDays_26 : decode b_ib_mostOverdueDays 26 = .ok (.aload_n 0, 1) := by decide +kernel
theorem d_ib_mostOverdueDays_27 : decode b_ib_mostOverdueDays 27 = .ok (.iload 4, 2) := by decide +kernel
theorem d_ib_mostOverdueDays_29 : decode b_ib_mostOverdueDays 29 = .ok (.iload_n 2, 1) := by decide +kernel
theorem d_ib_mostOverdueDays_30 : decode b_ib_mostOverdueDays 30 = .ok (.invokevirtual 44, 3) := by decide +kernel
theorem d_ib_mostOverdueDays_33 : decode b_ib_mostOverdueDays 33 = .ok (.invokestatic 40, 3) := by decide +kernel
theorem d_ib_mostOverdueDays_36 : decode b_ib_mostOverdueDays 36 = .ok (.istore_n 3, 1) := by decide +kernel
theorem d_ib_mostOverdueDays_37 : decode b_ib_mostOverdueDays 37 = .ok (.iinc 4 1, 3) := by decide +kernel
theorem d_ib_mostOverdueDays_40 : decode b_ib_mostOverdueDays 40 = .ok (.goto (-35), 3) := by decide +kernel
theorem d_ib_mostOverdueDays_43 : decode b_ib_mostOverdueDays 43 = .ok (.iload_n 3, 1) := by decide +kernel
theorem d_ib_mostOverdueDays_44 : decode b_ib_mostOverdueDays 44 = .ok (.ireturn, 1) := by decide +kernel
theorem d_ib_amountsOf_0 : decode b_ib_amountsOf 0 = .ok (.lconst 0, 1) := by decide +kernel
theorem d_ib_amountsOf_1 : decode b_ib_amountsOf 1 = .ok (.lstore_n 3, 1) := by decide +kernel
theorem d_ib_amountsOf_2 : decode b_ib_amountsOf 2 = .ok (.iconst 0, 1) := by decide +kernel
theorem d_ib_amountsOf_3 : decode b_ib_amountsOf 3 = .ok (.istore 5, 2) := by decide +kernel
theorem d_ib_amountsOf_5 : decode b_ib_amountsOf 5 = .ok (.iload 5, 2) := by decide +kernel
theorem d_ib_amountsOf_7 : decode b_ib_amountsOf 7 = .ok (.aload_n 0, 1) := by decide +kernel
theorem d_ib_amountsOf_8 : decode b_ib_amountsOf 8 = .ok (.getfield 26, 3) := by decide +kernel
theorem d_ib_amountsOf_11 : decode b_ib_amountsOf 11 = .ok (.if_icmp .ge 41, 3) := by decide +kernel
theorem d_ib_amountsOf_14 : decode b_ib_amountsOf 14 = .ok (.aload_n 0, 1) := by decide +kernel
theorem d_ib_amountsOf_15 : decode b_ib_amountsOf 15 = .ok (.getfield 9, 3) := by decide +kernel
theorem d_ib_amountsOf_18 : decode b_ib_amountsOf 18 = .ok (.iload 5, 2) := by decide +kernel
theorem d_ib_amountsOf_20 : decode b_ib_amountsOf 20 = .ok (.iaload, 1) := by decide +kernel
theorem d_ib_amountsOf_21 : decode b_ib_amountsOf 21 = .ok (.iload_n 1, 1) := by decide +kernel
theorem d_ib_amountsOf_22 : decode b_ib_amountsOf 22 = .ok (.if_icmp .ne 24, 3) := by decide +kernel
theorem d_ib_amountsOf_25 : decode b_ib_amountsOf 25 = .ok (.aload_n 0, 1) := by decide +kernel
theorem d_ib_amountsOf_26 : decode b_ib_amountsOf 26 = .ok (.getfield 13, 3) := by decide +kernel
theorem d_ib_amountsOf_29 : decode b_ib_amountsOf 29 = .ok (.iload 5, 2) := by decide +kernel
theorem d_ib_amountsOf_31 : decode b_ib_amountsOf 31 = .ok (.iaload, 1) := by decide +kernel
theorem d_ib_amountsOf_32 : decode b_ib_amountsOf 32 = .ok (.iload_n 2, 1) := by decide +kernel
theorem d_ib_amountsOf_33 : decode b_ib_amountsOf 33 = .ok (.if_icmp .ne 13, 3) := by decide +kernel
theorem d_ib_amountsOf_36 : decode b_ib_amountsOf 36 = .ok (.lload_n 3, 1) := by decide +kernel
theorem d_ib_amountsOf_37 : decode b_ib_amountsOf 37 = .ok (.aload_n 0, 1) := by decide +kernel
theorem d_ib_amountsOf_38 : decode b_ib_amountsOf 38 = .ok (.getfield 16, 3) := by decide +kernel
theorem d_ib_amountsOf_41 : decode b_ib_amountsOf 41 = .ok (.iload 5, 2) := by decide +kernel
theorem d_ib_amountsOf_43 : decode b_ib_amountsOf 43 = .ok (.laload, 1) := by decide +kernel
theorem d_ib_amountsOf_44 : decode b_ib_amountsOf 44 = .ok (.ladd, 1) := by decide +kernel
theorem d_ib_amountsOf_45 : decode b_ib_amountsOf 45 = .ok (.lstore_n 3, 1) := by decide +kernel
theorem d_ib_amountsOf_46 : decode b_ib_amountsOf 46 = .ok (.iinc 5 1, 3) := by decide +kernel
theorem d_ib_amountsOf_49 : decode b_ib_amountsOf 49 = .ok (.goto (-44), 3) := by decide +kernel
theorem d_ib_amountsOf_52 : decode b_ib_amountsOf 52 = .ok (.lload_n 3, 1) := by decide +kernel
theorem d_ib_amountsOf_53 : decode b_ib_amountsOf 53 = .ok (.lreturn, 1) := by decide +kernel
theorem d_ib_allAmounts_0 : decode b_ib_allAmounts 0 = .ok (.lconst 0, 1) := by decide +kernel
theorem d_ib_allAmounts_1 : decode b_ib_allAmounts 1 = .ok (.lstore_n 1, 1) := by decide +kernel
theorem d_ib_allAmounts_2 : decode b_ib_allAmounts 2 = .ok (.iconst 0, 1) := by decide +kernel
theorem d_ib_allAmounts_3 : decode b_ib_allAmounts 3 = .ok (.istore_n 3, 1) := by decide +kernel
theorem d_ib_allAmounts_4 : decode b_ib_allAmounts 4 = .ok (.iload_n 3, 1) := by decide +kernel
theorem d_ib_allAmounts_5 : decode b_ib_allAmounts 5 = .ok (.aload_n 0, 1) := by decide +kernel
theorem d_ib_allAmounts_6 : decode b_ib_allAmounts 6 = .ok (.getfield 26, 3) := by decide +kernel
theorem d_ib_allAmounts_9 : decode b_ib_allAmounts 9 = .ok (.if_icmp .ge 18, 3) := by decide +kernel
theorem d_ib_allAmounts_12 : decode b_ib_allAmounts 12 = .ok (.lload_n 1, 1) := by decide +kernel
theorem d_ib_allAmounts_13 : decode b_ib_allAmounts 13 = .ok (.aload_n 0, 1) := by decide +kernel
theorem d_ib_allAmounts_14 : decode b_ib_allAmounts 14 = .ok (.getfield 16, 3) := by decide +kernel
theorem d_ib_allAmounts_17 : decode b_ib_allAmounts 17 = .ok (.iload_n 3, 1) := by decide +kernel
theorem d_ib_allAmounts_18 : decode b_ib_allAmounts 18 = .ok (.laload, 1) := by decide +kernel
theorem d_ib_allAmounts_19 : decode b_ib_allAmounts 19 = .ok (.ladd, 1) := by decide +kernel
theorem d_ib_allAmounts_20 : decode b_ib_allAmounts 20 = .ok (.lstore_n 1, 1) := by decide +kernel
theorem d_ib_allAmounts_21 : decode b_ib_allAmounts 21 = .ok (.iinc 3 1, 3) := by decide +kernel
theorem d_ib_allAmounts_24 : decode b_ib_allAmounts 24 = .ok (.goto (-20), 3) := by decide +kernel
theorem d_ib_allAmounts_27 : decode b_ib_allAmounts 27 = .ok (.lload_n 1, 1) := by decide +kernel
theorem d_ib_allAmounts_28 : decode b_ib_allAmounts 28 = .ok (.lreturn, 1) := by decide +kernel
theorem d_ib_openOf_0 : decode b_ib_openOf 0 = .ok (.lconst 0, 1) := by decide +kernel
theorem d_ib_openOf_1 : decode b_ib_openOf 1 = .ok (.lstore_n 2, 1) := by decide +kernel
theorem d_ib_openOf_2 : decode b_ib_openOf 2 = .ok (.iconst 0, 1) := by decide +kernel
theorem d_ib_openOf_3 : decode b_ib_openOf 3 = .ok (.istore 4, 2) := by decide +kernel
theorem d_ib_openOf_5 : decode b_ib_openOf 5 = .ok (.iload 4, 2) := by decide +kernel
theorem d_ib_openOf_7 : decode b_ib_openOf 7 = .ok (.aload_n 0, 1) := by decide +kernel
theorem d_ib_openOf_8 : decode b_ib_openOf 8 = .ok (.getfield 26, 3) := by decide +kernel
theorem d_ib_openOf_11 : decode b_ib_openOf 11 = .ok (.if_icmp .ge 38, 3) := by decide +kernel
theorem d_ib_openOf_14 : decode b_ib_openOf 14 = .ok (.aload_n 0, 1) := by decide +kernel
theorem d_ib_openOf_15 : decode b_ib_openOf 15 = .ok (.getfield 9, 3) := by decide +kernel
theorem d_ib_openOf_18 : decode b_ib_openOf 18 = .ok (.iload 4, 2) := by decide +kernel
theorem d_ib_openOf_20 : decode b_ib_openOf 20 = .ok (.iaload, 1) := by decide +kernel
theorem d_ib_openOf_21 : decode b_ib_openOf 21 = .ok (.iload_n 1, 1) := by decide +kernel
theorem d_ib_openOf_22 : decode b_ib_openOf 22 = .ok (.if_icmp .ne 21, 3) := by decide +kernel
theorem d_ib_openOf_25 : decode b_ib_openOf 25 = .ok (.lload_n 2, 1) := by decide +kernel
theorem d_ib_openOf_26 : decode b_ib_openOf 26 = .ok (.aload_n 0, 1) := by decide +kernel
theorem d_ib_openOf_27 : decode b_ib_openOf 27 = .ok (.getfield 16, 3) := by decide +kernel
theorem d_ib_openOf_30 : decode b_ib_openOf 30 = .ok (.iload 4, 2) := by decide +kernel
theorem d_ib_openOf_32 : decode b_ib_openOf 32 = .ok (.laload, 1) := by decide +kernel
theorem d_ib_openOf_33 : decode b_ib_openOf 33 = .ok (.aload_n 0, 1) := by decide +kernel
theorem d_ib_openOf_34 : decode b_ib_openOf 34 = .ok (.getfield 23, 3) := by decide +kernel
theorem d_ib_openOf_37 : decode b_ib_openOf 37 = .ok (.iload 4, 2) := by decide +kernel
theorem d_ib_openOf_39 : decode b_ib_openOf 39 = .ok (.laload, 1) := by decide +kernel
theorem d_ib_openOf_40 : decode b_ib_openOf 40 = .ok (.lsub, 1) := by decide +kernel
theorem d_ib_openOf_41 : decode b_ib_openOf 41 = .ok (.ladd, 1) := by decide +kernel
theorem d_ib_openOf_42 : decode b_ib_openOf 42 = .ok (.lstore_n 2, 1) := by decide +kernel
theorem d_ib_openOf_43 : decode b_ib_openOf 43 = .ok (.iinc 4 1, 3) := by decide +kernel
theorem d_ib_openOf_46 : decode b_ib_openOf 46 = .ok (.goto (-41), 3) := by decide +kernel
theorem d_ib_openOf_49 : decode b_ib_openOf 49 = .ok (.lload_n 2, 1) := by decide +kernel
theorem d_ib_openOf_50 : decode b_ib_openOf 50 = .ok (.lreturn, 1) := by decide +kernel
theorem d_ib_payOpen_0 : decode b_ib_payOpen 0 = .ok (.lload_n 2, 1) := by decide +kernel
theorem d_ib_payOpen_1 : decode b_ib_payOpen 1 = .ok (.lstore 4, 2) := by decide +kernel
theorem d_ib_payOpen_3 : decode b_ib_payOpen 3 = .ok (.iconst 0, 1) := by decide +kernel
theorem d_ib_payOpen_4 : decode b_ib_payOpen 4 = .ok (.istore 6, 2) := by decide +kernel
theorem d_ib_payOpen_6 : decode b_ib_payOpen 6 = .ok (.iload 6, 2) := by decide +kernel
theorem d_ib_payOpen_8 : decode b_ib_payOpen 8 = .ok (.aload_n 0, 1) := by decide +kernel
theorem d_ib_payOpen_9 : decode b_ib_payOpen 9 = .ok (.getfield 26, 3) := by decide +kernel
theorem d_ib_payOpen_12 : decode b_ib_payOpen 12 = .ok (.if_icmp .ge 68, 3) := by decide +kernel
theorem d_ib_payOpen_15 : decode b_ib_payOpen 15 = .ok (.lload 4, 2) := by decide +kernel
theorem d_ib_payOpen_17 : decode b_ib_payOpen 17 = .ok (.lconst 0, 1) := by decide +kernel
theorem d_ib_payOpen_18 : decode b_ib_payOpen 18 = .ok (.lcmp, 1) := by decide +kernel
theorem d_ib_payOpen_19 : decode b_ib_payOpen 19 = .ok (.ifCond .le 61, 3) := by decide +kernel
theorem d_ib_payOpen_22 : decode b_ib_payOpen 22 = .ok (.aload_n 0, 1) := by decide +kernel
theorem d_ib_payOpen_23 : decode b_ib_payOpen 23 = .ok (.getfield 9, 3) := by decide +kernel
theorem d_ib_payOpen_26 : decode b_ib_payOpen 26 = .ok (.iload 6, 2) := by decide +kernel
theorem d_ib_payOpen_28 : decode b_ib_payOpen 28 = .ok (.iaload, 1) := by decide +kernel
theorem d_ib_payOpen_29 : decode b_ib_payOpen 29 = .ok (.iload_n 1, 1) := by decide +kernel
theorem d_ib_payOpen_30 : decode b_ib_payOpen 30 = .ok (.if_icmp .ne 44, 3) := by decide +kernel
theorem d_ib_payOpen_33 : decode b_ib_payOpen 33 = .ok (.lload 4, 2) := by decide +kernel
theorem d_ib_payOpen_35 : decode b_ib_payOpen 35 = .ok (.aload_n 0, 1) := by decide +kernel
theorem d_ib_payOpen_36 : decode b_ib_payOpen 36 = .ok (.getfield 16, 3) := by decide +kernel
theorem d_ib_payOpen_39 : decode b_ib_payOpen 39 = .ok (.iload 6, 2) := by decide +kernel
theorem d_ib_payOpen_41 : decode b_ib_payOpen 41 = .ok (.laload, 1) := by decide +kernel
theorem d_ib_payOpen_42 : decode b_ib_payOpen 42 = .ok (.aload_n 0, 1) := by decide +kernel
theorem d_ib_payOpen_43 : decode b_ib_payOpen 43 = .ok (.getfield 23, 3) := by decide +kernel
theorem d_ib_payOpen_46 : decode b_ib_payOpen 46 = .ok (.iload 6, 2) := by decide +kernel
theorem d_ib_payOpen_48 : decode b_ib_payOpen 48 = .ok (.laload, 1) := by decide +kernel
theorem d_ib_payOpen_49 : decode b_ib_payOpen 49 = .ok (.lsub, 1) := by decide +kernel
theorem d_ib_payOpen_50 : decode b_ib_payOpen 50 = .ok (.invokestatic 34, 3) := by decide +kernel
theorem d_ib_payOpen_53 : decode b_ib_payOpen 53 = .ok (.lstore 7, 2) := by decide +kernel
theorem d_ib_payOpen_55 : decode b_ib_payOpen 55 = .ok (.aload_n 0, 1) := by decide +kernel
theorem d_ib_payOpen_56 : decode b_ib_payOpen 56 = .ok (.getfield 23, 3) := by decide +kernel
theorem d_ib_payOpen_59 : decode b_ib_payOpen 59 = .ok (.iload 6, 2) := by decide +kernel
theorem d_ib_payOpen_61 : decode b_ib_payOpen 61 = .ok (.dup2, 1) := by decide +kernel
theorem d_ib_payOpen_62 : decode b_ib_payOpen 62 = .ok (.laload, 1) := by decide +kernel
theorem d_ib_payOpen_63 : decode b_ib_payOpen 63 = .ok (.lload 7, 2) := by decide +kernel
theorem d_ib_payOpen_65 : decode b_ib_payOpen 65 = .ok (.ladd, 1) := by decide +kernel
theorem d_ib_payOpen_66 : decode b_ib_payOpen 66 = .ok (.lastore, 1) := by decide +kernel
theorem d_ib_payOpen_67 : decode b_ib_payOpen 67 = .ok (.lload 4, 2) := by decide +kernel
theorem d_ib_payOpen_69 : decode b_ib_payOpen 69 = .ok (.lload 7, 2) := by decide +kernel
theorem d_ib_payOpen_71 : decode b_ib_payOpen 71 = .ok (.lsub, 1) := by decide +kernel
theorem d_ib_payOpen_72 : decode b_ib_payOpen 72 = .ok (.lstore 4, 2) := by decide +kernel
theorem d_ib_payOpen_74 : decode b_ib_payOpen 74 = .ok (.iinc 6 1, 3) := by decide +kernel
theorem d_ib_payOpen_77 : decode b_ib_payOpen 77 = .ok (.goto (-71), 3) := by decide +kernel
theorem d_ib_payOpen_80 : decode b_ib_payOpen 80 = .ok (.lload_n 2, 1) := by decide +kernel
theorem d_ib_payOpen_81 : decode b_ib_payOpen 81 = .ok (.lload 4, 2) := by decide +kernel
theorem d_ib_payOpen_83 : decode b_ib_payOpen 83 = .ok (.lsub, 1) := by decide +kernel
theorem d_ib_payOpen_84 : decode b_ib_payOpen 84 = .ok (.lreturn, 1) := by decide +kernel
theorem d_pb_init_0 : decode b_pb_init 0 = .ok (.aload_n 0, 1) := by decide +kernel
theorem d_pb_init_1 : decode b_pb_init 1 = .ok (.invokespecial 1, 3) := by decide +kernel
theorem d_pb_init_4 : decode b_pb_init 4 = .ok (.aload_n 0, 1) := by decide +kernel
theorem d_pb_init_5 : decode b_pb_init 5 = .ok (.bipush 10, 2) := by decide +kernel
theorem d_pb_init_7 : decode b_pb_init 7 = .ok (.newarray .int, 2) := by decide +kernel
theorem d_pb_init_9 : decode b_pb_init 9 = .ok (.putfield 9, 3) := by decide +kernel
theorem d_pb_init_12 : decode b_pb_init 12 = .ok (.aload_n 0, 1) := by decide +kernel
theorem d_pb_init_13 : decode b_pb_init 13 = .ok (.bipush 10, 2) := by decide +kernel
theorem d_pb_init_15 : decode b_pb_init 15 = .ok (.newarray .long, 2) := by decide +kernel
theorem d_pb_init_17 : decode b_pb_init 17 = .ok (.putfield 13, 3) := by decide +kernel
theorem d_pb_init_20 : decode b_pb_init 20 = .ok (.aload_n 0, 1) := by decide +kernel
theorem d_pb_init_21 : decode b_pb_init 21 = .ok (.bipush 10, 2) := by decide +kernel
theorem d_pb_init_23 : decode b_pb_init 23 = .ok (.newarray .int, 2) := by decide +kernel
theorem d_pb_init_25 : decode b_pb_init 25 = .ok (.putfield 17, 3) := by decide +kernel
theorem d_pb_init_28 : decode b_pb_init 28 = .ok (.aload_n 0, 1) := by decide +kernel
theorem d_pb_init_29 : decode b_pb_init 29 = .ok (.bipush 10, 2) := by decide +kernel
theorem d_pb_init_31 : decode b_pb_init 31 = .ok (.newarray .int, 2) := by decide +kernel
theorem d_pb_init_33 : decode b_pb_init 33 = .ok (.putfield 20, 3) := by decide +kernel
theorem d_pb_init_36 : decode b_pb_init 36 = .ok (.aload_n 0, 1) := by decide +kernel
theorem d_pb_init_37 : decode b_pb_init 37 = .ok (.iconst 0, 1) := by decide +kernel
theorem d_pb_init_38 : decode b_pb_init 38 = .ok (.putfield 23, 3) := by decide +kernel
theorem d_pb_init_41 : decode b_pb_init 41 = .ok (.return_, 1) := by decide +kernel
theorem d_pb_size_0 : decode b_pb_size 0 = .ok (.aload_n 0, 1) := by decide +kernel
theorem d_pb_size_1 : decode b_pb_size 1 = .ok (.getfield 23, 3) := by decide +kernel
theorem d_pb_size_4 : decode b_pb_size 4 = .ok (.ireturn, 1) := by decide +kernel
theorem d_pb_isFull_0 : decode b_pb_isFull 0 = .ok (.aload_n 0, 1) := by decide +kernel
theorem d_pb_isFull_1 : decode b_pb_isFull 1 = .ok (.getfield 23, 3) := by decide +kernel
theorem d_pb_isFull_4 : decode b_pb_isFull 4 = .ok (.bipush 10, 2) := by decide +kernel
theorem d_pb_isFull_6 : decode b_pb_isFull 6 = .ok (.if_icmp .lt 7, 3) := by decide +kernel
theorem d_pb_isFull_9 : decode b_pb_isFull 9 = .ok (.iconst 1, 1) := by decide +kernel
theorem d_pb_isFull_10 : decode b_pb_isFull 10 = .ok (.goto 4, 3) := by decide +kernel
theorem d_pb_isFull_13 : decode b_pb_isFull 13 = .ok (.iconst 0, 1) := by decide +kernel
theorem d_pb_isFull_14 : decode b_pb_isFull 14 = .ok (.ireturn, 1) := by decide +kernel
theorem d_pb_add_0 : decode b_pb_add 0 = .ok (.aload_n 0, 1) := by decide +kernel
theorem d_pb_add_1 : decode b_pb_add 1 = .ok (.invokevirtual 27, 3) := by decide +kernel
theorem d_pb_add_4 : decode b_pb_add 4 = .ok (.ifCond .ne 55, 3) := by decide +kernel
theorem d_pb_add_7 : decode b_pb_add 7 = .ok (.aload_n 0, 1) := by decide +kernel
theorem d_pb_add_8 : decode b_pb_add 8 = .ok (.getfield 9, 3) := by decide +kernel
theorem d_pb_add_11 : decode b_pb_add 11 = .ok (.aload_n 0, 1) := by decide +kernel
theorem d_pb_add_12 : decode b_pb_add 12 = .ok (.getfield 23, 3) := by decide +kernel
theorem d_pb_add_15 : decode b_pb_add 15 = .ok (.iload_n 1, 1) := by decide +kernel
theorem d_pb_add_16 : decode b_pb_add 16 = .ok (.iastore, 1) := by decide +kernel
theorem d_pb_add_17 : decode b_pb_add 17 = .ok (.aload_n 0, 1) := by decide +kernel
theorem d_pb_add_18 : decode b_pb_add 18 = .ok (.getfield 13, 3) := by decide +kernel
theorem d_pb_add_21 : decode b_pb_add 21 = .ok (.aload_n 0, 1) := by decide +kernel
theorem d_pb_add_22 : decode b_pb_add 22 = .ok (.getfield 23, 3) := by decide +kernel
theorem d_pb_add_25 : decode b_pb_add 25 = .ok (.lload_n 2, 1) := by decide +kernel
theorem d_pb_add_26 : decode b_pb_add 26 = .ok (.lastore, 1) := by decide +kernel
theorem d_pb_add_27 : decode b_pb_add 27 = .ok (.aload_n 0, 1) := by decide +kernel
theorem d_pb_add_28 : decode b_pb_add 28 = .ok (.getfield 17, 3) := by decide +kernel
theorem d_pb_add_31 : decode b_pb_add 31 = .ok (.aload_n 0, 1) := by decide +kernel
theorem d_pb_add_32 : decode b_pb_add 32 = .ok (.getfield 23, 3) := by decide +kernel
theorem d_pb_add_35 : decode b_pb_add 35 = .ok (.iload 4, 2) := by decide +kernel
theorem d_pb_add_37 : decode b_pb_add 37 = .ok (.iastore, 1) := by decide +kernel
theorem d_pb_add_38 : decode b_pb_add 38 = .ok (.aload_n 0, 1) := by decide +kernel
theorem d_pb_add_39 : decode b_pb_add 39 = .ok (.getfield 20, 3) := by decide +kernel
theorem d_pb_add_42 : decode b_pb_add 42 = .ok (.aload_n 0, 1) := by decide +kernel
theorem d_pb_add_43 : decode b_pb_add 43 = .ok (.getfield 23, 3) := by decide +kernel
theorem d_pb_add_46 : decode b_pb_add 46 = .ok (.iload 5, 2) := by decide +kernel
theorem d_pb_add_48 : decode b_pb_add 48 = .ok (.iastore, 1) := by decide +kernel
theorem d_pb_add_49 : decode b_pb_add 49 = .ok (.aload_n 0, 1) := by decide +kernel
theorem d_pb_add_50 : decode b_pb_add 50 = .ok (.dup, 1) := by decide +kernel
theorem d_pb_add_51 : decode b_pb_add 51 = .ok (.getfield 23, 3) := by decide +kernel
theorem d_pb_add_54 : decode b_pb_add 54 = .ok (.iconst 1, 1) := by decide +kernel
theorem d_pb_add_55 : decode b_pb_add 55 = .ok (.iadd, 1) := by decide +kernel
theorem d_pb_add_56 : decode b_pb_add 56 = .ok (.putfield 23, 3) := by decide +kernel
theorem d_pb_add_59 : decode b_pb_add 59 = .ok (.return_, 1) := by decide +kernel
theorem d_pb_amountsOf_0 : decode b_pb_amountsOf 0 = .ok (.lconst 0, 1) := by decide +kernel
theorem d_pb_amountsOf_1 : decode b_pb_amountsOf 1 = .ok (.lstore_n 2, 1) := by decide +kernel
theorem d_pb_amountsOf_2 : decode b_pb_amountsOf 2 = .ok (.iconst 0, 1) := by decide +kernel
theorem d_pb_amountsOf_3 : decode b_pb_amountsOf 3 = .ok (.istore 4, 2) := by decide +kernel
theorem d_pb_amountsOf_5 : decode b_pb_amountsOf 5 = .ok (.iload 4, 2) := by decide +kernel
theorem d_pb_amountsOf_7 : decode b_pb_amountsOf 7 = .ok (.aload_n 0, 1) := by decide +kernel
theorem d_pb_amountsOf_8 : decode b_pb_amountsOf 8 = .ok (.getfield 23, 3) := by decide +kernel
theorem d_pb_amountsOf_11 : decode b_pb_amountsOf 11 = .ok (.if_icmp .ge 30, 3) := by decide +kernel
theorem d_pb_amountsOf_14 : decode b_pb_amountsOf 14 = .ok (.aload_n 0, 1) := by decide +kernel
theorem d_pb_amountsOf_15 : decode b_pb_amountsOf 15 = .ok (.getfield 9, 3) := by decide +kernel
theorem d_pb_amountsOf_18 : decode b_pb_amountsOf 18 = .ok (.iload 4, 2) := by decide +kernel
theorem d_pb_amountsOf_20 : decode b_pb_amountsOf 20 = .ok (.iaload, 1) := by decide +kernel
theorem d_pb_amountsOf_21 : decode b_pb_amountsOf 21 = .ok (.iload_n 1, 1) := by decide +kernel
theorem d_pb_amountsOf_22 : decode b_pb_amountsOf 22 = .ok (.if_icmp .ne 13, 3) := by decide +kernel
theorem d_pb_amountsOf_25 : decode b_pb_amountsOf 25 = .ok (.lload_n 2, 1) := by decide +kernel
theorem d_pb_amountsOf_26 : decode b_pb_amountsOf 26 = .ok (.aload_n 0, 1) := by decide +kernel
theorem d_pb_amountsOf_27 : decode b_pb_amountsOf 27 = .ok (.getfield 13, 3) := by decide +kernel
theorem d_pb_amountsOf_30 : decode b_pb_amountsOf 30 = .ok (.iload 4, 2) := by decide +kernel
theorem d_pb_amountsOf_32 : decode b_pb_amountsOf 32 = .ok (.laload, 1) := by decide +kernel
theorem d_pb_amountsOf_33 : decode b_pb_amountsOf 33 = .ok (.ladd, 1) := by decide +kernel
theorem d_pb_amountsOf_34 : decode b_pb_amountsOf 34 = .ok (.lstore_n 2, 1) := by decide +kernel
theorem d_pb_amountsOf_35 : decode b_pb_amountsOf 35 = .ok (.iinc 4 1, 3) := by decide +kernel
theorem d_pb_amountsOf_38 : decode b_pb_amountsOf 38 = .ok (.goto (-33), 3) := by decide +kernel
theorem d_pb_amountsOf_41 : decode b_pb_amountsOf 41 = .ok (.lload_n 2, 1) := by decide +kernel
theorem d_pb_amountsOf_42 : decode b_pb_amountsOf 42 = .ok (.lreturn, 1) := by decide +kernel
theorem d_pb_allAmounts_0 : decode b_pb_allAmounts 0 = .ok (.lconst 0, 1) := by decide +kernel
theorem d_pb_allAmounts_1 : decode b_pb_allAmounts 1 = .ok (.lstore_n 1, 1) := by decide +kernel
theorem d_pb_allAmounts_2 : decode b_pb_allAmounts 2 = .ok (.iconst 0, 1) := by decide +kernel
theorem d_pb_allAmounts_3 : decode b_pb_allAmounts 3 = .ok (.istore_n 3, 1) := by decide +kernel
theorem d_pb_allAmounts_4 : decode b_pb_allAmounts 4 = .ok (.iload_n 3, 1) := by decide +kernel
theorem d_pb_allAmounts_5 : decode b_pb_allAmounts 5 = .ok (.aload_n 0, 1) := by decide +kernel
theorem d_pb_allAmounts_6 : decode b_pb_allAmounts 6 = .ok (.getfield 23, 3) := by decide +kernel
theorem d_pb_allAmounts_9 : decode b_pb_allAmounts 9 = .ok (.if_icmp .ge 18, 3) := by decide +kernel
theorem d_pb_allAmounts_12 : decode b_pb_allAmounts 12 = .ok (.lload_n 1, 1) := by decide +kernel
theorem d_pb_allAmounts_13 : decode b_pb_allAmounts 13 = .ok (.aload_n 0, 1) := by decide +kernel
theorem d_pb_allAmounts_14 : decode b_pb_allAmounts 14 = .ok (.getfield 13, 3) := by decide +kernel
theorem d_pb_allAmounts_17 : decode b_pb_allAmounts 17 = .ok (.iload_n 3, 1) := by decide +kernel
theorem d_pb_allAmounts_18 : decode b_pb_allAmounts 18 = .ok (.laload, 1) := by decide +kernel
theorem d_pb_allAmounts_19 : decode b_pb_allAmounts 19 = .ok (.ladd, 1) := by decide +kernel
theorem d_pb_allAmounts_20 : decode b_pb_allAmounts 20 = .ok (.lstore_n 1, 1) := by decide +kernel
theorem d_pb_allAmounts_21 : decode b_pb_allAmounts 21 = .ok (.iinc 3 1, 3) := by decide +kernel
theorem d_pb_allAmounts_24 : decode b_pb_allAmounts 24 = .ok (.goto (-20), 3) := by decide +kernel
theorem d_pb_allAmounts_27 : decode b_pb_allAmounts 27 = .ok (.lload_n 1, 1) := by decide +kernel
theorem d_pb_allAmounts_28 : decode b_pb_allAmounts 28 = .ok (.lreturn, 1) := by decide +kernel
theorem d_pb_earnedOf_0 : decode b_pb_earnedOf 0 = .ok (.lconst 0, 1) := by decide +kernel
theorem d_pb_earnedOf_1 : decode b_pb_earnedOf 1 = .ok (.lstore_n 3, 1) := by decide +kernel
theorem d_pb_earnedOf_2 : decode b_pb_earnedOf 2 = .ok (.iconst 0, 1) := by decide +kernel
theorem d_pb_earnedOf_3 : decode b_pb_earnedOf 3 = .ok (.istore 5, 2) := by decide +kernel
theorem d_pb_earnedOf_5 : decode b_pb_earnedOf 5 = .ok (.iload 5, 2) := by decide +kernel
theorem d_pb_earnedOf_7 : decode b_pb_earnedOf 7 = .ok (.aload_n 0, 1) := by decide +kernel
theorem d_pb_earnedOf_8 : decode b_pb_earnedOf 8 = .ok (.getfield 23, 3) := by decide +kernel
theorem d_pb_earnedOf_11 : decode b_pb_earnedOf 11 = .ok (.if_icmp .ge 65, 3) := by decide +kernel
theorem d_pb_earnedOf_14 : decode b_pb_earnedOf 14 = .ok (.aload_n 0, 1) := by decide +kernel
theorem d_pb_earnedOf_15 : decode b_pb_earnedOf 15 = .ok (.getfield 9, 3) := by decide +kernel
theorem d_pb_earnedOf_18 : decode b_pb_earnedOf 18 = .ok (.iload 5, 2) := by decide +kernel
theorem d_pb_earnedOf_20 : decode b_pb_earnedOf 20 = .ok (.iaload, 1) := by decide +kernel
theorem d_pb_earnedOf_21 : decode b_pb_earnedOf 21 = .ok (.iload_n 1, 1) := by decide +kernel
theorem d_pb_earnedOf_22 : decode b_pb_earnedOf 22 = .ok (.if_icmp .ne 48, 3) := by decide +kernel
theorem d_pb_earnedOf_25 : decode b_pb_earnedOf 25 = .ok (.iload_n 2, 1) := by decide +kernel
theorem d_pb_earnedOf_26 : decode b_pb_earnedOf 26 = .ok (.aload_n 0, 1) := by decide +kernel
theorem d_pb_earnedOf_27 : decode b_pb_earnedOf 27 = .ok (.getfield 20, 3) := by decide +kernel
theorem d_pb_earnedOf_30 : decode b_pb_earnedOf 30 = .ok (.iload 5, 2) := by decide +kernel
theorem d_pb_earnedOf_32 : decode b_pb_earnedOf 32 = .ok (.iaload, 1) := by decide +kernel
theorem d_pb_earnedOf_33 : decode b_pb_earnedOf 33 = .ok (.isub, 1) := by decide +kernel
theorem d_pb_earnedOf_34 : decode b_pb_earnedOf 34 = .ok (.aload_n 0, 1) := by decide +kernel
theorem d_pb_earnedOf_35 : decode b_pb_earnedOf 35 = .ok (.getfield 17, 3) := by decide +kernel
theorem d_pb_earnedOf_38 : decode b_pb_earnedOf 38 = .ok (.iload 5, 2) := by decide +kernel
theorem d_pb_earnedOf_40 : decode b_pb_earnedOf 40 = .ok (.iaload, 1) := by decide +kernel
theorem d_pb_earnedOf_41 : decode b_pb_earnedOf 41 = .ok (.invokestatic 31, 3) := by decide +kernel
theorem d_pb_earnedOf_44 : decode b_pb_earnedOf 44 = .ok (.istore 6, 2) := by decide +kernel
theorem d_pb_earnedOf_46 : decode b_pb_earnedOf 46 = .ok (.lload_n 3, 1) := by decide +kernel
theorem d_pb_earnedOf_47 : decode b_pb_earnedOf 47 = .ok (.aload_n 0, 1) := by decide +kernel
theorem d_pb_earnedOf_48 : decode b_pb_earnedOf 48 = .ok (.getfield 13, 3) := by decide +kernel
theorem d_pb_earnedOf_51 : decode b_pb_earnedOf 51 = .ok (.iload 5, 2) := by decide +kernel
theorem d_pb_earnedOf_53 : decode b_pb_earnedOf 53 = .ok (.laload, 1) := by decide +kernel
theorem d_pb_earnedOf_54 : decode b_pb_earnedOf 54 = .ok (.iload 6, 2) := by decide +kernel
theorem d_pb_earnedOf_56 : decode b_pb_earnedOf 56 = .ok (.i2l, 1) := by decide +kernel
theorem d_pb_earnedOf_57 : decode b_pb_earnedOf 57 = .ok (.aload_n 0, 1) := by decide +kernel
theorem d_pb_earnedOf_58 : decode b_pb_earnedOf 58 = .ok (.getfield 17, 3) := by decide +kernel
theorem d_pb_earnedOf_61 : decode b_pb_earnedOf 61 = .ok (.iload 5, 2) := by decide +kernel
theorem d_pb_earnedOf_63 : decode b_pb_earnedOf 63 = .ok (.iaload, 1) := by decide +kernel
theorem d_pb_earnedOf_64 : decode b_pb_earnedOf 64 = .ok (.i2l, 1) := by decide +kernel
theorem d_pb_earnedOf_65 : decode b_pb_earnedOf 65 = .ok (.invokestatic 37, 3) := by decide +kernel
theorem d_pb_earnedOf_68 : decode b_pb_earnedOf 68 = .ok (.ladd, 1) := by decide +kernel
theorem d_pb_earnedOf_69 : decode b_pb_earnedOf 69 = .ok (.lstore_n 3, 1) := by decide +kernel
theorem d_pb_earnedOf_70 : decode b_pb_earnedOf 70 = .ok (.iinc 5 1, 3) := by decide +kernel
theorem d_pb_earnedOf_73 : decode b_pb_earnedOf 73 = .ok (.goto (-68), 3) := by decide +kernel
theorem d_pb_earnedOf_76 : decode b_pb_earnedOf 76 = .ok (.lload_n 3, 1) := by decide +kernel
theorem d_pb_earnedOf_77 : decode b_pb_earnedOf 77 = .ok (.lreturn, 1) := by decide +kernel
theorem d_tf_init_0 : decode b_tf_init 0 = .ok (.aload_n 0, 1) := by decide +kernel
theorem d_tf_init_1 : decode b_tf_init 1 = .ok (.invokespecial 1, 3) := by decide +kernel
theorem d_tf_init_4 : decode b_tf_init 4 = .ok (.aload_n 0, 1) := by decide +kernel
theorem d_tf_init_5 : decode b_tf_init 5 = .ok (.iconst 0, 1) := by decide +kernel
theorem d_tf_init_6 : decode b_tf_init 6 = .ok (.putfield 7, 3) := by decide +kernel
theorem d_tf_init_9 : decode b_tf_init 9 = .ok (.aload_n 0, 1) := by decide +kernel
theorem d_tf_init_10 : decode b_tf_init 10 = .ok (.iconst 0, 1) := by decide +kernel
theorem d_tf_init_11 : decode b_tf_init 11 = .ok (.putfield 13, 3) := by decide +kernel
theorem d_tf_init_14 : decode b_tf_init 14 = .ok (.aload_n 0, 1) := by decide +kernel
theorem d_tf_init_15 : decode b_tf_init 15 = .ok (.iconst 0, 1) := by decide +kernel
theorem d_tf_init_16 : decode b_tf_init 16 = .ok (.putfield 16, 3) := by decide +kernel
theorem d_tf_init_19 : decode b_tf_init 19 = .ok (.aload_n 0, 1) := by decide +kernel
theorem d_tf_init_20 : decode b_tf_init 20 = .ok (.iconst 0, 1) := by decide +kernel
theorem d_tf_init_21 : decode b_tf_init 21 = .ok (.putfield 19, 3) := by decide +kernel
theorem d_tf_init_24 : decode b_tf_init 24 = .ok (.aload_n 0, 1) := by decide +kernel
theorem d_tf_init_25 : decode b_tf_init 25 = .ok (.iconst 0, 1) := by decide +kernel
theorem d_tf_init_26 : decode b_tf_init 26 = .ok (.putfield 22, 3) := by decide +kernel
theorem d_tf_init_29 : decode b_tf_init 29 = .ok (.aload_n 0, 1) := by decide +kernel
theorem d_tf_init_30 : decode b_tf_init 30 = .ok (.iconst 0, 1) := by decide +kernel
theorem d_tf_init_31 : decode b_tf_init 31 = .ok (.putfield 25, 3) := by decide +kernel
theorem d_tf_init_34 : decode b_tf_init 34 = .ok (.aload_n 0, 1) := by decide +kernel
theorem d_tf_init_35 : decode b_tf_init 35 = .ok (.iconst 4, 1) := by decide +kernel
theorem d_tf_init_36 : decode b_tf_init 36 = .ok (.newarray .int, 2) := by decide +kernel
theorem d_tf_init_38 : decode b_tf_init 38 = .ok (.putfield 28, 3) := by decide +kernel
theorem d_tf_init_41 : decode b_tf_init 41 = .ok (.aload_n 0, 1) := by decide +kernel
theorem d_tf_init_42 : decode b_tf_init 42 = .ok (.iconst 4, 1) := by decide +kernel
theorem d_tf_init_43 : decode b_tf_init 43 = .ok (.newarray .int, 2) := by decide +kernel
theorem d_tf_init_45 : decode b_tf_init 45 = .ok (.putfield 32, 3) := by decide +kernel
theorem d_tf_init_48 : decode b_tf_init 48 = .ok (.aload_n 0, 1) := by decide +kernel
theorem d_tf_init_49 : decode b_tf_init 49 = .ok (.iconst 0, 1) := by decide +kernel
theorem d_tf_init_50 : decode b_tf_init 50 = .ok (.putfield 35, 3) := by decide +kernel
theorem d_tf_init_53 : decode b_tf_init 53 = .ok (.return_, 1) := by decide +kernel
theorem d_tf_clear_0 : decode b_tf_clear 0 = .ok (.aload_n 0, 1) := by decide +kernel
theorem d_tf_clear_1 : decode b_tf_clear 1 = .ok (.iconst 0, 1) := by decide +kernel
theorem d_tf_clear_2 : decode b_tf_clear 2 = .ok (.putfield 7, 3) := by decide +kernel
theorem d_tf_clear_5 : decode b_tf_clear 5 = .ok (.aload_n 0, 1) := by decide +kernel
theorem d_tf_clear_6 : decode b_tf_clear 6 = .ok (.iconst 0, 1) := by decide +kernel
theorem d_tf_clear_7 : decode b_tf_clear 7 = .ok (.putfield 13, 3) := by decide +kernel
theorem d_tf_clear_10 : decode b_tf_clear 10 = .ok (.aload_n 0, 1) := by decide +kernel
theorem d_tf_clear_11 : decode b_tf_clear 11 = .ok (.iconst 0, 1) := by decide +kernel
theorem d_tf_clear_12 : decode b_tf_clear 12 = .ok (.putfield 16, 3) := by decide +kernel
theorem d_tf_clear_15 : decode b_tf_clear 15 = .ok (.aload_n 0, 1) := by decide +kernel
theorem d_tf_clear_16 : decode b_tf_clear 16 = .ok (.iconst 0, 1) := by decide +kernel
theorem d_tf_clear_17 : decode b_tf_clear 17 = .ok (.putfield 19, 3) := by decide +kernel
theorem d_tf_clear_20 : decode b_tf_clear 20 = .ok (.aload_n 0, 1) := by decide +kernel
theorem d_tf_clear_21 : decode b_tf_clear 21 = .ok (.iconst 0, 1) := by decide +kernel
theorem d_tf_clear_22 : decode b_tf_clear 22 = .ok (.putfield 22, 3) := by decide +kernel
theorem d_tf_clear_25 : decode b_tf_clear 25 = .ok (.aload_n 0, 1) := by decide +kernel
theorem d_tf_clear_26 : decode b_tf_clear 26 = .ok (.iconst 0, 1) := by decide +kernel
theorem d_tf_clear_27 : decode b_tf_clear 27 = .ok (.putfield 25, 3) := by decide +kernel
theorem d_tf_clear_30 : decode b_tf_clear 30 = .ok (.aload_n 0, 1) := by decide +kernel
theorem d_tf_clear_31 : decode b_tf_clear 31 = .ok (.iconst 0, 1) := by decide +kernel
theorem d_tf_clear_32 : decode b_tf_clear 32 = .ok (.putfield 35, 3) := by decide +kernel
theorem d_tf_clear_35 : decode b_tf_clear 35 = .ok (.return_, 1) := by decide +kernel
theorem d_tf_copyFrom_0 : decode b_tf_copyFrom 0 = .ok (.aload_n 0, 1) := by decide +kernel
theorem d_tf_copyFrom_1 : decode b_tf_copyFrom 1 = .ok (.aload_n 1, 1) := by decide +kernel
theorem d_tf_copyFrom_2 : decode b_tf_copyFrom 2 = .ok (.getfield 7, 3) := by decide +kernel
theorem d_tf_copyFrom_5 : decode b_tf_copyFrom 5 = .ok (.putfield 7, 3) := by decide +kernel
theorem d_tf_copyFrom_8 : decode b_tf_copyFrom 8 = .ok (.aload_n 0, 1) := by decide +kernel
theorem d_tf_copyFrom_9 : decode b_tf_copyFrom 9 = .ok (.aload_n 1, 1) := by decide +kernel
theorem d_tf_copyFrom_10 : decode b_tf_copyFrom 10 = .ok (.getfield 13, 3) := by decide +kernel
theorem d_tf_copyFrom_13 : decode b_tf_copyFrom 13 = .ok (.putfield 13, 3) := by decide +kernel
theorem d_tf_copyFrom_16 : decode b_tf_copyFrom 16 = .ok (.aload_n 0, 1) := by decide +kernel
theorem d_tf_copyFrom_17 : decode b_tf_copyFrom 17 = .ok (.aload_n 1, 1) := by decide +kernel
theorem d_tf_copyFrom_18 : decode b_tf_copyFrom 18 = .ok (.getfield 16, 3) := by decide +kernel
theorem d_tf_copyFrom_21 : decode b_tf_copyFrom 21 = .ok (.putfield 16, 3) := by decide +kernel
theorem d_tf_copyFrom_24 : decode b_tf_copyFrom 24 = .ok (.aload_n 0, 1) := by decide +kernel
theorem d_tf_copyFrom_25 : decode b_tf_copyFrom 25 = .ok (.aload_n 1, 1) := by decide +kernel
theorem d_tf_copyFrom_26 : decode b_tf_copyFrom 26 = .ok (.getfield 19, 3) := by decide +kernel
theorem d_tf_copyFrom_29 : decode b_tf_copyFrom 29 = .ok (.putfield 19, 3) := by decide +kernel
theorem d_tf_copyFrom_32 : decode b_tf_copyFrom 32 = .ok (.aload_n 0, 1) := by decide +kernel
theorem d_tf_copyFrom_33 : decode b_tf_copyFrom 33 = .ok (.aload_n 1, 1) := by decide +kernel
theorem d_tf_copyFrom_34 : decode b_tf_copyFrom 34 = .ok (.getfield 22, 3) := by decide +kernel
theorem d_tf_copyFrom_37 : decode b_tf_copyFrom 37 = .ok (.putfield 22, 3) := by decide +kernel
theorem d_tf_copyFrom_40 : decode b_tf_copyFrom 40 = .ok (.aload_n 0, 1) := by decide +kernel
theorem d_tf_copyFrom_41 : decode b_tf_copyFrom 41 = .ok (.aload_n 1, 1) := by decide +kernel
theorem d_tf_copyFrom_42 : decode b_tf_copyFrom 42 = .ok (.getfield 25, 3) := by decide +kernel
theorem d_tf_copyFrom_45 : decode b_tf_copyFrom 45 = .ok (.putfield 25, 3) := by decide +kernel
theorem d_tf_copyFrom_48 : decode b_tf_copyFrom 48 = .ok (.aload_n 0, 1) := by decide +kernel
theorem d_tf_copyFrom_49 : decode b_tf_copyFrom 49 = .ok (.aload_n 1, 1) := by decide +kernel
theorem d_tf_copyFrom_50 : decode b_tf_copyFrom 50 = .ok (.getfield 35, 3) := by decide +kernel
theorem d_tf_copyFrom_53 : decode b_tf_copyFrom 53 = .ok (.putfield 35, 3) := by decide +kernel
theorem d_tf_copyFrom_56 : decode b_tf_copyFrom 56 = .ok (.iconst 0, 1) := by decide +kernel
theorem d_tf_copyFrom_57 : decode b_tf_copyFrom 57 = .ok (.istore_n 2, 1) := by decide +kernel
theorem d_tf_copyFrom_58 : decode b_tf_copyFrom 58 = .ok (.iload_n 2, 1) := by decide +kernel
theorem d_tf_copyFrom_59 : decode b_tf_copyFrom 59 = .ok (.iconst 4, 1) := by decide +kernel
theorem d_tf_copyFrom_60 : decode b_tf_copyFrom 60 = .ok (.if_icmp .ge 33, 3) := by decide +kernel
theorem d_tf_copyFrom_63 : decode b_tf_copyFrom 63 = .ok (.aload_n 0, 1) := by decide +kernel
theorem d_tf_copyFrom_64 : decode b_tf_copyFrom 64 = .ok (.getfield 28, 3) := by decide +kernel
theorem d_tf_copyFrom_67 : decode b_tf_copyFrom 67 = .ok (.iload_n 2, 1) := by decide +kernel
theorem d_tf_copyFrom_68 : decode b_tf_copyFrom 68 = .ok (.aload_n 1, 1) := by decide +kernel
theorem d_tf_copyFrom_69 : decode b_tf_copyFrom 69 = .ok (.getfield 28, 3) := by decide +kernel
theorem d_tf_copyFrom_72 : decode b_tf_copyFrom 72 = .ok (.iload_n 2, 1) := by decide +kernel
theorem d_tf_copyFrom_73 : decode b_tf_copyFrom 73 = .ok (.iaload, 1) := by decide +kernel
theorem d_tf_copyFrom_74 : decode b_tf_copyFrom 74 = .ok (.iastore, 1) := by decide +kernel
theorem d_tf_copyFrom_75 : decode b_tf_copyFrom 75 = .ok (.aload_n 0, 1) := by decide +kernel
theorem d_tf_copyFrom_76 : decode b_tf_copyFrom 76 = .ok (.getfield 32, 3) := by decide +kernel
theorem d_tf_copyFrom_79 : decode b_tf_copyFrom 79 = .ok (.iload_n 2, 1) := by decide +kernel
theorem d_tf_copyFrom_80 : decode b_tf_copyFrom 80 = .ok (.aload_n 1, 1) := by decide +kernel
theorem d_tf_copyFrom_81 : decode b_tf_copyFrom 81 = .ok (.getfield 32, 3) := by decide +kernel
theorem d_tf_copyFrom_84 : decode b_tf_copyFrom 84 = .ok (.iload_n 2, 1) := by decide +kernel
theorem d_tf_copyFrom_85 : decode b_tf_copyFrom 85 = .ok (.iaload, 1) := by decide +kernel
theorem d_tf_copyFrom_86 : decode b_tf_copyFrom 86 = .ok (.iastore, 1) := by decide +kernel
theorem d_tf_copyFrom_87 : decode b_tf_copyFrom 87 = .ok (.iinc 2 1, 3) := by decide +kernel
theorem d_tf_copyFrom_90 : decode b_tf_copyFrom 90 = .ok (.goto (-32), 3) := by decide +kernel
theorem d_tf_copyFrom_93 : decode b_tf_copyFrom 93 = .ok (.return_, 1) := by decide +kernel
theorem d_tf_setFee_0 : decode b_tf_setFee 0 = .ok (.aload_n 0, 1) := by decide +kernel
theorem d_tf_setFee_1 : decode b_tf_setFee 1 = .ok (.iload_n 1, 1) := by decide +kernel
theorem d_tf_setFee_2 : decode b_tf_setFee 2 = .ok (.putfield 7, 3) := by decide +kernel
theorem d_tf_setFee_5 : decode b_tf_setFee 5 = .ok (.return_, 1) := by decide +kernel
theorem d_tf_setFree_0 : decode b_tf_setFree 0 = .ok (.aload_n 0, 1) := by decide +kernel
theorem d_tf_setFree_1 : decode b_tf_setFree 1 = .ok (.iload_n 1, 1) := by decide +kernel
theorem d_tf_setFree_2 : decode b_tf_setFree 2 = .ok (.putfield 13, 3) := by decide +kernel
theorem d_tf_setFree_5 : decode b_tf_setFree 5 = .ok (.return_, 1) := by decide +kernel
theorem d_tf_setLeast_0 : decode b_tf_setLeast 0 = .ok (.aload_n 0, 1) := by decide +kernel
theorem d_tf_setLeast_1 : decode b_tf_setLeast 1 = .ok (.iload_n 1, 1) := by decide +kernel
theorem d_tf_setLeast_2 : decode b_tf_setLeast 2 = .ok (.putfield 16, 3) := by decide +kernel
theorem d_tf_setLeast_5 : decode b_tf_setLeast 5 = .ok (.return_, 1) := by decide +kernel
theorem d_tf_setPack_0 : decode b_tf_setPack 0 = .ok (.aload_n 0, 1) := by decide +kernel
theorem d_tf_setPack_1 : decode b_tf_setPack 1 = .ok (.iload_n 1, 1) := by decide +kernel
theorem d_tf_setPack_2 : decode b_tf_setPack 2 = .ok (.putfield 19, 3) := by decide +kernel
theorem d_tf_setPack_5 : decode b_tf_setPack 5 = .ok (.aload_n 0, 1) := by decide +kernel
theorem d_tf_setPack_6 : decode b_tf_setPack 6 = .ok (.iload_n 2, 1) := by decide +kernel
theorem d_tf_setPack_7 : decode b_tf_setPack 7 = .ok (.putfield 22, 3) := by decide +kernel
theorem d_tf_setPack_10 : decode b_tf_setPack 10 = .ok (.return_, 1) := by decide +kernel
theorem d_tf_setRestPrice_0 : decode b_tf_setRestPrice 0 = .ok (.aload_n 0, 1) := by decide +kernel
theorem d_tf_setRestPrice_1 : decode b_tf_setRestPrice 1 = .ok (.iload_n 1, 1) := by decide +kernel
theorem d_tf_setRestPrice_2 : decode b_tf_setRestPrice 2 = .ok (.putfield 35, 3) := by decide +kernel
theorem d_tf_setRestPrice_5 : decode b_tf_setRestPrice 5 = .ok (.return_, 1) := by decide +kernel
theorem d_tf_addTier_0 : decode b_tf_addTier 0 = .ok (.aload_n 0, 1) := by decide +kernel
theorem d_tf_addTier_1 : decode b_tf_addTier 1 = .ok (.getfield 25, 3) := by decide +kernel
theorem d_tf_addTier_4 : decode b_tf_addTier 4 = .ok (.iconst 4, 1) := by decide +kernel
theorem d_tf_addTier_5 : decode b_tf_addTier 5 = .ok (.if_icmp .ge 33, 3) := by decide +kernel
theorem d_tf_addTier_8 : decode b_tf_addTier 8 = .ok (.aload_n 0, 1) := by decide +kernel
theorem d_tf_addTier_9 : decode b_tf_addTier 9 = .ok (.getfield 28, 3) := by decide +kernel
theorem d_tf_addTier_12 : decode b_tf_addTier 12 = .ok (.aload_n 0, 1) := by decide +kernel
theorem d_tf_addTier_13 : decode b_tf_addTier 13 = .ok (.getfield 25, 3) := by decide +kernel
theorem d_tf_addTier_16 : decode b_tf_addTier 16 = .ok (.iload_n 1, 1) := by decide +kernel
theorem d_tf_addTier_17 : decode b_tf_addTier 17 = .ok (.iastore, 1) := by decide +kernel
theorem d_tf_addTier_18 : decode b_tf_addTier 18 = .ok (.aload_n 0, 1) := by decide +kernel
theorem d_tf_addTier_19 : decode b_tf_addTier 19 = .ok (.getfield 32, 3) := by decide +kernel
theorem d_tf_addTier_22 : decode b_tf_addTier 22 = .ok (.aload_n 0, 1) := by decide +kernel
theorem d_tf_addTier_23 : decode b_tf_addTier 23 = .ok (.getfield 25, 3) := by decide +kernel
theorem d_tf_addTier_26 : decode b_tf_addTier 26 = .ok (.iload_n 2, 1) := by decide +kernel
theorem d_tf_addTier_27 : decode b_tf_addTier 27 = .ok (.iastore, 1) := by decide +kernel
theorem d_tf_addTier_28 : decode b_tf_addTier 28 = .ok (.aload_n 0, 1) := by decide +kernel
theorem d_tf_addTier_29 : decode b_tf_addTier 29 = .ok (.dup, 1) := by decide +kernel
theorem d_tf_addTier_30 : decode b_tf_addTier 30 = .ok (.getfield 25, 3) := by decide +kernel
theorem d_tf_addTier_33 : decode b_tf_addTier 33 = .ok (.iconst 1, 1) := by decide +kernel
theorem d_tf_addTier_34 : decode b_tf_addTier 34 = .ok (.iadd, 1) := by decide +kernel
theorem d_tf_addTier_35 : decode b_tf_addTier 35 = .ok (.putfield 25, 3) := by decide +kernel
theorem d_tf_addTier_38 : decode b_tf_addTier 38 = .ok (.return_, 1) := by decide +kernel
theorem d_tf_hasPack_0 : decode b_tf_hasPack 0 = .ok (.aload_n 0, 1) := by decide +kernel
theorem d_tf_hasPack_1 : decode b_tf_hasPack 1 = .ok (.getfield 19, 3) := by decide +kernel
theorem d_tf_hasPack_4 : decode b_tf_hasPack 4 = .ok (.ifCond .le 7, 3) := by decide +kernel
theorem d_tf_hasPack_7 : decode b_tf_hasPack 7 = .ok (.iconst 1, 1) := by decide +kernel
theorem d_tf_hasPack_8 : decode b_tf_hasPack 8 = .ok (.goto 4, 3) := by decide +kernel
theorem d_tf_hasPack_11 : decode b_tf_hasPack 11 = .ok (.iconst 0, 1) := by decide +kernel
theorem d_tf_hasPack_12 : decode b_tf_hasPack 12 = .ok (.ireturn, 1) := by decide +kernel
theorem d_tf_tiers_0 : decode b_tf_tiers 0 = .ok (.aload_n 0, 1) := by decide +kernel
theorem d_tf_tiers_1 : decode b_tf_tiers 1 = .ok (.getfield 25, 3) := by decide +kernel
theorem d_tf_tiers_4 : decode b_tf_tiers 4 = .ok (.ireturn, 1) := by decide +kernel
theorem d_tf_lastTierEnd_0 : decode b_tf_lastTierEnd 0 = .ok (.aload_n 0, 1) := by decide +kernel
theorem d_tf_lastTierEnd_1 : decode b_tf_lastTierEnd 1 = .ok (.getfield 25, 3) := by decide +kernel
theorem d_tf_lastTierEnd_4 : decode b_tf_lastTierEnd 4 = .ok (.ifCond .ne 7, 3) := by decide +kernel
theorem d_tf_lastTierEnd_7 : decode b_tf_lastTierEnd 7 = .ok (.iconst 0, 1) := by decide +kernel
theorem d_tf_lastTierEnd_8 : decode b_tf_lastTierEnd 8 = .ok (.goto 14, 3) := by decide +kernel
theorem d_tf_lastTierEnd_11 : decode b_tf_lastTierEnd 11 = .ok (.aload_n 0, 1) := by decide +kernel
theorem d_tf_lastTierEnd_12 : decode b_tf_lastTierEnd 12 = .ok (.getfield 28, 3) := by decide +kernel
theorem d_tf_lastTierEnd_15 : decode b_tf_lastTierEnd 15 = .ok (.aload_n 0, 1) := by decide +kernel
theorem d_tf_lastTierEnd_16 : decode b_tf_lastTierEnd 16 = .ok (.getfield 25, 3) := by decide +kernel
theorem d_tf_lastTierEnd_19 : decode b_tf_lastTierEnd 19 = .ok (.iconst 1, 1) := by decide +kernel
theorem d_tf_lastTierEnd_20 : decode b_tf_lastTierEnd 20 = .ok (.isub, 1) := by decide +kernel
theorem d_tf_lastTierEnd_21 : decode b_tf_lastTierEnd 21 = .ok (.iaload, 1) := by decide +kernel
theorem d_tf_lastTierEnd_22 : decode b_tf_lastTierEnd 22 = .ok (.ireturn, 1) := by decide +kernel
theorem d_tf_feeOf_0 : decode b_tf_feeOf 0 = .ok (.aload_n 0, 1) := by decide +kernel
theorem d_tf_feeOf_1 : decode b_tf_feeOf 1 = .ok (.getfield 7, 3) := by decide +kernel
theorem d_tf_feeOf_4 : decode b_tf_feeOf 4 = .ok (.i2l, 1) := by decide +kernel
theorem d_tf_feeOf_5 : decode b_tf_feeOf 5 = .ok (.iload_n 1, 1) := by decide +kernel
theorem d_tf_feeOf_6 : decode b_tf_feeOf 6 = .ok (.i2l, 1) := by decide +kernel
theorem d_tf_feeOf_7 : decode b_tf_feeOf 7 = .ok (.iload_n 2, 1) := by decide +kernel
theorem d_tf_feeOf_8 : decode b_tf_feeOf 8 = .ok (.i2l, 1) := by decide +kernel
theorem d_tf_feeOf_9 : decode b_tf_feeOf 9 = .ok (.invokestatic 38, 3) := by decide +kernel
theorem d_tf_feeOf_12 : decode b_tf_feeOf 12 = .ok (.lreturn, 1) := by decide +kernel
theorem d_tf_useOf_0 : decode b_tf_useOf 0 = .ok (.lconst 0, 1) := by decide +kernel
theorem d_tf_useOf_1 : decode b_tf_useOf 1 = .ok (.lload_n 1, 1) := by decide +kernel
theorem d_tf_useOf_2 : decode b_tf_useOf 2 = .ok (.aload_n 0, 1) := by decide +kernel
theorem d_tf_useOf_3 : decode b_tf_useOf 3 = .ok (.getfield 13, 3) := by decide +kernel
theorem d_tf_useOf_6 : decode b_tf_useOf 6 = .ok (.i2l, 1) := by decide +kernel
theorem d_tf_useOf_7 : decode b_tf_useOf 7 = .ok (.iload_n 3, 1) := by decide +kernel
theorem d_tf_useOf_8 : decode b_tf_useOf 8 = .ok (.i2l, 1) := by decide +kernel
theorem d_tf_useOf_9 : decode b_tf_useOf 9 = .ok (.iload 4, 2) := by decide +kernel
theorem d_tf_useOf_11 : decode b_tf_useOf 11 = .ok (.i2l, 1) := by decide +kernel
theorem d_tf_useOf_12 : decode b_tf_useOf 12 = .ok (.invokestatic 38, 3) := by decide +kernel
theorem d_tf_useOf_15 : decode b_tf_useOf 15 = .ok (.lsub, 1) := by decide +kernel
theorem d_tf_useOf_16 : decode b_tf_useOf 16 = .ok (.invokestatic 44, 3) := by decide +kernel
theorem d_tf_useOf_19 : decode b_tf_useOf 19 = .ok (.lstore 5, 2) := by decide +kernel
theorem d_tf_useOf_21 : decode b_tf_useOf 21 = .ok (.aload_n 0, 1) := by decide +kernel
theorem d_tf_useOf_22 : decode b_tf_useOf 22 = .ok (.getfield 19, 3) := by decide +kernel
theorem d_tf_useOf_25 : decode b_tf_useOf 25 = .ok (.ifCond .le 12, 3) := by decide +kernel
theorem d_tf_useOf_28 : decode b_tf_useOf 28 = .ok (.aload_n 0, 1) := by decide +kernel
theorem d_tf_useOf_29 : decode b_tf_useOf 29 = .ok (.lload 5, 2) := by decide +kernel
theorem d_tf_useOf_31 : decode b_tf_useOf 31 = .ok (.invokevirtual 50, 3) := by decide +kernel
theorem d_tf_useOf_34 : decode b_tf_useOf 34 = .ok (.goto 9, 3) := by decide +kernel
theorem d_tf_useOf_37 : decode b_tf_useOf 37 = .ok (.aload_n 0, 1) := by decide +kernel
theorem d_tf_useOf_38 : decode b_tf_useOf 38 = .ok (.lload 5, 2) := by decide +kernel
theorem d_tf_useOf_40 : decode b_tf_useOf 40 = .ok (.invokevirtual 54, 3) := by decide +kernel
theorem d_tf_useOf_43 : decode b_tf_useOf 43 = .ok (.lstore 7, 2) := by decide +kernel
theorem d_tf_useOf_45 : decode b_tf_useOf 45 = .ok (.lload 7, 2) := by decide +kernel
theorem d_tf_useOf_47 : decode b_tf_useOf 47 = .ok (.aload_n 0, 1) := by decide +kernel
theorem d_tf_useOf_48 : decode b_tf_useOf 48 = .ok (.getfield 16, 3) := by decide +kernel
theorem d_tf_useOf_51 : decode b_tf_useOf 51 = .ok (.i2l, 1) := by decide +kernel
theorem d_tf_useOf_52 : decode b_tf_useOf 52 = .ok (.iload_n 3, 1) := by decide +kernel
theorem d_tf_useOf_53 : decode b_tf_useOf 53 = .ok (.i2l, 1) := by decide +kernel
theorem d_tf_useOf_54 : decode b_tf_useOf 54 = .ok (.iload 4, 2) := by decide +kernel
theorem d_tf_useOf_56 : decode b_tf_useOf 56 = .ok (.i2l, 1) := by decide +kernel
theorem d_tf_useOf_57 : decode b_tf_useOf 57 = .ok (.invokestatic 38, 3) := by decide +kernel
theorem d_tf_useOf_60 : decode b_tf_useOf 60 = .ok (.invokestatic 44, 3) := by decide +kernel
theorem d_tf_useOf_63 : decode b_tf_useOf 63 = .ok (.lreturn, 1) := by decide +kernel
theorem d_tf_priceByPacks_0 : decode b_tf_priceByPacks 0 = .ok (.aload_n 0, 1) := by decide +kernel
theorem d_tf_priceByPacks_1 : decode b_tf_priceByPacks 1 = .ok (.getfield 19, 3) := by decide +kernel
theorem d_tf_priceByPacks_4 : decode b_tf_priceByPacks 4 = .ok (.iconst 1, 1) := by decide +kernel
theorem d_tf_priceByPacks_5 : decode b_tf_priceByPacks 5 = .ok (.if_icmp .ge 7, 3) := by decide +kernel
theorem d_tf_priceByPacks_8 : decode b_tf_priceByPacks 8 = .ok (.lconst 0, 1) := by decide +kernel
theorem d_tf_priceByPacks_9 : decode b_tf_priceByPacks 9 = .ok (.goto 24, 3) := by decide +kernel
theorem d_tf_priceByPacks_12 : decode b_tf_priceByPacks 12 = .ok (.lload_n 1, 1) := by decide +kernel
theorem d_tf_priceByPacks_13 : decode b_tf_priceByPacks 13 = .ok (.aload_n 0, 1) := by decide +kernel
theorem d_tf_priceByPacks_14 : decode b_tf_priceByPacks 14 = .ok (.getfield 19, 3) := by decide +kernel
theorem d_tf_priceByPacks_17 : decode b_tf_priceByPacks 17 = .ok (.i2l, 1) := by decide +kernel
theorem d_tf_priceByPacks_18 : decode b_tf_priceByPacks 18 = .ok (.ladd, 1) := by decide +kernel
theorem d_tf_priceByPacks_19 : decode b_tf_priceByPacks 19 = .ok (.lconst 1, 1) := by decide +kernel
theorem d_tf_priceByPacks_20 : decode b_tf_priceByPacks 20 = .ok (.lsub, 1) := by decide +kernel
theorem d_tf_priceByPacks_21 : decode b_tf_priceByPacks 21 = .ok (.aload_n 0, 1) := by decide +kernel
theorem d_tf_priceByPacks_22 : decode b_tf_priceByPacks 22 = .ok (.getfield 19, 3) := by decide +kernel
theorem d_tf_priceByPacks_25 : decode b_tf_priceByPacks 25 = .ok (.i2l, 1) := by decide +kernel
theorem d_tf_priceByPacks_26 : decode b_tf_priceByPacks 26 = .ok (.ldiv, 1) := by decide +kernel
theorem d_tf_priceByPacks_27 : decode b_tf_priceByPacks 27 = .ok (.aload_n 0, 1) := by decide +kernel
theorem d_tf_priceByPacks_28 : decode b_tf_priceByPacks 28 = .ok (.getfield 22, 3) := by decide +kernel
theorem d_tf_priceByPacks_31 : decode b_tf_priceByPacks 31 = .ok (.i2l, 1) := by decide +kernel
theorem d_tf_priceByPacks_32 : decode b_tf_priceByPacks 32 = .ok (.lmul, 1) := by decide +kernel
theorem d_tf_priceByPacks_33 : decode b_tf_priceByPacks 33 = .ok (.lreturn, 1) := by decide +kernel
theorem d_tf_priceByTiers_0 : decode b_tf_priceByTiers 0 = .ok (.lconst 0, 1) := by decide +kernel
theorem d_tf_priceByTiers_1 : decode b_tf_priceByTiers 1 = .ok (.lstore_n 3, 1) := by decide +kernel
theorem d_tf_priceByTiers_2 : decode b_tf_priceByTiers 2 = .ok (.lconst 0, 1) := by decide +kernel
theorem d_tf_priceByTiers_3 : decode b_tf_priceByTiers 3 = .ok (.lstore 5, 2) := by decide +kernel
theorem d_tf_priceByTiers_5 : decode b_tf_priceByTiers 5 = .ok (.iconst 0, 1) := by decide +kernel
theorem d_tf_priceByTiers_6 : decode b_tf_priceByTiers 6 = .ok (.istore 7, 2) := by decide +kernel
theorem d_tf_priceByTiers_8 : decode b_tf_priceByTiers 8 = .ok (.iload 7, 2) := by decide +kernel
theorem d_tf_priceByTiers_10 : decode b_tf_priceByTiers 10 = .ok (.aload_n 0, 1) := by decide +kernel
theorem d_tf_priceByTiers_11 : decode b_tf_priceByTiers 11 = .ok (.getfield 25, 3) := by decide +kernel
theorem d_tf_priceByTiers_14 : decode b_tf_priceByTiers 14 = .ok (.if_icmp .ge 44, 3) := by decide +kernel
theorem d_tf_priceByTiers_17 : decode b_tf_priceByTiers 17 = .ok (.lload_n 1, 1) := by decide +kernel
theorem d_tf_priceByTiers_18 : decode b_tf_priceByTiers 18 = .ok (.aload_n 0, 1) := by decide +kernel
theorem d_tf_priceByTiers_19 : decode b_tf_priceByTiers 19 = .ok (.getfield 28, 3) := by decide +kernel
theorem d_tf_priceByTiers_22 : decode b_tf_priceByTiers 22 = .ok (.iload 7, 2) := by decide +kernel
theorem d_tf_priceByTiers_24 : decode b_tf_priceByTiers 24 = .ok (.iaload, 1) := by decide +kernel
theorem d_tf_priceByTiers_25 : decode b_tf_priceByTiers 25 = .ok (.i2l, 1) := by decide +kernel
theorem d_tf_priceByTiers_26 : decode b_tf_priceByTiers 26 = .ok (.invokestatic 57, 3) := by decide +kernel
theorem d_tf_priceByTiers_29 : decode b_tf_priceByTiers 29 = .ok (.lstore 8, 2) := by decide +kernel
theorem d_tf_priceByTiers_31 : decode b_tf_priceByTiers 31 = .ok (.lload_n 3, 1) := by decide +kernel
theorem d_tf_priceByTiers_32 : decode b_tf_priceByTiers 32 = .ok (.lload 8, 2) := by decide +kernel
theorem d_tf_priceByTiers_34 : decode b_tf_priceByTiers 34 = .ok (.lload 5, 2) := by decide +kernel
theorem d_tf_priceByTiers_36 : decode b_tf_priceByTiers 36 = .ok (.lsub, 1) := by decide +kernel
theorem d_tf_priceByTiers_37 : decode b_tf_priceByTiers 37 = .ok (.aload_n 0, 1) := by decide +kernel
theorem d_tf_priceByTiers_38 : decode b_tf_priceByTiers 38 = .ok (.getfield 32, 3) := by decide +kernel
theorem d_tf_priceByTiers_41 : decode b_tf_priceByTiers 41 = .ok (.iload 7, 2) := by decide +kernel
theorem d_tf_priceByTiers_43 : decode b_tf_priceByTiers 43 = .ok (.iaload, 1) := by decide +kernel
theorem d_tf_priceByTiers_44 : decode b_tf_priceByTiers 44 = .ok (.i2l, 1) := by decide +kernel
theorem d_tf_priceByTiers_45 : decode b_tf_priceByTiers 45 = .ok (.lmul, 1) := by decide +kernel
theorem d_tf_priceByTiers_46 : decode b_tf_priceByTiers 46 = .ok (.ladd, 1) := by decide +kernel
theorem d_tf_priceByTiers_47 : decode b_tf_priceByTiers 47 = .ok (.lstore_n 3, 1) := by decide +kernel
theorem d_tf_priceByTiers_48 : decode b_tf_priceByTiers 48 = .ok (.lload 8, 2) := by decide +kernel
theorem d_tf_priceByTiers_50 : decode b_tf_priceByTiers 50 = .ok (.lstore 5, 2) := by decide +kernel
theorem d_tf_priceByTiers_52 : decode b_tf_priceByTiers 52 = .ok (.iinc 7 1, 3) := by decide +kernel
theorem d_tf_priceByTiers_55 : decode b_tf_priceByTiers 55 = .ok (.goto (-47), 3) := by decide +kernel
theorem d_tf_priceByTiers_58 : decode b_tf_priceByTiers 58 = .ok (.lload_n 3, 1) := by decide +kernel
theorem d_tf_priceByTiers_59 : decode b_tf_priceByTiers 59 = .ok (.lload_n 1, 1) := by decide +kernel
theorem d_tf_priceByTiers_60 : decode b_tf_priceByTiers 60 = .ok (.lload 5, 2) := by decide +kernel
theorem d_tf_priceByTiers_62 : decode b_tf_priceByTiers 62 = .ok (.lsub, 1) := by decide +kernel
theorem d_tf_priceByTiers_63 : decode b_tf_priceByTiers 63 = .ok (.aload_n 0, 1) := by decide +kernel
theorem d_tf_priceByTiers_64 : decode b_tf_priceByTiers 64 = .ok (.getfield 35, 3) := by decide +kernel
theorem d_tf_priceByTiers_67 : decode b_tf_priceByTiers 67 = .ok (.i2l, 1) := by decide +kernel
theorem d_tf_priceByTiers_68 : decode b_tf_priceByTiers 68 = .ok (.lmul, 1) := by decide +kernel
theorem d_tf_priceByTiers_69 : decode b_tf_priceByTiers 69 = .ok (.ladd, 1) := by decide +kernel
theorem d_tf_priceByTiers_70 : decode b_tf_priceByTiers 70 = .ok (.lreturn, 1) := by decide +kernel
theorem d_bf_init_0 : decode b_bf_init 0 = .ok (.aload_n 0, 1) := by decide +kernel
theorem d_bf_init_1 : decode b_bf_init 1 = .ok (.invokespecial 1, 3) := by decide +kernel
theorem d_bf_init_4 : decode b_bf_init 4 = .ok (.aload_n 0, 1) := by decide +kernel
theorem d_bf_init_5 : decode b_bf_init 5 = .ok (.new 7, 3) := by decide +kernel
theorem d_bf_init_8 : decode b_bf_init 8 = .ok (.dup, 1) := by decide +kernel
theorem d_bf_init_9 : decode b_bf_init 9 = .ok (.invokespecial 9, 3) := by decide +kernel
theorem d_bf_init_12 : decode b_bf_init 12 = .ok (.putfield 10, 3) := by decide +kernel
theorem d_bf_init_15 : decode b_bf_init 15 = .ok (.aload_n 0, 1) := by decide +kernel
theorem d_bf_init_16 : decode b_bf_init 16 = .ok (.iconst 3, 1) := by decide +kernel
theorem d_bf_init_17 : decode b_bf_init 17 = .ok (.anewarray 16, 3) := by decide +kernel
theorem d_bf_init_20 : decode b_bf_init 20 = .ok (.putfield 18, 3) := by decide +kernel
theorem d_bf_init_23 : decode b_bf_init 23 = .ok (.aload_n 0, 1) := by decide +kernel
theorem d_bf_init_24 : decode b_bf_init 24 = .ok (.iconst 5, 1) := by decide +kernel
theorem d_bf_init_25 : decode b_bf_init 25 = .ok (.anewarray 22, 3) := by decide +kernel
theorem d_bf_init_28 : decode b_bf_init 28 = .ok (.putfield 24, 3) := by decide +kernel
theorem d_bf_init_31 : decode b_bf_init 31 = .ok (.aload_n 0, 1) := by decide +kernel
theorem d_bf_init_32 : decode b_bf_init 32 = .ok (.new 28, 3) := by decide +kernel
theorem d_bf_init_35 : decode b_bf_init 35 = .ok (.dup, 1) := by decide +kernel
theorem d_bf_init_36 : decode b_bf_init 36 = .ok (.invokespecial 30, 3) := by decide +kernel
theorem d_bf_init_39 : decode b_bf_init 39 = .ok (.putfield 31, 3) := by decide +kernel
theorem d_bf_init_42 : decode b_bf_init 42 = .ok (.aload_n 0, 1) := by decide +kernel
theorem d_bf_init_43 : decode b_bf_init 43 = .ok (.new 35, 3) := by decide +kernel
theorem d_bf_init_46 : decode b_bf_init 46 = .ok (.dup, 1) := by decide +kernel
theorem d_bf_init_47 : decode b_bf_init 47 = .ok (.invokespecial 37, 3) := by decide +kernel
theorem d_bf_init_50 : decode b_bf_init 50 = .ok (.putfield 38, 3) := by decide +kernel
theorem d_bf_init_53 : decode b_bf_init 53 = .ok (.aload_n 0, 1) := by decide +kernel
theorem d_bf_init_54 : decode b_bf_init 54 = .ok (.new 42, 3) := by decide +kernel
theorem d_bf_init_57 : decode b_bf_init 57 = .ok (.dup, 1) := by decide +kernel
theorem d_bf_init_58 : decode b_bf_init 58 = .ok (.invokespecial 44, 3) := by decide +kernel
theorem d_bf_init_61 : decode b_bf_init 61 = .ok (.putfield 45, 3) := by decide +kernel
theorem d_bf_init_64 : decode b_bf_init 64 = .ok (.aload_n 0, 1) := by decide +kernel
theorem d_bf_init_65 : decode b_bf_init 65 = .ok (.bipush 15, 2) := by decide +kernel
theorem d_bf_init_67 : decode b_bf_init 67 = .ok (.newarray .int, 2) := by decide +kernel
theorem d_bf_init_69 : decode b_bf_init 69 = .ok (.putfield 49, 3) := by decide +kernel
theorem d_bf_init_72 : decode b_bf_init 72 = .ok (.aload_n 0, 1) := by decide +kernel
theorem d_bf_init_73 : decode b_bf_init 73 = .ok (.iconst 3, 1) := by decide +kernel
theorem d_bf_init_74 : decode b_bf_init 74 = .ok (.newarray .int, 2) := by decide +kernel
theorem d_bf_init_76 : decode b_bf_init 76 = .ok (.putfield 53, 3) := by decide +kernel
theorem d_bf_init_79 : decode b_bf_init 79 = .ok (.aload_n 0, 1) := by decide +kernel
theorem d_bf_init_80 : decode b_bf_init 80 = .ok (.iconst 3, 1) := by decide +kernel
theorem d_bf_init_81 : decode b_bf_init 81 = .ok (.newarray .long, 2) := by decide +kernel
theorem d_bf_init_83 : decode b_bf_init 83 = .ok (.putfield 56, 3) := by decide +kernel
theorem d_bf_init_86 : decode b_bf_init 86 = .ok (.aload_n 0, 1) := by decide +kernel
theorem d_bf_init_87 : decode b_bf_init 87 = .ok (.iconst 0, 1) := by decide +kernel
theorem d_bf_init_88 : decode b_bf_init 88 = .ok (.putfield 60, 3) := by decide +kernel
theorem d_bf_init_91 : decode b_bf_init 91 = .ok (.aload_n 0, 1) := by decide +kernel
theorem d_bf_init_92 : decode b_bf_init 92 = .ok (.lconst 0, 1) := by decide +kernel
theorem d_bf_init_93 : decode b_bf_init 93 = .ok (.putfield 64, 3) := by decide +kernel
theorem d_bf_init_96 : decode b_bf_init 96 = .ok (.iconst 0, 1) := by decide +kernel
theorem d_bf_init_97 : decode b_bf_init 97 = .ok (.istore_n 1, 1) := by decide +kernel
theorem d_bf_init_98 : decode b_bf_init 98 = .ok (.iload_n 1, 1) := by decide +kernel
theorem d_bf_init_99 : decode b_bf_init 99 = .ok (.iconst 3, 1) := by decide +kernel
theorem d_bf_init_100 : decode b_bf_init 100 = .ok (.if_icmp .ge 22, 3) := by decide +kernel
theorem d_bf_init_103 : decode b_bf_init 103 = .ok (.aload_n 0, 1) := by decide +kernel
theorem d_bf_init_104 : decode b_bf_init 104 = .ok (.getfield 18, 3) := by decide +kernel
theorem d_bf_init_107 : decode b_bf_init 107 = .ok (.iload_n 1, 1) := by decide +kernel
theorem d_bf_init_108 : decode b_bf_init 108 = .ok (.new 16, 3) := by decide +kernel
theorem d_bf_init_111 : decode b_bf_init 111 = .ok (.dup, 1) := by decide +kernel
theorem d_bf_init_112 : decode b_bf_init 112 = .ok (.invokespecial 68, 3) := by decide +kernel
theorem d_bf_init_115 : decode b_bf_init 115 = .ok (.aastore, 1) := by decide +kernel
theorem d_bf_init_116 : decode b_bf_init 116 = .ok (.iinc 1 1, 3) := by decide +kernel
theorem d_bf_init_119 : decode b_bf_init 119 = .ok (.goto (-21), 3) := by decide +kernel
theorem d_bf_init_122 : decode b_bf_init 122 = .ok (.iconst 0, 1) := by decide +kernel
theorem d_bf_init_123 : decode b_bf_init 123 = .ok (.istore_n 1, 1) := by decide +kernel
theorem d_bf_init_124 : decode b_bf_init 124 = .ok (.iload_n 1, 1) := by decide +kernel
theorem d_bf_init_125 : decode b_bf_init 125 = .ok (.iconst 5, 1) := by decide +kernel
theorem d_bf_init_126 : decode b_bf_init 126 = .ok (.if_icmp .ge 22, 3) := by decide +kernel
theorem d_bf_init_129 : decode b_bf_init 129 = .ok (.aload_n 0, 1) := by decide +kernel
theorem d_bf_init_130 : decode b_bf_init 130 = .ok (.getfield 24, 3) := by decide +kernel
theorem d_bf_init_133 : decode b_bf_init 133 = .ok (.iload_n 1, 1) := by decide +kernel
theorem d_bf_init_134 : decode b_bf_init 134 = .ok (.new 22, 3) := by decide +kernel
theorem d_bf_init_137 : decode b_bf_init 137 = .ok (.dup, 1) := by decide +kernel
theorem d_bf_init_138 : decode b_bf_init 138 = .ok (.invokespecial 69, 3) := by decide +kernel
theorem d_bf_init_141 : decode b_bf_init 141 = .ok (.aastore, 1) := by decide +kernel
theorem d_bf_init_142 : decode b_bf_init 142 = .ok (.iinc 1 1, 3) := by decide +kernel
theorem d_bf_init_145 : decode b_bf_init 145 = .ok (.goto (-21), 3) := by decide +kernel
theorem d_bf_init_148 : decode b_bf_init 148 = .ok (.iconst 0, 1) := by decide +kernel
theorem d_bf_init_149 : decode b_bf_init 149 = .ok (.istore_n 1, 1) := by decide +kernel
theorem d_bf_init_150 : decode b_bf_init 150 = .ok (.iload_n 1, 1) := by decide +kernel
theorem d_bf_init_151 : decode b_bf_init 151 = .ok (.bipush 14, 2) := by decide +kernel
theorem d_bf_init_153 : decode b_bf_init 153 = .ok (.if_icmp .gt 19, 3) := by decide +kernel
theorem d_bf_init_156 : decode b_bf_init 156 = .ok (.aload_n 0, 1) := by decide +kernel
theorem d_bf_init_157 : decode b_bf_init 157 = .ok (.getfield 49, 3) := by decide +kernel
theorem d_bf_init_160 : decode b_bf_init 160 = .ok (.iload_n 1, 1) := by decide +kernel
theorem d_bf_init_161 : decode b_bf_init 161 = .ok (.iload_n 1, 1) := by decide +kernel
theorem d_bf_init_162 : decode b_bf_init 162 = .ok (.invokestatic 70, 3) := by decide +kernel
theorem d_bf_init_165 : decode b_bf_init 165 = .ok (.iastore, 1) := by decide +kernel
theorem d_bf_init_166 : decode b_bf_init 166 = .ok (.iinc 1 1, 3) := by decide +kernel
theorem d_bf_init_169 : decode b_bf_init 169 = .ok (.goto (-19), 3) := by decide +kernel
theorem d_bf_init_172 : decode b_bf_init 172 = .ok (.return_, 1) := by decide +kernel
theorem d_bf_text_0 : decode b_bf_text 0 = .ok (.lload_n 1, 1) := by decide +kernel
theorem d_bf_text_1 : decode b_bf_text 1 = .ok (.invokestatic 76, 3) := by decide +kernel
theorem d_bf_text_4 : decode b_bf_text 4 = .ok (.istore_n 3, 1) := by decide +kernel
theorem d_bf_text_5 : decode b_bf_text 5 = .ok (.iload_n 3, 1) := by decide +kernel
theorem d_bf_text_6 : decode b_bf_text 6 = .ok (.ifCond .ge 11, 3) := by decide +kernel
theorem d_bf_text_9 : decode b_bf_text 9 = .ok (.new 80, 3) := by decide +kernel
theorem d_bf_text_12 : decode b_bf_text 12 = .ok (.dup, 1) := by decide +kernel
theorem d_bf_text_13 : decode b_bf_text 13 = .ok (.invokespecial 82, 3) := by decide +kernel
theorem d_bf_text_16 : decode b_bf_text 16 = .ok (.athrow, 1) := by decide +kernel
theorem d_bf_text_17 : decode b_bf_text 17 = .ok (.aload_n 0, 1) := by decide +kernel
theorem d_bf_text_18 : decode b_bf_text 18 = .ok (.getfield 10, 3) := by decide +kernel
theorem d_bf_text_21 : decode b_bf_text 21 = .ok (.invokevirtual 83, 3) := by decide +kernel
theorem d_bf_text_24 : decode b_bf_text 24 = .ok (.iload_n 3, 1) := by decide +kernel
theorem d_bf_text_25 : decode b_bf_text 25 = .ok (.iadd, 1) := by decide +kernel
theorem d_bf_text_26 : decode b_bf_text 26 = .ok (.bipush 60, 2) := by decide +kernel
theorem d_bf_text_28 : decode b_bf_text 28 = .ok (.if_icmp .le 11, 3) := by decide +kernel
theorem d_bf_text_31 : decode b_bf_text 31 = .ok (.new 87, 3) := by decide +kernel
theorem d_bf_text_34 : decode b_bf_text 34 = .ok (.dup, 1) := by decide +kernel
theorem d_bf_text_35 : decode b_bf_text 35 = .ok (.invokespecial 89, 3) := by decide +kernel
theorem d_bf_text_38 : decode b_bf_text 38 = .ok (.athrow, 1) := by decide +kernel
theorem d_bf_text_39 : decode b_bf_text 39 = .ok (.aload_n 0, 1) := by decide +kernel
theorem d_bf_text_40 : decode b_bf_text 40 = .ok (.getfield 10, 3) := by decide +kernel
theorem d_bf_text_43 : decode b_bf_text 43 = .ok (.lload_n 1, 1) := by decide +kernel
theorem d_bf_text_44 : decode b_bf_text 44 = .ok (.invokevirtual 90, 3) := by decide +kernel
theorem d_bf_text_47 : decode b_bf_text 47 = .ok (.aload_n 0, 1) := by decide +kernel
theorem d_bf_text_48 : decode b_bf_text 48 = .ok (.getfield 10, 3) := by decide +kernel
theorem d_bf_text_51 : decode b_bf_text 51 = .ok (.invokevirtual 83, 3) := by decide +kernel
theorem d_bf_text_54 : decode b_bf_text 54 = .ok (.ireturn, 1) := by decide +kernel
theorem d_bf_tariff_0 : decode b_bf_tariff 0 = .ok (.iload_n 1, 1) := by decide +kernel
theorem d_bf_tariff_1 : decode b_bf_tariff 1 = .ok (.invokestatic 94, 3) := by decide +kernel
theorem d_bf_tariff_4 : decode b_bf_tariff 4 = .ok (.ifCond .ne 18, 3) := by decide +kernel
theorem d_bf_tariff_7 : decode b_bf_tariff 7 = .ok (.aload_n 0, 1) := by decide +kernel
theorem d_bf_tariff_8 : decode b_bf_tariff 8 = .ok (.getfield 10, 3) := by decide +kernel
theorem d_bf_tariff_11 : decode b_bf_tariff 11 = .ok (.invokevirtual 98, 3) := by decide +kernel
theorem d_bf_tariff_14 : decode b_bf_tariff 14 = .ok (.new 80, 3) := by decide +kernel
theorem d_bf_tariff_17 : decode b_bf_tariff 17 = .ok (.dup, 1) := by decide +kernel
theorem d_bf_tariff_18 : decode b_bf_tariff 18 = .ok (.invokespecial 82, 3) := by decide +kernel
theorem d_bf_tariff_21 : decode b_bf_tariff 21 = .ok (.athrow, 1) := by decide +kernel
theorem d_bf_tariff_22 : decode b_bf_tariff 22 = .ok (.aload_n 0, 1) := by decide +kernel
theorem d_bf_tariff_23 : decode b_bf_tariff 23 = .ok (.getfield 10, 3) := by decide +kernel
theorem d_bf_tariff_26 : decode b_bf_tariff 26 = .ok (.invokevirtual 101, 3) := by decide +kernel
theorem d_bf_tariff_29 : decode b_bf_tariff 29 = .ok (.ifCond .ne 11, 3) := by decide +kernel
theorem d_bf_tariff_32 : decode b_bf_tariff 32 = .ok (.new 80, 3) := by decide +kernel
theorem d_bf_tariff_35 : decode b_bf_tariff 35 = .ok (.dup, 1) := by decide +kernel
theorem d_bf_tariff_36 : decode b_bf_tariff 36 = .ok (.invokespecial 82, 3) := by decide +kernel
theorem d_bf_tariff_39 : decode b_bf_tariff 39 = .ok (.athrow, 1) := by decide +kernel
theorem d_bf_tariff_40 : decode b_bf_tariff 40 = .ok (.aload_n 0, 1) := by decide +kernel
theorem d_bf_tariff_41 : decode b_bf_tariff 41 = .ok (.getfield 18, 3) := by decide +kernel
theorem d_bf_tariff_44 : decode b_bf_tariff 44 = .ok (.iload_n 1, 1) := by decide +kernel
theorem d_bf_tariff_45 : decode b_bf_tariff 45 = .ok (.aaload, 1) := by decide +kernel
theorem d_bf_tariff_46 : decode b_bf_tariff 46 = .ok (.aload_n 0, 1) := by decide +kernel
theorem d_bf_tariff_47 : decode b_bf_tariff 47 = .ok (.getfield 10, 3) := by decide +kernel
theorem d_bf_tariff_50 : decode b_bf_tariff 50 = .ok (.invokevirtual 105, 3) := by decide +kernel
theorem d_bf_tariff_53 : decode b_bf_tariff 53 = .ok (.invokevirtual 109, 3) := by decide +kernel
theorem d_bf_tariff_56 : decode b_bf_tariff 56 = .ok (.aload_n 0, 1) := by decide +kernel
theorem d_bf_tariff_57 : decode b_bf_tariff 57 = .ok (.getfield 10, 3) := by decide +kernel
theorem d_bf_tariff_60 : decode b_bf_tariff 60 = .ok (.invokevirtual 113, 3) := by decide +kernel
theorem d_bf_tariff_63 : decode b_bf_tariff 63 = .ok (.aload_n 0, 1) := by decide +kernel
theorem d_bf_tariff_64 : decode b_bf_tariff 64 = .ok (.getfield 10, 3) := by decide +kernel
theorem d_bf_tariff_67 : decode b_bf_tariff 67 = .ok (.invokevirtual 116, 3) := by decide +kernel
theorem d_bf_tariff_70 : decode b_bf_tariff 70 = .ok (.ireturn, 1) := by decide +kernel
theorem d_bf_where_0 : decode b_bf_where 0 = .ok (.aload_n 0, 1) := by decide +kernel
theorem d_bf_where_1 : decode b_bf_where 1 = .ok (.getfield 10, 3) := by decide +kernel
theorem d_bf_where_4 : decode b_bf_where 4 = .ok (.invokevirtual 119, 3) := by decide +kernel
theorem d_bf_where_7 : decode b_bf_where 7 = .ok (.ireturn, 1) := by decide +kernel
theorem d_bf_use_0 : decode b_bf_use 0 = .ok (.iload_n 1, 1) := by decide +kernel
theorem d_bf_use_1 : decode b_bf_use 1 = .ok (.invokestatic 94, 3) := by decide +kernel
theorem d_bf_use_4 : decode b_bf_use 4 = .ok (.ifCond .eq 13, 3) := by decide +kernel
theorem d_bf_use_7 : decode b_bf_use 7 = .ok (.iload_n 2, 1) := by decide +kernel
theorem d_bf_use_8 : decode b_bf_use 8 = .ok (.ifCond .lt 9, 3) := by decide +kernel
theorem d_bf_use_11 : decode b_bf_use 11 = .ok (.iload_n 2, 1) := by decide +kernel
theorem d_bf_use_12 : decode b_bf_use 12 = .ok (.ldc 122, 2) := by decide +kernel
theorem d_bf_use_14 : decode b_bf_use 14 = .ok (.if_icmp .le 11, 3) := by decide +kernel
theorem d_bf_use_17 : decode b_bf_use 17 = .ok (.new 80, 3) := by decide +kernel
theorem d_bf_use_20 : decode b_bf_use 20 = .ok (.dup, 1) := by decide +kernel
theorem d_bf_use_21 : decode b_bf_use 21 = .ok (.invokespecial 82, 3) := by decide +kernel
theorem d_bf_use_24 : decode b_bf_use 24 = .ok (.athrow, 1) := by decide +kernel
theorem d_bf_use_25 : decode b_bf_use 25 = .ok (.aload_n 0, 1) := by decide +kernel
theorem d_bf_use_26 : decode b_bf_use 26 = .ok (.getfield 18, 3) := by decide +kernel
theorem d_bf_use_29 : decode b_bf_use 29 = .ok (.iload_n 1, 1) := by decide +kernel
theorem d_bf_use_30 : decode b_bf_use 30 = .ok (.aaload, 1) := by decide +kernel
theorem d_bf_use_31 : decode b_bf_use 31 = .ok (.iload_n 2, 1) := by decide +kernel
theorem d_bf_use_32 : decode b_bf_use 32 = .ok (.i2l, 1) := by decide +kernel
theorem d_bf_use_33 : decode b_bf_use 33 = .ok (.iconst 1, 1) := by decide +kernel
theorem d_bf_use_34 : decode b_bf_use 34 = .ok (.iconst 1, 1) := by decide +kernel
theorem d_bf_use_35 : decode b_bf_use 35 = .ok (.invokevirtual 123, 3) := by decide +kernel
theorem d_bf_use_38 : decode b_bf_use 38 = .ok (.lreturn, 1) := by decide +kernel
theorem d_bf_subscribe_0 : decode b_bf_subscribe 0 = .ok (.iload_n 1, 1) := by decide +kernel
theorem d_bf_subscribe_1 : decode b_bf_subscribe 1 = .ok (.invokestatic 127, 3) := by decide +kernel
theorem d_bf_subscribe_4 : decode b_bf_subscribe 4 = .ok (.ifCond .eq 15, 3) := by decide +kernel
theorem d_bf_subscribe_7 : decode b_bf_subscribe 7 = .ok (.iload_n 2, 1) := by decide +kernel
theorem d_bf_subscribe_8 : decode b_bf_subscribe 8 = .ok (.iconst (-1), 1) := by decide +kernel
theorem d_bf_subscribe_9 : decode b_bf_subscribe 9 = .ok (.if_icmp .eq 18, 3) := by decide +kernel
theorem d_bf_subscribe_12 : decode b_bf_subscribe 12 = .ok (.iload_n 2, 1) := by decide +kernel
theorem d_bf_subscribe_13 : decode b_bf_subscribe 13 = .ok (.invokestatic 94, 3) := by decide +kernel
theorem d_bf_subscribe_16 : decode b_bf_subscribe 16 = .ok (.ifCond .ne 11, 3) := by decide +kernel
theorem d_bf_subscribe_19 : decode b_bf_subscribe 19 = .ok (.new 80, 3) := by decide +kernel
theorem d_bf_subscribe_22 : decode b_bf_subscribe 22 = .ok (.dup, 1) := by decide +kernel
theorem d_bf_subscribe_23 : decode b_bf_subscribe 23 = .ok (.invokespecial 82, 3) := by decide +kernel
theorem d_bf_subscribe_26 : decode b_bf_subscribe 26 = .ok (.athrow, 1) := by decide +kernel
theorem d_bf_subscribe_27 : decode b_bf_subscribe 27 = .ok (.aload_n 0, 1) := by decide +kernel
theorem d_bf_subscribe_28 : decode b_bf_subscribe 28 = .ok (.getfield 24, 3) := by decide +kernel
theorem d_bf_subscribe_31 : decode b_bf_subscribe 31 = .ok (.iload_n 1, 1) := by decide +kernel
theorem d_bf_subscribe_32 : decode b_bf_subscribe 32 = .ok (.aaload, 1) := by decide +kernel
theorem d_bf_subscribe_33 : decode b_bf_subscribe 33 = .ok (.invokevirtual 130, 3) := by decide +kernel
theorem d_bf_subscribe_36 : decode b_bf_subscribe 36 = .ok (.istore_n 3, 1) := by decide +kernel
theorem d_bf_subscribe_37 : decode b_bf_subscribe 37 = .ok (.aload_n 0, 1) := by decide +kernel
theorem d_bf_subscribe_38 : decode b_bf_subscribe 38 = .ok (.getfield 24, 3) := by decide +kernel
theorem d_bf_subscribe_41 : decode b_bf_subscribe 41 = .ok (.iload_n 1, 1) := by decide +kernel
theorem d_bf_subscribe_42 : decode b_bf_subscribe 42 = .ok (.aaload, 1) := by decide +kernel
theorem d_bf_subscribe_43 : decode b_bf_subscribe 43 = .ok (.iload_n 2, 1) := by decide +kernel
theorem d_bf_subscribe_44 : decode b_bf_subscribe 44 = .ok (.invokevirtual 133, 3) := by decide +kernel
theorem d_bf_subscribe_47 : decode b_bf_subscribe 47 = .ok (.iload_n 3, 1) := by decide +kernel
theorem d_bf_subscribe_48 : decode b_bf_subscribe 48 = .ok (.ireturn, 1) := by decide +kernel
theorem d_bf_pause_0 : decode b_bf_pause 0 = .ok (.iload_n 1, 1) := by decide +kernel
theorem d_bf_pause_1 : decode b_bf_pause 1 = .ok (.invokestatic 127, 3) := by decide +kernel
theorem d_bf_pause_4 : decode b_bf_pause 4 = .ok (.ifCond .ne 11, 3) := by decide +kernel
theorem d_bf_pause_7 : decode b_bf_pause 7 = .ok (.new 80, 3) := by decide +kernel
theorem d_bf_pause_10 : decode b_bf_pause 10 = .ok (.dup, 1) := by decide +kernel
theorem d_bf_pause_11 : decode b_bf_pause 11 = .ok (.invokespecial 82, 3) := by decide +kernel
theorem d_bf_pause_14 : decode b_bf_pause 14 = .ok (.athrow, 1) := by decide +kernel
theorem d_bf_pause_15 : decode b_bf_pause 15 = .ok (.aload_n 0, 1) := by decide +kernel
theorem d_bf_pause_16 : decode b_bf_pause 16 = .ok (.getfield 24, 3) := by decide +kernel
theorem d_bf_pause_19 : decode b_bf_pause 19 = .ok (.iload_n 1, 1) := by decide +kernel
theorem d_bf_pause_20 : decode b_bf_pause 20 = .ok (.aaload, 1) := by decide +kernel
theorem d_bf_pause_21 : decode b_bf_pause 21 = .ok (.astore_n 3, 1) := by decide +kernel
theorem d_bf_pause_22 : decode b_bf_pause 22 = .ok (.aload_n 3, 1) := by decide +kernel
theorem d_bf_pause_23 : decode b_bf_pause 23 = .ok (.invokevirtual 130, 3) := by decide +kernel
theorem d_bf_pause_26 : decode b_bf_pause 26 = .ok (.iconst (-1), 1) := by decide +kernel
theorem d_bf_pause_27 : decode b_bf_pause 27 = .ok (.if_icmp .eq 14, 3) := by decide +kernel
theorem d_bf_pause_30 : decode b_bf_pause 30 = .ok (.iload_n 2, 1) := by decide +kernel
theorem d_bf_pause_31 : decode b_bf_pause 31 = .ok (.ifCond .ne 18, 3) := by decide +kernel
theorem d_bf_pause_34 : decode b_bf_pause 34 = .ok (.aload_n 3, 1) := by decide +kernel
theorem d_bf_pause_35 : decode b_bf_pause 35 = .ok (.invokevirtual 137, 3) := by decide +kernel
theorem d_bf_pause_38 : decode b_bf_pause 38 = .ok (.ifCond .eq 11, 3) := by decide +kernel
theorem d_bf_pause_41 : decode b_bf_pause 41 = .ok (.new 87, 3) := by decide +kernel
theorem d_bf_pause_44 : decode b_bf_pause 44 = .ok (.dup, 1) := by decide +kernel
theorem d_bf_pause_45 : decode b_bf_pause 45 = .ok (.invokespecial 89, 3) := by decide +kernel
theorem d_bf_pause_48 : decode b_bf_pause 48 = .ok (.athrow, 1) := by decide +kernel
theorem d_bf_pause_49 : decode b_bf_pause 49 = .ok (.aload_n 3, 1) := by decide +kernel
theorem d_bf_pause_50 : decode b_bf_pause 50 = .ok (.invokevirtual 140, 3) := by decide +kernel
theorem d_bf_pause_53 : decode b_bf_pause 53 = .ok (.iload_n 2, 1) := by decide +kernel
theorem d_bf_pause_54 : decode b_bf_pause 54 = .ok (.if_icmp .eq 7, 3) := by decide +kernel
theorem d_bf_pause_57 : decode b_bf_pause 57 = .ok (.iconst 1, 1) := by decide +kernel
theorem d_bf_pause_58 : decode b_bf_pause 58 = .ok (.goto 4, 3) := by decide +kernel
theorem d_bf_pause_61 : decode b_bf_pause 61 = .ok (.iconst 0, 1) := by decide +kernel
theorem d_bf_pause_62 : decode b_bf_pause 62 = .ok (.istore 4, 2) := by decide +kernel
theorem d_bf_pause_64 : decode b_bf_pause 64 = .ok (.aload_n 3, 1) := by decide +kernel
theorem d_bf_pause_65 : decode b_bf_pause 65 = .ok (.iload_n 2, 1) := by decide +kernel
theorem d_bf_pause_66 : decode b_bf_pause 66 = .ok (.invokevirtual 143, 3) := by decide +kernel
theorem d_bf_pause_69 : decode b_bf_pause 69 = .ok (.iload 4, 2) := by decide +kernel
theorem d_bf_pause_71 : decode b_bf_pause 71 = .ok (.ireturn, 1) := by decide +kernel
theorem d_bf_event_0 : decode b_bf_event 0 = .ok (.iload_n 2, 1) := by decide +kernel
theorem d_bf_event_1 : decode b_bf_event 1 = .ok (.invokestatic 127, 3) := by decide +kernel
theorem d_bf_event_4 : decode b_bf_event 4 = .ok (.ifCond .eq 17, 3) := by decide +kernel
theorem d_bf_event_7 : decode b_bf_event 7 = .ok (.iload 4, 2) := by decide +kernel
theorem d_bf_event_9 : decode b_bf_event 9 = .ok (.iconst 1, 1) := by decide +kernel
theorem d_bf_event_10 : decode b_bf_event 10 = .ok (.if_icmp .lt 11, 3) := by decide +kernel
theorem d_bf_event_13 : decode b_bf_event 13 = .ok (.iload 4, 2) := by decide +kernel
theorem d_bf_event_15 : decode b_bf_event 15 = .ok (.sipush 10000, 3) := by decide +kernel
theorem d_bf_event_18 : decode b_bf_event 18 = .ok (.if_icmp .le 11, 3) := by decide +kernel
theorem d_bf_event_21 : decode b_bf_event 21 = .ok (.new 80, 3) := by decide +kernel
theorem d_bf_event_24 : decode b_bf_event 24 = .ok (.dup, 1) := by decide +kernel
theorem d_bf_event_25 : decode b_bf_event 25 = .ok (.invokespecial 82, 3) := by decide +kernel
theorem d_bf_event_28 : decode b_bf_event 28 = .ok (.athrow, 1) := by decide +kernel
theorem d_bf_event_29 : decode b_bf_event 29 = .ok (.iload_n 3, 1) := by decide +kernel
theorem d_bf_event_30 : decode b_bf_event 30 = .ok (.ifCond .lt 22, 3) := by decide +kernel
theorem d_bf_event_33 : decode b_bf_event 33 = .ok (.iload_n 3, 1) := by decide +kernel
theorem d_bf_event_34 : decode b_bf_event 34 = .ok (.aload_n 0, 1) := by decide +kernel
theorem d_bf_event_35 : decode b_bf_event 35 = .ok (.getfield 60, 3) := by decide +kernel
theorem d_bf_event_38 : decode b_bf_event 38 = .ok (.if_icmp .gt 14, 3) := by decide +kernel
theorem d_bf_event_41 : decode b_bf_event 41 = .ok (.iload_n 3, 1) := by decide +kernel
theorem d_bf_event_42 : decode b_bf_event 42 = .ok (.aload_n 0, 1) := by decide +kernel
theorem d_bf_event_43 : decode b_bf_event 43 = .ok (.getfield 60, 3) := by decide +kernel
theorem d_bf_event_46 : decode b_bf_event 46 = .ok (.bipush 45, 2) := by decide +kernel
theorem d_bf_event_48 : decode b_bf_event 48 = .ok (.isub, 1) := by decide +kernel
theorem d_bf_event_49 : decode b_bf_event 49 = .ok (.if_icmp .ge 11, 3) := by decide +kernel
theorem d_bf_event_52 : decode b_bf_event 52 = .ok (.new 147, 3) := by decide +kernel
theorem d_bf_event_55 : decode b_bf_event 55 = .ok (.dup, 1) := by decide +kernel
theorem d_bf_event_56 : decode b_bf_event 56 = .ok (.invokespecial 149, 3) := by decide +kernel
theorem d_bf_event_59 : decode b_bf_event 59 = .ok (.athrow, 1) := by decide +kernel
theorem d_bf_event_60 : decode b_bf_event 60 = .ok (.aload_n 0, 1) := by decide +kernel
theorem d_bf_event_61 : decode b_bf_event 61 = .ok (.getfield 31, 3) := by decide +kernel
theorem d_bf_event_64 : decode b_bf_event 64 = .ok (.iload_n 1, 1) := by decide +kernel
theorem d_bf_event_65 : decode b_bf_event 65 = .ok (.invokevirtual 150, 3) := by decide +kernel
theorem d_bf_event_68 : decode b_bf_event 68 = .ok (.ifCond .eq 5, 3) := by decide +kernel
theorem d_bf_event_71 : decode b_bf_event 71 = .ok (.iconst 0, 1) := by decide +kernel
theorem d_bf_event_72 : decode b_bf_event 72 = .ok (.ireturn, 1) := by decide +kernel
theorem d_bf_event_73 : decode b_bf_event 73 = .ok (.aload_n 0, 1) := by decide +kernel
theorem d_bf_event_74 : decode b_bf_event 74 = .ok (.getfield 31, 3) := by decide +kernel
theorem d_bf_event_77 : decode b_bf_event 77 = .ok (.invokevirtual 153, 3) := by decide +kernel
theorem d_bf_event_80 : decode b_bf_event 80 = .ok (.ifCond .eq 11, 3) := by decide +kernel
theorem d_bf_event_83 : decode b_bf_event 83 = .ok (.new 87, 3) := by decide +kernel
theorem d_bf_event_86 : decode b_bf_event 86 = .ok (.dup, 1) := by decide +kernel
theorem d_bf_event_87 : decode b_bf_event 87 = .ok (.invokespecial 89, 3) := by decide +kernel
theorem d_bf_event_90 : decode b_bf_event 90 = .ok (.athrow, 1) := by decide +kernel
theorem d_bf_event_91 : decode b_bf_event 91 = .ok (.aload_n 0, 1) := by decide +kernel
theorem d_bf_event_92 : decode b_bf_event 92 = .ok (.getfield 31, 3) := by decide +kernel
theorem d_bf_event_95 : decode b_bf_event 95 = .ok (.iload_n 1, 1) := by decide +kernel
theorem d_bf_event_96 : decode b_bf_event 96 = .ok (.iload_n 2, 1) := by decide +kernel
theorem d_bf_event_97 : decode b_bf_event 97 = .ok (.iload_n 3, 1) := by decide +kernel
theorem d_bf_event_98 : decode b_bf_event 98 = .ok (.iload 4, 2) := by decide +kernel
theorem d_bf_event_100 : decode b_bf_event 100 = .ok (.invokevirtual 156, 3) := by decide +kernel
theorem d_bf_event_103 : decode b_bf_event 103 = .ok (.aload_n 0, 1) := by decide +kernel
theorem d_bf_event_104 : decode b_bf_event 104 = .ok (.getfield 31, 3) := by decide +kernel
theorem d_bf_event_107 : decode b_bf_event 107 = .ok (.invokevirtual 160, 3) := by decide +kernel
theorem d_bf_event_110 : decode b_bf_event 110 = .ok (.ireturn, 1) := by decide +kernel
theorem d_bf_tick_0 : decode b_bf_tick 0 = .ok (.iload_n 1, 1) := by decide +kernel
theorem d_bf_tick_1 : decode b_bf_tick 1 = .ok (.iconst 1, 1) := by decide +kernel
theorem d_bf_tick_2 : decode b_bf_tick 2 = .ok (.if_icmp .lt 9, 3) := by decide +kernel
theorem d_bf_tick_5 : decode b_bf_tick 5 = .ok (.iload_n 1, 1) := by decide +kernel
theorem d_bf_tick_6 : decode b_bf_tick 6 = .ok (.bipush 40, 2) := by decide +kernel
theorem d_bf_tick_8 : decode b_bf_tick 8 = .ok (.if_icmp .le 11, 3) := by decide +kernel
theorem d_bf_tick_11 : decode b_bf_tick 11 = .ok (.new 80, 3) := by decide +kernel
theorem d_bf_tick_14 : decode b_bf_tick 14 = .ok (.dup, 1) := by decide +kernel
theorem d_bf_tick_15 : decode b_bf_tick 15 = .ok (.invokespecial 82, 3) := by decide +kernel
theorem d_bf_tick_18 : decode b_bf_tick 18 = .ok (.athrow, 1) := by decide +kernel
theorem d_bf_tick_19 : decode b_bf_tick 19 = .ok (.aload_n 0, 1) := by decide +kernel
theorem d_bf_tick_20 : decode b_bf_tick 20 = .ok (.getfield 60, 3) := by decide +kernel
theorem d_bf_tick_23 : decode b_bf_tick 23 = .ok (.iload_n 1, 1) := by decide +kernel
theorem d_bf_tick_24 : decode b_bf_tick 24 = .ok (.iadd, 1) := by decide +kernel
theorem d_bf_tick_25 : decode b_bf_tick 25 = .ok (.sipush 400, 3) := by decide +kernel
theorem d_bf_tick_28 : decode b_bf_tick 28 = .ok (.if_icmp .le 11, 3) := by decide +kernel
theorem d_bf_tick_31 : decode b_bf_tick 31 = .ok (.new 87, 3) := by decide +kernel
theorem d_bf_tick_34 : decode b_bf_tick 34 = .ok (.dup, 1) := by decide +kernel
theorem d_bf_tick_35 : decode b_bf_tick 35 = .ok (.invokespecial 89, 3) := by decide +kernel
theorem d_bf_tick_38 : decode b_bf_tick 38 = .ok (.athrow, 1) := by decide +kernel
theorem d_bf_tick_39 : decode b_bf_tick 39 = .ok (.iconst 0, 1) := by decide +kernel
theorem d_bf_tick_40 : decode b_bf_tick 40 = .ok (.istore_n 2, 1) := by decide +kernel
theorem d_bf_tick_41 : decode b_bf_tick 41 = .ok (.iload_n 2, 1) := by decide +kernel
theorem d_bf_tick_42 : decode b_bf_tick 42 = .ok (.iload_n 1, 1) := by decide +kernel
theorem d_bf_tick_43 : decode b_bf_tick 43 = .ok (.if_icmp .ge 13, 3) := by decide +kernel
theorem d_bf_tick_46 : decode b_bf_tick 46 = .ok (.aload_n 0, 1) := by decide +kernel
theorem d_bf_tick_47 : decode b_bf_tick 47 = .ok (.invokevirtual 163, 3) := by decide +kernel
theorem d_bf_tick_50 : decode b_bf_tick 50 = .ok (.iinc 2 1, 3) := by decide +kernel
theorem d_bf_tick_53 : decode b_bf_tick 53 = .ok (.goto (-12), 3) := by decide +kernel
theorem d_bf_tick_56 : decode b_bf_tick 56 = .ok (.aload_n 0, 1) := by decide +kernel
theorem d_bf_tick_57 : decode b_bf_tick 57 = .ok (.getfield 60, 3) := by decide +kernel
theorem d_bf_tick_60 : decode b_bf_tick 60 = .ok (.ireturn, 1) := by decide +kernel
theorem d_bf_run_0 : decode b_bf_run 0 = .ok (.aload_n 0, 1) := by decide +kernel
theorem d_bf_run_1 : decode b_bf_run 1 = .ok (.getfield 38, 3) := by decide +kernel
theorem d_bf_run_4 : decode b_bf_run 4 = .ok (.invokevirtual 166, 3) := by decide +kernel
theorem d_bf_run_7 : decode b_bf_run 7 = .ok (.istore_n 1, 1) := by decide +kernel
theorem d_bf_run_8 : decode b_bf_run 8 = .ok (.iconst 0, 1) := by decide +kernel
theorem d_bf_run_9 : decode b_bf_run 9 = .ok (.istore_n 2, 1) := by decide +kernel
theorem d_bf_run_10 : decode b_bf_run 10 = .ok (.iload_n 2, 1) := by decide +kernel
theorem d_bf_run_11 : decode b_bf_run 11 = .ok (.iconst 5, 1) := by decide +kernel
theorem d_bf_run_12 : decode b_bf_run 12 = .ok (.if_icmp .ge 44, 3) := by decide +kernel
theorem d_bf_run_15 : decode b_bf_run 15 = .ok (.iconst 0, 1) := by decide +kernel
theorem d_bf_run_16 : decode b_bf_run 16 = .ok (.istore_n 3, 1) := by decide +kernel
theorem d_bf_run_17 : decode b_bf_run 17 = .ok (.iload_n 3, 1) := by decide +kernel
theorem d_bf_run_18 : decode b_bf_run 18 = .ok (.bipush 14, 2) := by decide +kernel
theorem d_bf_run_20 : decode b_bf_run 20 = .ok (.if_icmp .ge 30, 3) := by decide +kernel
theorem d_bf_run_23 : decode b_bf_run 23 = .ok (.aload_n 0, 1) := by decide +kernel
theorem d_bf_run_24 : decode b_bf_run 24 = .ok (.getfield 49, 3) := by decide +kernel
theorem d_bf_run_27 : decode b_bf_run 27 = .ok (.iload_n 3, 1) := by decide +kernel
theorem d_bf_run_28 : decode b_bf_run 28 = .ok (.iconst 1, 1) := by decide +kernel
theorem d_bf_run_29 : decode b_bf_run 29 = .ok (.iadd, 1) := by decide +kernel
theorem d_bf_run_30 : decode b_bf_run 30 = .ok (.iaload, 1) := by decide +kernel
theorem d_bf_run_31 : decode b_bf_run 31 = .ok (.aload_n 0, 1) := by decide +kernel
theorem d_bf_run_32 : decode b_bf_run 32 = .ok (.getfield 60, 3) := by decide +kernel
theorem d_bf_run_35 : decode b_bf_run 35 = .ok (.if_icmp .gt 15, 3) := by decide +kernel
theorem d_bf_run_38 : decode b_bf_run 38 = .ok (.aload_n 0, 1) := by decide +kernel
theorem d_bf_run_39 : decode b_bf_run 39 = .ok (.iload_n 2, 1) := by decide +kernel
theorem d_bf_run_40 : decode b_bf_run 40 = .ok (.iload_n 3, 1) := by decide +kernel
theorem d_bf_run_41 : decode b_bf_run 41 = .ok (.invokevirtual 167, 3) := by decide +kernel
theorem d_bf_run_44 : decode b_bf_run 44 = .ok (.iinc 3 1, 3) := by decide +kernel
theorem d_bf_run_47 : decode b_bf_run 47 = .ok (.goto (-30), 3) := by decide +kernel
theorem d_bf_run_50 : decode b_bf_run 50 = .ok (.iinc 2 1, 3) := by decide +kernel
theorem d_bf_run_53 : decode b_bf_run 53 = .ok (.goto (-43), 3) := by decide +kernel
theorem d_bf_run_56 : decode b_bf_run 56 = .ok (.aload_n 0, 1) := by decide +kernel
theorem d_bf_run_57 : decode b_bf_run 57 = .ok (.getfield 38, 3) := by decide +kernel
theorem d_bf_run_60 : decode b_bf_run 60 = .ok (.invokevirtual 166, 3) := by decide +kernel
theorem d_bf_run_63 : decode b_bf_run 63 = .ok (.iload_n 1, 1) := by decide +kernel
theorem d_bf_run_64 : decode b_bf_run 64 = .ok (.isub, 1) := by decide +kernel
theorem d_bf_run_65 : decode b_bf_run 65 = .ok (.ireturn, 1) := by decide +kernel
theorem d_bf_pay_0 : decode b_bf_pay 0 = .ok (.iload_n 1, 1) := by decide +kernel
theorem d_bf_pay_1 : decode b_bf_pay 1 = .ok (.invokestatic 127, 3) := by decide +kernel
theorem d_bf_pay_4 : decode b_bf_pay 4 = .ok (.ifCond .eq 10, 3) := by decide +kernel
theorem d_bf_pay_7 : decode b_bf_pay 7 = .ok (.lload_n 2, 1) := by decide +kernel
theorem d_bf_pay_8 : decode b_bf_pay 8 = .ok (.invokestatic 171, 3) := by decide +kernel
theorem d_bf_pay_11 : decode b_bf_pay 11 = .ok (.ifCond .ne 11, 3) := by decide +kernel
theorem d_bf_pay_14 : decode b_bf_pay 14 = .ok (.new 80, 3) := by decide +kernel
theorem d_bf_pay_17 : decode b_bf_pay 17 = .ok (.dup, 1) := by decide +kernel
theorem d_bf_pay_18 : decode b_bf_pay 18 = .ok (.invokespecial 82, 3) := by decide +kernel
theorem d_bf_pay_21 : decode b_bf_pay 21 = .ok (.athrow, 1) := by decide +kernel
theorem d_bf_pay_22 : decode b_bf_pay 22 = .ok (.aload_n 0, 1) := by decide +kernel
theorem d_bf_pay_23 : decode b_bf_pay 23 = .ok (.getfield 24, 3) := by decide +kernel
theorem d_bf_pay_26 : decode b_bf_pay 26 = .ok (.iload_n 1, 1) := by decide +kernel
theorem d_bf_pay_27 : decode b_bf_pay 27 = .ok (.aaload, 1) := by decide +kernel
theorem d_bf_pay_28 : decode b_bf_pay 28 = .ok (.invokevirtual 175, 3) := by decide +kernel
theorem d_bf_pay_31 : decode b_bf_pay 31 = .ok (.lstore 4, 2) := by decide +kernel
theorem d_bf_pay_33 : decode b_bf_pay 33 = .ok (.aload_n 0, 1) := by decide +kernel
theorem d_bf_pay_34 : decode b_bf_pay 34 = .ok (.dup, 1) := by decide +kernel
theorem d_bf_pay_35 : decode b_bf_pay 35 = .ok (.getfield 64, 3) := by decide +kernel
theorem d_bf_pay_38 : decode b_bf_pay 38 = .ok (.lload_n 2, 1) := by decide +kernel
theorem d_bf_pay_39 : decode b_bf_pay 39 = .ok (.ladd, 1) := by decide +kernel
theorem d_bf_pay_40 : decode b_bf_pay 40 = .ok (.putfield 64, 3) := by decide +kernel
theorem d_bf_pay_43 : decode b_bf_pay 43 = .ok (.aload_n 0, 1) := by decide +kernel
theorem d_bf_pay_44 : decode b_bf_pay 44 = .ok (.getfield 24, 3) := by decide +kernel
theorem d_bf_pay_47 : decode b_bf_pay 47 = .ok (.iload_n 1, 1) := by decide +kernel
theorem d_bf_pay_48 : decode b_bf_pay 48 = .ok (.aaload, 1) := by decide +kernel
theorem d_bf_pay_49 : decode b_bf_pay 49 = .ok (.lload_n 2, 1) := by decide +kernel
theorem d_bf_pay_50 : decode b_bf_pay 50 = .ok (.invokevirtual 179, 3) := by decide +kernel
theorem d_bf_pay_53 : decode b_bf_pay 53 = .ok (.aload_n 0, 1) := by decide +kernel
theorem d_bf_pay_54 : decode b_bf_pay 54 = .ok (.iload_n 1, 1) := by decide +kernel
theorem d_bf_pay_55 : decode b_bf_pay 55 = .ok (.invokevirtual 182, 3) := by decide +kernel
theorem d_bf_pay_58 : decode b_bf_pay 58 = .ok (.aload_n 0, 1) := by decide +kernel
theorem d_bf_pay_59 : decode b_bf_pay 59 = .ok (.getfield 24, 3) := by decide +kernel
theorem d_bf_pay_62 : decode b_bf_pay 62 = .ok (.iload_n 1, 1) := by decide +kernel
theorem d_bf_pay_63 : decode b_bf_pay 63 = .ok (.aaload, 1) := by decide +kernel
theorem d_bf_pay_64 : decode b_bf_pay 64 = .ok (.invokevirtual 175, 3) := by decide +kernel
theorem d_bf_pay_67 : decode b_bf_pay 67 = .ok (.lload 4, 2) := by decide +kernel
theorem d_bf_pay_69 : decode b_bf_pay 69 = .ok (.lsub, 1) := by decide +kernel
theorem d_bf_pay_70 : decode b_bf_pay 70 = .ok (.lreturn, 1) := by decide +kernel
theorem d_bf_plan_0 : decode b_bf_plan 0 = .ok (.iload_n 1, 1) := by decide +kernel
theorem d_bf_plan_1 : decode b_bf_plan 1 = .ok (.invokestatic 127, 3) := by decide +kernel
theorem d_bf_plan_4 : decode b_bf_plan 4 = .ok (.ifCond .eq 24, 3) := by decide +kernel
theorem d_bf_plan_7 : decode b_bf_plan 7 = .ok (.lload_n 2, 1) := by decide +kernel
theorem d_bf_plan_8 : decode b_bf_plan 8 = .ok (.invokestatic 171, 3) := by decide +kernel
theorem d_bf_plan_11 : decode b_bf_plan 11 = .ok (.ifCond .eq 17, 3) := by decide +kernel
theorem d_bf_plan_14 : decode b_bf_plan 14 = .ok (.iload 4, 2) := by decide +kernel
theorem d_bf_plan_16 : decode b_bf_plan 16 = .ok (.iconst 1, 1) := by decide +kernel
theorem d_bf_plan_17 : decode b_bf_plan 17 = .ok (.if_icmp .lt 11, 3) := by decide +kernel
theorem d_bf_plan_20 : decode b_bf_plan 20 = .ok (.iload 4, 2) := by decide +kernel
theorem d_bf_plan_22 : decode b_bf_plan 22 = .ok (.sipush 400, 3) := by decide +kernel
theorem d_bf_plan_25 : decode b_bf_plan 25 = .ok (.if_icmp .le 11, 3) := by decide +kernel
theorem d_bf_plan_28 : decode b_bf_plan 28 = .ok (.new 80, 3) := by decide +kernel
theorem d_bf_plan_31 : decode b_bf_plan 31 = .ok (.dup, 1) := by decide +kernel
theorem d_bf_plan_32 : decode b_bf_plan 32 = .ok (.invokespecial 82, 3) := by decide +kernel
theorem d_bf_plan_35 : decode b_bf_plan 35 = .ok (.athrow, 1) := by decide +kernel
theorem d_bf_plan_36 : decode b_bf_plan 36 = .ok (.aload_n 0, 1) := by decide +kernel
theorem d_bf_plan_37 : decode b_bf_plan 37 = .ok (.getfield 45, 3) := by decide +kernel
theorem d_bf_plan_40 : decode b_bf_plan 40 = .ok (.invokevirtual 185, 3) := by decide +kernel
theorem d_bf_plan_43 : decode b_bf_plan 43 = .ok (.ifCond .eq 11, 3) := by decide +kernel
theorem d_bf_plan_46 : decode b_bf_plan 46 = .ok (.new 87, 3) := by decide +kernel
theorem d_bf_plan_49 : decode b_bf_plan 49 = .ok (.dup, 1) := by decide +kernel
theorem d_bf_plan_50 : decode b_bf_plan 50 = .ok (.invokespecial 89, 3) := by decide +kernel
theorem d_bf_plan_53 : decode b_bf_plan 53 = .ok (.athrow, 1) := by decide +kernel
theorem d_bf_plan_54 : decode b_bf_plan 54 = .ok (.aload_n 0, 1) := by decide +kernel
theorem d_bf_plan_55 : decode b_bf_plan 55 = .ok (.dup, 1) := by decide +kernel
theorem d_bf_plan_56 : decode b_bf_plan 56 = .ok (.getfield 64, 3) := by decide +kernel
theorem d_bf_plan_59 : decode b_bf_plan 59 = .ok (.lload_n 2, 1) := by decide +kernel
theorem d_bf_plan_60 : decode b_bf_plan 60 = .ok (.ladd, 1) := by decide +kernel
theorem d_bf_plan_61 : decode b_bf_plan 61 = .ok (.putfield 64, 3) := by decide +kernel
theorem d_bf_plan_64 : decode b_bf_plan 64 = .ok (.aload_n 0, 1) := by decide +kernel
theorem d_bf_plan_65 : decode b_bf_plan 65 = .ok (.getfield 45, 3) := by decide +kernel
theorem d_bf_plan_68 : decode b_bf_plan 68 = .ok (.iload_n 1, 1) := by decide +kernel
theorem d_bf_plan_69 : decode b_bf_plan 69 = .ok (.lload_n 2, 1) := by decide +kernel
theorem d_bf_plan_70 : decode b_bf_plan 70 = .ok (.iload 4, 2) := by decide +kernel
theorem d_bf_plan_72 : decode b_bf_plan 72 = .ok (.aload_n 0, 1) := by decide +kernel
theorem d_bf_plan_73 : decode b_bf_plan 73 = .ok (.getfield 60, 3) := by decide +kernel
theorem d_bf_plan_76 : decode b_bf_plan 76 = .ok (.invokevirtual 186, 3) := by decide +kernel
theorem d_bf_plan_79 : decode b_bf_plan 79 = .ok (.aload_n 0, 1) := by decide +kernel
theorem d_bf_plan_80 : decode b_bf_plan 80 = .ok (.getfield 45, 3) := by decide +kernel
theorem d_bf_plan_83 : decode b_bf_plan 83 = .ok (.invokevirtual 189, 3) := by decide +kernel
theorem d_bf_plan_86 : decode b_bf_plan 86 = .ok (.ireturn, 1) := by decide +kernel
theorem d_bf_charge_0 : decode b_bf_charge 0 = .ok (.iload_n 1, 1) := by decide +kernel
theorem d_bf_charge_1 : decode b_bf_charge 1 = .ok (.invokestatic 127, 3) := by decide +kernel
theorem d_bf_charge_4 : decode b_bf_charge 4 = .ok (.ifCond .eq 13, 3) := by decide +kernel
theorem d_bf_charge_7 : decode b_bf_charge 7 = .ok (.iload_n 2, 1) := by decide +kernel
theorem d_bf_charge_8 : decode b_bf_charge 8 = .ok (.ifCond .lt 9, 3) := by decide +kernel
theorem d_bf_charge_11 : decode b_bf_charge 11 = .ok (.iload_n 2, 1) := by decide +kernel
theorem d_bf_charge_12 : decode b_bf_charge 12 = .ok (.bipush 14, 2) := by decide +kernel
theorem d_bf_charge_14 : decode b_bf_charge 14 = .ok (.if_icmp .lt 11, 3) := by decide +kernel
theorem d_bf_charge_17 : decode b_bf_charge 17 = .ok (.new 80, 3) := by decide +kernel
theorem d_bf_charge_20 : decode b_bf_charge 20 = .ok (.dup, 1) := by decide +kernel
theorem d_bf_charge_21 : decode b_bf_charge 21 = .ok (.invokespecial 82, 3) := by decide +kernel
theorem d_bf_charge_24 : decode b_bf_charge 24 = .ok (.athrow, 1) := by decide +kernel
theorem d_bf_charge_25 : decode b_bf_charge 25 = .ok (.aload_n 0, 1) := by decide +kernel
theorem d_bf_charge_26 : decode b_bf_charge 26 = .ok (.iload_n 1, 1) := by decide +kernel
theorem d_bf_charge_27 : decode b_bf_charge 27 = .ok (.iload_n 2, 1) := by decide +kernel
theorem d_bf_charge_28 : decode b_bf_charge 28 = .ok (.invokevirtual 190, 3) := by decide +kernel
theorem d_bf_charge_31 : decode b_bf_charge 31 = .ok (.lreturn, 1) := by decide +kernel
theorem d_bf_invoice_0 : decode b_bf_invoice 0 = .ok (.aload_n 0, 1) := by decide +kernel
theorem d_bf_invoice_1 : decode b_bf_invoice 1 = .ok (.getfield 38, 3) := by decide +kernel
theorem d_bf_invoice_4 : decode b_bf_invoice 4 = .ok (.iload_n 1, 1) := by decide +kernel
theorem d_bf_invoice_5 : decode b_bf_invoice 5 = .ok (.invokevirtual 194, 3) := by decide +kernel
theorem d_bf_invoice_8 : decode b_bf_invoice 8 = .ok (.ifCond .ne 11, 3) := by decide +kernel
theorem d_bf_invoice_11 : decode b_bf_invoice 11 = .ok (.new 195, 3) := by decide +kernel
theorem d_bf_invoice_14 : decode b_bf_invoice 14 = .ok (.dup, 1) := by decide +kernel
theorem d_bf_invoice_15 : decode b_bf_invoice 15 = .ok (.invokespecial 197, 3) := by decide +kernel
theorem d_bf_invoice_18 : decode b_bf_invoice 18 = .ok (.athrow, 1) := by decide +kernel
theorem d_bf_invoice_19 : decode b_bf_invoice 19 = .ok (.iload_n 2, 1) := by decide +kernel
theorem d_bf_invoice_20 : decode b_bf_invoice 20 = .ok (.tableswitch 102 0 5 #[40, 50, 60, 69, 79, 88], 40) := by decide +kernel
theorem d_bf_invoice_60 : decode b_bf_invoice 60 = .ok (.aload_n 0, 1) := by decide +kernel
theorem d_bf_invoice_61 : decode b_bf_invoice 61 = .ok (.getfield 38, 3) := by decide +kernel
theorem d_bf_invoice_64 : decode b_bf_invoice 64 = .ok (.iload_n 1, 1) := by decide +kernel
theorem d_bf_invoice_65 : decode b_bf_invoice 65 = .ok (.invokevirtual 198, 3) := by decide +kernel
theorem d_bf_invoice_68 : decode b_bf_invoice 68 = .ok (.i2l, 1) := by decide +kernel
theorem d_bf_invoice_69 : decode b_bf_invoice 69 = .ok (.lreturn, 1) := by decide +kernel
theorem d_bf_invoice_70 : decode b_bf_invoice 70 = .ok (.aload_n 0, 1) := by decide +kernel
theorem d_bf_invoice_71 : decode b_bf_invoice 71 = .ok (.getfield 38, 3) := by decide +kernel
theorem d_bf_invoice_74 : decode b_bf_invoice 74 = .ok (.iload_n 1, 1) := by decide +kernel
theorem d_bf_invoice_75 : decode b_bf_invoice 75 = .ok (.invokevirtual 201, 3) := by decide +kernel
theorem d_bf_invoice_78 : decode b_bf_invoice 78 = .ok (.i2l, 1) := by decide +kernel
theorem d_bf_invoice_79 : decode b_bf_invoice 79 = .ok (.lreturn, 1) := by decide +kernel
theorem d_bf_invoice_80 : decode b_bf_invoice 80 = .ok (.aload_n 0, 1) := by decide +kernel
theorem d_bf_invoice_81 : decode b_bf_invoice 81 = .ok (.getfield 38, 3) := by decide +kernel
theorem d_bf_invoice_84 : decode b_bf_invoice 84 = .ok (.iload_n 1, 1) := by decide +kernel
theorem d_bf_invoice_85 : decode b_bf_invoice 85 = .ok (.invokevirtual 204, 3) := by decide +kernel
theorem d_bf_invoice_88 : decode b_bf_invoice 88 = .ok (.lreturn, 1) := by decide +kernel
theorem d_bf_invoice_89 : decode b_bf_invoice 89 = .ok (.aload_n 0, 1) := by decide +kernel
theorem d_bf_invoice_90 : decode b_bf_invoice 90 = .ok (.getfield 38, 3) := by decide +kernel
theorem d_bf_invoice_93 : decode b_bf_invoice 93 = .ok (.iload_n 1, 1) := by decide +kernel
theorem d_bf_invoice_94 : decode b_bf_invoice 94 = .ok (.invokevirtual 208, 3) := by decide +kernel
theorem d_bf_invoice_97 : decode b_bf_invoice 97 = .ok (.i2l, 1) := by decide +kernel
theorem d_bf_invoice_98 : decode b_bf_invoice 98 = .ok (.lreturn, 1) := by decide +kernel
theorem d_bf_invoice_99 : decode b_bf_invoice 99 = .ok (.aload_n 0, 1) := by decide +kernel
theorem d_bf_invoice_100 : decode b_bf_invoice 100 = .ok (.getfield 38, 3) := by decide +kernel
theorem d_bf_invoice_103 : decode b_bf_invoice 103 = .ok (.iload_n 1, 1) := by decide +kernel
theorem d_bf_invoice_104 : decode b_bf_invoice 104 = .ok (.invokevirtual 211, 3) := by decide +kernel
theorem d_bf_invoice_107 : decode b_bf_invoice 107 = .ok (.lreturn, 1) := by decide +kernel
theorem d_bf_invoice_108 : decode b_bf_invoice 108 = .ok (.aload_n 0, 1) := by decide +kernel
theorem d_bf_invoice_109 : decode b_bf_invoice 109 = .ok (.getfield 38, 3) := by decide +kernel
theorem d_bf_invoice_112 : decode b_bf_invoice 112 = .ok (.iload_n 1, 1) := by decide +kernel
theorem d_bf_invoice_113 : decode b_bf_invoice 113 = .ok (.aload_n 0, 1) := by decide +kernel
theorem d_bf_invoice_114 : decode b_bf_invoice 114 = .ok (.getfield 60, 3) := by decide +kernel
theorem d_bf_invoice_117 : decode b_bf_invoice 117 = .ok (.invokevirtual 214, 3) := by decide +kernel
theorem d_bf_invoice_120 : decode b_bf_invoice 120 = .ok (.i2l, 1) := by decide +kernel
theorem d_bf_invoice_121 : decode b_bf_invoice 121 = .ok (.lreturn, 1) := by decide +kernel
theorem d_bf_invoice_122 : decode b_bf_invoice 122 = .ok (.new 80, 3) := by decide +kernel
theorem d_bf_invoice_125 : decode b_bf_invoice 125 = .ok (.dup, 1) := by decide +kernel
theorem d_bf_invoice_126 : decode b_bf_invoice 126 = .ok (.invokespecial 82, 3) := by decide +kernel
theorem d_bf_invoice_129 : decode b_bf_invoice 129 = .ok (.athrow, 1) := by decide +kernel
theorem d_bf_told_0 : decode b_bf_told 0 = .ok (.iload_n 1, 1) := by decide +kernel
theorem d_bf_told_1 : decode b_bf_told 1 = .ok (.invokestatic 127, 3) := by decide +kernel
theorem d_bf_told_4 : decode b_bf_told 4 = .ok (.ifCond .ne 11, 3) := by decide +kernel
theorem d_bf_told_7 : decode b_bf_told 7 = .ok (.new 80, 3) := by decide +kernel
theorem d_bf_told_10 : decode b_bf_told 10 = .ok (.dup, 1) := by decide +kernel
theorem d_bf_told_11 : decode b_bf_told 11 = .ok (.invokespecial 82, 3) := by decide +kernel
theorem d_bf_told_14 : decode b_bf_told 14 = .ok (.athrow, 1) := by decide +kernel
theorem d_bf_told_15 : decode b_bf_told 15 = .ok (.iload_n 2, 1) := by decide +kernel
theorem d_bf_told_16 : decode b_bf_told 16 = .ok (.tableswitch 138 0 6 #[44, 55, 73, 84, 94, 103, 125], 44) := by decide +kernel
theorem d_bf_told_60 : decode b_bf_told 60 = .ok (.aload_n 0, 1) := by decide +kernel
theorem d_bf_told_61 : decode b_bf_told 61 = .ok (.getfield 24, 3) := by decide +kernel
theorem d_bf_told_64 : decode b_bf_told 64 = .ok (.iload_n 1, 1) := by decide +kernel
theorem d_bf_told_65 : decode b_bf_told 65 = .ok (.aaload, 1) := by decide +kernel
theorem d_bf_told_66 : decode b_bf_told 66 = .ok (.invokevirtual 130, 3) := by decide +kernel
theorem d_bf_told_69 : decode b_bf_told 69 = .ok (.i2l, 1) := by decide +kernel
theorem d_bf_told_70 : decode b_bf_told 70 = .ok (.lreturn, 1) := by decide +kernel
theorem d_bf_told_71 : decode b_bf_told 71 = .ok (.aload_n 0, 1) := by decide +kernel
theorem d_bf_told_72 : decode b_bf_told 72 = .ok (.getfield 24, 3) := by decide +kernel
theorem d_bf_told_75 : decode b_bf_told 75 = .ok (.iload_n 1, 1) := by decide +kernel
theorem d_bf_told_76 : decode b_bf_told 76 = .ok (.aaload, 1) := by decide +kernel
theorem d_bf_told_77 : decode b_bf_told 77 = .ok (.invokevirtual 140, 3) := by decide +kernel
theorem d_bf_told_80 : decode b_bf_told 80 = .ok (.ifCond .eq 7, 3) := by decide +kernel
theorem d_bf_told_83 : decode b_bf_told 83 = .ok (.lconst 1, 1) := by decide +kernel
theorem d_bf_told_84 : decode b_bf_told 84 = .ok (.goto 4, 3) := by decide +kernel
theorem d_bf_told_87 : decode b_bf_told 87 = .ok (.lconst 0, 1) := by decide +kernel
theorem d_bf_told_88 : decode b_bf_told 88 = .ok (.lreturn, 1) := by decide +kernel
theorem d_bf_told_89 : decode b_bf_told 89 = .ok (.aload_n 0, 1) := by decide +kernel
theorem d_bf_told_90 : decode b_bf_told 90 = .ok (.getfield 24, 3) := by decide +kernel
theorem d_bf_told_93 : decode b_bf_told 93 = .ok (.iload_n 1, 1) := by decide +kernel
theorem d_bf_told_94 : decode b_bf_told 94 = .ok (.aaload, 1) := by decide +kernel
theorem d_bf_told_95 : decode b_bf_told 95 = .ok (.invokevirtual 218, 3) := by decide +kernel
theorem d_bf_told_98 : decode b_bf_told 98 = .ok (.i2l, 1) := by decide +kernel
theorem d_bf_told_99 : decode b_bf_told 99 = .ok (.lreturn, 1) := by decide +kernel
theorem d_bf_told_100 : decode b_bf_told 100 = .ok (.aload_n 0, 1) := by decide +kernel
theorem d_bf_told_101 : decode b_bf_told 101 = .ok (.getfield 24, 3) := by decide +kernel
theorem d_bf_told_104 : decode b_bf_told 104 = .ok (.iload_n 1, 1) := by decide +kernel
theorem d_bf_told_105 : decode b_bf_told 105 = .ok (.aaload, 1) := by decide +kernel
theorem d_bf_told_106 : decode b_bf_told 106 = .ok (.invokevirtual 175, 3) := by decide +kernel
theorem d_bf_told_109 : decode b_bf_told 109 = .ok (.lreturn, 1) := by decide +kernel
theorem d_bf_told_110 : decode b_bf_told 110 = .ok (.aload_n 0, 1) := by decide +kernel
theorem d_bf_told_111 : decode b_bf_told 111 = .ok (.getfield 38, 3) := by decide +kernel
theorem d_bf_told_114 : decode b_bf_told 114 = .ok (.iload_n 1, 1) := by decide +kernel
theorem d_bf_told_115 : decode b_bf_told 115 = .ok (.invokevirtual 221, 3) := by decide +kernel
theorem d_bf_told_118 : decode b_bf_told 118 = .ok (.lreturn, 1) := by decide +kernel
theorem d_bf_told_119 : decode b_bf_told 119 = .ok (.aload_n 0, 1) := by decide +kernel
theorem d_bf_told_120 : decode b_bf_told 120 = .ok (.getfield 45, 3) := by decide +kernel
theorem d_bf_told_123 : decode b_bf_told 123 = .ok (.iload_n 1, 1) := by decide +kernel
theorem d_bf_told_124 : decode b_bf_told 124 = .ok (.invokevirtual 224, 3) := by decide +kernel
theorem d_bf_told_127 : decode b_bf_told 127 = .ok (.aload_n 0, 1) := by decide +kernel
theorem d_bf_told_128 : decode b_bf_told 128 = .ok (.getfield 45, 3) := by decide +kernel
theorem d_bf_told_131 : decode b_bf_told 131 = .ok (.iload_n 1, 1) := by decide +kernel
theorem d_bf_told_132 : decode b_bf_told 132 = .ok (.aload_n 0, 1) := by decide +kernel
theorem d_bf_told_133 : decode b_bf_told 133 = .ok (.getfield 60, 3) := by decide +kernel
theorem d_bf_told_136 : decode b_bf_told 136 = .ok (.invokevirtual 227, 3) := by decide +kernel
theorem d_bf_told_139 : decode b_bf_told 139 = .ok (.lsub, 1) := by decide +kernel
theorem d_bf_told_140 : decode b_bf_told 140 = .ok (.lreturn, 1) := by decide +kernel
theorem d_bf_told_141 : decode b_bf_told 141 = .ok (.aload_n 0, 1) := by decide +kernel
theorem d_bf_told_142 : decode b_bf_told 142 = .ok (.getfield 45, 3) := by decide +kernel
theorem d_bf_told_145 : decode b_bf_told 145 = .ok (.iload_n 1, 1) := by decide +kernel
theorem d_bf_told_146 : decode b_bf_told 146 = .ok (.aload_n 0, 1) := by decide +kernel
theorem d_bf_told_147 : decode b_bf_told 147 = .ok (.getfield 60, 3) := by decide +kernel
theorem d_bf_told_150 : decode b_bf_told 150 = .ok (.invokevirtual 227, 3) := by decide +kernel
theorem d_bf_told_153 : decode b_bf_told 153 = .ok (.lreturn, 1) := by decide +kernel
theorem d_bf_told_154 : decode b_bf_told 154 = .ok (.new 80, 3) := by decide +kernel
theorem d_bf_told_157 : decode b_bf_told 157 = .ok (.dup, 1) := by decide +kernel
theorem d_bf_told_158 : decode b_bf_told 158 = .ok (.invokespecial 82, 3) := by decide +kernel
theorem d_bf_told_161 : decode b_bf_told 161 = .ok (.athrow, 1) := by decide +kernel
theorem d_bf_books_0 : decode b_bf_books 0 = .ok (.iload_n 1, 1) := by decide +kernel
theorem d_bf_books_1 : decode b_bf_books 1 = .ok (.tableswitch 76 0 4 #[35, 40, 45, 50, 63], 35) := by decide +kernel
theorem d_bf_books_36 : decode b_bf_books 36 = .ok (.aload_n 0, 1) := by decide +kernel
theorem d_bf_books_37 : decode b_bf_books 37 = .ok (.getfield 64, 3) := by decide +kernel
theorem d_bf_books_40 : decode b_bf_books 40 = .ok (.lreturn, 1) := by decide +kernel
theorem d_bf_books_41 : decode b_bf_books 41 = .ok (.aload_n 0, 1) := by decide +kernel
theorem d_bf_books_42 : decode b_bf_books 42 = .ok (.invokevirtual 230, 3) := by decide +kernel
theorem d_bf_books_45 : decode b_bf_books 45 = .ok (.lreturn, 1) := by decide +kernel
theorem d_bf_books_46 : decode b_bf_books 46 = .ok (.aload_n 0, 1) := by decide +kernel
theorem d_bf_books_47 : decode b_bf_books 47 = .ok (.invokevirtual 233, 3) := by decide +kernel
theorem d_bf_books_50 : decode b_bf_books 50 = .ok (.lreturn, 1) := by decide +kernel
theorem d_bf_books_51 : decode b_bf_books 51 = .ok (.aload_n 0, 1) := by decide +kernel
theorem d_bf_books_52 : decode b_bf_books 52 = .ok (.getfield 38, 3) := by decide +kernel
theorem d_bf_books_55 : decode b_bf_books 55 = .ok (.invokevirtual 236, 3) := by decide +kernel
theorem d_bf_books_58 : decode b_bf_books 58 = .ok (.aload_n 0, 1) := by decide +kernel
theorem d_bf_books_59 : decode b_bf_books 59 = .ok (.invokevirtual 239, 3) := by decide +kernel
theorem d_bf_books_62 : decode b_bf_books 62 = .ok (.ladd, 1) := by decide +kernel
theorem d_bf_books_63 : decode b_bf_books 63 = .ok (.lreturn, 1) := by decide +kernel
theorem d_bf_books_64 : decode b_bf_books 64 = .ok (.aload_n 0, 1) := by decide +kernel
theorem d_bf_books_65 : decode b_bf_books 65 = .ok (.getfield 45, 3) := by decide +kernel
theorem d_bf_books_68 : decode b_bf_books 68 = .ok (.invokevirtual 242, 3) := by decide +kernel
theorem d_bf_books_71 : decode b_bf_books 71 = .ok (.aload_n 0, 1) := by decide +kernel
theorem d_bf_books_72 : decode b_bf_books 72 = .ok (.invokevirtual 239, 3) := by decide +kernel
theorem d_bf_books_75 : decode b_bf_books 75 = .ok (.lsub, 1) := by decide +kernel
theorem d_bf_books_76 : decode b_bf_books 76 = .ok (.lreturn, 1) := by decide +kernel
theorem d_bf_books_77 : decode b_bf_books 77 = .ok (.new 80, 3) := by decide +kernel
theorem d_bf_books_80 : decode b_bf_books 80 = .ok (.dup, 1) := by decide +kernel
theorem d_bf_books_81 : decode b_bf_books 81 = .ok (.invokespecial 82, 3) := by decide +kernel
theorem d_bf_books_84 : decode b_bf_books 84 = .ok (.athrow, 1) := by decide +kernel
theorem d_bf_date_0 : decode b_bf_date 0 = .ok (.iload_n 1, 1) := by decide +kernel
theorem d_bf_date_1 : decode b_bf_date 1 = .ok (.ifCond .lt 9, 3) := by decide +kernel
theorem d_bf_date_4 : decode b_bf_date 4 = .ok (.iload_n 1, 1) := by decide +kernel
theorem d_bf_date_5 : decode b_bf_date 5 = .ok (.ldc 243, 2) := by decide +kernel
theorem d_bf_date_7 : decode b_bf_date 7 = .ok (.if_icmp .le 11, 3) := by decide +kernel
theorem d_bf_date_10 : decode b_bf_date 10 = .ok (.new 80, 3) := by decide +kernel
theorem d_bf_date_13 : decode b_bf_date 13 = .ok (.dup, 1) := by decide +kernel
theorem d_bf_date_14 : decode b_bf_date 14 = .ok (.invokespecial 82, 3) := by decide +kernel
theorem d_bf_date_17 : decode b_bf_date 17 = .ok (.athrow, 1) := by decide +kernel
theorem d_bf_date_18 : decode b_bf_date 18 = .ok (.iload_n 1, 1) := by decide +kernel
theorem d_bf_date_19 : decode b_bf_date 19 = .ok (.invokestatic 244, 3) := by decide +kernel
theorem d_bf_date_22 : decode b_bf_date 22 = .ok (.istore_n 3, 1) := by decide +kernel
theorem d_bf_date_23 : decode b_bf_date 23 = .ok (.iload_n 2, 1) := by decide +kernel
theorem d_bf_date_24 : decode b_bf_date 24 = .ok (.tableswitch 53 0 3 #[32, 37, 42, 51], 32) := by decide +kernel
theorem d_bf_date_56 : decode b_bf_date 56 = .ok (.iload_n 3, 1) := by decide +kernel
theorem d_bf_date_57 : decode b_bf_date 57 = .ok (.invokestatic 245, 3) := by decide +kernel
theorem d_bf_date_60 : decode b_bf_date 60 = .ok (.ireturn, 1) := by decide +kernel
theorem d_bf_date_61 : decode b_bf_date 61 = .ok (.iload_n 3, 1) := by decide +kernel
theorem d_bf_date_62 : decode b_bf_date 62 = .ok (.invokestatic 248, 3) := by decide +kernel
theorem d_bf_date_65 : decode b_bf_date 65 = .ok (.ireturn, 1) := by decide +kernel
theorem d_bf_date_66 : decode b_bf_date 66 = .ok (.iload_n 1, 1) := by decide +kernel
theorem d_bf_date_67 : decode b_bf_date 67 = .ok (.iload_n 3, 1) := by decide +kernel
theorem d_bf_date_68 : decode b_bf_date 68 = .ok (.invokestatic 70, 3) := by decide +kernel
theorem d_bf_date_71 : decode b_bf_date 71 = .ok (.isub, 1) := by decide +kernel
theorem d_bf_date_72 : decode b_bf_date 72 = .ok (.iconst 1, 1) := by decide +kernel
theorem d_bf_date_73 : decode b_bf_date 73 = .ok (.iadd, 1) := by decide +kernel
theorem d_bf_date_74 : decode b_bf_date 74 = .ok (.ireturn, 1) := by decide +kernel
theorem d_bf_date_75 : decode b_bf_date 75 = .ok (.iload_n 3, 1) := by decide +kernel
theorem d_bf_date_76 : decode b_bf_date 76 = .ok (.ireturn, 1) := by decide +kernel
theorem d_bf_date_77 : decode b_bf_date 77 = .ok (.new 80, 3) := by decide +kernel
theorem d_bf_date_80 : decode b_bf_date 80 = .ok (.dup, 1) := by decide +kernel
theorem d_bf_date_81 : decode b_bf_date 81 = .ok (.invokespecial 82, 3) := by decide +kernel
theorem d_bf_date_84 : decode b_bf_date 84 = .ok (.athrow, 1) := by decide +kernel
theorem d_bf_count_0 : decode b_bf_count 0 = .ok (.iload_n 1, 1) := by decide +kernel
theorem d_bf_count_1 : decode b_bf_count 1 = .ok (.tableswitch 72 0 4 #[35, 40, 48, 56, 64], 35) := by decide +kernel
theorem d_bf_count_36 : decode b_bf_count 36 = .ok (.aload_n 0, 1) := by decide +kernel
theorem d_bf_count_37 : decode b_bf_count 37 = .ok (.getfield 60, 3) := by decide +kernel
theorem d_bf_count_40 : decode b_bf_count 40 = .ok (.ireturn, 1) := by decide +kernel
theorem d_bf_count_41 : decode b_bf_count 41 = .ok (.aload_n 0, 1) := by decide +kernel
theorem d_bf_count_42 : decode b_bf_count 42 = .ok (.getfield 31, 3) := by decide +kernel
theorem d_bf_count_45 : decode b_bf_count 45 = .ok (.invokevirtual 160, 3) := by decide +kernel
theorem d_bf_count_48 : decode b_bf_count 48 = .ok (.ireturn, 1) := by decide +kernel
theorem d_bf_count_49 : decode b_bf_count 49 = .ok (.aload_n 0, 1) := by decide +kernel
theorem d_bf_count_50 : decode b_bf_count 50 = .ok (.getfield 38, 3) := by decide +kernel
theorem d_bf_count_53 : decode b_bf_count 53 = .ok (.invokevirtual 166, 3) := by decide +kernel
theorem d_bf_count_56 : decode b_bf_count 56 = .ok (.ireturn, 1) := by decide +kernel
theorem d_bf_count_57 : decode b_bf_count 57 = .ok (.aload_n 0, 1) := by decide +kernel
theorem d_bf_count_58 : decode b_bf_count 58 = .ok (.getfield 45, 3) := by decide +kernel
theorem d_bf_count_61 : decode b_bf_count 61 = .ok (.invokevirtual 189, 3) := by decide +kernel
theorem d_bf_count_64 : decode b_bf_count 64 = .ok (.ireturn, 1) := by decide +kernel
theorem d_bf_count_65 : decode b_bf_count 65 = .ok (.aload_n 0, 1) := by decide +kernel
theorem d_bf_count_66 : decode b_bf_count 66 = .ok (.getfield 10, 3) := by decide +kernel
theorem d_bf_count_69 : decode b_bf_count 69 = .ok (.invokevirtual 83, 3) := by decide +kernel
theorem d_bf_count_72 : decode b_bf_count 72 = .ok (.ireturn, 1) := by decide +kernel
theorem d_bf_count_73 : decode b_bf_count 73 = .ok (.new 80, 3) := by decide +kernel
theorem d_bf_count_76 : decode b_bf_count 76 = .ok (.dup, 1) := by decide +kernel
theorem d_bf_count_77 : decode b_bf_count 77 = .ok (.invokespecial 82, 3) := by decide +kernel
theorem d_bf_count_80 : decode b_bf_count 80 = .ok (.athrow, 1) := by decide +kernel
theorem d_bf_isTariff_0 : decode b_bf_isTariff 0 = .ok (.iload_n 0, 1) := by decide +kernel
theorem d_bf_isTariff_1 : decode b_bf_isTariff 1 = .ok (.ifCond .lt 12, 3) := by decide +kernel
theorem d_bf_isTariff_4 : decode b_bf_isTariff 4 = .ok (.iload_n 0, 1) := by decide +kernel
theorem d_bf_isTariff_5 : decode b_bf_isTariff 5 = .ok (.iconst 3, 1) := by decide +kernel
theorem d_bf_isTariff_6 : decode b_bf_isTariff 6 = .ok (.if_icmp .ge 7, 3) := by decide +kernel
theorem d_bf_isTariff_9 : decode b_bf_isTariff 9 = .ok (.iconst 1, 1) := by decide +kernel
theorem d_bf_isTariff_10 : decode b_bf_isTariff 10 = .ok (.goto 4, 3) := by decide +kernel
theorem d_bf_isTariff_13 : decode b_bf_isTariff 13 = .ok (.iconst 0, 1) := by decide +kernel
theorem d_bf_isTariff_14 : decode b_bf_isTariff 14 = .ok (.ireturn, 1) := by decide +kernel
theorem d_bf_isCustomer_0 : decode b_bf_isCustomer 0 = .ok (.iload_n 0, 1) := by decide +kernel
theorem d_bf_isCustomer_1 : decode b_bf_isCustomer 1 = .ok (.ifCond .lt 12, 3) := by decide +kernel
theorem d_bf_isCustomer_4 : decode b_bf_isCustomer 4 = .ok (.iload_n 0, 1) := by decide +kernel
theorem d_bf_isCustomer_5 : decode b_bf_isCustomer 5 = .ok (.iconst 5, 1) := by decide +kernel
theorem d_bf_isCustomer_6 : decode b_bf_isCustomer 6 = .ok (.if_icmp .ge 7, 3) := by decide +kernel
theorem d_bf_isCustomer_9 : decode b_bf_isCustomer 9 = .ok (.iconst 1, 1) := by decide +kernel
theorem d_bf_isCustomer_10 : decode b_bf_isCustomer 10 = .ok (.goto 4, 3) := by decide +kernel
theorem d_bf_isCustomer_13 : decode b_bf_isCustomer 13 = .ok (.iconst 0, 1) := by decide +kernel
theorem d_bf_isCustomer_14 : decode b_bf_isCustomer 14 = .ok (.ireturn, 1) := by decide +kernel
theorem d_bf_isPayable_0 : decode b_bf_isPayable 0 = .ok (.lload_n 0, 1) := by decide +kernel
theorem d_bf_isPayable_1 : decode b_bf_isPayable 1 = .ok (.lconst 1, 1) := by decide +kernel
theorem d_bf_isPayable_2 : decode b_bf_isPayable 2 = .ok (.lcmp, 1) := by decide +kernel
theorem d_bf_isPayable_3 : decode b_bf_isPayable 3 = .ok (.ifCond .lt 15, 3) := by decide +kernel
theorem d_bf_isPayable_6 : decode b_bf_isPayable 6 = .ok (.lload_n 0, 1) := by decide +kernel
theorem d_bf_isPayable_7 : decode b_bf_isPayable 7 = .ok (.ldc2_w 251, 3) := by decide +kernel
theorem d_bf_isPayable_10 : decode b_bf_isPayable 10 = .ok (.lcmp, 1) := by decide +kernel
theorem d_bf_isPayable_11 : decode b_bf_isPayable 11 = .ok (.ifCond .gt 7, 3) := by decide +kernel
theorem d_bf_isPayable_14 : decode b_bf_isPayable 14 = .ok (.iconst 1, 1) := by decide +kernel
theorem d_bf_isPayable_15 : decode b_bf_isPayable 15 = .ok (.goto 4, 3) := by decide +kernel
theorem d_bf_isPayable_18 : decode b_bf_isPayable 18 = .ok (.iconst 0, 1) := by decide +kernel
theorem d_bf_isPayable_19 : decode b_bf_isPayable 19 = .ok (.ireturn, 1) := by decide +kernel
theorem d_bf_shareOf_0 : decode b_bf_shareOf 0 = .ok (.lload 4, 2) := by decide +kernel
theorem d_bf_shareOf_2 : decode b_bf_shareOf 2 = .ok (.lconst 1, 1) := by decide +kernel
theorem d_bf_shareOf_3 : decode b_bf_shareOf 3 = .ok (.lcmp, 1) := by decide +kernel
theorem d_bf_shareOf_4 : decode b_bf_shareOf 4 = .ok (.ifCond .ge 7, 3) := by decide +kernel
theorem d_bf_shareOf_7 : decode b_bf_shareOf 7 = .ok (.lconst 0, 1) := by decide +kernel
theorem d_bf_shareOf_8 : decode b_bf_shareOf 8 = .ok (.goto 9, 3) := by decide +kernel
theorem d_bf_shareOf_11 : decode b_bf_shareOf 11 = .ok (.lload_n 0, 1) := by decide +kernel
theorem d_bf_shareOf_12 : decode b_bf_shareOf 12 = .ok (.lload_n 2, 1) := by decide +kernel
theorem d_bf_shareOf_13 : decode b_bf_shareOf 13 = .ok (.lmul, 1) := by decide +kernel
theorem d_bf_shareOf_14 : decode b_bf_shareOf 14 = .ok (.lload 4, 2) := by decide +kernel
theorem d_bf_shareOf_16 : decode b_bf_shareOf 16 = .ok (.ldiv, 1) := by decide +kernel
theorem d_bf_shareOf_17 : decode b_bf_shareOf 17 = .ok (.lreturn, 1) := by decide +kernel
theorem d_bf_passDay_0 : decode b_bf_passDay 0 = .ok (.iconst 0, 1) := by decide +kernel
theorem d_bf_passDay_1 : decode b_bf_passDay 1 = .ok (.istore_n 1, 1) := by decide +kernel
theorem d_bf_passDay_2 : decode b_bf_passDay 2 = .ok (.iload_n 1, 1) := by decide +kernel
theorem d_bf_passDay_3 : decode b_bf_passDay 3 = .ok (.iconst 5, 1) := by decide +kernel
theorem d_bf_passDay_4 : decode b_bf_passDay 4 = .ok (.if_icmp .ge 22, 3) := by decide +kernel
theorem d_bf_passDay_7 : decode b_bf_passDay 7 = .ok (.aload_n 0, 1) := by decide +kernel
theorem d_bf_passDay_8 : decode b_bf_passDay 8 = .ok (.getfield 24, 3) := by decide +kernel
theorem d_bf_passDay_11 : decode b_bf_passDay 11 = .ok (.iload_n 1, 1) := by decide +kernel
theorem d_bf_passDay_12 : decode b_bf_passDay 12 = .ok (.aaload, 1) := by decide +kernel
theorem d_bf_passDay_13 : decode b_bf_passDay 13 = .ok (.aload_n 0, 1) := by decide +kernel
theorem d_bf_passDay_14 : decode b_bf_passDay 14 = .ok (.getfield 60, 3) := by decide +kernel
theorem d_bf_passDay_17 : decode b_bf_passDay 17 = .ok (.invokevirtual 253, 3) := by decide +kernel
theorem d_bf_passDay_20 : decode b_bf_passDay 20 = .ok (.iinc 1 1, 3) := by decide +kernel
theorem d_bf_passDay_23 : decode b_bf_passDay 23 = .ok (.goto (-21), 3) := by decide +kernel
theorem d_bf_passDay_26 : decode b_bf_passDay 26 = .ok (.aload_n 0, 1) := by decide +kernel
theorem d_bf_passDay_27 : decode b_bf_passDay 27 = .ok (.dup, 1) := by decide +kernel
theorem d_bf_passDay_28 : decode b_bf_passDay 28 = .ok (.getfield 60, 3) := by decide +kernel
theorem d_bf_passDay_31 : decode b_bf_passDay 31 = .ok (.iconst 1, 1) := by decide +kernel
theorem d_bf_passDay_32 : decode b_bf_passDay 32 = .ok (.iadd, 1) := by decide +kernel
theorem d_bf_passDay_33 : decode b_bf_passDay 33 = .ok (.putfield 60, 3) := by decide +kernel
theorem d_bf_passDay_36 : decode b_bf_passDay 36 = .ok (.iconst 0, 1) := by decide +kernel
theorem d_bf_passDay_37 : decode b_bf_passDay 37 = .ok (.istore_n 1, 1) := by decide +kernel
theorem d_bf_passDay_38 : decode b_bf_passDay 38 = .ok (.iload_n 1, 1) := by decide +kernel
theorem d_bf_passDay_39 : decode b_bf_passDay 39 = .ok (.iconst 5, 1) := by decide +kernel
theorem d_bf_passDay_40 : decode b_bf_passDay 40 = .ok (.if_icmp .ge 14, 3) := by decide +kernel
theorem d_bf_passDay_43 : decode b_bf_passDay 43 = .ok (.aload_n 0, 1) := by decide +kernel
theorem d_bf_passDay_44 : decode b_bf_passDay 44 = .ok (.iload_n 1, 1) := by decide +kernel
theorem d_bf_passDay_45 : decode b_bf_passDay 45 = .ok (.invokevirtual 256, 3) := by decide +kernel
theorem d_bf_passDay_48 : decode b_bf_passDay 48 = .ok (.iinc 1 1, 3) := by decide +kernel
theorem d_bf_passDay_51 : decode b_bf_passDay 51 = .ok (.goto (-13), 3) := by decide +kernel
theorem d_bf_passDay_54 : decode b_bf_passDay 54 = .ok (.return_, 1) := by decide +kernel
theorem d_bf_lookAtStage_0 : decode b_bf_lookAtStage 0 = .ok (.aload_n 0, 1) := by decide +kernel
theorem d_bf_lookAtStage_1 : decode b_bf_lookAtStage 1 = .ok (.getfield 24, 3) := by decide +kernel
theorem d_bf_lookAtStage_4 : decode b_bf_lookAtStage 4 = .ok (.iload_n 1, 1) := by decide +kernel
theorem d_bf_lookAtStage_5 : decode b_bf_lookAtStage 5 = .ok (.aaload, 1) := by decide +kernel
theorem d_bf_lookAtStage_6 : decode b_bf_lookAtStage 6 = .ok (.aload_n 0, 1) := by decide +kernel
theorem d_bf_lookAtStage_7 : decode b_bf_lookAtStage 7 = .ok (.getfield 38, 3) := by decide +kernel
theorem d_bf_lookAtStage_10 : decode b_bf_lookAtStage 10 = .ok (.iload_n 1, 1) := by decide +kernel
theorem d_bf_lookAtStage_11 : decode b_bf_lookAtStage 11 = .ok (.aload_n 0, 1) := by decide +kernel
theorem d_bf_lookAtStage_12 : decode b_bf_lookAtStage 12 = .ok (.getfield 60, 3) := by decide +kernel
theorem d_bf_lookAtStage_15 : decode b_bf_lookAtStage 15 = .ok (.invokevirtual 259, 3) := by decide +kernel
theorem d_bf_lookAtStage_18 : decode b_bf_lookAtStage 18 = .ok (.invokevirtual 262, 3) := by decide +kernel
theorem d_bf_lookAtStage_21 : decode b_bf_lookAtStage 21 = .ok (.return_, 1) := by decide +kernel
theorem d_bf_invoiceDifference_0 : decode b_bf_invoiceDifference 0 = .ok (.aload_n 0, 1) := by decide +kernel
theorem d_bf_invoiceDifference_1 : decode b_bf_invoiceDifference 1 = .ok (.getfield 38, 3) := by decide +kernel
theorem d_bf_invoiceDifference_4 : decode b_bf_invoiceDifference 4 = .ok (.invokevirtual 263, 3) := by decide +kernel
theorem d_bf_invoiceDifference_7 : decode b_bf_invoiceDifference 7 = .ok (.ifCond .eq 4, 3) := by decide +kernel
theorem d_bf_invoiceDifference_10 : decode b_bf_invoiceDifference 10 = .ok (.return_, 1) := by decide +kernel
theorem d_bf_invoiceDifference_11 : decode b_bf_invoiceDifference 11 = .ok (.aload_n 0, 1) := by decide +kernel
theorem d_bf_invoiceDifference_12 : decode b_bf_invoiceDifference 12 = .ok (.iload_n 1, 1) := by decide +kernel
theorem d_bf_invoiceDifference_13 : decode b_bf_invoiceDifference 13 = .ok (.iload_n 2, 1) := by decide +kernel
theorem d_bf_invoiceDifference_14 : decode b_bf_invoiceDifference 14 = .ok (.invokevirtual 190, 3) := by decide +kernel
theorem d_bf_invoiceDifference_17 : decode b_bf_invoiceDifference 17 = .ok (.aload_n 0, 1) := by decide +kernel
theorem d_bf_invoiceDifference_18 : decode b_bf_invoiceDifference 18 = .ok (.getfield 38, 3) := by decide +kernel
theorem d_bf_invoiceDifference_21 : decode b_bf_invoiceDifference 21 = .ok (.iload_n 1, 1) := by decide +kernel
theorem d_bf_invoiceDifference_22 : decode b_bf_invoiceDifference 22 = .ok (.iload_n 2, 1) := by decide +kernel
theorem d_bf_invoiceDifference_23 : decode b_bf_invoiceDifference 23 = .ok (.invokevirtual 264, 3) := by decide +kernel
theorem d_bf_invoiceDifference_26 : decode b_bf_invoiceDifference 26 = .ok (.lsub, 1) := by decide +kernel
theorem d_bf_invoiceDifference_27 : decode b_bf_invoiceDifference 27 = .ok (.lstore_n 3, 1) := by decide +kernel
theorem d_bf_invoiceDifference_28 : decode b_bf_invoiceDifference 28 = .ok (.lload_n 3, 1) := by decide +kernel
theorem d_bf_invoiceDifference_29 : decode b_bf_invoiceDifference 29 = .ok (.lconst 0, 1) := by decide +kernel
theorem d_bf_invoiceDifference_30 : decode b_bf_invoiceDifference 30 = .ok (.lcmp, 1) := by decide +kernel
theorem d_bf_invoiceDifference_31 : decode b_bf_invoiceDifference 31 = .ok (.ifCond .ne 4, 3) := by decide +kernel
theorem d_bf_invoiceDifference_34 : decode b_bf_invoiceDifference 34 = .ok (.return_, 1) := by decide +kernel
theorem d_bf_invoiceDifference_35 : decode b_bf_invoiceDifference 35 = .ok (.aload_n 0, 1) := by decide +kernel
theorem d_bf_invoiceDifference_36 : decode b_bf_invoiceDifference 36 = .ok (.getfield 38, 3) := by decide +kernel
theorem d_bf_invoiceDifference_39 : decode b_bf_invoiceDifference 39 = .ok (.iload_n 1, 1) := by decide +kernel
theorem d_bf_invoiceDifference_40 : decode b_bf_invoiceDifference 40 = .ok (.iload_n 2, 1) := by decide +kernel
theorem d_bf_invoiceDifference_41 : decode b_bf_invoiceDifference 41 = .ok (.lload_n 3, 1) := by decide +kernel
theorem d_bf_invoiceDifference_42 : decode b_bf_invoiceDifference 42 = .ok (.aload_n 0, 1) := by decide +kernel
theorem d_bf_invoiceDifference_43 : decode b_bf_invoiceDifference 43 = .ok (.getfield 60, 3) := by decide +kernel
theorem d_bf_invoiceDifference_46 : decode b_bf_invoiceDifference 46 = .ok (.invokevirtual 266, 3) := by decide +kernel
theorem d_bf_invoiceDifference_49 : decode b_bf_invoiceDifference 49 = .ok (.lload_n 3, 1) := by decide +kernel
theorem d_bf_invoiceDifference_50 : decode b_bf_invoiceDifference 50 = .ok (.lconst 0, 1) := by decide +kernel
theorem d_bf_invoiceDifference_51 : decode b_bf_invoiceDifference 51 = .ok (.lcmp, 1) := by decide +kernel
theorem d_bf_invoiceDifference_52 : decode b_bf_invoiceDifference 52 = .ok (.ifCond .ge 14, 3) := by decide +kernel
theorem d_bf_invoiceDifference_55 : decode b_bf_invoiceDifference 55 = .ok (.aload_n 0, 1) := by decide +kernel
theorem d_bf_invoiceDifference_56 : decode b_bf_invoiceDifference 56 = .ok (.getfield 24, 3) := by decide +kernel
theorem d_bf_invoiceDifference_59 : decode b_bf_invoiceDifference 59 = .ok (.iload_n 1, 1) := by decide +kernel
theorem d_bf_invoiceDifference_60 : decode b_bf_invoiceDifference 60 = .ok (.aaload, 1) := by decide +kernel
theorem d_bf_invoiceDifference_61 : decode b_bf_invoiceDifference 61 = .ok (.lload_n 3, 1) := by decide +kernel
theorem d_bf_invoiceDifference_62 : decode b_bf_invoiceDifference 62 = .ok (.lneg, 1) := by decide +kernel
theorem d_bf_invoiceDifference_63 : decode b_bf_invoiceDifference 63 = .ok (.invokevirtual 179, 3) := by decide +kernel
theorem d_bf_invoiceDifference_66 : decode b_bf_invoiceDifference 66 = .ok (.aload_n 0, 1) := by decide +kernel
theorem d_bf_invoiceDifference_67 : decode b_bf_invoiceDifference 67 = .ok (.iload_n 1, 1) := by decide +kernel
theorem d_bf_invoiceDifference_68 : decode b_bf_invoiceDifference 68 = .ok (.invokevirtual 182, 3) := by decide +kernel
theorem d_bf_invoiceDifference_71 : decode b_bf_invoiceDifference 71 = .ok (.return_, 1) := by decide +kernel
theorem d_bf_spendCredit_0 : decode b_bf_spendCredit 0 = .ok (.aload_n 0, 1) := by decide +kernel
theorem d_bf_spendCredit_1 : decode b_bf_spendCredit 1 = .ok (.getfield 38, 3) := by decide +kernel
theorem d_bf_spendCredit_4 : decode b_bf_spendCredit 4 = .ok (.iload_n 1, 1) := by decide +kernel
theorem d_bf_spendCredit_5 : decode b_bf_spendCredit 5 = .ok (.aload_n 0, 1) := by decide +kernel
theorem d_bf_spendCredit_6 : decode b_bf_spendCredit 6 = .ok (.getfield 24, 3) := by decide +kernel
theorem d_bf_spendCredit_9 : decode b_bf_spendCredit 9 = .ok (.iload_n 1, 1) := by decide +kernel
theorem d_bf_spendCredit_10 : decode b_bf_spendCredit 10 = .ok (.aaload, 1) := by decide +kernel
theorem d_bf_spendCredit_11 : decode b_bf_spendCredit 11 = .ok (.invokevirtual 175, 3) := by decide +kernel
theorem d_bf_spendCredit_14 : decode b_bf_spendCredit 14 = .ok (.invokevirtual 269, 3) := by decide +kernel
theorem d_bf_spendCredit_17 : decode b_bf_spendCredit 17 = .ok (.lstore_n 2, 1) := by decide +kernel
theorem d_bf_spendCredit_18 : decode b_bf_spendCredit 18 = .ok (.lload_n 2, 1) := by decide +kernel
theorem d_bf_spendCredit_19 : decode b_bf_spendCredit 19 = .ok (.lconst 0, 1) := by decide +kernel
theorem d_bf_spendCredit_20 : decode b_bf_spendCredit 20 = .ok (.lcmp, 1) := by decide +kernel
theorem d_bf_spendCredit_21 : decode b_bf_spendCredit 21 = .ok (.ifCond .le 19, 3) := by decide +kernel
theorem d_bf_spendCredit_24 : decode b_bf_spendCredit 24 = .ok (.aload_n 0, 1) := by decide +kernel
theorem d_bf_spendCredit_25 : decode b_bf_spendCredit 25 = .ok (.getfield 24, 3) := by decide +kernel
theorem d_bf_spendCredit_28 : decode b_bf_spendCredit 28 = .ok (.iload_n 1, 1) := by decide +kernel
theorem d_bf_spendCredit_29 : decode b_bf_spendCredit 29 = .ok (.aaload, 1) := by decide +kernel
theorem d_bf_spendCredit_30 : decode b_bf_spendCredit 30 = .ok (.lload_n 2, 1) := by decide +kernel
theorem d_bf_spendCredit_31 : decode b_bf_spendCredit 31 = .ok (.lneg, 1) := by decide +kernel
theorem d_bf_spendCredit_32 : decode b_bf_spendCredit 32 = .ok (.invokevirtual 179, 3) := by decide +kernel
theorem d_bf_spendCredit_35 : decode b_bf_spendCredit 35 = .ok (.aload_n 0, 1) := by decide +kernel
theorem d_bf_spendCredit_36 : decode b_bf_spendCredit 36 = .ok (.iload_n 1, 1) := by decide +kernel
theorem d_bf_spendCredit_37 : decode b_bf_spendCredit 37 = .ok (.invokevirtual 256, 3) := by decide +kernel
theorem d_bf_spendCredit_40 : decode b_bf_spendCredit 40 = .ok (.return_, 1) := by decide +kernel
theorem d_bf_chargeOf_0 : decode b_bf_chargeOf 0 = .ok (.aload_n 0, 1) := by decide +kernel
theorem d_bf_chargeOf_1 : decode b_bf_chargeOf 1 = .ok (.iload_n 1, 1) := by decide +kernel
theorem d_bf_chargeOf_2 : decode b_bf_chargeOf 2 = .ok (.iload_n 2, 1) := by decide +kernel
theorem d_bf_chargeOf_3 : decode b_bf_chargeOf 3 = .ok (.invokevirtual 273, 3) := by decide +kernel
theorem d_bf_chargeOf_6 : decode b_bf_chargeOf 6 = .ok (.aload_n 0, 1) := by decide +kernel
theorem d_bf_chargeOf_7 : decode b_bf_chargeOf 7 = .ok (.iload_n 1, 1) := by decide +kernel
theorem d_bf_chargeOf_8 : decode b_bf_chargeOf 8 = .ok (.iload_n 2, 1) := by decide +kernel
theorem d_bf_chargeOf_9 : decode b_bf_chargeOf 9 = .ok (.invokevirtual 276, 3) := by decide +kernel
theorem d_bf_chargeOf_12 : decode b_bf_chargeOf 12 = .ok (.aload_n 0, 1) := by decide +kernel
theorem d_bf_chargeOf_13 : decode b_bf_chargeOf 13 = .ok (.getfield 49, 3) := by decide +kernel
theorem d_bf_chargeOf_16 : decode b_bf_chargeOf 16 = .ok (.iload_n 2, 1) := by decide +kernel
theorem d_bf_chargeOf_17 : decode b_bf_chargeOf 17 = .ok (.iconst 1, 1) := by decide +kernel
theorem d_bf_chargeOf_18 : decode b_bf_chargeOf 18 = .ok (.iadd, 1) := by decide +kernel
theorem d_bf_chargeOf_19 : decode b_bf_chargeOf 19 = .ok (.iaload, 1) := by decide +kernel
theorem d_bf_chargeOf_20 : decode b_bf_chargeOf 20 = .ok (.aload_n 0, 1) := by decide +kernel
theorem d_bf_chargeOf_21 : decode b_bf_chargeOf 21 = .ok (.getfield 49, 3) := by decide +kernel
theorem d_bf_chargeOf_24 : decode b_bf_chargeOf 24 = .ok (.iload_n 2, 1) := by decide +kernel
theorem d_bf_chargeOf_25 : decode b_bf_chargeOf 25 = .ok (.iaload, 1) := by decide +kernel
theorem d_bf_chargeOf_26 : decode b_bf_chargeOf 26 = .ok (.isub, 1) := by decide +kernel
theorem d_bf_chargeOf_27 : decode b_bf_chargeOf 27 = .ok (.istore_n 3, 1) := by decide +kernel
theorem d_bf_chargeOf_28 : decode b_bf_chargeOf 28 = .ok (.lconst 0, 1) := by decide +kernel
theorem d_bf_chargeOf_29 : decode b_bf_chargeOf 29 = .ok (.lstore 4, 2) := by decide +kernel
theorem d_bf_chargeOf_31 : decode b_bf_chargeOf 31 = .ok (.iconst 0, 1) := by decide +kernel
theorem d_bf_chargeOf_32 : decode b_bf_chargeOf 32 = .ok (.istore 6, 2) := by decide +kernel
theorem d_bf_chargeOf_34 : decode b_bf_chargeOf 34 = .ok (.iload 6, 2) := by decide +kernel
theorem d_bf_chargeOf_36 : decode b_bf_chargeOf 36 = .ok (.iconst 3, 1) := by decide +kernel
theorem d_bf_chargeOf_37 : decode b_bf_chargeOf 37 = .ok (.if_icmp .ge 72, 3) := by decide +kernel
theorem d_bf_chargeOf_40 : decode b_bf_chargeOf 40 = .ok (.aload_n 0, 1) := by decide +kernel
theorem d_bf_chargeOf_41 : decode b_bf_chargeOf 41 = .ok (.getfield 53, 3) := by decide +kernel
theorem d_bf_chargeOf_44 : decode b_bf_chargeOf 44 = .ok (.iload 6, 2) := by decide +kernel
theorem d_bf_chargeOf_46 : decode b_bf_chargeOf 46 = .ok (.iaload, 1) := by decide +kernel
theorem d_bf_chargeOf_47 : decode b_bf_chargeOf 47 = .ok (.ifCond .le 56, 3) := by decide +kernel
theorem d_bf_chargeOf_50 : decode b_bf_chargeOf 50 = .ok (.lload 4, 2) := by decide +kernel
theorem d_bf_chargeOf_52 : decode b_bf_chargeOf 52 = .ok (.aload_n 0, 1) := by decide +kernel
theorem d_bf_chargeOf_53 : decode b_bf_chargeOf 53 = .ok (.getfield 18, 3) := by decide +kernel
theorem d_bf_chargeOf_56 : decode b_bf_chargeOf 56 = .ok (.iload 6, 2) := by decide +kernel
theorem d_bf_chargeOf_58 : decode b_bf_chargeOf 58 = .ok (.aaload, 1) := by decide +kernel
theorem d_bf_chargeOf_59 : decode b_bf_chargeOf 59 = .ok (.aload_n 0, 1) := by decide +kernel
theorem d_bf_chargeOf_60 : decode b_bf_chargeOf 60 = .ok (.getfield 53, 3) := by decide +kernel
theorem d_bf_chargeOf_63 : decode b_bf_chargeOf 63 = .ok (.iload 6, 2) := by decide +kernel
theorem d_bf_chargeOf_65 : decode b_bf_chargeOf 65 = .ok (.iaload, 1) := by decide +kernel
theorem d_bf_chargeOf_66 : decode b_bf_chargeOf 66 = .ok (.iload_n 3, 1) := by decide +kernel
theorem d_bf_chargeOf_67 : decode b_bf_chargeOf 67 = .ok (.invokevirtual 279, 3) := by decide +kernel
theorem d_bf_chargeOf_70 : decode b_bf_chargeOf 70 = .ok (.ladd, 1) := by decide +kernel
theorem d_bf_chargeOf_71 : decode b_bf_chargeOf 71 = .ok (.lstore 4, 2) := by decide +kernel
theorem d_bf_chargeOf_73 : decode b_bf_chargeOf 73 = .ok (.lload 4, 2) := by decide +kernel
theorem d_bf_chargeOf_75 : decode b_bf_chargeOf 75 = .ok (.aload_n 0, 1) := by decide +kernel
theorem d_bf_chargeOf_76 : decode b_bf_chargeOf 76 = .ok (.getfield 18, 3) := by decide +kernel
theorem d_bf_chargeOf_79 : decode b_bf_chargeOf 79 = .ok (.iload 6, 2) := by decide +kernel
theorem d_bf_chargeOf_81 : decode b_bf_chargeOf 81 = .ok (.aaload, 1) := by decide +kernel
theorem d_bf_chargeOf_82 : decode b_bf_chargeOf 82 = .ok (.aload_n 0, 1) := by decide +kernel
theorem d_bf_chargeOf_83 : decode b_bf_chargeOf 83 = .ok (.getfield 56, 3) := by decide +kernel
theorem d_bf_chargeOf_86 : decode b_bf_chargeOf 86 = .ok (.iload 6, 2) := by decide +kernel
theorem d_bf_chargeOf_88 : decode b_bf_chargeOf 88 = .ok (.laload, 1) := by decide +kernel
theorem d_bf_chargeOf_89 : decode b_bf_chargeOf 89 = .ok (.aload_n 0, 1) := by decide +kernel
theorem d_bf_chargeOf_90 : decode b_bf_chargeOf 90 = .ok (.getfield 53, 3) := by decide +kernel
theorem d_bf_chargeOf_93 : decode b_bf_chargeOf 93 = .ok (.iload 6, 2) := by decide +kernel
theorem d_bf_chargeOf_95 : decode b_bf_chargeOf 95 = .ok (.iaload, 1) := by decide +kernel
theorem d_bf_chargeOf_96 : decode b_bf_chargeOf 96 = .ok (.iload_n 3, 1) := by decide +kernel
theorem d_bf_chargeOf_97 : decode b_bf_chargeOf 97 = .ok (.invokevirtual 123, 3) := by decide +kernel
theorem d_bf_chargeOf_100 : decode b_bf_chargeOf 100 = .ok (.ladd, 1) := by decide +kernel
theorem d_bf_chargeOf_101 : decode b_bf_chargeOf 101 = .ok (.lstore 4, 2) := by decide +kernel
theorem d_bf_chargeOf_103 : decode b_bf_chargeOf 103 = .ok (.iinc 6 1, 3) := by decide +kernel
theorem d_bf_chargeOf_106 : decode b_bf_chargeOf 106 = .ok (.goto (-72), 3) := by decide +kernel
theorem d_bf_chargeOf_109 : decode b_bf_chargeOf 109 = .ok (.lload 4, 2) := by decide +kernel
theorem d_bf_chargeOf_111 : decode b_bf_chargeOf 111 = .ok (.lreturn, 1) := by decide +kernel
theorem d_bf_countLiveDays_0 : decode b_bf_countLiveDays 0 = .ok (.iconst 0, 1) := by decide +kernel
theorem d_bf_countLiveDays_1 : decode b_bf_countLiveDays 1 = .ok (.istore_n 3, 1) := by decide +kernel
theorem d_bf_countLiveDays_2 : decode b_bf_countLiveDays 2 = .ok (.iload_n 3, 1) := by decide +kernel
theorem d_bf_countLiveDays_3 : decode b_bf_countLiveDays 3 = .ok (.iconst 3, 1) := by decide +kernel
theorem d_bf_countLiveDays_4 : decode b_bf_countLiveDays 4 = .ok (.if_icmp .ge 16, 3) := by decide +kernel
theorem d_bf_countLiveDays_7 : decode b_bf_countLiveDays 7 = .ok (.aload_n 0, 1) := by decide +kernel
theorem d_bf_countLiveDays_8 : decode b_bf_countLiveDays 8 = .ok (.getfield 53, 3) := by decide +kernel
theorem d_bf_countLiveDays_11 : decode b_bf_countLiveDays 11 = .ok (.iload_n 3, 1) := by decide +kernel
theorem d_bf_countLiveDays_12 : decode b_bf_countLiveDays 12 = .ok (.iconst 0, 1) := by decide +kernel
theorem d_bf_countLiveDays_13 : decode b_bf_countLiveDays 13 = .ok (.iastore, 1) := by decide +kernel
theorem d_bf_countLiveDays_14 : decode b_bf_countLiveDays 14 = .ok (.iinc 3 1, 3) := by decide +kernel
theorem d_bf_countLiveDays_17 : decode b_bf_countLiveDays 17 = .ok (.goto (-15), 3) := by decide +kernel
theorem d_bf_countLiveDays_20 : decode b_bf_countLiveDays 20 = .ok (.aload_n 0, 1) := by decide +kernel
theorem d_bf_countLiveDays_21 : decode b_bf_countLiveDays 21 = .ok (.getfield 49, 3) := by decide +kernel
theorem d_bf_countLiveDays_24 : decode b_bf_countLiveDays 24 = .ok (.iload_n 2, 1) := by decide +kernel
theorem d_bf_countLiveDays_25 : decode b_bf_countLiveDays 25 = .ok (.iaload, 1) := by decide +kernel
theorem d_bf_countLiveDays_26 : decode b_bf_countLiveDays 26 = .ok (.istore_n 3, 1) := by decide +kernel
theorem d_bf_countLiveDays_27 : decode b_bf_countLiveDays 27 = .ok (.iload_n 3, 1) := by decide +kernel
theorem d_bf_countLiveDays_28 : decode b_bf_countLiveDays 28 = .ok (.aload_n 0, 1) := by decide +kernel
theorem d_bf_countLiveDays_29 : decode b_bf_countLiveDays 29 = .ok (.getfield 49, 3) := by decide +kernel
theorem d_bf_countLiveDays_32 : decode b_bf_countLiveDays 32 = .ok (.iload_n 2, 1) := by decide +kernel
theorem d_bf_countLiveDays_33 : decode b_bf_countLiveDays 33 = .ok (.iconst 1, 1) := by decide +kernel
theorem d_bf_countLiveDays_34 : decode b_bf_countLiveDays 34 = .ok (.iadd, 1) := by decide +kernel
theorem d_bf_countLiveDays_35 : decode b_bf_countLiveDays 35 = .ok (.iaload, 1) := by decide +kernel
theorem d_bf_countLiveDays_36 : decode b_bf_countLiveDays 36 = .ok (.if_icmp .ge 52, 3) := by decide +kernel
theorem d_bf_countLiveDays_39 : decode b_bf_countLiveDays 39 = .ok (.iload_n 3, 1) := by decide +kernel
theorem d_bf_countLiveDays_40 : decode b_bf_countLiveDays 40 = .ok (.aload_n 0, 1) := by decide +kernel
theorem d_bf_countLiveDays_41 : decode b_bf_countLiveDays 41 = .ok (.getfield 60, 3) := by decide +kernel
theorem d_bf_countLiveDays_44 : decode b_bf_countLiveDays 44 = .ok (.if_icmp .gt 44, 3) := by decide +kernel
theorem d_bf_countLiveDays_47 : decode b_bf_countLiveDays 47 = .ok (.aload_n 0, 1) := by decide +kernel
theorem d_bf_countLiveDays_48 : decode b_bf_countLiveDays 48 = .ok (.getfield 24, 3) := by decide +kernel
theorem d_bf_countLiveDays_51 : decode b_bf_countLiveDays 51 = .ok (.iload_n 1, 1) := by decide +kernel
theorem d_bf_countLiveDays_52 : decode b_bf_countLiveDays 52 = .ok (.aaload, 1) := by decide +kernel
theorem d_bf_countLiveDays_53 : decode b_bf_countLiveDays 53 = .ok (.iload_n 3, 1) := by decide +kernel
theorem d_bf_countLiveDays_54 : decode b_bf_countLiveDays 54 = .ok (.aload_n 0, 1) := by decide +kernel
theorem d_bf_countLiveDays_55 : decode b_bf_countLiveDays 55 = .ok (.getfield 60, 3) := by decide +kernel
theorem d_bf_countLiveDays_58 : decode b_bf_countLiveDays 58 = .ok (.invokevirtual 282, 3) := by decide +kernel
theorem d_bf_countLiveDays_61 : decode b_bf_countLiveDays 61 = .ok (.istore 4, 2) := by decide +kernel
theorem d_bf_countLiveDays_63 : decode b_bf_countLiveDays 63 = .ok (.iload 4, 2) := by decide +kernel
theorem d_bf_countLiveDays_65 : decode b_bf_countLiveDays 65 = .ok (.invokestatic 94, 3) := by decide +kernel
theorem d_bf_countLiveDays_68 : decode b_bf_countLiveDays 68 = .ok (.ifCond .eq 14, 3) := by decide +kernel
theorem d_bf_countLiveDays_71 : decode b_bf_countLiveDays 71 = .ok (.aload_n 0, 1) := by decide +kernel
theorem d_bf_countLiveDays_72 : decode b_bf_countLiveDays 72 = .ok (.getfield 53, 3) := by decide +kernel
theorem d_bf_countLiveDays_75 : decode b_bf_countLiveDays 75 = .ok (.iload 4, 2) := by decide +kernel
theorem d_bf_countLiveDays_77 : decode b_bf_countLiveDays 77 = .ok (.dup2, 1) := by decide +kernel
theorem d_bf_countLiveDays_78 : decode b_bf_countLiveDays 78 = .ok (.iaload, 1) := by decide +kernel
theorem d_bf_countLiveDays_79 : decode b_bf_countLiveDays 79 = .ok (.iconst 1, 1) := by decide +kernel
theorem d_bf_countLiveDays_80 : decode b_bf_countLiveDays 80 = .ok (.iadd, 1) := by decide +kernel
theorem d_bf_countLiveDays_81 : decode b_bf_countLiveDays 81 = .ok (.iastore, 1) := by decide +kernel
theorem d_bf_countLiveDays_82 : decode b_bf_countLiveDays 82 = .ok (.iinc 3 1, 3) := by decide +kernel
theorem d_bf_countLiveDays_85 : decode b_bf_countLiveDays 85 = .ok (.goto (-58), 3) := by decide +kernel
theorem d_bf_countLiveDays_88 : decode b_bf_countLiveDays 88 = .ok (.return_, 1) := by decide +kernel
theorem d_bf_countLiveUnits_0 : decode b_bf_countLiveUnits 0 = .ok (.iconst 0, 1) := by decide +kernel
theorem d_bf_countLiveUnits_1 : decode b_bf_countLiveUnits 1 = .ok (.istore_n 3, 1) := by decide +kernel
theorem d_bf_countLiveUnits_2 : decode b_bf_countLiveUnits 2 = .ok (.iload_n 3, 1) := by decide +kernel
theorem d_bf_countLiveUnits_3 : decode b_bf_countLiveUnits 3 = .ok (.iconst 3, 1) := by decide +kernel
theorem d_bf_countLiveUnits_4 : decode b_bf_countLiveUnits 4 = .ok (.if_icmp .ge 16, 3) := by decide +kernel
theorem d_bf_countLiveUnits_7 : decode b_bf_countLiveUnits 7 = .ok (.aload_n 0, 1) := by decide +kernel
theorem d_bf_countLiveUnits_8 : decode b_bf_countLiveUnits 8 = .ok (.getfield 56, 3) := by decide +kernel
theorem d_bf_countLiveUnits_11 : decode b_bf_countLiveUnits 11 = .ok (.iload_n 3, 1) := by decide +kernel
theorem d_bf_countLiveUnits_12 : decode b_bf_countLiveUnits 12 = .ok (.lconst 0, 1) := by decide +kernel
theorem d_bf_countLiveUnits_13 : decode b_bf_countLiveUnits 13 = .ok (.lastore, 1) := by decide +kernel
theorem d_bf_countLiveUnits_14 : decode b_bf_countLiveUnits 14 = .ok (.iinc 3 1, 3) := by decide +kernel
theorem d_bf_countLiveUnits_17 : decode b_bf_countLiveUnits 17 = .ok (.goto (-15), 3) := by decide +kernel
theorem d_bf_countLiveUnits_20 : decode b_bf_countLiveUnits 20 = .ok (.iconst 0, 1) := by decide +kernel
theorem d_bf_countLiveUnits_21 : decode b_bf_countLiveUnits 21 = .ok (.istore_n 3, 1) := by decide +kernel
theorem d_bf_countLiveUnits_22 : decode b_bf_countLiveUnits 22 = .ok (.iload_n 3, 1) := by decide +kernel
theorem d_bf_countLiveUnits_23 : decode b_bf_countLiveUnits 23 = .ok (.aload_n 0, 1) := by decide +kernel
theorem d_bf_countLiveUnits_24 : decode b_bf_countLiveUnits 24 = .ok (.getfield 31, 3) := by decide +kernel
theorem d_bf_countLiveUnits_27 : decode b_bf_countLiveUnits 27 = .ok (.invokevirtual 160, 3) := by decide +kernel
theorem d_bf_countLiveUnits_30 : decode b_bf_countLiveUnits 30 = .ok (.if_icmp .ge 99, 3) := by decide +kernel
theorem d_bf_countLiveUnits_33 : decode b_bf_countLiveUnits 33 = .ok (.aload_n 0, 1) := by decide +kernel
theorem d_bf_countLiveUnits_34 : decode b_bf_countLiveUnits 34 = .ok (.getfield 31, 3) := by decide +kernel
theorem d_bf_countLiveUnits_37 : decode b_bf_countLiveUnits 37 = .ok (.iload_n 3, 1) := by decide +kernel
theorem d_bf_countLiveUnits_38 : decode b_bf_countLiveUnits 38 = .ok (.invokevirtual 285, 3) := by decide +kernel
theorem d_bf_countLiveUnits_41 : decode b_bf_countLiveUnits 41 = .ok (.istore 4, 2) := by decide +kernel
theorem d_bf_countLiveUnits_43 : decode b_bf_countLiveUnits 43 = .ok (.aload_n 0, 1) := by decide +kernel
theorem d_bf_countLiveUnits_44 : decode b_bf_countLiveUnits 44 = .ok (.getfield 31, 3) := by decide +kernel
theorem d_bf_countLiveUnits_47 : decode b_bf_countLiveUnits 47 = .ok (.iload_n 3, 1) := by decide +kernel
theorem d_bf_countLiveUnits_48 : decode b_bf_countLiveUnits 48 = .ok (.invokevirtual 286, 3) := by decide +kernel
theorem d_bf_countLiveUnits_51 : decode b_bf_countLiveUnits 51 = .ok (.iload_n 1, 1) := by decide +kernel
theorem d_bf_countLiveUnits_52 : decode b_bf_countLiveUnits 52 = .ok (.if_icmp .ne 71, 3) := by decide +kernel
theorem d_bf_countLiveUnits_55 : decode b_bf_countLiveUnits 55 = .ok (.iload 4, 2) := by decide +kernel
theorem d_bf_countLiveUnits_57 : decode b_bf_countLiveUnits 57 = .ok (.aload_n 0, 1) := by decide +kernel
theorem d_bf_countLiveUnits_58 : decode b_bf_countLiveUnits 58 = .ok (.getfield 49, 3) := by decide +kernel
theorem d_bf_countLiveUnits_61 : decode b_bf_countLiveUnits 61 = .ok (.iload_n 2, 1) := by decide +kernel
theorem d_bf_countLiveUnits_62 : decode b_bf_countLiveUnits 62 = .ok (.iaload, 1) := by decide +kernel
theorem d_bf_countLiveUnits_63 : decode b_bf_countLiveUnits 63 = .ok (.if_icmp .lt 60, 3) := by decide +kernel
theorem d_bf_countLiveUnits_66 : decode b_bf_countLiveUnits 66 = .ok (.iload 4, 2) := by decide +kernel
theorem d_bf_countLiveUnits_68 : decode b_bf_countLiveUnits 68 = .ok (.aload_n 0, 1) := by decide +kernel
theorem d_bf_countLiveUnits_69 : decode b_bf_countLiveUnits 69 = .ok (.getfield 49, 3) := by decide +kernel
theorem d_bf_countLiveUnits_72 : decode b_bf_countLiveUnits 72 = .ok (.iload_n 2, 1) := by decide +kernel
theorem d_bf_countLiveUnits_73 : decode b_bf_countLiveUnits 73 = .ok (.iconst 1, 1) := by decide +kernel
theorem d_bf_countLiveUnits_74 : decode b_bf_countLiveUnits 74 = .ok (.iadd, 1) := by decide +kernel
theorem d_bf_countLiveUnits_75 : decode b_bf_countLiveUnits 75 = .ok (.iaload, 1) := by decide +kernel
theorem d_bf_countLiveUnits_76 : decode b_bf_countLiveUnits 76 = .ok (.if_icmp .ge 47, 3) := by decide +kernel
theorem d_bf_countLiveUnits_79 : decode b_bf_countLiveUnits 79 = .ok (.aload_n 0, 1) := by decide +kernel
theorem d_bf_countLiveUnits_80 : decode b_bf_countLiveUnits 80 = .ok (.getfield 24, 3) := by decide +kernel
theorem d_bf_countLiveUnits_83 : decode b_bf_countLiveUnits 83 = .ok (.iload_n 1, 1) := by decide +kernel
theorem d_bf_countLiveUnits_84 : decode b_bf_countLiveUnits 84 = .ok (.aaload, 1) := by decide +kernel
theorem d_bf_countLiveUnits_85 : decode b_bf_countLiveUnits 85 = .ok (.iload 4, 2) := by decide +kernel
theorem d_bf_countLiveUnits_87 : decode b_bf_countLiveUnits 87 = .ok (.aload_n 0, 1) := by decide +kernel
theorem d_bf_countLiveUnits_88 : decode b_bf_countLiveUnits 88 = .ok (.getfield 60, 3) := by decide +kernel
theorem d_bf_countLiveUnits_91 : decode b_bf_countLiveUnits 91 = .ok (.invokevirtual 282, 3) := by decide +kernel
theorem d_bf_countLiveUnits_94 : decode b_bf_countLiveUnits 94 = .ok (.istore 5, 2) := by decide +kernel
theorem d_bf_countLiveUnits_96 : decode b_bf_countLiveUnits 96 = .ok (.iload 5, 2) := by decide +kernel
theorem d_bf_countLiveUnits_98 : decode b_bf_countLiveUnits 98 = .ok (.invokestatic 94, 3) := by decide +kernel
theorem d_bf_countLiveUnits_101 : decode b_bf_countLiveUnits 101 = .ok (.ifCond .eq 22, 3) := by decide +kernel
theorem d_bf_countLiveUnits_104 : decode b_bf_countLiveUnits 104 = .ok (.aload_n 0, 1) := by decide +kernel
theorem d_bf_countLiveUnits_105 : decode b_bf_countLiveUnits 105 = .ok (.getfield 56, 3) := by decide +kernel
theorem d_bf_countLiveUnits_108 : decode b_bf_countLiveUnits 108 = .ok (.iload 5, 2) := by decide +kernel
theorem d_bf_countLiveUnits_110 : decode b_bf_countLiveUnits 110 = .ok (.dup2, 1) := by decide +kernel
theorem d_bf_countLiveUnits_111 : decode b_bf_countLiveUnits 111 = .ok (.laload, 1) := by decide +kernel
theorem d_bf_countLiveUnits_112 : decode b_bf_countLiveUnits 112 = .ok (.aload_n 0, 1) := by decide +kernel
theorem d_bf_countLiveUnits_113 : decode b_bf_countLiveUnits 113 = .ok (.getfield 31, 3) := by decide +kernel
theorem d_bf_countLiveUnits_116 : decode b_bf_countLiveUnits 116 = .ok (.iload_n 3, 1) := by decide +kernel
theorem d_bf_countLiveUnits_117 : decode b_bf_countLiveUnits 117 = .ok (.invokevirtual 287, 3) := by decide +kernel
theorem d_bf_countLiveUnits_120 : decode b_bf_countLiveUnits 120 = .ok (.i2l, 1) := by decide +kernel
theorem d_bf_countLiveUnits_121 : decode b_bf_countLiveUnits 121 = .ok (.ladd, 1) := by decide +kernel
theorem d_bf_countLiveUnits_122 : decode b_bf_countLiveUnits 122 = .ok (.lastore, 1) := by decide +kernel
theorem d_bf_countLiveUnits_123 : decode b_bf_countLiveUnits 123 = .ok (.iinc 3 1, 3) := by decide +kernel
theorem d_bf_countLiveUnits_126 : decode b_bf_countLiveUnits 126 = .ok (.goto (-104), 3) := by decide +kernel
theorem d_bf_countLiveUnits_129 : decode b_bf_countLiveUnits 129 = .ok (.return_, 1) := by decide +kernel
theorem d_bf_allOpen_0 : decode b_bf_allOpen 0 = .ok (.lconst 0, 1) := by decide +kernel
theorem d_bf_allOpen_1 : decode b_bf_allOpen 1 = .ok (.lstore_n 1, 1) := by decide +kernel
theorem d_bf_allOpen_2 : decode b_bf_allOpen 2 = .ok (.iconst 0, 1) := by decide +kernel
theorem d_bf_allOpen_3 : decode b_bf_allOpen 3 = .ok (.istore_n 3, 1) := by decide +kernel
theorem d_bf_allOpen_4 : decode b_bf_allOpen 4 = .ok (.iload_n 3, 1) := by decide +kernel
theorem d_bf_allOpen_5 : decode b_bf_allOpen 5 = .ok (.iconst 5, 1) := by decide +kernel
theorem d_bf_allOpen_6 : decode b_bf_allOpen 6 = .ok (.if_icmp .ge 20, 3) := by decide +kernel
theorem d_bf_allOpen_9 : decode b_bf_allOpen 9 = .ok (.lload_n 1, 1) := by decide +kernel
theorem d_bf_allOpen_10 : decode b_bf_allOpen 10 = .ok (.aload_n 0, 1) := by decide +kernel
theorem d_bf_allOpen_11 : decode b_bf_allOpen 11 = .ok (.getfield 38, 3) := by decide +kernel
theorem d_bf_allOpen_14 : decode b_bf_allOpen 14 = .ok (.iload_n 3, 1) := by decide +kernel
theorem d_bf_allOpen_15 : decode b_bf_allOpen 15 = .ok (.invokevirtual 221, 3) := by decide +kernel
theorem d_bf_allOpen_18 : decode b_bf_allOpen 18 = .ok (.ladd, 1) := by decide +kernel
theorem d_bf_allOpen_19 : decode b_bf_allOpen 19 = .ok (.lstore_n 1, 1) := by decide +kernel
theorem d_bf_allOpen_20 : decode b_bf_allOpen 20 = .ok (.iinc 3 1, 3) := by decide +kernel
theorem d_bf_allOpen_23 : decode b_bf_allOpen 23 = .ok (.goto (-19), 3) := by decide +kernel
theorem d_bf_allOpen_26 : decode b_bf_allOpen 26 = .ok (.lload_n 1, 1) := by decide +kernel
theorem d_bf_allOpen_27 : decode b_bf_allOpen 27 = .ok (.lreturn, 1) := by decide +kernel
theorem d_bf_allCredit_0 : decode b_bf_allCredit 0 = .ok (.lconst 0, 1) := by decide +kernel
theorem d_bf_allCredit_1 : decode b_bf_allCredit 1 = .ok (.lstore_n 1, 1) := by decide +kernel
theorem d_bf_allCredit_2 : decode b_bf_allCredit 2 = .ok (.iconst 0, 1) := by decide +kernel
theorem d_bf_allCredit_3 : decode b_bf_allCredit 3 = .ok (.istore_n 3, 1) := by decide +kernel
theorem d_bf_allCredit_4 : decode b_bf_allCredit 4 = .ok (.iload_n 3, 1) := by decide +kernel
theorem d_bf_allCredit_5 : decode b_bf_allCredit 5 = .ok (.iconst 5, 1) := by decide +kernel
theorem d_bf_allCredit_6 : decode b_bf_allCredit 6 = .ok (.if_icmp .ge 21, 3) := by decide +kernel
theorem d_bf_allCredit_9 : decode b_bf_allCredit 9 = .ok (.lload_n 1, 1) := by decide +kernel
theorem d_bf_allCredit_10 : decode b_bf_allCredit 10 = .ok (.aload_n 0, 1) := by decide +kernel
theorem d_bf_allCredit_11 : decode b_bf_allCredit 11 = .ok (.getfield 24, 3) := by decide +kernel
theorem d_bf_allCredit_14 : decode b_bf_allCredit 14 = .ok (.iload_n 3, 1) := by decide +kernel
theorem d_bf_allCredit_15 : decode b_bf_allCredit 15 = .ok (.aaload, 1) := by decide +kernel
theorem d_bf_allCredit_16 : decode b_bf_allCredit 16 = .ok (.invokevirtual 175, 3) := by decide +kernel
theorem d_bf_allCredit_19 : decode b_bf_allCredit 19 = .ok (.ladd, 1) := by decide +kernel
theorem d_bf_allCredit_20 : decode b_bf_allCredit 20 = .ok (.lstore_n 1, 1) := by decide +kernel
theorem d_bf_allCredit_21 : decode b_bf_allCredit 21 = .ok (.iinc 3 1, 3) := by decide +kernel
theorem d_bf_allCredit_24 : decode b_bf_allCredit 24 = .ok (.goto (-20), 3) := by decide +kernel
theorem d_bf_allCredit_27 : decode b_bf_allCredit 27 = .ok (.lload_n 1, 1) := by decide +kernel
theorem d_bf_allCredit_28 : decode b_bf_allCredit 28 = .ok (.lreturn, 1) := by decide +kernel
theorem d_bf_allEarned_0 : decode b_bf_allEarned 0 = .ok (.lconst 0, 1) := by decide +kernel
theorem d_bf_allEarned_1 : decode b_bf_allEarned 1 = .ok (.lstore_n 1, 1) := by decide +kernel
theorem d_bf_allEarned_2 : decode b_bf_allEarned 2 = .ok (.iconst 0, 1) := by decide +kernel
theorem d_bf_allEarned_3 : decode b_bf_allEarned 3 = .ok (.istore_n 3, 1) := by decide +kernel
theorem d_bf_allEarned_4 : decode b_bf_allEarned 4 = .ok (.iload_n 3, 1) := by decide +kernel
theorem d_bf_allEarned_5 : decode b_bf_allEarned 5 = .ok (.iconst 5, 1) := by decide +kernel
theorem d_bf_allEarned_6 : decode b_bf_allEarned 6 = .ok (.if_icmp .ge 24, 3) := by decide +kernel
theorem d_bf_allEarned_9 : decode b_bf_allEarned 9 = .ok (.lload_n 1, 1) := by decide +kernel
theorem d_bf_allEarned_10 : decode b_bf_allEarned 10 = .ok (.aload_n 0, 1) := by decide +kernel
theorem d_bf_allEarned_11 : decode b_bf_allEarned 11 = .ok (.getfield 45, 3) := by decide +kernel
theorem d_bf_allEarned_14 : decode b_bf_allEarned 14 = .ok (.iload_n 3, 1) := by decide +kernel
theorem d_bf_allEarned_15 : decode b_bf_allEarned 15 = .ok (.aload_n 0, 1) := by decide +kernel
theorem d_bf_allEarned_16 : decode b_bf_allEarned 16 = .ok (.getfield 60, 3) := by decide +kernel
theorem d_bf_allEarned_19 : decode b_bf_allEarned 19 = .ok (.invokevirtual 227, 3) := by decide +kernel
theorem d_bf_allEarned_22 : decode b_bf_allEarned 22 = .ok (.ladd, 1) := by decide +kernel
theorem d_bf_allEarned_23 : decode b_bf_allEarned 23 = .ok (.lstore_n 1, 1) := by decide +kernel
theorem d_bf_allEarned_24 : decode b_bf_allEarned 24 = .ok (.iinc 3 1, 3) := by decide +kernel
theorem d_bf_allEarned_27 : decode b_bf_allEarned 27 = .ok (.goto (-23), 3) := by decide +kernel
theorem d_bf_allEarned_30 : decode b_bf_allEarned 30 = .ok (.lload_n 1, 1) := by decide +kernel
theorem d_bf_allEarned_31 : decode b_bf_allEarned 31 = .ok (.lreturn, 1) := by decide +kernel
theorem d_tr_init_0 : decode b_tr_init 0 = .ok (.aload_n 0, 1) := by decide +kernel
theorem d_tr_init_1 : decode b_tr_init 1 = .ok (.invokespecial 3, 3) := by decide +kernel
theorem d_tr_init_4 : decode b_tr_init 4 = .ok (.aload_n 0, 1) := by decide +kernel
theorem d_tr_init_5 : decode b_tr_init 5 = .ok (.bipush 60, 2) := by decide +kernel
theorem d_tr_init_7 : decode b_tr_init 7 = .ok (.newarray .char, 2) := by decide +kernel
theorem d_tr_init_9 : decode b_tr_init 9 = .ok (.putfield 11, 3) := by decide +kernel
theorem d_tr_init_12 : decode b_tr_init 12 = .ok (.aload_n 0, 1) := by decide +kernel
theorem d_tr_init_13 : decode b_tr_init 13 = .ok (.bipush 6, 2) := by decide +kernel
theorem d_tr_init_15 : decode b_tr_init 15 = .ok (.newarray .boolean, 2) := by decide +kernel
theorem d_tr_init_17 : decode b_tr_init 17 = .ok (.putfield 15, 3) := by decide +kernel
theorem d_tr_init_20 : decode b_tr_init 20 = .ok (.aload_n 0, 1) := by decide +kernel
theorem d_tr_init_21 : decode b_tr_init 21 = .ok (.new 19, 3) := by decide +kernel
theorem d_tr_init_24 : decode b_tr_init 24 = .ok (.dup, 1) := by decide +kernel
theorem d_tr_init_25 : decode b_tr_init 25 = .ok (.invokespecial 21, 3) := by decide +kernel
theorem d_tr_init_28 : decode b_tr_init 28 = .ok (.putfield 22, 3) := by decide +kernel
theorem d_tr_init_31 : decode b_tr_init 31 = .ok (.aload_n 0, 1) := by decide +kernel
theorem d_tr_init_32 : decode b_tr_init 32 = .ok (.iconst 0, 1) := by decide +kernel
theorem d_tr_init_33 : decode b_tr_init 33 = .ok (.putfield 26, 3) := by decide +kernel
theorem d_tr_init_36 : decode b_tr_init 36 = .ok (.aload_n 0, 1) := by decide +kernel
theorem d_tr_init_37 : decode b_tr_init 37 = .ok (.iconst 0, 1) := by decide +kernel
theorem d_tr_init_38 : decode b_tr_init 38 = .ok (.putfield 30, 3) := by decide +kernel
theorem d_tr_init_41 : decode b_tr_init 41 = .ok (.aload_n 0, 1) := by decide +kernel
theorem d_tr_init_42 : decode b_tr_init 42 = .ok (.iconst 0, 1) := by decide +kernel
theorem d_tr_init_43 : decode b_tr_init 43 = .ok (.putfield 33, 3) := by decide +kernel
theorem d_tr_init_46 : decode b_tr_init 46 = .ok (.aload_n 0, 1) := by decide +kernel
theorem d_tr_init_47 : decode b_tr_init 47 = .ok (.bipush (-2), 2) := by decide +kernel
theorem d_tr_init_49 : decode b_tr_init 49 = .ok (.putfield 36, 3) := by decide +kernel
theorem d_tr_init_52 : decode b_tr_init 52 = .ok (.return_, 1) := by decide +kernel
theorem d_tr_charactersIn_0 : decode b_tr_charactersIn 0 = .ok (.iconst 0, 1) := by decide +kernel
theorem d_tr_charactersIn_1 : decode b_tr_charactersIn 1 = .ok (.istore_n 2, 1) := by decide +kernel
theorem d_tr_charactersIn_2 : decode b_tr_charactersIn 2 = .ok (.bipush 56, 2) := by decide +kernel
theorem d_tr_charactersIn_4 : decode b_tr_charactersIn 4 = .ok (.istore_n 3, 1) := by decide +kernel
theorem d_tr_charactersIn_5 : decode b_tr_charactersIn 5 = .ok (.iload_n 3, 1) := by decide +kernel
theorem d_tr_charactersIn_6 : decode b_tr_charactersIn 6 = .ok (.ifCond .lt 43, 3) := by decide +kernel
theorem d_tr_charactersIn_9 : decode b_tr_charactersIn 9 = .ok (.lload_n 0, 1) := by decide +kernel
theorem d_tr_charactersIn_10 : decode b_tr_charactersIn 10 = .ok (.iload_n 3, 1) := by decide +kernel
theorem d_tr_charactersIn_11 : decode b_tr_charactersIn 11 = .ok (.lushr, 1) := by decide +kernel
theorem d_tr_charactersIn_12 : decode b_tr_charactersIn 12 = .ok (.l2i, 1) := by decide +kernel
theorem d_tr_charactersIn_13 : decode b_tr_charactersIn 13 = .ok (.sipush 255, 3) := by decide +kernel
theorem d_tr_charactersIn_16 : decode b_tr_charactersIn 16 = .ok (.iand, 1) := by decide +kernel
theorem d_tr_charactersIn_17 : decode b_tr_charactersIn 17 = .ok (.istore 4, 2) := by decide +kernel
theorem d_tr_charactersIn_19 : decode b_tr_charactersIn 19 = .ok (.iload 4, 2) := by decide +kernel
theorem d_tr_charactersIn_21 : decode b_tr_charactersIn 21 = .ok (.ifCond .eq 22, 3) := by decide +kernel
theorem d_tr_charactersIn_24 : decode b_tr_charactersIn 24 = .ok (.iload 4, 2) := by decide +kernel
theorem d_tr_charactersIn_26 : decode b_tr_charactersIn 26 = .ok (.bipush 32, 2) := by decide +kernel
theorem d_tr_charactersIn_28 : decode b_tr_charactersIn 28 = .ok (.if_icmp .lt 10, 3) := by decide +kernel
theorem d_tr_charactersIn_31 : decode b_tr_charactersIn 31 = .ok (.iload 4, 2) := by decide +kernel
theorem d_tr_charactersIn_33 : decode b_tr_charactersIn 33 = .ok (.bipush 126, 2) := by decide +kernel
theorem d_tr_charactersIn_35 : decode b_tr_charactersIn 35 = .ok (.if_icmp .le 5, 3) := by decide +kernel
theorem d_tr_charactersIn_38 : decode b_tr_charactersIn 38 = .ok (.iconst (-1), 1) := by decide +kernel
theorem d_tr_charactersIn_39 : decode b_tr_charactersIn 39 = .ok (.ireturn, 1) := by decide +kernel
theorem d_tr_charactersIn_40 : decode b_tr_charactersIn 40 = .ok (.iinc 2 1, 3) := by decide +kernel
theorem d_tr_charactersIn_43 : decode b_tr_charactersIn 43 = .ok (.iinc 3 (-8), 3) := by decide +kernel
theorem d_tr_charactersIn_46 : decode b_tr_charactersIn 46 = .ok (.goto (-41), 3) := by decide +kernel
theorem d_tr_charactersIn_49 : decode b_tr_charactersIn 49 = .ok (.iload_n 2, 1) := by decide +kernel
theorem d_tr_charactersIn_50 : decode b_tr_charactersIn 50 = .ok (.ireturn, 1) := by decide +kernel
theorem d_tr_append_0 : decode b_tr_append 0 = .ok (.bipush 56, 2) := by decide +kernel
theorem d_tr_append_2 : decode b_tr_append 2 = .ok (.istore_n 3, 1) := by decide +kernel
theorem d_tr_append_3 : decode b_tr_append 3 = .ok (.iload_n 3, 1) := by decide +kernel
theorem d_tr_append_4 : decode b_tr_append 4 = .ok (.ifCond .lt 55, 3) := by decide +kernel
theorem d_tr_append_7 : decode b_tr_append 7 = .ok (.lload_n 1, 1) := by decide +kernel
theorem d_tr_append_8 : decode b_tr_append 8 = .ok (.iload_n 3, 1) := by decide +kernel
theorem d_tr_append_9 : decode b_tr_append 9 = .ok (.lushr, 1) := by decide +kernel
theorem d_tr_append_10 : decode b_tr_append 10 = .ok (.l2i, 1) := by decide +kernel
theorem d_tr_append_11 : decode b_tr_append 11 = .ok (.sipush 255, 3) := by decide +kernel
theorem d_tr_append_14 : decode b_tr_append 14 = .ok (.iand, 1) := by decide +kernel
theorem d_tr_append_15 : decode b_tr_append 15 = .ok (.istore 4, 2) := by decide +kernel
theorem d_tr_append_17 : decode b_tr_append 17 = .ok (.iload 4, 2) := by decide +kernel
theorem d_tr_append_19 : decode b_tr_append 19 = .ok (.ifCond .eq 34, 3) := by decide +kernel
theorem d_tr_append_22 : decode b_tr_append 22 = .ok (.aload_n 0, 1) := by decide +kernel
theorem d_tr_append_23 : decode b_tr_append 23 = .ok (.getfield 26, 3) := by decide +kernel
theorem d_tr_append_26 : decode b_tr_append 26 = .ok (.bipush 60, 2) := by decide +kernel
theorem d_tr_append_28 : decode b_tr_append 28 = .ok (.if_icmp .ge 25, 3) := by decide +kernel
theorem d_tr_append_31 : decode b_tr_append 31 = .ok (.aload_n 0, 1) := by decide +kernel
theorem d_tr_append_32 : decode b_tr_append 32 = .ok (.getfield 11, 3) := by decide +kernel
theorem d_tr_append_35 : decode b_tr_append 35 = .ok (.aload_n 0, 1) := by decide +kernel
theorem d_tr_append_36 : decode b_tr_append 36 = .ok (.getfield 26, 3) := by decide +kernel
theorem d_tr_append_39 : decode b_tr_append 39 = .ok (.iload 4, 2) := by decide +kernel
theorem d_tr_append_41 : decode b_tr_append 41 = .ok (.i2c, 1) := by decide +kernel
theorem d_tr_append_42 : decode b_tr_append 42 = .ok (.castore, 1) := by decide +kernel
theorem d_tr_append_43 : decode b_tr_append 43 = .ok (.aload_n 0, 1) := by decide +kernel
theorem d_tr_append_44 : decode b_tr_append 44 = .ok (.dup, 1) := by decide +kernel
theorem d_tr_append_45 : decode b_tr_append 45 = .ok (.getfield 26, 3) := by decide +kernel
theorem d_tr_append_48 : decode b_tr_append 48 = .ok (.iconst 1, 1) := by decide +kernel
theorem d_tr_append_49 : decode b_tr_append 49 = .ok (.iadd, 1) := by decide +kernel
theorem d_tr_append_50 : decode b_tr_append 50 = .ok (.putfield 26, 3) := by decide +kernel
theorem d_tr_append_53 : decode b_tr_append 53 = .ok (.iinc 3 (-8), 3) := by decide +kernel
theorem d_tr_append_56 : decode b_tr_append 56 = .ok (.goto (-53), 3) := by decide +kernel
theorem d_tr_append_59 : decode b_tr_append 59 = .ok (.return_, 1) := by decide +kernel
theorem d_tr_empty_0 : decode b_tr_empty 0 = .ok (.aload_n 0, 1) := by decide +kernel
theorem d_tr_empty_1 : decode b_tr_empty 1 = .ok (.iconst 0, 1) := by decide +kernel
theorem d_tr_empty_2 : decode b_tr_empty 2 = .ok (.putfield 26, 3) := by decide +kernel
theorem d_tr_empty_5 : decode b_tr_empty 5 = .ok (.return_, 1) := by decide +kernel
theorem d_tr_forgetFault_0 : decode b_tr_forgetFault 0 = .ok (.aload_n 0, 1) := by decide +kernel
theorem d_tr_forgetFault_1 : decode b_tr_forgetFault 1 = .ok (.bipush (-2), 2) := by decide +kernel
theorem d_tr_forgetFault_3 : decode b_tr_forgetFault 3 = .ok (.putfield 36, 3) := by decide +kernel
theorem d_tr_forgetFault_6 : decode b_tr_forgetFault 6 = .ok (.return_, 1) := by decide +kernel
theorem d_tr_length_0 : decode b_tr_length 0 = .ok (.aload_n 0, 1) := by decide +kernel
theorem d_tr_length_1 : decode b_tr_length 1 = .ok (.getfield 26, 3) := by decide +kernel
theorem d_tr_length_4 : decode b_tr_length 4 = .ok (.ireturn, 1) := by decide +kernel
theorem d_tr_parts_0 : decode b_tr_parts 0 = .ok (.aload_n 0, 1) := by decide +kernel
theorem d_tr_parts_1 : decode b_tr_parts 1 = .ok (.getfield 33, 3) := by decide +kernel
theorem d_tr_parts_4 : decode b_tr_parts 4 = .ok (.ireturn, 1) := by decide +kernel
theorem d_tr_fault_0 : decode b_tr_fault 0 = .ok (.aload_n 0, 1) := by decide +kernel
theorem d_tr_fault_1 : decode b_tr_fault 1 = .ok (.getfield 36, 3) := by decide +kernel
theorem d_tr_fault_4 : decode b_tr_fault 4 = .ok (.ireturn, 1) := by decide +kernel
theorem d_tr_draft_0 : decode b_tr_draft 0 = .ok (.aload_n 0, 1) := by decide +kernel
theorem d_tr_draft_1 : decode b_tr_draft 1 = .ok (.getfield 22, 3) := by decide +kernel
theorem d_tr_draft_4 : decode b_tr_draft 4 = .ok (.areturn, 1) := by decide +kernel
theorem d_tr_readAll_0 : decode b_tr_readAll 0 = .ok (.aload_n 0, 1) := by decide +kernel
theorem d_tr_readAll_1 : decode b_tr_readAll 1 = .ok (.bipush (-2), 2) := by decide +kernel
theorem d_tr_readAll_3 : decode b_tr_readAll 3 = .ok (.putfield 36, 3) := by decide +kernel
theorem d_tr_readAll_6 : decode b_tr_readAll 6 = .ok (.aload_n 0, 1) := by decide +kernel
theorem d_tr_readAll_7 : decode b_tr_readAll 7 = .ok (.iconst 0, 1) := by decide +kernel
theorem d_tr_readAll_8 : decode b_tr_readAll 8 = .ok (.putfield 30, 3) := by decide +kernel
theorem d_tr_readAll_11 : decode b_tr_readAll 11 = .ok (.aload_n 0, 1) := by decide +kernel
theorem d_tr_readAll_12 : decode b_tr_readAll 12 = .ok (.iconst 0, 1) := by decide +kernel
theorem d_tr_readAll_13 : decode b_tr_readAll 13 = .ok (.putfield 33, 3) := by decide +kernel
theorem d_tr_readAll_16 : decode b_tr_readAll 16 = .ok (.aload_n 0, 1) := by decide +kernel
theorem d_tr_readAll_17 : decode b_tr_readAll 17 = .ok (.getfield 22, 3) := by decide +kernel
theorem d_tr_readAll_20 : decode b_tr_readAll 20 = .ok (.invokevirtual 39, 3) := by decide +kernel
theorem d_tr_readAll_23 : decode b_tr_readAll 23 = .ok (.iconst 0, 1) := by decide +kernel
theorem d_tr_readAll_24 : decode b_tr_readAll 24 = .ok (.istore_n 1, 1) := by decide +kernel
theorem d_tr_readAll_25 : decode b_tr_readAll 25 = .ok (.iload_n 1, 1) := by decide +kernel
theorem d_tr_readAll_26 : decode b_tr_readAll 26 = .ok (.bipush 6, 2) := by decide +kernel
theorem d_tr_readAll_28 : decode b_tr_readAll 28 = .ok (.if_icmp .ge 16, 3) := by decide +kernel
theorem d_tr_readAll_31 : decode b_tr_readAll 31 = .ok (.aload_n 0, 1) := by decide +kernel
theorem d_tr_readAll_32 : decode b_tr_readAll 32 = .ok (.getfield 15, 3) := by decide +kernel
theorem d_tr_readAll_35 : decode b_tr_readAll 35 = .ok (.iload_n 1, 1) := by decide +kernel
theorem d_tr_readAll_36 : decode b_tr_readAll 36 = .ok (.iconst 0, 1) := by decide +kernel
theorem d_tr_readAll_37 : decode b_tr_readAll 37 = .ok (.bastore, 1) := by decide +kernel
theorem d_tr_readAll_38 : decode b_tr_readAll 38 = .ok (.iinc 1 1, 3) := by decide +kernel
theorem d_tr_readAll_41 : decode b_tr_readAll 41 = .ok (.goto (-16), 3) := by decide +kernel
theorem d_tr_readAll_44 : decode b_tr_readAll 44 = .ok (.aload_n 0, 1) := by decide +kernel
theorem d_tr_readAll_45 : decode b_tr_readAll 45 = .ok (.getfield 36, 3) := by decide +kernel
theorem d_tr_readAll_48 : decode b_tr_readAll 48 = .ok (.bipush (-2), 2) := by decide +kernel
theorem d_tr_readAll_50 : decode b_tr_readAll 50 = .ok (.if_icmp .ne 38, 3) := by decide +kernel
theorem d_tr_readAll_53 : decode b_tr_readAll 53 = .ok (.aload_n 0, 1) := by decide +kernel
theorem d_tr_readAll_54 : decode b_tr_readAll 54 = .ok (.getfield 15, 3) := by decide +kernel
theorem d_tr_readAll_57 : decode b_tr_readAll 57 = .ok (.iconst 5, 1) := by decide +kernel
theorem d_tr_readAll_58 : decode b_tr_readAll 58 = .ok (.baload, 1) := by decide +kernel
theorem d_tr_readAll_59 : decode b_tr_readAll 59 = .ok (.ifCond .ne 29, 3) := by decide +kernel
theorem d_tr_readAll_62 : decode b_tr_readAll 62 = .ok (.aload_n 0, 1) := by decide +kernel
theorem d_tr_readAll_63 : decode b_tr_readAll 63 = .ok (.getfield 33, 3) := by decide +kernel
theorem d_tr_readAll_66 : decode b_tr_readAll 66 = .ok (.bipush 60, 2) := by decide +kernel
theorem d_tr_readAll_68 : decode b_tr_readAll 68 = .ok (.if_icmp .gt 20, 3) := by decide +kernel
theorem d_tr_readAll_71 : decode b_tr_readAll 71 = .ok (.aload_n 0, 1) := by decide +kernel
theorem d_tr_readAll_72 : decode b_tr_readAll 72 = .ok (.invokevirtual 42, 3) := by decide +kernel
theorem d_tr_readAll_75 : decode b_tr_readAll 75 = .ok (.aload_n 0, 1) := by decide +kernel
theorem d_tr_readAll_76 : decode b_tr_readAll 76 = .ok (.dup, 1) := by decide +kernel
theorem d_tr_readAll_77 : decode b_tr_readAll 77 = .ok (.getfield 33, 3) := by decide +kernel
theorem d_tr_readAll_80 : decode b_tr_readAll 80 = .ok (.iconst 1, 1) := by decide +kernel
theorem d_tr_readAll_81 : decode b_tr_readAll 81 = .ok (.iadd, 1) := by decide +kernel
theorem d_tr_readAll_82 : decode b_tr_readAll 82 = .ok (.putfield 33, 3) := by decide +kernel
theorem d_tr_readAll_85 : decode b_tr_readAll 85 = .ok (.goto (-41), 3) := by decide +kernel
theorem d_tr_readAll_88 : decode b_tr_readAll 88 = .ok (.aload_n 0, 1) := by decide +kernel
theorem d_tr_readAll_89 : decode b_tr_readAll 89 = .ok (.getfield 36, 3) := by decide +kernel
theorem d_tr_readAll_92 : decode b_tr_readAll 92 = .ok (.bipush (-2), 2) := by decide +kernel
theorem d_tr_readAll_94 : decode b_tr_readAll 94 = .ok (.if_icmp .ne 7, 3) := by decide +kernel
theorem d_tr_readAll_97 : decode b_tr_readAll 97 = .ok (.iconst 1, 1) := by decide +kernel
theorem d_tr_readAll_98 : decode b_tr_readAll 98 = .ok (.goto 4, 3) := by decide +kernel
theorem d_tr_readAll_101 : decode b_tr_readAll 101 = .ok (.iconst 0, 1) := by decide +kernel
theorem d_tr_readAll_102 : decode b_tr_readAll 102 = .ok (.ireturn, 1) := by decide +kernel
theorem d_tr_readPart_0 : decode b_tr_readPart 0 = .ok (.aload_n 0, 1) := by decide +kernel
theorem d_tr_readPart_1 : decode b_tr_readPart 1 = .ok (.invokevirtual 45, 3) := by decide +kernel
theorem d_tr_readPart_4 : decode b_tr_readPart 4 = .ok (.aload_n 0, 1) := by decide +kernel
theorem d_tr_readPart_5 : decode b_tr_readPart 5 = .ok (.getfield 30, 3) := by decide +kernel
theorem d_tr_readPart_8 : decode b_tr_readPart 8 = .ok (.istore_n 1, 1) := by decide +kernel
theorem d_tr_readPart_9 : decode b_tr_readPart 9 = .ok (.aload_n 0, 1) := by decide +kernel
theorem d_tr_readPart_10 : decode b_tr_readPart 10 = .ok (.invokevirtual 48, 3) := by decide +kernel
theorem d_tr_readPart_13 : decode b_tr_readPart 13 = .ok (.aload_n 0, 1) := by decide +kernel
theorem d_tr_readPart_14 : decode b_tr_readPart 14 = .ok (.getfield 30, 3) := by decide +kernel
theorem d_tr_readPart_17 : decode b_tr_readPart 17 = .ok (.iload_n 1, 1) := by decide +kernel
theorem d_tr_readPart_18 : decode b_tr_readPart 18 = .ok (.if_icmp .ne 12, 3) := by decide +kernel
theorem d_tr_readPart_21 : decode b_tr_readPart 21 = .ok (.aload_n 0, 1) := by decide +kernel
theorem d_tr_readPart_22 : decode b_tr_readPart 22 = .ok (.aload_n 0, 1) := by decide +kernel
theorem d_tr_readPart_23 : decode b_tr_readPart 23 = .ok (.getfield 30, 3) := by decide +kernel
theorem d_tr_readPart_26 : decode b_tr_readPart 26 = .ok (.putfield 36, 3) := by decide +kernel
theorem d_tr_readPart_29 : decode b_tr_readPart 29 = .ok (.return_, 1) := by decide +kernel
theorem d_tr_readPart_30 : decode b_tr_readPart 30 = .ok (.aload_n 0, 1) := by decide +kernel
theorem d_tr_readPart_31 : decode b_tr_readPart 31 = .ok (.iload_n 1, 1) := by decide +kernel
theorem d_tr_readPart_32 : decode b_tr_readPart 32 = .ok (.aload_n 0, 1) := by decide +kernel
theorem d_tr_readPart_33 : decode b_tr_readPart 33 = .ok (.getfield 30, 3) := by decide +kernel
theorem d_tr_readPart_36 : decode b_tr_readPart 36 = .ok (.invokevirtual 51, 3) := by decide +kernel
theorem d_tr_readPart_39 : decode b_tr_readPart 39 = .ok (.istore_n 2, 1) := by decide +kernel
theorem d_tr_readPart_40 : decode b_tr_readPart 40 = .ok (.aload_n 0, 1) := by decide +kernel
theorem d_tr_readPart_41 : decode b_tr_readPart 41 = .ok (.iload_n 2, 1) := by decide +kernel
theorem d_tr_readPart_42 : decode b_tr_readPart 42 = .ok (.invokevirtual 55, 3) := by decide +kernel
theorem d_tr_readPart_45 : decode b_tr_readPart 45 = .ok (.ifCond .ne 9, 3) := by decide +kernel
theorem d_tr_readPart_48 : decode b_tr_readPart 48 = .ok (.aload_n 0, 1) := by decide +kernel
theorem d_tr_readPart_49 : decode b_tr_readPart 49 = .ok (.iload_n 1, 1) := by decide +kernel
theorem d_tr_readPart_50 : decode b_tr_readPart 50 = .ok (.putfield 36, 3) := by decide +kernel
theorem d_tr_readPart_53 : decode b_tr_readPart 53 = .ok (.return_, 1) := by decide +kernel
theorem d_tr_readPart_54 : decode b_tr_readPart 54 = .ok (.aload_n 0, 1) := by decide +kernel
theorem d_tr_readPart_55 : decode b_tr_readPart 55 = .ok (.getfield 15, 3) := by decide +kernel
theorem d_tr_readPart_58 : decode b_tr_readPart 58 = .ok (.iload_n 2, 1) := by decide +kernel
theorem d_tr_readPart_59 : decode b_tr_readPart 59 = .ok (.iconst 1, 1) := by decide +kernel
theorem d_tr_readPart_60 : decode b_tr_readPart 60 = .ok (.bastore, 1) := by decide +kernel
theorem d_tr_readPart_61 : decode b_tr_readPart 61 = .ok (.aload_n 0, 1) := by decide +kernel
theorem d_tr_readPart_62 : decode b_tr_readPart 62 = .ok (.iload_n 2, 1) := by decide +kernel
theorem d_tr_readPart_63 : decode b_tr_readPart 63 = .ok (.invokevirtual 59, 3) := by decide +kernel
theorem d_tr_readPart_66 : decode b_tr_readPart 66 = .ok (.aload_n 0, 1) := by decide +kernel
theorem d_tr_readPart_67 : decode b_tr_readPart 67 = .ok (.getfield 36, 3) := by decide +kernel
theorem d_tr_readPart_70 : decode b_tr_readPart 70 = .ok (.bipush (-2), 2) := by decide +kernel
theorem d_tr_readPart_72 : decode b_tr_readPart 72 = .ok (.if_icmp .ne 8, 3) := by decide +kernel
theorem d_tr_readPart_75 : decode b_tr_readPart 75 = .ok (.aload_n 0, 1) := by decide +kernel
theorem d_tr_readPart_76 : decode b_tr_readPart 76 = .ok (.iload_n 2, 1) := by decide +kernel
theorem d_tr_readPart_77 : decode b_tr_readPart 77 = .ok (.invokevirtual 63, 3) := by decide +kernel
theorem d_tr_readPart_80 : decode b_tr_readPart 80 = .ok (.return_, 1) := by decide +kernel
theorem d_tr_readEndOfPart_0 : decode b_tr_readEndOfPart 0 = .ok (.aload_n 0, 1) := by decide +kernel
theorem d_tr_readEndOfPart_1 : decode b_tr_readEndOfPart 1 = .ok (.invokevirtual 45, 3) := by decide +kernel
theorem d_tr_readEndOfPart_4 : decode b_tr_readEndOfPart 4 = .ok (.iload_n 1, 1) := by decide +kernel
theorem d_tr_readEndOfPart_5 : decode b_tr_readEndOfPart 5 = .ok (.iconst 5, 1) := by decide +kernel
theorem d_tr_readEndOfPart_6 : decode b_tr_readEndOfPart 6 = .ok (.if_icmp .ne 25, 3) := by decide +kernel
theorem d_tr_readEndOfPart_9 : decode b_tr_readEndOfPart 9 = .ok (.aload_n 0, 1) := by decide +kernel
theorem d_tr_readEndOfPart_10 : decode b_tr_readEndOfPart 10 = .ok (.getfield 30, 3) := by decide +kernel
theorem d_tr_readEndOfPart_13 : decode b_tr_readEndOfPart 13 = .ok (.aload_n 0, 1) := by decide +kernel
theorem d_tr_readEndOfPart_14 : decode b_tr_readEndOfPart 14 = .ok (.getfield 26, 3) := by decide +kernel
theorem d_tr_readEndOfPart_17 : decode b_tr_readEndOfPart 17 = .ok (.if_icmp .ge 60, 3) := by decide +kernel
theorem d_tr_readEndOfPart_20 : decode b_tr_readEndOfPart 20 = .ok (.aload_n 0, 1) := by decide +kernel
theorem d_tr_readEndOfPart_21 : decode b_tr_readEndOfPart 21 = .ok (.aload_n 0, 1) := by decide +kernel
theorem d_tr_readEndOfPart_22 : decode b_tr_readEndOfPart 22 = .ok (.getfield 30, 3) := by decide +kernel
theorem d_tr_readEndOfPart_25 : decode b_tr_readEndOfPart 25 = .ok (.putfield 36, 3) := by decide +kernel
theorem d_tr_readEndOfPart_28 : decode b_tr_readEndOfPart 28 = .ok (.goto 49, 3) := by decide +kernel
theorem d_tr_readEndOfPart_31 : decode b_tr_readEndOfPart 31 = .ok (.aload_n 0, 1) := by decide +kernel
theorem d_tr_readEndOfPart_32 : decode b_tr_readEndOfPart 32 = .ok (.getfield 30, 3) := by decide +kernel
theorem d_tr_readEndOfPart_35 : decode b_tr_readEndOfPart 35 = .ok (.aload_n 0, 1) := by decide +kernel
theorem d_tr_readEndOfPart_36 : decode b_tr_readEndOfPart 36 = .ok (.getfield 26, 3) := by decide +kernel
theorem d_tr_readEndOfPart_39 : decode b_tr_readEndOfPart 39 = .ok (.if_icmp .ge 30, 3) := by decide +kernel
theorem d_tr_readEndOfPart_42 : decode b_tr_readEndOfPart 42 = .ok (.aload_n 0, 1) := by decide +kernel
theorem d_tr_readEndOfPart_43 : decode b_tr_readEndOfPart 43 = .ok (.getfield 11, 3) := by decide +kernel
theorem d_tr_readEndOfPart_46 : decode b_tr_readEndOfPart 46 = .ok (.aload_n 0, 1) := by decide +kernel
theorem d_tr_readEndOfPart_47 : decode b_tr_readEndOfPart 47 = .ok (.getfield 30, 3) := by decide +kernel
theorem d_tr_readEndOfPart_50 : decode b_tr_readEndOfPart 50 = .ok (.caload, 1) := by decide +kernel
theorem d_tr_readEndOfPart_51 : decode b_tr_readEndOfPart 51 = .ok (.bipush 59, 2) := by decide +kernel
theorem d_tr_readEndOfPart_53 : decode b_tr_readEndOfPart 53 = .ok (.if_icmp .ne 16, 3) := by decide +kernel
theorem d_tr_readEndOfPart_56 : decode b_tr_readEndOfPart 56 = .ok (.aload_n 0, 1) := by decide +kernel
theorem d_tr_readEndOfPart_57 : decode b_tr_readEndOfPart 57 = .ok (.dup, 1) := by decide +kernel
theorem d_tr_readEndOfPart_58 : decode b_tr_readEndOfPart 58 = .ok (.getfield 30, 3) := by decide +kernel
theorem d_tr_readEndOfPart_61 : decode b_tr_readEndOfPart 61 = .ok (.iconst 1, 1) := by decide +kernel
theorem d_tr_readEndOfPart_62 : decode b_tr_readEndOfPart 62 = .ok (.iadd, 1) := by decide +kernel
theorem d_tr_readEndOfPart_63 : decode b_tr_readEndOfPart 63 = .ok (.putfield 30, 3) := by decide +kernel
theorem d_tr_readEndOfPart_66 : decode b_tr_readEndOfPart 66 = .ok (.goto 11, 3) := by decide +kernel
theorem d_tr_readEndOfPart_69 : decode b_tr_readEndOfPart 69 = .ok (.aload_n 0, 1) := by decide +kernel
theorem d_tr_readEndOfPart_70 : decode b_tr_readEndOfPart 70 = .ok (.aload_n 0, 1) := by decide +kernel
theorem d_tr_readEndOfPart_71 : decode b_tr_readEndOfPart 71 = .ok (.getfield 30, 3) := by decide +kernel
theorem d_tr_readEndOfPart_74 : decode b_tr_readEndOfPart 74 = .ok (.putfield 36, 3) := by decide +kernel
theorem d_tr_readEndOfPart_77 : decode b_tr_readEndOfPart 77 = .ok (.return_, 1) := by decide +kernel
theorem d_tr_canStand_0 : decode b_tr_canStand 0 = .ok (.iload_n 1, 1) := by decide +kernel
theorem d_tr_canStand_1 : decode b_tr_canStand 1 = .ok (.ifCond .lt 9, 3) := by decide +kernel
theorem d_tr_canStand_4 : decode b_tr_canStand 4 = .ok (.iload_n 1, 1) := by decide +kernel
theorem d_tr_canStand_5 : decode b_tr_canStand 5 = .ok (.bipush 6, 2) := by decide +kernel
theorem d_tr_canStand_7 : decode b_tr_canStand 7 = .ok (.if_icmp .lt 5, 3) := by decide +kernel
theorem d_tr_canStand_10 : decode b_tr_canStand 10 = .ok (.iconst 0, 1) := by decide +kernel
theorem d_tr_canStand_11 : decode b_tr_canStand 11 = .ok (.ireturn, 1) := by decide +kernel
theorem d_tr_canStand_12 : decode b_tr_canStand 12 = .ok (.iload_n 1, 1) := by decide +kernel
theorem d_tr_canStand_13 : decode b_tr_canStand 13 = .ok (.iconst 4, 1) := by decide +kernel
theorem d_tr_canStand_14 : decode b_tr_canStand 14 = .ok (.if_icmp .ne 30, 3) := by decide +kernel
theorem d_tr_canStand_17 : decode b_tr_canStand 17 = .ok (.aload_n 0, 1) := by decide +kernel
theorem d_tr_canStand_18 : decode b_tr_canStand 18 = .ok (.getfield 22, 3) := by decide +kernel
theorem d_tr_canStand_21 : decode b_tr_canStand 21 = .ok (.invokevirtual 66, 3) := by decide +kernel
theorem d_tr_canStand_24 : decode b_tr_canStand 24 = .ok (.ifCond .ne 18, 3) := by decide +kernel
theorem d_tr_canStand_27 : decode b_tr_canStand 27 = .ok (.aload_n 0, 1) := by decide +kernel
theorem d_tr_canStand_28 : decode b_tr_canStand 28 = .ok (.getfield 22, 3) := by decide +kernel
theorem d_tr_canStand_31 : decode b_tr_canStand 31 = .ok (.invokevirtual 70, 3) := by decide +kernel
theorem d_tr_canStand_34 : decode b_tr_canStand 34 = .ok (.iconst 4, 1) := by decide +kernel
theorem d_tr_canStand_35 : decode b_tr_canStand 35 = .ok (.if_icmp .ge 7, 3) := by decide +kernel
theorem d_tr_canStand_38 : decode b_tr_canStand 38 = .ok (.iconst 1, 1) := by decide +kernel
theorem d_tr_canStand_39 : decode b_tr_canStand 39 = .ok (.goto 4, 3) := by decide +kernel
theorem d_tr_canStand_42 : decode b_tr_canStand 42 = .ok (.iconst 0, 1) := by decide +kernel
theorem d_tr_canStand_43 : decode b_tr_canStand 43 = .ok (.ireturn, 1) := by decide +kernel
theorem d_tr_canStand_44 : decode b_tr_canStand 44 = .ok (.iload_n 1, 1) := by decide +kernel
theorem d_tr_canStand_45 : decode b_tr_canStand 45 = .ok (.iconst 3, 1) := by decide +kernel
theorem d_tr_canStand_46 : decode b_tr_canStand 46 = .ok (.if_icmp .ne 15, 3) := by decide +kernel
theorem d_tr_canStand_49 : decode b_tr_canStand 49 = .ok (.aload_n 0, 1) := by decide +kernel
theorem d_tr_canStand_50 : decode b_tr_canStand 50 = .ok (.getfield 22, 3) := by decide +kernel
theorem d_tr_canStand_53 : decode b_tr_canStand 53 = .ok (.invokevirtual 70, 3) := by decide +kernel
theorem d_tr_canStand_56 : decode b_tr_canStand 56 = .ok (.ifCond .le 5, 3) := by decide +kernel
theorem d_tr_canStand_59 : decode b_tr_canStand 59 = .ok (.iconst 0, 1) := by decide +kernel
theorem d_tr_canStand_60 : decode b_tr_canStand 60 = .ok (.ireturn, 1) := by decide +kernel
theorem d_tr_canStand_61 : decode b_tr_canStand 61 = .ok (.aload_n 0, 1) := by decide +kernel
theorem d_tr_canStand_62 : decode b_tr_canStand 62 = .ok (.getfield 15, 3) := by decide +kernel
theorem d_tr_canStand_65 : decode b_tr_canStand 65 = .ok (.iload_n 1, 1) := by decide +kernel
theorem d_tr_canStand_66 : decode b_tr_canStand 66 = .ok (.baload, 1) := by decide +kernel
theorem d_tr_canStand_67 : decode b_tr_canStand 67 = .ok (.ifCond .ne 7, 3) := by decide +kernel
theorem d_tr_canStand_70 : decode b_tr_canStand 70 = .ok (.iconst 1, 1) := by decide +kernel
theorem d_tr_canStand_71 : decode b_tr_canStand 71 = .ok (.goto 4, 3) := by decide +kernel
theorem d_tr_canStand_74 : decode b_tr_canStand 74 = .ok (.iconst 0, 1) := by decide +kernel
theorem d_tr_canStand_75 : decode b_tr_canStand 75 = .ok (.ireturn, 1) := by decide +kernel
theorem d_tr_readNumbers_0 : decode b_tr_readNumbers 0 = .ok (.iload_n 1, 1) := by decide +kernel
theorem d_tr_readNumbers_1 : decode b_tr_readNumbers 1 = .ok (.iconst 3, 1) := by decide +kernel
theorem d_tr_readNumbers_2 : decode b_tr_readNumbers 2 = .ok (.if_icmp .eq 8, 3) := by decide +kernel
theorem d_tr_readNumbers_5 : decode b_tr_readNumbers 5 = .ok (.iload_n 1, 1) := by decide +kernel
theorem d_tr_readNumbers_6 : decode b_tr_readNumbers 6 = .ok (.iconst 4, 1) := by decide +kernel
theorem d_tr_readNumbers_7 : decode b_tr_readNumbers 7 = .ok (.if_icmp .ne 9, 3) := by decide +kernel
theorem d_tr_readNumbers_10 : decode b_tr_readNumbers 10 = .ok (.aload_n 0, 1) := by decide +kernel
theorem d_tr_readNumbers_11 : decode b_tr_readNumbers 11 = .ok (.iload_n 1, 1) := by decide +kernel
theorem d_tr_readNumbers_12 : decode b_tr_readNumbers 12 = .ok (.invokevirtual 74, 3) := by decide +kernel
theorem d_tr_readNumbers_15 : decode b_tr_readNumbers 15 = .ok (.return_, 1) := by decide +kernel
theorem d_tr_readNumbers_16 : decode b_tr_readNumbers 16 = .ok (.aload_n 0, 1) := by decide +kernel
theorem d_tr_readNumbers_17 : decode b_tr_readNumbers 17 = .ok (.iconst 0, 1) := by decide +kernel
theorem d_tr_readNumbers_18 : decode b_tr_readNumbers 18 = .ok (.invokevirtual 77, 3) := by decide +kernel
theorem d_tr_readNumbers_21 : decode b_tr_readNumbers 21 = .ok (.istore_n 2, 1) := by decide +kernel
theorem d_tr_readNumbers_22 : decode b_tr_readNumbers 22 = .ok (.aload_n 0, 1) := by decide +kernel
theorem d_tr_readNumbers_23 : decode b_tr_readNumbers 23 = .ok (.getfield 36, 3) := by decide +kernel
theorem d_tr_readNumbers_26 : decode b_tr_readNumbers 26 = .ok (.bipush (-2), 2) := by decide +kernel
theorem d_tr_readNumbers_28 : decode b_tr_readNumbers 28 = .ok (.if_icmp .eq 4, 3) := by decide +kernel
theorem d_tr_readNumbers_31 : decode b_tr_readNumbers 31 = .ok (.return_, 1) := by decide +kernel
theorem d_tr_readNumbers_32 : decode b_tr_readNumbers 32 = .ok (.iload_n 1, 1) := by decide +kernel
theorem d_tr_readNumbers_33 : decode b_tr_readNumbers 33 = .ok (.ifCond .ne 14, 3) := by decide +kernel
theorem d_tr_readNumbers_36 : decode b_tr_readNumbers 36 = .ok (.aload_n 0, 1) := by decide +kernel
theorem d_tr_readNumbers_37 : decode b_tr_readNumbers 37 = .ok (.getfield 22, 3) := by decide +kernel
theorem d_tr_readNumbers_40 : decode b_tr_readNumbers 40 = .ok (.iload_n 2, 1) := by decide +kernel
theorem d_tr_readNumbers_41 : decode b_tr_readNumbers 41 = .ok (.invokevirtual 81, 3) := by decide +kernel
theorem d_tr_readNumbers_44 : decode b_tr_readNumbers 44 = .ok (.goto 43, 3) := by decide +kernel
theorem d_tr_readNumbers_47 : decode b_tr_readNumbers 47 = .ok (.iload_n 1, 1) := by decide +kernel
theorem d_tr_readNumbers_48 : decode b_tr_readNumbers 48 = .ok (.iconst 1, 1) := by decide +kernel
theorem d_tr_readNumbers_49 : decode b_tr_readNumbers 49 = .ok (.if_icmp .ne 14, 3) := by decide +kernel
theorem d_tr_readNumbers_52 : decode b_tr_readNumbers 52 = .ok (.aload_n 0, 1) := by decide +kernel
theorem d_tr_readNumbers_53 : decode b_tr_readNumbers 53 = .ok (.getfield 22, 3) := by decide +kernel
theorem d_tr_readNumbers_56 : decode b_tr_readNumbers 56 = .ok (.iload_n 2, 1) := by decide +kernel
theorem d_tr_readNumbers_57 : decode b_tr_readNumbers 57 = .ok (.invokevirtual 84, 3) := by decide +kernel
theorem d_tr_readNumbers_60 : decode b_tr_readNumbers 60 = .ok (.goto 27, 3) := by decide +kernel
theorem d_tr_readNumbers_63 : decode b_tr_readNumbers 63 = .ok (.iload_n 1, 1) := by decide +kernel
theorem d_tr_readNumbers_64 : decode b_tr_readNumbers 64 = .ok (.iconst 2, 1) := by decide +kernel
theorem d_tr_readNumbers_65 : decode b_tr_readNumbers 65 = .ok (.if_icmp .ne 14, 3) := by decide +kernel
theorem d_tr_readNumbers_68 : decode b_tr_readNumbers 68 = .ok (.aload_n 0, 1) := by decide +kernel
theorem d_tr_readNumbers_69 : decode b_tr_readNumbers 69 = .ok (.getfield 22, 3) := by decide +kernel
theorem d_tr_readNumbers_72 : decode b_tr_readNumbers 72 = .ok (.iload_n 2, 1) := by decide +kernel
theorem d_tr_readNumbers_73 : decode b_tr_readNumbers 73 = .ok (.invokevirtual 87, 3) := by decide +kernel
theorem d_tr_readNumbers_76 : decode b_tr_readNumbers 76 = .ok (.goto 11, 3) := by decide +kernel
theorem d_tr_readNumbers_79 : decode b_tr_readNumbers 79 = .ok (.aload_n 0, 1) := by decide +kernel
theorem d_tr_readNumbers_80 : decode b_tr_readNumbers 80 = .ok (.getfield 22, 3) := by decide +kernel
theorem d_tr_readNumbers_83 : decode b_tr_readNumbers 83 = .ok (.iload_n 2, 1) := by decide +kernel
theorem d_tr_readNumbers_84 : decode b_tr_readNumbers 84 = .ok (.invokevirtual 90, 3) := by decide +kernel
theorem d_tr_readNumbers_87 : decode b_tr_readNumbers 87 = .ok (.return_, 1) := by decide +kernel
theorem d_tr_readTwoNumbers_0 : decode b_tr_readTwoNumbers 0 = .ok (.aload_n 0, 1) := by decide +kernel
theorem d_tr_readTwoNumbers_1 : decode b_tr_readTwoNumbers 1 = .ok (.iload_n 1, 1) := by decide +kernel
theorem d_tr_readTwoNumbers_2 : decode b_tr_readTwoNumbers 2 = .ok (.iconst 4, 1) := by decide +kernel
theorem d_tr_readTwoNumbers_3 : decode b_tr_readTwoNumbers 3 = .ok (.if_icmp .ne 15, 3) := by decide +kernel
theorem d_tr_readTwoNumbers_6 : decode b_tr_readTwoNumbers 6 = .ok (.aload_n 0, 1) := by decide +kernel
theorem d_tr_readTwoNumbers_7 : decode b_tr_readTwoNumbers 7 = .ok (.getfield 22, 3) := by decide +kernel
theorem d_tr_readTwoNumbers_10 : decode b_tr_readTwoNumbers 10 = .ok (.invokevirtual 93, 3) := by decide +kernel
theorem d_tr_readTwoNumbers_13 : decode b_tr_readTwoNumbers 13 = .ok (.iconst 1, 1) := by decide +kernel
theorem d_tr_readTwoNumbers_14 : decode b_tr_readTwoNumbers 14 = .ok (.iadd, 1) := by decide +kernel
theorem d_tr_readTwoNumbers_15 : decode b_tr_readTwoNumbers 15 = .ok (.goto 4, 3) := by decide +kernel
theorem d_tr_readTwoNumbers_18 : decode b_tr_readTwoNumbers 18 = .ok (.iconst 1, 1) := by decide +kernel
theorem d_tr_readTwoNumbers_19 : decode b_tr_readTwoNumbers 19 = .ok (.invokevirtual 77, 3) := by decide +kernel
theorem d_tr_readTwoNumbers_22 : decode b_tr_readTwoNumbers 22 = .ok (.istore_n 2, 1) := by decide +kernel
theorem d_tr_readTwoNumbers_23 : decode b_tr_readTwoNumbers 23 = .ok (.aload_n 0, 1) := by decide +kernel
theorem d_tr_readTwoNumbers_24 : decode b_tr_readTwoNumbers 24 = .ok (.getfield 36, 3) := by decide +kernel
theorem d_tr_readTwoNumbers_27 : decode b_tr_readTwoNumbers 27 = .ok (.bipush (-2), 2) := by decide +kernel
theorem d_tr_readTwoNumbers_29 : decode b_tr_readTwoNumbers 29 = .ok (.if_icmp .eq 4, 3) := by decide +kernel
theorem d_tr_readTwoNumbers_32 : decode b_tr_readTwoNumbers 32 = .ok (.return_, 1) := by decide +kernel
theorem d_tr_readTwoNumbers_33 : decode b_tr_readTwoNumbers 33 = .ok (.aload_n 0, 1) := by decide +kernel
theorem d_tr_readTwoNumbers_34 : decode b_tr_readTwoNumbers 34 = .ok (.iconst 0, 1) := by decide +kernel
theorem d_tr_readTwoNumbers_35 : decode b_tr_readTwoNumbers 35 = .ok (.invokevirtual 77, 3) := by decide +kernel
theorem d_tr_readTwoNumbers_38 : decode b_tr_readTwoNumbers 38 = .ok (.istore_n 3, 1) := by decide +kernel
theorem d_tr_readTwoNumbers_39 : decode b_tr_readTwoNumbers 39 = .ok (.aload_n 0, 1) := by decide +kernel
theorem d_tr_readTwoNumbers_40 : decode b_tr_readTwoNumbers 40 = .ok (.getfield 36, 3) := by decide +kernel
theorem d_tr_readTwoNumbers_43 : decode b_tr_readTwoNumbers 43 = .ok (.bipush (-2), 2) := by decide +kernel
theorem d_tr_readTwoNumbers_45 : decode b_tr_readTwoNumbers 45 = .ok (.if_icmp .eq 4, 3) := by decide +kernel
theorem d_tr_readTwoNumbers_48 : decode b_tr_readTwoNumbers 48 = .ok (.return_, 1) := by decide +kernel
theorem d_tr_readTwoNumbers_49 : decode b_tr_readTwoNumbers 49 = .ok (.iload_n 1, 1) := by decide +kernel
theorem d_tr_readTwoNumbers_50 : decode b_tr_readTwoNumbers 50 = .ok (.iconst 4, 1) := by decide +kernel
theorem d_tr_readTwoNumbers_51 : decode b_tr_readTwoNumbers 51 = .ok (.if_icmp .ne 15, 3) := by decide +kernel
theorem d_tr_readTwoNumbers_54 : decode b_tr_readTwoNumbers 54 = .ok (.aload_n 0, 1) := by decide +kernel
theorem d_tr_readTwoNumbers_55 : decode b_tr_readTwoNumbers 55 = .ok (.getfield 22, 3) := by decide +kernel
theorem d_tr_readTwoNumbers_58 : decode b_tr_readTwoNumbers 58 = .ok (.iload_n 2, 1) := by decide +kernel
theorem d_tr_readTwoNumbers_59 : decode b_tr_readTwoNumbers 59 = .ok (.iload_n 3, 1) := by decide +kernel
theorem d_tr_readTwoNumbers_60 : decode b_tr_readTwoNumbers 60 = .ok (.invokevirtual 96, 3) := by decide +kernel
theorem d_tr_readTwoNumbers_63 : decode b_tr_readTwoNumbers 63 = .ok (.goto 12, 3) := by decide +kernel
theorem d_tr_readTwoNumbers_66 : decode b_tr_readTwoNumbers 66 = .ok (.aload_n 0, 1) := by decide +kernel
theorem d_tr_readTwoNumbers_67 : decode b_tr_readTwoNumbers 67 = .ok (.getfield 22, 3) := by decide +kernel
theorem d_tr_readTwoNumbers_70 : decode b_tr_readTwoNumbers 70 = .ok (.iload_n 2, 1) := by decide +kernel
theorem d_tr_readTwoNumbers_71 : decode b_tr_readTwoNumbers 71 = .ok (.iload_n 3, 1) := by decide +kernel
theorem d_tr_readTwoNumbers_72 : decode b_tr_readTwoNumbers 72 = .ok (.invokevirtual 100, 3) := by decide +kernel
theorem d_tr_readTwoNumbers_75 : decode b_tr_readTwoNumbers 75 = .ok (.return_, 1) := by decide +kernel
theorem d_tr_readNumber_0 : decode b_tr_readNumber 0 = .ok (.aload_n 0, 1) := by decide +kernel
theorem d_tr_readNumber_1 : decode b_tr_readNumber 1 = .ok (.invokevirtual 45, 3) := by decide +kernel
theorem d_tr_readNumber_4 : decode b_tr_readNumber 4 = .ok (.aload_n 0, 1) := by decide +kernel
theorem d_tr_readNumber_5 : decode b_tr_readNumber 5 = .ok (.getfield 30, 3) := by decide +kernel
theorem d_tr_readNumber_8 : decode b_tr_readNumber 8 = .ok (.istore_n 2, 1) := by decide +kernel
theorem d_tr_readNumber_9 : decode b_tr_readNumber 9 = .ok (.iconst 0, 1) := by decide +kernel
theorem d_tr_readNumber_10 : decode b_tr_readNumber 10 = .ok (.istore_n 3, 1) := by decide +kernel
theorem d_tr_readNumber_11 : decode b_tr_readNumber 11 = .ok (.aload_n 0, 1) := by decide +kernel
theorem d_tr_readNumber_12 : decode b_tr_readNumber 12 = .ok (.getfield 30, 3) := by decide +kernel
theorem d_tr_readNumber_15 : decode b_tr_readNumber 15 = .ok (.aload_n 0, 1) := by decide +kernel
theorem d_tr_readNumber_16 : decode b_tr_readNumber 16 = .ok (.getfield 26, 3) := by decide +kernel
theorem d_tr_readNumber_19 : decode b_tr_readNumber 19 = .ok (.if_icmp .ge 82, 3) := by decide +kernel
theorem d_tr_readNumber_22 : decode b_tr_readNumber 22 = .ok (.aload_n 0, 1) := by decide +kernel
theorem d_tr_readNumber_23 : decode b_tr_readNumber 23 = .ok (.getfield 11, 3) := by decide +kernel
theorem d_tr_readNumber_26 : decode b_tr_readNumber 26 = .ok (.aload_n 0, 1) := by decide +kernel
theorem d_tr_readNumber_27 : decode b_tr_readNumber 27 = .ok (.getfield 30, 3) := by decide +kernel
theorem d_tr_readNumber_30 : decode b_tr_readNumber 30 = .ok (.caload, 1) := by decide +kernel
theorem d_tr_readNumber_31 : decode b_tr_readNumber 31 = .ok (.bipush 48, 2) := by decide +kernel
theorem d_tr_readNumber_33 : decode b_tr_readNumber 33 = .ok (.if_icmp .lt 68, 3) := by decide +kernel
theorem d_tr_readNumber_36 : decode b_tr_readNumber 36 = .ok (.aload_n 0, 1) := by decide +kernel
theorem d_tr_readNumber_37 : decode b_tr_readNumber 37 = .ok (.getfield 11, 3) := by decide +kernel
theorem d_tr_readNumber_40 : decode b_tr_readNumber 40 = .ok (.aload_n 0, 1) := by decide +kernel
theorem d_tr_readNumber_41 : decode b_tr_readNumber 41 = .ok (.getfield 30, 3) := by decide +kernel
theorem d_tr_readNumber_44 : decode b_tr_readNumber 44 = .ok (.caload, 1) := by decide +kernel
theorem d_tr_readNumber_45 : decode b_tr_readNumber 45 = .ok (.bipush 57, 2) := by decide +kernel
theorem d_tr_readNumber_47 : decode b_tr_readNumber 47 = .ok (.if_icmp .gt 54, 3) := by decide +kernel
theorem d_tr_readNumber_50 : decode b_tr_readNumber 50 = .ok (.aload_n 0, 1) := by decide +kernel
theorem d_tr_readNumber_51 : decode b_tr_readNumber 51 = .ok (.getfield 30, 3) := by decide +kernel
theorem d_tr_readNumber_54 : decode b_tr_readNumber 54 = .ok (.iload_n 2, 1) := by decide +kernel
theorem d_tr_readNumber_55 : decode b_tr_readNumber 55 = .ok (.isub, 1) := by decide +kernel
theorem d_tr_readNumber_56 : decode b_tr_readNumber 56 = .ok (.iconst 5, 1) := by decide +kernel
theorem d_tr_readNumber_57 : decode b_tr_readNumber 57 = .ok (.if_icmp .ne 13, 3) := by decide +kernel
theorem d_tr_readNumber_60 : decode b_tr_readNumber 60 = .ok (.aload_n 0, 1) := by decide +kernel
theorem d_tr_readNumber_61 : decode b_tr_readNumber 61 = .ok (.aload_n 0, 1) := by decide +kernel
theorem d_tr_readNumber_62 : decode b_tr_readNumber 62 = .ok (.getfield 30, 3) := by decide +kernel
theorem d_tr_readNumber_65 : decode b_tr_readNumber 65 = .ok (.putfield 36, 3) := by decide +kernel
theorem d_tr_readNumber_68 : decode b_tr_readNumber 68 = .ok (.iconst 0, 1) := by decide +kernel
theorem d_tr_readNumber_69 : decode b_tr_readNumber 69 = .ok (.ireturn, 1) := by decide +kernel
theorem d_tr_readNumber_70 : decode b_tr_readNumber 70 = .ok (.iload_n 3, 1) := by decide +kernel
theorem d_tr_readNumber_71 : decode b_tr_readNumber 71 = .ok (.bipush 10, 2) := by decide +kernel
theorem d_tr_readNumber_73 : decode b_tr_readNumber 73 = .ok (.imul, 1) := by decide +kernel
theorem d_tr_readNumber_74 : decode b_tr_readNumber 74 = .ok (.aload_n 0, 1) := by decide +kernel
theorem d_tr_readNumber_75 : decode b_tr_readNumber 75 = .ok (.getfield 11, 3) := by decide +kernel
theorem d_tr_readNumber_78 : decode b_tr_readNumber 78 = .ok (.aload_n 0, 1) := by decide +kernel
theorem d_tr_readNumber_79 : decode b_tr_readNumber 79 = .ok (.getfield 30, 3) := by decide +kernel
theorem d_tr_readNumber_82 : decode b_tr_readNumber 82 = .ok (.caload, 1) := by decide +kernel
theorem d_tr_readNumber_83 : decode b_tr_readNumber 83 = .ok (.bipush 48, 2) := by decide +kernel
theorem d_tr_readNumber_85 : decode b_tr_readNumber 85 = .ok (.isub, 1) := by decide +kernel
theorem d_tr_readNumber_86 : decode b_tr_readNumber 86 = .ok (.iadd, 1) := by decide +kernel
theorem d_tr_readNumber_87 : decode b_tr_readNumber 87 = .ok (.istore_n 3, 1) := by decide +kernel
theorem d_tr_readNumber_88 : decode b_tr_readNumber 88 = .ok (.aload_n 0, 1) := by decide +kernel
theorem d_tr_readNumber_89 : decode b_tr_readNumber 89 = .ok (.dup, 1) := by decide +kernel
theorem d_tr_readNumber_90 : decode b_tr_readNumber 90 = .ok (.getfield 30, 3) := by decide +kernel
theorem d_tr_readNumber_93 : decode b_tr_readNumber 93 = .ok (.iconst 1, 1) := by decide +kernel
theorem d_tr_readNumber_94 : decode b_tr_readNumber 94 = .ok (.iadd, 1) := by decide +kernel
theorem d_tr_readNumber_95 : decode b_tr_readNumber 95 = .ok (.putfield 30, 3) := by decide +kernel
theorem d_tr_readNumber_98 : decode b_tr_readNumber 98 = .ok (.goto (-87), 3) := by decide +kernel
theorem d_tr_readNumber_101 : decode b_tr_readNumber 101 = .ok (.aload_n 0, 1) := by decide +kernel
theorem d_tr_readNumber_102 : decode b_tr_readNumber 102 = .ok (.getfield 30, 3) := by decide +kernel
theorem d_tr_readNumber_105 : decode b_tr_readNumber 105 = .ok (.iload_n 2, 1) := by decide +kernel
theorem d_tr_readNumber_106 : decode b_tr_readNumber 106 = .ok (.if_icmp .eq 8, 3) := by decide +kernel
theorem d_tr_readNumber_109 : decode b_tr_readNumber 109 = .ok (.iload_n 3, 1) := by decide +kernel
theorem d_tr_readNumber_110 : decode b_tr_readNumber 110 = .ok (.iload_n 1, 1) := by decide +kernel
theorem d_tr_readNumber_111 : decode b_tr_readNumber 111 = .ok (.if_icmp .ge 10, 3) := by decide +kernel
theorem d_tr_readNumber_114 : decode b_tr_readNumber 114 = .ok (.aload_n 0, 1) := by decide +kernel
theorem d_tr_readNumber_115 : decode b_tr_readNumber 115 = .ok (.iload_n 2, 1) := by decide +kernel
theorem d_tr_readNumber_116 : decode b_tr_readNumber 116 = .ok (.putfield 36, 3) := by decide +kernel
theorem d_tr_readNumber_119 : decode b_tr_readNumber 119 = .ok (.iconst 0, 1) := by decide +kernel
theorem d_tr_readNumber_120 : decode b_tr_readNumber 120 = .ok (.ireturn, 1) := by decide +kernel
theorem d_tr_readNumber_121 : decode b_tr_readNumber 121 = .ok (.iload_n 3, 1) := by decide +kernel
theorem d_tr_readNumber_122 : decode b_tr_readNumber 122 = .ok (.ireturn, 1) := by decide +kernel
theorem d_tr_skipBlanks_0 : decode b_tr_skipBlanks 0 = .ok (.aload_n 0, 1) := by decide +kernel
theorem d_tr_skipBlanks_1 : decode b_tr_skipBlanks 1 = .ok (.getfield 30, 3) := by decide +kernel
theorem d_tr_skipBlanks_4 : decode b_tr_skipBlanks 4 = .ok (.aload_n 0, 1) := by decide +kernel
theorem d_tr_skipBlanks_5 : decode b_tr_skipBlanks 5 = .ok (.getfield 26, 3) := by decide +kernel
theorem d_tr_skipBlanks_8 : decode b_tr_skipBlanks 8 = .ok (.if_icmp .ge 30, 3) := by decide +kernel
theorem d_tr_skipBlanks_11 : decode b_tr_skipBlanks 11 = .ok (.aload_n 0, 1) := by decide +kernel
theorem d_tr_skipBlanks_12 : decode b_tr_skipBlanks 12 = .ok (.getfield 11, 3) := by decide +kernel
theorem d_tr_skipBlanks_15 : decode b_tr_skipBlanks 15 = .ok (.aload_n 0, 1) := by decide +kernel
theorem d_tr_skipBlanks_16 : decode b_tr_skipBlanks 16 = .ok (.getfield 30, 3) := by decide +kernel
theorem d_tr_skipBlanks_19 : decode b_tr_skipBlanks 19 = .ok (.caload, 1) := by decide +kernel
theorem d_tr_skipBlanks_20 : decode b_tr_skipBlanks 20 = .ok (.bipush 32, 2) := by decide +kernel
theorem d_tr_skipBlanks_22 : decode b_tr_skipBlanks 22 = .ok (.if_icmp .ne 16, 3) := by decide +kernel
theorem d_tr_skipBlanks_25 : decode b_tr_skipBlanks 25 = .ok (.aload_n 0, 1) := by decide +kernel
theorem d_tr_skipBlanks_26 : decode b_tr_skipBlanks 26 = .ok (.dup, 1) := by decide +kernel
theorem d_tr_skipBlanks_27 : decode b_tr_skipBlanks 27 = .ok (.getfield 30, 3) := by decide +kernel
theorem d_tr_skipBlanks_30 : decode b_tr_skipBlanks 30 = .ok (.iconst 1, 1) := by decide +kernel
theorem d_tr_skipBlanks_31 : decode b_tr_skipBlanks 31 = .ok (.iadd, 1) := by decide +kernel
theorem d_tr_skipBlanks_32 : decode b_tr_skipBlanks 32 = .ok (.putfield 30, 3) := by decide +kernel
theorem d_tr_skipBlanks_35 : decode b_tr_skipBlanks 35 = .ok (.goto (-35), 3) := by decide +kernel
theorem d_tr_skipBlanks_38 : decode b_tr_skipBlanks 38 = .ok (.return_, 1) := by decide +kernel
theorem d_tr_skipLetters_0 : decode b_tr_skipLetters 0 = .ok (.aload_n 0, 1) := by decide +kernel
theorem d_tr_skipLetters_1 : decode b_tr_skipLetters 1 = .ok (.getfield 30, 3) := by decide +kernel
theorem d_tr_skipLetters_4 : decode b_tr_skipLetters 4 = .ok (.aload_n 0, 1) := by decide +kernel
theorem d_tr_skipLetters_5 : decode b_tr_skipLetters 5 = .ok (.getfield 26, 3) := by decide +kernel
theorem d_tr_skipLetters_8 : decode b_tr_skipLetters 8 = .ok (.if_icmp .ge 31, 3) := by decide +kernel
theorem d_tr_skipLetters_11 : decode b_tr_skipLetters 11 = .ok (.aload_n 0, 1) := by decide +kernel
theorem d_tr_skipLetters_12 : decode b_tr_skipLetters 12 = .ok (.getfield 11, 3) := by decide +kernel
theorem d_tr_skipLetters_15 : decode b_tr_skipLetters 15 = .ok (.aload_n 0, 1) := by decide +kernel
theorem d_tr_skipLetters_16 : decode b_tr_skipLetters 16 = .ok (.getfield 30, 3) := by decide +kernel
theorem d_tr_skipLetters_19 : decode b_tr_skipLetters 19 = .ok (.caload, 1) := by decide +kernel
theorem d_tr_skipLetters_20 : decode b_tr_skipLetters 20 = .ok (.invokestatic 103, 3) := by decide +kernel
theorem d_tr_skipLetters_23 : decode b_tr_skipLetters 23 = .ok (.ifCond .eq 16, 3) := by decide +kernel
theorem d_tr_skipLetters_26 : decode b_tr_skipLetters 26 = .ok (.aload_n 0, 1) := by decide +kernel
theorem d_tr_skipLetters_27 : decode b_tr_skipLetters 27 = .ok (.dup, 1) := by decide +kernel
theorem d_tr_skipLetters_28 : decode b_tr_skipLetters 28 = .ok (.getfield 30, 3) := by decide +kernel
theorem d_tr_skipLetters_31 : decode b_tr_skipLetters 31 = .ok (.iconst 1, 1) := by decide +kernel
theorem d_tr_skipLetters_32 : decode b_tr_skipLetters 32 = .ok (.iadd, 1) := by decide +kernel
theorem d_tr_skipLetters_33 : decode b_tr_skipLetters 33 = .ok (.putfield 30, 3) := by decide +kernel
theorem d_tr_skipLetters_36 : decode b_tr_skipLetters 36 = .ok (.goto (-36), 3) := by decide +kernel
theorem d_tr_skipLetters_39 : decode b_tr_skipLetters 39 = .ok (.return_, 1) := by decide +kernel
theorem d_tr_isLetter_0 : decode b_tr_isLetter 0 = .ok (.iload_n 0, 1) := by decide +kernel
theorem d_tr_isLetter_1 : decode b_tr_isLetter 1 = .ok (.bipush 97, 2) := by decide +kernel
theorem d_tr_isLetter_3 : decode b_tr_isLetter 3 = .ok (.if_icmp .lt 9, 3) := by decide +kernel
theorem d_tr_isLetter_6 : decode b_tr_isLetter 6 = .ok (.iload_n 0, 1) := by decide +kernel
theorem d_tr_isLetter_7 : decode b_tr_isLetter 7 = .ok (.bipush 122, 2) := by decide +kernel
theorem d_tr_isLetter_9 : decode b_tr_isLetter 9 = .ok (.if_icmp .le 15, 3) := by decide +kernel
theorem d_tr_isLetter_12 : decode b_tr_isLetter 12 = .ok (.iload_n 0, 1) := by decide +kernel
theorem d_tr_isLetter_13 : decode b_tr_isLetter 13 = .ok (.bipush 65, 2) := by decide +kernel
theorem d_tr_isLetter_15 : decode b_tr_isLetter 15 = .ok (.if_icmp .lt 13, 3) := by decide +kernel
theorem d_tr_isLetter_18 : decode b_tr_isLetter 18 = .ok (.iload_n 0, 1) := by decide +kernel
theorem d_tr_isLetter_19 : decode b_tr_isLetter 19 = .ok (.bipush 90, 2) := by decide +kernel
theorem d_tr_isLetter_21 : decode b_tr_isLetter 21 = .ok (.if_icmp .gt 7, 3) := by decide +kernel
theorem d_tr_isLetter_24 : decode b_tr_isLetter 24 = .ok (.iconst 1, 1) := by decide +kernel
theorem d_tr_isLetter_25 : decode b_tr_isLetter 25 = .ok (.goto 4, 3) := by decide +kernel
theorem d_tr_isLetter_28 : decode b_tr_isLetter 28 = .ok (.iconst 0, 1) := by decide +kernel
theorem d_tr_isLetter_29 : decode b_tr_isLetter 29 = .ok (.ireturn, 1) := by decide +kernel
theorem d_tr_wordBetween_0 : decode b_tr_wordBetween 0 = .ok (.iconst 0, 1) := by decide +kernel
theorem d_tr_wordBetween_1 : decode b_tr_wordBetween 1 = .ok (.istore_n 3, 1) := by decide +kernel
theorem d_tr_wordBetween_2 : decode b_tr_wordBetween 2 = .ok (.iload_n 3, 1) := by decide +kernel
theorem d_tr_wordBetween_3 : decode b_tr_wordBetween 3 = .ok (.bipush 6, 2) := by decide +kernel
theorem d_tr_wordBetween_5 : decode b_tr_wordBetween 5 = .ok (.if_icmp .ge 24, 3) := by decide +kernel
theorem d_tr_wordBetween_8 : decode b_tr_wordBetween 8 = .ok (.aload_n 0, 1) := by decide +kernel
theorem d_tr_wordBetween_9 : decode b_tr_wordBetween 9 = .ok (.iload_n 3, 1) := by decide +kernel
theorem d_tr_wordBetween_10 : decode b_tr_wordBetween 10 = .ok (.invokestatic 107, 3) := by decide +kernel
theorem d_tr_wordBetween_13 : decode b_tr_wordBetween 13 = .ok (.iload_n 1, 1) := by decide +kernel
theorem d_tr_wordBetween_14 : decode b_tr_wordBetween 14 = .ok (.iload_n 2, 1) := by decide +kernel
theorem d_tr_wordBetween_15 : decode b_tr_wordBetween 15 = .ok (.invokevirtual 111, 3) := by decide +kernel
theorem d_tr_wordBetween_18 : decode b_tr_wordBetween 18 = .ok (.ifCond .eq 5, 3) := by decide +kernel
theorem d_tr_wordBetween_21 : decode b_tr_wordBetween 21 = .ok (.iload_n 3, 1) := by decide +kernel
theorem d_tr_wordBetween_22 : decode b_tr_wordBetween 22 = .ok (.ireturn, 1) := by decide +kernel
theorem d_tr_wordBetween_23 : decode b_tr_wordBetween 23 = .ok (.iinc 3 1, 3) := by decide +kernel
theorem d_tr_wordBetween_26 : decode b_tr_wordBetween 26 = .ok (.goto (-24), 3) := by decide +kernel
theorem d_tr_wordBetween_29 : decode b_tr_wordBetween 29 = .ok (.iconst (-1), 1) := by decide +kernel
theorem d_tr_wordBetween_30 : decode b_tr_wordBetween 30 = .ok (.ireturn, 1) := by decide +kernel
theorem d_tr_isSpelled_0 : decode b_tr_isSpelled 0 = .ok (.iload_n 3, 1) := by decide +kernel
theorem d_tr_isSpelled_1 : decode b_tr_isSpelled 1 = .ok (.iload_n 2, 1) := by decide +kernel
theorem d_tr_isSpelled_2 : decode b_tr_isSpelled 2 = .ok (.isub, 1) := by decide +kernel
theorem d_tr_isSpelled_3 : decode b_tr_isSpelled 3 = .ok (.aload_n 1, 1) := by decide +kernel
theorem d_tr_isSpelled_4 : decode b_tr_isSpelled 4 = .ok (.invokevirtual 115, 3) := by decide +kernel
theorem d_tr_isSpelled_7 : decode b_tr_isSpelled 7 = .ok (.if_icmp .eq 5, 3) := by decide +kernel
theorem d_tr_isSpelled_10 : decode b_tr_isSpelled 10 = .ok (.iconst 0, 1) := by decide +kernel
theorem d_tr_isSpelled_11 : decode b_tr_isSpelled 11 = .ok (.ireturn, 1) := by decide +kernel
theorem d_tr_isSpelled_12 : decode b_tr_isSpelled 12 = .ok (.iconst 0, 1) := by decide +kernel
theorem d_tr_isSpelled_13 : decode b_tr_isSpelled 13 = .ok (.istore 4, 2) := by decide +kernel
theorem d_tr_isSpelled_15 : decode b_tr_isSpelled 15 = .ok (.iload 4, 2) := by decide +kernel
theorem d_tr_isSpelled_17 : decode b_tr_isSpelled 17 = .ok (.aload_n 1, 1) := by decide +kernel
theorem d_tr_isSpelled_18 : decode b_tr_isSpelled 18 = .ok (.invokevirtual 115, 3) := by decide +kernel
theorem d_tr_isSpelled_21 : decode b_tr_isSpelled 21 = .ok (.if_icmp .ge 29, 3) := by decide +kernel
theorem d_tr_isSpelled_24 : decode b_tr_isSpelled 24 = .ok (.aload_n 0, 1) := by decide +kernel
theorem d_tr_isSpelled_25 : decode b_tr_isSpelled 25 = .ok (.getfield 11, 3) := by decide +kernel
theorem d_tr_isSpelled_28 : decode b_tr_isSpelled 28 = .ok (.iload_n 2, 1) := by decide +kernel
theorem d_tr_isSpelled_29 : decode b_tr_isSpelled 29 = .ok (.iload 4, 2) := by decide +kernel
theorem d_tr_isSpelled_31 : decode b_tr_isSpelled 31 = .ok (.iadd, 1) := by decide +kernel
theorem d_tr_isSpelled_32 : decode b_tr_isSpelled 32 = .ok (.caload, 1) := by decide +kernel
theorem d_tr_isSpelled_33 : decode b_tr_isSpelled 33 = .ok (.aload_n 1, 1) := by decide +kernel
theorem d_tr_isSpelled_34 : decode b_tr_isSpelled 34 = .ok (.iload 4, 2) := by decide +kernel
theorem d_tr_isSpelled_36 : decode b_tr_isSpelled 36 = .ok (.invokevirtual 119, 3) := by decide +kernel
theorem d_tr_isSpelled_39 : decode b_tr_isSpelled 39 = .ok (.if_icmp .eq 5, 3) := by decide +kernel
theorem d_tr_isSpelled_42 : decode b_tr_isSpelled 42 = .ok (.iconst 0, 1) := by decide +kernel
theorem d_tr_isSpelled_43 : decode b_tr_isSpelled 43 = .ok (.ireturn, 1) := by decide +kernel
theorem d_tr_isSpelled_44 : decode b_tr_isSpelled 44 = .ok (.iinc 4 1, 3) := by decide +kernel
theorem d_tr_isSpelled_47 : decode b_tr_isSpelled 47 = .ok (.goto (-32), 3) := by decide +kernel
theorem d_tr_isSpelled_50 : decode b_tr_isSpelled 50 = .ok (.iconst 1, 1) := by decide +kernel
theorem d_tr_isSpelled_51 : decode b_tr_isSpelled 51 = .ok (.ireturn, 1) := by decide +kernel
theorem d_tr_spellingOf_0 : decode b_tr_spellingOf 0 = .ok (.iload_n 0, 1) := by decide +kernel
theorem d_tr_spellingOf_1 : decode b_tr_spellingOf 1 = .ok (.tableswitch 50 0 4 #[35, 38, 41, 44, 47], 35) := by decide +kernel
theorem d_tr_spellingOf_36 : decode b_tr_spellingOf 36 = .ok (.ldc 123, 2) := by decide +kernel
theorem d_tr_spellingOf_38 : decode b_tr_spellingOf 38 = .ok (.areturn, 1) := by decide +kernel
theorem d_tr_spellingOf_39 : decode b_tr_spellingOf 39 = .ok (.ldc 125, 2) := by decide +kernel
theorem d_tr_spellingOf_41 : decode b_tr_spellingOf 41 = .ok (.areturn, 1) := by decide +kernel
theorem d_tr_spellingOf_42 : decode b_tr_spellingOf 42 = .ok (.ldc 127, 2) := by decide +kernel
theorem d_tr_spellingOf_44 : decode b_tr_spellingOf 44 = .ok (.areturn, 1) := by decide +kernel
theorem d_tr_spellingOf_45 : decode b_tr_spellingOf 45 = .ok (.ldc 129, 2) := by decide +kernel
theorem d_tr_spellingOf_47 : decode b_tr_spellingOf 47 = .ok (.areturn, 1) := by decide +kernel
theorem d_tr_spellingOf_48 : decode b_tr_spellingOf 48 = .ok (.ldc 131, 2) := by decide +kernel
theorem d_tr_spellingOf_50 : decode b_tr_spellingOf 50 = .ok (.areturn, 1) := by decide +kernel
theorem d_tr_spellingOf_51 : decode b_tr_spellingOf 51 = .ok (.ldc 133, 2) := by decide +kernel
theorem d_tr_spellingOf_53 : decode b_tr_spellingOf 53 = .ok (.areturn, 1) := by decide +kernel
