theorem d_O_emptyStackerInto_0 : decode prog_7_method_13_code 0 = .ok (.iconst 0, 1) := by decide +kernel
theorem d_O_emptyStackerInto_1 : decode prog_7_method_13_code 1 = .ok (.istore_n 2, 1) := by decide +kernel
theorem d_O_emptyStackerInto_2 : decode prog_7_method_13_code 2 = .ok (.iload_n 2, 1) := by decide +kernel
theorem d_O_emptyStackerInto_3 : decode prog_7_method_13_code 3 = .ok (.iconst 4, 1) := by decide +kernel
theorem d_O_emptyStackerInto_4 : decode prog_7_method_13_code 4 = .ok (.if_icmp .ge 34, 3) := by decide +kernel
theorem d_O_emptyStackerInto_7 : decode prog_7_method_13_code 7 = .ok (.iload_n 2, 1) := by decide +kernel
theorem d_O_emptyStackerInto_8 : decode prog_7_method_13_code 8 = .ok (.aload_n 1, 1) := by decide +kernel
theorem d_O_emptyStackerInto_9 : decode prog_7_method_13_code 9 = .ok (.arraylength, 1) := by decide +kernel
theorem d_O_emptyStackerInto_10 : decode prog_7_method_13_code 10 = .ok (.if_icmp .ge 28, 3) := by decide +kernel
theorem d_O_emptyStackerInto_13 : decode prog_7_method_13_code 13 = .ok (.aload_n 1, 1) := by decide +kernel
theorem d_O_emptyStackerInto_14 : decode prog_7_method_13_code 14 = .ok (.iload_n 2, 1) := by decide +kernel
theorem d_O_emptyStackerInto_15 : decode prog_7_method_13_code 15 = .ok (.dup2, 1) := by decide +kernel
theorem d_O_emptyStackerInto_16 : decode prog_7_method_13_code 16 = .ok (.iaload, 1) := by decide +kernel
theorem d_O_emptyStackerInto_17 : decode prog_7_method_13_code 17 = .ok (.aload_n 0, 1) := by decide +kernel
theorem d_O_emptyStackerInto_18 : decode prog_7_method_13_code 18 = .ok (.getfield 26, 3) := by decide +kernel
theorem d_O_emptyStackerInto_21 : decode prog_7_method_13_code 21 = .ok (.iload_n 2, 1) := by decide +kernel
theorem d_O_emptyStackerInto_22 : decode prog_7_method_13_code 22 = .ok (.iaload, 1) := by decide +kernel
theorem d_O_emptyStackerInto_23 : decode prog_7_method_13_code 23 = .ok (.iadd, 1) := by decide +kernel
theorem d_O_emptyStackerInto_24 : decode prog_7_method_13_code 24 = .ok (.iastore, 1) := by decide +kernel
theorem d_O_emptyStackerInto_25 : decode prog_7_method_13_code 25 = .ok (.aload_n 0, 1) := by decide +kernel
theorem d_O_emptyStackerInto_26 : decode prog_7_method_13_code 26 = .ok (.getfield 26, 3) := by decide +kernel
theorem d_O_emptyStackerInto_29 : decode prog_7_method_13_code 29 = .ok (.iload_n 2, 1) := by decide +kernel
theorem d_O_emptyStackerInto_30 : decode prog_7_method_13_code 30 = .ok (.iconst 0, 1) := by decide +kernel
theorem d_O_emptyStackerInto_31 : decode prog_7_method_13_code 31 = .ok (.iastore, 1) := by decide +kernel
theorem d_O_emptyStackerInto_32 : decode prog_7_method_13_code 32 = .ok (.iinc 2 1, 3) := by decide +kernel
theorem d_O_emptyStackerInto_35 : decode prog_7_method_13_code 35 = .ok (.goto (-33), 3) := by decide +kernel
theorem d_O_emptyStackerInto_38 : decode prog_7_method_13_code 38 = .ok (.return_, 1) := by decide +kernel
theorem d_O_moveStackerToBin_0 : decode prog_7_method_12_code 0 = .ok (.aload_n 0, 1) := by decide +kernel
theorem d_O_moveStackerToBin_1 : decode prog_7_method_12_code 1 = .ok (.aload_n 0, 1) := by decide +kernel
theorem d_O_moveStackerToBin_2 : decode prog_7_method_12_code 2 = .ok (.getfield 32, 3) := by decide +kernel
theorem d_O_moveStackerToBin_5 : decode prog_7_method_12_code 5 = .ok (.invokevirtual 84, 3) := by decide +kernel
theorem d_O_moveStackerToBin_8 : decode prog_7_method_12_code 8 = .ok (.aload_n 0, 1) := by decide +kernel
theorem d_O_moveStackerToBin_9 : decode prog_7_method_12_code 9 = .ok (.iconst 0, 1) := by decide +kernel
theorem d_O_moveStackerToBin_10 : decode prog_7_method_12_code 10 = .ok (.putfield 81, 3) := by decide +kernel
theorem d_O_moveStackerToBin_13 : decode prog_7_method_12_code 13 = .ok (.return_, 1) := by decide +kernel
theorem d_M_reverse_0 : decode prog_6_method_14_code 0 = .ok (.iload_n 1, 1) := by decide +kernel
theorem d_M_reverse_1 : decode prog_6_method_14_code 1 = .ok (.ifCond .eq 12, 3) := by decide +kernel
theorem d_M_reverse_4 : decode prog_6_method_14_code 4 = .ok (.aload_n 0, 1) := by decide +kernel
theorem d_M_reverse_5 : decode prog_6_method_14_code 5 = .ok (.iconst 4, 1) := by decide +kernel
theorem d_M_reverse_6 : decode prog_6_method_14_code 6 = .ok (.invokevirtual 87, 3) := by decide +kernel
theorem d_M_reverse_9 : decode prog_6_method_14_code 9 = .ok (.ifCond .ne 4, 3) := by decide +kernel
theorem d_M_reverse_12 : decode prog_6_method_14_code 12 = .ok (.return_, 1) := by decide +kernel
theorem d_M_reverse_13 : decode prog_6_method_14_code 13 = .ok (.aload_n 0, 1) := by decide +kernel
theorem d_M_reverse_14 : decode prog_6_method_14_code 14 = .ok (.getfield 12, 3) := by decide +kernel
theorem d_M_reverse_17 : decode prog_6_method_14_code 17 = .ok (.invokevirtual 150, 3) := by decide +kernel
theorem d_M_reverse_20 : decode prog_6_method_14_code 20 = .ok (.ifCond .eq 18, 3) := by decide +kernel
theorem d_M_reverse_23 : decode prog_6_method_14_code 23 = .ok (.aload_n 0, 1) := by decide +kernel
theorem d_M_reverse_24 : decode prog_6_method_14_code 24 = .ok (.invokevirtual 137, 3) := by decide +kernel
theorem d_M_reverse_27 : decode prog_6_method_14_code 27 = .ok (.ifCond .ne 4, 3) := by decide +kernel
theorem d_M_reverse_30 : decode prog_6_method_14_code 30 = .ok (.return_, 1) := by decide +kernel
theorem d_M_reverse_31 : decode prog_6_method_14_code 31 = .ok (.aload_n 0, 1) := by decide +kernel
theorem d_M_reverse_32 : decode prog_6_method_14_code 32 = .ok (.getfield 12, 3) := by decide +kernel
theorem d_M_reverse_35 : decode prog_6_method_14_code 35 = .ok (.invokevirtual 153, 3) := by decide +kernel
theorem d_M_reverse_38 : decode prog_6_method_14_code 38 = .ok (.aload_n 0, 1) := by decide +kernel
theorem d_M_reverse_39 : decode prog_6_method_14_code 39 = .ok (.iconst 3, 1) := by decide +kernel
theorem d_M_reverse_40 : decode prog_6_method_14_code 40 = .ok (.aload_n 0, 1) := by decide +kernel
theorem d_M_reverse_41 : decode prog_6_method_14_code 41 = .ok (.getfield 84, 3) := by decide +kernel
theorem d_M_reverse_44 : decode prog_6_method_14_code 44 = .ok (.invokevirtual 71, 3) := by decide +kernel
theorem d_M_reverse_47 : decode prog_6_method_14_code 47 = .ok (.ifCond .eq 13, 3) := by decide +kernel
theorem d_M_reverse_50 : decode prog_6_method_14_code 50 = .ok (.aload_n 0, 1) := by decide +kernel
theorem d_M_reverse_51 : decode prog_6_method_14_code 51 = .ok (.iconst (-1), 1) := by decide +kernel
theorem d_M_reverse_52 : decode prog_6_method_14_code 52 = .ok (.putfield 40, 3) := by decide +kernel
theorem d_M_reverse_55 : decode prog_6_method_14_code 55 = .ok (.aload_n 0, 1) := by decide +kernel
theorem d_M_reverse_56 : decode prog_6_method_14_code 56 = .ok (.iconst 5, 1) := by decide +kernel
theorem d_M_reverse_57 : decode prog_6_method_14_code 57 = .ok (.putfield 37, 3) := by decide +kernel
theorem d_M_reverse_60 : decode prog_6_method_14_code 60 = .ok (.return_, 1) := by decide +kernel
theorem d_M_endWaiting_0 : decode prog_6_method_8_code 0 = .ok (.aload_n 0, 1) := by decide +kernel
theorem d_M_endWaiting_1 : decode prog_6_method_8_code 1 = .ok (.getfield 29, 3) := by decide +kernel
theorem d_M_endWaiting_4 : decode prog_6_method_8_code 4 = .ok (.ifCond .ne 5, 3) := by decide +kernel
theorem d_M_endWaiting_7 : decode prog_6_method_8_code 7 = .ok (.iconst 0, 1) := by decide +kernel
theorem d_M_endWaiting_8 : decode prog_6_method_8_code 8 = .ok (.ireturn, 1) := by decide +kernel
theorem d_M_endWaiting_9 : decode prog_6_method_8_code 9 = .ok (.aload_n 0, 1) := by decide +kernel
theorem d_M_endWaiting_10 : decode prog_6_method_8_code 10 = .ok (.getfield 37, 3) := by decide +kernel
theorem d_M_endWaiting_13 : decode prog_6_method_8_code 13 = .ok (.tableswitch 56 2 5 #[31, 56, 37, 44], 31) := by decide +kernel
theorem d_M_endWaiting_44 : decode prog_6_method_8_code 44 = .ok (.aload_n 0, 1) := by decide +kernel
theorem d_M_endWaiting_45 : decode prog_6_method_8_code 45 = .ok (.invokevirtual 61, 3) := by decide +kernel
theorem d_M_endWaiting_48 : decode prog_6_method_8_code 48 = .ok (.iconst 1, 1) := by decide +kernel
theorem d_M_endWaiting_49 : decode prog_6_method_8_code 49 = .ok (.ireturn, 1) := by decide +kernel
theorem d_M_endWaiting_50 : decode prog_6_method_8_code 50 = .ok (.aload_n 0, 1) := by decide +kernel
theorem d_M_endWaiting_51 : decode prog_6_method_8_code 51 = .ok (.iconst 1, 1) := by decide +kernel
theorem d_M_endWaiting_52 : decode prog_6_method_8_code 52 = .ok (.invokevirtual 96, 3) := by decide +kernel
theorem d_M_endWaiting_55 : decode prog_6_method_8_code 55 = .ok (.iconst 1, 1) := by decide +kernel
theorem d_M_endWaiting_56 : decode prog_6_method_8_code 56 = .ok (.ireturn, 1) := by decide +kernel
theorem d_M_endWaiting_57 : decode prog_6_method_8_code 57 = .ok (.aload_n 0, 1) := by decide +kernel
theorem d_M_endWaiting_58 : decode prog_6_method_8_code 58 = .ok (.iconst 3, 1) := by decide +kernel
theorem d_M_endWaiting_59 : decode prog_6_method_8_code 59 = .ok (.aload_n 0, 1) := by decide +kernel
theorem d_M_endWaiting_60 : decode prog_6_method_8_code 60 = .ok (.getfield 84, 3) := by decide +kernel
theorem d_M_endWaiting_63 : decode prog_6_method_8_code 63 = .ok (.invokevirtual 71, 3) := by decide +kernel
theorem d_M_endWaiting_66 : decode prog_6_method_8_code 66 = .ok (.pop, 1) := by decide +kernel
theorem d_M_endWaiting_67 : decode prog_6_method_8_code 67 = .ok (.iconst 1, 1) := by decide +kernel
theorem d_M_endWaiting_68 : decode prog_6_method_8_code 68 = .ok (.ireturn, 1) := by decide +kernel
theorem d_M_endWaiting_69 : decode prog_6_method_8_code 69 = .ok (.iconst 0, 1) := by decide +kernel
theorem d_M_endWaiting_70 : decode prog_6_method_8_code 70 = .ok (.ireturn, 1) := by decide +kernel
theorem d_A_timeout_0 : decode prog_1_method_10_code 0 = .ok (.aload_n 0, 1) := by decide +kernel
theorem d_A_timeout_1 : decode prog_1_method_10_code 1 = .ok (.getfield 28, 3) := by decide +kernel
theorem d_A_timeout_4 : decode prog_1_method_10_code 4 = .ok (.invokevirtual 75, 3) := by decide +kernel
theorem d_A_timeout_7 : decode prog_1_method_10_code 7 = .ok (.ireturn, 1) := by decide +kernel
theorem d_E_copyFrom_0 : decode prog_4_method_3_code 0 = .ok (.aload_n 1, 1) := by decide +kernel
theorem d_E_copyFrom_1 : decode prog_4_method_3_code 1 = .ok (.getfield 9, 3) := by decide +kernel
theorem d_E_copyFrom_4 : decode prog_4_method_3_code 4 = .ok (.iconst 0, 1) := by decide +kernel
theorem d_E_copyFrom_5 : decode prog_4_method_3_code 5 = .ok (.aload_n 0, 1) := by decide +kernel
theorem d_E_copyFrom_6 : decode prog_4_method_3_code 6 = .ok (.getfield 9, 3) := by decide +kernel
theorem d_E_copyFrom_9 : decode prog_4_method_3_code 9 = .ok (.iconst 0, 1) := by decide +kernel
theorem d_E_copyFrom_10 : decode prog_4_method_3_code 10 = .ok (.bipush 13, 2) := by decide +kernel
theorem d_E_copyFrom_12 : decode prog_4_method_3_code 12 = .ok (.invokestatic 23, 3) := by decide +kernel
theorem d_E_copyFrom_15 : decode prog_4_method_3_code 15 = .ok (.aload_n 0, 1) := by decide +kernel
theorem d_E_copyFrom_16 : decode prog_4_method_3_code 16 = .ok (.aload_n 1, 1) := by decide +kernel
theorem d_E_copyFrom_17 : decode prog_4_method_3_code 17 = .ok (.getfield 29, 3) := by decide +kernel
theorem d_E_copyFrom_20 : decode prog_4_method_3_code 20 = .ok (.putfield 29, 3) := by decide +kernel
theorem d_E_copyFrom_23 : decode prog_4_method_3_code 23 = .ok (.return_, 1) := by decide +kernel
theorem d_N_copyTo_0 : decode prog_5_method_4_code 0 = .ok (.aload_n 0, 1) := by decide +kernel
theorem d_N_copyTo_1 : decode prog_5_method_4_code 1 = .ok (.iload_n 1, 1) := by decide +kernel
theorem d_N_copyTo_2 : decode prog_5_method_4_code 2 = .ok (.invokevirtual 37, 3) := by decide +kernel
theorem d_N_copyTo_5 : decode prog_5_method_4_code 5 = .ok (.ifCond .eq 13, 3) := by decide +kernel
theorem d_N_copyTo_8 : decode prog_5_method_4_code 8 = .ok (.aload_n 2, 1) := by decide +kernel
theorem d_N_copyTo_9 : decode prog_5_method_4_code 9 = .ok (.aload_n 0, 1) := by decide +kernel
theorem d_N_copyTo_10 : decode prog_5_method_4_code 10 = .ok (.getfield 11, 3) := by decide +kernel
theorem d_N_copyTo_13 : decode prog_5_method_4_code 13 = .ok (.iload_n 1, 1) := by decide +kernel
theorem d_N_copyTo_14 : decode prog_5_method_4_code 14 = .ok (.aaload, 1) := by decide +kernel
theorem d_N_copyTo_15 : decode prog_5_method_4_code 15 = .ok (.invokevirtual 41, 3) := by decide +kernel
theorem d_N_copyTo_18 : decode prog_5_method_4_code 18 = .ok (.return_, 1) := by decide +kernel
theorem d_E_isSound_0 : decode prog_4_method_9_code 0 = .ok (.aload_n 0, 1) := by decide +kernel
theorem d_E_isSound_1 : decode prog_4_method_9_code 1 = .ok (.invokevirtual 19, 3) := by decide +kernel
theorem d_E_isSound_4 : decode prog_4_method_9_code 4 = .ok (.aload_n 0, 1) := by decide +kernel
theorem d_E_isSound_5 : decode prog_4_method_9_code 5 = .ok (.getfield 9, 3) := by decide +kernel
theorem d_E_isSound_8 : decode prog_4_method_9_code 8 = .ok (.bipush 11, 2) := by decide +kernel
theorem d_E_isSound_10 : decode prog_4_method_9_code 10 = .ok (.iaload, 1) := by decide +kernel
theorem d_E_isSound_11 : decode prog_4_method_9_code 11 = .ok (.sipush 256, 3) := by decide +kernel
theorem d_E_isSound_14 : decode prog_4_method_9_code 14 = .ok (.imul, 1) := by decide +kernel
theorem d_E_isSound_15 : decode prog_4_method_9_code 15 = .ok (.aload_n 0, 1) := by decide +kernel
theorem d_E_isSound_16 : decode prog_4_method_9_code 16 = .ok (.getfield 9, 3) := by decide +kernel
theorem d_E_isSound_19 : decode prog_4_method_9_code 19 = .ok (.bipush 12, 2) := by decide +kernel
theorem d_E_isSound_21 : decode prog_4_method_9_code 21 = .ok (.iaload, 1) := by decide +kernel
theorem d_E_isSound_22 : decode prog_4_method_9_code 22 = .ok (.iadd, 1) := by decide +kernel
theorem d_E_isSound_23 : decode prog_4_method_9_code 23 = .ok (.if_icmp .ne 7, 3) := by decide +kernel
theorem d_E_isSound_26 : decode prog_4_method_9_code 26 = .ok (.iconst 1, 1) := by decide +kernel
theorem d_E_isSound_27 : decode prog_4_method_9_code 27 = .ok (.goto 4, 3) := by decide +kernel
theorem d_E_isSound_30 : decode prog_4_method_9_code 30 = .ok (.iconst 0, 1) := by decide +kernel
theorem d_E_isSound_31 : decode prog_4_method_9_code 31 = .ok (.ireturn, 1) := by decide +kernel
theorem d_E_readNumber_0 : decode prog_4_method_12_code 0 = .ok (.lconst 0, 1) := by decide +kernel
theorem d_E_readNumber_1 : decode prog_4_method_12_code 1 = .ok (.lstore_n 2, 1) := by decide +kernel
theorem d_E_readNumber_2 : decode prog_4_method_12_code 2 = .ok (.iconst 0, 1) := by decide +kernel
theorem d_E_readNumber_3 : decode prog_4_method_12_code 3 = .ok (.istore 4, 2) := by decide +kernel
theorem d_E_readNumber_5 : decode prog_4_method_12_code 5 = .ok (.iload 4, 2) := by decide +kernel
theorem d_E_readNumber_7 : decode prog_4_method_12_code 7 = .ok (.iconst 4, 1) := by decide +kernel
theorem d_E_readNumber_8 : decode prog_4_method_12_code 8 = .ok (.if_icmp .ge 35, 3) := by decide +kernel
theorem d_E_readNumber_11 : decode prog_4_method_12_code 11 = .ok (.iload_n 1, 1) := by decide +kernel
theorem d_E_readNumber_12 : decode prog_4_method_12_code 12 = .ok (.iload 4, 2) := by decide +kernel
theorem d_E_readNumber_14 : decode prog_4_method_12_code 14 = .ok (.iadd, 1) := by decide +kernel
theorem d_E_readNumber_15 : decode prog_4_method_12_code 15 = .ok (.bipush 13, 2) := by decide +kernel
theorem d_E_readNumber_17 : decode prog_4_method_12_code 17 = .ok (.if_icmp .ge 26, 3) := by decide +kernel
theorem d_E_readNumber_20 : decode prog_4_method_12_code 20 = .ok (.lload_n 2, 1) := by decide +kernel
theorem d_E_readNumber_21 : decode prog_4_method_12_code 21 = .ok (.ldc2_w 38, 3) := by decide +kernel
theorem d_E_readNumber_24 : decode prog_4_method_12_code 24 = .ok (.lmul, 1) := by decide +kernel
theorem d_E_readNumber_25 : decode prog_4_method_12_code 25 = .ok (.aload_n 0, 1) := by decide +kernel
theorem d_E_readNumber_26 : decode prog_4_method_12_code 26 = .ok (.getfield 9, 3) := by decide +kernel
theorem d_E_readNumber_29 : decode prog_4_method_12_code 29 = .ok (.iload_n 1, 1) := by decide +kernel
theorem d_E_readNumber_30 : decode prog_4_method_12_code 30 = .ok (.iload 4, 2) := by decide +kernel
theorem d_E_readNumber_32 : decode prog_4_method_12_code 32 = .ok (.iadd, 1) := by decide +kernel
theorem d_E_readNumber_33 : decode prog_4_method_12_code 33 = .ok (.iaload, 1) := by decide +kernel
theorem d_E_readNumber_34 : decode prog_4_method_12_code 34 = .ok (.i2l, 1) := by decide +kernel
theorem d_E_readNumber_35 : decode prog_4_method_12_code 35 = .ok (.ladd, 1) := by decide +kernel
theorem d_E_readNumber_36 : decode prog_4_method_12_code 36 = .ok (.lstore_n 2, 1) := by decide +kernel
theorem d_E_readNumber_37 : decode prog_4_method_12_code 37 = .ok (.iinc 4 1, 3) := by decide +kernel
theorem d_E_readNumber_40 : decode prog_4_method_12_code 40 = .ok (.goto (-35), 3) := by decide +kernel
theorem d_E_readNumber_43 : decode prog_4_method_12_code 43 = .ok (.lload_n 2, 1) := by decide +kernel
theorem d_E_readNumber_44 : decode prog_4_method_12_code 44 = .ok (.lreturn, 1) := by decide +kernel
theorem d_E_trace_0 : decode prog_4_method_5_code 0 = .ok (.aload_n 0, 1) := by decide +kernel
theorem d_E_trace_1 : decode prog_4_method_5_code 1 = .ok (.iconst 1, 1) := by decide +kernel
theorem d_E_trace_2 : decode prog_4_method_5_code 2 = .ok (.invokevirtual 33, 3) := by decide +kernel
theorem d_E_trace_5 : decode prog_4_method_5_code 5 = .ok (.lreturn, 1) := by decide +kernel
theorem d_E_kind_0 : decode prog_4_method_4_code 0 = .ok (.aload_n 0, 1) := by decide +kernel
theorem d_E_kind_1 : decode prog_4_method_4_code 1 = .ok (.getfield 9, 3) := by decide +kernel
theorem d_E_kind_4 : decode prog_4_method_4_code 4 = .ok (.iconst 0, 1) := by decide +kernel
theorem d_E_kind_5 : decode prog_4_method_4_code 5 = .ok (.iaload, 1) := by decide +kernel
theorem d_E_kind_6 : decode prog_4_method_4_code 6 = .ok (.ireturn, 1) := by decide +kernel
theorem d_M_isAwaited_0 : decode prog_6_method_10_code 0 = .ok (.aload_n 1, 1) := by decide +kernel
theorem d_M_isAwaited_1 : decode prog_6_method_10_code 1 = .ok (.invokevirtual 124, 3) := by decide +kernel
theorem d_M_isAwaited_4 : decode prog_6_method_10_code 4 = .ok (.aload_n 0, 1) := by decide +kernel
theorem d_M_isAwaited_5 : decode prog_6_method_10_code 5 = .ok (.getfield 128, 3) := by decide +kernel
theorem d_M_isAwaited_8 : decode prog_6_method_10_code 8 = .ok (.i2l, 1) := by decide +kernel
theorem d_M_isAwaited_9 : decode prog_6_method_10_code 9 = .ok (.lcmp, 1) := by decide +kernel
theorem d_M_isAwaited_10 : decode prog_6_method_10_code 10 = .ok (.ifCond .eq 5, 3) := by decide +kernel
theorem d_M_isAwaited_13 : decode prog_6_method_10_code 13 = .ok (.iconst 0, 1) := by decide +kernel
theorem d_M_isAwaited_14 : decode prog_6_method_10_code 14 = .ok (.ireturn, 1) := by decide +kernel
theorem d_M_isAwaited_15 : decode prog_6_method_10_code 15 = .ok (.aload_n 0, 1) := by decide +kernel
theorem d_M_isAwaited_16 : decode prog_6_method_10_code 16 = .ok (.getfield 37, 3) := by decide +kernel
theorem d_M_isAwaited_19 : decode prog_6_method_10_code 19 = .ok (.tableswitch 77 2 5 #[29, 77, 45, 61], 29) := by decide +kernel
theorem d_M_isAwaited_48 : decode prog_6_method_10_code 48 = .ok (.aload_n 1, 1) := by decide +kernel
theorem d_M_isAwaited_49 : decode prog_6_method_10_code 49 = .ok (.invokevirtual 131, 3) := by decide +kernel
theorem d_M_isAwaited_52 : decode prog_6_method_10_code 52 = .ok (.sipush 129, 3) := by decide +kernel
theorem d_M_isAwaited_55 : decode prog_6_method_10_code 55 = .ok (.if_icmp .ne 7, 3) := by decide +kernel
theorem d_M_isAwaited_58 : decode prog_6_method_10_code 58 = .ok (.iconst 1, 1) := by decide +kernel
theorem d_M_isAwaited_59 : decode prog_6_method_10_code 59 = .ok (.goto 4, 3) := by decide +kernel
theorem d_M_isAwaited_62 : decode prog_6_method_10_code 62 = .ok (.iconst 0, 1) := by decide +kernel
theorem d_M_isAwaited_63 : decode prog_6_method_10_code 63 = .ok (.ireturn, 1) := by decide +kernel
theorem d_M_isAwaited_64 : decode prog_6_method_10_code 64 = .ok (.aload_n 1, 1) := by decide +kernel
theorem d_M_isAwaited_65 : decode prog_6_method_10_code 65 = .ok (.invokevirtual 131, 3) := by decide +kernel
theorem d_M_isAwaited_68 : decode prog_6_method_10_code 68 = .ok (.sipush 130, 3) := by decide +kernel
theorem d_M_isAwaited_71 : decode prog_6_method_10_code 71 = .ok (.if_icmp .ne 7, 3) := by decide +kernel
theorem d_M_isAwaited_74 : decode prog_6_method_10_code 74 = .ok (.iconst 1, 1) := by decide +kernel
theorem d_M_isAwaited_75 : decode prog_6_method_10_code 75 = .ok (.goto 4, 3) := by decide +kernel
theorem d_M_isAwaited_78 : decode prog_6_method_10_code 78 = .ok (.iconst 0, 1) := by decide +kernel
theorem d_M_isAwaited_79 : decode prog_6_method_10_code 79 = .ok (.ireturn, 1) := by decide +kernel
theorem d_M_isAwaited_80 : decode prog_6_method_10_code 80 = .ok (.aload_n 1, 1) := by decide +kernel
theorem d_M_isAwaited_81 : decode prog_6_method_10_code 81 = .ok (.invokevirtual 131, 3) := by decide +kernel
theorem d_M_isAwaited_84 : decode prog_6_method_10_code 84 = .ok (.sipush 131, 3) := by decide +kernel
theorem d_M_isAwaited_87 : decode prog_6_method_10_code 87 = .ok (.if_icmp .ne 7, 3) := by decide +kernel
theorem d_M_isAwaited_90 : decode prog_6_method_10_code 90 = .ok (.iconst 1, 1) := by decide +kernel
theorem d_M_isAwaited_91 : decode prog_6_method_10_code 91 = .ok (.goto 4, 3) := by decide +kernel
theorem d_M_isAwaited_94 : decode prog_6_method_10_code 94 = .ok (.iconst 0, 1) := by decide +kernel
theorem d_M_isAwaited_95 : decode prog_6_method_10_code 95 = .ok (.ireturn, 1) := by decide +kernel
theorem d_M_isAwaited_96 : decode prog_6_method_10_code 96 = .ok (.iconst 0, 1) := by decide +kernel
theorem d_M_isAwaited_97 : decode prog_6_method_10_code 97 = .ok (.ireturn, 1) := by decide +kernel
theorem d_E_code_0 : decode prog_4_method_8_code 0 = .ok (.aload_n 0, 1) := by decide +kernel
theorem d_E_code_1 : decode prog_4_method_8_code 1 = .ok (.getfield 9, 3) := by decide +kernel
theorem d_E_code_4 : decode prog_4_method_8_code 4 = .ok (.bipush 10, 2) := by decide +kernel
theorem d_E_code_6 : decode prog_4_method_8_code 6 = .ok (.iaload, 1) := by decide +kernel
theorem d_E_code_7 : decode prog_4_method_8_code 7 = .ok (.ireturn, 1) := by decide +kernel
theorem d_M_endPinCheck_0 : decode prog_6_method_11_code 0 = .ok (.iload_n 1, 1) := by decide +kernel
theorem d_M_endPinCheck_1 : decode prog_6_method_11_code 1 = .ok (.ifCond .ne 11, 3) := by decide +kernel
theorem d_M_endPinCheck_4 : decode prog_6_method_11_code 4 = .ok (.aload_n 0, 1) := by decide +kernel
theorem d_M_endPinCheck_5 : decode prog_6_method_11_code 5 = .ok (.iconst 3, 1) := by decide +kernel
theorem d_M_endPinCheck_6 : decode prog_6_method_11_code 6 = .ok (.putfield 37, 3) := by decide +kernel
theorem d_M_endPinCheck_9 : decode prog_6_method_11_code 9 = .ok (.goto 40, 3) := by decide +kernel
theorem d_M_endPinCheck_12 : decode prog_6_method_11_code 12 = .ok (.iload_n 1, 1) := by decide +kernel
theorem d_M_endPinCheck_13 : decode prog_6_method_11_code 13 = .ok (.iconst 2, 1) := by decide +kernel
theorem d_M_endPinCheck_14 : decode prog_6_method_11_code 14 = .ok (.if_icmp .ne 30, 3) := by decide +kernel
theorem d_M_endPinCheck_17 : decode prog_6_method_11_code 17 = .ok (.aload_n 0, 1) := by decide +kernel
theorem d_M_endPinCheck_18 : decode prog_6_method_11_code 18 = .ok (.getfield 40, 3) := by decide +kernel
theorem d_M_endPinCheck_21 : decode prog_6_method_11_code 21 = .ok (.invokestatic 57, 3) := by decide +kernel
theorem d_M_endPinCheck_24 : decode prog_6_method_11_code 24 = .ok (.ifCond .eq 13, 3) := by decide +kernel
theorem d_M_endPinCheck_27 : decode prog_6_method_11_code 27 = .ok (.aload_n 0, 1) := by decide +kernel
theorem d_M_endPinCheck_28 : decode prog_6_method_11_code 28 = .ok (.getfield 25, 3) := by decide +kernel
theorem d_M_endPinCheck_31 : decode prog_6_method_11_code 31 = .ok (.aload_n 0, 1) := by decide +kernel
theorem d_M_endPinCheck_32 : decode prog_6_method_11_code 32 = .ok (.getfield 40, 3) := by decide +kernel
theorem d_M_endPinCheck_35 : decode prog_6_method_11_code 35 = .ok (.iconst 1, 1) := by decide +kernel
theorem d_M_endPinCheck_36 : decode prog_6_method_11_code 36 = .ok (.bastore, 1) := by decide +kernel
theorem d_M_endPinCheck_37 : decode prog_6_method_11_code 37 = .ok (.aload_n 0, 1) := by decide +kernel
theorem d_M_endPinCheck_38 : decode prog_6_method_11_code 38 = .ok (.invokevirtual 61, 3) := by decide +kernel
theorem d_M_endPinCheck_41 : decode prog_6_method_11_code 41 = .ok (.goto 8, 3) := by decide +kernel
theorem d_M_endPinCheck_44 : decode prog_6_method_11_code 44 = .ok (.aload_n 0, 1) := by decide +kernel
theorem d_M_endPinCheck_45 : decode prog_6_method_11_code 45 = .ok (.iconst 1, 1) := by decide +kernel
theorem d_M_endPinCheck_46 : decode prog_6_method_11_code 46 = .ok (.putfield 37, 3) := by decide +kernel
theorem d_M_endPinCheck_49 : decode prog_6_method_11_code 49 = .ok (.return_, 1) := by decide +kernel
theorem d_O_stackOne_0 : decode prog_7_method_9_code 0 = .ok (.iload_n 1, 1) := by decide +kernel
theorem d_O_stackOne_1 : decode prog_7_method_9_code 1 = .ok (.invokestatic 38, 3) := by decide +kernel
theorem d_O_stackOne_4 : decode prog_7_method_9_code 4 = .ok (.ifCond .eq 47, 3) := by decide +kernel
theorem d_O_stackOne_7 : decode prog_7_method_9_code 7 = .ok (.aload_n 0, 1) := by decide +kernel
theorem d_O_stackOne_8 : decode prog_7_method_9_code 8 = .ok (.getfield 23, 3) := by decide +kernel
theorem d_O_stackOne_11 : decode prog_7_method_9_code 11 = .ok (.iload_n 1, 1) := by decide +kernel
theorem d_O_stackOne_12 : decode prog_7_method_9_code 12 = .ok (.iaload, 1) := by decide +kernel
theorem d_O_stackOne_13 : decode prog_7_method_9_code 13 = .ok (.ifCond .le 38, 3) := by decide +kernel
theorem d_O_stackOne_16 : decode prog_7_method_9_code 16 = .ok (.aload_n 0, 1) := by decide +kernel
theorem d_O_stackOne_17 : decode prog_7_method_9_code 17 = .ok (.getfield 23, 3) := by decide +kernel
theorem d_O_stackOne_20 : decode prog_7_method_9_code 20 = .ok (.iload_n 1, 1) := by decide +kernel
theorem d_O_stackOne_21 : decode prog_7_method_9_code 21 = .ok (.dup2, 1) := by decide +kernel
theorem d_O_stackOne_22 : decode prog_7_method_9_code 22 = .ok (.iaload, 1) := by decide +kernel
theorem d_O_stackOne_23 : decode prog_7_method_9_code 23 = .ok (.iconst 1, 1) := by decide +kernel
theorem d_O_stackOne_24 : decode prog_7_method_9_code 24 = .ok (.isub, 1) := by decide +kernel
theorem d_O_stackOne_25 : decode prog_7_method_9_code 25 = .ok (.iastore, 1) := by decide +kernel
theorem d_O_stackOne_26 : decode prog_7_method_9_code 26 = .ok (.aload_n 0, 1) := by decide +kernel
theorem d_O_stackOne_27 : decode prog_7_method_9_code 27 = .ok (.getfield 26, 3) := by decide +kernel
theorem d_O_stackOne_30 : decode prog_7_method_9_code 30 = .ok (.iload_n 1, 1) := by decide +kernel
theorem d_O_stackOne_31 : decode prog_7_method_9_code 31 = .ok (.dup2, 1) := by decide +kernel
theorem d_O_stackOne_32 : decode prog_7_method_9_code 32 = .ok (.iaload, 1) := by decide +kernel
theorem d_O_stackOne_33 : decode prog_7_method_9_code 33 = .ok (.iconst 1, 1) := by decide +kernel
theorem d_O_stackOne_34 : decode prog_7_method_9_code 34 = .ok (.iadd, 1) := by decide +kernel
theorem d_O_stackOne_35 : decode prog_7_method_9_code 35 = .ok (.iastore, 1) := by decide +kernel
theorem d_O_stackOne_36 : decode prog_7_method_9_code 36 = .ok (.aload_n 0, 1) := by decide +kernel
theorem d_O_stackOne_37 : decode prog_7_method_9_code 37 = .ok (.dup, 1) := by decide +kernel
theorem d_O_stackOne_38 : decode prog_7_method_9_code 38 = .ok (.getfield 81, 3) := by decide +kernel
theorem d_O_stackOne_41 : decode prog_7_method_9_code 41 = .ok (.aload_n 0, 1) := by decide +kernel
theorem d_O_stackOne_42 : decode prog_7_method_9_code 42 = .ok (.getfield 18, 3) := by decide +kernel
theorem d_O_stackOne_45 : decode prog_7_method_9_code 45 = .ok (.iload_n 1, 1) := by decide +kernel
theorem d_O_stackOne_46 : decode prog_7_method_9_code 46 = .ok (.iaload, 1) := by decide +kernel
theorem d_O_stackOne_47 : decode prog_7_method_9_code 47 = .ok (.iadd, 1) := by decide +kernel
theorem d_O_stackOne_48 : decode prog_7_method_9_code 48 = .ok (.putfield 81, 3) := by decide +kernel
theorem d_O_stackOne_51 : decode prog_7_method_9_code 51 = .ok (.return_, 1) := by decide +kernel
theorem d_M_stackMix_0 : decode prog_6_method_13_code 0 = .ok (.iconst 0, 1) := by decide +kernel
theorem d_M_stackMix_1 : decode prog_6_method_13_code 1 = .ok (.istore_n 1, 1) := by decide +kernel
theorem d_M_stackMix_2 : decode prog_6_method_13_code 2 = .ok (.iload_n 1, 1) := by decide +kernel
theorem d_M_stackMix_3 : decode prog_6_method_13_code 3 = .ok (.iconst 4, 1) := by decide +kernel
theorem d_M_stackMix_4 : decode prog_6_method_13_code 4 = .ok (.if_icmp .ge 47, 3) := by decide +kernel
theorem d_M_stackMix_7 : decode prog_6_method_13_code 7 = .ok (.iconst 0, 1) := by decide +kernel
theorem d_M_stackMix_8 : decode prog_6_method_13_code 8 = .ok (.istore_n 2, 1) := by decide +kernel
theorem d_M_stackMix_9 : decode prog_6_method_13_code 9 = .ok (.iload_n 2, 1) := by decide +kernel
theorem d_M_stackMix_10 : decode prog_6_method_13_code 10 = .ok (.aload_n 0, 1) := by decide +kernel
theorem d_M_stackMix_11 : decode prog_6_method_13_code 11 = .ok (.getfield 12, 3) := by decide +kernel
theorem d_M_stackMix_14 : decode prog_6_method_13_code 14 = .ok (.getfield 143, 3) := by decide +kernel
theorem d_M_stackMix_17 : decode prog_6_method_13_code 17 = .ok (.iload_n 1, 1) := by decide +kernel
theorem d_M_stackMix_18 : decode prog_6_method_13_code 18 = .ok (.iaload, 1) := by decide +kernel
theorem d_M_stackMix_19 : decode prog_6_method_13_code 19 = .ok (.if_icmp .ge 26, 3) := by decide +kernel
theorem d_M_stackMix_22 : decode prog_6_method_13_code 22 = .ok (.aload_n 0, 1) := by decide +kernel
theorem d_M_stackMix_23 : decode prog_6_method_13_code 23 = .ok (.invokevirtual 137, 3) := by decide +kernel
theorem d_M_stackMix_26 : decode prog_6_method_13_code 26 = .ok (.ifCond .ne 5, 3) := by decide +kernel
theorem d_M_stackMix_29 : decode prog_6_method_13_code 29 = .ok (.iconst 0, 1) := by decide +kernel
theorem d_M_stackMix_30 : decode prog_6_method_13_code 30 = .ok (.ireturn, 1) := by decide +kernel
theorem d_M_stackMix_31 : decode prog_6_method_13_code 31 = .ok (.aload_n 0, 1) := by decide +kernel
theorem d_M_stackMix_32 : decode prog_6_method_13_code 32 = .ok (.getfield 12, 3) := by decide +kernel
theorem d_M_stackMix_35 : decode prog_6_method_13_code 35 = .ok (.iload_n 1, 1) := by decide +kernel
theorem d_M_stackMix_36 : decode prog_6_method_13_code 36 = .ok (.invokevirtual 147, 3) := by decide +kernel
theorem d_M_stackMix_39 : decode prog_6_method_13_code 39 = .ok (.iinc 2 1, 3) := by decide +kernel
theorem d_M_stackMix_42 : decode prog_6_method_13_code 42 = .ok (.goto (-33), 3) := by decide +kernel
theorem d_M_stackMix_45 : decode prog_6_method_13_code 45 = .ok (.iinc 1 1, 3) := by decide +kernel
theorem d_M_stackMix_48 : decode prog_6_method_13_code 48 = .ok (.goto (-46), 3) := by decide +kernel
theorem d_M_stackMix_51 : decode prog_6_method_13_code 51 = .ok (.iconst 1, 1) := by decide +kernel
theorem d_M_stackMix_52 : decode prog_6_method_13_code 52 = .ok (.ireturn, 1) := by decide +kernel
theorem d_O_moveStackerToTray_0 : decode prog_7_method_11_code 0 = .ok (.aload_n 0, 1) := by decide +kernel
theorem d_O_moveStackerToTray_1 : decode prog_7_method_11_code 1 = .ok (.aload_n 0, 1) := by decide +kernel
theorem d_O_moveStackerToTray_2 : decode prog_7_method_11_code 2 = .ok (.getfield 29, 3) := by decide +kernel
theorem d_O_moveStackerToTray_5 : decode prog_7_method_11_code 5 = .ok (.invokevirtual 84, 3) := by decide +kernel
theorem d_O_moveStackerToTray_8 : decode prog_7_method_11_code 8 = .ok (.aload_n 0, 1) := by decide +kernel
theorem d_O_moveStackerToTray_9 : decode prog_7_method_11_code 9 = .ok (.dup, 1) := by decide +kernel
theorem d_O_moveStackerToTray_10 : decode prog_7_method_11_code 10 = .ok (.getfield 88, 3) := by decide +kernel
theorem d_O_moveStackerToTray_13 : decode prog_7_method_11_code 13 = .ok (.aload_n 0, 1) := by decide +kernel
theorem d_O_moveStackerToTray_14 : decode prog_7_method_11_code 14 = .ok (.getfield 81, 3) := by decide +kernel
theorem d_O_moveStackerToTray_17 : decode prog_7_method_11_code 17 = .ok (.iadd, 1) := by decide +kernel
theorem d_O_moveStackerToTray_18 : decode prog_7_method_11_code 18 = .ok (.putfield 88, 3) := by decide +kernel
theorem d_O_moveStackerToTray_21 : decode prog_7_method_11_code 21 = .ok (.aload_n 0, 1) := by decide +kernel
theorem d_O_moveStackerToTray_22 : decode prog_7_method_11_code 22 = .ok (.dup, 1) := by decide +kernel
theorem d_O_moveStackerToTray_23 : decode prog_7_method_11_code 23 = .ok (.getfield 91, 3) := by decide +kernel
theorem d_O_moveStackerToTray_26 : decode prog_7_method_11_code 26 = .ok (.aload_n 0, 1) := by decide +kernel
theorem d_O_moveStackerToTray_27 : decode prog_7_method_11_code 27 = .ok (.getfield 81, 3) := by decide +kernel
theorem d_O_moveStackerToTray_30 : decode prog_7_method_11_code 30 = .ok (.i2l, 1) := by decide +kernel
theorem d_O_moveStackerToTray_31 : decode prog_7_method_11_code 31 = .ok (.ladd, 1) := by decide +kernel
theorem d_O_moveStackerToTray_32 : decode prog_7_method_11_code 32 = .ok (.putfield 91, 3) := by decide +kernel
theorem d_O_moveStackerToTray_35 : decode prog_7_method_11_code 35 = .ok (.aload_n 0, 1) := by decide +kernel
theorem d_O_moveStackerToTray_36 : decode prog_7_method_11_code 36 = .ok (.iconst 0, 1) := by decide +kernel
theorem d_O_moveStackerToTray_37 : decode prog_7_method_11_code 37 = .ok (.putfield 81, 3) := by decide +kernel
theorem d_O_moveStackerToTray_40 : decode prog_7_method_11_code 40 = .ok (.return_, 1) := by decide +kernel
theorem d_M_payOut_0 : decode prog_6_method_12_code 0 = .ok (.aload_n 0, 1) := by decide +kernel
theorem d_M_payOut_1 : decode prog_6_method_12_code 1 = .ok (.iconst 2, 1) := by decide +kernel
theorem d_M_payOut_2 : decode prog_6_method_12_code 2 = .ok (.invokevirtual 87, 3) := by decide +kernel
theorem d_M_payOut_5 : decode prog_6_method_12_code 5 = .ok (.ifCond .eq 24, 3) := by decide +kernel
theorem d_M_payOut_8 : decode prog_6_method_12_code 8 = .ok (.aload_n 0, 1) := by decide +kernel
theorem d_M_payOut_9 : decode prog_6_method_12_code 9 = .ok (.getfield 12, 3) := by decide +kernel
theorem d_M_payOut_12 : decode prog_6_method_12_code 12 = .ok (.aload_n 0, 1) := by decide +kernel
theorem d_M_payOut_13 : decode prog_6_method_12_code 13 = .ok (.getfield 84, 3) := by decide +kernel
theorem d_M_payOut_16 : decode prog_6_method_12_code 16 = .ok (.invokevirtual 81, 3) := by decide +kernel
theorem d_M_payOut_19 : decode prog_6_method_12_code 19 = .ok (.ifCond .eq 10, 3) := by decide +kernel
theorem d_M_payOut_22 : decode prog_6_method_12_code 22 = .ok (.aload_n 0, 1) := by decide +kernel
theorem d_M_payOut_23 : decode prog_6_method_12_code 23 = .ok (.invokevirtual 134, 3) := by decide +kernel
theorem d_M_payOut_26 : decode prog_6_method_12_code 26 = .ok (.ifCond .ne 4, 3) := by decide +kernel
theorem d_M_payOut_29 : decode prog_6_method_12_code 29 = .ok (.return_, 1) := by decide +kernel
theorem d_M_payOut_30 : decode prog_6_method_12_code 30 = .ok (.aload_n 0, 1) := by decide +kernel
theorem d_M_payOut_31 : decode prog_6_method_12_code 31 = .ok (.invokevirtual 137, 3) := by decide +kernel
theorem d_M_payOut_34 : decode prog_6_method_12_code 34 = .ok (.ifCond .ne 4, 3) := by decide +kernel
theorem d_M_payOut_37 : decode prog_6_method_12_code 37 = .ok (.return_, 1) := by decide +kernel
theorem d_M_payOut_38 : decode prog_6_method_12_code 38 = .ok (.aload_n 0, 1) := by decide +kernel
theorem d_M_payOut_39 : decode prog_6_method_12_code 39 = .ok (.getfield 12, 3) := by decide +kernel
theorem d_M_payOut_42 : decode prog_6_method_12_code 42 = .ok (.invokevirtual 140, 3) := by decide +kernel
theorem d_M_payOut_45 : decode prog_6_method_12_code 45 = .ok (.aload_n 0, 1) := by decide +kernel
theorem d_M_payOut_46 : decode prog_6_method_12_code 46 = .ok (.dup, 1) := by decide +kernel
theorem d_M_payOut_47 : decode prog_6_method_12_code 47 = .ok (.getfield 90, 3) := by decide +kernel
theorem d_M_payOut_50 : decode prog_6_method_12_code 50 = .ok (.iconst 1, 1) := by decide +kernel
theorem d_M_payOut_51 : decode prog_6_method_12_code 51 = .ok (.iadd, 1) := by decide +kernel
theorem d_M_payOut_52 : decode prog_6_method_12_code 52 = .ok (.putfield 90, 3) := by decide +kernel
theorem d_M_payOut_55 : decode prog_6_method_12_code 55 = .ok (.aload_n 0, 1) := by decide +kernel
theorem d_M_payOut_56 : decode prog_6_method_12_code 56 = .ok (.iconst 3, 1) := by decide +kernel
theorem d_M_payOut_57 : decode prog_6_method_12_code 57 = .ok (.invokevirtual 87, 3) := by decide +kernel
theorem d_M_payOut_60 : decode prog_6_method_12_code 60 = .ok (.ifCond .eq 8, 3) := by decide +kernel
theorem d_M_payOut_63 : decode prog_6_method_12_code 63 = .ok (.aload_n 0, 1) := by decide +kernel
theorem d_M_payOut_64 : decode prog_6_method_12_code 64 = .ok (.iconst 3, 1) := by decide +kernel
theorem d_M_payOut_65 : decode prog_6_method_12_code 65 = .ok (.putfield 37, 3) := by decide +kernel
theorem d_M_payOut_68 : decode prog_6_method_12_code 68 = .ok (.return_, 1) := by decide +kernel
theorem d_M_receive_0 : decode prog_6_method_9_code 0 = .ok (.aload_n 0, 1) := by decide +kernel
theorem d_M_receive_1 : decode prog_6_method_9_code 1 = .ok (.getfield 29, 3) := by decide +kernel
theorem d_M_receive_4 : decode prog_6_method_9_code 4 = .ok (.ifCond .ne 4, 3) := by decide +kernel
theorem d_M_receive_7 : decode prog_6_method_9_code 7 = .ok (.return_, 1) := by decide +kernel
theorem d_M_receive_8 : decode prog_6_method_9_code 8 = .ok (.aload_n 1, 1) := by decide +kernel
theorem d_M_receive_9 : decode prog_6_method_9_code 9 = .ok (.invokevirtual 100, 3) := by decide +kernel
theorem d_M_receive_12 : decode prog_6_method_9_code 12 = .ok (.ifCond .eq 11, 3) := by decide +kernel
theorem d_M_receive_15 : decode prog_6_method_9_code 15 = .ok (.aload_n 0, 1) := by decide +kernel
theorem d_M_receive_16 : decode prog_6_method_9_code 16 = .ok (.aload_n 1, 1) := by decide +kernel
theorem d_M_receive_17 : decode prog_6_method_9_code 17 = .ok (.invokevirtual 106, 3) := by decide +kernel
theorem d_M_receive_20 : decode prog_6_method_9_code 20 = .ok (.ifCond .ne 14, 3) := by decide +kernel
theorem d_M_receive_23 : decode prog_6_method_9_code 23 = .ok (.aload_n 0, 1) := by decide +kernel
theorem d_M_receive_24 : decode prog_6_method_9_code 24 = .ok (.dup, 1) := by decide +kernel
theorem d_M_receive_25 : decode prog_6_method_9_code 25 = .ok (.getfield 110, 3) := by decide +kernel
theorem d_M_receive_28 : decode prog_6_method_9_code 28 = .ok (.iconst 1, 1) := by decide +kernel
theorem d_M_receive_29 : decode prog_6_method_9_code 29 = .ok (.iadd, 1) := by decide +kernel
theorem d_M_receive_30 : decode prog_6_method_9_code 30 = .ok (.putfield 110, 3) := by decide +kernel
theorem d_M_receive_33 : decode prog_6_method_9_code 33 = .ok (.return_, 1) := by decide +kernel
theorem d_M_receive_34 : decode prog_6_method_9_code 34 = .ok (.aload_n 0, 1) := by decide +kernel
theorem d_M_receive_35 : decode prog_6_method_9_code 35 = .ok (.getfield 37, 3) := by decide +kernel
theorem d_M_receive_38 : decode prog_6_method_9_code 38 = .ok (.lookupswitch 68 #[(2, 26), (4, 37)], 26) := by decide +kernel
theorem d_M_receive_64 : decode prog_6_method_9_code 64 = .ok (.aload_n 0, 1) := by decide +kernel
theorem d_M_receive_65 : decode prog_6_method_9_code 65 = .ok (.aload_n 1, 1) := by decide +kernel
theorem d_M_receive_66 : decode prog_6_method_9_code 66 = .ok (.invokevirtual 113, 3) := by decide +kernel
theorem d_M_receive_69 : decode prog_6_method_9_code 69 = .ok (.invokevirtual 117, 3) := by decide +kernel
theorem d_M_receive_72 : decode prog_6_method_9_code 72 = .ok (.goto 47, 3) := by decide +kernel
theorem d_M_receive_75 : decode prog_6_method_9_code 75 = .ok (.aload_n 1, 1) := by decide +kernel
theorem d_M_receive_76 : decode prog_6_method_9_code 76 = .ok (.invokevirtual 113, 3) := by decide +kernel
theorem d_M_receive_79 : decode prog_6_method_9_code 79 = .ok (.ifCond .ne 10, 3) := by decide +kernel
theorem d_M_receive_82 : decode prog_6_method_9_code 82 = .ok (.aload_n 0, 1) := by decide +kernel
theorem d_M_receive_83 : decode prog_6_method_9_code 83 = .ok (.invokevirtual 121, 3) := by decide +kernel
theorem d_M_receive_86 : decode prog_6_method_9_code 86 = .ok (.goto 33, 3) := by decide +kernel
theorem d_M_receive_89 : decode prog_6_method_9_code 89 = .ok (.aload_n 0, 1) := by decide +kernel
theorem d_M_receive_90 : decode prog_6_method_9_code 90 = .ok (.bipush 6, 2) := by decide +kernel
theorem d_M_receive_92 : decode prog_6_method_9_code 92 = .ok (.invokevirtual 87, 3) := by decide +kernel
theorem d_M_receive_95 : decode prog_6_method_9_code 95 = .ok (.ifCond .eq 24, 3) := by decide +kernel
theorem d_M_receive_98 : decode prog_6_method_9_code 98 = .ok (.aload_n 0, 1) := by decide +kernel
theorem d_M_receive_99 : decode prog_6_method_9_code 99 = .ok (.iconst 3, 1) := by decide +kernel
theorem d_M_receive_100 : decode prog_6_method_9_code 100 = .ok (.putfield 37, 3) := by decide +kernel
theorem d_M_receive_103 : decode prog_6_method_9_code 103 = .ok (.goto 16, 3) := by decide +kernel
theorem d_M_receive_106 : decode prog_6_method_9_code 106 = .ok (.aload_n 0, 1) := by decide +kernel
theorem d_M_receive_107 : decode prog_6_method_9_code 107 = .ok (.iconst 5, 1) := by decide +kernel
theorem d_M_receive_108 : decode prog_6_method_9_code 108 = .ok (.invokevirtual 87, 3) := by decide +kernel
theorem d_M_receive_111 : decode prog_6_method_9_code 111 = .ok (.ifCond .eq 8, 3) := by decide +kernel
theorem d_M_receive_114 : decode prog_6_method_9_code 114 = .ok (.aload_n 0, 1) := by decide +kernel
theorem d_M_receive_115 : decode prog_6_method_9_code 115 = .ok (.iconst 0, 1) := by decide +kernel
theorem d_M_receive_116 : decode prog_6_method_9_code 116 = .ok (.putfield 37, 3) := by decide +kernel
theorem d_M_receive_119 : decode prog_6_method_9_code 119 = .ok (.return_, 1) := by decide +kernel
theorem d_E_cardNumber_0 : decode prog_4_method_6_code 0 = .ok (.aload_n 0, 1) := by decide +kernel
theorem d_E_cardNumber_1 : decode prog_4_method_6_code 1 = .ok (.getfield 9, 3) := by decide +kernel
theorem d_E_cardNumber_4 : decode prog_4_method_6_code 4 = .ok (.iconst 5, 1) := by decide +kernel
theorem d_E_cardNumber_5 : decode prog_4_method_6_code 5 = .ok (.iaload, 1) := by decide +kernel
theorem d_E_cardNumber_6 : decode prog_4_method_6_code 6 = .ok (.ireturn, 1) := by decide +kernel
theorem d_E_value_0 : decode prog_4_method_7_code 0 = .ok (.aload_n 0, 1) := by decide +kernel
theorem d_E_value_1 : decode prog_4_method_7_code 1 = .ok (.bipush 6, 2) := by decide +kernel
theorem d_E_value_3 : decode prog_4_method_7_code 3 = .ok (.invokevirtual 33, 3) := by decide +kernel
theorem d_E_value_6 : decode prog_4_method_7_code 6 = .ok (.lreturn, 1) := by decide +kernel
theorem d_H_isUsable_0 : decode prog_2_method_8_code 0 = .ok (.aload_n 0, 1) := by decide +kernel
theorem d_H_isUsable_1 : decode prog_2_method_8_code 1 = .ok (.invokevirtual 84, 3) := by decide +kernel
theorem d_H_isUsable_4 : decode prog_2_method_8_code 4 = .ok (.lconst 1, 1) := by decide +kernel
theorem d_H_isUsable_5 : decode prog_2_method_8_code 5 = .ok (.ldc2_w 104, 3) := by decide +kernel
theorem d_H_isUsable_8 : decode prog_2_method_8_code 8 = .ok (.invokestatic 53, 3) := by decide +kernel
theorem d_H_isUsable_11 : decode prog_2_method_8_code 11 = .ok (.ifCond .eq 13, 3) := by decide +kernel
theorem d_H_isUsable_14 : decode prog_2_method_8_code 14 = .ok (.aload_n 0, 1) := by decide +kernel
theorem d_H_isUsable_15 : decode prog_2_method_8_code 15 = .ok (.invokevirtual 88, 3) := by decide +kernel
theorem d_H_isUsable_18 : decode prog_2_method_8_code 18 = .ok (.invokestatic 57, 3) := by decide +kernel
theorem d_H_isUsable_21 : decode prog_2_method_8_code 21 = .ok (.ifCond .ne 5, 3) := by decide +kernel
theorem d_H_isUsable_24 : decode prog_2_method_8_code 24 = .ok (.iconst 0, 1) := by decide +kernel
theorem d_H_isUsable_25 : decode prog_2_method_8_code 25 = .ok (.ireturn, 1) := by decide +kernel
theorem d_H_isUsable_26 : decode prog_2_method_8_code 26 = .ok (.aload_n 0, 1) := by decide +kernel
theorem d_H_isUsable_27 : decode prog_2_method_8_code 27 = .ok (.invokevirtual 80, 3) := by decide +kernel
theorem d_H_isUsable_30 : decode prog_2_method_8_code 30 = .ok (.tableswitch 44 1 3 #[26, 34, 42], 26) := by decide +kernel
theorem d_H_isUsable_56 : decode prog_2_method_8_code 56 = .ok (.aload_n 0, 1) := by decide +kernel
theorem d_H_isUsable_57 : decode prog_2_method_8_code 57 = .ok (.invokevirtual 91, 3) := by decide +kernel
theorem d_H_isUsable_60 : decode prog_2_method_8_code 60 = .ok (.invokestatic 60, 3) := by decide +kernel
theorem d_H_isUsable_63 : decode prog_2_method_8_code 63 = .ok (.ireturn, 1) := by decide +kernel
theorem d_H_isUsable_64 : decode prog_2_method_8_code 64 = .ok (.aload_n 0, 1) := by decide +kernel
theorem d_H_isUsable_65 : decode prog_2_method_8_code 65 = .ok (.invokevirtual 91, 3) := by decide +kernel
theorem d_H_isUsable_68 : decode prog_2_method_8_code 68 = .ok (.invokestatic 106, 3) := by decide +kernel
theorem d_H_isUsable_71 : decode prog_2_method_8_code 71 = .ok (.ireturn, 1) := by decide +kernel
theorem d_H_isUsable_72 : decode prog_2_method_8_code 72 = .ok (.iconst 1, 1) := by decide +kernel
theorem d_H_isUsable_73 : decode prog_2_method_8_code 73 = .ok (.ireturn, 1) := by decide +kernel
theorem d_H_isUsable_74 : decode prog_2_method_8_code 74 = .ok (.iconst 0, 1) := by decide +kernel
theorem d_H_isUsable_75 : decode prog_2_method_8_code 75 = .ok (.ireturn, 1) := by decide +kernel
theorem d_H_tryPin_0 : decode prog_2_method_10_code 0 = .ok (.aload_n 0, 1) := by decide +kernel
theorem d_H_tryPin_1 : decode prog_2_method_10_code 1 = .ok (.getfield 15, 3) := by decide +kernel
theorem d_H_tryPin_4 : decode prog_2_method_10_code 4 = .ok (.iload_n 1, 1) := by decide +kernel
theorem d_H_tryPin_5 : decode prog_2_method_10_code 5 = .ok (.iaload, 1) := by decide +kernel
theorem d_H_tryPin_6 : decode prog_2_method_10_code 6 = .ok (.iconst (-1), 1) := by decide +kernel
theorem d_H_tryPin_7 : decode prog_2_method_10_code 7 = .ok (.if_icmp .ne 5, 3) := by decide +kernel
theorem d_H_tryPin_10 : decode prog_2_method_10_code 10 = .ok (.iconst 1, 1) := by decide +kernel
theorem d_H_tryPin_11 : decode prog_2_method_10_code 11 = .ok (.ireturn, 1) := by decide +kernel
theorem d_H_tryPin_12 : decode prog_2_method_10_code 12 = .ok (.aload_n 0, 1) := by decide +kernel
theorem d_H_tryPin_13 : decode prog_2_method_10_code 13 = .ok (.getfield 22, 3) := by decide +kernel
theorem d_H_tryPin_16 : decode prog_2_method_10_code 16 = .ok (.iload_n 1, 1) := by decide +kernel
theorem d_H_tryPin_17 : decode prog_2_method_10_code 17 = .ok (.iaload, 1) := by decide +kernel
theorem d_H_tryPin_18 : decode prog_2_method_10_code 18 = .ok (.iconst 3, 1) := by decide +kernel
theorem d_H_tryPin_19 : decode prog_2_method_10_code 19 = .ok (.if_icmp .lt 5, 3) := by decide +kernel
theorem d_H_tryPin_22 : decode prog_2_method_10_code 22 = .ok (.iconst 2, 1) := by decide +kernel
theorem d_H_tryPin_23 : decode prog_2_method_10_code 23 = .ok (.ireturn, 1) := by decide +kernel
theorem d_H_tryPin_24 : decode prog_2_method_10_code 24 = .ok (.aload_n 0, 1) := by decide +kernel
theorem d_H_tryPin_25 : decode prog_2_method_10_code 25 = .ok (.getfield 19, 3) := by decide +kernel
theorem d_H_tryPin_28 : decode prog_2_method_10_code 28 = .ok (.iload_n 1, 1) := by decide +kernel
theorem d_H_tryPin_29 : decode prog_2_method_10_code 29 = .ok (.iaload, 1) := by decide +kernel
theorem d_H_tryPin_30 : decode prog_2_method_10_code 30 = .ok (.i2l, 1) := by decide +kernel
theorem d_H_tryPin_31 : decode prog_2_method_10_code 31 = .ok (.lload_n 2, 1) := by decide +kernel
theorem d_H_tryPin_32 : decode prog_2_method_10_code 32 = .ok (.lcmp, 1) := by decide +kernel
theorem d_H_tryPin_33 : decode prog_2_method_10_code 33 = .ok (.ifCond .ne 12, 3) := by decide +kernel
theorem d_H_tryPin_36 : decode prog_2_method_10_code 36 = .ok (.aload_n 0, 1) := by decide +kernel
theorem d_H_tryPin_37 : decode prog_2_method_10_code 37 = .ok (.getfield 22, 3) := by decide +kernel
theorem d_H_tryPin_40 : decode prog_2_method_10_code 40 = .ok (.iload_n 1, 1) := by decide +kernel
theorem d_H_tryPin_41 : decode prog_2_method_10_code 41 = .ok (.iconst 0, 1) := by decide +kernel
theorem d_H_tryPin_42 : decode prog_2_method_10_code 42 = .ok (.iastore, 1) := by decide +kernel
theorem d_H_tryPin_43 : decode prog_2_method_10_code 43 = .ok (.iconst 0, 1) := by decide +kernel
theorem d_H_tryPin_44 : decode prog_2_method_10_code 44 = .ok (.ireturn, 1) := by decide +kernel
theorem d_H_tryPin_45 : decode prog_2_method_10_code 45 = .ok (.aload_n 0, 1) := by decide +kernel
theorem d_H_tryPin_46 : decode prog_2_method_10_code 46 = .ok (.getfield 22, 3) := by decide +kernel
theorem d_H_tryPin_49 : decode prog_2_method_10_code 49 = .ok (.iload_n 1, 1) := by decide +kernel
theorem d_H_tryPin_50 : decode prog_2_method_10_code 50 = .ok (.dup2, 1) := by decide +kernel
theorem d_H_tryPin_51 : decode prog_2_method_10_code 51 = .ok (.iaload, 1) := by decide +kernel
theorem d_H_tryPin_52 : decode prog_2_method_10_code 52 = .ok (.iconst 1, 1) := by decide +kernel
theorem d_H_tryPin_53 : decode prog_2_method_10_code 53 = .ok (.iadd, 1) := by decide +kernel
theorem d_H_tryPin_54 : decode prog_2_method_10_code 54 = .ok (.iastore, 1) := by decide +kernel
theorem d_H_tryPin_55 : decode prog_2_method_10_code 55 = .ok (.aload_n 0, 1) := by decide +kernel
theorem d_H_tryPin_56 : decode prog_2_method_10_code 56 = .ok (.getfield 22, 3) := by decide +kernel
theorem d_H_tryPin_59 : decode prog_2_method_10_code 59 = .ok (.iload_n 1, 1) := by decide +kernel
theorem d_H_tryPin_60 : decode prog_2_method_10_code 60 = .ok (.iaload, 1) := by decide +kernel
theorem d_H_tryPin_61 : decode prog_2_method_10_code 61 = .ok (.iconst 3, 1) := by decide +kernel
theorem d_H_tryPin_62 : decode prog_2_method_10_code 62 = .ok (.if_icmp .lt 7, 3) := by decide +kernel
theorem d_H_tryPin_65 : decode prog_2_method_10_code 65 = .ok (.iconst 2, 1) := by decide +kernel
theorem d_H_tryPin_66 : decode prog_2_method_10_code 66 = .ok (.goto 4, 3) := by decide +kernel
theorem d_H_tryPin_69 : decode prog_2_method_10_code 69 = .ok (.iconst 1, 1) := by decide +kernel
theorem d_H_tryPin_70 : decode prog_2_method_10_code 70 = .ok (.ireturn, 1) := by decide +kernel
theorem d_H_takeOff_0 : decode prog_2_method_11_code 0 = .ok (.aload_n 0, 1) := by decide +kernel
theorem d_H_takeOff_1 : decode prog_2_method_11_code 1 = .ok (.getfield 15, 3) := by decide +kernel
theorem d_H_takeOff_4 : decode prog_2_method_11_code 4 = .ok (.iload_n 2, 1) := by decide +kernel
theorem d_H_takeOff_5 : decode prog_2_method_11_code 5 = .ok (.iaload, 1) := by decide +kernel
theorem d_H_takeOff_6 : decode prog_2_method_11_code 6 = .ok (.istore 4, 2) := by decide +kernel
theorem d_H_takeOff_8 : decode prog_2_method_11_code 8 = .ok (.iload 4, 2) := by decide +kernel
theorem d_H_takeOff_10 : decode prog_2_method_11_code 10 = .ok (.invokestatic 47, 3) := by decide +kernel
theorem d_H_takeOff_13 : decode prog_2_method_11_code 13 = .ok (.ifCond .eq 16, 3) := by decide +kernel
theorem d_H_takeOff_16 : decode prog_2_method_11_code 16 = .ok (.aload_n 0, 1) := by decide +kernel
theorem d_H_takeOff_17 : decode prog_2_method_11_code 17 = .ok (.getfield 9, 3) := by decide +kernel
theorem d_H_takeOff_20 : decode prog_2_method_11_code 20 = .ok (.iload 4, 2) := by decide +kernel
theorem d_H_takeOff_22 : decode prog_2_method_11_code 22 = .ok (.laload, 1) := by decide +kernel
theorem d_H_takeOff_23 : decode prog_2_method_11_code 23 = .ok (.iload_n 3, 1) := by decide +kernel
theorem d_H_takeOff_24 : decode prog_2_method_11_code 24 = .ok (.i2l, 1) := by decide +kernel
theorem d_H_takeOff_25 : decode prog_2_method_11_code 25 = .ok (.lcmp, 1) := by decide +kernel
theorem d_H_takeOff_26 : decode prog_2_method_11_code 26 = .ok (.ifCond .ge 11, 3) := by decide +kernel
theorem d_H_takeOff_29 : decode prog_2_method_11_code 29 = .ok (.aload_n 0, 1) := by decide +kernel
theorem d_H_takeOff_30 : decode prog_2_method_11_code 30 = .ok (.getfield 28, 3) := by decide +kernel
theorem d_H_takeOff_33 : decode prog_2_method_11_code 33 = .ok (.iload_n 1, 1) := by decide +kernel
theorem d_H_takeOff_34 : decode prog_2_method_11_code 34 = .ok (.iconst 1, 1) := by decide +kernel
theorem d_H_takeOff_35 : decode prog_2_method_11_code 35 = .ok (.iastore, 1) := by decide +kernel
theorem d_H_takeOff_36 : decode prog_2_method_11_code 36 = .ok (.return_, 1) := by decide +kernel
theorem d_H_takeOff_37 : decode prog_2_method_11_code 37 = .ok (.aload_n 0, 1) := by decide +kernel
theorem d_H_takeOff_38 : decode prog_2_method_11_code 38 = .ok (.getfield 9, 3) := by decide +kernel
theorem d_H_takeOff_41 : decode prog_2_method_11_code 41 = .ok (.iload 4, 2) := by decide +kernel
theorem d_H_takeOff_43 : decode prog_2_method_11_code 43 = .ok (.dup2, 1) := by decide +kernel
theorem d_H_takeOff_44 : decode prog_2_method_11_code 44 = .ok (.laload, 1) := by decide +kernel
theorem d_H_takeOff_45 : decode prog_2_method_11_code 45 = .ok (.iload_n 3, 1) := by decide +kernel
theorem d_H_takeOff_46 : decode prog_2_method_11_code 46 = .ok (.i2l, 1) := by decide +kernel
theorem d_H_takeOff_47 : decode prog_2_method_11_code 47 = .ok (.lsub, 1) := by decide +kernel
theorem d_H_takeOff_48 : decode prog_2_method_11_code 48 = .ok (.lastore, 1) := by decide +kernel
theorem d_H_takeOff_49 : decode prog_2_method_11_code 49 = .ok (.aload_n 0, 1) := by decide +kernel
theorem d_H_takeOff_50 : decode prog_2_method_11_code 50 = .ok (.dup, 1) := by decide +kernel
theorem d_H_takeOff_51 : decode prog_2_method_11_code 51 = .ok (.getfield 121, 3) := by decide +kernel
theorem d_H_takeOff_54 : decode prog_2_method_11_code 54 = .ok (.iload_n 3, 1) := by decide +kernel
theorem d_H_takeOff_55 : decode prog_2_method_11_code 55 = .ok (.i2l, 1) := by decide +kernel
theorem d_H_takeOff_56 : decode prog_2_method_11_code 56 = .ok (.ladd, 1) := by decide +kernel
theorem d_H_takeOff_57 : decode prog_2_method_11_code 57 = .ok (.putfield 121, 3) := by decide +kernel
theorem d_H_takeOff_60 : decode prog_2_method_11_code 60 = .ok (.aload_n 0, 1) := by decide +kernel
theorem d_H_takeOff_61 : decode prog_2_method_11_code 61 = .ok (.getfield 28, 3) := by decide +kernel
theorem d_H_takeOff_64 : decode prog_2_method_11_code 64 = .ok (.iload_n 1, 1) := by decide +kernel
theorem d_H_takeOff_65 : decode prog_2_method_11_code 65 = .ok (.iconst 2, 1) := by decide +kernel
theorem d_H_takeOff_66 : decode prog_2_method_11_code 66 = .ok (.iastore, 1) := by decide +kernel
theorem d_H_takeOff_67 : decode prog_2_method_11_code 67 = .ok (.aload_n 0, 1) := by decide +kernel
theorem d_H_takeOff_68 : decode prog_2_method_11_code 68 = .ok (.getfield 31, 3) := by decide +kernel
theorem d_H_takeOff_71 : decode prog_2_method_11_code 71 = .ok (.iload_n 1, 1) := by decide +kernel
theorem d_H_takeOff_72 : decode prog_2_method_11_code 72 = .ok (.iload_n 3, 1) := by decide +kernel
theorem d_H_takeOff_73 : decode prog_2_method_11_code 73 = .ok (.iastore, 1) := by decide +kernel
theorem d_H_takeOff_74 : decode prog_2_method_11_code 74 = .ok (.aload_n 0, 1) := by decide +kernel
theorem d_H_takeOff_75 : decode prog_2_method_11_code 75 = .ok (.getfield 34, 3) := by decide +kernel
theorem d_H_takeOff_78 : decode prog_2_method_11_code 78 = .ok (.iload_n 1, 1) := by decide +kernel
theorem d_H_takeOff_79 : decode prog_2_method_11_code 79 = .ok (.iload 4, 2) := by decide +kernel
theorem d_H_takeOff_81 : decode prog_2_method_11_code 81 = .ok (.iastore, 1) := by decide +kernel
theorem d_H_takeOff_82 : decode prog_2_method_11_code 82 = .ok (.return_, 1) := by decide +kernel
theorem d_H_giveBack_0 : decode prog_2_method_12_code 0 = .ok (.aload_n 0, 1) := by decide +kernel
theorem d_H_giveBack_1 : decode prog_2_method_12_code 1 = .ok (.getfield 34, 3) := by decide +kernel
theorem d_H_giveBack_4 : decode prog_2_method_12_code 4 = .ok (.iload_n 1, 1) := by decide +kernel
theorem d_H_giveBack_5 : decode prog_2_method_12_code 5 = .ok (.iaload, 1) := by decide +kernel
theorem d_H_giveBack_6 : decode prog_2_method_12_code 6 = .ok (.istore_n 2, 1) := by decide +kernel
theorem d_H_giveBack_7 : decode prog_2_method_12_code 7 = .ok (.iload_n 2, 1) := by decide +kernel
theorem d_H_giveBack_8 : decode prog_2_method_12_code 8 = .ok (.invokestatic 47, 3) := by decide +kernel
theorem d_H_giveBack_11 : decode prog_2_method_12_code 11 = .ok (.ifCond .eq 35, 3) := by decide +kernel
theorem d_H_giveBack_14 : decode prog_2_method_12_code 14 = .ok (.aload_n 0, 1) := by decide +kernel
theorem d_H_giveBack_15 : decode prog_2_method_12_code 15 = .ok (.getfield 9, 3) := by decide +kernel
theorem d_H_giveBack_18 : decode prog_2_method_12_code 18 = .ok (.iload_n 2, 1) := by decide +kernel
theorem d_H_giveBack_19 : decode prog_2_method_12_code 19 = .ok (.dup2, 1) := by decide +kernel
theorem d_H_giveBack_20 : decode prog_2_method_12_code 20 = .ok (.laload, 1) := by decide +kernel
theorem d_H_giveBack_21 : decode prog_2_method_12_code 21 = .ok (.aload_n 0, 1) := by decide +kernel
theorem d_H_giveBack_22 : decode prog_2_method_12_code 22 = .ok (.getfield 31, 3) := by decide +kernel
theorem d_H_giveBack_25 : decode prog_2_method_12_code 25 = .ok (.iload_n 1, 1) := by decide +kernel
theorem d_H_giveBack_26 : decode prog_2_method_12_code 26 = .ok (.iaload, 1) := by decide +kernel
theorem d_H_giveBack_27 : decode prog_2_method_12_code 27 = .ok (.i2l, 1) := by decide +kernel
theorem d_H_giveBack_28 : decode prog_2_method_12_code 28 = .ok (.ladd, 1) := by decide +kernel
theorem d_H_giveBack_29 : decode prog_2_method_12_code 29 = .ok (.lastore, 1) := by decide +kernel
theorem d_H_giveBack_30 : decode prog_2_method_12_code 30 = .ok (.aload_n 0, 1) := by decide +kernel
theorem d_H_giveBack_31 : decode prog_2_method_12_code 31 = .ok (.dup, 1) := by decide +kernel
theorem d_H_giveBack_32 : decode prog_2_method_12_code 32 = .ok (.getfield 121, 3) := by decide +kernel
theorem d_H_giveBack_35 : decode prog_2_method_12_code 35 = .ok (.aload_n 0, 1) := by decide +kernel
theorem d_H_giveBack_36 : decode prog_2_method_12_code 36 = .ok (.getfield 31, 3) := by decide +kernel
theorem d_H_giveBack_39 : decode prog_2_method_12_code 39 = .ok (.iload_n 1, 1) := by decide +kernel
theorem d_H_giveBack_40 : decode prog_2_method_12_code 40 = .ok (.iaload, 1) := by decide +kernel
theorem d_H_giveBack_41 : decode prog_2_method_12_code 41 = .ok (.i2l, 1) := by decide +kernel
theorem d_H_giveBack_42 : decode prog_2_method_12_code 42 = .ok (.lsub, 1) := by decide +kernel
theorem d_H_giveBack_43 : decode prog_2_method_12_code 43 = .ok (.putfield 121, 3) := by decide +kernel
theorem d_H_giveBack_46 : decode prog_2_method_12_code 46 = .ok (.return_, 1) := by decide +kernel
theorem d_H_decide_0 : decode prog_2_method_9_code 0 = .ok (.iload_n 2, 1) := by decide +kernel
theorem d_H_decide_1 : decode prog_2_method_9_code 1 = .ok (.i2l, 1) := by decide +kernel
theorem d_H_decide_2 : decode prog_2_method_9_code 2 = .ok (.lconst 1, 1) := by decide +kernel
theorem d_H_decide_3 : decode prog_2_method_9_code 3 = .ok (.ldc2_w 104, 3) := by decide +kernel
theorem d_H_decide_6 : decode prog_2_method_9_code 6 = .ok (.invokestatic 53, 3) := by decide +kernel
theorem d_H_decide_9 : decode prog_2_method_9_code 9 = .ok (.ifCond .eq 10, 3) := by decide +kernel
theorem d_H_decide_12 : decode prog_2_method_9_code 12 = .ok (.iload_n 3, 1) := by decide +kernel
theorem d_H_decide_13 : decode prog_2_method_9_code 13 = .ok (.invokestatic 57, 3) := by decide +kernel
theorem d_H_decide_16 : decode prog_2_method_9_code 16 = .ok (.ifCond .ne 5, 3) := by decide +kernel
theorem d_H_decide_19 : decode prog_2_method_9_code 19 = .ok (.iconst 1, 1) := by decide +kernel
theorem d_H_decide_20 : decode prog_2_method_9_code 20 = .ok (.ireturn, 1) := by decide +kernel
theorem d_H_decide_21 : decode prog_2_method_9_code 21 = .ok (.iload_n 1, 1) := by decide +kernel
theorem d_H_decide_22 : decode prog_2_method_9_code 22 = .ok (.lookupswitch 90 #[(1, 26), (2, 56)], 26) := by decide +kernel
theorem d_H_decide_48 : decode prog_2_method_9_code 48 = .ok (.aload_n 0, 1) := by decide +kernel
theorem d_H_decide_49 : decode prog_2_method_9_code 49 = .ok (.getfield 25, 3) := by decide +kernel
theorem d_H_decide_52 : decode prog_2_method_9_code 52 = .ok (.iload_n 2, 1) := by decide +kernel
theorem d_H_decide_53 : decode prog_2_method_9_code 53 = .ok (.iaload, 1) := by decide +kernel
theorem d_H_decide_54 : decode prog_2_method_9_code 54 = .ok (.iconst (-1), 1) := by decide +kernel
theorem d_H_decide_55 : decode prog_2_method_9_code 55 = .ok (.if_icmp .ne 16, 3) := by decide +kernel
theorem d_H_decide_58 : decode prog_2_method_9_code 58 = .ok (.aload_n 0, 1) := by decide +kernel
theorem d_H_decide_59 : decode prog_2_method_9_code 59 = .ok (.getfield 25, 3) := by decide +kernel
theorem d_H_decide_62 : decode prog_2_method_9_code 62 = .ok (.iload_n 2, 1) := by decide +kernel
theorem d_H_decide_63 : decode prog_2_method_9_code 63 = .ok (.aload_n 0, 1) := by decide +kernel
theorem d_H_decide_64 : decode prog_2_method_9_code 64 = .ok (.iload_n 3, 1) := by decide +kernel
theorem d_H_decide_65 : decode prog_2_method_9_code 65 = .ok (.lload 4, 2) := by decide +kernel
theorem d_H_decide_67 : decode prog_2_method_9_code 67 = .ok (.invokevirtual 109, 3) := by decide +kernel
theorem d_H_decide_70 : decode prog_2_method_9_code 70 = .ok (.iastore, 1) := by decide +kernel
theorem d_H_decide_71 : decode prog_2_method_9_code 71 = .ok (.aload_n 0, 1) := by decide +kernel
theorem d_H_decide_72 : decode prog_2_method_9_code 72 = .ok (.getfield 25, 3) := by decide +kernel
theorem d_H_decide_75 : decode prog_2_method_9_code 75 = .ok (.iload_n 2, 1) := by decide +kernel
theorem d_H_decide_76 : decode prog_2_method_9_code 76 = .ok (.iaload, 1) := by decide +kernel
theorem d_H_decide_77 : decode prog_2_method_9_code 77 = .ok (.ireturn, 1) := by decide +kernel
theorem d_H_decide_78 : decode prog_2_method_9_code 78 = .ok (.aload_n 0, 1) := by decide +kernel
theorem d_H_decide_79 : decode prog_2_method_9_code 79 = .ok (.getfield 28, 3) := by decide +kernel
theorem d_H_decide_82 : decode prog_2_method_9_code 82 = .ok (.iload_n 2, 1) := by decide +kernel
theorem d_H_decide_83 : decode prog_2_method_9_code 83 = .ok (.iaload, 1) := by decide +kernel
theorem d_H_decide_84 : decode prog_2_method_9_code 84 = .ok (.ifCond .ne 12, 3) := by decide +kernel
theorem d_H_decide_87 : decode prog_2_method_9_code 87 = .ok (.aload_n 0, 1) := by decide +kernel
theorem d_H_decide_88 : decode prog_2_method_9_code 88 = .ok (.iload_n 2, 1) := by decide +kernel
theorem d_H_decide_89 : decode prog_2_method_9_code 89 = .ok (.iload_n 3, 1) := by decide +kernel
theorem d_H_decide_90 : decode prog_2_method_9_code 90 = .ok (.lload 4, 2) := by decide +kernel
theorem d_H_decide_92 : decode prog_2_method_9_code 92 = .ok (.l2i, 1) := by decide +kernel
theorem d_H_decide_93 : decode prog_2_method_9_code 93 = .ok (.invokevirtual 113, 3) := by decide +kernel
theorem d_H_decide_96 : decode prog_2_method_9_code 96 = .ok (.aload_n 0, 1) := by decide +kernel
theorem d_H_decide_97 : decode prog_2_method_9_code 97 = .ok (.getfield 28, 3) := by decide +kernel
theorem d_H_decide_100 : decode prog_2_method_9_code 100 = .ok (.iload_n 2, 1) := by decide +kernel
theorem d_H_decide_101 : decode prog_2_method_9_code 101 = .ok (.iaload, 1) := by decide +kernel
theorem d_H_decide_102 : decode prog_2_method_9_code 102 = .ok (.iconst 2, 1) := by decide +kernel
theorem d_H_decide_103 : decode prog_2_method_9_code 103 = .ok (.if_icmp .ne 7, 3) := by decide +kernel
theorem d_H_decide_106 : decode prog_2_method_9_code 106 = .ok (.iconst 0, 1) := by decide +kernel
theorem d_H_decide_107 : decode prog_2_method_9_code 107 = .ok (.goto 4, 3) := by decide +kernel
theorem d_H_decide_110 : decode prog_2_method_9_code 110 = .ok (.iconst 1, 1) := by decide +kernel
theorem d_H_decide_111 : decode prog_2_method_9_code 111 = .ok (.ireturn, 1) := by decide +kernel
theorem d_H_decide_112 : decode prog_2_method_9_code 112 = .ok (.aload_n 0, 1) := by decide +kernel
theorem d_H_decide_113 : decode prog_2_method_9_code 113 = .ok (.getfield 28, 3) := by decide +kernel
theorem d_H_decide_116 : decode prog_2_method_9_code 116 = .ok (.iload_n 2, 1) := by decide +kernel
theorem d_H_decide_117 : decode prog_2_method_9_code 117 = .ok (.iaload, 1) := by decide +kernel
theorem d_H_decide_118 : decode prog_2_method_9_code 118 = .ok (.iconst 2, 1) := by decide +kernel
theorem d_H_decide_119 : decode prog_2_method_9_code 119 = .ok (.if_icmp .ne 8, 3) := by decide +kernel
theorem d_H_decide_122 : decode prog_2_method_9_code 122 = .ok (.aload_n 0, 1) := by decide +kernel
theorem d_H_decide_123 : decode prog_2_method_9_code 123 = .ok (.iload_n 2, 1) := by decide +kernel
theorem d_H_decide_124 : decode prog_2_method_9_code 124 = .ok (.invokevirtual 117, 3) := by decide +kernel
theorem d_H_decide_127 : decode prog_2_method_9_code 127 = .ok (.aload_n 0, 1) := by decide +kernel
theorem d_H_decide_128 : decode prog_2_method_9_code 128 = .ok (.getfield 28, 3) := by decide +kernel
theorem d_H_decide_131 : decode prog_2_method_9_code 131 = .ok (.iload_n 2, 1) := by decide +kernel
theorem d_H_decide_132 : decode prog_2_method_9_code 132 = .ok (.iconst 3, 1) := by decide +kernel
theorem d_H_decide_133 : decode prog_2_method_9_code 133 = .ok (.iastore, 1) := by decide +kernel
theorem d_H_decide_134 : decode prog_2_method_9_code 134 = .ok (.iconst 0, 1) := by decide +kernel
theorem d_H_decide_135 : decode prog_2_method_9_code 135 = .ok (.ireturn, 1) := by decide +kernel
theorem d_H_receive_0 : decode prog_2_method_7_code 0 = .ok (.aload_n 1, 1) := by decide +kernel
theorem d_H_receive_1 : decode prog_2_method_7_code 1 = .ok (.invokevirtual 66, 3) := by decide +kernel
theorem d_H_receive_4 : decode prog_2_method_7_code 4 = .ok (.ifCond .eq 10, 3) := by decide +kernel
theorem d_H_receive_7 : decode prog_2_method_7_code 7 = .ok (.aload_n 1, 1) := by decide +kernel
theorem d_H_receive_8 : decode prog_2_method_7_code 8 = .ok (.invokestatic 72, 3) := by decide +kernel
theorem d_H_receive_11 : decode prog_2_method_7_code 11 = .ok (.ifCond .ne 14, 3) := by decide +kernel
theorem d_H_receive_14 : decode prog_2_method_7_code 14 = .ok (.aload_n 0, 1) := by decide +kernel
theorem d_H_receive_15 : decode prog_2_method_7_code 15 = .ok (.dup, 1) := by decide +kernel
theorem d_H_receive_16 : decode prog_2_method_7_code 16 = .ok (.getfield 76, 3) := by decide +kernel
theorem d_H_receive_19 : decode prog_2_method_7_code 19 = .ok (.iconst 1, 1) := by decide +kernel
theorem d_H_receive_20 : decode prog_2_method_7_code 20 = .ok (.iadd, 1) := by decide +kernel
theorem d_H_receive_21 : decode prog_2_method_7_code 21 = .ok (.putfield 76, 3) := by decide +kernel
theorem d_H_receive_24 : decode prog_2_method_7_code 24 = .ok (.return_, 1) := by decide +kernel
theorem d_H_receive_25 : decode prog_2_method_7_code 25 = .ok (.aload_n 1, 1) := by decide +kernel
theorem d_H_receive_26 : decode prog_2_method_7_code 26 = .ok (.invokevirtual 80, 3) := by decide +kernel
theorem d_H_receive_29 : decode prog_2_method_7_code 29 = .ok (.istore_n 2, 1) := by decide +kernel
theorem d_H_receive_30 : decode prog_2_method_7_code 30 = .ok (.aload_n 1, 1) := by decide +kernel
theorem d_H_receive_31 : decode prog_2_method_7_code 31 = .ok (.invokevirtual 84, 3) := by decide +kernel
theorem d_H_receive_34 : decode prog_2_method_7_code 34 = .ok (.l2i, 1) := by decide +kernel
theorem d_H_receive_35 : decode prog_2_method_7_code 35 = .ok (.istore_n 3, 1) := by decide +kernel
theorem d_H_receive_36 : decode prog_2_method_7_code 36 = .ok (.aload_n 1, 1) := by decide +kernel
theorem d_H_receive_37 : decode prog_2_method_7_code 37 = .ok (.invokevirtual 88, 3) := by decide +kernel
theorem d_H_receive_40 : decode prog_2_method_7_code 40 = .ok (.istore 4, 2) := by decide +kernel
theorem d_H_receive_42 : decode prog_2_method_7_code 42 = .ok (.aload_n 1, 1) := by decide +kernel
theorem d_H_receive_43 : decode prog_2_method_7_code 43 = .ok (.invokevirtual 91, 3) := by decide +kernel
theorem d_H_receive_46 : decode prog_2_method_7_code 46 = .ok (.lstore 5, 2) := by decide +kernel
theorem d_H_receive_48 : decode prog_2_method_7_code 48 = .ok (.aload_n 0, 1) := by decide +kernel
theorem d_H_receive_49 : decode prog_2_method_7_code 49 = .ok (.iload_n 2, 1) := by decide +kernel
theorem d_H_receive_50 : decode prog_2_method_7_code 50 = .ok (.iload_n 3, 1) := by decide +kernel
theorem d_H_receive_51 : decode prog_2_method_7_code 51 = .ok (.iload 4, 2) := by decide +kernel
theorem d_H_receive_53 : decode prog_2_method_7_code 53 = .ok (.lload 5, 2) := by decide +kernel
theorem d_H_receive_55 : decode prog_2_method_7_code 55 = .ok (.invokevirtual 94, 3) := by decide +kernel
theorem d_H_receive_58 : decode prog_2_method_7_code 58 = .ok (.istore 7, 2) := by decide +kernel
theorem d_H_receive_60 : decode prog_2_method_7_code 60 = .ok (.aload_n 0, 1) := by decide +kernel
theorem d_H_receive_61 : decode prog_2_method_7_code 61 = .ok (.getfield 37, 3) := by decide +kernel
theorem d_H_receive_64 : decode prog_2_method_7_code 64 = .ok (.iconst 0, 1) := by decide +kernel
theorem d_H_receive_65 : decode prog_2_method_7_code 65 = .ok (.iload_n 2, 1) := by decide +kernel
theorem d_H_receive_66 : decode prog_2_method_7_code 66 = .ok (.sipush 128, 3) := by decide +kernel
theorem d_H_receive_69 : decode prog_2_method_7_code 69 = .ok (.iadd, 1) := by decide +kernel
theorem d_H_receive_70 : decode prog_2_method_7_code 70 = .ok (.iload_n 3, 1) := by decide +kernel
theorem d_H_receive_71 : decode prog_2_method_7_code 71 = .ok (.iload 4, 2) := by decide +kernel
theorem d_H_receive_73 : decode prog_2_method_7_code 73 = .ok (.lload 5, 2) := by decide +kernel
theorem d_H_receive_75 : decode prog_2_method_7_code 75 = .ok (.iload 7, 2) := by decide +kernel
theorem d_H_receive_77 : decode prog_2_method_7_code 77 = .ok (.invokevirtual 98, 3) := by decide +kernel
theorem d_H_receive_80 : decode prog_2_method_7_code 80 = .ok (.return_, 1) := by decide +kernel
theorem d_A_handOver_0 : decode prog_1_method_25_code 0 = .ok (.aload_n 0, 1) := by decide +kernel
theorem d_A_handOver_1 : decode prog_1_method_25_code 1 = .ok (.getfield 35, 3) := by decide +kernel
theorem d_A_handOver_4 : decode prog_1_method_25_code 4 = .ok (.getfield 173, 3) := by decide +kernel
theorem d_A_handOver_7 : decode prog_1_method_25_code 7 = .ok (.ifCond .eq 17, 3) := by decide +kernel
theorem d_A_handOver_10 : decode prog_1_method_25_code 10 = .ok (.aload_n 0, 1) := by decide +kernel
theorem d_A_handOver_11 : decode prog_1_method_25_code 11 = .ok (.getfield 21, 3) := by decide +kernel
theorem d_A_handOver_14 : decode prog_1_method_25_code 14 = .ok (.aload_n 0, 1) := by decide +kernel
theorem d_A_handOver_15 : decode prog_1_method_25_code 15 = .ok (.getfield 35, 3) := by decide +kernel
theorem d_A_handOver_18 : decode prog_1_method_25_code 18 = .ok (.invokevirtual 176, 3) := by decide +kernel
theorem d_A_handOver_21 : decode prog_1_method_25_code 21 = .ok (.goto 14, 3) := by decide +kernel
theorem d_A_handOver_24 : decode prog_1_method_25_code 24 = .ok (.aload_n 0, 1) := by decide +kernel
theorem d_A_handOver_25 : decode prog_1_method_25_code 25 = .ok (.getfield 28, 3) := by decide +kernel
theorem d_A_handOver_28 : decode prog_1_method_25_code 28 = .ok (.aload_n 0, 1) := by decide +kernel
theorem d_A_handOver_29 : decode prog_1_method_25_code 29 = .ok (.getfield 35, 3) := by decide +kernel
theorem d_A_handOver_32 : decode prog_1_method_25_code 32 = .ok (.invokevirtual 180, 3) := by decide +kernel
theorem d_A_handOver_35 : decode prog_1_method_25_code 35 = .ok (.return_, 1) := by decide +kernel
theorem d_A_deliver_0 : decode prog_1_method_11_code 0 = .ok (.aload_n 0, 1) := by decide +kernel
theorem d_A_deliver_1 : decode prog_1_method_11_code 1 = .ok (.getfield 10, 3) := by decide +kernel
theorem d_A_deliver_4 : decode prog_1_method_11_code 4 = .ok (.iload_n 1, 1) := by decide +kernel
theorem d_A_deliver_5 : decode prog_1_method_11_code 5 = .ok (.invokevirtual 78, 3) := by decide +kernel
theorem d_A_deliver_8 : decode prog_1_method_11_code 8 = .ok (.ifCond .ne 5, 3) := by decide +kernel
theorem d_A_deliver_11 : decode prog_1_method_11_code 11 = .ok (.iconst (-1), 1) := by decide +kernel
theorem d_A_deliver_12 : decode prog_1_method_11_code 12 = .ok (.ireturn, 1) := by decide +kernel
theorem d_A_deliver_13 : decode prog_1_method_11_code 13 = .ok (.aload_n 0, 1) := by decide +kernel
theorem d_A_deliver_14 : decode prog_1_method_11_code 14 = .ok (.getfield 10, 3) := by decide +kernel
theorem d_A_deliver_17 : decode prog_1_method_11_code 17 = .ok (.iload_n 1, 1) := by decide +kernel
theorem d_A_deliver_18 : decode prog_1_method_11_code 18 = .ok (.aload_n 0, 1) := by decide +kernel
theorem d_A_deliver_19 : decode prog_1_method_11_code 19 = .ok (.getfield 35, 3) := by decide +kernel
theorem d_A_deliver_22 : decode prog_1_method_11_code 22 = .ok (.invokevirtual 81, 3) := by decide +kernel
theorem d_A_deliver_25 : decode prog_1_method_11_code 25 = .ok (.aload_n 0, 1) := by decide +kernel
theorem d_A_deliver_26 : decode prog_1_method_11_code 26 = .ok (.getfield 10, 3) := by decide +kernel
theorem d_A_deliver_29 : decode prog_1_method_11_code 29 = .ok (.iload_n 1, 1) := by decide +kernel
theorem d_A_deliver_30 : decode prog_1_method_11_code 30 = .ok (.invokevirtual 85, 3) := by decide +kernel
theorem d_A_deliver_33 : decode prog_1_method_11_code 33 = .ok (.aload_n 0, 1) := by decide +kernel
theorem d_A_deliver_34 : decode prog_1_method_11_code 34 = .ok (.invokevirtual 89, 3) := by decide +kernel
theorem d_A_deliver_37 : decode prog_1_method_11_code 37 = .ok (.aload_n 0, 1) := by decide +kernel
theorem d_A_deliver_38 : decode prog_1_method_11_code 38 = .ok (.getfield 10, 3) := by decide +kernel
theorem d_A_deliver_41 : decode prog_1_method_11_code 41 = .ok (.getfield 92, 3) := by decide +kernel
theorem d_A_deliver_44 : decode prog_1_method_11_code 44 = .ok (.ireturn, 1) := by decide +kernel
theorem d_A_twice_0 : decode prog_1_method_12_code 0 = .ok (.aload_n 0, 1) := by decide +kernel
theorem d_A_twice_1 : decode prog_1_method_12_code 1 = .ok (.getfield 10, 3) := by decide +kernel
theorem d_A_twice_4 : decode prog_1_method_12_code 4 = .ok (.iload_n 1, 1) := by decide +kernel
theorem d_A_twice_5 : decode prog_1_method_12_code 5 = .ok (.invokevirtual 78, 3) := by decide +kernel
theorem d_A_twice_8 : decode prog_1_method_12_code 8 = .ok (.ifCond .ne 5, 3) := by decide +kernel
theorem d_A_twice_11 : decode prog_1_method_12_code 11 = .ok (.iconst (-1), 1) := by decide +kernel
theorem d_A_twice_12 : decode prog_1_method_12_code 12 = .ok (.ireturn, 1) := by decide +kernel
theorem d_A_twice_13 : decode prog_1_method_12_code 13 = .ok (.aload_n 0, 1) := by decide +kernel
theorem d_A_twice_14 : decode prog_1_method_12_code 14 = .ok (.getfield 10, 3) := by decide +kernel
theorem d_A_twice_17 : decode prog_1_method_12_code 17 = .ok (.iload_n 1, 1) := by decide +kernel
theorem d_A_twice_18 : decode prog_1_method_12_code 18 = .ok (.aload_n 0, 1) := by decide +kernel
theorem d_A_twice_19 : decode prog_1_method_12_code 19 = .ok (.getfield 35, 3) := by decide +kernel
theorem d_A_twice_22 : decode prog_1_method_12_code 22 = .ok (.invokevirtual 81, 3) := by decide +kernel
theorem d_A_twice_25 : decode prog_1_method_12_code 25 = .ok (.aload_n 0, 1) := by decide +kernel
theorem d_A_twice_26 : decode prog_1_method_12_code 26 = .ok (.invokevirtual 89, 3) := by decide +kernel
theorem d_A_twice_29 : decode prog_1_method_12_code 29 = .ok (.aload_n 0, 1) := by decide +kernel
theorem d_A_twice_30 : decode prog_1_method_12_code 30 = .ok (.getfield 10, 3) := by decide +kernel
theorem d_A_twice_33 : decode prog_1_method_12_code 33 = .ok (.getfield 92, 3) := by decide +kernel
theorem d_A_twice_36 : decode prog_1_method_12_code 36 = .ok (.ireturn, 1) := by decide +kernel
theorem d_A_lose_0 : decode prog_1_method_13_code 0 = .ok (.aload_n 0, 1) := by decide +kernel
theorem d_A_lose_1 : decode prog_1_method_13_code 1 = .ok (.getfield 10, 3) := by decide +kernel
theorem d_A_lose_4 : decode prog_1_method_13_code 4 = .ok (.iload_n 1, 1) := by decide +kernel
theorem d_A_lose_5 : decode prog_1_method_13_code 5 = .ok (.invokevirtual 78, 3) := by decide +kernel
theorem d_A_lose_8 : decode prog_1_method_13_code 8 = .ok (.ifCond .ne 5, 3) := by decide +kernel
theorem d_A_lose_11 : decode prog_1_method_13_code 11 = .ok (.iconst (-1), 1) := by decide +kernel
theorem d_A_lose_12 : decode prog_1_method_13_code 12 = .ok (.ireturn, 1) := by decide +kernel
theorem d_A_lose_13 : decode prog_1_method_13_code 13 = .ok (.aload_n 0, 1) := by decide +kernel
theorem d_A_lose_14 : decode prog_1_method_13_code 14 = .ok (.getfield 10, 3) := by decide +kernel
theorem d_A_lose_17 : decode prog_1_method_13_code 17 = .ok (.iload_n 1, 1) := by decide +kernel
theorem d_A_lose_18 : decode prog_1_method_13_code 18 = .ok (.invokevirtual 85, 3) := by decide +kernel
theorem d_A_lose_21 : decode prog_1_method_13_code 21 = .ok (.aload_n 0, 1) := by decide +kernel
theorem d_A_lose_22 : decode prog_1_method_13_code 22 = .ok (.getfield 10, 3) := by decide +kernel
theorem d_A_lose_25 : decode prog_1_method_13_code 25 = .ok (.getfield 92, 3) := by decide +kernel
theorem d_A_lose_28 : decode prog_1_method_13_code 28 = .ok (.ireturn, 1) := by decide +kernel
theorem d_N_changeByte_0 : decode prog_5_method_6_code 0 = .ok (.aload_n 0, 1) := by decide +kernel
theorem d_N_changeByte_1 : decode prog_5_method_6_code 1 = .ok (.iload_n 1, 1) := by decide +kernel
theorem d_N_changeByte_2 : decode prog_5_method_6_code 2 = .ok (.invokevirtual 37, 3) := by decide +kernel
theorem d_N_changeByte_5 : decode prog_5_method_6_code 5 = .ok (.ifCond .eq 27, 3) := by decide +kernel
theorem d_N_changeByte_8 : decode prog_5_method_6_code 8 = .ok (.iload_n 2, 1) := by decide +kernel
theorem d_N_changeByte_9 : decode prog_5_method_6_code 9 = .ok (.i2l, 1) := by decide +kernel
theorem d_N_changeByte_10 : decode prog_5_method_6_code 10 = .ok (.lconst 0, 1) := by decide +kernel
theorem d_N_changeByte_11 : decode prog_5_method_6_code 11 = .ok (.ldc2_w 45, 3) := by decide +kernel
theorem d_N_changeByte_14 : decode prog_5_method_6_code 14 = .ok (.invokestatic 47, 3) := by decide +kernel
theorem d_N_changeByte_17 : decode prog_5_method_6_code 17 = .ok (.ifCond .eq 15, 3) := by decide +kernel
theorem d_N_changeByte_20 : decode prog_5_method_6_code 20 = .ok (.iload_n 3, 1) := by decide +kernel
theorem d_N_changeByte_21 : decode prog_5_method_6_code 21 = .ok (.i2l, 1) := by decide +kernel
theorem d_N_changeByte_22 : decode prog_5_method_6_code 22 = .ok (.lconst 1, 1) := by decide +kernel
theorem d_N_changeByte_23 : decode prog_5_method_6_code 23 = .ok (.ldc2_w 51, 3) := by decide +kernel
theorem d_N_changeByte_26 : decode prog_5_method_6_code 26 = .ok (.invokestatic 47, 3) := by decide +kernel
theorem d_N_changeByte_29 : decode prog_5_method_6_code 29 = .ok (.ifCond .ne 5, 3) := by decide +kernel
theorem d_N_changeByte_32 : decode prog_5_method_6_code 32 = .ok (.iconst 0, 1) := by decide +kernel
theorem d_N_changeByte_33 : decode prog_5_method_6_code 33 = .ok (.ireturn, 1) := by decide +kernel
theorem d_N_changeByte_34 : decode prog_5_method_6_code 34 = .ok (.aload_n 0, 1) := by decide +kernel
theorem d_N_changeByte_35 : decode prog_5_method_6_code 35 = .ok (.getfield 11, 3) := by decide +kernel
theorem d_N_changeByte_38 : decode prog_5_method_6_code 38 = .ok (.iload_n 1, 1) := by decide +kernel
theorem d_N_changeByte_39 : decode prog_5_method_6_code 39 = .ok (.aaload, 1) := by decide +kernel
theorem d_N_changeByte_40 : decode prog_5_method_6_code 40 = .ok (.getfield 53, 3) := by decide +kernel
theorem d_N_changeByte_43 : decode prog_5_method_6_code 43 = .ok (.iload_n 2, 1) := by decide +kernel
theorem d_N_changeByte_44 : decode prog_5_method_6_code 44 = .ok (.dup2, 1) := by decide +kernel
theorem d_N_changeByte_45 : decode prog_5_method_6_code 45 = .ok (.iaload, 1) := by decide +kernel
theorem d_N_changeByte_46 : decode prog_5_method_6_code 46 = .ok (.iload_n 3, 1) := by decide +kernel
theorem d_N_changeByte_47 : decode prog_5_method_6_code 47 = .ok (.ixor, 1) := by decide +kernel
theorem d_N_changeByte_48 : decode prog_5_method_6_code 48 = .ok (.iastore, 1) := by decide +kernel
theorem d_N_changeByte_49 : decode prog_5_method_6_code 49 = .ok (.iconst 1, 1) := by decide +kernel
theorem d_N_changeByte_50 : decode prog_5_method_6_code 50 = .ok (.ireturn, 1) := by decide +kernel
theorem d_A_poke_0 : decode prog_1_method_14_code 0 = .ok (.aload_n 0, 1) := by decide +kernel
theorem d_A_poke_1 : decode prog_1_method_14_code 1 = .ok (.getfield 10, 3) := by decide +kernel
theorem d_A_poke_4 : decode prog_1_method_14_code 4 = .ok (.iload_n 1, 1) := by decide +kernel
theorem d_A_poke_5 : decode prog_1_method_14_code 5 = .ok (.iload_n 2, 1) := by decide +kernel
theorem d_A_poke_6 : decode prog_1_method_14_code 6 = .ok (.iload_n 3, 1) := by decide +kernel
theorem d_A_poke_7 : decode prog_1_method_14_code 7 = .ok (.invokevirtual 96, 3) := by decide +kernel
theorem d_A_poke_10 : decode prog_1_method_14_code 10 = .ok (.ireturn, 1) := by decide +kernel
theorem d_N_byteOf_0 : decode prog_5_method_7_code 0 = .ok (.aload_n 0, 1) := by decide +kernel
theorem d_N_byteOf_1 : decode prog_5_method_7_code 1 = .ok (.iload_n 1, 1) := by decide +kernel
theorem d_N_byteOf_2 : decode prog_5_method_7_code 2 = .ok (.invokevirtual 37, 3) := by decide +kernel
theorem d_N_byteOf_5 : decode prog_5_method_7_code 5 = .ok (.ifCond .eq 15, 3) := by decide +kernel
theorem d_N_byteOf_8 : decode prog_5_method_7_code 8 = .ok (.iload_n 2, 1) := by decide +kernel
theorem d_N_byteOf_9 : decode prog_5_method_7_code 9 = .ok (.i2l, 1) := by decide +kernel
theorem d_N_byteOf_10 : decode prog_5_method_7_code 10 = .ok (.lconst 0, 1) := by decide +kernel
theorem d_N_byteOf_11 : decode prog_5_method_7_code 11 = .ok (.ldc2_w 45, 3) := by decide +kernel
theorem d_N_byteOf_14 : decode prog_5_method_7_code 14 = .ok (.invokestatic 47, 3) := by decide +kernel
theorem d_N_byteOf_17 : decode prog_5_method_7_code 17 = .ok (.ifCond .ne 5, 3) := by decide +kernel
theorem d_N_byteOf_20 : decode prog_5_method_7_code 20 = .ok (.iconst (-1), 1) := by decide +kernel
theorem d_N_byteOf_21 : decode prog_5_method_7_code 21 = .ok (.ireturn, 1) := by decide +kernel
theorem d_N_byteOf_22 : decode prog_5_method_7_code 22 = .ok (.aload_n 0, 1) := by decide +kernel
theorem d_N_byteOf_23 : decode prog_5_method_7_code 23 = .ok (.getfield 11, 3) := by decide +kernel
theorem d_N_byteOf_26 : decode prog_5_method_7_code 26 = .ok (.iload_n 1, 1) := by decide +kernel
theorem d_N_byteOf_27 : decode prog_5_method_7_code 27 = .ok (.aaload, 1) := by decide +kernel
theorem d_N_byteOf_28 : decode prog_5_method_7_code 28 = .ok (.getfield 53, 3) := by decide +kernel
theorem d_N_byteOf_31 : decode prog_5_method_7_code 31 = .ok (.iload_n 2, 1) := by decide +kernel
theorem d_N_byteOf_32 : decode prog_5_method_7_code 32 = .ok (.iaload, 1) := by decide +kernel
theorem d_N_byteOf_33 : decode prog_5_method_7_code 33 = .ok (.ireturn, 1) := by decide +kernel
theorem d_A_letter_0 : decode prog_1_method_15_code 0 = .ok (.aload_n 0, 1) := by decide +kernel
theorem d_A_letter_1 : decode prog_1_method_15_code 1 = .ok (.getfield 10, 3) := by decide +kernel
theorem d_A_letter_4 : decode prog_1_method_15_code 4 = .ok (.iload_n 1, 1) := by decide +kernel
theorem d_A_letter_5 : decode prog_1_method_15_code 5 = .ok (.iload_n 2, 1) := by decide +kernel
theorem d_A_letter_6 : decode prog_1_method_15_code 6 = .ok (.invokevirtual 99, 3) := by decide +kernel
theorem d_A_letter_9 : decode prog_1_method_15_code 9 = .ok (.ireturn, 1) := by decide +kernel
theorem d_M_switchOff_0 : decode prog_6_method_15_code 0 = .ok (.aload_n 0, 1) := by decide +kernel
theorem d_M_switchOff_1 : decode prog_6_method_15_code 1 = .ok (.getfield 29, 3) := by decide +kernel
theorem d_M_switchOff_4 : decode prog_6_method_15_code 4 = .ok (.ifCond .ne 5, 3) := by decide +kernel
theorem d_M_switchOff_7 : decode prog_6_method_15_code 7 = .ok (.iconst 0, 1) := by decide +kernel
theorem d_M_switchOff_8 : decode prog_6_method_15_code 8 = .ok (.ireturn, 1) := by decide +kernel
theorem d_M_switchOff_9 : decode prog_6_method_15_code 9 = .ok (.aload_n 0, 1) := by decide +kernel
theorem d_M_switchOff_10 : decode prog_6_method_15_code 10 = .ok (.iconst 0, 1) := by decide +kernel
theorem d_M_switchOff_11 : decode prog_6_method_15_code 11 = .ok (.putfield 29, 3) := by decide +kernel
theorem d_M_switchOff_14 : decode prog_6_method_15_code 14 = .ok (.iconst 1, 1) := by decide +kernel
theorem d_M_switchOff_15 : decode prog_6_method_15_code 15 = .ok (.ireturn, 1) := by decide +kernel
theorem d_A_cut_0 : decode prog_1_method_16_code 0 = .ok (.aload_n 0, 1) := by decide +kernel
theorem d_A_cut_1 : decode prog_1_method_16_code 1 = .ok (.getfield 28, 3) := by decide +kernel
theorem d_A_cut_4 : decode prog_1_method_16_code 4 = .ok (.invokevirtual 103, 3) := by decide +kernel
theorem d_A_cut_7 : decode prog_1_method_16_code 7 = .ok (.ireturn, 1) := by decide +kernel
theorem d_M_allowSteps_0 : decode prog_6_method_16_code 0 = .ok (.aload_n 0, 1) := by decide +kernel
theorem d_M_allowSteps_1 : decode prog_6_method_16_code 1 = .ok (.getfield 29, 3) := by decide +kernel
theorem d_M_allowSteps_4 : decode prog_6_method_16_code 4 = .ok (.ifCond .eq 15, 3) := by decide +kernel
theorem d_M_allowSteps_7 : decode prog_6_method_16_code 7 = .ok (.iload_n 1, 1) := by decide +kernel
theorem d_M_allowSteps_8 : decode prog_6_method_16_code 8 = .ok (.i2l, 1) := by decide +kernel
theorem d_M_allowSteps_9 : decode prog_6_method_16_code 9 = .ok (.lconst 0, 1) := by decide +kernel
theorem d_M_allowSteps_10 : decode prog_6_method_16_code 10 = .ok (.ldc2_w 156, 3) := by decide +kernel
theorem d_M_allowSteps_13 : decode prog_6_method_16_code 13 = .ok (.invokestatic 158, 3) := by decide +kernel
theorem d_M_allowSteps_16 : decode prog_6_method_16_code 16 = .ok (.ifCond .ne 5, 3) := by decide +kernel
theorem d_M_allowSteps_19 : decode prog_6_method_16_code 19 = .ok (.iconst 0, 1) := by decide +kernel
theorem d_M_allowSteps_20 : decode prog_6_method_16_code 20 = .ok (.ireturn, 1) := by decide +kernel
theorem d_M_allowSteps_21 : decode prog_6_method_16_code 21 = .ok (.aload_n 0, 1) := by decide +kernel
theorem d_M_allowSteps_22 : decode prog_6_method_16_code 22 = .ok (.iload_n 1, 1) := by decide +kernel
theorem d_M_allowSteps_23 : decode prog_6_method_16_code 23 = .ok (.putfield 33, 3) := by decide +kernel
theorem d_M_allowSteps_26 : decode prog_6_method_16_code 26 = .ok (.iconst 1, 1) := by decide +kernel
theorem d_M_allowSteps_27 : decode prog_6_method_16_code 27 = .ok (.ireturn, 1) := by decide +kernel
theorem d_A_arm_0 : decode prog_1_method_17_code 0 = .ok (.aload_n 0, 1) := by decide +kernel
theorem d_A_arm_1 : decode prog_1_method_17_code 1 = .ok (.getfield 28, 3) := by decide +kernel
theorem d_A_arm_4 : decode prog_1_method_17_code 4 = .ok (.iload_n 1, 1) := by decide +kernel
theorem d_A_arm_5 : decode prog_1_method_17_code 5 = .ok (.invokevirtual 106, 3) := by decide +kernel
theorem d_A_arm_8 : decode prog_1_method_17_code 8 = .ok (.ireturn, 1) := by decide +kernel
theorem d_J_tell_0 : decode prog_3_method_4_code 0 = .ok (.iload_n 1, 1) := by decide +kernel
theorem d_J_tell_1 : decode prog_3_method_4_code 1 = .ok (.i2l, 1) := by decide +kernel
theorem d_J_tell_2 : decode prog_3_method_4_code 2 = .ok (.lconst 0, 1) := by decide +kernel
theorem d_J_tell_3 : decode prog_3_method_4_code 3 = .ok (.aload_n 0, 1) := by decide +kernel
theorem d_J_tell_4 : decode prog_3_method_4_code 4 = .ok (.getfield 24, 3) := by decide +kernel
theorem d_J_tell_7 : decode prog_3_method_4_code 7 = .ok (.iconst 1, 1) := by decide +kernel
theorem d_J_tell_8 : decode prog_3_method_4_code 8 = .ok (.isub, 1) := by decide +kernel
theorem d_J_tell_9 : decode prog_3_method_4_code 9 = .ok (.i2l, 1) := by decide +kernel
theorem d_J_tell_10 : decode prog_3_method_4_code 10 = .ok (.invokestatic 32, 3) := by decide +kernel
theorem d_J_tell_13 : decode prog_3_method_4_code 13 = .ok (.ifCond .ne 5, 3) := by decide +kernel
theorem d_J_tell_16 : decode prog_3_method_4_code 16 = .ok (.iconst (-1), 1) := by decide +kernel
theorem d_J_tell_17 : decode prog_3_method_4_code 17 = .ok (.ireturn, 1) := by decide +kernel
theorem d_J_tell_18 : decode prog_3_method_4_code 18 = .ok (.iload_n 2, 1) := by decide +kernel
theorem d_J_tell_19 : decode prog_3_method_4_code 19 = .ok (.tableswitch 57 0 3 #[29, 36, 43, 50], 29) := by decide +kernel
theorem d_J_tell_48 : decode prog_3_method_4_code 48 = .ok (.aload_n 0, 1) := by decide +kernel
theorem d_J_tell_49 : decode prog_3_method_4_code 49 = .ok (.getfield 9, 3) := by decide +kernel
theorem d_J_tell_52 : decode prog_3_method_4_code 52 = .ok (.iload_n 1, 1) := by decide +kernel
theorem d_J_tell_53 : decode prog_3_method_4_code 53 = .ok (.iaload, 1) := by decide +kernel
theorem d_J_tell_54 : decode prog_3_method_4_code 54 = .ok (.ireturn, 1) := by decide +kernel
theorem d_J_tell_55 : decode prog_3_method_4_code 55 = .ok (.aload_n 0, 1) := by decide +kernel
theorem d_J_tell_56 : decode prog_3_method_4_code 56 = .ok (.getfield 15, 3) := by decide +kernel
theorem d_J_tell_59 : decode prog_3_method_4_code 59 = .ok (.iload_n 1, 1) := by decide +kernel
theorem d_J_tell_60 : decode prog_3_method_4_code 60 = .ok (.iaload, 1) := by decide +kernel
theorem d_J_tell_61 : decode prog_3_method_4_code 61 = .ok (.ireturn, 1) := by decide +kernel
theorem d_J_tell_62 : decode prog_3_method_4_code 62 = .ok (.aload_n 0, 1) := by decide +kernel
theorem d_J_tell_63 : decode prog_3_method_4_code 63 = .ok (.getfield 18, 3) := by decide +kernel
theorem d_J_tell_66 : decode prog_3_method_4_code 66 = .ok (.iload_n 1, 1) := by decide +kernel
theorem d_J_tell_67 : decode prog_3_method_4_code 67 = .ok (.iaload, 1) := by decide +kernel
theorem d_J_tell_68 : decode prog_3_method_4_code 68 = .ok (.ireturn, 1) := by decide +kernel
theorem d_J_tell_69 : decode prog_3_method_4_code 69 = .ok (.aload_n 0, 1) := by decide +kernel
theorem d_J_tell_70 : decode prog_3_method_4_code 70 = .ok (.getfield 21, 3) := by decide +kernel
theorem d_J_tell_73 : decode prog_3_method_4_code 73 = .ok (.iload_n 1, 1) := by decide +kernel
theorem d_J_tell_74 : decode prog_3_method_4_code 74 = .ok (.iaload, 1) := by decide +kernel
theorem d_J_tell_75 : decode prog_3_method_4_code 75 = .ok (.ireturn, 1) := by decide +kernel
theorem d_J_tell_76 : decode prog_3_method_4_code 76 = .ok (.iconst (-1), 1) := by decide +kernel
theorem d_J_tell_77 : decode prog_3_method_4_code 77 = .ok (.ireturn, 1) := by decide +kernel
