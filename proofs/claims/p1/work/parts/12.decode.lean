theorem d_R_ask_0 : decode prog_9_method_26_code 0 = .ok (.aload_n 0, 1) := by decide +kernel
theorem d_R_ask_1 : decode prog_9_method_26_code 1 = .ok (.getfield 64, 3) := by decide +kernel
theorem d_R_ask_4 : decode prog_9_method_26_code 4 = .ok (.ifCond .eq 42, 3) := by decide +kernel
theorem d_R_ask_7 : decode prog_9_method_26_code 7 = .ok (.aload_n 0, 1) := by decide +kernel
theorem d_R_ask_8 : decode prog_9_method_26_code 8 = .ok (.getfield 168, 3) := by decide +kernel
theorem d_R_ask_11 : decode prog_9_method_26_code 11 = .ok (.iconst 3, 1) := by decide +kernel
theorem d_R_ask_12 : decode prog_9_method_26_code 12 = .ok (.if_icmp .ne 34, 3) := by decide +kernel
theorem d_R_ask_15 : decode prog_9_method_26_code 15 = .ok (.iload_n 1, 1) := by decide +kernel
theorem d_R_ask_16 : decode prog_9_method_26_code 16 = .ok (.iconst 1, 1) := by decide +kernel
theorem d_R_ask_17 : decode prog_9_method_26_code 17 = .ok (.if_icmp .lt 29, 3) := by decide +kernel
theorem d_R_ask_20 : decode prog_9_method_26_code 20 = .ok (.iload_n 1, 1) := by decide +kernel
theorem d_R_ask_21 : decode prog_9_method_26_code 21 = .ok (.ldc 117, 2) := by decide +kernel
theorem d_R_ask_23 : decode prog_9_method_26_code 23 = .ok (.if_icmp .gt 23, 3) := by decide +kernel
theorem d_R_ask_26 : decode prog_9_method_26_code 26 = .ok (.aload_n 0, 1) := by decide +kernel
theorem d_R_ask_27 : decode prog_9_method_26_code 27 = .ok (.getfield 139, 3) := by decide +kernel
theorem d_R_ask_30 : decode prog_9_method_26_code 30 = .ok (.sipush 290, 3) := by decide +kernel
theorem d_R_ask_33 : decode prog_9_method_26_code 33 = .ok (.if_icmp .gt 13, 3) := by decide +kernel
theorem d_R_ask_36 : decode prog_9_method_26_code 36 = .ok (.aload_n 0, 1) := by decide +kernel
theorem d_R_ask_37 : decode prog_9_method_26_code 37 = .ok (.getfield 60, 3) := by decide +kernel
theorem d_R_ask_40 : decode prog_9_method_26_code 40 = .ok (.sipush 2000, 3) := by decide +kernel
theorem d_R_ask_43 : decode prog_9_method_26_code 43 = .ok (.if_icmp .le 5, 3) := by decide +kernel
theorem d_R_ask_46 : decode prog_9_method_26_code 46 = .ok (.iconst (-1), 1) := by decide +kernel
theorem d_R_ask_47 : decode prog_9_method_26_code 47 = .ok (.ireturn, 1) := by decide +kernel
theorem d_R_ask_48 : decode prog_9_method_26_code 48 = .ok (.aload_n 0, 1) := by decide +kernel
theorem d_R_ask_49 : decode prog_9_method_26_code 49 = .ok (.iload_n 1, 1) := by decide +kernel
theorem d_R_ask_50 : decode prog_9_method_26_code 50 = .ok (.invokevirtual 174, 3) := by decide +kernel
theorem d_R_ask_53 : decode prog_9_method_26_code 53 = .ok (.ifCond .ne 5, 3) := by decide +kernel
theorem d_R_ask_56 : decode prog_9_method_26_code 56 = .ok (.iconst 0, 1) := by decide +kernel
theorem d_R_ask_57 : decode prog_9_method_26_code 57 = .ok (.ireturn, 1) := by decide +kernel
theorem d_R_ask_58 : decode prog_9_method_26_code 58 = .ok (.aload_n 0, 1) := by decide +kernel
theorem d_R_ask_59 : decode prog_9_method_26_code 59 = .ok (.aload_n 0, 1) := by decide +kernel
theorem d_R_ask_60 : decode prog_9_method_26_code 60 = .ok (.getfield 60, 3) := by decide +kernel
theorem d_R_ask_63 : decode prog_9_method_26_code 63 = .ok (.putfield 145, 3) := by decide +kernel
theorem d_R_ask_66 : decode prog_9_method_26_code 66 = .ok (.aload_n 0, 1) := by decide +kernel
theorem d_R_ask_67 : decode prog_9_method_26_code 67 = .ok (.dup, 1) := by decide +kernel
theorem d_R_ask_68 : decode prog_9_method_26_code 68 = .ok (.getfield 60, 3) := by decide +kernel
theorem d_R_ask_71 : decode prog_9_method_26_code 71 = .ok (.iconst 1, 1) := by decide +kernel
theorem d_R_ask_72 : decode prog_9_method_26_code 72 = .ok (.iadd, 1) := by decide +kernel
theorem d_R_ask_73 : decode prog_9_method_26_code 73 = .ok (.putfield 60, 3) := by decide +kernel
theorem d_R_ask_76 : decode prog_9_method_26_code 76 = .ok (.aload_n 0, 1) := by decide +kernel
theorem d_R_ask_77 : decode prog_9_method_26_code 77 = .ok (.aload_n 0, 1) := by decide +kernel
theorem d_R_ask_78 : decode prog_9_method_26_code 78 = .ok (.getfield 71, 3) := by decide +kernel
theorem d_R_ask_81 : decode prog_9_method_26_code 81 = .ok (.putfield 74, 3) := by decide +kernel
theorem d_R_ask_84 : decode prog_9_method_26_code 84 = .ok (.aload_n 0, 1) := by decide +kernel
theorem d_R_ask_85 : decode prog_9_method_26_code 85 = .ok (.iload_n 1, 1) := by decide +kernel
theorem d_R_ask_86 : decode prog_9_method_26_code 86 = .ok (.putfield 148, 3) := by decide +kernel
theorem d_R_ask_89 : decode prog_9_method_26_code 89 = .ok (.aload_n 0, 1) := by decide +kernel
theorem d_R_ask_90 : decode prog_9_method_26_code 90 = .ok (.iconst 1, 1) := by decide +kernel
theorem d_R_ask_91 : decode prog_9_method_26_code 91 = .ok (.invokevirtual 154, 3) := by decide +kernel
theorem d_R_ask_94 : decode prog_9_method_26_code 94 = .ok (.ifCond .eq 17, 3) := by decide +kernel
theorem d_R_ask_97 : decode prog_9_method_26_code 97 = .ok (.aload_n 0, 1) := by decide +kernel
theorem d_R_ask_98 : decode prog_9_method_26_code 98 = .ok (.iconst 2, 1) := by decide +kernel
theorem d_R_ask_99 : decode prog_9_method_26_code 99 = .ok (.iload_n 1, 1) := by decide +kernel
theorem d_R_ask_100 : decode prog_9_method_26_code 100 = .ok (.invokevirtual 164, 3) := by decide +kernel
theorem d_R_ask_103 : decode prog_9_method_26_code 103 = .ok (.ifCond .eq 8, 3) := by decide +kernel
theorem d_R_ask_106 : decode prog_9_method_26_code 106 = .ok (.aload_n 0, 1) := by decide +kernel
theorem d_R_ask_107 : decode prog_9_method_26_code 107 = .ok (.iconst 4, 1) := by decide +kernel
theorem d_R_ask_108 : decode prog_9_method_26_code 108 = .ok (.putfield 168, 3) := by decide +kernel
theorem d_R_ask_111 : decode prog_9_method_26_code 111 = .ok (.iconst 1, 1) := by decide +kernel
theorem d_R_ask_112 : decode prog_9_method_26_code 112 = .ok (.ireturn, 1) := by decide +kernel
theorem d_R_eject_0 : decode prog_9_method_27_code 0 = .ok (.aload_n 0, 1) := by decide +kernel
theorem d_R_eject_1 : decode prog_9_method_27_code 1 = .ok (.getfield 64, 3) := by decide +kernel
theorem d_R_eject_4 : decode prog_9_method_27_code 4 = .ok (.ifCond .eq 19, 3) := by decide +kernel
theorem d_R_eject_7 : decode prog_9_method_27_code 7 = .ok (.aload_n 0, 1) := by decide +kernel
theorem d_R_eject_8 : decode prog_9_method_27_code 8 = .ok (.getfield 168, 3) := by decide +kernel
theorem d_R_eject_11 : decode prog_9_method_27_code 11 = .ok (.iconst 1, 1) := by decide +kernel
theorem d_R_eject_12 : decode prog_9_method_27_code 12 = .ok (.if_icmp .eq 13, 3) := by decide +kernel
theorem d_R_eject_15 : decode prog_9_method_27_code 15 = .ok (.aload_n 0, 1) := by decide +kernel
theorem d_R_eject_16 : decode prog_9_method_27_code 16 = .ok (.getfield 168, 3) := by decide +kernel
theorem d_R_eject_19 : decode prog_9_method_27_code 19 = .ok (.iconst 3, 1) := by decide +kernel
theorem d_R_eject_20 : decode prog_9_method_27_code 20 = .ok (.if_icmp .eq 5, 3) := by decide +kernel
theorem d_R_eject_23 : decode prog_9_method_27_code 23 = .ok (.iconst 0, 1) := by decide +kernel
theorem d_R_eject_24 : decode prog_9_method_27_code 24 = .ok (.ireturn, 1) := by decide +kernel
theorem d_R_eject_25 : decode prog_9_method_27_code 25 = .ok (.aload_n 0, 1) := by decide +kernel
theorem d_R_eject_26 : decode prog_9_method_27_code 26 = .ok (.iconst (-1), 1) := by decide +kernel
theorem d_R_eject_27 : decode prog_9_method_27_code 27 = .ok (.putfield 71, 3) := by decide +kernel
theorem d_R_eject_30 : decode prog_9_method_27_code 30 = .ok (.aload_n 0, 1) := by decide +kernel
theorem d_R_eject_31 : decode prog_9_method_27_code 31 = .ok (.iconst 0, 1) := by decide +kernel
theorem d_R_eject_32 : decode prog_9_method_27_code 32 = .ok (.putfield 168, 3) := by decide +kernel
theorem d_R_eject_35 : decode prog_9_method_27_code 35 = .ok (.iconst 1, 1) := by decide +kernel
theorem d_R_eject_36 : decode prog_9_method_27_code 36 = .ok (.ireturn, 1) := by decide +kernel
theorem d_R_take_0 : decode prog_9_method_28_code 0 = .ok (.aload_n 0, 1) := by decide +kernel
theorem d_R_take_1 : decode prog_9_method_28_code 1 = .ok (.getfield 177, 3) := by decide +kernel
theorem d_R_take_4 : decode prog_9_method_28_code 4 = .ok (.l2i, 1) := by decide +kernel
theorem d_R_take_5 : decode prog_9_method_28_code 5 = .ok (.istore_n 1, 1) := by decide +kernel
theorem d_R_take_6 : decode prog_9_method_28_code 6 = .ok (.aload_n 0, 1) := by decide +kernel
theorem d_R_take_7 : decode prog_9_method_28_code 7 = .ok (.lconst 0, 1) := by decide +kernel
theorem d_R_take_8 : decode prog_9_method_28_code 8 = .ok (.putfield 177, 3) := by decide +kernel
theorem d_R_take_11 : decode prog_9_method_28_code 11 = .ok (.iconst 0, 1) := by decide +kernel
theorem d_R_take_12 : decode prog_9_method_28_code 12 = .ok (.istore_n 2, 1) := by decide +kernel
theorem d_R_take_13 : decode prog_9_method_28_code 13 = .ok (.iload_n 2, 1) := by decide +kernel
theorem d_R_take_14 : decode prog_9_method_28_code 14 = .ok (.iconst 4, 1) := by decide +kernel
theorem d_R_take_15 : decode prog_9_method_28_code 15 = .ok (.if_icmp .ge 16, 3) := by decide +kernel
theorem d_R_take_18 : decode prog_9_method_28_code 18 = .ok (.aload_n 0, 1) := by decide +kernel
theorem d_R_take_19 : decode prog_9_method_28_code 19 = .ok (.getfield 48, 3) := by decide +kernel
theorem d_R_take_22 : decode prog_9_method_28_code 22 = .ok (.iload_n 2, 1) := by decide +kernel
theorem d_R_take_23 : decode prog_9_method_28_code 23 = .ok (.iconst 0, 1) := by decide +kernel
theorem d_R_take_24 : decode prog_9_method_28_code 24 = .ok (.iastore, 1) := by decide +kernel
theorem d_R_take_25 : decode prog_9_method_28_code 25 = .ok (.iinc 2 1, 3) := by decide +kernel
theorem d_R_take_28 : decode prog_9_method_28_code 28 = .ok (.goto (-15), 3) := by decide +kernel
theorem d_R_take_31 : decode prog_9_method_28_code 31 = .ok (.iload_n 1, 1) := by decide +kernel
theorem d_R_take_32 : decode prog_9_method_28_code 32 = .ok (.ireturn, 1) := by decide +kernel
theorem d_R_hasStacked_0 : decode prog_9_method_18_code 0 = .ok (.aload_n 0, 1) := by decide +kernel
theorem d_R_hasStacked_1 : decode prog_9_method_18_code 1 = .ok (.getfield 45, 3) := by decide +kernel
theorem d_R_hasStacked_4 : decode prog_9_method_18_code 4 = .ok (.iconst 0, 1) := by decide +kernel
theorem d_R_hasStacked_5 : decode prog_9_method_18_code 5 = .ok (.iaload, 1) := by decide +kernel
theorem d_R_hasStacked_6 : decode prog_9_method_18_code 6 = .ok (.aload_n 0, 1) := by decide +kernel
theorem d_R_hasStacked_7 : decode prog_9_method_18_code 7 = .ok (.getfield 45, 3) := by decide +kernel
theorem d_R_hasStacked_10 : decode prog_9_method_18_code 10 = .ok (.iconst 1, 1) := by decide +kernel
theorem d_R_hasStacked_11 : decode prog_9_method_18_code 11 = .ok (.iaload, 1) := by decide +kernel
theorem d_R_hasStacked_12 : decode prog_9_method_18_code 12 = .ok (.iadd, 1) := by decide +kernel
theorem d_R_hasStacked_13 : decode prog_9_method_18_code 13 = .ok (.aload_n 0, 1) := by decide +kernel
theorem d_R_hasStacked_14 : decode prog_9_method_18_code 14 = .ok (.getfield 45, 3) := by decide +kernel
theorem d_R_hasStacked_17 : decode prog_9_method_18_code 17 = .ok (.iconst 2, 1) := by decide +kernel
theorem d_R_hasStacked_18 : decode prog_9_method_18_code 18 = .ok (.iaload, 1) := by decide +kernel
theorem d_R_hasStacked_19 : decode prog_9_method_18_code 19 = .ok (.iadd, 1) := by decide +kernel
theorem d_R_hasStacked_20 : decode prog_9_method_18_code 20 = .ok (.aload_n 0, 1) := by decide +kernel
theorem d_R_hasStacked_21 : decode prog_9_method_18_code 21 = .ok (.getfield 45, 3) := by decide +kernel
theorem d_R_hasStacked_24 : decode prog_9_method_18_code 24 = .ok (.iconst 3, 1) := by decide +kernel
theorem d_R_hasStacked_25 : decode prog_9_method_18_code 25 = .ok (.iaload, 1) := by decide +kernel
theorem d_R_hasStacked_26 : decode prog_9_method_18_code 26 = .ok (.iadd, 1) := by decide +kernel
theorem d_R_hasStacked_27 : decode prog_9_method_18_code 27 = .ok (.ifCond .le 7, 3) := by decide +kernel
theorem d_R_hasStacked_30 : decode prog_9_method_18_code 30 = .ok (.iconst 1, 1) := by decide +kernel
theorem d_R_hasStacked_31 : decode prog_9_method_18_code 31 = .ok (.goto 4, 3) := by decide +kernel
theorem d_R_hasStacked_34 : decode prog_9_method_18_code 34 = .ok (.iconst 0, 1) := by decide +kernel
theorem d_R_hasStacked_35 : decode prog_9_method_18_code 35 = .ok (.ireturn, 1) := by decide +kernel
theorem d_R_reverse_0 : decode prog_9_method_19_code 0 = .ok (.iload_n 1, 1) := by decide +kernel
theorem d_R_reverse_1 : decode prog_9_method_19_code 1 = .ok (.ifCond .eq 12, 3) := by decide +kernel
theorem d_R_reverse_4 : decode prog_9_method_19_code 4 = .ok (.aload_n 0, 1) := by decide +kernel
theorem d_R_reverse_5 : decode prog_9_method_19_code 5 = .ok (.iconst 4, 1) := by decide +kernel
theorem d_R_reverse_6 : decode prog_9_method_19_code 6 = .ok (.invokevirtual 154, 3) := by decide +kernel
theorem d_R_reverse_9 : decode prog_9_method_19_code 9 = .ok (.ifCond .ne 4, 3) := by decide +kernel
theorem d_R_reverse_12 : decode prog_9_method_19_code 12 = .ok (.return_, 1) := by decide +kernel
theorem d_R_reverse_13 : decode prog_9_method_19_code 13 = .ok (.aload_n 0, 1) := by decide +kernel
theorem d_R_reverse_14 : decode prog_9_method_19_code 14 = .ok (.invokevirtual 158, 3) := by decide +kernel
theorem d_R_reverse_17 : decode prog_9_method_19_code 17 = .ok (.ifCond .eq 51, 3) := by decide +kernel
theorem d_R_reverse_20 : decode prog_9_method_19_code 20 = .ok (.aload_n 0, 1) := by decide +kernel
theorem d_R_reverse_21 : decode prog_9_method_19_code 21 = .ok (.invokevirtual 142, 3) := by decide +kernel
theorem d_R_reverse_24 : decode prog_9_method_19_code 24 = .ok (.ifCond .ne 4, 3) := by decide +kernel
theorem d_R_reverse_27 : decode prog_9_method_19_code 27 = .ok (.return_, 1) := by decide +kernel
theorem d_R_reverse_28 : decode prog_9_method_19_code 28 = .ok (.iconst 0, 1) := by decide +kernel
theorem d_R_reverse_29 : decode prog_9_method_19_code 29 = .ok (.istore_n 2, 1) := by decide +kernel
theorem d_R_reverse_30 : decode prog_9_method_19_code 30 = .ok (.iload_n 2, 1) := by decide +kernel
theorem d_R_reverse_31 : decode prog_9_method_19_code 31 = .ok (.iconst 4, 1) := by decide +kernel
theorem d_R_reverse_32 : decode prog_9_method_19_code 32 = .ok (.if_icmp .ge 31, 3) := by decide +kernel
theorem d_R_reverse_35 : decode prog_9_method_19_code 35 = .ok (.aload_n 0, 1) := by decide +kernel
theorem d_R_reverse_36 : decode prog_9_method_19_code 36 = .ok (.getfield 51, 3) := by decide +kernel
theorem d_R_reverse_39 : decode prog_9_method_19_code 39 = .ok (.iload_n 2, 1) := by decide +kernel
theorem d_R_reverse_40 : decode prog_9_method_19_code 40 = .ok (.dup2, 1) := by decide +kernel
theorem d_R_reverse_41 : decode prog_9_method_19_code 41 = .ok (.iaload, 1) := by decide +kernel
theorem d_R_reverse_42 : decode prog_9_method_19_code 42 = .ok (.aload_n 0, 1) := by decide +kernel
theorem d_R_reverse_43 : decode prog_9_method_19_code 43 = .ok (.getfield 45, 3) := by decide +kernel
theorem d_R_reverse_46 : decode prog_9_method_19_code 46 = .ok (.iload_n 2, 1) := by decide +kernel
theorem d_R_reverse_47 : decode prog_9_method_19_code 47 = .ok (.iaload, 1) := by decide +kernel
theorem d_R_reverse_48 : decode prog_9_method_19_code 48 = .ok (.iadd, 1) := by decide +kernel
theorem d_R_reverse_49 : decode prog_9_method_19_code 49 = .ok (.iastore, 1) := by decide +kernel
theorem d_R_reverse_50 : decode prog_9_method_19_code 50 = .ok (.aload_n 0, 1) := by decide +kernel
theorem d_R_reverse_51 : decode prog_9_method_19_code 51 = .ok (.getfield 45, 3) := by decide +kernel
theorem d_R_reverse_54 : decode prog_9_method_19_code 54 = .ok (.iload_n 2, 1) := by decide +kernel
theorem d_R_reverse_55 : decode prog_9_method_19_code 55 = .ok (.iconst 0, 1) := by decide +kernel
theorem d_R_reverse_56 : decode prog_9_method_19_code 56 = .ok (.iastore, 1) := by decide +kernel
theorem d_R_reverse_57 : decode prog_9_method_19_code 57 = .ok (.iinc 2 1, 3) := by decide +kernel
theorem d_R_reverse_60 : decode prog_9_method_19_code 60 = .ok (.goto (-30), 3) := by decide +kernel
theorem d_R_reverse_63 : decode prog_9_method_19_code 63 = .ok (.aload_n 0, 1) := by decide +kernel
theorem d_R_reverse_64 : decode prog_9_method_19_code 64 = .ok (.lconst 0, 1) := by decide +kernel
theorem d_R_reverse_65 : decode prog_9_method_19_code 65 = .ok (.putfield 161, 3) := by decide +kernel
theorem d_R_reverse_68 : decode prog_9_method_19_code 68 = .ok (.aload_n 0, 1) := by decide +kernel
theorem d_R_reverse_69 : decode prog_9_method_19_code 69 = .ok (.iconst 3, 1) := by decide +kernel
theorem d_R_reverse_70 : decode prog_9_method_19_code 70 = .ok (.aload_n 0, 1) := by decide +kernel
theorem d_R_reverse_71 : decode prog_9_method_19_code 71 = .ok (.getfield 148, 3) := by decide +kernel
theorem d_R_reverse_74 : decode prog_9_method_19_code 74 = .ok (.invokevirtual 164, 3) := by decide +kernel
theorem d_R_reverse_77 : decode prog_9_method_19_code 77 = .ok (.ifCond .eq 13, 3) := by decide +kernel
theorem d_R_reverse_80 : decode prog_9_method_19_code 80 = .ok (.aload_n 0, 1) := by decide +kernel
theorem d_R_reverse_81 : decode prog_9_method_19_code 81 = .ok (.iconst (-1), 1) := by decide +kernel
theorem d_R_reverse_82 : decode prog_9_method_19_code 82 = .ok (.putfield 71, 3) := by decide +kernel
theorem d_R_reverse_85 : decode prog_9_method_19_code 85 = .ok (.aload_n 0, 1) := by decide +kernel
theorem d_R_reverse_86 : decode prog_9_method_19_code 86 = .ok (.iconst 5, 1) := by decide +kernel
theorem d_R_reverse_87 : decode prog_9_method_19_code 87 = .ok (.putfield 168, 3) := by decide +kernel
theorem d_R_reverse_90 : decode prog_9_method_19_code 90 = .ok (.return_, 1) := by decide +kernel
theorem d_R_timeout_0 : decode prog_9_method_29_code 0 = .ok (.aload_n 0, 1) := by decide +kernel
theorem d_R_timeout_1 : decode prog_9_method_29_code 1 = .ok (.getfield 64, 3) := by decide +kernel
theorem d_R_timeout_4 : decode prog_9_method_29_code 4 = .ok (.ifCond .eq 27, 3) := by decide +kernel
theorem d_R_timeout_7 : decode prog_9_method_29_code 7 = .ok (.aload_n 0, 1) := by decide +kernel
theorem d_R_timeout_8 : decode prog_9_method_29_code 8 = .ok (.getfield 168, 3) := by decide +kernel
theorem d_R_timeout_11 : decode prog_9_method_29_code 11 = .ok (.iconst 2, 1) := by decide +kernel
theorem d_R_timeout_12 : decode prog_9_method_29_code 12 = .ok (.if_icmp .eq 21, 3) := by decide +kernel
theorem d_R_timeout_15 : decode prog_9_method_29_code 15 = .ok (.aload_n 0, 1) := by decide +kernel
theorem d_R_timeout_16 : decode prog_9_method_29_code 16 = .ok (.getfield 168, 3) := by decide +kernel
theorem d_R_timeout_19 : decode prog_9_method_29_code 19 = .ok (.iconst 4, 1) := by decide +kernel
theorem d_R_timeout_20 : decode prog_9_method_29_code 20 = .ok (.if_icmp .eq 13, 3) := by decide +kernel
theorem d_R_timeout_23 : decode prog_9_method_29_code 23 = .ok (.aload_n 0, 1) := by decide +kernel
theorem d_R_timeout_24 : decode prog_9_method_29_code 24 = .ok (.getfield 168, 3) := by decide +kernel
theorem d_R_timeout_27 : decode prog_9_method_29_code 27 = .ok (.iconst 5, 1) := by decide +kernel
theorem d_R_timeout_28 : decode prog_9_method_29_code 28 = .ok (.if_icmp .eq 5, 3) := by decide +kernel
theorem d_R_timeout_31 : decode prog_9_method_29_code 31 = .ok (.iconst 0, 1) := by decide +kernel
theorem d_R_timeout_32 : decode prog_9_method_29_code 32 = .ok (.ireturn, 1) := by decide +kernel
theorem d_R_timeout_33 : decode prog_9_method_29_code 33 = .ok (.aload_n 0, 1) := by decide +kernel
theorem d_R_timeout_34 : decode prog_9_method_29_code 34 = .ok (.getfield 168, 3) := by decide +kernel
theorem d_R_timeout_37 : decode prog_9_method_29_code 37 = .ok (.iconst 2, 1) := by decide +kernel
theorem d_R_timeout_38 : decode prog_9_method_29_code 38 = .ok (.if_icmp .ne 16, 3) := by decide +kernel
theorem d_R_timeout_41 : decode prog_9_method_29_code 41 = .ok (.aload_n 0, 1) := by decide +kernel
theorem d_R_timeout_42 : decode prog_9_method_29_code 42 = .ok (.iconst (-1), 1) := by decide +kernel
theorem d_R_timeout_43 : decode prog_9_method_29_code 43 = .ok (.putfield 71, 3) := by decide +kernel
theorem d_R_timeout_46 : decode prog_9_method_29_code 46 = .ok (.aload_n 0, 1) := by decide +kernel
theorem d_R_timeout_47 : decode prog_9_method_29_code 47 = .ok (.iconst 0, 1) := by decide +kernel
theorem d_R_timeout_48 : decode prog_9_method_29_code 48 = .ok (.putfield 168, 3) := by decide +kernel
theorem d_R_timeout_51 : decode prog_9_method_29_code 51 = .ok (.goto 29, 3) := by decide +kernel
theorem d_R_timeout_54 : decode prog_9_method_29_code 54 = .ok (.aload_n 0, 1) := by decide +kernel
theorem d_R_timeout_55 : decode prog_9_method_29_code 55 = .ok (.getfield 168, 3) := by decide +kernel
theorem d_R_timeout_58 : decode prog_9_method_29_code 58 = .ok (.iconst 4, 1) := by decide +kernel
theorem d_R_timeout_59 : decode prog_9_method_29_code 59 = .ok (.if_icmp .ne 11, 3) := by decide +kernel
theorem d_R_timeout_62 : decode prog_9_method_29_code 62 = .ok (.aload_n 0, 1) := by decide +kernel
theorem d_R_timeout_63 : decode prog_9_method_29_code 63 = .ok (.iconst 1, 1) := by decide +kernel
theorem d_R_timeout_64 : decode prog_9_method_29_code 64 = .ok (.invokevirtual 183, 3) := by decide +kernel
theorem d_R_timeout_67 : decode prog_9_method_29_code 67 = .ok (.goto 13, 3) := by decide +kernel
theorem d_R_timeout_70 : decode prog_9_method_29_code 70 = .ok (.aload_n 0, 1) := by decide +kernel
theorem d_R_timeout_71 : decode prog_9_method_29_code 71 = .ok (.iconst 3, 1) := by decide +kernel
theorem d_R_timeout_72 : decode prog_9_method_29_code 72 = .ok (.aload_n 0, 1) := by decide +kernel
theorem d_R_timeout_73 : decode prog_9_method_29_code 73 = .ok (.getfield 148, 3) := by decide +kernel
theorem d_R_timeout_76 : decode prog_9_method_29_code 76 = .ok (.invokevirtual 164, 3) := by decide +kernel
theorem d_R_timeout_79 : decode prog_9_method_29_code 79 = .ok (.pop, 1) := by decide +kernel
theorem d_R_timeout_80 : decode prog_9_method_29_code 80 = .ok (.iconst 1, 1) := by decide +kernel
theorem d_R_timeout_81 : decode prog_9_method_29_code 81 = .ok (.ireturn, 1) := by decide +kernel
theorem d_R_isLetter_0 : decode prog_9_method_30_code 0 = .ok (.iload_n 1, 1) := by decide +kernel
theorem d_R_isLetter_1 : decode prog_9_method_30_code 1 = .ok (.ifCond .lt 15, 3) := by decide +kernel
theorem d_R_isLetter_4 : decode prog_9_method_30_code 4 = .ok (.iload_n 1, 1) := by decide +kernel
theorem d_R_isLetter_5 : decode prog_9_method_30_code 5 = .ok (.aload_n 0, 1) := by decide +kernel
theorem d_R_isLetter_6 : decode prog_9_method_30_code 6 = .ok (.getfield 89, 3) := by decide +kernel
theorem d_R_isLetter_9 : decode prog_9_method_30_code 9 = .ok (.if_icmp .ge 7, 3) := by decide +kernel
theorem d_R_isLetter_12 : decode prog_9_method_30_code 12 = .ok (.iconst 1, 1) := by decide +kernel
theorem d_R_isLetter_13 : decode prog_9_method_30_code 13 = .ok (.goto 4, 3) := by decide +kernel
theorem d_R_isLetter_16 : decode prog_9_method_30_code 16 = .ok (.iconst 0, 1) := by decide +kernel
theorem d_R_isLetter_17 : decode prog_9_method_30_code 17 = .ok (.ireturn, 1) := by decide +kernel
theorem d_R_numberAt_0 : decode prog_9_method_8_code 0 = .ok (.aload_n 0, 1) := by decide +kernel
theorem d_R_numberAt_1 : decode prog_9_method_8_code 1 = .ok (.getfield 80, 3) := by decide +kernel
theorem d_R_numberAt_4 : decode prog_9_method_8_code 4 = .ok (.iload_n 1, 1) := by decide +kernel
theorem d_R_numberAt_5 : decode prog_9_method_8_code 5 = .ok (.iaload, 1) := by decide +kernel
theorem d_R_numberAt_6 : decode prog_9_method_8_code 6 = .ok (.bipush 24, 2) := by decide +kernel
theorem d_R_numberAt_8 : decode prog_9_method_8_code 8 = .ok (.ishl, 1) := by decide +kernel
theorem d_R_numberAt_9 : decode prog_9_method_8_code 9 = .ok (.aload_n 0, 1) := by decide +kernel
theorem d_R_numberAt_10 : decode prog_9_method_8_code 10 = .ok (.getfield 80, 3) := by decide +kernel
theorem d_R_numberAt_13 : decode prog_9_method_8_code 13 = .ok (.iload_n 1, 1) := by decide +kernel
theorem d_R_numberAt_14 : decode prog_9_method_8_code 14 = .ok (.iconst 1, 1) := by decide +kernel
theorem d_R_numberAt_15 : decode prog_9_method_8_code 15 = .ok (.iadd, 1) := by decide +kernel
theorem d_R_numberAt_16 : decode prog_9_method_8_code 16 = .ok (.iaload, 1) := by decide +kernel
theorem d_R_numberAt_17 : decode prog_9_method_8_code 17 = .ok (.bipush 16, 2) := by decide +kernel
theorem d_R_numberAt_19 : decode prog_9_method_8_code 19 = .ok (.ishl, 1) := by decide +kernel
theorem d_R_numberAt_20 : decode prog_9_method_8_code 20 = .ok (.ior, 1) := by decide +kernel
theorem d_R_numberAt_21 : decode prog_9_method_8_code 21 = .ok (.aload_n 0, 1) := by decide +kernel
theorem d_R_numberAt_22 : decode prog_9_method_8_code 22 = .ok (.getfield 80, 3) := by decide +kernel
theorem d_R_numberAt_25 : decode prog_9_method_8_code 25 = .ok (.iload_n 1, 1) := by decide +kernel
theorem d_R_numberAt_26 : decode prog_9_method_8_code 26 = .ok (.iconst 2, 1) := by decide +kernel
theorem d_R_numberAt_27 : decode prog_9_method_8_code 27 = .ok (.iadd, 1) := by decide +kernel
theorem d_R_numberAt_28 : decode prog_9_method_8_code 28 = .ok (.iaload, 1) := by decide +kernel
theorem d_R_numberAt_29 : decode prog_9_method_8_code 29 = .ok (.bipush 8, 2) := by decide +kernel
theorem d_R_numberAt_31 : decode prog_9_method_8_code 31 = .ok (.ishl, 1) := by decide +kernel
theorem d_R_numberAt_32 : decode prog_9_method_8_code 32 = .ok (.ior, 1) := by decide +kernel
theorem d_R_numberAt_33 : decode prog_9_method_8_code 33 = .ok (.aload_n 0, 1) := by decide +kernel
theorem d_R_numberAt_34 : decode prog_9_method_8_code 34 = .ok (.getfield 80, 3) := by decide +kernel
theorem d_R_numberAt_37 : decode prog_9_method_8_code 37 = .ok (.iload_n 1, 1) := by decide +kernel
theorem d_R_numberAt_38 : decode prog_9_method_8_code 38 = .ok (.iconst 3, 1) := by decide +kernel
theorem d_R_numberAt_39 : decode prog_9_method_8_code 39 = .ok (.iadd, 1) := by decide +kernel
theorem d_R_numberAt_40 : decode prog_9_method_8_code 40 = .ok (.iaload, 1) := by decide +kernel
theorem d_R_numberAt_41 : decode prog_9_method_8_code 41 = .ok (.ior, 1) := by decide +kernel
theorem d_R_numberAt_42 : decode prog_9_method_8_code 42 = .ok (.ireturn, 1) := by decide +kernel
theorem d_R_giveOut_0 : decode prog_9_method_21_code 0 = .ok (.aload_n 0, 1) := by decide +kernel
theorem d_R_giveOut_1 : decode prog_9_method_21_code 1 = .ok (.iconst 2, 1) := by decide +kernel
theorem d_R_giveOut_2 : decode prog_9_method_21_code 2 = .ok (.invokevirtual 154, 3) := by decide +kernel
theorem d_R_giveOut_5 : decode prog_9_method_21_code 5 = .ok (.ifCond .ne 4, 3) := by decide +kernel
theorem d_R_giveOut_8 : decode prog_9_method_21_code 8 = .ok (.return_, 1) := by decide +kernel
theorem d_R_giveOut_9 : decode prog_9_method_21_code 9 = .ok (.aload_n 0, 1) := by decide +kernel
theorem d_R_giveOut_10 : decode prog_9_method_21_code 10 = .ok (.aload_n 0, 1) := by decide +kernel
theorem d_R_giveOut_11 : decode prog_9_method_21_code 11 = .ok (.getfield 148, 3) := by decide +kernel
theorem d_R_giveOut_14 : decode prog_9_method_21_code 14 = .ok (.invokevirtual 174, 3) := by decide +kernel
theorem d_R_giveOut_17 : decode prog_9_method_21_code 17 = .ok (.pop, 1) := by decide +kernel
theorem d_R_giveOut_18 : decode prog_9_method_21_code 18 = .ok (.iconst 0, 1) := by decide +kernel
theorem d_R_giveOut_19 : decode prog_9_method_21_code 19 = .ok (.istore_n 1, 1) := by decide +kernel
theorem d_R_giveOut_20 : decode prog_9_method_21_code 20 = .ok (.iload_n 1, 1) := by decide +kernel
theorem d_R_giveOut_21 : decode prog_9_method_21_code 21 = .ok (.iconst 4, 1) := by decide +kernel
theorem d_R_giveOut_22 : decode prog_9_method_21_code 22 = .ok (.if_icmp .ge 70, 3) := by decide +kernel
theorem d_R_giveOut_25 : decode prog_9_method_21_code 25 = .ok (.aload_n 0, 1) := by decide +kernel
theorem d_R_giveOut_26 : decode prog_9_method_21_code 26 = .ok (.getfield 83, 3) := by decide +kernel
theorem d_R_giveOut_29 : decode prog_9_method_21_code 29 = .ok (.iload_n 1, 1) := by decide +kernel
theorem d_R_giveOut_30 : decode prog_9_method_21_code 30 = .ok (.iaload, 1) := by decide +kernel
theorem d_R_giveOut_31 : decode prog_9_method_21_code 31 = .ok (.istore_n 2, 1) := by decide +kernel
theorem d_R_giveOut_32 : decode prog_9_method_21_code 32 = .ok (.iload_n 2, 1) := by decide +kernel
theorem d_R_giveOut_33 : decode prog_9_method_21_code 33 = .ok (.ifCond .le 53, 3) := by decide +kernel
theorem d_R_giveOut_36 : decode prog_9_method_21_code 36 = .ok (.aload_n 0, 1) := by decide +kernel
theorem d_R_giveOut_37 : decode prog_9_method_21_code 37 = .ok (.invokevirtual 142, 3) := by decide +kernel
theorem d_R_giveOut_40 : decode prog_9_method_21_code 40 = .ok (.ifCond .ne 4, 3) := by decide +kernel
theorem d_R_giveOut_43 : decode prog_9_method_21_code 43 = .ok (.return_, 1) := by decide +kernel
theorem d_R_giveOut_44 : decode prog_9_method_21_code 44 = .ok (.aload_n 0, 1) := by decide +kernel
theorem d_R_giveOut_45 : decode prog_9_method_21_code 45 = .ok (.getfield 42, 3) := by decide +kernel
theorem d_R_giveOut_48 : decode prog_9_method_21_code 48 = .ok (.iload_n 1, 1) := by decide +kernel
theorem d_R_giveOut_49 : decode prog_9_method_21_code 49 = .ok (.dup2, 1) := by decide +kernel
theorem d_R_giveOut_50 : decode prog_9_method_21_code 50 = .ok (.iaload, 1) := by decide +kernel
theorem d_R_giveOut_51 : decode prog_9_method_21_code 51 = .ok (.iconst 1, 1) := by decide +kernel
theorem d_R_giveOut_52 : decode prog_9_method_21_code 52 = .ok (.isub, 1) := by decide +kernel
theorem d_R_giveOut_53 : decode prog_9_method_21_code 53 = .ok (.iastore, 1) := by decide +kernel
theorem d_R_giveOut_54 : decode prog_9_method_21_code 54 = .ok (.aload_n 0, 1) := by decide +kernel
theorem d_R_giveOut_55 : decode prog_9_method_21_code 55 = .ok (.getfield 45, 3) := by decide +kernel
theorem d_R_giveOut_58 : decode prog_9_method_21_code 58 = .ok (.iload_n 1, 1) := by decide +kernel
theorem d_R_giveOut_59 : decode prog_9_method_21_code 59 = .ok (.dup2, 1) := by decide +kernel
theorem d_R_giveOut_60 : decode prog_9_method_21_code 60 = .ok (.iaload, 1) := by decide +kernel
theorem d_R_giveOut_61 : decode prog_9_method_21_code 61 = .ok (.iconst 1, 1) := by decide +kernel
theorem d_R_giveOut_62 : decode prog_9_method_21_code 62 = .ok (.iadd, 1) := by decide +kernel
theorem d_R_giveOut_63 : decode prog_9_method_21_code 63 = .ok (.iastore, 1) := by decide +kernel
theorem d_R_giveOut_64 : decode prog_9_method_21_code 64 = .ok (.aload_n 0, 1) := by decide +kernel
theorem d_R_giveOut_65 : decode prog_9_method_21_code 65 = .ok (.dup, 1) := by decide +kernel
theorem d_R_giveOut_66 : decode prog_9_method_21_code 66 = .ok (.getfield 161, 3) := by decide +kernel
theorem d_R_giveOut_69 : decode prog_9_method_21_code 69 = .ok (.aload_n 0, 1) := by decide +kernel
theorem d_R_giveOut_70 : decode prog_9_method_21_code 70 = .ok (.getfield 39, 3) := by decide +kernel
theorem d_R_giveOut_73 : decode prog_9_method_21_code 73 = .ok (.iload_n 1, 1) := by decide +kernel
theorem d_R_giveOut_74 : decode prog_9_method_21_code 74 = .ok (.iaload, 1) := by decide +kernel
theorem d_R_giveOut_75 : decode prog_9_method_21_code 75 = .ok (.i2l, 1) := by decide +kernel
theorem d_R_giveOut_76 : decode prog_9_method_21_code 76 = .ok (.ladd, 1) := by decide +kernel
theorem d_R_giveOut_77 : decode prog_9_method_21_code 77 = .ok (.putfield 161, 3) := by decide +kernel
theorem d_R_giveOut_80 : decode prog_9_method_21_code 80 = .ok (.iinc 2 (-1), 3) := by decide +kernel
theorem d_R_giveOut_83 : decode prog_9_method_21_code 83 = .ok (.goto (-51), 3) := by decide +kernel
theorem d_R_giveOut_86 : decode prog_9_method_21_code 86 = .ok (.iinc 1 1, 3) := by decide +kernel
theorem d_R_giveOut_89 : decode prog_9_method_21_code 89 = .ok (.goto (-69), 3) := by decide +kernel
theorem d_R_giveOut_92 : decode prog_9_method_21_code 92 = .ok (.aload_n 0, 1) := by decide +kernel
theorem d_R_giveOut_93 : decode prog_9_method_21_code 93 = .ok (.invokevirtual 142, 3) := by decide +kernel
theorem d_R_giveOut_96 : decode prog_9_method_21_code 96 = .ok (.ifCond .ne 4, 3) := by decide +kernel
theorem d_R_giveOut_99 : decode prog_9_method_21_code 99 = .ok (.return_, 1) := by decide +kernel
theorem d_R_giveOut_100 : decode prog_9_method_21_code 100 = .ok (.iconst 0, 1) := by decide +kernel
theorem d_R_giveOut_101 : decode prog_9_method_21_code 101 = .ok (.istore_n 1, 1) := by decide +kernel
theorem d_R_giveOut_102 : decode prog_9_method_21_code 102 = .ok (.iload_n 1, 1) := by decide +kernel
theorem d_R_giveOut_103 : decode prog_9_method_21_code 103 = .ok (.iconst 4, 1) := by decide +kernel
theorem d_R_giveOut_104 : decode prog_9_method_21_code 104 = .ok (.if_icmp .ge 31, 3) := by decide +kernel
theorem d_R_giveOut_107 : decode prog_9_method_21_code 107 = .ok (.aload_n 0, 1) := by decide +kernel
theorem d_R_giveOut_108 : decode prog_9_method_21_code 108 = .ok (.getfield 48, 3) := by decide +kernel
theorem d_R_giveOut_111 : decode prog_9_method_21_code 111 = .ok (.iload_n 1, 1) := by decide +kernel
theorem d_R_giveOut_112 : decode prog_9_method_21_code 112 = .ok (.dup2, 1) := by decide +kernel
theorem d_R_giveOut_113 : decode prog_9_method_21_code 113 = .ok (.iaload, 1) := by decide +kernel
theorem d_R_giveOut_114 : decode prog_9_method_21_code 114 = .ok (.aload_n 0, 1) := by decide +kernel
theorem d_R_giveOut_115 : decode prog_9_method_21_code 115 = .ok (.getfield 45, 3) := by decide +kernel
theorem d_R_giveOut_118 : decode prog_9_method_21_code 118 = .ok (.iload_n 1, 1) := by decide +kernel
theorem d_R_giveOut_119 : decode prog_9_method_21_code 119 = .ok (.iaload, 1) := by decide +kernel
theorem d_R_giveOut_120 : decode prog_9_method_21_code 120 = .ok (.iadd, 1) := by decide +kernel
theorem d_R_giveOut_121 : decode prog_9_method_21_code 121 = .ok (.iastore, 1) := by decide +kernel
theorem d_R_giveOut_122 : decode prog_9_method_21_code 122 = .ok (.aload_n 0, 1) := by decide +kernel
theorem d_R_giveOut_123 : decode prog_9_method_21_code 123 = .ok (.getfield 45, 3) := by decide +kernel
theorem d_R_giveOut_126 : decode prog_9_method_21_code 126 = .ok (.iload_n 1, 1) := by decide +kernel
theorem d_R_giveOut_127 : decode prog_9_method_21_code 127 = .ok (.iconst 0, 1) := by decide +kernel
theorem d_R_giveOut_128 : decode prog_9_method_21_code 128 = .ok (.iastore, 1) := by decide +kernel
theorem d_R_giveOut_129 : decode prog_9_method_21_code 129 = .ok (.iinc 1 1, 3) := by decide +kernel
theorem d_R_giveOut_132 : decode prog_9_method_21_code 132 = .ok (.goto (-30), 3) := by decide +kernel
theorem d_R_giveOut_135 : decode prog_9_method_21_code 135 = .ok (.aload_n 0, 1) := by decide +kernel
theorem d_R_giveOut_136 : decode prog_9_method_21_code 136 = .ok (.dup, 1) := by decide +kernel
theorem d_R_giveOut_137 : decode prog_9_method_21_code 137 = .ok (.getfield 177, 3) := by decide +kernel
theorem d_R_giveOut_140 : decode prog_9_method_21_code 140 = .ok (.aload_n 0, 1) := by decide +kernel
theorem d_R_giveOut_141 : decode prog_9_method_21_code 141 = .ok (.getfield 161, 3) := by decide +kernel
theorem d_R_giveOut_144 : decode prog_9_method_21_code 144 = .ok (.ladd, 1) := by decide +kernel
theorem d_R_giveOut_145 : decode prog_9_method_21_code 145 = .ok (.putfield 177, 3) := by decide +kernel
theorem d_R_giveOut_148 : decode prog_9_method_21_code 148 = .ok (.aload_n 0, 1) := by decide +kernel
theorem d_R_giveOut_149 : decode prog_9_method_21_code 149 = .ok (.dup, 1) := by decide +kernel
theorem d_R_giveOut_150 : decode prog_9_method_21_code 150 = .ok (.getfield 180, 3) := by decide +kernel
theorem d_R_giveOut_153 : decode prog_9_method_21_code 153 = .ok (.aload_n 0, 1) := by decide +kernel
theorem d_R_giveOut_154 : decode prog_9_method_21_code 154 = .ok (.getfield 161, 3) := by decide +kernel
theorem d_R_giveOut_157 : decode prog_9_method_21_code 157 = .ok (.ladd, 1) := by decide +kernel
theorem d_R_giveOut_158 : decode prog_9_method_21_code 158 = .ok (.putfield 180, 3) := by decide +kernel
theorem d_R_giveOut_161 : decode prog_9_method_21_code 161 = .ok (.aload_n 0, 1) := by decide +kernel
theorem d_R_giveOut_162 : decode prog_9_method_21_code 162 = .ok (.lconst 0, 1) := by decide +kernel
theorem d_R_giveOut_163 : decode prog_9_method_21_code 163 = .ok (.putfield 161, 3) := by decide +kernel
theorem d_R_giveOut_166 : decode prog_9_method_21_code 166 = .ok (.aload_n 0, 1) := by decide +kernel
theorem d_R_giveOut_167 : decode prog_9_method_21_code 167 = .ok (.dup, 1) := by decide +kernel
theorem d_R_giveOut_168 : decode prog_9_method_21_code 168 = .ok (.getfield 151, 3) := by decide +kernel
theorem d_R_giveOut_171 : decode prog_9_method_21_code 171 = .ok (.iconst 1, 1) := by decide +kernel
theorem d_R_giveOut_172 : decode prog_9_method_21_code 172 = .ok (.iadd, 1) := by decide +kernel
theorem d_R_giveOut_173 : decode prog_9_method_21_code 173 = .ok (.putfield 151, 3) := by decide +kernel
theorem d_R_giveOut_176 : decode prog_9_method_21_code 176 = .ok (.aload_n 0, 1) := by decide +kernel
theorem d_R_giveOut_177 : decode prog_9_method_21_code 177 = .ok (.iconst 3, 1) := by decide +kernel
theorem d_R_giveOut_178 : decode prog_9_method_21_code 178 = .ok (.invokevirtual 154, 3) := by decide +kernel
theorem d_R_giveOut_181 : decode prog_9_method_21_code 181 = .ok (.ifCond .eq 8, 3) := by decide +kernel
theorem d_R_giveOut_184 : decode prog_9_method_21_code 184 = .ok (.aload_n 0, 1) := by decide +kernel
theorem d_R_giveOut_185 : decode prog_9_method_21_code 185 = .ok (.iconst 3, 1) := by decide +kernel
theorem d_R_giveOut_186 : decode prog_9_method_21_code 186 = .ok (.putfield 168, 3) := by decide +kernel
theorem d_R_giveOut_189 : decode prog_9_method_21_code 189 = .ok (.return_, 1) := by decide +kernel
theorem d_R_machineTakes_0 : decode prog_9_method_20_code 0 = .ok (.aload_n 0, 1) := by decide +kernel
theorem d_R_machineTakes_1 : decode prog_9_method_20_code 1 = .ok (.iconst 1, 1) := by decide +kernel
theorem d_R_machineTakes_2 : decode prog_9_method_20_code 2 = .ok (.invokevirtual 113, 3) := by decide +kernel
theorem d_R_machineTakes_5 : decode prog_9_method_20_code 5 = .ok (.aload_n 0, 1) := by decide +kernel
theorem d_R_machineTakes_6 : decode prog_9_method_20_code 6 = .ok (.getfield 145, 3) := by decide +kernel
theorem d_R_machineTakes_9 : decode prog_9_method_20_code 9 = .ok (.if_icmp .ne 67, 3) := by decide +kernel
theorem d_R_machineTakes_12 : decode prog_9_method_20_code 12 = .ok (.aload_n 0, 1) := by decide +kernel
theorem d_R_machineTakes_13 : decode prog_9_method_20_code 13 = .ok (.getfield 168, 3) := by decide +kernel
theorem d_R_machineTakes_16 : decode prog_9_method_20_code 16 = .ok (.iconst 2, 1) := by decide +kernel
theorem d_R_machineTakes_17 : decode prog_9_method_20_code 17 = .ok (.if_icmp .ne 15, 3) := by decide +kernel
theorem d_R_machineTakes_20 : decode prog_9_method_20_code 20 = .ok (.aload_n 0, 1) := by decide +kernel
theorem d_R_machineTakes_21 : decode prog_9_method_20_code 21 = .ok (.getfield 80, 3) := by decide +kernel
theorem d_R_machineTakes_24 : decode prog_9_method_20_code 24 = .ok (.iconst 0, 1) := by decide +kernel
theorem d_R_machineTakes_25 : decode prog_9_method_20_code 25 = .ok (.iaload, 1) := by decide +kernel
theorem d_R_machineTakes_26 : decode prog_9_method_20_code 26 = .ok (.sipush 129, 3) := by decide +kernel
theorem d_R_machineTakes_29 : decode prog_9_method_20_code 29 = .ok (.if_icmp .eq 43, 3) := by decide +kernel
theorem d_R_machineTakes_32 : decode prog_9_method_20_code 32 = .ok (.aload_n 0, 1) := by decide +kernel
theorem d_R_machineTakes_33 : decode prog_9_method_20_code 33 = .ok (.getfield 168, 3) := by decide +kernel
theorem d_R_machineTakes_36 : decode prog_9_method_20_code 36 = .ok (.iconst 4, 1) := by decide +kernel
theorem d_R_machineTakes_37 : decode prog_9_method_20_code 37 = .ok (.if_icmp .ne 15, 3) := by decide +kernel
theorem d_R_machineTakes_40 : decode prog_9_method_20_code 40 = .ok (.aload_n 0, 1) := by decide +kernel
theorem d_R_machineTakes_41 : decode prog_9_method_20_code 41 = .ok (.getfield 80, 3) := by decide +kernel
theorem d_R_machineTakes_44 : decode prog_9_method_20_code 44 = .ok (.iconst 0, 1) := by decide +kernel
theorem d_R_machineTakes_45 : decode prog_9_method_20_code 45 = .ok (.iaload, 1) := by decide +kernel
theorem d_R_machineTakes_46 : decode prog_9_method_20_code 46 = .ok (.sipush 130, 3) := by decide +kernel
theorem d_R_machineTakes_49 : decode prog_9_method_20_code 49 = .ok (.if_icmp .eq 23, 3) := by decide +kernel
theorem d_R_machineTakes_52 : decode prog_9_method_20_code 52 = .ok (.aload_n 0, 1) := by decide +kernel
theorem d_R_machineTakes_53 : decode prog_9_method_20_code 53 = .ok (.getfield 168, 3) := by decide +kernel
theorem d_R_machineTakes_56 : decode prog_9_method_20_code 56 = .ok (.iconst 5, 1) := by decide +kernel
theorem d_R_machineTakes_57 : decode prog_9_method_20_code 57 = .ok (.if_icmp .ne 19, 3) := by decide +kernel
theorem d_R_machineTakes_60 : decode prog_9_method_20_code 60 = .ok (.aload_n 0, 1) := by decide +kernel
theorem d_R_machineTakes_61 : decode prog_9_method_20_code 61 = .ok (.getfield 80, 3) := by decide +kernel
theorem d_R_machineTakes_64 : decode prog_9_method_20_code 64 = .ok (.iconst 0, 1) := by decide +kernel
theorem d_R_machineTakes_65 : decode prog_9_method_20_code 65 = .ok (.iaload, 1) := by decide +kernel
theorem d_R_machineTakes_66 : decode prog_9_method_20_code 66 = .ok (.sipush 131, 3) := by decide +kernel
theorem d_R_machineTakes_69 : decode prog_9_method_20_code 69 = .ok (.if_icmp .ne 7, 3) := by decide +kernel
theorem d_R_machineTakes_72 : decode prog_9_method_20_code 72 = .ok (.iconst 1, 1) := by decide +kernel
theorem d_R_machineTakes_73 : decode prog_9_method_20_code 73 = .ok (.goto 4, 3) := by decide +kernel
theorem d_R_machineTakes_76 : decode prog_9_method_20_code 76 = .ok (.iconst 0, 1) := by decide +kernel
theorem d_R_machineTakes_77 : decode prog_9_method_20_code 77 = .ok (.istore_n 1, 1) := by decide +kernel
theorem d_R_machineTakes_78 : decode prog_9_method_20_code 78 = .ok (.iload_n 1, 1) := by decide +kernel
theorem d_R_machineTakes_79 : decode prog_9_method_20_code 79 = .ok (.ifCond .ne 5, 3) := by decide +kernel
theorem d_R_machineTakes_82 : decode prog_9_method_20_code 82 = .ok (.iconst 0, 1) := by decide +kernel
theorem d_R_machineTakes_83 : decode prog_9_method_20_code 83 = .ok (.ireturn, 1) := by decide +kernel
theorem d_R_machineTakes_84 : decode prog_9_method_20_code 84 = .ok (.aload_n 0, 1) := by decide +kernel
theorem d_R_machineTakes_85 : decode prog_9_method_20_code 85 = .ok (.getfield 80, 3) := by decide +kernel
theorem d_R_machineTakes_88 : decode prog_9_method_20_code 88 = .ok (.bipush 10, 2) := by decide +kernel
theorem d_R_machineTakes_90 : decode prog_9_method_20_code 90 = .ok (.iaload, 1) := by decide +kernel
theorem d_R_machineTakes_91 : decode prog_9_method_20_code 91 = .ok (.istore_n 2, 1) := by decide +kernel
theorem d_R_machineTakes_92 : decode prog_9_method_20_code 92 = .ok (.aload_n 0, 1) := by decide +kernel
theorem d_R_machineTakes_93 : decode prog_9_method_20_code 93 = .ok (.getfield 168, 3) := by decide +kernel
theorem d_R_machineTakes_96 : decode prog_9_method_20_code 96 = .ok (.iconst 2, 1) := by decide +kernel
theorem d_R_machineTakes_97 : decode prog_9_method_20_code 97 = .ok (.if_icmp .ne 48, 3) := by decide +kernel
theorem d_R_machineTakes_100 : decode prog_9_method_20_code 100 = .ok (.iload_n 2, 1) := by decide +kernel
theorem d_R_machineTakes_101 : decode prog_9_method_20_code 101 = .ok (.iconst 2, 1) := by decide +kernel
theorem d_R_machineTakes_102 : decode prog_9_method_20_code 102 = .ok (.if_icmp .ne 18, 3) := by decide +kernel
theorem d_R_machineTakes_105 : decode prog_9_method_20_code 105 = .ok (.aload_n 0, 1) := by decide +kernel
theorem d_R_machineTakes_106 : decode prog_9_method_20_code 106 = .ok (.getfield 54, 3) := by decide +kernel
theorem d_R_machineTakes_109 : decode prog_9_method_20_code 109 = .ok (.aload_n 0, 1) := by decide +kernel
theorem d_R_machineTakes_110 : decode prog_9_method_20_code 110 = .ok (.getfield 71, 3) := by decide +kernel
theorem d_R_machineTakes_113 : decode prog_9_method_20_code 113 = .ok (.iconst 1, 1) := by decide +kernel
theorem d_R_machineTakes_114 : decode prog_9_method_20_code 114 = .ok (.bastore, 1) := by decide +kernel
theorem d_R_machineTakes_115 : decode prog_9_method_20_code 115 = .ok (.aload_n 0, 1) := by decide +kernel
theorem d_R_machineTakes_116 : decode prog_9_method_20_code 116 = .ok (.iconst (-1), 1) := by decide +kernel
theorem d_R_machineTakes_117 : decode prog_9_method_20_code 117 = .ok (.putfield 71, 3) := by decide +kernel
theorem d_R_machineTakes_120 : decode prog_9_method_20_code 120 = .ok (.aload_n 0, 1) := by decide +kernel
theorem d_R_machineTakes_121 : decode prog_9_method_20_code 121 = .ok (.iload_n 2, 1) := by decide +kernel
theorem d_R_machineTakes_122 : decode prog_9_method_20_code 122 = .ok (.ifCond .ne 7, 3) := by decide +kernel
theorem d_R_machineTakes_125 : decode prog_9_method_20_code 125 = .ok (.iconst 3, 1) := by decide +kernel
theorem d_R_machineTakes_126 : decode prog_9_method_20_code 126 = .ok (.goto 13, 3) := by decide +kernel
theorem d_R_machineTakes_129 : decode prog_9_method_20_code 129 = .ok (.iload_n 2, 1) := by decide +kernel
theorem d_R_machineTakes_130 : decode prog_9_method_20_code 130 = .ok (.iconst 2, 1) := by decide +kernel
theorem d_R_machineTakes_131 : decode prog_9_method_20_code 131 = .ok (.if_icmp .ne 7, 3) := by decide +kernel
theorem d_R_machineTakes_134 : decode prog_9_method_20_code 134 = .ok (.iconst 0, 1) := by decide +kernel
theorem d_R_machineTakes_135 : decode prog_9_method_20_code 135 = .ok (.goto 4, 3) := by decide +kernel
theorem d_R_machineTakes_138 : decode prog_9_method_20_code 138 = .ok (.iconst 1, 1) := by decide +kernel
theorem d_R_machineTakes_139 : decode prog_9_method_20_code 139 = .ok (.putfield 168, 3) := by decide +kernel
theorem d_R_machineTakes_142 : decode prog_9_method_20_code 142 = .ok (.goto 52, 3) := by decide +kernel
theorem d_R_machineTakes_145 : decode prog_9_method_20_code 145 = .ok (.aload_n 0, 1) := by decide +kernel
theorem d_R_machineTakes_146 : decode prog_9_method_20_code 146 = .ok (.getfield 168, 3) := by decide +kernel
theorem d_R_machineTakes_149 : decode prog_9_method_20_code 149 = .ok (.iconst 5, 1) := by decide +kernel
theorem d_R_machineTakes_150 : decode prog_9_method_20_code 150 = .ok (.if_icmp .ne 19, 3) := by decide +kernel
theorem d_R_machineTakes_153 : decode prog_9_method_20_code 153 = .ok (.aload_n 0, 1) := by decide +kernel
theorem d_R_machineTakes_154 : decode prog_9_method_20_code 154 = .ok (.iconst 5, 1) := by decide +kernel
theorem d_R_machineTakes_155 : decode prog_9_method_20_code 155 = .ok (.invokevirtual 154, 3) := by decide +kernel
theorem d_R_machineTakes_158 : decode prog_9_method_20_code 158 = .ok (.ifCond .eq 36, 3) := by decide +kernel
theorem d_R_machineTakes_161 : decode prog_9_method_20_code 161 = .ok (.aload_n 0, 1) := by decide +kernel
theorem d_R_machineTakes_162 : decode prog_9_method_20_code 162 = .ok (.iconst 0, 1) := by decide +kernel
theorem d_R_machineTakes_163 : decode prog_9_method_20_code 163 = .ok (.putfield 168, 3) := by decide +kernel
theorem d_R_machineTakes_166 : decode prog_9_method_20_code 166 = .ok (.goto 28, 3) := by decide +kernel
theorem d_R_machineTakes_169 : decode prog_9_method_20_code 169 = .ok (.iload_n 2, 1) := by decide +kernel
theorem d_R_machineTakes_170 : decode prog_9_method_20_code 170 = .ok (.ifCond .eq 20, 3) := by decide +kernel
theorem d_R_machineTakes_173 : decode prog_9_method_20_code 173 = .ok (.aload_n 0, 1) := by decide +kernel
theorem d_R_machineTakes_174 : decode prog_9_method_20_code 174 = .ok (.bipush 6, 2) := by decide +kernel
theorem d_R_machineTakes_176 : decode prog_9_method_20_code 176 = .ok (.invokevirtual 154, 3) := by decide +kernel
theorem d_R_machineTakes_179 : decode prog_9_method_20_code 179 = .ok (.ifCond .eq 15, 3) := by decide +kernel
theorem d_R_machineTakes_182 : decode prog_9_method_20_code 182 = .ok (.aload_n 0, 1) := by decide +kernel
theorem d_R_machineTakes_183 : decode prog_9_method_20_code 183 = .ok (.iconst 3, 1) := by decide +kernel
theorem d_R_machineTakes_184 : decode prog_9_method_20_code 184 = .ok (.putfield 168, 3) := by decide +kernel
theorem d_R_machineTakes_187 : decode prog_9_method_20_code 187 = .ok (.goto 7, 3) := by decide +kernel
theorem d_R_machineTakes_190 : decode prog_9_method_20_code 190 = .ok (.aload_n 0, 1) := by decide +kernel
theorem d_R_machineTakes_191 : decode prog_9_method_20_code 191 = .ok (.invokevirtual 171, 3) := by decide +kernel
theorem d_R_machineTakes_194 : decode prog_9_method_20_code 194 = .ok (.iconst 1, 1) := by decide +kernel
theorem d_R_machineTakes_195 : decode prog_9_method_20_code 195 = .ok (.ireturn, 1) := by decide +kernel
theorem d_R_onPin_0 : decode prog_9_method_11_code 0 = .ok (.aload_n 0, 1) := by decide +kernel
theorem d_R_onPin_1 : decode prog_9_method_11_code 1 = .ok (.getfield 23, 3) := by decide +kernel
theorem d_R_onPin_4 : decode prog_9_method_11_code 4 = .ok (.iload_n 1, 1) := by decide +kernel
theorem d_R_onPin_5 : decode prog_9_method_11_code 5 = .ok (.iaload, 1) := by decide +kernel
theorem d_R_onPin_6 : decode prog_9_method_11_code 6 = .ok (.iconst (-1), 1) := by decide +kernel
theorem d_R_onPin_7 : decode prog_9_method_11_code 7 = .ok (.if_icmp .eq 10, 3) := by decide +kernel
theorem d_R_onPin_10 : decode prog_9_method_11_code 10 = .ok (.aload_n 0, 1) := by decide +kernel
theorem d_R_onPin_11 : decode prog_9_method_11_code 11 = .ok (.getfield 23, 3) := by decide +kernel
theorem d_R_onPin_14 : decode prog_9_method_11_code 14 = .ok (.iload_n 1, 1) := by decide +kernel
theorem d_R_onPin_15 : decode prog_9_method_11_code 15 = .ok (.iaload, 1) := by decide +kernel
theorem d_R_onPin_16 : decode prog_9_method_11_code 16 = .ok (.ireturn, 1) := by decide +kernel
theorem d_R_onPin_17 : decode prog_9_method_11_code 17 = .ok (.aload_n 0, 1) := by decide +kernel
theorem d_R_onPin_18 : decode prog_9_method_11_code 18 = .ok (.getfield 13, 3) := by decide +kernel
theorem d_R_onPin_21 : decode prog_9_method_11_code 21 = .ok (.iload_n 2, 1) := by decide +kernel
theorem d_R_onPin_22 : decode prog_9_method_11_code 22 = .ok (.iaload, 1) := by decide +kernel
theorem d_R_onPin_23 : decode prog_9_method_11_code 23 = .ok (.iconst (-1), 1) := by decide +kernel
theorem d_R_onPin_24 : decode prog_9_method_11_code 24 = .ok (.if_icmp .ne 9, 3) := by decide +kernel
theorem d_R_onPin_27 : decode prog_9_method_11_code 27 = .ok (.iconst 1, 1) := by decide +kernel
theorem d_R_onPin_28 : decode prog_9_method_11_code 28 = .ok (.istore 4, 2) := by decide +kernel
theorem d_R_onPin_30 : decode prog_9_method_11_code 30 = .ok (.goto 69, 3) := by decide +kernel
theorem d_R_onPin_33 : decode prog_9_method_11_code 33 = .ok (.aload_n 0, 1) := by decide +kernel
theorem d_R_onPin_34 : decode prog_9_method_11_code 34 = .ok (.getfield 20, 3) := by decide +kernel
theorem d_R_onPin_37 : decode prog_9_method_11_code 37 = .ok (.iload_n 2, 1) := by decide +kernel
theorem d_R_onPin_38 : decode prog_9_method_11_code 38 = .ok (.iaload, 1) := by decide +kernel
theorem d_R_onPin_39 : decode prog_9_method_11_code 39 = .ok (.iconst 3, 1) := by decide +kernel
theorem d_R_onPin_40 : decode prog_9_method_11_code 40 = .ok (.if_icmp .ne 9, 3) := by decide +kernel
theorem d_R_onPin_43 : decode prog_9_method_11_code 43 = .ok (.iconst 2, 1) := by decide +kernel
theorem d_R_onPin_44 : decode prog_9_method_11_code 44 = .ok (.istore 4, 2) := by decide +kernel
theorem d_R_onPin_46 : decode prog_9_method_11_code 46 = .ok (.goto 53, 3) := by decide +kernel
theorem d_R_onPin_49 : decode prog_9_method_11_code 49 = .ok (.aload_n 0, 1) := by decide +kernel
theorem d_R_onPin_50 : decode prog_9_method_11_code 50 = .ok (.getfield 17, 3) := by decide +kernel
theorem d_R_onPin_53 : decode prog_9_method_11_code 53 = .ok (.iload_n 2, 1) := by decide +kernel
theorem d_R_onPin_54 : decode prog_9_method_11_code 54 = .ok (.iaload, 1) := by decide +kernel
theorem d_R_onPin_55 : decode prog_9_method_11_code 55 = .ok (.iload_n 3, 1) := by decide +kernel
theorem d_R_onPin_56 : decode prog_9_method_11_code 56 = .ok (.if_icmp .ne 16, 3) := by decide +kernel
theorem d_R_onPin_59 : decode prog_9_method_11_code 59 = .ok (.aload_n 0, 1) := by decide +kernel
theorem d_R_onPin_60 : decode prog_9_method_11_code 60 = .ok (.getfield 20, 3) := by decide +kernel
theorem d_R_onPin_63 : decode prog_9_method_11_code 63 = .ok (.iload_n 2, 1) := by decide +kernel
theorem d_R_onPin_64 : decode prog_9_method_11_code 64 = .ok (.iconst 0, 1) := by decide +kernel
theorem d_R_onPin_65 : decode prog_9_method_11_code 65 = .ok (.iastore, 1) := by decide +kernel
theorem d_R_onPin_66 : decode prog_9_method_11_code 66 = .ok (.iconst 0, 1) := by decide +kernel
theorem d_R_onPin_67 : decode prog_9_method_11_code 67 = .ok (.istore 4, 2) := by decide +kernel
theorem d_R_onPin_69 : decode prog_9_method_11_code 69 = .ok (.goto 30, 3) := by decide +kernel
theorem d_R_onPin_72 : decode prog_9_method_11_code 72 = .ok (.aload_n 0, 1) := by decide +kernel
theorem d_R_onPin_73 : decode prog_9_method_11_code 73 = .ok (.getfield 20, 3) := by decide +kernel
theorem d_R_onPin_76 : decode prog_9_method_11_code 76 = .ok (.iload_n 2, 1) := by decide +kernel
theorem d_R_onPin_77 : decode prog_9_method_11_code 77 = .ok (.dup2, 1) := by decide +kernel
theorem d_R_onPin_78 : decode prog_9_method_11_code 78 = .ok (.iaload, 1) := by decide +kernel
theorem d_R_onPin_79 : decode prog_9_method_11_code 79 = .ok (.iconst 1, 1) := by decide +kernel
theorem d_R_onPin_80 : decode prog_9_method_11_code 80 = .ok (.iadd, 1) := by decide +kernel
theorem d_R_onPin_81 : decode prog_9_method_11_code 81 = .ok (.iastore, 1) := by decide +kernel
theorem d_R_onPin_82 : decode prog_9_method_11_code 82 = .ok (.aload_n 0, 1) := by decide +kernel
theorem d_R_onPin_83 : decode prog_9_method_11_code 83 = .ok (.getfield 20, 3) := by decide +kernel
theorem d_R_onPin_86 : decode prog_9_method_11_code 86 = .ok (.iload_n 2, 1) := by decide +kernel
theorem d_R_onPin_87 : decode prog_9_method_11_code 87 = .ok (.iaload, 1) := by decide +kernel
theorem d_R_onPin_88 : decode prog_9_method_11_code 88 = .ok (.iconst 3, 1) := by decide +kernel
theorem d_R_onPin_89 : decode prog_9_method_11_code 89 = .ok (.if_icmp .ne 7, 3) := by decide +kernel
theorem d_R_onPin_92 : decode prog_9_method_11_code 92 = .ok (.iconst 2, 1) := by decide +kernel
theorem d_R_onPin_93 : decode prog_9_method_11_code 93 = .ok (.goto 4, 3) := by decide +kernel
theorem d_R_onPin_96 : decode prog_9_method_11_code 96 = .ok (.iconst 1, 1) := by decide +kernel
theorem d_R_onPin_97 : decode prog_9_method_11_code 97 = .ok (.istore 4, 2) := by decide +kernel
theorem d_R_onPin_99 : decode prog_9_method_11_code 99 = .ok (.aload_n 0, 1) := by decide +kernel
theorem d_R_onPin_100 : decode prog_9_method_11_code 100 = .ok (.getfield 23, 3) := by decide +kernel
theorem d_R_onPin_103 : decode prog_9_method_11_code 103 = .ok (.iload_n 1, 1) := by decide +kernel
theorem d_R_onPin_104 : decode prog_9_method_11_code 104 = .ok (.iload 4, 2) := by decide +kernel
theorem d_R_onPin_106 : decode prog_9_method_11_code 106 = .ok (.iastore, 1) := by decide +kernel
theorem d_R_onPin_107 : decode prog_9_method_11_code 107 = .ok (.iload 4, 2) := by decide +kernel
theorem d_R_onPin_109 : decode prog_9_method_11_code 109 = .ok (.ireturn, 1) := by decide +kernel
theorem d_R_onDebit_0 : decode prog_9_method_12_code 0 = .ok (.aload_n 0, 1) := by decide +kernel
theorem d_R_onDebit_1 : decode prog_9_method_12_code 1 = .ok (.getfield 35, 3) := by decide +kernel
theorem d_R_onDebit_4 : decode prog_9_method_12_code 4 = .ok (.iload_n 1, 1) := by decide +kernel
theorem d_R_onDebit_5 : decode prog_9_method_12_code 5 = .ok (.baload, 1) := by decide +kernel
theorem d_R_onDebit_6 : decode prog_9_method_12_code 6 = .ok (.ifCond .eq 5, 3) := by decide +kernel
theorem d_R_onDebit_9 : decode prog_9_method_12_code 9 = .ok (.iconst 1, 1) := by decide +kernel
theorem d_R_onDebit_10 : decode prog_9_method_12_code 10 = .ok (.ireturn, 1) := by decide +kernel
theorem d_R_onDebit_11 : decode prog_9_method_12_code 11 = .ok (.aload_n 0, 1) := by decide +kernel
theorem d_R_onDebit_12 : decode prog_9_method_12_code 12 = .ok (.getfield 26, 3) := by decide +kernel
theorem d_R_onDebit_15 : decode prog_9_method_12_code 15 = .ok (.iload_n 1, 1) := by decide +kernel
theorem d_R_onDebit_16 : decode prog_9_method_12_code 16 = .ok (.iaload, 1) := by decide +kernel
theorem d_R_onDebit_17 : decode prog_9_method_12_code 17 = .ok (.iconst (-1), 1) := by decide +kernel
theorem d_R_onDebit_18 : decode prog_9_method_12_code 18 = .ok (.if_icmp .eq 10, 3) := by decide +kernel
theorem d_R_onDebit_21 : decode prog_9_method_12_code 21 = .ok (.aload_n 0, 1) := by decide +kernel
theorem d_R_onDebit_22 : decode prog_9_method_12_code 22 = .ok (.getfield 26, 3) := by decide +kernel
theorem d_R_onDebit_25 : decode prog_9_method_12_code 25 = .ok (.iload_n 1, 1) := by decide +kernel
theorem d_R_onDebit_26 : decode prog_9_method_12_code 26 = .ok (.iaload, 1) := by decide +kernel
theorem d_R_onDebit_27 : decode prog_9_method_12_code 27 = .ok (.ireturn, 1) := by decide +kernel
theorem d_R_onDebit_28 : decode prog_9_method_12_code 28 = .ok (.aload_n 0, 1) := by decide +kernel
theorem d_R_onDebit_29 : decode prog_9_method_12_code 29 = .ok (.getfield 13, 3) := by decide +kernel
theorem d_R_onDebit_32 : decode prog_9_method_12_code 32 = .ok (.iload_n 2, 1) := by decide +kernel
theorem d_R_onDebit_33 : decode prog_9_method_12_code 33 = .ok (.iaload, 1) := by decide +kernel
theorem d_R_onDebit_34 : decode prog_9_method_12_code 34 = .ok (.iconst (-1), 1) := by decide +kernel
theorem d_R_onDebit_35 : decode prog_9_method_12_code 35 = .ok (.if_icmp .eq 24, 3) := by decide +kernel
theorem d_R_onDebit_38 : decode prog_9_method_12_code 38 = .ok (.aload_n 0, 1) := by decide +kernel
theorem d_R_onDebit_39 : decode prog_9_method_12_code 39 = .ok (.getfield 7, 3) := by decide +kernel
theorem d_R_onDebit_42 : decode prog_9_method_12_code 42 = .ok (.aload_n 0, 1) := by decide +kernel
theorem d_R_onDebit_43 : decode prog_9_method_12_code 43 = .ok (.getfield 13, 3) := by decide +kernel
theorem d_R_onDebit_46 : decode prog_9_method_12_code 46 = .ok (.iload_n 2, 1) := by decide +kernel
theorem d_R_onDebit_47 : decode prog_9_method_12_code 47 = .ok (.iaload, 1) := by decide +kernel
theorem d_R_onDebit_48 : decode prog_9_method_12_code 48 = .ok (.laload, 1) := by decide +kernel
theorem d_R_onDebit_49 : decode prog_9_method_12_code 49 = .ok (.iload_n 3, 1) := by decide +kernel
theorem d_R_onDebit_50 : decode prog_9_method_12_code 50 = .ok (.i2l, 1) := by decide +kernel
theorem d_R_onDebit_51 : decode prog_9_method_12_code 51 = .ok (.lcmp, 1) := by decide +kernel
theorem d_R_onDebit_52 : decode prog_9_method_12_code 52 = .ok (.ifCond .lt 7, 3) := by decide +kernel
theorem d_R_onDebit_55 : decode prog_9_method_12_code 55 = .ok (.iconst 1, 1) := by decide +kernel
theorem d_R_onDebit_56 : decode prog_9_method_12_code 56 = .ok (.goto 4, 3) := by decide +kernel
theorem d_R_onDebit_59 : decode prog_9_method_12_code 59 = .ok (.iconst 0, 1) := by decide +kernel
theorem d_R_onDebit_60 : decode prog_9_method_12_code 60 = .ok (.istore 4, 2) := by decide +kernel
theorem d_R_onDebit_62 : decode prog_9_method_12_code 62 = .ok (.iload 4, 2) := by decide +kernel
theorem d_R_onDebit_64 : decode prog_9_method_12_code 64 = .ok (.ifCond .eq 49, 3) := by decide +kernel
theorem d_R_onDebit_67 : decode prog_9_method_12_code 67 = .ok (.aload_n 0, 1) := by decide +kernel
theorem d_R_onDebit_68 : decode prog_9_method_12_code 68 = .ok (.getfield 7, 3) := by decide +kernel
theorem d_R_onDebit_71 : decode prog_9_method_12_code 71 = .ok (.aload_n 0, 1) := by decide +kernel
theorem d_R_onDebit_72 : decode prog_9_method_12_code 72 = .ok (.getfield 13, 3) := by decide +kernel
theorem d_R_onDebit_75 : decode prog_9_method_12_code 75 = .ok (.iload_n 2, 1) := by decide +kernel
theorem d_R_onDebit_76 : decode prog_9_method_12_code 76 = .ok (.iaload, 1) := by decide +kernel
theorem d_R_onDebit_77 : decode prog_9_method_12_code 77 = .ok (.dup2, 1) := by decide +kernel
theorem d_R_onDebit_78 : decode prog_9_method_12_code 78 = .ok (.laload, 1) := by decide +kernel
theorem d_R_onDebit_79 : decode prog_9_method_12_code 79 = .ok (.iload_n 3, 1) := by decide +kernel
theorem d_R_onDebit_80 : decode prog_9_method_12_code 80 = .ok (.i2l, 1) := by decide +kernel
theorem d_R_onDebit_81 : decode prog_9_method_12_code 81 = .ok (.lsub, 1) := by decide +kernel
theorem d_R_onDebit_82 : decode prog_9_method_12_code 82 = .ok (.lastore, 1) := by decide +kernel
theorem d_R_onDebit_83 : decode prog_9_method_12_code 83 = .ok (.aload_n 0, 1) := by decide +kernel
theorem d_R_onDebit_84 : decode prog_9_method_12_code 84 = .ok (.getfield 29, 3) := by decide +kernel
theorem d_R_onDebit_87 : decode prog_9_method_12_code 87 = .ok (.iload_n 1, 1) := by decide +kernel
theorem d_R_onDebit_88 : decode prog_9_method_12_code 88 = .ok (.aload_n 0, 1) := by decide +kernel
theorem d_R_onDebit_89 : decode prog_9_method_12_code 89 = .ok (.getfield 13, 3) := by decide +kernel
theorem d_R_onDebit_92 : decode prog_9_method_12_code 92 = .ok (.iload_n 2, 1) := by decide +kernel
theorem d_R_onDebit_93 : decode prog_9_method_12_code 93 = .ok (.iaload, 1) := by decide +kernel
theorem d_R_onDebit_94 : decode prog_9_method_12_code 94 = .ok (.iastore, 1) := by decide +kernel
theorem d_R_onDebit_95 : decode prog_9_method_12_code 95 = .ok (.aload_n 0, 1) := by decide +kernel
theorem d_R_onDebit_96 : decode prog_9_method_12_code 96 = .ok (.getfield 32, 3) := by decide +kernel
theorem d_R_onDebit_99 : decode prog_9_method_12_code 99 = .ok (.iload_n 1, 1) := by decide +kernel
theorem d_R_onDebit_100 : decode prog_9_method_12_code 100 = .ok (.iload_n 3, 1) := by decide +kernel
theorem d_R_onDebit_101 : decode prog_9_method_12_code 101 = .ok (.iastore, 1) := by decide +kernel
theorem d_R_onDebit_102 : decode prog_9_method_12_code 102 = .ok (.aload_n 0, 1) := by decide +kernel
theorem d_R_onDebit_103 : decode prog_9_method_12_code 103 = .ok (.dup, 1) := by decide +kernel
theorem d_R_onDebit_104 : decode prog_9_method_12_code 104 = .ok (.getfield 132, 3) := by decide +kernel
theorem d_R_onDebit_107 : decode prog_9_method_12_code 107 = .ok (.iload_n 3, 1) := by decide +kernel
theorem d_R_onDebit_108 : decode prog_9_method_12_code 108 = .ok (.i2l, 1) := by decide +kernel
theorem d_R_onDebit_109 : decode prog_9_method_12_code 109 = .ok (.ladd, 1) := by decide +kernel
theorem d_R_onDebit_110 : decode prog_9_method_12_code 110 = .ok (.putfield 132, 3) := by decide +kernel
theorem d_R_onDebit_113 : decode prog_9_method_12_code 113 = .ok (.aload_n 0, 1) := by decide +kernel
theorem d_R_onDebit_114 : decode prog_9_method_12_code 114 = .ok (.getfield 26, 3) := by decide +kernel
theorem d_R_onDebit_117 : decode prog_9_method_12_code 117 = .ok (.iload_n 1, 1) := by decide +kernel
theorem d_R_onDebit_118 : decode prog_9_method_12_code 118 = .ok (.iload 4, 2) := by decide +kernel
theorem d_R_onDebit_120 : decode prog_9_method_12_code 120 = .ok (.ifCond .eq 7, 3) := by decide +kernel
theorem d_R_onDebit_123 : decode prog_9_method_12_code 123 = .ok (.iconst 0, 1) := by decide +kernel
theorem d_R_onDebit_124 : decode prog_9_method_12_code 124 = .ok (.goto 4, 3) := by decide +kernel
theorem d_R_onDebit_127 : decode prog_9_method_12_code 127 = .ok (.iconst 1, 1) := by decide +kernel
theorem d_R_onDebit_128 : decode prog_9_method_12_code 128 = .ok (.iastore, 1) := by decide +kernel
theorem d_R_onDebit_129 : decode prog_9_method_12_code 129 = .ok (.aload_n 0, 1) := by decide +kernel
theorem d_R_onDebit_130 : decode prog_9_method_12_code 130 = .ok (.getfield 26, 3) := by decide +kernel
theorem d_R_onDebit_133 : decode prog_9_method_12_code 133 = .ok (.iload_n 1, 1) := by decide +kernel
theorem d_R_onDebit_134 : decode prog_9_method_12_code 134 = .ok (.iaload, 1) := by decide +kernel
theorem d_R_onDebit_135 : decode prog_9_method_12_code 135 = .ok (.ireturn, 1) := by decide +kernel
theorem d_R_onReversal_0 : decode prog_9_method_13_code 0 = .ok (.aload_n 0, 1) := by decide +kernel
theorem d_R_onReversal_1 : decode prog_9_method_13_code 1 = .ok (.getfield 26, 3) := by decide +kernel
theorem d_R_onReversal_4 : decode prog_9_method_13_code 4 = .ok (.iload_n 1, 1) := by decide +kernel
theorem d_R_onReversal_5 : decode prog_9_method_13_code 5 = .ok (.iaload, 1) := by decide +kernel
theorem d_R_onReversal_6 : decode prog_9_method_13_code 6 = .ok (.ifCond .ne 49, 3) := by decide +kernel
theorem d_R_onReversal_9 : decode prog_9_method_13_code 9 = .ok (.aload_n 0, 1) := by decide +kernel
theorem d_R_onReversal_10 : decode prog_9_method_13_code 10 = .ok (.getfield 35, 3) := by decide +kernel
theorem d_R_onReversal_13 : decode prog_9_method_13_code 13 = .ok (.iload_n 1, 1) := by decide +kernel
theorem d_R_onReversal_14 : decode prog_9_method_13_code 14 = .ok (.baload, 1) := by decide +kernel
theorem d_R_onReversal_15 : decode prog_9_method_13_code 15 = .ok (.ifCond .ne 40, 3) := by decide +kernel
theorem d_R_onReversal_18 : decode prog_9_method_13_code 18 = .ok (.aload_n 0, 1) := by decide +kernel
theorem d_R_onReversal_19 : decode prog_9_method_13_code 19 = .ok (.getfield 7, 3) := by decide +kernel
theorem d_R_onReversal_22 : decode prog_9_method_13_code 22 = .ok (.aload_n 0, 1) := by decide +kernel
theorem d_R_onReversal_23 : decode prog_9_method_13_code 23 = .ok (.getfield 29, 3) := by decide +kernel
theorem d_R_onReversal_26 : decode prog_9_method_13_code 26 = .ok (.iload_n 1, 1) := by decide +kernel
theorem d_R_onReversal_27 : decode prog_9_method_13_code 27 = .ok (.iaload, 1) := by decide +kernel
theorem d_R_onReversal_28 : decode prog_9_method_13_code 28 = .ok (.dup2, 1) := by decide +kernel
theorem d_R_onReversal_29 : decode prog_9_method_13_code 29 = .ok (.laload, 1) := by decide +kernel
theorem d_R_onReversal_30 : decode prog_9_method_13_code 30 = .ok (.aload_n 0, 1) := by decide +kernel
theorem d_R_onReversal_31 : decode prog_9_method_13_code 31 = .ok (.getfield 32, 3) := by decide +kernel
theorem d_R_onReversal_34 : decode prog_9_method_13_code 34 = .ok (.iload_n 1, 1) := by decide +kernel
theorem d_R_onReversal_35 : decode prog_9_method_13_code 35 = .ok (.iaload, 1) := by decide +kernel
theorem d_R_onReversal_36 : decode prog_9_method_13_code 36 = .ok (.i2l, 1) := by decide +kernel
theorem d_R_onReversal_37 : decode prog_9_method_13_code 37 = .ok (.ladd, 1) := by decide +kernel
theorem d_R_onReversal_38 : decode prog_9_method_13_code 38 = .ok (.lastore, 1) := by decide +kernel
theorem d_R_onReversal_39 : decode prog_9_method_13_code 39 = .ok (.aload_n 0, 1) := by decide +kernel
theorem d_R_onReversal_40 : decode prog_9_method_13_code 40 = .ok (.dup, 1) := by decide +kernel
theorem d_R_onReversal_41 : decode prog_9_method_13_code 41 = .ok (.getfield 132, 3) := by decide +kernel
theorem d_R_onReversal_44 : decode prog_9_method_13_code 44 = .ok (.aload_n 0, 1) := by decide +kernel
theorem d_R_onReversal_45 : decode prog_9_method_13_code 45 = .ok (.getfield 32, 3) := by decide +kernel
theorem d_R_onReversal_48 : decode prog_9_method_13_code 48 = .ok (.iload_n 1, 1) := by decide +kernel
theorem d_R_onReversal_49 : decode prog_9_method_13_code 49 = .ok (.iaload, 1) := by decide +kernel
theorem d_R_onReversal_50 : decode prog_9_method_13_code 50 = .ok (.i2l, 1) := by decide +kernel
theorem d_R_onReversal_51 : decode prog_9_method_13_code 51 = .ok (.lsub, 1) := by decide +kernel
theorem d_R_onReversal_52 : decode prog_9_method_13_code 52 = .ok (.putfield 132, 3) := by decide +kernel
theorem d_R_onReversal_55 : decode prog_9_method_13_code 55 = .ok (.aload_n 0, 1) := by decide +kernel
theorem d_R_onReversal_56 : decode prog_9_method_13_code 56 = .ok (.getfield 35, 3) := by decide +kernel
theorem d_R_onReversal_59 : decode prog_9_method_13_code 59 = .ok (.iload_n 1, 1) := by decide +kernel
theorem d_R_onReversal_60 : decode prog_9_method_13_code 60 = .ok (.iconst 1, 1) := by decide +kernel
theorem d_R_onReversal_61 : decode prog_9_method_13_code 61 = .ok (.bastore, 1) := by decide +kernel
theorem d_R_onReversal_62 : decode prog_9_method_13_code 62 = .ok (.iconst 0, 1) := by decide +kernel
theorem d_R_onReversal_63 : decode prog_9_method_13_code 63 = .ok (.ireturn, 1) := by decide +kernel
theorem d_R_hostTakes_0 : decode prog_9_method_10_code 0 = .ok (.aload_n 0, 1) := by decide +kernel
theorem d_R_hostTakes_1 : decode prog_9_method_10_code 1 = .ok (.getfield 80, 3) := by decide +kernel
theorem d_R_hostTakes_4 : decode prog_9_method_10_code 4 = .ok (.iconst 0, 1) := by decide +kernel
theorem d_R_hostTakes_5 : decode prog_9_method_10_code 5 = .ok (.iaload, 1) := by decide +kernel
theorem d_R_hostTakes_6 : decode prog_9_method_10_code 6 = .ok (.istore_n 1, 1) := by decide +kernel
theorem d_R_hostTakes_7 : decode prog_9_method_10_code 7 = .ok (.aload_n 0, 1) := by decide +kernel
theorem d_R_hostTakes_8 : decode prog_9_method_10_code 8 = .ok (.iconst 1, 1) := by decide +kernel
theorem d_R_hostTakes_9 : decode prog_9_method_10_code 9 = .ok (.invokevirtual 113, 3) := by decide +kernel
theorem d_R_hostTakes_12 : decode prog_9_method_10_code 12 = .ok (.istore_n 2, 1) := by decide +kernel
theorem d_R_hostTakes_13 : decode prog_9_method_10_code 13 = .ok (.aload_n 0, 1) := by decide +kernel
theorem d_R_hostTakes_14 : decode prog_9_method_10_code 14 = .ok (.getfield 80, 3) := by decide +kernel
theorem d_R_hostTakes_17 : decode prog_9_method_10_code 17 = .ok (.iconst 5, 1) := by decide +kernel
theorem d_R_hostTakes_18 : decode prog_9_method_10_code 18 = .ok (.iaload, 1) := by decide +kernel
theorem d_R_hostTakes_19 : decode prog_9_method_10_code 19 = .ok (.istore_n 3, 1) := by decide +kernel
theorem d_R_hostTakes_20 : decode prog_9_method_10_code 20 = .ok (.aload_n 0, 1) := by decide +kernel
theorem d_R_hostTakes_21 : decode prog_9_method_10_code 21 = .ok (.bipush 6, 2) := by decide +kernel
theorem d_R_hostTakes_23 : decode prog_9_method_10_code 23 = .ok (.invokevirtual 113, 3) := by decide +kernel
theorem d_R_hostTakes_26 : decode prog_9_method_10_code 26 = .ok (.istore 4, 2) := by decide +kernel
theorem d_R_hostTakes_28 : decode prog_9_method_10_code 28 = .ok (.iload_n 1, 1) := by decide +kernel
theorem d_R_hostTakes_29 : decode prog_9_method_10_code 29 = .ok (.iconst 1, 1) := by decide +kernel
theorem d_R_hostTakes_30 : decode prog_9_method_10_code 30 = .ok (.if_icmp .lt 30, 3) := by decide +kernel
theorem d_R_hostTakes_33 : decode prog_9_method_10_code 33 = .ok (.iload_n 1, 1) := by decide +kernel
theorem d_R_hostTakes_34 : decode prog_9_method_10_code 34 = .ok (.iconst 3, 1) := by decide +kernel
theorem d_R_hostTakes_35 : decode prog_9_method_10_code 35 = .ok (.if_icmp .gt 25, 3) := by decide +kernel
theorem d_R_hostTakes_38 : decode prog_9_method_10_code 38 = .ok (.iload_n 2, 1) := by decide +kernel
theorem d_R_hostTakes_39 : decode prog_9_method_10_code 39 = .ok (.iconst 1, 1) := by decide +kernel
theorem d_R_hostTakes_40 : decode prog_9_method_10_code 40 = .ok (.if_icmp .lt 20, 3) := by decide +kernel
theorem d_R_hostTakes_43 : decode prog_9_method_10_code 43 = .ok (.iload_n 2, 1) := by decide +kernel
theorem d_R_hostTakes_44 : decode prog_9_method_10_code 44 = .ok (.sipush 2000, 3) := by decide +kernel
theorem d_R_hostTakes_47 : decode prog_9_method_10_code 47 = .ok (.if_icmp .gt 13, 3) := by decide +kernel
theorem d_R_hostTakes_50 : decode prog_9_method_10_code 50 = .ok (.iload_n 3, 1) := by decide +kernel
theorem d_R_hostTakes_51 : decode prog_9_method_10_code 51 = .ok (.bipush 15, 2) := by decide +kernel
theorem d_R_hostTakes_53 : decode prog_9_method_10_code 53 = .ok (.if_icmp .gt 7, 3) := by decide +kernel
theorem d_R_hostTakes_56 : decode prog_9_method_10_code 56 = .ok (.iconst 1, 1) := by decide +kernel
theorem d_R_hostTakes_57 : decode prog_9_method_10_code 57 = .ok (.goto 4, 3) := by decide +kernel
theorem d_R_hostTakes_60 : decode prog_9_method_10_code 60 = .ok (.iconst 0, 1) := by decide +kernel
theorem d_R_hostTakes_61 : decode prog_9_method_10_code 61 = .ok (.istore 5, 2) := by decide +kernel
theorem d_R_hostTakes_63 : decode prog_9_method_10_code 63 = .ok (.iload 5, 2) := by decide +kernel
theorem d_R_hostTakes_65 : decode prog_9_method_10_code 65 = .ok (.ifCond .eq 43, 3) := by decide +kernel
theorem d_R_hostTakes_68 : decode prog_9_method_10_code 68 = .ok (.iload_n 1, 1) := by decide +kernel
theorem d_R_hostTakes_69 : decode prog_9_method_10_code 69 = .ok (.iconst 1, 1) := by decide +kernel
theorem d_R_hostTakes_70 : decode prog_9_method_10_code 70 = .ok (.if_icmp .ne 16, 3) := by decide +kernel
theorem d_R_hostTakes_73 : decode prog_9_method_10_code 73 = .ok (.iload 4, 2) := by decide +kernel
theorem d_R_hostTakes_75 : decode prog_9_method_10_code 75 = .ok (.ifCond .lt 33, 3) := by decide +kernel
theorem d_R_hostTakes_78 : decode prog_9_method_10_code 78 = .ok (.iload 4, 2) := by decide +kernel
theorem d_R_hostTakes_80 : decode prog_9_method_10_code 80 = .ok (.sipush 9999, 3) := by decide +kernel
theorem d_R_hostTakes_83 : decode prog_9_method_10_code 83 = .ok (.if_icmp .gt 25, 3) := by decide +kernel
theorem d_R_hostTakes_86 : decode prog_9_method_10_code 86 = .ok (.iload_n 1, 1) := by decide +kernel
theorem d_R_hostTakes_87 : decode prog_9_method_10_code 87 = .ok (.iconst 2, 1) := by decide +kernel
theorem d_R_hostTakes_88 : decode prog_9_method_10_code 88 = .ok (.if_icmp .ne 16, 3) := by decide +kernel
theorem d_R_hostTakes_91 : decode prog_9_method_10_code 91 = .ok (.iload 4, 2) := by decide +kernel
theorem d_R_hostTakes_93 : decode prog_9_method_10_code 93 = .ok (.iconst 1, 1) := by decide +kernel
theorem d_R_hostTakes_94 : decode prog_9_method_10_code 94 = .ok (.if_icmp .lt 14, 3) := by decide +kernel
theorem d_R_hostTakes_97 : decode prog_9_method_10_code 97 = .ok (.iload 4, 2) := by decide +kernel
theorem d_R_hostTakes_99 : decode prog_9_method_10_code 99 = .ok (.ldc 117, 2) := by decide +kernel
theorem d_R_hostTakes_101 : decode prog_9_method_10_code 101 = .ok (.if_icmp .gt 7, 3) := by decide +kernel
theorem d_R_hostTakes_104 : decode prog_9_method_10_code 104 = .ok (.iconst 1, 1) := by decide +kernel
theorem d_R_hostTakes_105 : decode prog_9_method_10_code 105 = .ok (.goto 4, 3) := by decide +kernel
theorem d_R_hostTakes_108 : decode prog_9_method_10_code 108 = .ok (.iconst 0, 1) := by decide +kernel
theorem d_R_hostTakes_109 : decode prog_9_method_10_code 109 = .ok (.istore 5, 2) := by decide +kernel
theorem d_R_hostTakes_111 : decode prog_9_method_10_code 111 = .ok (.iload 5, 2) := by decide +kernel
theorem d_R_hostTakes_113 : decode prog_9_method_10_code 113 = .ok (.ifCond .eq 58, 3) := by decide +kernel
theorem d_R_hostTakes_116 : decode prog_9_method_10_code 116 = .ok (.iload_n 1, 1) := by decide +kernel
theorem d_R_hostTakes_117 : decode prog_9_method_10_code 117 = .ok (.iconst 1, 1) := by decide +kernel
theorem d_R_hostTakes_118 : decode prog_9_method_10_code 118 = .ok (.if_icmp .ne 14, 3) := by decide +kernel
theorem d_R_hostTakes_121 : decode prog_9_method_10_code 121 = .ok (.aload_n 0, 1) := by decide +kernel
theorem d_R_hostTakes_122 : decode prog_9_method_10_code 122 = .ok (.iload_n 2, 1) := by decide +kernel
theorem d_R_hostTakes_123 : decode prog_9_method_10_code 123 = .ok (.iload_n 3, 1) := by decide +kernel
theorem d_R_hostTakes_124 : decode prog_9_method_10_code 124 = .ok (.iload 4, 2) := by decide +kernel
theorem d_R_hostTakes_126 : decode prog_9_method_10_code 126 = .ok (.invokevirtual 118, 3) := by decide +kernel
theorem d_R_hostTakes_129 : decode prog_9_method_10_code 129 = .ok (.goto 24, 3) := by decide +kernel
theorem d_R_hostTakes_132 : decode prog_9_method_10_code 132 = .ok (.iload_n 1, 1) := by decide +kernel
theorem d_R_hostTakes_133 : decode prog_9_method_10_code 133 = .ok (.iconst 2, 1) := by decide +kernel
theorem d_R_hostTakes_134 : decode prog_9_method_10_code 134 = .ok (.if_icmp .ne 14, 3) := by decide +kernel
theorem d_R_hostTakes_137 : decode prog_9_method_10_code 137 = .ok (.aload_n 0, 1) := by decide +kernel
theorem d_R_hostTakes_138 : decode prog_9_method_10_code 138 = .ok (.iload_n 2, 1) := by decide +kernel
theorem d_R_hostTakes_139 : decode prog_9_method_10_code 139 = .ok (.iload_n 3, 1) := by decide +kernel
theorem d_R_hostTakes_140 : decode prog_9_method_10_code 140 = .ok (.iload 4, 2) := by decide +kernel
theorem d_R_hostTakes_142 : decode prog_9_method_10_code 142 = .ok (.invokevirtual 122, 3) := by decide +kernel
theorem d_R_hostTakes_145 : decode prog_9_method_10_code 145 = .ok (.goto 8, 3) := by decide +kernel
theorem d_R_hostTakes_148 : decode prog_9_method_10_code 148 = .ok (.aload_n 0, 1) := by decide +kernel
theorem d_R_hostTakes_149 : decode prog_9_method_10_code 149 = .ok (.iload_n 2, 1) := by decide +kernel
theorem d_R_hostTakes_150 : decode prog_9_method_10_code 150 = .ok (.invokevirtual 125, 3) := by decide +kernel
theorem d_R_hostTakes_153 : decode prog_9_method_10_code 153 = .ok (.istore 6, 2) := by decide +kernel
theorem d_R_hostTakes_155 : decode prog_9_method_10_code 155 = .ok (.aload_n 0, 1) := by decide +kernel
theorem d_R_hostTakes_156 : decode prog_9_method_10_code 156 = .ok (.iload_n 1, 1) := by decide +kernel
theorem d_R_hostTakes_157 : decode prog_9_method_10_code 157 = .ok (.sipush 128, 3) := by decide +kernel
theorem d_R_hostTakes_160 : decode prog_9_method_10_code 160 = .ok (.iadd, 1) := by decide +kernel
theorem d_R_hostTakes_161 : decode prog_9_method_10_code 161 = .ok (.iload_n 2, 1) := by decide +kernel
theorem d_R_hostTakes_162 : decode prog_9_method_10_code 162 = .ok (.iload_n 3, 1) := by decide +kernel
theorem d_R_hostTakes_163 : decode prog_9_method_10_code 163 = .ok (.iload 4, 2) := by decide +kernel
theorem d_R_hostTakes_165 : decode prog_9_method_10_code 165 = .ok (.iload 6, 2) := by decide +kernel
theorem d_R_hostTakes_167 : decode prog_9_method_10_code 167 = .ok (.iconst 1, 1) := by decide +kernel
theorem d_R_hostTakes_168 : decode prog_9_method_10_code 168 = .ok (.invokevirtual 128, 3) := by decide +kernel
theorem d_R_hostTakes_171 : decode prog_9_method_10_code 171 = .ok (.iload 5, 2) := by decide +kernel
theorem d_R_hostTakes_173 : decode prog_9_method_10_code 173 = .ok (.ireturn, 1) := by decide +kernel
theorem d_R_come_0 : decode prog_9_method_9_code 0 = .ok (.iconst 0, 1) := by decide +kernel
theorem d_R_come_1 : decode prog_9_method_9_code 1 = .ok (.istore_n 3, 1) := by decide +kernel
theorem d_R_come_2 : decode prog_9_method_9_code 2 = .ok (.iload_n 3, 1) := by decide +kernel
theorem d_R_come_3 : decode prog_9_method_9_code 3 = .ok (.bipush 14, 2) := by decide +kernel
theorem d_R_come_5 : decode prog_9_method_9_code 5 = .ok (.if_icmp .ge 26, 3) := by decide +kernel
theorem d_R_come_8 : decode prog_9_method_9_code 8 = .ok (.aload_n 0, 1) := by decide +kernel
theorem d_R_come_9 : decode prog_9_method_9_code 9 = .ok (.getfield 80, 3) := by decide +kernel
theorem d_R_come_12 : decode prog_9_method_9_code 12 = .ok (.iload_n 3, 1) := by decide +kernel
theorem d_R_come_13 : decode prog_9_method_9_code 13 = .ok (.aload_n 0, 1) := by decide +kernel
theorem d_R_come_14 : decode prog_9_method_9_code 14 = .ok (.getfield 77, 3) := by decide +kernel
theorem d_R_come_17 : decode prog_9_method_9_code 17 = .ok (.bipush 14, 2) := by decide +kernel
theorem d_R_come_19 : decode prog_9_method_9_code 19 = .ok (.iload_n 1, 1) := by decide +kernel
theorem d_R_come_20 : decode prog_9_method_9_code 20 = .ok (.imul, 1) := by decide +kernel
theorem d_R_come_21 : decode prog_9_method_9_code 21 = .ok (.iload_n 3, 1) := by decide +kernel
theorem d_R_come_22 : decode prog_9_method_9_code 22 = .ok (.iadd, 1) := by decide +kernel
theorem d_R_come_23 : decode prog_9_method_9_code 23 = .ok (.iaload, 1) := by decide +kernel
theorem d_R_come_24 : decode prog_9_method_9_code 24 = .ok (.iastore, 1) := by decide +kernel
theorem d_R_come_25 : decode prog_9_method_9_code 25 = .ok (.iinc 3 1, 3) := by decide +kernel
theorem d_R_come_28 : decode prog_9_method_9_code 28 = .ok (.goto (-26), 3) := by decide +kernel
theorem d_R_come_31 : decode prog_9_method_9_code 31 = .ok (.iload_n 2, 1) := by decide +kernel
theorem d_R_come_32 : decode prog_9_method_9_code 32 = .ok (.ifCond .ne 8, 3) := by decide +kernel
theorem d_R_come_35 : decode prog_9_method_9_code 35 = .ok (.aload_n 0, 1) := by decide +kernel
theorem d_R_come_36 : decode prog_9_method_9_code 36 = .ok (.iload_n 1, 1) := by decide +kernel
theorem d_R_come_37 : decode prog_9_method_9_code 37 = .ok (.invokevirtual 92, 3) := by decide +kernel
theorem d_R_come_40 : decode prog_9_method_9_code 40 = .ok (.aload_n 0, 1) := by decide +kernel
theorem d_R_come_41 : decode prog_9_method_9_code 41 = .ok (.getfield 80, 3) := by decide +kernel
theorem d_R_come_44 : decode prog_9_method_9_code 44 = .ok (.bipush 13, 2) := by decide +kernel
theorem d_R_come_46 : decode prog_9_method_9_code 46 = .ok (.iaload, 1) := by decide +kernel
theorem d_R_come_47 : decode prog_9_method_9_code 47 = .ok (.iconst 1, 1) := by decide +kernel
theorem d_R_come_48 : decode prog_9_method_9_code 48 = .ok (.if_icmp .ne 7, 3) := by decide +kernel
theorem d_R_come_51 : decode prog_9_method_9_code 51 = .ok (.iconst 1, 1) := by decide +kernel
theorem d_R_come_52 : decode prog_9_method_9_code 52 = .ok (.goto 4, 3) := by decide +kernel
theorem d_R_come_55 : decode prog_9_method_9_code 55 = .ok (.iconst 0, 1) := by decide +kernel
theorem d_R_come_56 : decode prog_9_method_9_code 56 = .ok (.istore_n 3, 1) := by decide +kernel
theorem d_R_come_57 : decode prog_9_method_9_code 57 = .ok (.iload_n 3, 1) := by decide +kernel
theorem d_R_come_58 : decode prog_9_method_9_code 58 = .ok (.ifCond .eq 11, 3) := by decide +kernel
theorem d_R_come_61 : decode prog_9_method_9_code 61 = .ok (.aload_n 0, 1) := by decide +kernel
theorem d_R_come_62 : decode prog_9_method_9_code 62 = .ok (.getfield 64, 3) := by decide +kernel
theorem d_R_come_65 : decode prog_9_method_9_code 65 = .ok (.ifCond .ne 4, 3) := by decide +kernel
theorem d_R_come_68 : decode prog_9_method_9_code 68 = .ok (.return_, 1) := by decide +kernel
theorem d_R_come_69 : decode prog_9_method_9_code 69 = .ok (.aload_n 0, 1) := by decide +kernel
theorem d_R_come_70 : decode prog_9_method_9_code 70 = .ok (.getfield 80, 3) := by decide +kernel
theorem d_R_come_73 : decode prog_9_method_9_code 73 = .ok (.iconst 0, 1) := by decide +kernel
theorem d_R_come_74 : decode prog_9_method_9_code 74 = .ok (.invokestatic 99, 3) := by decide +kernel
theorem d_R_come_77 : decode prog_9_method_9_code 77 = .ok (.istore 4, 2) := by decide +kernel
theorem d_R_come_79 : decode prog_9_method_9_code 79 = .ok (.aload_n 0, 1) := by decide +kernel
theorem d_R_come_80 : decode prog_9_method_9_code 80 = .ok (.getfield 80, 3) := by decide +kernel
theorem d_R_come_83 : decode prog_9_method_9_code 83 = .ok (.bipush 11, 2) := by decide +kernel
theorem d_R_come_85 : decode prog_9_method_9_code 85 = .ok (.iaload, 1) := by decide +kernel
theorem d_R_come_86 : decode prog_9_method_9_code 86 = .ok (.iload 4, 2) := by decide +kernel
theorem d_R_come_88 : decode prog_9_method_9_code 88 = .ok (.bipush 8, 2) := by decide +kernel
theorem d_R_come_90 : decode prog_9_method_9_code 90 = .ok (.ishr, 1) := by decide +kernel
theorem d_R_come_91 : decode prog_9_method_9_code 91 = .ok (.if_icmp .ne 23, 3) := by decide +kernel
theorem d_R_come_94 : decode prog_9_method_9_code 94 = .ok (.aload_n 0, 1) := by decide +kernel
theorem d_R_come_95 : decode prog_9_method_9_code 95 = .ok (.getfield 80, 3) := by decide +kernel
theorem d_R_come_98 : decode prog_9_method_9_code 98 = .ok (.bipush 12, 2) := by decide +kernel
theorem d_R_come_100 : decode prog_9_method_9_code 100 = .ok (.iaload, 1) := by decide +kernel
theorem d_R_come_101 : decode prog_9_method_9_code 101 = .ok (.iload 4, 2) := by decide +kernel
theorem d_R_come_103 : decode prog_9_method_9_code 103 = .ok (.sipush 255, 3) := by decide +kernel
theorem d_R_come_106 : decode prog_9_method_9_code 106 = .ok (.iand, 1) := by decide +kernel
theorem d_R_come_107 : decode prog_9_method_9_code 107 = .ok (.if_icmp .ne 7, 3) := by decide +kernel
theorem d_R_come_110 : decode prog_9_method_9_code 110 = .ok (.iconst 1, 1) := by decide +kernel
theorem d_R_come_111 : decode prog_9_method_9_code 111 = .ok (.goto 4, 3) := by decide +kernel
theorem d_R_come_114 : decode prog_9_method_9_code 114 = .ok (.iconst 0, 1) := by decide +kernel
theorem d_R_come_115 : decode prog_9_method_9_code 115 = .ok (.istore 5, 2) := by decide +kernel
theorem d_R_come_117 : decode prog_9_method_9_code 117 = .ok (.iload 5, 2) := by decide +kernel
theorem d_R_come_119 : decode prog_9_method_9_code 119 = .ok (.ifCond .eq 20, 3) := by decide +kernel
theorem d_R_come_122 : decode prog_9_method_9_code 122 = .ok (.iload_n 3, 1) := by decide +kernel
theorem d_R_come_123 : decode prog_9_method_9_code 123 = .ok (.ifCond .eq 10, 3) := by decide +kernel
theorem d_R_come_126 : decode prog_9_method_9_code 126 = .ok (.aload_n 0, 1) := by decide +kernel
theorem d_R_come_127 : decode prog_9_method_9_code 127 = .ok (.invokevirtual 103, 3) := by decide +kernel
theorem d_R_come_130 : decode prog_9_method_9_code 130 = .ok (.goto 7, 3) := by decide +kernel
theorem d_R_come_133 : decode prog_9_method_9_code 133 = .ok (.aload_n 0, 1) := by decide +kernel
theorem d_R_come_134 : decode prog_9_method_9_code 134 = .ok (.invokevirtual 107, 3) := by decide +kernel
theorem d_R_come_137 : decode prog_9_method_9_code 137 = .ok (.istore 5, 2) := by decide +kernel
theorem d_R_come_139 : decode prog_9_method_9_code 139 = .ok (.aload_n 0, 1) := by decide +kernel
theorem d_R_come_140 : decode prog_9_method_9_code 140 = .ok (.dup, 1) := by decide +kernel
theorem d_R_come_141 : decode prog_9_method_9_code 141 = .ok (.getfield 110, 3) := by decide +kernel
theorem d_R_come_144 : decode prog_9_method_9_code 144 = .ok (.iload 5, 2) := by decide +kernel
theorem d_R_come_146 : decode prog_9_method_9_code 146 = .ok (.ifCond .eq 7, 3) := by decide +kernel
theorem d_R_come_149 : decode prog_9_method_9_code 149 = .ok (.iconst 0, 1) := by decide +kernel
theorem d_R_come_150 : decode prog_9_method_9_code 150 = .ok (.goto 4, 3) := by decide +kernel
theorem d_R_come_153 : decode prog_9_method_9_code 153 = .ok (.iconst 1, 1) := by decide +kernel
theorem d_R_come_154 : decode prog_9_method_9_code 154 = .ok (.iadd, 1) := by decide +kernel
theorem d_R_come_155 : decode prog_9_method_9_code 155 = .ok (.putfield 110, 3) := by decide +kernel
theorem d_R_come_158 : decode prog_9_method_9_code 158 = .ok (.return_, 1) := by decide +kernel
theorem d_R_deliver_0 : decode prog_9_method_31_code 0 = .ok (.aload_n 0, 1) := by decide +kernel
theorem d_R_deliver_1 : decode prog_9_method_31_code 1 = .ok (.iload_n 1, 1) := by decide +kernel
theorem d_R_deliver_2 : decode prog_9_method_31_code 2 = .ok (.invokevirtual 187, 3) := by decide +kernel
theorem d_R_deliver_5 : decode prog_9_method_31_code 5 = .ok (.ifCond .ne 5, 3) := by decide +kernel
theorem d_R_deliver_8 : decode prog_9_method_31_code 8 = .ok (.iconst (-1), 1) := by decide +kernel
theorem d_R_deliver_9 : decode prog_9_method_31_code 9 = .ok (.ireturn, 1) := by decide +kernel
theorem d_R_deliver_10 : decode prog_9_method_31_code 10 = .ok (.aload_n 0, 1) := by decide +kernel
theorem d_R_deliver_11 : decode prog_9_method_31_code 11 = .ok (.iload_n 1, 1) := by decide +kernel
theorem d_R_deliver_12 : decode prog_9_method_31_code 12 = .ok (.iconst 0, 1) := by decide +kernel
theorem d_R_deliver_13 : decode prog_9_method_31_code 13 = .ok (.invokevirtual 190, 3) := by decide +kernel
theorem d_R_deliver_16 : decode prog_9_method_31_code 16 = .ok (.aload_n 0, 1) := by decide +kernel
theorem d_R_deliver_17 : decode prog_9_method_31_code 17 = .ok (.getfield 89, 3) := by decide +kernel
theorem d_R_deliver_20 : decode prog_9_method_31_code 20 = .ok (.ireturn, 1) := by decide +kernel
theorem d_R_twice_0 : decode prog_9_method_32_code 0 = .ok (.aload_n 0, 1) := by decide +kernel
theorem d_R_twice_1 : decode prog_9_method_32_code 1 = .ok (.iload_n 1, 1) := by decide +kernel
theorem d_R_twice_2 : decode prog_9_method_32_code 2 = .ok (.invokevirtual 187, 3) := by decide +kernel
theorem d_R_twice_5 : decode prog_9_method_32_code 5 = .ok (.ifCond .ne 5, 3) := by decide +kernel
theorem d_R_twice_8 : decode prog_9_method_32_code 8 = .ok (.iconst (-1), 1) := by decide +kernel
theorem d_R_twice_9 : decode prog_9_method_32_code 9 = .ok (.ireturn, 1) := by decide +kernel
theorem d_R_twice_10 : decode prog_9_method_32_code 10 = .ok (.aload_n 0, 1) := by decide +kernel
theorem d_R_twice_11 : decode prog_9_method_32_code 11 = .ok (.iload_n 1, 1) := by decide +kernel
theorem d_R_twice_12 : decode prog_9_method_32_code 12 = .ok (.iconst 1, 1) := by decide +kernel
theorem d_R_twice_13 : decode prog_9_method_32_code 13 = .ok (.invokevirtual 190, 3) := by decide +kernel
theorem d_R_twice_16 : decode prog_9_method_32_code 16 = .ok (.aload_n 0, 1) := by decide +kernel
theorem d_R_twice_17 : decode prog_9_method_32_code 17 = .ok (.getfield 89, 3) := by decide +kernel
theorem d_R_twice_20 : decode prog_9_method_32_code 20 = .ok (.ireturn, 1) := by decide +kernel
theorem d_R_lose_0 : decode prog_9_method_33_code 0 = .ok (.aload_n 0, 1) := by decide +kernel
theorem d_R_lose_1 : decode prog_9_method_33_code 1 = .ok (.iload_n 1, 1) := by decide +kernel
theorem d_R_lose_2 : decode prog_9_method_33_code 2 = .ok (.invokevirtual 187, 3) := by decide +kernel
theorem d_R_lose_5 : decode prog_9_method_33_code 5 = .ok (.ifCond .ne 5, 3) := by decide +kernel
theorem d_R_lose_8 : decode prog_9_method_33_code 8 = .ok (.iconst (-1), 1) := by decide +kernel
theorem d_R_lose_9 : decode prog_9_method_33_code 9 = .ok (.ireturn, 1) := by decide +kernel
theorem d_R_lose_10 : decode prog_9_method_33_code 10 = .ok (.aload_n 0, 1) := by decide +kernel
theorem d_R_lose_11 : decode prog_9_method_33_code 11 = .ok (.iload_n 1, 1) := by decide +kernel
theorem d_R_lose_12 : decode prog_9_method_33_code 12 = .ok (.invokevirtual 92, 3) := by decide +kernel
theorem d_R_lose_15 : decode prog_9_method_33_code 15 = .ok (.aload_n 0, 1) := by decide +kernel
theorem d_R_lose_16 : decode prog_9_method_33_code 16 = .ok (.getfield 89, 3) := by decide +kernel
theorem d_R_lose_19 : decode prog_9_method_33_code 19 = .ok (.ireturn, 1) := by decide +kernel
theorem d_R_poke_0 : decode prog_9_method_34_code 0 = .ok (.aload_n 0, 1) := by decide +kernel
theorem d_R_poke_1 : decode prog_9_method_34_code 1 = .ok (.iload_n 1, 1) := by decide +kernel
theorem d_R_poke_2 : decode prog_9_method_34_code 2 = .ok (.invokevirtual 187, 3) := by decide +kernel
theorem d_R_poke_5 : decode prog_9_method_34_code 5 = .ok (.ifCond .eq 25, 3) := by decide +kernel
theorem d_R_poke_8 : decode prog_9_method_34_code 8 = .ok (.iload_n 2, 1) := by decide +kernel
theorem d_R_poke_9 : decode prog_9_method_34_code 9 = .ok (.ifCond .lt 21, 3) := by decide +kernel
theorem d_R_poke_12 : decode prog_9_method_34_code 12 = .ok (.iload_n 2, 1) := by decide +kernel
theorem d_R_poke_13 : decode prog_9_method_34_code 13 = .ok (.bipush 12, 2) := by decide +kernel
theorem d_R_poke_15 : decode prog_9_method_34_code 15 = .ok (.if_icmp .gt 15, 3) := by decide +kernel
theorem d_R_poke_18 : decode prog_9_method_34_code 18 = .ok (.iload_n 3, 1) := by decide +kernel
theorem d_R_poke_19 : decode prog_9_method_34_code 19 = .ok (.iconst 1, 1) := by decide +kernel
theorem d_R_poke_20 : decode prog_9_method_34_code 20 = .ok (.if_icmp .lt 10, 3) := by decide +kernel
theorem d_R_poke_23 : decode prog_9_method_34_code 23 = .ok (.iload_n 3, 1) := by decide +kernel
theorem d_R_poke_24 : decode prog_9_method_34_code 24 = .ok (.sipush 255, 3) := by decide +kernel
theorem d_R_poke_27 : decode prog_9_method_34_code 27 = .ok (.if_icmp .le 5, 3) := by decide +kernel
theorem d_R_poke_30 : decode prog_9_method_34_code 30 = .ok (.iconst 0, 1) := by decide +kernel
theorem d_R_poke_31 : decode prog_9_method_34_code 31 = .ok (.ireturn, 1) := by decide +kernel
theorem d_R_poke_32 : decode prog_9_method_34_code 32 = .ok (.aload_n 0, 1) := by decide +kernel
theorem d_R_poke_33 : decode prog_9_method_34_code 33 = .ok (.getfield 77, 3) := by decide +kernel
theorem d_R_poke_36 : decode prog_9_method_34_code 36 = .ok (.bipush 14, 2) := by decide +kernel
theorem d_R_poke_38 : decode prog_9_method_34_code 38 = .ok (.iload_n 1, 1) := by decide +kernel
theorem d_R_poke_39 : decode prog_9_method_34_code 39 = .ok (.imul, 1) := by decide +kernel
theorem d_R_poke_40 : decode prog_9_method_34_code 40 = .ok (.iload_n 2, 1) := by decide +kernel
theorem d_R_poke_41 : decode prog_9_method_34_code 41 = .ok (.iadd, 1) := by decide +kernel
theorem d_R_poke_42 : decode prog_9_method_34_code 42 = .ok (.dup2, 1) := by decide +kernel
theorem d_R_poke_43 : decode prog_9_method_34_code 43 = .ok (.iaload, 1) := by decide +kernel
theorem d_R_poke_44 : decode prog_9_method_34_code 44 = .ok (.iload_n 3, 1) := by decide +kernel
theorem d_R_poke_45 : decode prog_9_method_34_code 45 = .ok (.ixor, 1) := by decide +kernel
theorem d_R_poke_46 : decode prog_9_method_34_code 46 = .ok (.iastore, 1) := by decide +kernel
theorem d_R_poke_47 : decode prog_9_method_34_code 47 = .ok (.iconst 1, 1) := by decide +kernel
theorem d_R_poke_48 : decode prog_9_method_34_code 48 = .ok (.ireturn, 1) := by decide +kernel
