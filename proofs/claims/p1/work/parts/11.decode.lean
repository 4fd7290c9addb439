theorem d_J_lastBegun_0 : decode prog_3_method_6_code 0 = .ok (.aload_n 0, 1) := by decide +kernel
theorem d_J_lastBegun_1 : decode prog_3_method_6_code 1 = .ok (.getfield 24, 3) := by decide +kernel
theorem d_J_lastBegun_4 : decode prog_3_method_6_code 4 = .ok (.iconst 1, 1) := by decide +kernel
theorem d_J_lastBegun_5 : decode prog_3_method_6_code 5 = .ok (.isub, 1) := by decide +kernel
theorem d_J_lastBegun_6 : decode prog_3_method_6_code 6 = .ok (.istore_n 1, 1) := by decide +kernel
theorem d_J_lastBegun_7 : decode prog_3_method_6_code 7 = .ok (.iload_n 1, 1) := by decide +kernel
theorem d_J_lastBegun_8 : decode prog_3_method_6_code 8 = .ok (.ifCond .lt 21, 3) := by decide +kernel
theorem d_J_lastBegun_11 : decode prog_3_method_6_code 11 = .ok (.aload_n 0, 1) := by decide +kernel
theorem d_J_lastBegun_12 : decode prog_3_method_6_code 12 = .ok (.iload_n 1, 1) := by decide +kernel
theorem d_J_lastBegun_13 : decode prog_3_method_6_code 13 = .ok (.iconst 0, 1) := by decide +kernel
theorem d_J_lastBegun_14 : decode prog_3_method_6_code 14 = .ok (.invokevirtual 36, 3) := by decide +kernel
theorem d_J_lastBegun_17 : decode prog_3_method_6_code 17 = .ok (.iconst 1, 1) := by decide +kernel
theorem d_J_lastBegun_18 : decode prog_3_method_6_code 18 = .ok (.if_icmp .ne 5, 3) := by decide +kernel
theorem d_J_lastBegun_21 : decode prog_3_method_6_code 21 = .ok (.iload_n 1, 1) := by decide +kernel
theorem d_J_lastBegun_22 : decode prog_3_method_6_code 22 = .ok (.ireturn, 1) := by decide +kernel
theorem d_J_lastBegun_23 : decode prog_3_method_6_code 23 = .ok (.iinc 1 (-1), 3) := by decide +kernel
theorem d_J_lastBegun_26 : decode prog_3_method_6_code 26 = .ok (.goto (-19), 3) := by decide +kernel
theorem d_J_lastBegun_29 : decode prog_3_method_6_code 29 = .ok (.iconst (-1), 1) := by decide +kernel
theorem d_J_lastBegun_30 : decode prog_3_method_6_code 30 = .ok (.ireturn, 1) := by decide +kernel
theorem d_M_recallLastBegun_0 : decode prog_6_method_18_code 0 = .ok (.aload_n 0, 1) := by decide +kernel
theorem d_M_recallLastBegun_1 : decode prog_6_method_18_code 1 = .ok (.getfield 21, 3) := by decide +kernel
theorem d_M_recallLastBegun_4 : decode prog_6_method_18_code 4 = .ok (.invokevirtual 168, 3) := by decide +kernel
theorem d_M_recallLastBegun_7 : decode prog_6_method_18_code 7 = .ok (.istore_n 1, 1) := by decide +kernel
theorem d_M_recallLastBegun_8 : decode prog_6_method_18_code 8 = .ok (.iload_n 1, 1) := by decide +kernel
theorem d_M_recallLastBegun_9 : decode prog_6_method_18_code 9 = .ok (.iconst (-1), 1) := by decide +kernel
theorem d_M_recallLastBegun_10 : decode prog_6_method_18_code 10 = .ok (.if_icmp .eq 42, 3) := by decide +kernel
theorem d_M_recallLastBegun_13 : decode prog_6_method_18_code 13 = .ok (.aload_n 0, 1) := by decide +kernel
theorem d_M_recallLastBegun_14 : decode prog_6_method_18_code 14 = .ok (.aload_n 0, 1) := by decide +kernel
theorem d_M_recallLastBegun_15 : decode prog_6_method_18_code 15 = .ok (.getfield 21, 3) := by decide +kernel
theorem d_M_recallLastBegun_18 : decode prog_6_method_18_code 18 = .ok (.iload_n 1, 1) := by decide +kernel
theorem d_M_recallLastBegun_19 : decode prog_6_method_18_code 19 = .ok (.iconst 1, 1) := by decide +kernel
theorem d_M_recallLastBegun_20 : decode prog_6_method_18_code 20 = .ok (.invokevirtual 171, 3) := by decide +kernel
theorem d_M_recallLastBegun_23 : decode prog_6_method_18_code 23 = .ok (.putfield 128, 3) := by decide +kernel
theorem d_M_recallLastBegun_26 : decode prog_6_method_18_code 26 = .ok (.aload_n 0, 1) := by decide +kernel
theorem d_M_recallLastBegun_27 : decode prog_6_method_18_code 27 = .ok (.aload_n 0, 1) := by decide +kernel
theorem d_M_recallLastBegun_28 : decode prog_6_method_18_code 28 = .ok (.getfield 21, 3) := by decide +kernel
theorem d_M_recallLastBegun_31 : decode prog_6_method_18_code 31 = .ok (.iload_n 1, 1) := by decide +kernel
theorem d_M_recallLastBegun_32 : decode prog_6_method_18_code 32 = .ok (.iconst 2, 1) := by decide +kernel
theorem d_M_recallLastBegun_33 : decode prog_6_method_18_code 33 = .ok (.invokevirtual 171, 3) := by decide +kernel
theorem d_M_recallLastBegun_36 : decode prog_6_method_18_code 36 = .ok (.putfield 84, 3) := by decide +kernel
theorem d_M_recallLastBegun_39 : decode prog_6_method_18_code 39 = .ok (.aload_n 0, 1) := by decide +kernel
theorem d_M_recallLastBegun_40 : decode prog_6_method_18_code 40 = .ok (.aload_n 0, 1) := by decide +kernel
theorem d_M_recallLastBegun_41 : decode prog_6_method_18_code 41 = .ok (.getfield 21, 3) := by decide +kernel
theorem d_M_recallLastBegun_44 : decode prog_6_method_18_code 44 = .ok (.iload_n 1, 1) := by decide +kernel
theorem d_M_recallLastBegun_45 : decode prog_6_method_18_code 45 = .ok (.iconst 3, 1) := by decide +kernel
theorem d_M_recallLastBegun_46 : decode prog_6_method_18_code 46 = .ok (.invokevirtual 171, 3) := by decide +kernel
theorem d_M_recallLastBegun_49 : decode prog_6_method_18_code 49 = .ok (.putfield 46, 3) := by decide +kernel
theorem d_M_recallLastBegun_52 : decode prog_6_method_18_code 52 = .ok (.return_, 1) := by decide +kernel
theorem d_J_lastKind_0 : decode prog_3_method_5_code 0 = .ok (.aload_n 0, 1) := by decide +kernel
theorem d_J_lastKind_1 : decode prog_3_method_5_code 1 = .ok (.aload_n 0, 1) := by decide +kernel
theorem d_J_lastKind_2 : decode prog_3_method_5_code 2 = .ok (.getfield 24, 3) := by decide +kernel
theorem d_J_lastKind_5 : decode prog_3_method_5_code 5 = .ok (.iconst 1, 1) := by decide +kernel
theorem d_J_lastKind_6 : decode prog_3_method_5_code 6 = .ok (.isub, 1) := by decide +kernel
theorem d_J_lastKind_7 : decode prog_3_method_5_code 7 = .ok (.iconst 0, 1) := by decide +kernel
theorem d_J_lastKind_8 : decode prog_3_method_5_code 8 = .ok (.invokevirtual 36, 3) := by decide +kernel
theorem d_J_lastKind_11 : decode prog_3_method_5_code 11 = .ok (.ireturn, 1) := by decide +kernel
theorem d_M_switchOn_0 : decode prog_6_method_17_code 0 = .ok (.aload_n 0, 1) := by decide +kernel
theorem d_M_switchOn_1 : decode prog_6_method_17_code 1 = .ok (.getfield 29, 3) := by decide +kernel
theorem d_M_switchOn_4 : decode prog_6_method_17_code 4 = .ok (.ifCond .eq 5, 3) := by decide +kernel
theorem d_M_switchOn_7 : decode prog_6_method_17_code 7 = .ok (.iconst 0, 1) := by decide +kernel
theorem d_M_switchOn_8 : decode prog_6_method_17_code 8 = .ok (.ireturn, 1) := by decide +kernel
theorem d_M_switchOn_9 : decode prog_6_method_17_code 9 = .ok (.aload_n 0, 1) := by decide +kernel
theorem d_M_switchOn_10 : decode prog_6_method_17_code 10 = .ok (.iconst 1, 1) := by decide +kernel
theorem d_M_switchOn_11 : decode prog_6_method_17_code 11 = .ok (.putfield 29, 3) := by decide +kernel
theorem d_M_switchOn_14 : decode prog_6_method_17_code 14 = .ok (.aload_n 0, 1) := by decide +kernel
theorem d_M_switchOn_15 : decode prog_6_method_17_code 15 = .ok (.iconst (-1), 1) := by decide +kernel
theorem d_M_switchOn_16 : decode prog_6_method_17_code 16 = .ok (.putfield 33, 3) := by decide +kernel
theorem d_M_switchOn_19 : decode prog_6_method_17_code 19 = .ok (.aload_n 0, 1) := by decide +kernel
theorem d_M_switchOn_20 : decode prog_6_method_17_code 20 = .ok (.invokevirtual 61, 3) := by decide +kernel
theorem d_M_switchOn_23 : decode prog_6_method_17_code 23 = .ok (.aload_n 0, 1) := by decide +kernel
theorem d_M_switchOn_24 : decode prog_6_method_17_code 24 = .ok (.invokevirtual 162, 3) := by decide +kernel
theorem d_M_switchOn_27 : decode prog_6_method_17_code 27 = .ok (.aload_n 0, 1) := by decide +kernel
theorem d_M_switchOn_28 : decode prog_6_method_17_code 28 = .ok (.getfield 21, 3) := by decide +kernel
theorem d_M_switchOn_31 : decode prog_6_method_17_code 31 = .ok (.invokevirtual 165, 3) := by decide +kernel
theorem d_M_switchOn_34 : decode prog_6_method_17_code 34 = .ok (.tableswitch 81 1 4 #[30, 38, 81, 38], 30) := by decide +kernel
theorem d_M_switchOn_64 : decode prog_6_method_17_code 64 = .ok (.aload_n 0, 1) := by decide +kernel
theorem d_M_switchOn_65 : decode prog_6_method_17_code 65 = .ok (.iconst 1, 1) := by decide +kernel
theorem d_M_switchOn_66 : decode prog_6_method_17_code 66 = .ok (.invokevirtual 96, 3) := by decide +kernel
theorem d_M_switchOn_69 : decode prog_6_method_17_code 69 = .ok (.goto 46, 3) := by decide +kernel
theorem d_M_switchOn_72 : decode prog_6_method_17_code 72 = .ok (.aload_n 0, 1) := by decide +kernel
theorem d_M_switchOn_73 : decode prog_6_method_17_code 73 = .ok (.getfield 90, 3) := by decide +kernel
theorem d_M_switchOn_76 : decode prog_6_method_17_code 76 = .ok (.aload_n 0, 1) := by decide +kernel
theorem d_M_switchOn_77 : decode prog_6_method_17_code 77 = .ok (.getfield 93, 3) := by decide +kernel
theorem d_M_switchOn_80 : decode prog_6_method_17_code 80 = .ok (.if_icmp .le 12, 3) := by decide +kernel
theorem d_M_switchOn_83 : decode prog_6_method_17_code 83 = .ok (.aload_n 0, 1) := by decide +kernel
theorem d_M_switchOn_84 : decode prog_6_method_17_code 84 = .ok (.iconst 3, 1) := by decide +kernel
theorem d_M_switchOn_85 : decode prog_6_method_17_code 85 = .ok (.invokevirtual 87, 3) := by decide +kernel
theorem d_M_switchOn_88 : decode prog_6_method_17_code 88 = .ok (.pop, 1) := by decide +kernel
theorem d_M_switchOn_89 : decode prog_6_method_17_code 89 = .ok (.goto 26, 3) := by decide +kernel
theorem d_M_switchOn_92 : decode prog_6_method_17_code 92 = .ok (.aload_n 0, 1) := by decide +kernel
theorem d_M_switchOn_93 : decode prog_6_method_17_code 93 = .ok (.aload_n 0, 1) := by decide +kernel
theorem d_M_switchOn_94 : decode prog_6_method_17_code 94 = .ok (.getfield 21, 3) := by decide +kernel
theorem d_M_switchOn_97 : decode prog_6_method_17_code 97 = .ok (.invokevirtual 165, 3) := by decide +kernel
theorem d_M_switchOn_100 : decode prog_6_method_17_code 100 = .ok (.iconst 2, 1) := by decide +kernel
theorem d_M_switchOn_101 : decode prog_6_method_17_code 101 = .ok (.if_icmp .ne 7, 3) := by decide +kernel
theorem d_M_switchOn_104 : decode prog_6_method_17_code 104 = .ok (.iconst 1, 1) := by decide +kernel
theorem d_M_switchOn_105 : decode prog_6_method_17_code 105 = .ok (.goto 4, 3) := by decide +kernel
theorem d_M_switchOn_108 : decode prog_6_method_17_code 108 = .ok (.iconst 0, 1) := by decide +kernel
theorem d_M_switchOn_109 : decode prog_6_method_17_code 109 = .ok (.invokevirtual 96, 3) := by decide +kernel
theorem d_M_switchOn_112 : decode prog_6_method_17_code 112 = .ok (.goto 3, 3) := by decide +kernel
theorem d_M_switchOn_115 : decode prog_6_method_17_code 115 = .ok (.iconst 1, 1) := by decide +kernel
theorem d_M_switchOn_116 : decode prog_6_method_17_code 116 = .ok (.ireturn, 1) := by decide +kernel
theorem d_A_power_0 : decode prog_1_method_18_code 0 = .ok (.aload_n 0, 1) := by decide +kernel
theorem d_A_power_1 : decode prog_1_method_18_code 1 = .ok (.getfield 28, 3) := by decide +kernel
theorem d_A_power_4 : decode prog_1_method_18_code 4 = .ok (.invokevirtual 109, 3) := by decide +kernel
theorem d_A_power_7 : decode prog_1_method_18_code 7 = .ok (.ireturn, 1) := by decide +kernel
theorem d_O_tell_0 : decode prog_7_method_3_code 0 = .ok (.iload_n 1, 1) := by decide +kernel
theorem d_O_tell_1 : decode prog_7_method_3_code 1 = .ok (.invokestatic 38, 3) := by decide +kernel
theorem d_O_tell_4 : decode prog_7_method_3_code 4 = .ok (.ifCond .ne 5, 3) := by decide +kernel
theorem d_O_tell_7 : decode prog_7_method_3_code 7 = .ok (.iconst (-1), 1) := by decide +kernel
theorem d_O_tell_8 : decode prog_7_method_3_code 8 = .ok (.ireturn, 1) := by decide +kernel
theorem d_O_tell_9 : decode prog_7_method_3_code 9 = .ok (.iload_n 2, 1) := by decide +kernel
theorem d_O_tell_10 : decode prog_7_method_3_code 10 = .ok (.tableswitch 69 0 4 #[34, 41, 48, 55, 62], 34) := by decide +kernel
theorem d_O_tell_44 : decode prog_7_method_3_code 44 = .ok (.aload_n 0, 1) := by decide +kernel
theorem d_O_tell_45 : decode prog_7_method_3_code 45 = .ok (.getfield 18, 3) := by decide +kernel
theorem d_O_tell_48 : decode prog_7_method_3_code 48 = .ok (.iload_n 1, 1) := by decide +kernel
theorem d_O_tell_49 : decode prog_7_method_3_code 49 = .ok (.iaload, 1) := by decide +kernel
theorem d_O_tell_50 : decode prog_7_method_3_code 50 = .ok (.ireturn, 1) := by decide +kernel
theorem d_O_tell_51 : decode prog_7_method_3_code 51 = .ok (.aload_n 0, 1) := by decide +kernel
theorem d_O_tell_52 : decode prog_7_method_3_code 52 = .ok (.getfield 23, 3) := by decide +kernel
theorem d_O_tell_55 : decode prog_7_method_3_code 55 = .ok (.iload_n 1, 1) := by decide +kernel
theorem d_O_tell_56 : decode prog_7_method_3_code 56 = .ok (.iaload, 1) := by decide +kernel
theorem d_O_tell_57 : decode prog_7_method_3_code 57 = .ok (.ireturn, 1) := by decide +kernel
theorem d_O_tell_58 : decode prog_7_method_3_code 58 = .ok (.aload_n 0, 1) := by decide +kernel
theorem d_O_tell_59 : decode prog_7_method_3_code 59 = .ok (.getfield 26, 3) := by decide +kernel
theorem d_O_tell_62 : decode prog_7_method_3_code 62 = .ok (.iload_n 1, 1) := by decide +kernel
theorem d_O_tell_63 : decode prog_7_method_3_code 63 = .ok (.iaload, 1) := by decide +kernel
theorem d_O_tell_64 : decode prog_7_method_3_code 64 = .ok (.ireturn, 1) := by decide +kernel
theorem d_O_tell_65 : decode prog_7_method_3_code 65 = .ok (.aload_n 0, 1) := by decide +kernel
theorem d_O_tell_66 : decode prog_7_method_3_code 66 = .ok (.getfield 29, 3) := by decide +kernel
theorem d_O_tell_69 : decode prog_7_method_3_code 69 = .ok (.iload_n 1, 1) := by decide +kernel
theorem d_O_tell_70 : decode prog_7_method_3_code 70 = .ok (.iaload, 1) := by decide +kernel
theorem d_O_tell_71 : decode prog_7_method_3_code 71 = .ok (.ireturn, 1) := by decide +kernel
theorem d_O_tell_72 : decode prog_7_method_3_code 72 = .ok (.aload_n 0, 1) := by decide +kernel
theorem d_O_tell_73 : decode prog_7_method_3_code 73 = .ok (.getfield 32, 3) := by decide +kernel
theorem d_O_tell_76 : decode prog_7_method_3_code 76 = .ok (.iload_n 1, 1) := by decide +kernel
theorem d_O_tell_77 : decode prog_7_method_3_code 77 = .ok (.iaload, 1) := by decide +kernel
theorem d_O_tell_78 : decode prog_7_method_3_code 78 = .ok (.ireturn, 1) := by decide +kernel
theorem d_O_tell_79 : decode prog_7_method_3_code 79 = .ok (.iconst (-1), 1) := by decide +kernel
theorem d_O_tell_80 : decode prog_7_method_3_code 80 = .ok (.ireturn, 1) := by decide +kernel
theorem d_A_cassette_0 : decode prog_1_method_19_code 0 = .ok (.aload_n 0, 1) := by decide +kernel
theorem d_A_cassette_1 : decode prog_1_method_19_code 1 = .ok (.getfield 28, 3) := by decide +kernel
theorem d_A_cassette_4 : decode prog_1_method_19_code 4 = .ok (.getfield 65, 3) := by decide +kernel
theorem d_A_cassette_7 : decode prog_1_method_19_code 7 = .ok (.iload_n 1, 1) := by decide +kernel
theorem d_A_cassette_8 : decode prog_1_method_19_code 8 = .ok (.iload_n 2, 1) := by decide +kernel
theorem d_A_cassette_9 : decode prog_1_method_19_code 9 = .ok (.invokevirtual 112, 3) := by decide +kernel
theorem d_A_cassette_12 : decode prog_1_method_19_code 12 = .ok (.ireturn, 1) := by decide +kernel
theorem d_O_mixedOf_0 : decode prog_7_method_4_code 0 = .ok (.iload_n 2, 1) := by decide +kernel
theorem d_O_mixedOf_1 : decode prog_7_method_4_code 1 = .ok (.invokestatic 38, 3) := by decide +kernel
theorem d_O_mixedOf_4 : decode prog_7_method_4_code 4 = .ok (.ifCond .eq 11, 3) := by decide +kernel
theorem d_O_mixedOf_7 : decode prog_7_method_4_code 7 = .ok (.aload_n 0, 1) := by decide +kernel
theorem d_O_mixedOf_8 : decode prog_7_method_4_code 8 = .ok (.iload_n 1, 1) := by decide +kernel
theorem d_O_mixedOf_9 : decode prog_7_method_4_code 9 = .ok (.invokevirtual 50, 3) := by decide +kernel
theorem d_O_mixedOf_12 : decode prog_7_method_4_code 12 = .ok (.ifCond .ne 5, 3) := by decide +kernel
theorem d_O_mixedOf_15 : decode prog_7_method_4_code 15 = .ok (.iconst (-1), 1) := by decide +kernel
theorem d_O_mixedOf_16 : decode prog_7_method_4_code 16 = .ok (.ireturn, 1) := by decide +kernel
theorem d_O_mixedOf_17 : decode prog_7_method_4_code 17 = .ok (.aload_n 0, 1) := by decide +kernel
theorem d_O_mixedOf_18 : decode prog_7_method_4_code 18 = .ok (.getfield 35, 3) := by decide +kernel
theorem d_O_mixedOf_21 : decode prog_7_method_4_code 21 = .ok (.iload_n 2, 1) := by decide +kernel
theorem d_O_mixedOf_22 : decode prog_7_method_4_code 22 = .ok (.iaload, 1) := by decide +kernel
theorem d_O_mixedOf_23 : decode prog_7_method_4_code 23 = .ok (.ireturn, 1) := by decide +kernel
theorem d_A_mix_0 : decode prog_1_method_20_code 0 = .ok (.aload_n 0, 1) := by decide +kernel
theorem d_A_mix_1 : decode prog_1_method_20_code 1 = .ok (.getfield 28, 3) := by decide +kernel
theorem d_A_mix_4 : decode prog_1_method_20_code 4 = .ok (.getfield 65, 3) := by decide +kernel
theorem d_A_mix_7 : decode prog_1_method_20_code 7 = .ok (.iload_n 1, 1) := by decide +kernel
theorem d_A_mix_8 : decode prog_1_method_20_code 8 = .ok (.iload_n 2, 1) := by decide +kernel
theorem d_A_mix_9 : decode prog_1_method_20_code 9 = .ok (.invokevirtual 115, 3) := by decide +kernel
theorem d_A_mix_12 : decode prog_1_method_20_code 12 = .ok (.ireturn, 1) := by decide +kernel
theorem d_H_balanceOf_0 : decode prog_2_method_4_code 0 = .ok (.iload_n 1, 1) := by decide +kernel
theorem d_H_balanceOf_1 : decode prog_2_method_4_code 1 = .ok (.invokestatic 47, 3) := by decide +kernel
theorem d_H_balanceOf_4 : decode prog_2_method_4_code 4 = .ok (.ifCond .eq 12, 3) := by decide +kernel
theorem d_H_balanceOf_7 : decode prog_2_method_4_code 7 = .ok (.aload_n 0, 1) := by decide +kernel
theorem d_H_balanceOf_8 : decode prog_2_method_4_code 8 = .ok (.getfield 9, 3) := by decide +kernel
theorem d_H_balanceOf_11 : decode prog_2_method_4_code 11 = .ok (.iload_n 1, 1) := by decide +kernel
theorem d_H_balanceOf_12 : decode prog_2_method_4_code 12 = .ok (.laload, 1) := by decide +kernel
theorem d_H_balanceOf_13 : decode prog_2_method_4_code 13 = .ok (.goto 6, 3) := by decide +kernel
theorem d_H_balanceOf_16 : decode prog_2_method_4_code 16 = .ok (.ldc2_w 64, 3) := by decide +kernel
theorem d_H_balanceOf_19 : decode prog_2_method_4_code 19 = .ok (.lreturn, 1) := by decide +kernel
theorem d_A_balance_0 : decode prog_1_method_21_code 0 = .ok (.aload_n 0, 1) := by decide +kernel
theorem d_A_balance_1 : decode prog_1_method_21_code 1 = .ok (.getfield 21, 3) := by decide +kernel
theorem d_A_balance_4 : decode prog_1_method_21_code 4 = .ok (.iload_n 1, 1) := by decide +kernel
theorem d_A_balance_5 : decode prog_1_method_21_code 5 = .ok (.invokevirtual 118, 3) := by decide +kernel
theorem d_A_balance_8 : decode prog_1_method_21_code 8 = .ok (.lreturn, 1) := by decide +kernel
theorem d_H_triesOf_0 : decode prog_2_method_5_code 0 = .ok (.iload_n 1, 1) := by decide +kernel
theorem d_H_triesOf_1 : decode prog_2_method_5_code 1 = .ok (.invokestatic 57, 3) := by decide +kernel
theorem d_H_triesOf_4 : decode prog_2_method_5_code 4 = .ok (.ifCond .eq 12, 3) := by decide +kernel
theorem d_H_triesOf_7 : decode prog_2_method_5_code 7 = .ok (.aload_n 0, 1) := by decide +kernel
theorem d_H_triesOf_8 : decode prog_2_method_5_code 8 = .ok (.getfield 22, 3) := by decide +kernel
theorem d_H_triesOf_11 : decode prog_2_method_5_code 11 = .ok (.iload_n 1, 1) := by decide +kernel
theorem d_H_triesOf_12 : decode prog_2_method_5_code 12 = .ok (.iaload, 1) := by decide +kernel
theorem d_H_triesOf_13 : decode prog_2_method_5_code 13 = .ok (.goto 4, 3) := by decide +kernel
theorem d_H_triesOf_16 : decode prog_2_method_5_code 16 = .ok (.iconst (-1), 1) := by decide +kernel
theorem d_H_triesOf_17 : decode prog_2_method_5_code 17 = .ok (.ireturn, 1) := by decide +kernel
theorem d_M_keptOf_0 : decode prog_6_method_5_code 0 = .ok (.iload_n 1, 1) := by decide +kernel
theorem d_M_keptOf_1 : decode prog_6_method_5_code 1 = .ok (.invokestatic 57, 3) := by decide +kernel
theorem d_M_keptOf_4 : decode prog_6_method_5_code 4 = .ok (.ifCond .ne 5, 3) := by decide +kernel
theorem d_M_keptOf_7 : decode prog_6_method_5_code 7 = .ok (.iconst (-1), 1) := by decide +kernel
theorem d_M_keptOf_8 : decode prog_6_method_5_code 8 = .ok (.ireturn, 1) := by decide +kernel
theorem d_M_keptOf_9 : decode prog_6_method_5_code 9 = .ok (.aload_n 0, 1) := by decide +kernel
theorem d_M_keptOf_10 : decode prog_6_method_5_code 10 = .ok (.getfield 25, 3) := by decide +kernel
theorem d_M_keptOf_13 : decode prog_6_method_5_code 13 = .ok (.iload_n 1, 1) := by decide +kernel
theorem d_M_keptOf_14 : decode prog_6_method_5_code 14 = .ok (.baload, 1) := by decide +kernel
theorem d_M_keptOf_15 : decode prog_6_method_5_code 15 = .ok (.ifCond .eq 7, 3) := by decide +kernel
theorem d_M_keptOf_18 : decode prog_6_method_5_code 18 = .ok (.iconst 1, 1) := by decide +kernel
theorem d_M_keptOf_19 : decode prog_6_method_5_code 19 = .ok (.goto 4, 3) := by decide +kernel
theorem d_M_keptOf_22 : decode prog_6_method_5_code 22 = .ok (.iconst 0, 1) := by decide +kernel
theorem d_M_keptOf_23 : decode prog_6_method_5_code 23 = .ok (.ireturn, 1) := by decide +kernel
theorem d_H_accountOf_0 : decode prog_2_method_6_code 0 = .ok (.iload_n 1, 1) := by decide +kernel
theorem d_H_accountOf_1 : decode prog_2_method_6_code 1 = .ok (.invokestatic 57, 3) := by decide +kernel
theorem d_H_accountOf_4 : decode prog_2_method_6_code 4 = .ok (.ifCond .eq 12, 3) := by decide +kernel
theorem d_H_accountOf_7 : decode prog_2_method_6_code 7 = .ok (.aload_n 0, 1) := by decide +kernel
theorem d_H_accountOf_8 : decode prog_2_method_6_code 8 = .ok (.getfield 15, 3) := by decide +kernel
theorem d_H_accountOf_11 : decode prog_2_method_6_code 11 = .ok (.iload_n 1, 1) := by decide +kernel
theorem d_H_accountOf_12 : decode prog_2_method_6_code 12 = .ok (.iaload, 1) := by decide +kernel
theorem d_H_accountOf_13 : decode prog_2_method_6_code 13 = .ok (.goto 4, 3) := by decide +kernel
theorem d_H_accountOf_16 : decode prog_2_method_6_code 16 = .ok (.iconst (-1), 1) := by decide +kernel
theorem d_H_accountOf_17 : decode prog_2_method_6_code 17 = .ok (.ireturn, 1) := by decide +kernel
theorem d_A_ofCard_0 : decode prog_1_method_22_code 0 = .ok (.iload_n 2, 1) := by decide +kernel
theorem d_A_ofCard_1 : decode prog_1_method_22_code 1 = .ok (.tableswitch 54 0 2 #[27, 36, 45], 27) := by decide +kernel
theorem d_A_ofCard_28 : decode prog_1_method_22_code 28 = .ok (.aload_n 0, 1) := by decide +kernel
theorem d_A_ofCard_29 : decode prog_1_method_22_code 29 = .ok (.getfield 21, 3) := by decide +kernel
theorem d_A_ofCard_32 : decode prog_1_method_22_code 32 = .ok (.iload_n 1, 1) := by decide +kernel
theorem d_A_ofCard_33 : decode prog_1_method_22_code 33 = .ok (.invokevirtual 122, 3) := by decide +kernel
theorem d_A_ofCard_36 : decode prog_1_method_22_code 36 = .ok (.ireturn, 1) := by decide +kernel
theorem d_A_ofCard_37 : decode prog_1_method_22_code 37 = .ok (.aload_n 0, 1) := by decide +kernel
theorem d_A_ofCard_38 : decode prog_1_method_22_code 38 = .ok (.getfield 28, 3) := by decide +kernel
theorem d_A_ofCard_41 : decode prog_1_method_22_code 41 = .ok (.iload_n 1, 1) := by decide +kernel
theorem d_A_ofCard_42 : decode prog_1_method_22_code 42 = .ok (.invokevirtual 125, 3) := by decide +kernel
theorem d_A_ofCard_45 : decode prog_1_method_22_code 45 = .ok (.ireturn, 1) := by decide +kernel
theorem d_A_ofCard_46 : decode prog_1_method_22_code 46 = .ok (.aload_n 0, 1) := by decide +kernel
theorem d_A_ofCard_47 : decode prog_1_method_22_code 47 = .ok (.getfield 21, 3) := by decide +kernel
theorem d_A_ofCard_50 : decode prog_1_method_22_code 50 = .ok (.iload_n 1, 1) := by decide +kernel
theorem d_A_ofCard_51 : decode prog_1_method_22_code 51 = .ok (.invokevirtual 128, 3) := by decide +kernel
theorem d_A_ofCard_54 : decode prog_1_method_22_code 54 = .ok (.ireturn, 1) := by decide +kernel
theorem d_A_ofCard_55 : decode prog_1_method_22_code 55 = .ok (.iconst (-1), 1) := by decide +kernel
theorem d_A_ofCard_56 : decode prog_1_method_22_code 56 = .ok (.ireturn, 1) := by decide +kernel
theorem d_A_record_0 : decode prog_1_method_23_code 0 = .ok (.aload_n 0, 1) := by decide +kernel
theorem d_A_record_1 : decode prog_1_method_23_code 1 = .ok (.getfield 28, 3) := by decide +kernel
theorem d_A_record_4 : decode prog_1_method_23_code 4 = .ok (.getfield 131, 3) := by decide +kernel
theorem d_A_record_7 : decode prog_1_method_23_code 7 = .ok (.iload_n 1, 1) := by decide +kernel
theorem d_A_record_8 : decode prog_1_method_23_code 8 = .ok (.iload_n 2, 1) := by decide +kernel
theorem d_A_record_9 : decode prog_1_method_23_code 9 = .ok (.invokevirtual 135, 3) := by decide +kernel
theorem d_A_record_12 : decode prog_1_method_23_code 12 = .ok (.ireturn, 1) := by decide +kernel
theorem d_A_count_0 : decode prog_1_method_24_code 0 = .ok (.iload_n 1, 1) := by decide +kernel
theorem d_A_count_1 : decode prog_1_method_24_code 1 = .ok (.tableswitch 193 0 10 #[59, 75, 100, 109, 121, 130, 139, 148, 165, 174, 182], 59) := by decide +kernel
theorem d_A_count_60 : decode prog_1_method_24_code 60 = .ok (.aload_n 0, 1) := by decide +kernel
theorem d_A_count_61 : decode prog_1_method_24_code 61 = .ok (.getfield 28, 3) := by decide +kernel
theorem d_A_count_64 : decode prog_1_method_24_code 64 = .ok (.getfield 138, 3) := by decide +kernel
theorem d_A_count_67 : decode prog_1_method_24_code 67 = .ok (.ifCond .eq 7, 3) := by decide +kernel
theorem d_A_count_70 : decode prog_1_method_24_code 70 = .ok (.lconst 1, 1) := by decide +kernel
theorem d_A_count_71 : decode prog_1_method_24_code 71 = .ok (.goto 4, 3) := by decide +kernel
theorem d_A_count_74 : decode prog_1_method_24_code 74 = .ok (.lconst 0, 1) := by decide +kernel
theorem d_A_count_75 : decode prog_1_method_24_code 75 = .ok (.lreturn, 1) := by decide +kernel
theorem d_A_count_76 : decode prog_1_method_24_code 76 = .ok (.aload_n 0, 1) := by decide +kernel
theorem d_A_count_77 : decode prog_1_method_24_code 77 = .ok (.getfield 28, 3) := by decide +kernel
theorem d_A_count_80 : decode prog_1_method_24_code 80 = .ok (.getfield 138, 3) := by decide +kernel
theorem d_A_count_83 : decode prog_1_method_24_code 83 = .ok (.ifCond .eq 14, 3) := by decide +kernel
theorem d_A_count_86 : decode prog_1_method_24_code 86 = .ok (.aload_n 0, 1) := by decide +kernel
theorem d_A_count_87 : decode prog_1_method_24_code 87 = .ok (.getfield 28, 3) := by decide +kernel
theorem d_A_count_90 : decode prog_1_method_24_code 90 = .ok (.getfield 142, 3) := by decide +kernel
theorem d_A_count_93 : decode prog_1_method_24_code 93 = .ok (.i2l, 1) := by decide +kernel
theorem d_A_count_94 : decode prog_1_method_24_code 94 = .ok (.goto 6, 3) := by decide +kernel
theorem d_A_count_97 : decode prog_1_method_24_code 97 = .ok (.ldc2_w 145, 3) := by decide +kernel
theorem d_A_count_100 : decode prog_1_method_24_code 100 = .ok (.lreturn, 1) := by decide +kernel
theorem d_A_count_101 : decode prog_1_method_24_code 101 = .ok (.aload_n 0, 1) := by decide +kernel
theorem d_A_count_102 : decode prog_1_method_24_code 102 = .ok (.getfield 28, 3) := by decide +kernel
theorem d_A_count_105 : decode prog_1_method_24_code 105 = .ok (.getfield 147, 3) := by decide +kernel
theorem d_A_count_108 : decode prog_1_method_24_code 108 = .ok (.i2l, 1) := by decide +kernel
theorem d_A_count_109 : decode prog_1_method_24_code 109 = .ok (.lreturn, 1) := by decide +kernel
theorem d_A_count_110 : decode prog_1_method_24_code 110 = .ok (.aload_n 0, 1) := by decide +kernel
theorem d_A_count_111 : decode prog_1_method_24_code 111 = .ok (.getfield 28, 3) := by decide +kernel
theorem d_A_count_114 : decode prog_1_method_24_code 114 = .ok (.getfield 131, 3) := by decide +kernel
theorem d_A_count_117 : decode prog_1_method_24_code 117 = .ok (.getfield 150, 3) := by decide +kernel
theorem d_A_count_120 : decode prog_1_method_24_code 120 = .ok (.i2l, 1) := by decide +kernel
theorem d_A_count_121 : decode prog_1_method_24_code 121 = .ok (.lreturn, 1) := by decide +kernel
theorem d_A_count_122 : decode prog_1_method_24_code 122 = .ok (.aload_n 0, 1) := by decide +kernel
theorem d_A_count_123 : decode prog_1_method_24_code 123 = .ok (.getfield 28, 3) := by decide +kernel
theorem d_A_count_126 : decode prog_1_method_24_code 126 = .ok (.getfield 153, 3) := by decide +kernel
theorem d_A_count_129 : decode prog_1_method_24_code 129 = .ok (.i2l, 1) := by decide +kernel
theorem d_A_count_130 : decode prog_1_method_24_code 130 = .ok (.lreturn, 1) := by decide +kernel
theorem d_A_count_131 : decode prog_1_method_24_code 131 = .ok (.aload_n 0, 1) := by decide +kernel
theorem d_A_count_132 : decode prog_1_method_24_code 132 = .ok (.getfield 28, 3) := by decide +kernel
theorem d_A_count_135 : decode prog_1_method_24_code 135 = .ok (.getfield 156, 3) := by decide +kernel
theorem d_A_count_138 : decode prog_1_method_24_code 138 = .ok (.i2l, 1) := by decide +kernel
theorem d_A_count_139 : decode prog_1_method_24_code 139 = .ok (.lreturn, 1) := by decide +kernel
theorem d_A_count_140 : decode prog_1_method_24_code 140 = .ok (.aload_n 0, 1) := by decide +kernel
theorem d_A_count_141 : decode prog_1_method_24_code 141 = .ok (.getfield 10, 3) := by decide +kernel
theorem d_A_count_144 : decode prog_1_method_24_code 144 = .ok (.getfield 92, 3) := by decide +kernel
theorem d_A_count_147 : decode prog_1_method_24_code 147 = .ok (.i2l, 1) := by decide +kernel
theorem d_A_count_148 : decode prog_1_method_24_code 148 = .ok (.lreturn, 1) := by decide +kernel
theorem d_A_count_149 : decode prog_1_method_24_code 149 = .ok (.aload_n 0, 1) := by decide +kernel
theorem d_A_count_150 : decode prog_1_method_24_code 150 = .ok (.getfield 21, 3) := by decide +kernel
theorem d_A_count_153 : decode prog_1_method_24_code 153 = .ok (.getfield 159, 3) := by decide +kernel
theorem d_A_count_156 : decode prog_1_method_24_code 156 = .ok (.aload_n 0, 1) := by decide +kernel
theorem d_A_count_157 : decode prog_1_method_24_code 157 = .ok (.getfield 28, 3) := by decide +kernel
theorem d_A_count_160 : decode prog_1_method_24_code 160 = .ok (.getfield 162, 3) := by decide +kernel
theorem d_A_count_163 : decode prog_1_method_24_code 163 = .ok (.iadd, 1) := by decide +kernel
theorem d_A_count_164 : decode prog_1_method_24_code 164 = .ok (.i2l, 1) := by decide +kernel
theorem d_A_count_165 : decode prog_1_method_24_code 165 = .ok (.lreturn, 1) := by decide +kernel
theorem d_A_count_166 : decode prog_1_method_24_code 166 = .ok (.aload_n 0, 1) := by decide +kernel
theorem d_A_count_167 : decode prog_1_method_24_code 167 = .ok (.getfield 10, 3) := by decide +kernel
theorem d_A_count_170 : decode prog_1_method_24_code 170 = .ok (.getfield 163, 3) := by decide +kernel
theorem d_A_count_173 : decode prog_1_method_24_code 173 = .ok (.i2l, 1) := by decide +kernel
theorem d_A_count_174 : decode prog_1_method_24_code 174 = .ok (.lreturn, 1) := by decide +kernel
theorem d_A_count_175 : decode prog_1_method_24_code 175 = .ok (.aload_n 0, 1) := by decide +kernel
theorem d_A_count_176 : decode prog_1_method_24_code 176 = .ok (.getfield 21, 3) := by decide +kernel
theorem d_A_count_179 : decode prog_1_method_24_code 179 = .ok (.getfield 166, 3) := by decide +kernel
theorem d_A_count_182 : decode prog_1_method_24_code 182 = .ok (.lreturn, 1) := by decide +kernel
theorem d_A_count_183 : decode prog_1_method_24_code 183 = .ok (.aload_n 0, 1) := by decide +kernel
theorem d_A_count_184 : decode prog_1_method_24_code 184 = .ok (.getfield 28, 3) := by decide +kernel
theorem d_A_count_187 : decode prog_1_method_24_code 187 = .ok (.getfield 65, 3) := by decide +kernel
theorem d_A_count_190 : decode prog_1_method_24_code 190 = .ok (.getfield 170, 3) := by decide +kernel
theorem d_A_count_193 : decode prog_1_method_24_code 193 = .ok (.lreturn, 1) := by decide +kernel
theorem d_A_count_194 : decode prog_1_method_24_code 194 = .ok (.ldc2_w 145, 3) := by decide +kernel
theorem d_A_count_197 : decode prog_1_method_24_code 197 = .ok (.lreturn, 1) := by decide +kernel
theorem d_R_account_0 : decode prog_9_method_3_code 0 = .ok (.iload_n 1, 1) := by decide +kernel
theorem d_R_account_1 : decode prog_9_method_3_code 1 = .ok (.ifCond .lt 23, 3) := by decide +kernel
theorem d_R_account_4 : decode prog_9_method_3_code 4 = .ok (.iload_n 1, 1) := by decide +kernel
theorem d_R_account_5 : decode prog_9_method_3_code 5 = .ok (.bipush 7, 2) := by decide +kernel
theorem d_R_account_7 : decode prog_9_method_3_code 7 = .ok (.if_icmp .gt 17, 3) := by decide +kernel
theorem d_R_account_10 : decode prog_9_method_3_code 10 = .ok (.lload_n 2, 1) := by decide +kernel
theorem d_R_account_11 : decode prog_9_method_3_code 11 = .ok (.lconst 0, 1) := by decide +kernel
theorem d_R_account_12 : decode prog_9_method_3_code 12 = .ok (.lcmp, 1) := by decide +kernel
theorem d_R_account_13 : decode prog_9_method_3_code 13 = .ok (.ifCond .lt 11, 3) := by decide +kernel
theorem d_R_account_16 : decode prog_9_method_3_code 16 = .ok (.lload_n 2, 1) := by decide +kernel
theorem d_R_account_17 : decode prog_9_method_3_code 17 = .ok (.ldc2_w 86, 3) := by decide +kernel
theorem d_R_account_20 : decode prog_9_method_3_code 20 = .ok (.lcmp, 1) := by decide +kernel
theorem d_R_account_21 : decode prog_9_method_3_code 21 = .ok (.ifCond .le 5, 3) := by decide +kernel
theorem d_R_account_24 : decode prog_9_method_3_code 24 = .ok (.iconst 0, 1) := by decide +kernel
theorem d_R_account_25 : decode prog_9_method_3_code 25 = .ok (.ireturn, 1) := by decide +kernel
theorem d_R_account_26 : decode prog_9_method_3_code 26 = .ok (.aload_n 0, 1) := by decide +kernel
theorem d_R_account_27 : decode prog_9_method_3_code 27 = .ok (.getfield 7, 3) := by decide +kernel
theorem d_R_account_30 : decode prog_9_method_3_code 30 = .ok (.iload_n 1, 1) := by decide +kernel
theorem d_R_account_31 : decode prog_9_method_3_code 31 = .ok (.lload_n 2, 1) := by decide +kernel
theorem d_R_account_32 : decode prog_9_method_3_code 32 = .ok (.lastore, 1) := by decide +kernel
theorem d_R_account_33 : decode prog_9_method_3_code 33 = .ok (.iconst 1, 1) := by decide +kernel
theorem d_R_account_34 : decode prog_9_method_3_code 34 = .ok (.ireturn, 1) := by decide +kernel
theorem d_R_card_0 : decode prog_9_method_4_code 0 = .ok (.iload_n 1, 1) := by decide +kernel
theorem d_R_card_1 : decode prog_9_method_4_code 1 = .ok (.ifCond .lt 30, 3) := by decide +kernel
theorem d_R_card_4 : decode prog_9_method_4_code 4 = .ok (.iload_n 1, 1) := by decide +kernel
theorem d_R_card_5 : decode prog_9_method_4_code 5 = .ok (.bipush 15, 2) := by decide +kernel
theorem d_R_card_7 : decode prog_9_method_4_code 7 = .ok (.if_icmp .gt 24, 3) := by decide +kernel
theorem d_R_card_10 : decode prog_9_method_4_code 10 = .ok (.iload_n 2, 1) := by decide +kernel
theorem d_R_card_11 : decode prog_9_method_4_code 11 = .ok (.ifCond .lt 20, 3) := by decide +kernel
theorem d_R_card_14 : decode prog_9_method_4_code 14 = .ok (.iload_n 2, 1) := by decide +kernel
theorem d_R_card_15 : decode prog_9_method_4_code 15 = .ok (.bipush 7, 2) := by decide +kernel
theorem d_R_card_17 : decode prog_9_method_4_code 17 = .ok (.if_icmp .gt 14, 3) := by decide +kernel
theorem d_R_card_20 : decode prog_9_method_4_code 20 = .ok (.iload_n 3, 1) := by decide +kernel
theorem d_R_card_21 : decode prog_9_method_4_code 21 = .ok (.ifCond .lt 10, 3) := by decide +kernel
theorem d_R_card_24 : decode prog_9_method_4_code 24 = .ok (.iload_n 3, 1) := by decide +kernel
theorem d_R_card_25 : decode prog_9_method_4_code 25 = .ok (.sipush 9999, 3) := by decide +kernel
theorem d_R_card_28 : decode prog_9_method_4_code 28 = .ok (.if_icmp .le 5, 3) := by decide +kernel
theorem d_R_card_31 : decode prog_9_method_4_code 31 = .ok (.iconst 0, 1) := by decide +kernel
theorem d_R_card_32 : decode prog_9_method_4_code 32 = .ok (.ireturn, 1) := by decide +kernel
theorem d_R_card_33 : decode prog_9_method_4_code 33 = .ok (.aload_n 0, 1) := by decide +kernel
theorem d_R_card_34 : decode prog_9_method_4_code 34 = .ok (.getfield 13, 3) := by decide +kernel
theorem d_R_card_37 : decode prog_9_method_4_code 37 = .ok (.iload_n 1, 1) := by decide +kernel
theorem d_R_card_38 : decode prog_9_method_4_code 38 = .ok (.iload_n 2, 1) := by decide +kernel
theorem d_R_card_39 : decode prog_9_method_4_code 39 = .ok (.iastore, 1) := by decide +kernel
theorem d_R_card_40 : decode prog_9_method_4_code 40 = .ok (.aload_n 0, 1) := by decide +kernel
theorem d_R_card_41 : decode prog_9_method_4_code 41 = .ok (.getfield 17, 3) := by decide +kernel
theorem d_R_card_44 : decode prog_9_method_4_code 44 = .ok (.iload_n 1, 1) := by decide +kernel
theorem d_R_card_45 : decode prog_9_method_4_code 45 = .ok (.iload_n 3, 1) := by decide +kernel
theorem d_R_card_46 : decode prog_9_method_4_code 46 = .ok (.iastore, 1) := by decide +kernel
theorem d_R_card_47 : decode prog_9_method_4_code 47 = .ok (.aload_n 0, 1) := by decide +kernel
theorem d_R_card_48 : decode prog_9_method_4_code 48 = .ok (.getfield 20, 3) := by decide +kernel
theorem d_R_card_51 : decode prog_9_method_4_code 51 = .ok (.iload_n 1, 1) := by decide +kernel
theorem d_R_card_52 : decode prog_9_method_4_code 52 = .ok (.iconst 0, 1) := by decide +kernel
theorem d_R_card_53 : decode prog_9_method_4_code 53 = .ok (.iastore, 1) := by decide +kernel
theorem d_R_card_54 : decode prog_9_method_4_code 54 = .ok (.iconst 1, 1) := by decide +kernel
theorem d_R_card_55 : decode prog_9_method_4_code 55 = .ok (.ireturn, 1) := by decide +kernel
theorem d_R_load_0 : decode prog_9_method_23_code 0 = .ok (.iload_n 1, 1) := by decide +kernel
theorem d_R_load_1 : decode prog_9_method_23_code 1 = .ok (.ifCond .lt 46, 3) := by decide +kernel
theorem d_R_load_4 : decode prog_9_method_23_code 4 = .ok (.iload_n 1, 1) := by decide +kernel
theorem d_R_load_5 : decode prog_9_method_23_code 5 = .ok (.iconst 3, 1) := by decide +kernel
theorem d_R_load_6 : decode prog_9_method_23_code 6 = .ok (.if_icmp .gt 41, 3) := by decide +kernel
theorem d_R_load_9 : decode prog_9_method_23_code 9 = .ok (.iload_n 2, 1) := by decide +kernel
theorem d_R_load_10 : decode prog_9_method_23_code 10 = .ok (.iconst 1, 1) := by decide +kernel
theorem d_R_load_11 : decode prog_9_method_23_code 11 = .ok (.if_icmp .lt 36, 3) := by decide +kernel
theorem d_R_load_14 : decode prog_9_method_23_code 14 = .ok (.iload_n 2, 1) := by decide +kernel
theorem d_R_load_15 : decode prog_9_method_23_code 15 = .ok (.sipush 1000, 3) := by decide +kernel
theorem d_R_load_18 : decode prog_9_method_23_code 18 = .ok (.if_icmp .gt 29, 3) := by decide +kernel
theorem d_R_load_21 : decode prog_9_method_23_code 21 = .ok (.iload_n 3, 1) := by decide +kernel
theorem d_R_load_22 : decode prog_9_method_23_code 22 = .ok (.ifCond .lt 25, 3) := by decide +kernel
theorem d_R_load_25 : decode prog_9_method_23_code 25 = .ok (.iload_n 3, 1) := by decide +kernel
theorem d_R_load_26 : decode prog_9_method_23_code 26 = .ok (.sipush 200, 3) := by decide +kernel
theorem d_R_load_29 : decode prog_9_method_23_code 29 = .ok (.if_icmp .gt 18, 3) := by decide +kernel
theorem d_R_load_32 : decode prog_9_method_23_code 32 = .ok (.aload_n 0, 1) := by decide +kernel
theorem d_R_load_33 : decode prog_9_method_23_code 33 = .ok (.getfield 64, 3) := by decide +kernel
theorem d_R_load_36 : decode prog_9_method_23_code 36 = .ok (.ifCond .eq 11, 3) := by decide +kernel
theorem d_R_load_39 : decode prog_9_method_23_code 39 = .ok (.aload_n 0, 1) := by decide +kernel
theorem d_R_load_40 : decode prog_9_method_23_code 40 = .ok (.getfield 168, 3) := by decide +kernel
theorem d_R_load_43 : decode prog_9_method_23_code 43 = .ok (.iconst 4, 1) := by decide +kernel
theorem d_R_load_44 : decode prog_9_method_23_code 44 = .ok (.if_icmp .ne 5, 3) := by decide +kernel
theorem d_R_load_47 : decode prog_9_method_23_code 47 = .ok (.iconst 0, 1) := by decide +kernel
theorem d_R_load_48 : decode prog_9_method_23_code 48 = .ok (.ireturn, 1) := by decide +kernel
theorem d_R_load_49 : decode prog_9_method_23_code 49 = .ok (.aload_n 0, 1) := by decide +kernel
theorem d_R_load_50 : decode prog_9_method_23_code 50 = .ok (.getfield 39, 3) := by decide +kernel
theorem d_R_load_53 : decode prog_9_method_23_code 53 = .ok (.iload_n 1, 1) := by decide +kernel
theorem d_R_load_54 : decode prog_9_method_23_code 54 = .ok (.iload_n 2, 1) := by decide +kernel
theorem d_R_load_55 : decode prog_9_method_23_code 55 = .ok (.iastore, 1) := by decide +kernel
theorem d_R_load_56 : decode prog_9_method_23_code 56 = .ok (.aload_n 0, 1) := by decide +kernel
theorem d_R_load_57 : decode prog_9_method_23_code 57 = .ok (.getfield 42, 3) := by decide +kernel
theorem d_R_load_60 : decode prog_9_method_23_code 60 = .ok (.iload_n 1, 1) := by decide +kernel
theorem d_R_load_61 : decode prog_9_method_23_code 61 = .ok (.iload_n 3, 1) := by decide +kernel
theorem d_R_load_62 : decode prog_9_method_23_code 62 = .ok (.iastore, 1) := by decide +kernel
theorem d_R_load_63 : decode prog_9_method_23_code 63 = .ok (.iconst 1, 1) := by decide +kernel
theorem d_R_load_64 : decode prog_9_method_23_code 64 = .ok (.ireturn, 1) := by decide +kernel
theorem d_R_insert_0 : decode prog_9_method_24_code 0 = .ok (.iload_n 1, 1) := by decide +kernel
theorem d_R_insert_1 : decode prog_9_method_24_code 1 = .ok (.ifCond .lt 32, 3) := by decide +kernel
theorem d_R_insert_4 : decode prog_9_method_24_code 4 = .ok (.iload_n 1, 1) := by decide +kernel
theorem d_R_insert_5 : decode prog_9_method_24_code 5 = .ok (.bipush 15, 2) := by decide +kernel
theorem d_R_insert_7 : decode prog_9_method_24_code 7 = .ok (.if_icmp .gt 26, 3) := by decide +kernel
theorem d_R_insert_10 : decode prog_9_method_24_code 10 = .ok (.aload_n 0, 1) := by decide +kernel
theorem d_R_insert_11 : decode prog_9_method_24_code 11 = .ok (.getfield 54, 3) := by decide +kernel
theorem d_R_insert_14 : decode prog_9_method_24_code 14 = .ok (.iload_n 1, 1) := by decide +kernel
theorem d_R_insert_15 : decode prog_9_method_24_code 15 = .ok (.baload, 1) := by decide +kernel
theorem d_R_insert_16 : decode prog_9_method_24_code 16 = .ok (.ifCond .ne 17, 3) := by decide +kernel
theorem d_R_insert_19 : decode prog_9_method_24_code 19 = .ok (.aload_n 0, 1) := by decide +kernel
theorem d_R_insert_20 : decode prog_9_method_24_code 20 = .ok (.getfield 64, 3) := by decide +kernel
theorem d_R_insert_23 : decode prog_9_method_24_code 23 = .ok (.ifCond .eq 10, 3) := by decide +kernel
theorem d_R_insert_26 : decode prog_9_method_24_code 26 = .ok (.aload_n 0, 1) := by decide +kernel
theorem d_R_insert_27 : decode prog_9_method_24_code 27 = .ok (.getfield 168, 3) := by decide +kernel
theorem d_R_insert_30 : decode prog_9_method_24_code 30 = .ok (.ifCond .eq 5, 3) := by decide +kernel
theorem d_R_insert_33 : decode prog_9_method_24_code 33 = .ok (.iconst 0, 1) := by decide +kernel
theorem d_R_insert_34 : decode prog_9_method_24_code 34 = .ok (.ireturn, 1) := by decide +kernel
theorem d_R_insert_35 : decode prog_9_method_24_code 35 = .ok (.aload_n 0, 1) := by decide +kernel
theorem d_R_insert_36 : decode prog_9_method_24_code 36 = .ok (.iload_n 1, 1) := by decide +kernel
theorem d_R_insert_37 : decode prog_9_method_24_code 37 = .ok (.putfield 71, 3) := by decide +kernel
theorem d_R_insert_40 : decode prog_9_method_24_code 40 = .ok (.aload_n 0, 1) := by decide +kernel
theorem d_R_insert_41 : decode prog_9_method_24_code 41 = .ok (.iconst 1, 1) := by decide +kernel
theorem d_R_insert_42 : decode prog_9_method_24_code 42 = .ok (.putfield 168, 3) := by decide +kernel
theorem d_R_insert_45 : decode prog_9_method_24_code 45 = .ok (.iconst 1, 1) := by decide +kernel
theorem d_R_insert_46 : decode prog_9_method_24_code 46 = .ok (.ireturn, 1) := by decide +kernel
theorem d_R_goOff_0 : decode prog_9_method_15_code 0 = .ok (.aload_n 0, 1) := by decide +kernel
theorem d_R_goOff_1 : decode prog_9_method_15_code 1 = .ok (.iconst 0, 1) := by decide +kernel
theorem d_R_goOff_2 : decode prog_9_method_15_code 2 = .ok (.putfield 64, 3) := by decide +kernel
theorem d_R_goOff_5 : decode prog_9_method_15_code 5 = .ok (.aload_n 0, 1) := by decide +kernel
theorem d_R_goOff_6 : decode prog_9_method_15_code 6 = .ok (.iconst (-1), 1) := by decide +kernel
theorem d_R_goOff_7 : decode prog_9_method_15_code 7 = .ok (.putfield 68, 3) := by decide +kernel
theorem d_R_goOff_10 : decode prog_9_method_15_code 10 = .ok (.return_, 1) := by decide +kernel
theorem d_R_step_0 : decode prog_9_method_14_code 0 = .ok (.aload_n 0, 1) := by decide +kernel
theorem d_R_step_1 : decode prog_9_method_14_code 1 = .ok (.getfield 64, 3) := by decide +kernel
theorem d_R_step_4 : decode prog_9_method_14_code 4 = .ok (.ifCond .ne 5, 3) := by decide +kernel
theorem d_R_step_7 : decode prog_9_method_14_code 7 = .ok (.iconst 0, 1) := by decide +kernel
theorem d_R_step_8 : decode prog_9_method_14_code 8 = .ok (.ireturn, 1) := by decide +kernel
theorem d_R_step_9 : decode prog_9_method_14_code 9 = .ok (.aload_n 0, 1) := by decide +kernel
theorem d_R_step_10 : decode prog_9_method_14_code 10 = .ok (.getfield 68, 3) := by decide +kernel
theorem d_R_step_13 : decode prog_9_method_14_code 13 = .ok (.ifCond .ne 9, 3) := by decide +kernel
theorem d_R_step_16 : decode prog_9_method_14_code 16 = .ok (.aload_n 0, 1) := by decide +kernel
theorem d_R_step_17 : decode prog_9_method_14_code 17 = .ok (.invokevirtual 136, 3) := by decide +kernel
theorem d_R_step_20 : decode prog_9_method_14_code 20 = .ok (.iconst 0, 1) := by decide +kernel
theorem d_R_step_21 : decode prog_9_method_14_code 21 = .ok (.ireturn, 1) := by decide +kernel
theorem d_R_step_22 : decode prog_9_method_14_code 22 = .ok (.aload_n 0, 1) := by decide +kernel
theorem d_R_step_23 : decode prog_9_method_14_code 23 = .ok (.dup, 1) := by decide +kernel
theorem d_R_step_24 : decode prog_9_method_14_code 24 = .ok (.getfield 68, 3) := by decide +kernel
theorem d_R_step_27 : decode prog_9_method_14_code 27 = .ok (.aload_n 0, 1) := by decide +kernel
theorem d_R_step_28 : decode prog_9_method_14_code 28 = .ok (.getfield 68, 3) := by decide +kernel
theorem d_R_step_31 : decode prog_9_method_14_code 31 = .ok (.ifCond .le 7, 3) := by decide +kernel
theorem d_R_step_34 : decode prog_9_method_14_code 34 = .ok (.iconst 1, 1) := by decide +kernel
theorem d_R_step_35 : decode prog_9_method_14_code 35 = .ok (.goto 4, 3) := by decide +kernel
theorem d_R_step_38 : decode prog_9_method_14_code 38 = .ok (.iconst 0, 1) := by decide +kernel
theorem d_R_step_39 : decode prog_9_method_14_code 39 = .ok (.isub, 1) := by decide +kernel
theorem d_R_step_40 : decode prog_9_method_14_code 40 = .ok (.putfield 68, 3) := by decide +kernel
theorem d_R_step_43 : decode prog_9_method_14_code 43 = .ok (.iconst 1, 1) := by decide +kernel
theorem d_R_step_44 : decode prog_9_method_14_code 44 = .ok (.ireturn, 1) := by decide +kernel
theorem d_R_drop_0 : decode prog_9_method_6_code 0 = .ok (.aload_n 0, 1) := by decide +kernel
theorem d_R_drop_1 : decode prog_9_method_6_code 1 = .ok (.dup, 1) := by decide +kernel
theorem d_R_drop_2 : decode prog_9_method_6_code 2 = .ok (.getfield 89, 3) := by decide +kernel
theorem d_R_drop_5 : decode prog_9_method_6_code 5 = .ok (.iconst 1, 1) := by decide +kernel
theorem d_R_drop_6 : decode prog_9_method_6_code 6 = .ok (.isub, 1) := by decide +kernel
theorem d_R_drop_7 : decode prog_9_method_6_code 7 = .ok (.putfield 89, 3) := by decide +kernel
theorem d_R_drop_10 : decode prog_9_method_6_code 10 = .ok (.bipush 14, 2) := by decide +kernel
theorem d_R_drop_12 : decode prog_9_method_6_code 12 = .ok (.iload_n 1, 1) := by decide +kernel
theorem d_R_drop_13 : decode prog_9_method_6_code 13 = .ok (.imul, 1) := by decide +kernel
theorem d_R_drop_14 : decode prog_9_method_6_code 14 = .ok (.istore_n 2, 1) := by decide +kernel
theorem d_R_drop_15 : decode prog_9_method_6_code 15 = .ok (.iload_n 2, 1) := by decide +kernel
theorem d_R_drop_16 : decode prog_9_method_6_code 16 = .ok (.bipush 14, 2) := by decide +kernel
theorem d_R_drop_18 : decode prog_9_method_6_code 18 = .ok (.aload_n 0, 1) := by decide +kernel
theorem d_R_drop_19 : decode prog_9_method_6_code 19 = .ok (.getfield 89, 3) := by decide +kernel
theorem d_R_drop_22 : decode prog_9_method_6_code 22 = .ok (.imul, 1) := by decide +kernel
theorem d_R_drop_23 : decode prog_9_method_6_code 23 = .ok (.if_icmp .ge 24, 3) := by decide +kernel
theorem d_R_drop_26 : decode prog_9_method_6_code 26 = .ok (.aload_n 0, 1) := by decide +kernel
theorem d_R_drop_27 : decode prog_9_method_6_code 27 = .ok (.getfield 77, 3) := by decide +kernel
theorem d_R_drop_30 : decode prog_9_method_6_code 30 = .ok (.iload_n 2, 1) := by decide +kernel
theorem d_R_drop_31 : decode prog_9_method_6_code 31 = .ok (.aload_n 0, 1) := by decide +kernel
theorem d_R_drop_32 : decode prog_9_method_6_code 32 = .ok (.getfield 77, 3) := by decide +kernel
theorem d_R_drop_35 : decode prog_9_method_6_code 35 = .ok (.iload_n 2, 1) := by decide +kernel
theorem d_R_drop_36 : decode prog_9_method_6_code 36 = .ok (.bipush 14, 2) := by decide +kernel
theorem d_R_drop_38 : decode prog_9_method_6_code 38 = .ok (.iadd, 1) := by decide +kernel
theorem d_R_drop_39 : decode prog_9_method_6_code 39 = .ok (.iaload, 1) := by decide +kernel
theorem d_R_drop_40 : decode prog_9_method_6_code 40 = .ok (.iastore, 1) := by decide +kernel
theorem d_R_drop_41 : decode prog_9_method_6_code 41 = .ok (.iinc 2 1, 3) := by decide +kernel
theorem d_R_drop_44 : decode prog_9_method_6_code 44 = .ok (.goto (-29), 3) := by decide +kernel
theorem d_R_drop_47 : decode prog_9_method_6_code 47 = .ok (.return_, 1) := by decide +kernel
theorem d_R_check_0 : decode prog_9_method_5_code 0 = .ok (.ldc 88, 2) := by decide +kernel
theorem d_R_check_2 : decode prog_9_method_5_code 2 = .ok (.istore_n 2, 1) := by decide +kernel
theorem d_R_check_3 : decode prog_9_method_5_code 3 = .ok (.iconst 0, 1) := by decide +kernel
theorem d_R_check_4 : decode prog_9_method_5_code 4 = .ok (.istore_n 3, 1) := by decide +kernel
theorem d_R_check_5 : decode prog_9_method_5_code 5 = .ok (.iload_n 3, 1) := by decide +kernel
theorem d_R_check_6 : decode prog_9_method_5_code 6 = .ok (.bipush 11, 2) := by decide +kernel
theorem d_R_check_8 : decode prog_9_method_5_code 8 = .ok (.if_icmp .ge 72, 3) := by decide +kernel
theorem d_R_check_11 : decode prog_9_method_5_code 11 = .ok (.iload_n 2, 1) := by decide +kernel
theorem d_R_check_12 : decode prog_9_method_5_code 12 = .ok (.aload_n 0, 1) := by decide +kernel
theorem d_R_check_13 : decode prog_9_method_5_code 13 = .ok (.iload_n 1, 1) := by decide +kernel
theorem d_R_check_14 : decode prog_9_method_5_code 14 = .ok (.iload_n 3, 1) := by decide +kernel
theorem d_R_check_15 : decode prog_9_method_5_code 15 = .ok (.iadd, 1) := by decide +kernel
theorem d_R_check_16 : decode prog_9_method_5_code 16 = .ok (.iaload, 1) := by decide +kernel
theorem d_R_check_17 : decode prog_9_method_5_code 17 = .ok (.bipush 8, 2) := by decide +kernel
theorem d_R_check_19 : decode prog_9_method_5_code 19 = .ok (.ishl, 1) := by decide +kernel
theorem d_R_check_20 : decode prog_9_method_5_code 20 = .ok (.ixor, 1) := by decide +kernel
theorem d_R_check_21 : decode prog_9_method_5_code 21 = .ok (.istore_n 2, 1) := by decide +kernel
theorem d_R_check_22 : decode prog_9_method_5_code 22 = .ok (.iconst 0, 1) := by decide +kernel
theorem d_R_check_23 : decode prog_9_method_5_code 23 = .ok (.istore 4, 2) := by decide +kernel
theorem d_R_check_25 : decode prog_9_method_5_code 25 = .ok (.iload 4, 2) := by decide +kernel
theorem d_R_check_27 : decode prog_9_method_5_code 27 = .ok (.bipush 8, 2) := by decide +kernel
theorem d_R_check_29 : decode prog_9_method_5_code 29 = .ok (.if_icmp .ge 45, 3) := by decide +kernel
theorem d_R_check_32 : decode prog_9_method_5_code 32 = .ok (.iload_n 2, 1) := by decide +kernel
theorem d_R_check_33 : decode prog_9_method_5_code 33 = .ok (.sipush 32767, 3) := by decide +kernel
theorem d_R_check_36 : decode prog_9_method_5_code 36 = .ok (.if_icmp .le 7, 3) := by decide +kernel
theorem d_R_check_39 : decode prog_9_method_5_code 39 = .ok (.iconst 1, 1) := by decide +kernel
theorem d_R_check_40 : decode prog_9_method_5_code 40 = .ok (.goto 4, 3) := by decide +kernel
theorem d_R_check_43 : decode prog_9_method_5_code 43 = .ok (.iconst 0, 1) := by decide +kernel
theorem d_R_check_44 : decode prog_9_method_5_code 44 = .ok (.istore 5, 2) := by decide +kernel
theorem d_R_check_46 : decode prog_9_method_5_code 46 = .ok (.iload_n 2, 1) := by decide +kernel
theorem d_R_check_47 : decode prog_9_method_5_code 47 = .ok (.iconst 2, 1) := by decide +kernel
theorem d_R_check_48 : decode prog_9_method_5_code 48 = .ok (.imul, 1) := by decide +kernel
theorem d_R_check_49 : decode prog_9_method_5_code 49 = .ok (.ldc 88, 2) := by decide +kernel
theorem d_R_check_51 : decode prog_9_method_5_code 51 = .ok (.iand, 1) := by decide +kernel
theorem d_R_check_52 : decode prog_9_method_5_code 52 = .ok (.istore_n 2, 1) := by decide +kernel
theorem d_R_check_53 : decode prog_9_method_5_code 53 = .ok (.iload 5, 2) := by decide +kernel
theorem d_R_check_55 : decode prog_9_method_5_code 55 = .ok (.ifCond .eq 11, 3) := by decide +kernel
theorem d_R_check_58 : decode prog_9_method_5_code 58 = .ok (.iload_n 2, 1) := by decide +kernel
theorem d_R_check_59 : decode prog_9_method_5_code 59 = .ok (.sipush 4129, 3) := by decide +kernel
theorem d_R_check_62 : decode prog_9_method_5_code 62 = .ok (.ixor, 1) := by decide +kernel
theorem d_R_check_63 : decode prog_9_method_5_code 63 = .ok (.goto 4, 3) := by decide +kernel
theorem d_R_check_66 : decode prog_9_method_5_code 66 = .ok (.iload_n 2, 1) := by decide +kernel
theorem d_R_check_67 : decode prog_9_method_5_code 67 = .ok (.istore_n 2, 1) := by decide +kernel
theorem d_R_check_68 : decode prog_9_method_5_code 68 = .ok (.iinc 4 1, 3) := by decide +kernel
theorem d_R_check_71 : decode prog_9_method_5_code 71 = .ok (.goto (-46), 3) := by decide +kernel
theorem d_R_check_74 : decode prog_9_method_5_code 74 = .ok (.iinc 3 1, 3) := by decide +kernel
theorem d_R_check_77 : decode prog_9_method_5_code 77 = .ok (.goto (-72), 3) := by decide +kernel
theorem d_R_check_80 : decode prog_9_method_5_code 80 = .ok (.iload_n 2, 1) := by decide +kernel
theorem d_R_check_81 : decode prog_9_method_5_code 81 = .ok (.ireturn, 1) := by decide +kernel
theorem d_R_send_0 : decode prog_9_method_7_code 0 = .ok (.aload_n 0, 1) := by decide +kernel
theorem d_R_send_1 : decode prog_9_method_7_code 1 = .ok (.getfield 89, 3) := by decide +kernel
theorem d_R_send_4 : decode prog_9_method_7_code 4 = .ok (.bipush 24, 2) := by decide +kernel
theorem d_R_send_6 : decode prog_9_method_7_code 6 = .ok (.if_icmp .ne 18, 3) := by decide +kernel
theorem d_R_send_9 : decode prog_9_method_7_code 9 = .ok (.aload_n 0, 1) := by decide +kernel
theorem d_R_send_10 : decode prog_9_method_7_code 10 = .ok (.iconst 0, 1) := by decide +kernel
theorem d_R_send_11 : decode prog_9_method_7_code 11 = .ok (.invokevirtual 92, 3) := by decide +kernel
theorem d_R_send_14 : decode prog_9_method_7_code 14 = .ok (.aload_n 0, 1) := by decide +kernel
theorem d_R_send_15 : decode prog_9_method_7_code 15 = .ok (.dup, 1) := by decide +kernel
theorem d_R_send_16 : decode prog_9_method_7_code 16 = .ok (.getfield 96, 3) := by decide +kernel
theorem d_R_send_19 : decode prog_9_method_7_code 19 = .ok (.iconst 1, 1) := by decide +kernel
theorem d_R_send_20 : decode prog_9_method_7_code 20 = .ok (.iadd, 1) := by decide +kernel
theorem d_R_send_21 : decode prog_9_method_7_code 21 = .ok (.putfield 96, 3) := by decide +kernel
theorem d_R_send_24 : decode prog_9_method_7_code 24 = .ok (.bipush 14, 2) := by decide +kernel
theorem d_R_send_26 : decode prog_9_method_7_code 26 = .ok (.aload_n 0, 1) := by decide +kernel
theorem d_R_send_27 : decode prog_9_method_7_code 27 = .ok (.getfield 89, 3) := by decide +kernel
theorem d_R_send_30 : decode prog_9_method_7_code 30 = .ok (.imul, 1) := by decide +kernel
theorem d_R_send_31 : decode prog_9_method_7_code 31 = .ok (.istore 7, 2) := by decide +kernel
theorem d_R_send_33 : decode prog_9_method_7_code 33 = .ok (.aload_n 0, 1) := by decide +kernel
theorem d_R_send_34 : decode prog_9_method_7_code 34 = .ok (.getfield 77, 3) := by decide +kernel
theorem d_R_send_37 : decode prog_9_method_7_code 37 = .ok (.iload 7, 2) := by decide +kernel
theorem d_R_send_39 : decode prog_9_method_7_code 39 = .ok (.iload_n 1, 1) := by decide +kernel
theorem d_R_send_40 : decode prog_9_method_7_code 40 = .ok (.iastore, 1) := by decide +kernel
theorem d_R_send_41 : decode prog_9_method_7_code 41 = .ok (.iconst 0, 1) := by decide +kernel
theorem d_R_send_42 : decode prog_9_method_7_code 42 = .ok (.istore 8, 2) := by decide +kernel
theorem d_R_send_44 : decode prog_9_method_7_code 44 = .ok (.iload 8, 2) := by decide +kernel
theorem d_R_send_46 : decode prog_9_method_7_code 46 = .ok (.iconst 4, 1) := by decide +kernel
theorem d_R_send_47 : decode prog_9_method_7_code 47 = .ok (.if_icmp .ge 63, 3) := by decide +kernel
theorem d_R_send_50 : decode prog_9_method_7_code 50 = .ok (.aload_n 0, 1) := by decide +kernel
theorem d_R_send_51 : decode prog_9_method_7_code 51 = .ok (.getfield 77, 3) := by decide +kernel
theorem d_R_send_54 : decode prog_9_method_7_code 54 = .ok (.iload 7, 2) := by decide +kernel
theorem d_R_send_56 : decode prog_9_method_7_code 56 = .ok (.iconst 1, 1) := by decide +kernel
theorem d_R_send_57 : decode prog_9_method_7_code 57 = .ok (.iadd, 1) := by decide +kernel
theorem d_R_send_58 : decode prog_9_method_7_code 58 = .ok (.iload 8, 2) := by decide +kernel
theorem d_R_send_60 : decode prog_9_method_7_code 60 = .ok (.iadd, 1) := by decide +kernel
theorem d_R_send_61 : decode prog_9_method_7_code 61 = .ok (.iload_n 2, 1) := by decide +kernel
theorem d_R_send_62 : decode prog_9_method_7_code 62 = .ok (.bipush 24, 2) := by decide +kernel
theorem d_R_send_64 : decode prog_9_method_7_code 64 = .ok (.bipush 8, 2) := by decide +kernel
theorem d_R_send_66 : decode prog_9_method_7_code 66 = .ok (.iload 8, 2) := by decide +kernel
theorem d_R_send_68 : decode prog_9_method_7_code 68 = .ok (.imul, 1) := by decide +kernel
theorem d_R_send_69 : decode prog_9_method_7_code 69 = .ok (.isub, 1) := by decide +kernel
theorem d_R_send_70 : decode prog_9_method_7_code 70 = .ok (.ishr, 1) := by decide +kernel
theorem d_R_send_71 : decode prog_9_method_7_code 71 = .ok (.sipush 255, 3) := by decide +kernel
theorem d_R_send_74 : decode prog_9_method_7_code 74 = .ok (.iand, 1) := by decide +kernel
theorem d_R_send_75 : decode prog_9_method_7_code 75 = .ok (.iastore, 1) := by decide +kernel
theorem d_R_send_76 : decode prog_9_method_7_code 76 = .ok (.aload_n 0, 1) := by decide +kernel
theorem d_R_send_77 : decode prog_9_method_7_code 77 = .ok (.getfield 77, 3) := by decide +kernel
theorem d_R_send_80 : decode prog_9_method_7_code 80 = .ok (.iload 7, 2) := by decide +kernel
theorem d_R_send_82 : decode prog_9_method_7_code 82 = .ok (.bipush 6, 2) := by decide +kernel
theorem d_R_send_84 : decode prog_9_method_7_code 84 = .ok (.iadd, 1) := by decide +kernel
theorem d_R_send_85 : decode prog_9_method_7_code 85 = .ok (.iload 8, 2) := by decide +kernel
theorem d_R_send_87 : decode prog_9_method_7_code 87 = .ok (.iadd, 1) := by decide +kernel
theorem d_R_send_88 : decode prog_9_method_7_code 88 = .ok (.iload 4, 2) := by decide +kernel
theorem d_R_send_90 : decode prog_9_method_7_code 90 = .ok (.bipush 24, 2) := by decide +kernel
theorem d_R_send_92 : decode prog_9_method_7_code 92 = .ok (.bipush 8, 2) := by decide +kernel
theorem d_R_send_94 : decode prog_9_method_7_code 94 = .ok (.iload 8, 2) := by decide +kernel
theorem d_R_send_96 : decode prog_9_method_7_code 96 = .ok (.imul, 1) := by decide +kernel
theorem d_R_send_97 : decode prog_9_method_7_code 97 = .ok (.isub, 1) := by decide +kernel
theorem d_R_send_98 : decode prog_9_method_7_code 98 = .ok (.ishr, 1) := by decide +kernel
theorem d_R_send_99 : decode prog_9_method_7_code 99 = .ok (.sipush 255, 3) := by decide +kernel
theorem d_R_send_102 : decode prog_9_method_7_code 102 = .ok (.iand, 1) := by decide +kernel
theorem d_R_send_103 : decode prog_9_method_7_code 103 = .ok (.iastore, 1) := by decide +kernel
theorem d_R_send_104 : decode prog_9_method_7_code 104 = .ok (.iinc 8 1, 3) := by decide +kernel
theorem d_R_send_107 : decode prog_9_method_7_code 107 = .ok (.goto (-63), 3) := by decide +kernel
theorem d_R_send_110 : decode prog_9_method_7_code 110 = .ok (.aload_n 0, 1) := by decide +kernel
theorem d_R_send_111 : decode prog_9_method_7_code 111 = .ok (.getfield 77, 3) := by decide +kernel
theorem d_R_send_114 : decode prog_9_method_7_code 114 = .ok (.iload 7, 2) := by decide +kernel
theorem d_R_send_116 : decode prog_9_method_7_code 116 = .ok (.iconst 5, 1) := by decide +kernel
theorem d_R_send_117 : decode prog_9_method_7_code 117 = .ok (.iadd, 1) := by decide +kernel
theorem d_R_send_118 : decode prog_9_method_7_code 118 = .ok (.iload_n 3, 1) := by decide +kernel
theorem d_R_send_119 : decode prog_9_method_7_code 119 = .ok (.sipush 255, 3) := by decide +kernel
theorem d_R_send_122 : decode prog_9_method_7_code 122 = .ok (.iand, 1) := by decide +kernel
theorem d_R_send_123 : decode prog_9_method_7_code 123 = .ok (.iastore, 1) := by decide +kernel
theorem d_R_send_124 : decode prog_9_method_7_code 124 = .ok (.aload_n 0, 1) := by decide +kernel
theorem d_R_send_125 : decode prog_9_method_7_code 125 = .ok (.getfield 77, 3) := by decide +kernel
theorem d_R_send_128 : decode prog_9_method_7_code 128 = .ok (.iload 7, 2) := by decide +kernel
theorem d_R_send_130 : decode prog_9_method_7_code 130 = .ok (.bipush 10, 2) := by decide +kernel
theorem d_R_send_132 : decode prog_9_method_7_code 132 = .ok (.iadd, 1) := by decide +kernel
theorem d_R_send_133 : decode prog_9_method_7_code 133 = .ok (.iload 5, 2) := by decide +kernel
theorem d_R_send_135 : decode prog_9_method_7_code 135 = .ok (.iastore, 1) := by decide +kernel
theorem d_R_send_136 : decode prog_9_method_7_code 136 = .ok (.aload_n 0, 1) := by decide +kernel
theorem d_R_send_137 : decode prog_9_method_7_code 137 = .ok (.getfield 77, 3) := by decide +kernel
theorem d_R_send_140 : decode prog_9_method_7_code 140 = .ok (.iload 7, 2) := by decide +kernel
theorem d_R_send_142 : decode prog_9_method_7_code 142 = .ok (.invokestatic 99, 3) := by decide +kernel
theorem d_R_send_145 : decode prog_9_method_7_code 145 = .ok (.istore 8, 2) := by decide +kernel
theorem d_R_send_147 : decode prog_9_method_7_code 147 = .ok (.aload_n 0, 1) := by decide +kernel
theorem d_R_send_148 : decode prog_9_method_7_code 148 = .ok (.getfield 77, 3) := by decide +kernel
theorem d_R_send_151 : decode prog_9_method_7_code 151 = .ok (.iload 7, 2) := by decide +kernel
theorem d_R_send_153 : decode prog_9_method_7_code 153 = .ok (.bipush 11, 2) := by decide +kernel
theorem d_R_send_155 : decode prog_9_method_7_code 155 = .ok (.iadd, 1) := by decide +kernel
theorem d_R_send_156 : decode prog_9_method_7_code 156 = .ok (.iload 8, 2) := by decide +kernel
theorem d_R_send_158 : decode prog_9_method_7_code 158 = .ok (.bipush 8, 2) := by decide +kernel
theorem d_R_send_160 : decode prog_9_method_7_code 160 = .ok (.ishr, 1) := by decide +kernel
theorem d_R_send_161 : decode prog_9_method_7_code 161 = .ok (.iastore, 1) := by decide +kernel
theorem d_R_send_162 : decode prog_9_method_7_code 162 = .ok (.aload_n 0, 1) := by decide +kernel
theorem d_R_send_163 : decode prog_9_method_7_code 163 = .ok (.getfield 77, 3) := by decide +kernel
theorem d_R_send_166 : decode prog_9_method_7_code 166 = .ok (.iload 7, 2) := by decide +kernel
theorem d_R_send_168 : decode prog_9_method_7_code 168 = .ok (.bipush 12, 2) := by decide +kernel
theorem d_R_send_170 : decode prog_9_method_7_code 170 = .ok (.iadd, 1) := by decide +kernel
theorem d_R_send_171 : decode prog_9_method_7_code 171 = .ok (.iload 8, 2) := by decide +kernel
theorem d_R_send_173 : decode prog_9_method_7_code 173 = .ok (.sipush 255, 3) := by decide +kernel
theorem d_R_send_176 : decode prog_9_method_7_code 176 = .ok (.iand, 1) := by decide +kernel
theorem d_R_send_177 : decode prog_9_method_7_code 177 = .ok (.iastore, 1) := by decide +kernel
theorem d_R_send_178 : decode prog_9_method_7_code 178 = .ok (.aload_n 0, 1) := by decide +kernel
theorem d_R_send_179 : decode prog_9_method_7_code 179 = .ok (.getfield 77, 3) := by decide +kernel
theorem d_R_send_182 : decode prog_9_method_7_code 182 = .ok (.iload 7, 2) := by decide +kernel
theorem d_R_send_184 : decode prog_9_method_7_code 184 = .ok (.bipush 13, 2) := by decide +kernel
theorem d_R_send_186 : decode prog_9_method_7_code 186 = .ok (.iadd, 1) := by decide +kernel
theorem d_R_send_187 : decode prog_9_method_7_code 187 = .ok (.iload 6, 2) := by decide +kernel
theorem d_R_send_189 : decode prog_9_method_7_code 189 = .ok (.iastore, 1) := by decide +kernel
theorem d_R_send_190 : decode prog_9_method_7_code 190 = .ok (.aload_n 0, 1) := by decide +kernel
theorem d_R_send_191 : decode prog_9_method_7_code 191 = .ok (.dup, 1) := by decide +kernel
theorem d_R_send_192 : decode prog_9_method_7_code 192 = .ok (.getfield 89, 3) := by decide +kernel
theorem d_R_send_195 : decode prog_9_method_7_code 195 = .ok (.iconst 1, 1) := by decide +kernel
theorem d_R_send_196 : decode prog_9_method_7_code 196 = .ok (.iadd, 1) := by decide +kernel
theorem d_R_send_197 : decode prog_9_method_7_code 197 = .ok (.putfield 89, 3) := by decide +kernel
theorem d_R_send_200 : decode prog_9_method_7_code 200 = .ok (.return_, 1) := by decide +kernel
theorem d_R_sendStep_0 : decode prog_9_method_17_code 0 = .ok (.aload_n 0, 1) := by decide +kernel
theorem d_R_sendStep_1 : decode prog_9_method_17_code 1 = .ok (.invokevirtual 142, 3) := by decide +kernel
theorem d_R_sendStep_4 : decode prog_9_method_17_code 4 = .ok (.ifCond .ne 5, 3) := by decide +kernel
theorem d_R_sendStep_7 : decode prog_9_method_17_code 7 = .ok (.iconst 0, 1) := by decide +kernel
theorem d_R_sendStep_8 : decode prog_9_method_17_code 8 = .ok (.ireturn, 1) := by decide +kernel
theorem d_R_sendStep_9 : decode prog_9_method_17_code 9 = .ok (.aload_n 0, 1) := by decide +kernel
theorem d_R_sendStep_10 : decode prog_9_method_17_code 10 = .ok (.iload_n 1, 1) := by decide +kernel
theorem d_R_sendStep_11 : decode prog_9_method_17_code 11 = .ok (.aload_n 0, 1) := by decide +kernel
theorem d_R_sendStep_12 : decode prog_9_method_17_code 12 = .ok (.getfield 145, 3) := by decide +kernel
theorem d_R_sendStep_15 : decode prog_9_method_17_code 15 = .ok (.aload_n 0, 1) := by decide +kernel
theorem d_R_sendStep_16 : decode prog_9_method_17_code 16 = .ok (.getfield 74, 3) := by decide +kernel
theorem d_R_sendStep_19 : decode prog_9_method_17_code 19 = .ok (.iload_n 2, 1) := by decide +kernel
theorem d_R_sendStep_20 : decode prog_9_method_17_code 20 = .ok (.iconst 0, 1) := by decide +kernel
theorem d_R_sendStep_21 : decode prog_9_method_17_code 21 = .ok (.iconst 0, 1) := by decide +kernel
theorem d_R_sendStep_22 : decode prog_9_method_17_code 22 = .ok (.invokevirtual 128, 3) := by decide +kernel
theorem d_R_sendStep_25 : decode prog_9_method_17_code 25 = .ok (.iconst 1, 1) := by decide +kernel
theorem d_R_sendStep_26 : decode prog_9_method_17_code 26 = .ok (.ireturn, 1) := by decide +kernel
theorem d_R_pin_0 : decode prog_9_method_25_code 0 = .ok (.aload_n 0, 1) := by decide +kernel
theorem d_R_pin_1 : decode prog_9_method_25_code 1 = .ok (.getfield 64, 3) := by decide +kernel
theorem d_R_pin_4 : decode prog_9_method_25_code 4 = .ok (.ifCond .eq 32, 3) := by decide +kernel
theorem d_R_pin_7 : decode prog_9_method_25_code 7 = .ok (.aload_n 0, 1) := by decide +kernel
theorem d_R_pin_8 : decode prog_9_method_25_code 8 = .ok (.getfield 168, 3) := by decide +kernel
theorem d_R_pin_11 : decode prog_9_method_25_code 11 = .ok (.iconst 1, 1) := by decide +kernel
theorem d_R_pin_12 : decode prog_9_method_25_code 12 = .ok (.if_icmp .ne 24, 3) := by decide +kernel
theorem d_R_pin_15 : decode prog_9_method_25_code 15 = .ok (.iload_n 1, 1) := by decide +kernel
theorem d_R_pin_16 : decode prog_9_method_25_code 16 = .ok (.ifCond .lt 20, 3) := by decide +kernel
theorem d_R_pin_19 : decode prog_9_method_25_code 19 = .ok (.iload_n 1, 1) := by decide +kernel
theorem d_R_pin_20 : decode prog_9_method_25_code 20 = .ok (.sipush 9999, 3) := by decide +kernel
theorem d_R_pin_23 : decode prog_9_method_25_code 23 = .ok (.if_icmp .gt 13, 3) := by decide +kernel
theorem d_R_pin_26 : decode prog_9_method_25_code 26 = .ok (.aload_n 0, 1) := by decide +kernel
theorem d_R_pin_27 : decode prog_9_method_25_code 27 = .ok (.getfield 60, 3) := by decide +kernel
theorem d_R_pin_30 : decode prog_9_method_25_code 30 = .ok (.sipush 2000, 3) := by decide +kernel
theorem d_R_pin_33 : decode prog_9_method_25_code 33 = .ok (.if_icmp .le 5, 3) := by decide +kernel
theorem d_R_pin_36 : decode prog_9_method_25_code 36 = .ok (.iconst 0, 1) := by decide +kernel
theorem d_R_pin_37 : decode prog_9_method_25_code 37 = .ok (.ireturn, 1) := by decide +kernel
theorem d_R_pin_38 : decode prog_9_method_25_code 38 = .ok (.aload_n 0, 1) := by decide +kernel
theorem d_R_pin_39 : decode prog_9_method_25_code 39 = .ok (.aload_n 0, 1) := by decide +kernel
theorem d_R_pin_40 : decode prog_9_method_25_code 40 = .ok (.getfield 60, 3) := by decide +kernel
theorem d_R_pin_43 : decode prog_9_method_25_code 43 = .ok (.putfield 145, 3) := by decide +kernel
theorem d_R_pin_46 : decode prog_9_method_25_code 46 = .ok (.aload_n 0, 1) := by decide +kernel
theorem d_R_pin_47 : decode prog_9_method_25_code 47 = .ok (.dup, 1) := by decide +kernel
theorem d_R_pin_48 : decode prog_9_method_25_code 48 = .ok (.getfield 60, 3) := by decide +kernel
theorem d_R_pin_51 : decode prog_9_method_25_code 51 = .ok (.iconst 1, 1) := by decide +kernel
theorem d_R_pin_52 : decode prog_9_method_25_code 52 = .ok (.iadd, 1) := by decide +kernel
theorem d_R_pin_53 : decode prog_9_method_25_code 53 = .ok (.putfield 60, 3) := by decide +kernel
theorem d_R_pin_56 : decode prog_9_method_25_code 56 = .ok (.aload_n 0, 1) := by decide +kernel
theorem d_R_pin_57 : decode prog_9_method_25_code 57 = .ok (.aload_n 0, 1) := by decide +kernel
theorem d_R_pin_58 : decode prog_9_method_25_code 58 = .ok (.getfield 71, 3) := by decide +kernel
theorem d_R_pin_61 : decode prog_9_method_25_code 61 = .ok (.putfield 74, 3) := by decide +kernel
theorem d_R_pin_64 : decode prog_9_method_25_code 64 = .ok (.aload_n 0, 1) := by decide +kernel
theorem d_R_pin_65 : decode prog_9_method_25_code 65 = .ok (.iconst 1, 1) := by decide +kernel
theorem d_R_pin_66 : decode prog_9_method_25_code 66 = .ok (.iload_n 1, 1) := by decide +kernel
theorem d_R_pin_67 : decode prog_9_method_25_code 67 = .ok (.invokevirtual 164, 3) := by decide +kernel
theorem d_R_pin_70 : decode prog_9_method_25_code 70 = .ok (.ifCond .eq 8, 3) := by decide +kernel
theorem d_R_pin_73 : decode prog_9_method_25_code 73 = .ok (.aload_n 0, 1) := by decide +kernel
theorem d_R_pin_74 : decode prog_9_method_25_code 74 = .ok (.iconst 2, 1) := by decide +kernel
theorem d_R_pin_75 : decode prog_9_method_25_code 75 = .ok (.putfield 168, 3) := by decide +kernel
theorem d_R_pin_78 : decode prog_9_method_25_code 78 = .ok (.iconst 1, 1) := by decide +kernel
theorem d_R_pin_79 : decode prog_9_method_25_code 79 = .ok (.ireturn, 1) := by decide +kernel
theorem d_R_findMix_0 : decode prog_9_method_22_code 0 = .ok (.bipush 41, 2) := by decide +kernel
theorem d_R_findMix_2 : decode prog_9_method_22_code 2 = .ok (.istore_n 2, 1) := by decide +kernel
theorem d_R_findMix_3 : decode prog_9_method_22_code 3 = .ok (.bipush 40, 2) := by decide +kernel
theorem d_R_findMix_5 : decode prog_9_method_22_code 5 = .ok (.istore_n 3, 1) := by decide +kernel
theorem d_R_findMix_6 : decode prog_9_method_22_code 6 = .ok (.iload_n 3, 1) := by decide +kernel
theorem d_R_findMix_7 : decode prog_9_method_22_code 7 = .ok (.ifCond .lt 205, 3) := by decide +kernel
theorem d_R_findMix_10 : decode prog_9_method_22_code 10 = .ok (.bipush 40, 2) := by decide +kernel
theorem d_R_findMix_12 : decode prog_9_method_22_code 12 = .ok (.iload_n 3, 1) := by decide +kernel
theorem d_R_findMix_13 : decode prog_9_method_22_code 13 = .ok (.isub, 1) := by decide +kernel
theorem d_R_findMix_14 : decode prog_9_method_22_code 14 = .ok (.istore 4, 2) := by decide +kernel
theorem d_R_findMix_16 : decode prog_9_method_22_code 16 = .ok (.iload 4, 2) := by decide +kernel
theorem d_R_findMix_18 : decode prog_9_method_22_code 18 = .ok (.ifCond .lt 188, 3) := by decide +kernel
theorem d_R_findMix_21 : decode prog_9_method_22_code 21 = .ok (.iload_n 3, 1) := by decide +kernel
theorem d_R_findMix_22 : decode prog_9_method_22_code 22 = .ok (.aload_n 0, 1) := by decide +kernel
theorem d_R_findMix_23 : decode prog_9_method_22_code 23 = .ok (.getfield 42, 3) := by decide +kernel
theorem d_R_findMix_26 : decode prog_9_method_22_code 26 = .ok (.iconst 0, 1) := by decide +kernel
theorem d_R_findMix_27 : decode prog_9_method_22_code 27 = .ok (.iaload, 1) := by decide +kernel
theorem d_R_findMix_28 : decode prog_9_method_22_code 28 = .ok (.if_icmp .gt 178, 3) := by decide +kernel
theorem d_R_findMix_31 : decode prog_9_method_22_code 31 = .ok (.bipush 40, 2) := by decide +kernel
theorem d_R_findMix_33 : decode prog_9_method_22_code 33 = .ok (.iload_n 3, 1) := by decide +kernel
theorem d_R_findMix_34 : decode prog_9_method_22_code 34 = .ok (.isub, 1) := by decide +kernel
theorem d_R_findMix_35 : decode prog_9_method_22_code 35 = .ok (.iload 4, 2) := by decide +kernel
theorem d_R_findMix_37 : decode prog_9_method_22_code 37 = .ok (.isub, 1) := by decide +kernel
theorem d_R_findMix_38 : decode prog_9_method_22_code 38 = .ok (.istore 5, 2) := by decide +kernel
theorem d_R_findMix_40 : decode prog_9_method_22_code 40 = .ok (.iload 5, 2) := by decide +kernel
theorem d_R_findMix_42 : decode prog_9_method_22_code 42 = .ok (.ifCond .lt 158, 3) := by decide +kernel
theorem d_R_findMix_45 : decode prog_9_method_22_code 45 = .ok (.iload 4, 2) := by decide +kernel
theorem d_R_findMix_47 : decode prog_9_method_22_code 47 = .ok (.aload_n 0, 1) := by decide +kernel
theorem d_R_findMix_48 : decode prog_9_method_22_code 48 = .ok (.getfield 42, 3) := by decide +kernel
theorem d_R_findMix_51 : decode prog_9_method_22_code 51 = .ok (.iconst 1, 1) := by decide +kernel
theorem d_R_findMix_52 : decode prog_9_method_22_code 52 = .ok (.iaload, 1) := by decide +kernel
theorem d_R_findMix_53 : decode prog_9_method_22_code 53 = .ok (.if_icmp .gt 147, 3) := by decide +kernel
theorem d_R_findMix_56 : decode prog_9_method_22_code 56 = .ok (.iload_n 1, 1) := by decide +kernel
theorem d_R_findMix_57 : decode prog_9_method_22_code 57 = .ok (.iload_n 3, 1) := by decide +kernel
theorem d_R_findMix_58 : decode prog_9_method_22_code 58 = .ok (.aload_n 0, 1) := by decide +kernel
theorem d_R_findMix_59 : decode prog_9_method_22_code 59 = .ok (.getfield 39, 3) := by decide +kernel
theorem d_R_findMix_62 : decode prog_9_method_22_code 62 = .ok (.iconst 0, 1) := by decide +kernel
theorem d_R_findMix_63 : decode prog_9_method_22_code 63 = .ok (.iaload, 1) := by decide +kernel
theorem d_R_findMix_64 : decode prog_9_method_22_code 64 = .ok (.imul, 1) := by decide +kernel
theorem d_R_findMix_65 : decode prog_9_method_22_code 65 = .ok (.isub, 1) := by decide +kernel
theorem d_R_findMix_66 : decode prog_9_method_22_code 66 = .ok (.iload 4, 2) := by decide +kernel
theorem d_R_findMix_68 : decode prog_9_method_22_code 68 = .ok (.aload_n 0, 1) := by decide +kernel
theorem d_R_findMix_69 : decode prog_9_method_22_code 69 = .ok (.getfield 39, 3) := by decide +kernel
theorem d_R_findMix_72 : decode prog_9_method_22_code 72 = .ok (.iconst 1, 1) := by decide +kernel
theorem d_R_findMix_73 : decode prog_9_method_22_code 73 = .ok (.iaload, 1) := by decide +kernel
theorem d_R_findMix_74 : decode prog_9_method_22_code 74 = .ok (.imul, 1) := by decide +kernel
theorem d_R_findMix_75 : decode prog_9_method_22_code 75 = .ok (.isub, 1) := by decide +kernel
theorem d_R_findMix_76 : decode prog_9_method_22_code 76 = .ok (.iload 5, 2) := by decide +kernel
theorem d_R_findMix_78 : decode prog_9_method_22_code 78 = .ok (.aload_n 0, 1) := by decide +kernel
theorem d_R_findMix_79 : decode prog_9_method_22_code 79 = .ok (.getfield 39, 3) := by decide +kernel
theorem d_R_findMix_82 : decode prog_9_method_22_code 82 = .ok (.iconst 2, 1) := by decide +kernel
theorem d_R_findMix_83 : decode prog_9_method_22_code 83 = .ok (.iaload, 1) := by decide +kernel
theorem d_R_findMix_84 : decode prog_9_method_22_code 84 = .ok (.imul, 1) := by decide +kernel
theorem d_R_findMix_85 : decode prog_9_method_22_code 85 = .ok (.isub, 1) := by decide +kernel
theorem d_R_findMix_86 : decode prog_9_method_22_code 86 = .ok (.istore 6, 2) := by decide +kernel
theorem d_R_findMix_88 : decode prog_9_method_22_code 88 = .ok (.iload 5, 2) := by decide +kernel
theorem d_R_findMix_90 : decode prog_9_method_22_code 90 = .ok (.aload_n 0, 1) := by decide +kernel
theorem d_R_findMix_91 : decode prog_9_method_22_code 91 = .ok (.getfield 42, 3) := by decide +kernel
theorem d_R_findMix_94 : decode prog_9_method_22_code 94 = .ok (.iconst 2, 1) := by decide +kernel
theorem d_R_findMix_95 : decode prog_9_method_22_code 95 = .ok (.iaload, 1) := by decide +kernel
theorem d_R_findMix_96 : decode prog_9_method_22_code 96 = .ok (.if_icmp .gt 98, 3) := by decide +kernel
theorem d_R_findMix_99 : decode prog_9_method_22_code 99 = .ok (.iload 6, 2) := by decide +kernel
theorem d_R_findMix_101 : decode prog_9_method_22_code 101 = .ok (.ifCond .lt 93, 3) := by decide +kernel
theorem d_R_findMix_104 : decode prog_9_method_22_code 104 = .ok (.iload 6, 2) := by decide +kernel
theorem d_R_findMix_106 : decode prog_9_method_22_code 106 = .ok (.aload_n 0, 1) := by decide +kernel
theorem d_R_findMix_107 : decode prog_9_method_22_code 107 = .ok (.getfield 39, 3) := by decide +kernel
theorem d_R_findMix_110 : decode prog_9_method_22_code 110 = .ok (.iconst 3, 1) := by decide +kernel
theorem d_R_findMix_111 : decode prog_9_method_22_code 111 = .ok (.iaload, 1) := by decide +kernel
theorem d_R_findMix_112 : decode prog_9_method_22_code 112 = .ok (.irem, 1) := by decide +kernel
theorem d_R_findMix_113 : decode prog_9_method_22_code 113 = .ok (.ifCond .ne 81, 3) := by decide +kernel
theorem d_R_findMix_116 : decode prog_9_method_22_code 116 = .ok (.iload 6, 2) := by decide +kernel
theorem d_R_findMix_118 : decode prog_9_method_22_code 118 = .ok (.aload_n 0, 1) := by decide +kernel
theorem d_R_findMix_119 : decode prog_9_method_22_code 119 = .ok (.getfield 39, 3) := by decide +kernel
theorem d_R_findMix_122 : decode prog_9_method_22_code 122 = .ok (.iconst 3, 1) := by decide +kernel
theorem d_R_findMix_123 : decode prog_9_method_22_code 123 = .ok (.iaload, 1) := by decide +kernel
theorem d_R_findMix_124 : decode prog_9_method_22_code 124 = .ok (.idiv, 1) := by decide +kernel
theorem d_R_findMix_125 : decode prog_9_method_22_code 125 = .ok (.istore 7, 2) := by decide +kernel
theorem d_R_findMix_127 : decode prog_9_method_22_code 127 = .ok (.iload 7, 2) := by decide +kernel
theorem d_R_findMix_129 : decode prog_9_method_22_code 129 = .ok (.aload_n 0, 1) := by decide +kernel
theorem d_R_findMix_130 : decode prog_9_method_22_code 130 = .ok (.getfield 42, 3) := by decide +kernel
theorem d_R_findMix_133 : decode prog_9_method_22_code 133 = .ok (.iconst 3, 1) := by decide +kernel
theorem d_R_findMix_134 : decode prog_9_method_22_code 134 = .ok (.iaload, 1) := by decide +kernel
theorem d_R_findMix_135 : decode prog_9_method_22_code 135 = .ok (.if_icmp .gt 59, 3) := by decide +kernel
theorem d_R_findMix_138 : decode prog_9_method_22_code 138 = .ok (.iload_n 3, 1) := by decide +kernel
theorem d_R_findMix_139 : decode prog_9_method_22_code 139 = .ok (.iload 4, 2) := by decide +kernel
theorem d_R_findMix_141 : decode prog_9_method_22_code 141 = .ok (.iadd, 1) := by decide +kernel
theorem d_R_findMix_142 : decode prog_9_method_22_code 142 = .ok (.iload 5, 2) := by decide +kernel
theorem d_R_findMix_144 : decode prog_9_method_22_code 144 = .ok (.iadd, 1) := by decide +kernel
theorem d_R_findMix_145 : decode prog_9_method_22_code 145 = .ok (.iload 7, 2) := by decide +kernel
theorem d_R_findMix_147 : decode prog_9_method_22_code 147 = .ok (.iadd, 1) := by decide +kernel
theorem d_R_findMix_148 : decode prog_9_method_22_code 148 = .ok (.iload_n 2, 1) := by decide +kernel
theorem d_R_findMix_149 : decode prog_9_method_22_code 149 = .ok (.if_icmp .ge 45, 3) := by decide +kernel
theorem d_R_findMix_152 : decode prog_9_method_22_code 152 = .ok (.iload_n 3, 1) := by decide +kernel
theorem d_R_findMix_153 : decode prog_9_method_22_code 153 = .ok (.iload 4, 2) := by decide +kernel
theorem d_R_findMix_155 : decode prog_9_method_22_code 155 = .ok (.iadd, 1) := by decide +kernel
theorem d_R_findMix_156 : decode prog_9_method_22_code 156 = .ok (.iload 5, 2) := by decide +kernel
theorem d_R_findMix_158 : decode prog_9_method_22_code 158 = .ok (.iadd, 1) := by decide +kernel
theorem d_R_findMix_159 : decode prog_9_method_22_code 159 = .ok (.iload 7, 2) := by decide +kernel
theorem d_R_findMix_161 : decode prog_9_method_22_code 161 = .ok (.iadd, 1) := by decide +kernel
theorem d_R_findMix_162 : decode prog_9_method_22_code 162 = .ok (.istore_n 2, 1) := by decide +kernel
theorem d_R_findMix_163 : decode prog_9_method_22_code 163 = .ok (.aload_n 0, 1) := by decide +kernel
theorem d_R_findMix_164 : decode prog_9_method_22_code 164 = .ok (.getfield 83, 3) := by decide +kernel
theorem d_R_findMix_167 : decode prog_9_method_22_code 167 = .ok (.iconst 0, 1) := by decide +kernel
theorem d_R_findMix_168 : decode prog_9_method_22_code 168 = .ok (.iload_n 3, 1) := by decide +kernel
theorem d_R_findMix_169 : decode prog_9_method_22_code 169 = .ok (.iastore, 1) := by decide +kernel
theorem d_R_findMix_170 : decode prog_9_method_22_code 170 = .ok (.aload_n 0, 1) := by decide +kernel
theorem d_R_findMix_171 : decode prog_9_method_22_code 171 = .ok (.getfield 83, 3) := by decide +kernel
theorem d_R_findMix_174 : decode prog_9_method_22_code 174 = .ok (.iconst 1, 1) := by decide +kernel
theorem d_R_findMix_175 : decode prog_9_method_22_code 175 = .ok (.iload 4, 2) := by decide +kernel
theorem d_R_findMix_177 : decode prog_9_method_22_code 177 = .ok (.iastore, 1) := by decide +kernel
theorem d_R_findMix_178 : decode prog_9_method_22_code 178 = .ok (.aload_n 0, 1) := by decide +kernel
theorem d_R_findMix_179 : decode prog_9_method_22_code 179 = .ok (.getfield 83, 3) := by decide +kernel
theorem d_R_findMix_182 : decode prog_9_method_22_code 182 = .ok (.iconst 2, 1) := by decide +kernel
theorem d_R_findMix_183 : decode prog_9_method_22_code 183 = .ok (.iload 5, 2) := by decide +kernel
theorem d_R_findMix_185 : decode prog_9_method_22_code 185 = .ok (.iastore, 1) := by decide +kernel
theorem d_R_findMix_186 : decode prog_9_method_22_code 186 = .ok (.aload_n 0, 1) := by decide +kernel
theorem d_R_findMix_187 : decode prog_9_method_22_code 187 = .ok (.getfield 83, 3) := by decide +kernel
theorem d_R_findMix_190 : decode prog_9_method_22_code 190 = .ok (.iconst 3, 1) := by decide +kernel
theorem d_R_findMix_191 : decode prog_9_method_22_code 191 = .ok (.iload 7, 2) := by decide +kernel
theorem d_R_findMix_193 : decode prog_9_method_22_code 193 = .ok (.iastore, 1) := by decide +kernel
theorem d_R_findMix_194 : decode prog_9_method_22_code 194 = .ok (.iinc 5 (-1), 3) := by decide +kernel
theorem d_R_findMix_197 : decode prog_9_method_22_code 197 = .ok (.goto (-157), 3) := by decide +kernel
theorem d_R_findMix_200 : decode prog_9_method_22_code 200 = .ok (.iinc 4 (-1), 3) := by decide +kernel
theorem d_R_findMix_203 : decode prog_9_method_22_code 203 = .ok (.goto (-187), 3) := by decide +kernel
theorem d_R_findMix_206 : decode prog_9_method_22_code 206 = .ok (.iinc 3 (-1), 3) := by decide +kernel
theorem d_R_findMix_209 : decode prog_9_method_22_code 209 = .ok (.goto (-203), 3) := by decide +kernel
theorem d_R_findMix_212 : decode prog_9_method_22_code 212 = .ok (.iload_n 2, 1) := by decide +kernel
theorem d_R_findMix_213 : decode prog_9_method_22_code 213 = .ok (.bipush 40, 2) := by decide +kernel
theorem d_R_findMix_215 : decode prog_9_method_22_code 215 = .ok (.if_icmp .gt 7, 3) := by decide +kernel
theorem d_R_findMix_218 : decode prog_9_method_22_code 218 = .ok (.iconst 1, 1) := by decide +kernel
theorem d_R_findMix_219 : decode prog_9_method_22_code 219 = .ok (.goto 4, 3) := by decide +kernel
theorem d_R_findMix_222 : decode prog_9_method_22_code 222 = .ok (.iconst 0, 1) := by decide +kernel
theorem d_R_findMix_223 : decode prog_9_method_22_code 223 = .ok (.ireturn, 1) := by decide +kernel
theorem d_R_record_0 : decode prog_9_method_16_code 0 = .ok (.aload_n 0, 1) := by decide +kernel
theorem d_R_record_1 : decode prog_9_method_16_code 1 = .ok (.getfield 139, 3) := by decide +kernel
theorem d_R_record_4 : decode prog_9_method_16_code 4 = .ok (.sipush 300, 3) := by decide +kernel
theorem d_R_record_7 : decode prog_9_method_16_code 7 = .ok (.if_icmp .ne 8, 3) := by decide +kernel
theorem d_R_record_10 : decode prog_9_method_16_code 10 = .ok (.aload_n 0, 1) := by decide +kernel
theorem d_R_record_11 : decode prog_9_method_16_code 11 = .ok (.getfield 64, 3) := by decide +kernel
theorem d_R_record_14 : decode prog_9_method_16_code 14 = .ok (.ireturn, 1) := by decide +kernel
theorem d_R_record_15 : decode prog_9_method_16_code 15 = .ok (.aload_n 0, 1) := by decide +kernel
theorem d_R_record_16 : decode prog_9_method_16_code 16 = .ok (.invokevirtual 142, 3) := by decide +kernel
theorem d_R_record_19 : decode prog_9_method_16_code 19 = .ok (.ifCond .ne 5, 3) := by decide +kernel
theorem d_R_record_22 : decode prog_9_method_16_code 22 = .ok (.iconst 0, 1) := by decide +kernel
theorem d_R_record_23 : decode prog_9_method_16_code 23 = .ok (.ireturn, 1) := by decide +kernel
theorem d_R_record_24 : decode prog_9_method_16_code 24 = .ok (.iconst 5, 1) := by decide +kernel
theorem d_R_record_25 : decode prog_9_method_16_code 25 = .ok (.aload_n 0, 1) := by decide +kernel
theorem d_R_record_26 : decode prog_9_method_16_code 26 = .ok (.getfield 139, 3) := by decide +kernel
theorem d_R_record_29 : decode prog_9_method_16_code 29 = .ok (.imul, 1) := by decide +kernel
theorem d_R_record_30 : decode prog_9_method_16_code 30 = .ok (.istore_n 2, 1) := by decide +kernel
theorem d_R_record_31 : decode prog_9_method_16_code 31 = .ok (.aload_n 0, 1) := by decide +kernel
theorem d_R_record_32 : decode prog_9_method_16_code 32 = .ok (.getfield 57, 3) := by decide +kernel
theorem d_R_record_35 : decode prog_9_method_16_code 35 = .ok (.iload_n 2, 1) := by decide +kernel
theorem d_R_record_36 : decode prog_9_method_16_code 36 = .ok (.iload_n 1, 1) := by decide +kernel
theorem d_R_record_37 : decode prog_9_method_16_code 37 = .ok (.iastore, 1) := by decide +kernel
theorem d_R_record_38 : decode prog_9_method_16_code 38 = .ok (.aload_n 0, 1) := by decide +kernel
theorem d_R_record_39 : decode prog_9_method_16_code 39 = .ok (.getfield 57, 3) := by decide +kernel
theorem d_R_record_42 : decode prog_9_method_16_code 42 = .ok (.iload_n 2, 1) := by decide +kernel
theorem d_R_record_43 : decode prog_9_method_16_code 43 = .ok (.iconst 1, 1) := by decide +kernel
theorem d_R_record_44 : decode prog_9_method_16_code 44 = .ok (.iadd, 1) := by decide +kernel
theorem d_R_record_45 : decode prog_9_method_16_code 45 = .ok (.aload_n 0, 1) := by decide +kernel
theorem d_R_record_46 : decode prog_9_method_16_code 46 = .ok (.getfield 145, 3) := by decide +kernel
theorem d_R_record_49 : decode prog_9_method_16_code 49 = .ok (.iastore, 1) := by decide +kernel
theorem d_R_record_50 : decode prog_9_method_16_code 50 = .ok (.aload_n 0, 1) := by decide +kernel
theorem d_R_record_51 : decode prog_9_method_16_code 51 = .ok (.getfield 57, 3) := by decide +kernel
theorem d_R_record_54 : decode prog_9_method_16_code 54 = .ok (.iload_n 2, 1) := by decide +kernel
theorem d_R_record_55 : decode prog_9_method_16_code 55 = .ok (.iconst 2, 1) := by decide +kernel
theorem d_R_record_56 : decode prog_9_method_16_code 56 = .ok (.iadd, 1) := by decide +kernel
theorem d_R_record_57 : decode prog_9_method_16_code 57 = .ok (.aload_n 0, 1) := by decide +kernel
theorem d_R_record_58 : decode prog_9_method_16_code 58 = .ok (.getfield 148, 3) := by decide +kernel
theorem d_R_record_61 : decode prog_9_method_16_code 61 = .ok (.iastore, 1) := by decide +kernel
theorem d_R_record_62 : decode prog_9_method_16_code 62 = .ok (.aload_n 0, 1) := by decide +kernel
theorem d_R_record_63 : decode prog_9_method_16_code 63 = .ok (.getfield 57, 3) := by decide +kernel
theorem d_R_record_66 : decode prog_9_method_16_code 66 = .ok (.iload_n 2, 1) := by decide +kernel
theorem d_R_record_67 : decode prog_9_method_16_code 67 = .ok (.iconst 3, 1) := by decide +kernel
theorem d_R_record_68 : decode prog_9_method_16_code 68 = .ok (.iadd, 1) := by decide +kernel
theorem d_R_record_69 : decode prog_9_method_16_code 69 = .ok (.aload_n 0, 1) := by decide +kernel
theorem d_R_record_70 : decode prog_9_method_16_code 70 = .ok (.getfield 74, 3) := by decide +kernel
theorem d_R_record_73 : decode prog_9_method_16_code 73 = .ok (.iastore, 1) := by decide +kernel
theorem d_R_record_74 : decode prog_9_method_16_code 74 = .ok (.aload_n 0, 1) := by decide +kernel
theorem d_R_record_75 : decode prog_9_method_16_code 75 = .ok (.getfield 57, 3) := by decide +kernel
theorem d_R_record_78 : decode prog_9_method_16_code 78 = .ok (.iload_n 2, 1) := by decide +kernel
theorem d_R_record_79 : decode prog_9_method_16_code 79 = .ok (.iconst 4, 1) := by decide +kernel
theorem d_R_record_80 : decode prog_9_method_16_code 80 = .ok (.iadd, 1) := by decide +kernel
theorem d_R_record_81 : decode prog_9_method_16_code 81 = .ok (.aload_n 0, 1) := by decide +kernel
theorem d_R_record_82 : decode prog_9_method_16_code 82 = .ok (.getfield 151, 3) := by decide +kernel
theorem d_R_record_85 : decode prog_9_method_16_code 85 = .ok (.iastore, 1) := by decide +kernel
theorem d_R_record_86 : decode prog_9_method_16_code 86 = .ok (.aload_n 0, 1) := by decide +kernel
theorem d_R_record_87 : decode prog_9_method_16_code 87 = .ok (.dup, 1) := by decide +kernel
theorem d_R_record_88 : decode prog_9_method_16_code 88 = .ok (.getfield 139, 3) := by decide +kernel
theorem d_R_record_91 : decode prog_9_method_16_code 91 = .ok (.iconst 1, 1) := by decide +kernel
theorem d_R_record_92 : decode prog_9_method_16_code 92 = .ok (.iadd, 1) := by decide +kernel
theorem d_R_record_93 : decode prog_9_method_16_code 93 = .ok (.putfield 139, 3) := by decide +kernel
theorem d_R_record_96 : decode prog_9_method_16_code 96 = .ok (.iconst 1, 1) := by decide +kernel
theorem d_R_record_97 : decode prog_9_method_16_code 97 = .ok (.ireturn, 1) := by decide +kernel
