theorem d_A_isWithin_0 : decode prog_1_method_26_code 0 = .ok (.lload_n 0, 1) := by decide +kernel
theorem d_A_isWithin_1 : decode prog_1_method_26_code 1 = .ok (.lload_n 2, 1) := by decide +kernel
theorem d_A_isWithin_2 : decode prog_1_method_26_code 2 = .ok (.lcmp, 1) := by decide +kernel
theorem d_A_isWithin_3 : decode prog_1_method_26_code 3 = .ok (.ifCond .lt 14, 3) := by decide +kernel
theorem d_A_isWithin_6 : decode prog_1_method_26_code 6 = .ok (.lload_n 0, 1) := by decide +kernel
theorem d_A_isWithin_7 : decode prog_1_method_26_code 7 = .ok (.lload 4, 2) := by decide +kernel
theorem d_A_isWithin_9 : decode prog_1_method_26_code 9 = .ok (.lcmp, 1) := by decide +kernel
theorem d_A_isWithin_10 : decode prog_1_method_26_code 10 = .ok (.ifCond .gt 7, 3) := by decide +kernel
theorem d_A_isWithin_13 : decode prog_1_method_26_code 13 = .ok (.iconst 1, 1) := by decide +kernel
theorem d_A_isWithin_14 : decode prog_1_method_26_code 14 = .ok (.goto 4, 3) := by decide +kernel
theorem d_A_isWithin_17 : decode prog_1_method_26_code 17 = .ok (.iconst 0, 1) := by decide +kernel
theorem d_A_isWithin_18 : decode prog_1_method_26_code 18 = .ok (.ireturn, 1) := by decide +kernel
theorem d_H_isAccount_0 : decode prog_2_method_13_code 0 = .ok (.iload_n 0, 1) := by decide +kernel
theorem d_H_isAccount_1 : decode prog_2_method_13_code 1 = .ok (.i2l, 1) := by decide +kernel
theorem d_H_isAccount_2 : decode prog_2_method_13_code 2 = .ok (.lconst 0, 1) := by decide +kernel
theorem d_H_isAccount_3 : decode prog_2_method_13_code 3 = .ok (.ldc2_w 125, 3) := by decide +kernel
theorem d_H_isAccount_6 : decode prog_2_method_13_code 6 = .ok (.invokestatic 53, 3) := by decide +kernel
theorem d_H_isAccount_9 : decode prog_2_method_13_code 9 = .ok (.ireturn, 1) := by decide +kernel
theorem d_H_setBalance_0 : decode prog_2_method_2_code 0 = .ok (.iload_n 1, 1) := by decide +kernel
theorem d_H_setBalance_1 : decode prog_2_method_2_code 1 = .ok (.invokestatic 47, 3) := by decide +kernel
theorem d_H_setBalance_4 : decode prog_2_method_2_code 4 = .ok (.ifCond .eq 14, 3) := by decide +kernel
theorem d_H_setBalance_7 : decode prog_2_method_2_code 7 = .ok (.lload_n 2, 1) := by decide +kernel
theorem d_H_setBalance_8 : decode prog_2_method_2_code 8 = .ok (.lconst 0, 1) := by decide +kernel
theorem d_H_setBalance_9 : decode prog_2_method_2_code 9 = .ok (.ldc2_w 51, 3) := by decide +kernel
theorem d_H_setBalance_12 : decode prog_2_method_2_code 12 = .ok (.invokestatic 53, 3) := by decide +kernel
theorem d_H_setBalance_15 : decode prog_2_method_2_code 15 = .ok (.ifCond .ne 5, 3) := by decide +kernel
theorem d_H_setBalance_18 : decode prog_2_method_2_code 18 = .ok (.iconst 0, 1) := by decide +kernel
theorem d_H_setBalance_19 : decode prog_2_method_2_code 19 = .ok (.ireturn, 1) := by decide +kernel
theorem d_H_setBalance_20 : decode prog_2_method_2_code 20 = .ok (.aload_n 0, 1) := by decide +kernel
theorem d_H_setBalance_21 : decode prog_2_method_2_code 21 = .ok (.getfield 9, 3) := by decide +kernel
theorem d_H_setBalance_24 : decode prog_2_method_2_code 24 = .ok (.iload_n 1, 1) := by decide +kernel
theorem d_H_setBalance_25 : decode prog_2_method_2_code 25 = .ok (.lload_n 2, 1) := by decide +kernel
theorem d_H_setBalance_26 : decode prog_2_method_2_code 26 = .ok (.lastore, 1) := by decide +kernel
theorem d_H_setBalance_27 : decode prog_2_method_2_code 27 = .ok (.iconst 1, 1) := by decide +kernel
theorem d_H_setBalance_28 : decode prog_2_method_2_code 28 = .ok (.ireturn, 1) := by decide +kernel
theorem d_A_account_0 : decode prog_1_method_2_code 0 = .ok (.aload_n 0, 1) := by decide +kernel
theorem d_A_account_1 : decode prog_1_method_2_code 1 = .ok (.getfield 21, 3) := by decide +kernel
theorem d_A_account_4 : decode prog_1_method_2_code 4 = .ok (.iload_n 1, 1) := by decide +kernel
theorem d_A_account_5 : decode prog_1_method_2_code 5 = .ok (.lload_n 2, 1) := by decide +kernel
theorem d_A_account_6 : decode prog_1_method_2_code 6 = .ok (.invokevirtual 39, 3) := by decide +kernel
theorem d_A_account_9 : decode prog_1_method_2_code 9 = .ok (.ireturn, 1) := by decide +kernel
theorem d_A_isCard_0 : decode prog_1_method_27_code 0 = .ok (.iload_n 0, 1) := by decide +kernel
theorem d_A_isCard_1 : decode prog_1_method_27_code 1 = .ok (.i2l, 1) := by decide +kernel
theorem d_A_isCard_2 : decode prog_1_method_27_code 2 = .ok (.lconst 0, 1) := by decide +kernel
theorem d_A_isCard_3 : decode prog_1_method_27_code 3 = .ok (.ldc2_w 181, 3) := by decide +kernel
theorem d_A_isCard_6 : decode prog_1_method_27_code 6 = .ok (.invokestatic 183, 3) := by decide +kernel
theorem d_A_isCard_9 : decode prog_1_method_27_code 9 = .ok (.ireturn, 1) := by decide +kernel
theorem d_A_isPin_0 : decode prog_1_method_28_code 0 = .ok (.lload_n 0, 1) := by decide +kernel
theorem d_A_isPin_1 : decode prog_1_method_28_code 1 = .ok (.lconst 0, 1) := by decide +kernel
theorem d_A_isPin_2 : decode prog_1_method_28_code 2 = .ok (.ldc2_w 187, 3) := by decide +kernel
theorem d_A_isPin_5 : decode prog_1_method_28_code 5 = .ok (.invokestatic 183, 3) := by decide +kernel
theorem d_A_isPin_8 : decode prog_1_method_28_code 8 = .ok (.ireturn, 1) := by decide +kernel
theorem d_H_tellCard_0 : decode prog_2_method_3_code 0 = .ok (.iload_n 1, 1) := by decide +kernel
theorem d_H_tellCard_1 : decode prog_2_method_3_code 1 = .ok (.invokestatic 57, 3) := by decide +kernel
theorem d_H_tellCard_4 : decode prog_2_method_3_code 4 = .ok (.ifCond .eq 18, 3) := by decide +kernel
theorem d_H_tellCard_7 : decode prog_2_method_3_code 7 = .ok (.iload_n 2, 1) := by decide +kernel
theorem d_H_tellCard_8 : decode prog_2_method_3_code 8 = .ok (.invokestatic 47, 3) := by decide +kernel
theorem d_H_tellCard_11 : decode prog_2_method_3_code 11 = .ok (.ifCond .eq 11, 3) := by decide +kernel
theorem d_H_tellCard_14 : decode prog_2_method_3_code 14 = .ok (.iload_n 3, 1) := by decide +kernel
theorem d_H_tellCard_15 : decode prog_2_method_3_code 15 = .ok (.i2l, 1) := by decide +kernel
theorem d_H_tellCard_16 : decode prog_2_method_3_code 16 = .ok (.invokestatic 60, 3) := by decide +kernel
theorem d_H_tellCard_19 : decode prog_2_method_3_code 19 = .ok (.ifCond .ne 5, 3) := by decide +kernel
theorem d_H_tellCard_22 : decode prog_2_method_3_code 22 = .ok (.iconst 0, 1) := by decide +kernel
theorem d_H_tellCard_23 : decode prog_2_method_3_code 23 = .ok (.ireturn, 1) := by decide +kernel
theorem d_H_tellCard_24 : decode prog_2_method_3_code 24 = .ok (.aload_n 0, 1) := by decide +kernel
theorem d_H_tellCard_25 : decode prog_2_method_3_code 25 = .ok (.getfield 15, 3) := by decide +kernel
theorem d_H_tellCard_28 : decode prog_2_method_3_code 28 = .ok (.iload_n 1, 1) := by decide +kernel
theorem d_H_tellCard_29 : decode prog_2_method_3_code 29 = .ok (.iload_n 2, 1) := by decide +kernel
theorem d_H_tellCard_30 : decode prog_2_method_3_code 30 = .ok (.iastore, 1) := by decide +kernel
theorem d_H_tellCard_31 : decode prog_2_method_3_code 31 = .ok (.aload_n 0, 1) := by decide +kernel
theorem d_H_tellCard_32 : decode prog_2_method_3_code 32 = .ok (.getfield 19, 3) := by decide +kernel
theorem d_H_tellCard_35 : decode prog_2_method_3_code 35 = .ok (.iload_n 1, 1) := by decide +kernel
theorem d_H_tellCard_36 : decode prog_2_method_3_code 36 = .ok (.iload_n 3, 1) := by decide +kernel
theorem d_H_tellCard_37 : decode prog_2_method_3_code 37 = .ok (.iastore, 1) := by decide +kernel
theorem d_H_tellCard_38 : decode prog_2_method_3_code 38 = .ok (.aload_n 0, 1) := by decide +kernel
theorem d_H_tellCard_39 : decode prog_2_method_3_code 39 = .ok (.getfield 22, 3) := by decide +kernel
theorem d_H_tellCard_42 : decode prog_2_method_3_code 42 = .ok (.iload_n 1, 1) := by decide +kernel
theorem d_H_tellCard_43 : decode prog_2_method_3_code 43 = .ok (.iconst 0, 1) := by decide +kernel
theorem d_H_tellCard_44 : decode prog_2_method_3_code 44 = .ok (.iastore, 1) := by decide +kernel
theorem d_H_tellCard_45 : decode prog_2_method_3_code 45 = .ok (.iconst 1, 1) := by decide +kernel
theorem d_H_tellCard_46 : decode prog_2_method_3_code 46 = .ok (.ireturn, 1) := by decide +kernel
theorem d_A_card_0 : decode prog_1_method_3_code 0 = .ok (.aload_n 0, 1) := by decide +kernel
theorem d_A_card_1 : decode prog_1_method_3_code 1 = .ok (.getfield 21, 3) := by decide +kernel
theorem d_A_card_4 : decode prog_1_method_3_code 4 = .ok (.iload_n 1, 1) := by decide +kernel
theorem d_A_card_5 : decode prog_1_method_3_code 5 = .ok (.iload_n 2, 1) := by decide +kernel
theorem d_A_card_6 : decode prog_1_method_3_code 6 = .ok (.iload_n 3, 1) := by decide +kernel
theorem d_A_card_7 : decode prog_1_method_3_code 7 = .ok (.invokevirtual 43, 3) := by decide +kernel
theorem d_A_card_10 : decode prog_1_method_3_code 10 = .ok (.ireturn, 1) := by decide +kernel
theorem d_O_isCassette_0 : decode prog_7_method_15_code 0 = .ok (.iload_n 0, 1) := by decide +kernel
theorem d_O_isCassette_1 : decode prog_7_method_15_code 1 = .ok (.ifCond .lt 12, 3) := by decide +kernel
theorem d_O_isCassette_4 : decode prog_7_method_15_code 4 = .ok (.iload_n 0, 1) := by decide +kernel
theorem d_O_isCassette_5 : decode prog_7_method_15_code 5 = .ok (.iconst 4, 1) := by decide +kernel
theorem d_O_isCassette_6 : decode prog_7_method_15_code 6 = .ok (.if_icmp .ge 7, 3) := by decide +kernel
theorem d_O_isCassette_9 : decode prog_7_method_15_code 9 = .ok (.iconst 1, 1) := by decide +kernel
theorem d_O_isCassette_10 : decode prog_7_method_15_code 10 = .ok (.goto 4, 3) := by decide +kernel
theorem d_O_isCassette_13 : decode prog_7_method_15_code 13 = .ok (.iconst 0, 1) := by decide +kernel
theorem d_O_isCassette_14 : decode prog_7_method_15_code 14 = .ok (.ireturn, 1) := by decide +kernel
theorem d_O_fill_0 : decode prog_7_method_2_code 0 = .ok (.iload_n 1, 1) := by decide +kernel
theorem d_O_fill_1 : decode prog_7_method_2_code 1 = .ok (.invokestatic 38, 3) := by decide +kernel
theorem d_O_fill_4 : decode prog_7_method_2_code 4 = .ok (.ifCond .eq 27, 3) := by decide +kernel
theorem d_O_fill_7 : decode prog_7_method_2_code 7 = .ok (.iload_n 2, 1) := by decide +kernel
theorem d_O_fill_8 : decode prog_7_method_2_code 8 = .ok (.i2l, 1) := by decide +kernel
theorem d_O_fill_9 : decode prog_7_method_2_code 9 = .ok (.lconst 1, 1) := by decide +kernel
theorem d_O_fill_10 : decode prog_7_method_2_code 10 = .ok (.ldc2_w 42, 3) := by decide +kernel
theorem d_O_fill_13 : decode prog_7_method_2_code 13 = .ok (.invokestatic 44, 3) := by decide +kernel
theorem d_O_fill_16 : decode prog_7_method_2_code 16 = .ok (.ifCond .eq 15, 3) := by decide +kernel
theorem d_O_fill_19 : decode prog_7_method_2_code 19 = .ok (.iload_n 3, 1) := by decide +kernel
theorem d_O_fill_20 : decode prog_7_method_2_code 20 = .ok (.i2l, 1) := by decide +kernel
theorem d_O_fill_21 : decode prog_7_method_2_code 21 = .ok (.lconst 0, 1) := by decide +kernel
theorem d_O_fill_22 : decode prog_7_method_2_code 22 = .ok (.ldc2_w 48, 3) := by decide +kernel
theorem d_O_fill_25 : decode prog_7_method_2_code 25 = .ok (.invokestatic 44, 3) := by decide +kernel
theorem d_O_fill_28 : decode prog_7_method_2_code 28 = .ok (.ifCond .ne 5, 3) := by decide +kernel
theorem d_O_fill_31 : decode prog_7_method_2_code 31 = .ok (.iconst 0, 1) := by decide +kernel
theorem d_O_fill_32 : decode prog_7_method_2_code 32 = .ok (.ireturn, 1) := by decide +kernel
theorem d_O_fill_33 : decode prog_7_method_2_code 33 = .ok (.aload_n 0, 1) := by decide +kernel
theorem d_O_fill_34 : decode prog_7_method_2_code 34 = .ok (.getfield 18, 3) := by decide +kernel
theorem d_O_fill_37 : decode prog_7_method_2_code 37 = .ok (.iload_n 1, 1) := by decide +kernel
theorem d_O_fill_38 : decode prog_7_method_2_code 38 = .ok (.iload_n 2, 1) := by decide +kernel
theorem d_O_fill_39 : decode prog_7_method_2_code 39 = .ok (.iastore, 1) := by decide +kernel
theorem d_O_fill_40 : decode prog_7_method_2_code 40 = .ok (.aload_n 0, 1) := by decide +kernel
theorem d_O_fill_41 : decode prog_7_method_2_code 41 = .ok (.getfield 23, 3) := by decide +kernel
theorem d_O_fill_44 : decode prog_7_method_2_code 44 = .ok (.iload_n 1, 1) := by decide +kernel
theorem d_O_fill_45 : decode prog_7_method_2_code 45 = .ok (.iload_n 3, 1) := by decide +kernel
theorem d_O_fill_46 : decode prog_7_method_2_code 46 = .ok (.iastore, 1) := by decide +kernel
theorem d_O_fill_47 : decode prog_7_method_2_code 47 = .ok (.iconst 1, 1) := by decide +kernel
theorem d_O_fill_48 : decode prog_7_method_2_code 48 = .ok (.ireturn, 1) := by decide +kernel
theorem d_M_fillCassette_0 : decode prog_6_method_2_code 0 = .ok (.aload_n 0, 1) := by decide +kernel
theorem d_M_fillCassette_1 : decode prog_6_method_2_code 1 = .ok (.getfield 29, 3) := by decide +kernel
theorem d_M_fillCassette_4 : decode prog_6_method_2_code 4 = .ok (.ifCond .eq 28, 3) := by decide +kernel
theorem d_M_fillCassette_7 : decode prog_6_method_2_code 7 = .ok (.aload_n 0, 1) := by decide +kernel
theorem d_M_fillCassette_8 : decode prog_6_method_2_code 8 = .ok (.getfield 37, 3) := by decide +kernel
theorem d_M_fillCassette_11 : decode prog_6_method_2_code 11 = .ok (.iconst 4, 1) := by decide +kernel
theorem d_M_fillCassette_12 : decode prog_6_method_2_code 12 = .ok (.if_icmp .eq 20, 3) := by decide +kernel
theorem d_M_fillCassette_15 : decode prog_6_method_2_code 15 = .ok (.aload_n 0, 1) := by decide +kernel
theorem d_M_fillCassette_16 : decode prog_6_method_2_code 16 = .ok (.getfield 12, 3) := by decide +kernel
theorem d_M_fillCassette_19 : decode prog_6_method_2_code 19 = .ok (.iload_n 1, 1) := by decide +kernel
theorem d_M_fillCassette_20 : decode prog_6_method_2_code 20 = .ok (.iload_n 2, 1) := by decide +kernel
theorem d_M_fillCassette_21 : decode prog_6_method_2_code 21 = .ok (.iload_n 3, 1) := by decide +kernel
theorem d_M_fillCassette_22 : decode prog_6_method_2_code 22 = .ok (.invokevirtual 53, 3) := by decide +kernel
theorem d_M_fillCassette_25 : decode prog_6_method_2_code 25 = .ok (.ifCond .eq 7, 3) := by decide +kernel
theorem d_M_fillCassette_28 : decode prog_6_method_2_code 28 = .ok (.iconst 1, 1) := by decide +kernel
theorem d_M_fillCassette_29 : decode prog_6_method_2_code 29 = .ok (.goto 4, 3) := by decide +kernel
theorem d_M_fillCassette_32 : decode prog_6_method_2_code 32 = .ok (.iconst 0, 1) := by decide +kernel
theorem d_M_fillCassette_33 : decode prog_6_method_2_code 33 = .ok (.ireturn, 1) := by decide +kernel
theorem d_A_load_0 : decode prog_1_method_4_code 0 = .ok (.aload_n 0, 1) := by decide +kernel
theorem d_A_load_1 : decode prog_1_method_4_code 1 = .ok (.getfield 28, 3) := by decide +kernel
theorem d_A_load_4 : decode prog_1_method_4_code 4 = .ok (.iload_n 1, 1) := by decide +kernel
theorem d_A_load_5 : decode prog_1_method_4_code 5 = .ok (.iload_n 2, 1) := by decide +kernel
theorem d_A_load_6 : decode prog_1_method_4_code 6 = .ok (.iload_n 3, 1) := by decide +kernel
theorem d_A_load_7 : decode prog_1_method_4_code 7 = .ok (.invokevirtual 47, 3) := by decide +kernel
theorem d_A_load_10 : decode prog_1_method_4_code 10 = .ok (.ireturn, 1) := by decide +kernel
theorem d_M_putCardIn_0 : decode prog_6_method_3_code 0 = .ok (.aload_n 0, 1) := by decide +kernel
theorem d_M_putCardIn_1 : decode prog_6_method_3_code 1 = .ok (.getfield 29, 3) := by decide +kernel
theorem d_M_putCardIn_4 : decode prog_6_method_3_code 4 = .ok (.ifCond .eq 26, 3) := by decide +kernel
theorem d_M_putCardIn_7 : decode prog_6_method_3_code 7 = .ok (.aload_n 0, 1) := by decide +kernel
theorem d_M_putCardIn_8 : decode prog_6_method_3_code 8 = .ok (.getfield 37, 3) := by decide +kernel
theorem d_M_putCardIn_11 : decode prog_6_method_3_code 11 = .ok (.ifCond .ne 19, 3) := by decide +kernel
theorem d_M_putCardIn_14 : decode prog_6_method_3_code 14 = .ok (.iload_n 1, 1) := by decide +kernel
theorem d_M_putCardIn_15 : decode prog_6_method_3_code 15 = .ok (.invokestatic 57, 3) := by decide +kernel
theorem d_M_putCardIn_18 : decode prog_6_method_3_code 18 = .ok (.ifCond .eq 12, 3) := by decide +kernel
theorem d_M_putCardIn_21 : decode prog_6_method_3_code 21 = .ok (.aload_n 0, 1) := by decide +kernel
theorem d_M_putCardIn_22 : decode prog_6_method_3_code 22 = .ok (.getfield 25, 3) := by decide +kernel
theorem d_M_putCardIn_25 : decode prog_6_method_3_code 25 = .ok (.iload_n 1, 1) := by decide +kernel
theorem d_M_putCardIn_26 : decode prog_6_method_3_code 26 = .ok (.baload, 1) := by decide +kernel
theorem d_M_putCardIn_27 : decode prog_6_method_3_code 27 = .ok (.ifCond .eq 5, 3) := by decide +kernel
theorem d_M_putCardIn_30 : decode prog_6_method_3_code 30 = .ok (.iconst 0, 1) := by decide +kernel
theorem d_M_putCardIn_31 : decode prog_6_method_3_code 31 = .ok (.ireturn, 1) := by decide +kernel
theorem d_M_putCardIn_32 : decode prog_6_method_3_code 32 = .ok (.aload_n 0, 1) := by decide +kernel
theorem d_M_putCardIn_33 : decode prog_6_method_3_code 33 = .ok (.iload_n 1, 1) := by decide +kernel
theorem d_M_putCardIn_34 : decode prog_6_method_3_code 34 = .ok (.putfield 40, 3) := by decide +kernel
theorem d_M_putCardIn_37 : decode prog_6_method_3_code 37 = .ok (.aload_n 0, 1) := by decide +kernel
theorem d_M_putCardIn_38 : decode prog_6_method_3_code 38 = .ok (.iconst 1, 1) := by decide +kernel
theorem d_M_putCardIn_39 : decode prog_6_method_3_code 39 = .ok (.putfield 37, 3) := by decide +kernel
theorem d_M_putCardIn_42 : decode prog_6_method_3_code 42 = .ok (.iconst 1, 1) := by decide +kernel
theorem d_M_putCardIn_43 : decode prog_6_method_3_code 43 = .ok (.ireturn, 1) := by decide +kernel
theorem d_A_insert_0 : decode prog_1_method_5_code 0 = .ok (.aload_n 0, 1) := by decide +kernel
theorem d_A_insert_1 : decode prog_1_method_5_code 1 = .ok (.getfield 28, 3) := by decide +kernel
theorem d_A_insert_4 : decode prog_1_method_5_code 4 = .ok (.iload_n 1, 1) := by decide +kernel
theorem d_A_insert_5 : decode prog_1_method_5_code 5 = .ok (.invokevirtual 50, 3) := by decide +kernel
theorem d_A_insert_8 : decode prog_1_method_5_code 8 = .ok (.ireturn, 1) := by decide +kernel
theorem d_M_takeTrace_0 : decode prog_6_method_20_code 0 = .ok (.aload_n 0, 1) := by decide +kernel
theorem d_M_takeTrace_1 : decode prog_6_method_20_code 1 = .ok (.aload_n 0, 1) := by decide +kernel
theorem d_M_takeTrace_2 : decode prog_6_method_20_code 2 = .ok (.getfield 43, 3) := by decide +kernel
theorem d_M_takeTrace_5 : decode prog_6_method_20_code 5 = .ok (.putfield 128, 3) := by decide +kernel
theorem d_M_takeTrace_8 : decode prog_6_method_20_code 8 = .ok (.aload_n 0, 1) := by decide +kernel
theorem d_M_takeTrace_9 : decode prog_6_method_20_code 9 = .ok (.aload_n 0, 1) := by decide +kernel
theorem d_M_takeTrace_10 : decode prog_6_method_20_code 10 = .ok (.getfield 40, 3) := by decide +kernel
theorem d_M_takeTrace_13 : decode prog_6_method_20_code 13 = .ok (.putfield 46, 3) := by decide +kernel
theorem d_M_takeTrace_16 : decode prog_6_method_20_code 16 = .ok (.aload_n 0, 1) := by decide +kernel
theorem d_M_takeTrace_17 : decode prog_6_method_20_code 17 = .ok (.dup, 1) := by decide +kernel
theorem d_M_takeTrace_18 : decode prog_6_method_20_code 18 = .ok (.getfield 43, 3) := by decide +kernel
theorem d_M_takeTrace_21 : decode prog_6_method_20_code 21 = .ok (.iconst 1, 1) := by decide +kernel
theorem d_M_takeTrace_22 : decode prog_6_method_20_code 22 = .ok (.iadd, 1) := by decide +kernel
theorem d_M_takeTrace_23 : decode prog_6_method_20_code 23 = .ok (.putfield 43, 3) := by decide +kernel
theorem d_M_takeTrace_26 : decode prog_6_method_20_code 26 = .ok (.return_, 1) := by decide +kernel
theorem d_M_mayStep_0 : decode prog_6_method_21_code 0 = .ok (.aload_n 0, 1) := by decide +kernel
theorem d_M_mayStep_1 : decode prog_6_method_21_code 1 = .ok (.getfield 33, 3) := by decide +kernel
theorem d_M_mayStep_4 : decode prog_6_method_21_code 4 = .ok (.ifCond .ne 11, 3) := by decide +kernel
theorem d_M_mayStep_7 : decode prog_6_method_21_code 7 = .ok (.aload_n 0, 1) := by decide +kernel
theorem d_M_mayStep_8 : decode prog_6_method_21_code 8 = .ok (.iconst 0, 1) := by decide +kernel
theorem d_M_mayStep_9 : decode prog_6_method_21_code 9 = .ok (.putfield 29, 3) := by decide +kernel
theorem d_M_mayStep_12 : decode prog_6_method_21_code 12 = .ok (.goto 20, 3) := by decide +kernel
theorem d_M_mayStep_15 : decode prog_6_method_21_code 15 = .ok (.aload_n 0, 1) := by decide +kernel
theorem d_M_mayStep_16 : decode prog_6_method_21_code 16 = .ok (.getfield 33, 3) := by decide +kernel
theorem d_M_mayStep_19 : decode prog_6_method_21_code 19 = .ok (.ifCond .le 13, 3) := by decide +kernel
theorem d_M_mayStep_22 : decode prog_6_method_21_code 22 = .ok (.aload_n 0, 1) := by decide +kernel
theorem d_M_mayStep_23 : decode prog_6_method_21_code 23 = .ok (.dup, 1) := by decide +kernel
theorem d_M_mayStep_24 : decode prog_6_method_21_code 24 = .ok (.getfield 33, 3) := by decide +kernel
theorem d_M_mayStep_27 : decode prog_6_method_21_code 27 = .ok (.iconst 1, 1) := by decide +kernel
theorem d_M_mayStep_28 : decode prog_6_method_21_code 28 = .ok (.isub, 1) := by decide +kernel
theorem d_M_mayStep_29 : decode prog_6_method_21_code 29 = .ok (.putfield 33, 3) := by decide +kernel
theorem d_M_mayStep_32 : decode prog_6_method_21_code 32 = .ok (.aload_n 0, 1) := by decide +kernel
theorem d_M_mayStep_33 : decode prog_6_method_21_code 33 = .ok (.getfield 29, 3) := by decide +kernel
theorem d_M_mayStep_36 : decode prog_6_method_21_code 36 = .ok (.ireturn, 1) := by decide +kernel
theorem d_E_writeNumber_0 : decode prog_4_method_11_code 0 = .ok (.iconst 0, 1) := by decide +kernel
theorem d_E_writeNumber_1 : decode prog_4_method_11_code 1 = .ok (.istore 4, 2) := by decide +kernel
theorem d_E_writeNumber_3 : decode prog_4_method_11_code 3 = .ok (.iload 4, 2) := by decide +kernel
theorem d_E_writeNumber_5 : decode prog_4_method_11_code 5 = .ok (.iconst 4, 1) := by decide +kernel
theorem d_E_writeNumber_6 : decode prog_4_method_11_code 6 = .ok (.if_icmp .ge 42, 3) := by decide +kernel
theorem d_E_writeNumber_9 : decode prog_4_method_11_code 9 = .ok (.iload_n 1, 1) := by decide +kernel
theorem d_E_writeNumber_10 : decode prog_4_method_11_code 10 = .ok (.iload 4, 2) := by decide +kernel
theorem d_E_writeNumber_12 : decode prog_4_method_11_code 12 = .ok (.iadd, 1) := by decide +kernel
theorem d_E_writeNumber_13 : decode prog_4_method_11_code 13 = .ok (.bipush 13, 2) := by decide +kernel
theorem d_E_writeNumber_15 : decode prog_4_method_11_code 15 = .ok (.if_icmp .ge 33, 3) := by decide +kernel
theorem d_E_writeNumber_18 : decode prog_4_method_11_code 18 = .ok (.aload_n 0, 1) := by decide +kernel
theorem d_E_writeNumber_19 : decode prog_4_method_11_code 19 = .ok (.getfield 9, 3) := by decide +kernel
theorem d_E_writeNumber_22 : decode prog_4_method_11_code 22 = .ok (.iload_n 1, 1) := by decide +kernel
theorem d_E_writeNumber_23 : decode prog_4_method_11_code 23 = .ok (.iload 4, 2) := by decide +kernel
theorem d_E_writeNumber_25 : decode prog_4_method_11_code 25 = .ok (.iadd, 1) := by decide +kernel
theorem d_E_writeNumber_26 : decode prog_4_method_11_code 26 = .ok (.lload_n 2, 1) := by decide +kernel
theorem d_E_writeNumber_27 : decode prog_4_method_11_code 27 = .ok (.bipush 24, 2) := by decide +kernel
theorem d_E_writeNumber_29 : decode prog_4_method_11_code 29 = .ok (.bipush 8, 2) := by decide +kernel
theorem d_E_writeNumber_31 : decode prog_4_method_11_code 31 = .ok (.iload 4, 2) := by decide +kernel
theorem d_E_writeNumber_33 : decode prog_4_method_11_code 33 = .ok (.imul, 1) := by decide +kernel
theorem d_E_writeNumber_34 : decode prog_4_method_11_code 34 = .ok (.isub, 1) := by decide +kernel
theorem d_E_writeNumber_35 : decode prog_4_method_11_code 35 = .ok (.lshr, 1) := by decide +kernel
theorem d_E_writeNumber_36 : decode prog_4_method_11_code 36 = .ok (.l2i, 1) := by decide +kernel
theorem d_E_writeNumber_37 : decode prog_4_method_11_code 37 = .ok (.sipush 255, 3) := by decide +kernel
theorem d_E_writeNumber_40 : decode prog_4_method_11_code 40 = .ok (.iand, 1) := by decide +kernel
theorem d_E_writeNumber_41 : decode prog_4_method_11_code 41 = .ok (.iastore, 1) := by decide +kernel
theorem d_E_writeNumber_42 : decode prog_4_method_11_code 42 = .ok (.iinc 4 1, 3) := by decide +kernel
theorem d_E_writeNumber_45 : decode prog_4_method_11_code 45 = .ok (.goto (-42), 3) := by decide +kernel
theorem d_E_writeNumber_48 : decode prog_4_method_11_code 48 = .ok (.return_, 1) := by decide +kernel
theorem d_E_reckonCheck_0 : decode prog_4_method_10_code 0 = .ok (.ldc 37, 2) := by decide +kernel
theorem d_E_reckonCheck_2 : decode prog_4_method_10_code 2 = .ok (.istore_n 1, 1) := by decide +kernel
theorem d_E_reckonCheck_3 : decode prog_4_method_10_code 3 = .ok (.iconst 0, 1) := by decide +kernel
theorem d_E_reckonCheck_4 : decode prog_4_method_10_code 4 = .ok (.istore_n 2, 1) := by decide +kernel
theorem d_E_reckonCheck_5 : decode prog_4_method_10_code 5 = .ok (.iload_n 2, 1) := by decide +kernel
theorem d_E_reckonCheck_6 : decode prog_4_method_10_code 6 = .ok (.bipush 11, 2) := by decide +kernel
theorem d_E_reckonCheck_8 : decode prog_4_method_10_code 8 = .ok (.if_icmp .ge 67, 3) := by decide +kernel
theorem d_E_reckonCheck_11 : decode prog_4_method_10_code 11 = .ok (.iload_n 1, 1) := by decide +kernel
theorem d_E_reckonCheck_12 : decode prog_4_method_10_code 12 = .ok (.aload_n 0, 1) := by decide +kernel
theorem d_E_reckonCheck_13 : decode prog_4_method_10_code 13 = .ok (.getfield 9, 3) := by decide +kernel
theorem d_E_reckonCheck_16 : decode prog_4_method_10_code 16 = .ok (.iload_n 2, 1) := by decide +kernel
theorem d_E_reckonCheck_17 : decode prog_4_method_10_code 17 = .ok (.iaload, 1) := by decide +kernel
theorem d_E_reckonCheck_18 : decode prog_4_method_10_code 18 = .ok (.bipush 8, 2) := by decide +kernel
theorem d_E_reckonCheck_20 : decode prog_4_method_10_code 20 = .ok (.ishl, 1) := by decide +kernel
theorem d_E_reckonCheck_21 : decode prog_4_method_10_code 21 = .ok (.ixor, 1) := by decide +kernel
theorem d_E_reckonCheck_22 : decode prog_4_method_10_code 22 = .ok (.istore_n 1, 1) := by decide +kernel
theorem d_E_reckonCheck_23 : decode prog_4_method_10_code 23 = .ok (.iconst 0, 1) := by decide +kernel
theorem d_E_reckonCheck_24 : decode prog_4_method_10_code 24 = .ok (.istore_n 3, 1) := by decide +kernel
theorem d_E_reckonCheck_25 : decode prog_4_method_10_code 25 = .ok (.iload_n 3, 1) := by decide +kernel
theorem d_E_reckonCheck_26 : decode prog_4_method_10_code 26 = .ok (.bipush 8, 2) := by decide +kernel
theorem d_E_reckonCheck_28 : decode prog_4_method_10_code 28 = .ok (.if_icmp .ge 41, 3) := by decide +kernel
theorem d_E_reckonCheck_31 : decode prog_4_method_10_code 31 = .ok (.iload_n 1, 1) := by decide +kernel
theorem d_E_reckonCheck_32 : decode prog_4_method_10_code 32 = .ok (.sipush 32767, 3) := by decide +kernel
theorem d_E_reckonCheck_35 : decode prog_4_method_10_code 35 = .ok (.if_icmp .le 7, 3) := by decide +kernel
theorem d_E_reckonCheck_38 : decode prog_4_method_10_code 38 = .ok (.iconst 1, 1) := by decide +kernel
theorem d_E_reckonCheck_39 : decode prog_4_method_10_code 39 = .ok (.goto 4, 3) := by decide +kernel
theorem d_E_reckonCheck_42 : decode prog_4_method_10_code 42 = .ok (.iconst 0, 1) := by decide +kernel
theorem d_E_reckonCheck_43 : decode prog_4_method_10_code 43 = .ok (.istore 4, 2) := by decide +kernel
theorem d_E_reckonCheck_45 : decode prog_4_method_10_code 45 = .ok (.iload_n 1, 1) := by decide +kernel
theorem d_E_reckonCheck_46 : decode prog_4_method_10_code 46 = .ok (.iconst 1, 1) := by decide +kernel
theorem d_E_reckonCheck_47 : decode prog_4_method_10_code 47 = .ok (.ishl, 1) := by decide +kernel
theorem d_E_reckonCheck_48 : decode prog_4_method_10_code 48 = .ok (.ldc 37, 2) := by decide +kernel
theorem d_E_reckonCheck_50 : decode prog_4_method_10_code 50 = .ok (.iand, 1) := by decide +kernel
theorem d_E_reckonCheck_51 : decode prog_4_method_10_code 51 = .ok (.istore_n 1, 1) := by decide +kernel
theorem d_E_reckonCheck_52 : decode prog_4_method_10_code 52 = .ok (.iload 4, 2) := by decide +kernel
theorem d_E_reckonCheck_54 : decode prog_4_method_10_code 54 = .ok (.ifCond .eq 9, 3) := by decide +kernel
theorem d_E_reckonCheck_57 : decode prog_4_method_10_code 57 = .ok (.iload_n 1, 1) := by decide +kernel
theorem d_E_reckonCheck_58 : decode prog_4_method_10_code 58 = .ok (.sipush 4129, 3) := by decide +kernel
theorem d_E_reckonCheck_61 : decode prog_4_method_10_code 61 = .ok (.ixor, 1) := by decide +kernel
theorem d_E_reckonCheck_62 : decode prog_4_method_10_code 62 = .ok (.istore_n 1, 1) := by decide +kernel
theorem d_E_reckonCheck_63 : decode prog_4_method_10_code 63 = .ok (.iinc 3 1, 3) := by decide +kernel
theorem d_E_reckonCheck_66 : decode prog_4_method_10_code 66 = .ok (.goto (-41), 3) := by decide +kernel
theorem d_E_reckonCheck_69 : decode prog_4_method_10_code 69 = .ok (.iinc 2 1, 3) := by decide +kernel
theorem d_E_reckonCheck_72 : decode prog_4_method_10_code 72 = .ok (.goto (-67), 3) := by decide +kernel
theorem d_E_reckonCheck_75 : decode prog_4_method_10_code 75 = .ok (.iload_n 1, 1) := by decide +kernel
theorem d_E_reckonCheck_76 : decode prog_4_method_10_code 76 = .ok (.ireturn, 1) := by decide +kernel
theorem d_E_write_0 : decode prog_4_method_2_code 0 = .ok (.aload_n 0, 1) := by decide +kernel
theorem d_E_write_1 : decode prog_4_method_2_code 1 = .ok (.getfield 9, 3) := by decide +kernel
theorem d_E_write_4 : decode prog_4_method_2_code 4 = .ok (.iconst 0, 1) := by decide +kernel
theorem d_E_write_5 : decode prog_4_method_2_code 5 = .ok (.iload_n 1, 1) := by decide +kernel
theorem d_E_write_6 : decode prog_4_method_2_code 6 = .ok (.iastore, 1) := by decide +kernel
theorem d_E_write_7 : decode prog_4_method_2_code 7 = .ok (.aload_n 0, 1) := by decide +kernel
theorem d_E_write_8 : decode prog_4_method_2_code 8 = .ok (.iconst 1, 1) := by decide +kernel
theorem d_E_write_9 : decode prog_4_method_2_code 9 = .ok (.iload_n 2, 1) := by decide +kernel
theorem d_E_write_10 : decode prog_4_method_2_code 10 = .ok (.i2l, 1) := by decide +kernel
theorem d_E_write_11 : decode prog_4_method_2_code 11 = .ok (.invokevirtual 15, 3) := by decide +kernel
theorem d_E_write_14 : decode prog_4_method_2_code 14 = .ok (.aload_n 0, 1) := by decide +kernel
theorem d_E_write_15 : decode prog_4_method_2_code 15 = .ok (.getfield 9, 3) := by decide +kernel
theorem d_E_write_18 : decode prog_4_method_2_code 18 = .ok (.iconst 5, 1) := by decide +kernel
theorem d_E_write_19 : decode prog_4_method_2_code 19 = .ok (.iload_n 3, 1) := by decide +kernel
theorem d_E_write_20 : decode prog_4_method_2_code 20 = .ok (.iastore, 1) := by decide +kernel
theorem d_E_write_21 : decode prog_4_method_2_code 21 = .ok (.aload_n 0, 1) := by decide +kernel
theorem d_E_write_22 : decode prog_4_method_2_code 22 = .ok (.bipush 6, 2) := by decide +kernel
theorem d_E_write_24 : decode prog_4_method_2_code 24 = .ok (.lload 4, 2) := by decide +kernel
theorem d_E_write_26 : decode prog_4_method_2_code 26 = .ok (.invokevirtual 15, 3) := by decide +kernel
theorem d_E_write_29 : decode prog_4_method_2_code 29 = .ok (.aload_n 0, 1) := by decide +kernel
theorem d_E_write_30 : decode prog_4_method_2_code 30 = .ok (.getfield 9, 3) := by decide +kernel
theorem d_E_write_33 : decode prog_4_method_2_code 33 = .ok (.bipush 10, 2) := by decide +kernel
theorem d_E_write_35 : decode prog_4_method_2_code 35 = .ok (.iload 6, 2) := by decide +kernel
theorem d_E_write_37 : decode prog_4_method_2_code 37 = .ok (.iastore, 1) := by decide +kernel
theorem d_E_write_38 : decode prog_4_method_2_code 38 = .ok (.aload_n 0, 1) := by decide +kernel
theorem d_E_write_39 : decode prog_4_method_2_code 39 = .ok (.invokevirtual 19, 3) := by decide +kernel
theorem d_E_write_42 : decode prog_4_method_2_code 42 = .ok (.istore 7, 2) := by decide +kernel
theorem d_E_write_44 : decode prog_4_method_2_code 44 = .ok (.aload_n 0, 1) := by decide +kernel
theorem d_E_write_45 : decode prog_4_method_2_code 45 = .ok (.getfield 9, 3) := by decide +kernel
theorem d_E_write_48 : decode prog_4_method_2_code 48 = .ok (.bipush 11, 2) := by decide +kernel
theorem d_E_write_50 : decode prog_4_method_2_code 50 = .ok (.iload 7, 2) := by decide +kernel
theorem d_E_write_52 : decode prog_4_method_2_code 52 = .ok (.bipush 8, 2) := by decide +kernel
theorem d_E_write_54 : decode prog_4_method_2_code 54 = .ok (.ishr, 1) := by decide +kernel
theorem d_E_write_55 : decode prog_4_method_2_code 55 = .ok (.iastore, 1) := by decide +kernel
theorem d_E_write_56 : decode prog_4_method_2_code 56 = .ok (.aload_n 0, 1) := by decide +kernel
theorem d_E_write_57 : decode prog_4_method_2_code 57 = .ok (.getfield 9, 3) := by decide +kernel
theorem d_E_write_60 : decode prog_4_method_2_code 60 = .ok (.bipush 12, 2) := by decide +kernel
theorem d_E_write_62 : decode prog_4_method_2_code 62 = .ok (.iload 7, 2) := by decide +kernel
theorem d_E_write_64 : decode prog_4_method_2_code 64 = .ok (.sipush 255, 3) := by decide +kernel
theorem d_E_write_67 : decode prog_4_method_2_code 67 = .ok (.iand, 1) := by decide +kernel
theorem d_E_write_68 : decode prog_4_method_2_code 68 = .ok (.iastore, 1) := by decide +kernel
theorem d_E_write_69 : decode prog_4_method_2_code 69 = .ok (.return_, 1) := by decide +kernel
theorem d_N_has_0 : decode prog_5_method_2_code 0 = .ok (.iload_n 1, 1) := by decide +kernel
theorem d_N_has_1 : decode prog_5_method_2_code 1 = .ok (.ifCond .lt 15, 3) := by decide +kernel
theorem d_N_has_4 : decode prog_5_method_2_code 4 = .ok (.iload_n 1, 1) := by decide +kernel
theorem d_N_has_5 : decode prog_5_method_2_code 5 = .ok (.aload_n 0, 1) := by decide +kernel
theorem d_N_has_6 : decode prog_5_method_2_code 6 = .ok (.getfield 18, 3) := by decide +kernel
theorem d_N_has_9 : decode prog_5_method_2_code 9 = .ok (.if_icmp .ge 7, 3) := by decide +kernel
theorem d_N_has_12 : decode prog_5_method_2_code 12 = .ok (.iconst 1, 1) := by decide +kernel
theorem d_N_has_13 : decode prog_5_method_2_code 13 = .ok (.goto 4, 3) := by decide +kernel
theorem d_N_has_16 : decode prog_5_method_2_code 16 = .ok (.iconst 0, 1) := by decide +kernel
theorem d_N_has_17 : decode prog_5_method_2_code 17 = .ok (.ireturn, 1) := by decide +kernel
theorem d_N_remove_0 : decode prog_5_method_5_code 0 = .ok (.aload_n 0, 1) := by decide +kernel
theorem d_N_remove_1 : decode prog_5_method_5_code 1 = .ok (.iload_n 1, 1) := by decide +kernel
theorem d_N_remove_2 : decode prog_5_method_5_code 2 = .ok (.invokevirtual 37, 3) := by decide +kernel
theorem d_N_remove_5 : decode prog_5_method_5_code 5 = .ok (.ifCond .ne 4, 3) := by decide +kernel
theorem d_N_remove_8 : decode prog_5_method_5_code 8 = .ok (.return_, 1) := by decide +kernel
theorem d_N_remove_9 : decode prog_5_method_5_code 9 = .ok (.aload_n 0, 1) := by decide +kernel
theorem d_N_remove_10 : decode prog_5_method_5_code 10 = .ok (.getfield 11, 3) := by decide +kernel
theorem d_N_remove_13 : decode prog_5_method_5_code 13 = .ok (.iload_n 1, 1) := by decide +kernel
theorem d_N_remove_14 : decode prog_5_method_5_code 14 = .ok (.aaload, 1) := by decide +kernel
theorem d_N_remove_15 : decode prog_5_method_5_code 15 = .ok (.astore_n 2, 1) := by decide +kernel
theorem d_N_remove_16 : decode prog_5_method_5_code 16 = .ok (.iload_n 1, 1) := by decide +kernel
theorem d_N_remove_17 : decode prog_5_method_5_code 17 = .ok (.istore_n 3, 1) := by decide +kernel
theorem d_N_remove_18 : decode prog_5_method_5_code 18 = .ok (.iload_n 3, 1) := by decide +kernel
theorem d_N_remove_19 : decode prog_5_method_5_code 19 = .ok (.aload_n 0, 1) := by decide +kernel
theorem d_N_remove_20 : decode prog_5_method_5_code 20 = .ok (.getfield 18, 3) := by decide +kernel
theorem d_N_remove_23 : decode prog_5_method_5_code 23 = .ok (.iconst 1, 1) := by decide +kernel
theorem d_N_remove_24 : decode prog_5_method_5_code 24 = .ok (.isub, 1) := by decide +kernel
theorem d_N_remove_25 : decode prog_5_method_5_code 25 = .ok (.if_icmp .ge 23, 3) := by decide +kernel
theorem d_N_remove_28 : decode prog_5_method_5_code 28 = .ok (.aload_n 0, 1) := by decide +kernel
theorem d_N_remove_29 : decode prog_5_method_5_code 29 = .ok (.getfield 11, 3) := by decide +kernel
theorem d_N_remove_32 : decode prog_5_method_5_code 32 = .ok (.iload_n 3, 1) := by decide +kernel
theorem d_N_remove_33 : decode prog_5_method_5_code 33 = .ok (.aload_n 0, 1) := by decide +kernel
theorem d_N_remove_34 : decode prog_5_method_5_code 34 = .ok (.getfield 11, 3) := by decide +kernel
theorem d_N_remove_37 : decode prog_5_method_5_code 37 = .ok (.iload_n 3, 1) := by decide +kernel
theorem d_N_remove_38 : decode prog_5_method_5_code 38 = .ok (.iconst 1, 1) := by decide +kernel
theorem d_N_remove_39 : decode prog_5_method_5_code 39 = .ok (.iadd, 1) := by decide +kernel
theorem d_N_remove_40 : decode prog_5_method_5_code 40 = .ok (.aaload, 1) := by decide +kernel
theorem d_N_remove_41 : decode prog_5_method_5_code 41 = .ok (.aastore, 1) := by decide +kernel
theorem d_N_remove_42 : decode prog_5_method_5_code 42 = .ok (.iinc 3 1, 3) := by decide +kernel
theorem d_N_remove_45 : decode prog_5_method_5_code 45 = .ok (.goto (-27), 3) := by decide +kernel
theorem d_N_remove_48 : decode prog_5_method_5_code 48 = .ok (.aload_n 0, 1) := by decide +kernel
theorem d_N_remove_49 : decode prog_5_method_5_code 49 = .ok (.dup, 1) := by decide +kernel
theorem d_N_remove_50 : decode prog_5_method_5_code 50 = .ok (.getfield 18, 3) := by decide +kernel
theorem d_N_remove_53 : decode prog_5_method_5_code 53 = .ok (.iconst 1, 1) := by decide +kernel
theorem d_N_remove_54 : decode prog_5_method_5_code 54 = .ok (.isub, 1) := by decide +kernel
theorem d_N_remove_55 : decode prog_5_method_5_code 55 = .ok (.putfield 18, 3) := by decide +kernel
theorem d_N_remove_58 : decode prog_5_method_5_code 58 = .ok (.aload_n 0, 1) := by decide +kernel
theorem d_N_remove_59 : decode prog_5_method_5_code 59 = .ok (.getfield 11, 3) := by decide +kernel
theorem d_N_remove_62 : decode prog_5_method_5_code 62 = .ok (.aload_n 0, 1) := by decide +kernel
theorem d_N_remove_63 : decode prog_5_method_5_code 63 = .ok (.getfield 18, 3) := by decide +kernel
theorem d_N_remove_66 : decode prog_5_method_5_code 66 = .ok (.aload_n 2, 1) := by decide +kernel
theorem d_N_remove_67 : decode prog_5_method_5_code 67 = .ok (.aastore, 1) := by decide +kernel
theorem d_N_remove_68 : decode prog_5_method_5_code 68 = .ok (.return_, 1) := by decide +kernel
theorem d_N_post_0 : decode prog_5_method_3_code 0 = .ok (.aload_n 0, 1) := by decide +kernel
theorem d_N_post_1 : decode prog_5_method_3_code 1 = .ok (.getfield 18, 3) := by decide +kernel
theorem d_N_post_4 : decode prog_5_method_3_code 4 = .ok (.bipush 24, 2) := by decide +kernel
theorem d_N_post_6 : decode prog_5_method_3_code 6 = .ok (.if_icmp .lt 18, 3) := by decide +kernel
theorem d_N_post_9 : decode prog_5_method_3_code 9 = .ok (.aload_n 0, 1) := by decide +kernel
theorem d_N_post_10 : decode prog_5_method_3_code 10 = .ok (.iconst 0, 1) := by decide +kernel
theorem d_N_post_11 : decode prog_5_method_3_code 11 = .ok (.invokevirtual 22, 3) := by decide +kernel
theorem d_N_post_14 : decode prog_5_method_3_code 14 = .ok (.aload_n 0, 1) := by decide +kernel
theorem d_N_post_15 : decode prog_5_method_3_code 15 = .ok (.dup, 1) := by decide +kernel
theorem d_N_post_16 : decode prog_5_method_3_code 16 = .ok (.getfield 26, 3) := by decide +kernel
theorem d_N_post_19 : decode prog_5_method_3_code 19 = .ok (.iconst 1, 1) := by decide +kernel
theorem d_N_post_20 : decode prog_5_method_3_code 20 = .ok (.iadd, 1) := by decide +kernel
theorem d_N_post_21 : decode prog_5_method_3_code 21 = .ok (.putfield 26, 3) := by decide +kernel
theorem d_N_post_24 : decode prog_5_method_3_code 24 = .ok (.aload_n 0, 1) := by decide +kernel
theorem d_N_post_25 : decode prog_5_method_3_code 25 = .ok (.getfield 11, 3) := by decide +kernel
theorem d_N_post_28 : decode prog_5_method_3_code 28 = .ok (.aload_n 0, 1) := by decide +kernel
theorem d_N_post_29 : decode prog_5_method_3_code 29 = .ok (.getfield 18, 3) := by decide +kernel
theorem d_N_post_32 : decode prog_5_method_3_code 32 = .ok (.aaload, 1) := by decide +kernel
theorem d_N_post_33 : decode prog_5_method_3_code 33 = .ok (.astore 8, 2) := by decide +kernel
theorem d_N_post_35 : decode prog_5_method_3_code 35 = .ok (.aload 8, 2) := by decide +kernel
theorem d_N_post_37 : decode prog_5_method_3_code 37 = .ok (.iload_n 1, 1) := by decide +kernel
theorem d_N_post_38 : decode prog_5_method_3_code 38 = .ok (.putfield 29, 3) := by decide +kernel
theorem d_N_post_41 : decode prog_5_method_3_code 41 = .ok (.aload 8, 2) := by decide +kernel
theorem d_N_post_43 : decode prog_5_method_3_code 43 = .ok (.iload_n 2, 1) := by decide +kernel
theorem d_N_post_44 : decode prog_5_method_3_code 44 = .ok (.iload_n 3, 1) := by decide +kernel
theorem d_N_post_45 : decode prog_5_method_3_code 45 = .ok (.iload 4, 2) := by decide +kernel
theorem d_N_post_47 : decode prog_5_method_3_code 47 = .ok (.lload 5, 2) := by decide +kernel
theorem d_N_post_49 : decode prog_5_method_3_code 49 = .ok (.iload 7, 2) := by decide +kernel
theorem d_N_post_51 : decode prog_5_method_3_code 51 = .ok (.invokevirtual 33, 3) := by decide +kernel
theorem d_N_post_54 : decode prog_5_method_3_code 54 = .ok (.aload_n 0, 1) := by decide +kernel
theorem d_N_post_55 : decode prog_5_method_3_code 55 = .ok (.dup, 1) := by decide +kernel
theorem d_N_post_56 : decode prog_5_method_3_code 56 = .ok (.getfield 18, 3) := by decide +kernel
theorem d_N_post_59 : decode prog_5_method_3_code 59 = .ok (.iconst 1, 1) := by decide +kernel
theorem d_N_post_60 : decode prog_5_method_3_code 60 = .ok (.iadd, 1) := by decide +kernel
theorem d_N_post_61 : decode prog_5_method_3_code 61 = .ok (.putfield 18, 3) := by decide +kernel
theorem d_N_post_64 : decode prog_5_method_3_code 64 = .ok (.return_, 1) := by decide +kernel
theorem d_M_send_0 : decode prog_6_method_23_code 0 = .ok (.aload_n 0, 1) := by decide +kernel
theorem d_M_send_1 : decode prog_6_method_23_code 1 = .ok (.invokevirtual 137, 3) := by decide +kernel
theorem d_M_send_4 : decode prog_6_method_23_code 4 = .ok (.ifCond .ne 5, 3) := by decide +kernel
theorem d_M_send_7 : decode prog_6_method_23_code 7 = .ok (.iconst 0, 1) := by decide +kernel
theorem d_M_send_8 : decode prog_6_method_23_code 8 = .ok (.ireturn, 1) := by decide +kernel
theorem d_M_send_9 : decode prog_6_method_23_code 9 = .ok (.aload_n 0, 1) := by decide +kernel
theorem d_M_send_10 : decode prog_6_method_23_code 10 = .ok (.getfield 49, 3) := by decide +kernel
theorem d_M_send_13 : decode prog_6_method_23_code 13 = .ok (.iconst 1, 1) := by decide +kernel
theorem d_M_send_14 : decode prog_6_method_23_code 14 = .ok (.iload_n 1, 1) := by decide +kernel
theorem d_M_send_15 : decode prog_6_method_23_code 15 = .ok (.aload_n 0, 1) := by decide +kernel
theorem d_M_send_16 : decode prog_6_method_23_code 16 = .ok (.getfield 128, 3) := by decide +kernel
theorem d_M_send_19 : decode prog_6_method_23_code 19 = .ok (.aload_n 0, 1) := by decide +kernel
theorem d_M_send_20 : decode prog_6_method_23_code 20 = .ok (.getfield 46, 3) := by decide +kernel
theorem d_M_send_23 : decode prog_6_method_23_code 23 = .ok (.iload_n 2, 1) := by decide +kernel
theorem d_M_send_24 : decode prog_6_method_23_code 24 = .ok (.i2l, 1) := by decide +kernel
theorem d_M_send_25 : decode prog_6_method_23_code 25 = .ok (.iconst 0, 1) := by decide +kernel
theorem d_M_send_26 : decode prog_6_method_23_code 26 = .ok (.invokevirtual 182, 3) := by decide +kernel
theorem d_M_send_29 : decode prog_6_method_23_code 29 = .ok (.iconst 1, 1) := by decide +kernel
theorem d_M_send_30 : decode prog_6_method_23_code 30 = .ok (.ireturn, 1) := by decide +kernel
theorem d_M_beginPinCheck_0 : decode prog_6_method_6_code 0 = .ok (.aload_n 0, 1) := by decide +kernel
theorem d_M_beginPinCheck_1 : decode prog_6_method_6_code 1 = .ok (.getfield 29, 3) := by decide +kernel
theorem d_M_beginPinCheck_4 : decode prog_6_method_6_code 4 = .ok (.ifCond .eq 29, 3) := by decide +kernel
theorem d_M_beginPinCheck_7 : decode prog_6_method_6_code 7 = .ok (.aload_n 0, 1) := by decide +kernel
theorem d_M_beginPinCheck_8 : decode prog_6_method_6_code 8 = .ok (.getfield 37, 3) := by decide +kernel
theorem d_M_beginPinCheck_11 : decode prog_6_method_6_code 11 = .ok (.iconst 1, 1) := by decide +kernel
theorem d_M_beginPinCheck_12 : decode prog_6_method_6_code 12 = .ok (.if_icmp .ne 21, 3) := by decide +kernel
theorem d_M_beginPinCheck_15 : decode prog_6_method_6_code 15 = .ok (.iload_n 1, 1) := by decide +kernel
theorem d_M_beginPinCheck_16 : decode prog_6_method_6_code 16 = .ok (.i2l, 1) := by decide +kernel
theorem d_M_beginPinCheck_17 : decode prog_6_method_6_code 17 = .ok (.invokestatic 64, 3) := by decide +kernel
theorem d_M_beginPinCheck_20 : decode prog_6_method_6_code 20 = .ok (.ifCond .eq 13, 3) := by decide +kernel
theorem d_M_beginPinCheck_23 : decode prog_6_method_6_code 23 = .ok (.aload_n 0, 1) := by decide +kernel
theorem d_M_beginPinCheck_24 : decode prog_6_method_6_code 24 = .ok (.getfield 43, 3) := by decide +kernel
theorem d_M_beginPinCheck_27 : decode prog_6_method_6_code 27 = .ok (.sipush 2000, 3) := by decide +kernel
theorem d_M_beginPinCheck_30 : decode prog_6_method_6_code 30 = .ok (.if_icmp .le 5, 3) := by decide +kernel
theorem d_M_beginPinCheck_33 : decode prog_6_method_6_code 33 = .ok (.iconst 0, 1) := by decide +kernel
theorem d_M_beginPinCheck_34 : decode prog_6_method_6_code 34 = .ok (.ireturn, 1) := by decide +kernel
theorem d_M_beginPinCheck_35 : decode prog_6_method_6_code 35 = .ok (.aload_n 0, 1) := by decide +kernel
theorem d_M_beginPinCheck_36 : decode prog_6_method_6_code 36 = .ok (.invokevirtual 68, 3) := by decide +kernel
theorem d_M_beginPinCheck_39 : decode prog_6_method_6_code 39 = .ok (.aload_n 0, 1) := by decide +kernel
theorem d_M_beginPinCheck_40 : decode prog_6_method_6_code 40 = .ok (.iconst 1, 1) := by decide +kernel
theorem d_M_beginPinCheck_41 : decode prog_6_method_6_code 41 = .ok (.iload_n 1, 1) := by decide +kernel
theorem d_M_beginPinCheck_42 : decode prog_6_method_6_code 42 = .ok (.invokevirtual 71, 3) := by decide +kernel
theorem d_M_beginPinCheck_45 : decode prog_6_method_6_code 45 = .ok (.ifCond .eq 8, 3) := by decide +kernel
theorem d_M_beginPinCheck_48 : decode prog_6_method_6_code 48 = .ok (.aload_n 0, 1) := by decide +kernel
theorem d_M_beginPinCheck_49 : decode prog_6_method_6_code 49 = .ok (.iconst 2, 1) := by decide +kernel
theorem d_M_beginPinCheck_50 : decode prog_6_method_6_code 50 = .ok (.putfield 37, 3) := by decide +kernel
theorem d_M_beginPinCheck_53 : decode prog_6_method_6_code 53 = .ok (.iconst 1, 1) := by decide +kernel
theorem d_M_beginPinCheck_54 : decode prog_6_method_6_code 54 = .ok (.ireturn, 1) := by decide +kernel
theorem d_A_pin_0 : decode prog_1_method_6_code 0 = .ok (.aload_n 0, 1) := by decide +kernel
theorem d_A_pin_1 : decode prog_1_method_6_code 1 = .ok (.getfield 28, 3) := by decide +kernel
theorem d_A_pin_4 : decode prog_1_method_6_code 4 = .ok (.iload_n 1, 1) := by decide +kernel
theorem d_A_pin_5 : decode prog_1_method_6_code 5 = .ok (.invokevirtual 54, 3) := by decide +kernel
theorem d_A_pin_8 : decode prog_1_method_6_code 8 = .ok (.ireturn, 1) := by decide +kernel
theorem d_A_isAmount_0 : decode prog_1_method_29_code 0 = .ok (.lload_n 0, 1) := by decide +kernel
theorem d_A_isAmount_1 : decode prog_1_method_29_code 1 = .ok (.lconst 1, 1) := by decide +kernel
theorem d_A_isAmount_2 : decode prog_1_method_29_code 2 = .ok (.ldc2_w 189, 3) := by decide +kernel
theorem d_A_isAmount_5 : decode prog_1_method_29_code 5 = .ok (.invokestatic 183, 3) := by decide +kernel
theorem d_A_isAmount_8 : decode prog_1_method_29_code 8 = .ok (.ireturn, 1) := by decide +kernel
theorem d_O_findLargest_0 : decode prog_7_method_7_code 0 = .ok (.aload_n 0, 1) := by decide +kernel
theorem d_O_findLargest_1 : decode prog_7_method_7_code 1 = .ok (.iconst 0, 1) := by decide +kernel
theorem d_O_findLargest_2 : decode prog_7_method_7_code 2 = .ok (.putfield 72, 3) := by decide +kernel
theorem d_O_findLargest_5 : decode prog_7_method_7_code 5 = .ok (.iconst 0, 1) := by decide +kernel
theorem d_O_findLargest_6 : decode prog_7_method_7_code 6 = .ok (.istore_n 1, 1) := by decide +kernel
theorem d_O_findLargest_7 : decode prog_7_method_7_code 7 = .ok (.iload_n 1, 1) := by decide +kernel
theorem d_O_findLargest_8 : decode prog_7_method_7_code 8 = .ok (.iconst 4, 1) := by decide +kernel
theorem d_O_findLargest_9 : decode prog_7_method_7_code 9 = .ok (.if_icmp .ge 26, 3) := by decide +kernel
theorem d_O_findLargest_12 : decode prog_7_method_7_code 12 = .ok (.aload_n 0, 1) := by decide +kernel
theorem d_O_findLargest_13 : decode prog_7_method_7_code 13 = .ok (.aload_n 0, 1) := by decide +kernel
theorem d_O_findLargest_14 : decode prog_7_method_7_code 14 = .ok (.getfield 72, 3) := by decide +kernel
theorem d_O_findLargest_17 : decode prog_7_method_7_code 17 = .ok (.aload_n 0, 1) := by decide +kernel
theorem d_O_findLargest_18 : decode prog_7_method_7_code 18 = .ok (.getfield 18, 3) := by decide +kernel
theorem d_O_findLargest_21 : decode prog_7_method_7_code 21 = .ok (.iload_n 1, 1) := by decide +kernel
theorem d_O_findLargest_22 : decode prog_7_method_7_code 22 = .ok (.iaload, 1) := by decide +kernel
theorem d_O_findLargest_23 : decode prog_7_method_7_code 23 = .ok (.invokestatic 75, 3) := by decide +kernel
theorem d_O_findLargest_26 : decode prog_7_method_7_code 26 = .ok (.putfield 72, 3) := by decide +kernel
theorem d_O_findLargest_29 : decode prog_7_method_7_code 29 = .ok (.iinc 1 1, 3) := by decide +kernel
theorem d_O_findLargest_32 : decode prog_7_method_7_code 32 = .ok (.goto (-25), 3) := by decide +kernel
theorem d_O_findLargest_35 : decode prog_7_method_7_code 35 = .ok (.return_, 1) := by decide +kernel
theorem d_O_mostOf_0 : decode prog_7_method_8_code 0 = .ok (.iload_n 1, 1) := by decide +kernel
theorem d_O_mostOf_1 : decode prog_7_method_8_code 1 = .ok (.ifCond .lt 22, 3) := by decide +kernel
theorem d_O_mostOf_4 : decode prog_7_method_8_code 4 = .ok (.iload_n 1, 1) := by decide +kernel
theorem d_O_mostOf_5 : decode prog_7_method_8_code 5 = .ok (.iconst 4, 1) := by decide +kernel
theorem d_O_mostOf_6 : decode prog_7_method_8_code 6 = .ok (.if_icmp .ge 17, 3) := by decide +kernel
theorem d_O_mostOf_9 : decode prog_7_method_8_code 9 = .ok (.iload_n 3, 1) := by decide +kernel
theorem d_O_mostOf_10 : decode prog_7_method_8_code 10 = .ok (.ifCond .lt 13, 3) := by decide +kernel
theorem d_O_mostOf_13 : decode prog_7_method_8_code 13 = .ok (.iload_n 2, 1) := by decide +kernel
theorem d_O_mostOf_14 : decode prog_7_method_8_code 14 = .ok (.iload_n 3, 1) := by decide +kernel
theorem d_O_mostOf_15 : decode prog_7_method_8_code 15 = .ok (.aload_n 0, 1) := by decide +kernel
theorem d_O_mostOf_16 : decode prog_7_method_8_code 16 = .ok (.getfield 72, 3) := by decide +kernel
theorem d_O_mostOf_19 : decode prog_7_method_8_code 19 = .ok (.imul, 1) := by decide +kernel
theorem d_O_mostOf_20 : decode prog_7_method_8_code 20 = .ok (.if_icmp .le 5, 3) := by decide +kernel
theorem d_O_mostOf_23 : decode prog_7_method_8_code 23 = .ok (.iconst (-1), 1) := by decide +kernel
theorem d_O_mostOf_24 : decode prog_7_method_8_code 24 = .ok (.ireturn, 1) := by decide +kernel
theorem d_O_mostOf_25 : decode prog_7_method_8_code 25 = .ok (.aload_n 0, 1) := by decide +kernel
theorem d_O_mostOf_26 : decode prog_7_method_8_code 26 = .ok (.getfield 18, 3) := by decide +kernel
theorem d_O_mostOf_29 : decode prog_7_method_8_code 29 = .ok (.iload_n 1, 1) := by decide +kernel
theorem d_O_mostOf_30 : decode prog_7_method_8_code 30 = .ok (.iaload, 1) := by decide +kernel
theorem d_O_mostOf_31 : decode prog_7_method_8_code 31 = .ok (.istore 4, 2) := by decide +kernel
theorem d_O_mostOf_33 : decode prog_7_method_8_code 33 = .ok (.iload 4, 2) := by decide +kernel
theorem d_O_mostOf_35 : decode prog_7_method_8_code 35 = .ok (.iconst 1, 1) := by decide +kernel
theorem d_O_mostOf_36 : decode prog_7_method_8_code 36 = .ok (.if_icmp .ge 7, 3) := by decide +kernel
theorem d_O_mostOf_39 : decode prog_7_method_8_code 39 = .ok (.iconst 0, 1) := by decide +kernel
theorem d_O_mostOf_40 : decode prog_7_method_8_code 40 = .ok (.goto 7, 3) := by decide +kernel
theorem d_O_mostOf_43 : decode prog_7_method_8_code 43 = .ok (.iload_n 2, 1) := by decide +kernel
theorem d_O_mostOf_44 : decode prog_7_method_8_code 44 = .ok (.iload 4, 2) := by decide +kernel
theorem d_O_mostOf_46 : decode prog_7_method_8_code 46 = .ok (.idiv, 1) := by decide +kernel
theorem d_O_mostOf_47 : decode prog_7_method_8_code 47 = .ok (.istore 5, 2) := by decide +kernel
theorem d_O_mostOf_49 : decode prog_7_method_8_code 49 = .ok (.aload_n 0, 1) := by decide +kernel
theorem d_O_mostOf_50 : decode prog_7_method_8_code 50 = .ok (.getfield 23, 3) := by decide +kernel
theorem d_O_mostOf_53 : decode prog_7_method_8_code 53 = .ok (.iload_n 1, 1) := by decide +kernel
theorem d_O_mostOf_54 : decode prog_7_method_8_code 54 = .ok (.iaload, 1) := by decide +kernel
theorem d_O_mostOf_55 : decode prog_7_method_8_code 55 = .ok (.iload_n 3, 1) := by decide +kernel
theorem d_O_mostOf_56 : decode prog_7_method_8_code 56 = .ok (.if_icmp .ge 12, 3) := by decide +kernel
theorem d_O_mostOf_59 : decode prog_7_method_8_code 59 = .ok (.aload_n 0, 1) := by decide +kernel
theorem d_O_mostOf_60 : decode prog_7_method_8_code 60 = .ok (.getfield 23, 3) := by decide +kernel
theorem d_O_mostOf_63 : decode prog_7_method_8_code 63 = .ok (.iload_n 1, 1) := by decide +kernel
theorem d_O_mostOf_64 : decode prog_7_method_8_code 64 = .ok (.iaload, 1) := by decide +kernel
theorem d_O_mostOf_65 : decode prog_7_method_8_code 65 = .ok (.goto 4, 3) := by decide +kernel
theorem d_O_mostOf_68 : decode prog_7_method_8_code 68 = .ok (.iload_n 3, 1) := by decide +kernel
theorem d_O_mostOf_69 : decode prog_7_method_8_code 69 = .ok (.istore 6, 2) := by decide +kernel
theorem d_O_mostOf_71 : decode prog_7_method_8_code 71 = .ok (.iload 5, 2) := by decide +kernel
theorem d_O_mostOf_73 : decode prog_7_method_8_code 73 = .ok (.iload 6, 2) := by decide +kernel
theorem d_O_mostOf_75 : decode prog_7_method_8_code 75 = .ok (.if_icmp .ge 8, 3) := by decide +kernel
theorem d_O_mostOf_78 : decode prog_7_method_8_code 78 = .ok (.iload 5, 2) := by decide +kernel
theorem d_O_mostOf_80 : decode prog_7_method_8_code 80 = .ok (.goto 5, 3) := by decide +kernel
theorem d_O_mostOf_83 : decode prog_7_method_8_code 83 = .ok (.iload 6, 2) := by decide +kernel
theorem d_O_mostOf_85 : decode prog_7_method_8_code 85 = .ok (.ireturn, 1) := by decide +kernel
theorem d_O_mixRest_0 : decode prog_7_method_6_code 0 = .ok (.aload_n 0, 1) := by decide +kernel
theorem d_O_mixRest_1 : decode prog_7_method_6_code 1 = .ok (.getfield 18, 3) := by decide +kernel
theorem d_O_mixRest_4 : decode prog_7_method_6_code 4 = .ok (.iconst 3, 1) := by decide +kernel
theorem d_O_mixRest_5 : decode prog_7_method_6_code 5 = .ok (.iaload, 1) := by decide +kernel
theorem d_O_mixRest_6 : decode prog_7_method_6_code 6 = .ok (.istore 4, 2) := by decide +kernel
theorem d_O_mixRest_8 : decode prog_7_method_6_code 8 = .ok (.aload_n 0, 1) := by decide +kernel
theorem d_O_mixRest_9 : decode prog_7_method_6_code 9 = .ok (.iconst 2, 1) := by decide +kernel
theorem d_O_mixRest_10 : decode prog_7_method_6_code 10 = .ok (.iload_n 3, 1) := by decide +kernel
theorem d_O_mixRest_11 : decode prog_7_method_6_code 11 = .ok (.aload_n 0, 1) := by decide +kernel
theorem d_O_mixRest_12 : decode prog_7_method_6_code 12 = .ok (.getfield 53, 3) := by decide +kernel
theorem d_O_mixRest_15 : decode prog_7_method_6_code 15 = .ok (.iconst 1, 1) := by decide +kernel
theorem d_O_mixRest_16 : decode prog_7_method_6_code 16 = .ok (.isub, 1) := by decide +kernel
theorem d_O_mixRest_17 : decode prog_7_method_6_code 17 = .ok (.iload_n 1, 1) := by decide +kernel
theorem d_O_mixRest_18 : decode prog_7_method_6_code 18 = .ok (.isub, 1) := by decide +kernel
theorem d_O_mixRest_19 : decode prog_7_method_6_code 19 = .ok (.iload_n 2, 1) := by decide +kernel
theorem d_O_mixRest_20 : decode prog_7_method_6_code 20 = .ok (.isub, 1) := by decide +kernel
theorem d_O_mixRest_21 : decode prog_7_method_6_code 21 = .ok (.invokevirtual 64, 3) := by decide +kernel
theorem d_O_mixRest_24 : decode prog_7_method_6_code 24 = .ok (.istore 5, 2) := by decide +kernel
theorem d_O_mixRest_26 : decode prog_7_method_6_code 26 = .ok (.iload 5, 2) := by decide +kernel
theorem d_O_mixRest_28 : decode prog_7_method_6_code 28 = .ok (.ifCond .lt 116, 3) := by decide +kernel
theorem d_O_mixRest_31 : decode prog_7_method_6_code 31 = .ok (.iload_n 3, 1) := by decide +kernel
theorem d_O_mixRest_32 : decode prog_7_method_6_code 32 = .ok (.iload 5, 2) := by decide +kernel
theorem d_O_mixRest_34 : decode prog_7_method_6_code 34 = .ok (.aload_n 0, 1) := by decide +kernel
theorem d_O_mixRest_35 : decode prog_7_method_6_code 35 = .ok (.getfield 18, 3) := by decide +kernel
theorem d_O_mixRest_38 : decode prog_7_method_6_code 38 = .ok (.iconst 2, 1) := by decide +kernel
theorem d_O_mixRest_39 : decode prog_7_method_6_code 39 = .ok (.iaload, 1) := by decide +kernel
theorem d_O_mixRest_40 : decode prog_7_method_6_code 40 = .ok (.imul, 1) := by decide +kernel
theorem d_O_mixRest_41 : decode prog_7_method_6_code 41 = .ok (.isub, 1) := by decide +kernel
theorem d_O_mixRest_42 : decode prog_7_method_6_code 42 = .ok (.istore 6, 2) := by decide +kernel
theorem d_O_mixRest_44 : decode prog_7_method_6_code 44 = .ok (.iload 4, 2) := by decide +kernel
theorem d_O_mixRest_46 : decode prog_7_method_6_code 46 = .ok (.iconst 1, 1) := by decide +kernel
theorem d_O_mixRest_47 : decode prog_7_method_6_code 47 = .ok (.if_icmp .ge 7, 3) := by decide +kernel
theorem d_O_mixRest_50 : decode prog_7_method_6_code 50 = .ok (.iconst 0, 1) := by decide +kernel
theorem d_O_mixRest_51 : decode prog_7_method_6_code 51 = .ok (.goto 8, 3) := by decide +kernel
theorem d_O_mixRest_54 : decode prog_7_method_6_code 54 = .ok (.iload 6, 2) := by decide +kernel
theorem d_O_mixRest_56 : decode prog_7_method_6_code 56 = .ok (.iload 4, 2) := by decide +kernel
theorem d_O_mixRest_58 : decode prog_7_method_6_code 58 = .ok (.idiv, 1) := by decide +kernel
theorem d_O_mixRest_59 : decode prog_7_method_6_code 59 = .ok (.istore 7, 2) := by decide +kernel
theorem d_O_mixRest_61 : decode prog_7_method_6_code 61 = .ok (.iload_n 1, 1) := by decide +kernel
theorem d_O_mixRest_62 : decode prog_7_method_6_code 62 = .ok (.iload_n 2, 1) := by decide +kernel
theorem d_O_mixRest_63 : decode prog_7_method_6_code 63 = .ok (.iadd, 1) := by decide +kernel
theorem d_O_mixRest_64 : decode prog_7_method_6_code 64 = .ok (.iload 5, 2) := by decide +kernel
theorem d_O_mixRest_66 : decode prog_7_method_6_code 66 = .ok (.iadd, 1) := by decide +kernel
theorem d_O_mixRest_67 : decode prog_7_method_6_code 67 = .ok (.iload 7, 2) := by decide +kernel
theorem d_O_mixRest_69 : decode prog_7_method_6_code 69 = .ok (.iadd, 1) := by decide +kernel
theorem d_O_mixRest_70 : decode prog_7_method_6_code 70 = .ok (.istore 8, 2) := by decide +kernel
theorem d_O_mixRest_72 : decode prog_7_method_6_code 72 = .ok (.iload 7, 2) := by decide +kernel
theorem d_O_mixRest_74 : decode prog_7_method_6_code 74 = .ok (.iload 4, 2) := by decide +kernel
theorem d_O_mixRest_76 : decode prog_7_method_6_code 76 = .ok (.imul, 1) := by decide +kernel
theorem d_O_mixRest_77 : decode prog_7_method_6_code 77 = .ok (.iload 6, 2) := by decide +kernel
theorem d_O_mixRest_79 : decode prog_7_method_6_code 79 = .ok (.if_icmp .ne 59, 3) := by decide +kernel
theorem d_O_mixRest_82 : decode prog_7_method_6_code 82 = .ok (.iload 7, 2) := by decide +kernel
theorem d_O_mixRest_84 : decode prog_7_method_6_code 84 = .ok (.aload_n 0, 1) := by decide +kernel
theorem d_O_mixRest_85 : decode prog_7_method_6_code 85 = .ok (.getfield 23, 3) := by decide +kernel
theorem d_O_mixRest_88 : decode prog_7_method_6_code 88 = .ok (.iconst 3, 1) := by decide +kernel
theorem d_O_mixRest_89 : decode prog_7_method_6_code 89 = .ok (.iaload, 1) := by decide +kernel
theorem d_O_mixRest_90 : decode prog_7_method_6_code 90 = .ok (.if_icmp .gt 48, 3) := by decide +kernel
theorem d_O_mixRest_93 : decode prog_7_method_6_code 93 = .ok (.iload 8, 2) := by decide +kernel
theorem d_O_mixRest_95 : decode prog_7_method_6_code 95 = .ok (.aload_n 0, 1) := by decide +kernel
theorem d_O_mixRest_96 : decode prog_7_method_6_code 96 = .ok (.getfield 53, 3) := by decide +kernel
theorem d_O_mixRest_99 : decode prog_7_method_6_code 99 = .ok (.if_icmp .ge 39, 3) := by decide +kernel
theorem d_O_mixRest_102 : decode prog_7_method_6_code 102 = .ok (.aload_n 0, 1) := by decide +kernel
theorem d_O_mixRest_103 : decode prog_7_method_6_code 103 = .ok (.iload 8, 2) := by decide +kernel
theorem d_O_mixRest_105 : decode prog_7_method_6_code 105 = .ok (.putfield 53, 3) := by decide +kernel
theorem d_O_mixRest_108 : decode prog_7_method_6_code 108 = .ok (.aload_n 0, 1) := by decide +kernel
theorem d_O_mixRest_109 : decode prog_7_method_6_code 109 = .ok (.getfield 35, 3) := by decide +kernel
theorem d_O_mixRest_112 : decode prog_7_method_6_code 112 = .ok (.iconst 0, 1) := by decide +kernel
theorem d_O_mixRest_113 : decode prog_7_method_6_code 113 = .ok (.iload_n 1, 1) := by decide +kernel
theorem d_O_mixRest_114 : decode prog_7_method_6_code 114 = .ok (.iastore, 1) := by decide +kernel
theorem d_O_mixRest_115 : decode prog_7_method_6_code 115 = .ok (.aload_n 0, 1) := by decide +kernel
theorem d_O_mixRest_116 : decode prog_7_method_6_code 116 = .ok (.getfield 35, 3) := by decide +kernel
theorem d_O_mixRest_119 : decode prog_7_method_6_code 119 = .ok (.iconst 1, 1) := by decide +kernel
theorem d_O_mixRest_120 : decode prog_7_method_6_code 120 = .ok (.iload_n 2, 1) := by decide +kernel
theorem d_O_mixRest_121 : decode prog_7_method_6_code 121 = .ok (.iastore, 1) := by decide +kernel
theorem d_O_mixRest_122 : decode prog_7_method_6_code 122 = .ok (.aload_n 0, 1) := by decide +kernel
theorem d_O_mixRest_123 : decode prog_7_method_6_code 123 = .ok (.getfield 35, 3) := by decide +kernel
theorem d_O_mixRest_126 : decode prog_7_method_6_code 126 = .ok (.iconst 2, 1) := by decide +kernel
theorem d_O_mixRest_127 : decode prog_7_method_6_code 127 = .ok (.iload 5, 2) := by decide +kernel
theorem d_O_mixRest_129 : decode prog_7_method_6_code 129 = .ok (.iastore, 1) := by decide +kernel
theorem d_O_mixRest_130 : decode prog_7_method_6_code 130 = .ok (.aload_n 0, 1) := by decide +kernel
theorem d_O_mixRest_131 : decode prog_7_method_6_code 131 = .ok (.getfield 35, 3) := by decide +kernel
theorem d_O_mixRest_134 : decode prog_7_method_6_code 134 = .ok (.iconst 3, 1) := by decide +kernel
theorem d_O_mixRest_135 : decode prog_7_method_6_code 135 = .ok (.iload 7, 2) := by decide +kernel
theorem d_O_mixRest_137 : decode prog_7_method_6_code 137 = .ok (.iastore, 1) := by decide +kernel
theorem d_O_mixRest_138 : decode prog_7_method_6_code 138 = .ok (.iinc 5 (-1), 3) := by decide +kernel
theorem d_O_mixRest_141 : decode prog_7_method_6_code 141 = .ok (.goto (-115), 3) := by decide +kernel
theorem d_O_mixRest_144 : decode prog_7_method_6_code 144 = .ok (.return_, 1) := by decide +kernel
theorem d_O_findMix_0 : decode prog_7_method_5_code 0 = .ok (.aload_n 0, 1) := by decide +kernel
theorem d_O_findMix_1 : decode prog_7_method_5_code 1 = .ok (.bipush 41, 2) := by decide +kernel
theorem d_O_findMix_3 : decode prog_7_method_5_code 3 = .ok (.putfield 53, 3) := by decide +kernel
theorem d_O_findMix_6 : decode prog_7_method_5_code 6 = .ok (.iload_n 1, 1) := by decide +kernel
theorem d_O_findMix_7 : decode prog_7_method_5_code 7 = .ok (.i2l, 1) := by decide +kernel
theorem d_O_findMix_8 : decode prog_7_method_5_code 8 = .ok (.invokestatic 57, 3) := by decide +kernel
theorem d_O_findMix_11 : decode prog_7_method_5_code 11 = .ok (.ifCond .ne 5, 3) := by decide +kernel
theorem d_O_findMix_14 : decode prog_7_method_5_code 14 = .ok (.iconst 0, 1) := by decide +kernel
theorem d_O_findMix_15 : decode prog_7_method_5_code 15 = .ok (.ireturn, 1) := by decide +kernel
theorem d_O_findMix_16 : decode prog_7_method_5_code 16 = .ok (.aload_n 0, 1) := by decide +kernel
theorem d_O_findMix_17 : decode prog_7_method_5_code 17 = .ok (.invokevirtual 61, 3) := by decide +kernel
theorem d_O_findMix_20 : decode prog_7_method_5_code 20 = .ok (.aload_n 0, 1) := by decide +kernel
theorem d_O_findMix_21 : decode prog_7_method_5_code 21 = .ok (.iconst 0, 1) := by decide +kernel
theorem d_O_findMix_22 : decode prog_7_method_5_code 22 = .ok (.iload_n 1, 1) := by decide +kernel
theorem d_O_findMix_23 : decode prog_7_method_5_code 23 = .ok (.bipush 40, 2) := by decide +kernel
theorem d_O_findMix_25 : decode prog_7_method_5_code 25 = .ok (.invokevirtual 64, 3) := by decide +kernel
theorem d_O_findMix_28 : decode prog_7_method_5_code 28 = .ok (.istore_n 2, 1) := by decide +kernel
theorem d_O_findMix_29 : decode prog_7_method_5_code 29 = .ok (.iload_n 2, 1) := by decide +kernel
theorem d_O_findMix_30 : decode prog_7_method_5_code 30 = .ok (.ifCond .lt 69, 3) := by decide +kernel
theorem d_O_findMix_33 : decode prog_7_method_5_code 33 = .ok (.iload_n 1, 1) := by decide +kernel
theorem d_O_findMix_34 : decode prog_7_method_5_code 34 = .ok (.iload_n 2, 1) := by decide +kernel
theorem d_O_findMix_35 : decode prog_7_method_5_code 35 = .ok (.aload_n 0, 1) := by decide +kernel
theorem d_O_findMix_36 : decode prog_7_method_5_code 36 = .ok (.getfield 18, 3) := by decide +kernel
theorem d_O_findMix_39 : decode prog_7_method_5_code 39 = .ok (.iconst 0, 1) := by decide +kernel
theorem d_O_findMix_40 : decode prog_7_method_5_code 40 = .ok (.iaload, 1) := by decide +kernel
theorem d_O_findMix_41 : decode prog_7_method_5_code 41 = .ok (.imul, 1) := by decide +kernel
theorem d_O_findMix_42 : decode prog_7_method_5_code 42 = .ok (.isub, 1) := by decide +kernel
theorem d_O_findMix_43 : decode prog_7_method_5_code 43 = .ok (.istore_n 3, 1) := by decide +kernel
theorem d_O_findMix_44 : decode prog_7_method_5_code 44 = .ok (.aload_n 0, 1) := by decide +kernel
theorem d_O_findMix_45 : decode prog_7_method_5_code 45 = .ok (.getfield 53, 3) := by decide +kernel
theorem d_O_findMix_48 : decode prog_7_method_5_code 48 = .ok (.iconst 1, 1) := by decide +kernel
theorem d_O_findMix_49 : decode prog_7_method_5_code 49 = .ok (.isub, 1) := by decide +kernel
theorem d_O_findMix_50 : decode prog_7_method_5_code 50 = .ok (.iload_n 2, 1) := by decide +kernel
theorem d_O_findMix_51 : decode prog_7_method_5_code 51 = .ok (.isub, 1) := by decide +kernel
theorem d_O_findMix_52 : decode prog_7_method_5_code 52 = .ok (.istore 4, 2) := by decide +kernel
theorem d_O_findMix_54 : decode prog_7_method_5_code 54 = .ok (.aload_n 0, 1) := by decide +kernel
theorem d_O_findMix_55 : decode prog_7_method_5_code 55 = .ok (.iconst 1, 1) := by decide +kernel
theorem d_O_findMix_56 : decode prog_7_method_5_code 56 = .ok (.iload_n 3, 1) := by decide +kernel
theorem d_O_findMix_57 : decode prog_7_method_5_code 57 = .ok (.iload 4, 2) := by decide +kernel
theorem d_O_findMix_59 : decode prog_7_method_5_code 59 = .ok (.invokevirtual 64, 3) := by decide +kernel
theorem d_O_findMix_62 : decode prog_7_method_5_code 62 = .ok (.istore 5, 2) := by decide +kernel
theorem d_O_findMix_64 : decode prog_7_method_5_code 64 = .ok (.iload 5, 2) := by decide +kernel
theorem d_O_findMix_66 : decode prog_7_method_5_code 66 = .ok (.ifCond .lt 27, 3) := by decide +kernel
theorem d_O_findMix_69 : decode prog_7_method_5_code 69 = .ok (.aload_n 0, 1) := by decide +kernel
theorem d_O_findMix_70 : decode prog_7_method_5_code 70 = .ok (.iload_n 2, 1) := by decide +kernel
theorem d_O_findMix_71 : decode prog_7_method_5_code 71 = .ok (.iload 5, 2) := by decide +kernel
theorem d_O_findMix_73 : decode prog_7_method_5_code 73 = .ok (.iload_n 3, 1) := by decide +kernel
theorem d_O_findMix_74 : decode prog_7_method_5_code 74 = .ok (.iload 5, 2) := by decide +kernel
theorem d_O_findMix_76 : decode prog_7_method_5_code 76 = .ok (.aload_n 0, 1) := by decide +kernel
theorem d_O_findMix_77 : decode prog_7_method_5_code 77 = .ok (.getfield 18, 3) := by decide +kernel
theorem d_O_findMix_80 : decode prog_7_method_5_code 80 = .ok (.iconst 1, 1) := by decide +kernel
theorem d_O_findMix_81 : decode prog_7_method_5_code 81 = .ok (.iaload, 1) := by decide +kernel
theorem d_O_findMix_82 : decode prog_7_method_5_code 82 = .ok (.imul, 1) := by decide +kernel
theorem d_O_findMix_83 : decode prog_7_method_5_code 83 = .ok (.isub, 1) := by decide +kernel
theorem d_O_findMix_84 : decode prog_7_method_5_code 84 = .ok (.invokevirtual 68, 3) := by decide +kernel
theorem d_O_findMix_87 : decode prog_7_method_5_code 87 = .ok (.iinc 5 (-1), 3) := by decide +kernel
theorem d_O_findMix_90 : decode prog_7_method_5_code 90 = .ok (.goto (-26), 3) := by decide +kernel
theorem d_O_findMix_93 : decode prog_7_method_5_code 93 = .ok (.iinc 2 (-1), 3) := by decide +kernel
theorem d_O_findMix_96 : decode prog_7_method_5_code 96 = .ok (.goto (-67), 3) := by decide +kernel
theorem d_O_findMix_99 : decode prog_7_method_5_code 99 = .ok (.aload_n 0, 1) := by decide +kernel
theorem d_O_findMix_100 : decode prog_7_method_5_code 100 = .ok (.getfield 53, 3) := by decide +kernel
theorem d_O_findMix_103 : decode prog_7_method_5_code 103 = .ok (.bipush 40, 2) := by decide +kernel
theorem d_O_findMix_105 : decode prog_7_method_5_code 105 = .ok (.if_icmp .gt 7, 3) := by decide +kernel
theorem d_O_findMix_108 : decode prog_7_method_5_code 108 = .ok (.iconst 1, 1) := by decide +kernel
theorem d_O_findMix_109 : decode prog_7_method_5_code 109 = .ok (.goto 4, 3) := by decide +kernel
theorem d_O_findMix_112 : decode prog_7_method_5_code 112 = .ok (.iconst 0, 1) := by decide +kernel
theorem d_O_findMix_113 : decode prog_7_method_5_code 113 = .ok (.ireturn, 1) := by decide +kernel
theorem d_J_isFull_0 : decode prog_3_method_2_code 0 = .ok (.aload_n 0, 1) := by decide +kernel
theorem d_J_isFull_1 : decode prog_3_method_2_code 1 = .ok (.getfield 24, 3) := by decide +kernel
theorem d_J_isFull_4 : decode prog_3_method_2_code 4 = .ok (.sipush 300, 3) := by decide +kernel
theorem d_J_isFull_7 : decode prog_3_method_2_code 7 = .ok (.if_icmp .lt 7, 3) := by decide +kernel
theorem d_J_isFull_10 : decode prog_3_method_2_code 10 = .ok (.iconst 1, 1) := by decide +kernel
theorem d_J_isFull_11 : decode prog_3_method_2_code 11 = .ok (.goto 4, 3) := by decide +kernel
theorem d_J_isFull_14 : decode prog_3_method_2_code 14 = .ok (.iconst 0, 1) := by decide +kernel
theorem d_J_isFull_15 : decode prog_3_method_2_code 15 = .ok (.ireturn, 1) := by decide +kernel
theorem d_J_add_0 : decode prog_3_method_3_code 0 = .ok (.aload_n 0, 1) := by decide +kernel
theorem d_J_add_1 : decode prog_3_method_3_code 1 = .ok (.invokevirtual 28, 3) := by decide +kernel
theorem d_J_add_4 : decode prog_3_method_3_code 4 = .ok (.ifCond .eq 4, 3) := by decide +kernel
theorem d_J_add_7 : decode prog_3_method_3_code 7 = .ok (.return_, 1) := by decide +kernel
theorem d_J_add_8 : decode prog_3_method_3_code 8 = .ok (.aload_n 0, 1) := by decide +kernel
theorem d_J_add_9 : decode prog_3_method_3_code 9 = .ok (.getfield 9, 3) := by decide +kernel
theorem d_J_add_12 : decode prog_3_method_3_code 12 = .ok (.aload_n 0, 1) := by decide +kernel
theorem d_J_add_13 : decode prog_3_method_3_code 13 = .ok (.getfield 24, 3) := by decide +kernel
theorem d_J_add_16 : decode prog_3_method_3_code 16 = .ok (.iload_n 1, 1) := by decide +kernel
theorem d_J_add_17 : decode prog_3_method_3_code 17 = .ok (.iastore, 1) := by decide +kernel
theorem d_J_add_18 : decode prog_3_method_3_code 18 = .ok (.aload_n 0, 1) := by decide +kernel
theorem d_J_add_19 : decode prog_3_method_3_code 19 = .ok (.getfield 15, 3) := by decide +kernel
theorem d_J_add_22 : decode prog_3_method_3_code 22 = .ok (.aload_n 0, 1) := by decide +kernel
theorem d_J_add_23 : decode prog_3_method_3_code 23 = .ok (.getfield 24, 3) := by decide +kernel
theorem d_J_add_26 : decode prog_3_method_3_code 26 = .ok (.iload_n 2, 1) := by decide +kernel
theorem d_J_add_27 : decode prog_3_method_3_code 27 = .ok (.iastore, 1) := by decide +kernel
theorem d_J_add_28 : decode prog_3_method_3_code 28 = .ok (.aload_n 0, 1) := by decide +kernel
theorem d_J_add_29 : decode prog_3_method_3_code 29 = .ok (.getfield 18, 3) := by decide +kernel
theorem d_J_add_32 : decode prog_3_method_3_code 32 = .ok (.aload_n 0, 1) := by decide +kernel
theorem d_J_add_33 : decode prog_3_method_3_code 33 = .ok (.getfield 24, 3) := by decide +kernel
theorem d_J_add_36 : decode prog_3_method_3_code 36 = .ok (.iload_n 3, 1) := by decide +kernel
theorem d_J_add_37 : decode prog_3_method_3_code 37 = .ok (.iastore, 1) := by decide +kernel
theorem d_J_add_38 : decode prog_3_method_3_code 38 = .ok (.aload_n 0, 1) := by decide +kernel
theorem d_J_add_39 : decode prog_3_method_3_code 39 = .ok (.getfield 21, 3) := by decide +kernel
theorem d_J_add_42 : decode prog_3_method_3_code 42 = .ok (.aload_n 0, 1) := by decide +kernel
theorem d_J_add_43 : decode prog_3_method_3_code 43 = .ok (.getfield 24, 3) := by decide +kernel
theorem d_J_add_46 : decode prog_3_method_3_code 46 = .ok (.iload 4, 2) := by decide +kernel
theorem d_J_add_48 : decode prog_3_method_3_code 48 = .ok (.iastore, 1) := by decide +kernel
theorem d_J_add_49 : decode prog_3_method_3_code 49 = .ok (.aload_n 0, 1) := by decide +kernel
theorem d_J_add_50 : decode prog_3_method_3_code 50 = .ok (.dup, 1) := by decide +kernel
theorem d_J_add_51 : decode prog_3_method_3_code 51 = .ok (.getfield 24, 3) := by decide +kernel
theorem d_J_add_54 : decode prog_3_method_3_code 54 = .ok (.iconst 1, 1) := by decide +kernel
theorem d_J_add_55 : decode prog_3_method_3_code 55 = .ok (.iadd, 1) := by decide +kernel
theorem d_J_add_56 : decode prog_3_method_3_code 56 = .ok (.putfield 24, 3) := by decide +kernel
theorem d_J_add_59 : decode prog_3_method_3_code 59 = .ok (.return_, 1) := by decide +kernel
theorem d_M_write_0 : decode prog_6_method_22_code 0 = .ok (.aload_n 0, 1) := by decide +kernel
theorem d_M_write_1 : decode prog_6_method_22_code 1 = .ok (.getfield 21, 3) := by decide +kernel
theorem d_M_write_4 : decode prog_6_method_22_code 4 = .ok (.invokevirtual 175, 3) := by decide +kernel
theorem d_M_write_7 : decode prog_6_method_22_code 7 = .ok (.ifCond .eq 5, 3) := by decide +kernel
theorem d_M_write_10 : decode prog_6_method_22_code 10 = .ok (.iconst 1, 1) := by decide +kernel
theorem d_M_write_11 : decode prog_6_method_22_code 11 = .ok (.ireturn, 1) := by decide +kernel
theorem d_M_write_12 : decode prog_6_method_22_code 12 = .ok (.aload_n 0, 1) := by decide +kernel
theorem d_M_write_13 : decode prog_6_method_22_code 13 = .ok (.invokevirtual 137, 3) := by decide +kernel
theorem d_M_write_16 : decode prog_6_method_22_code 16 = .ok (.ifCond .ne 5, 3) := by decide +kernel
theorem d_M_write_19 : decode prog_6_method_22_code 19 = .ok (.iconst 0, 1) := by decide +kernel
theorem d_M_write_20 : decode prog_6_method_22_code 20 = .ok (.ireturn, 1) := by decide +kernel
theorem d_M_write_21 : decode prog_6_method_22_code 21 = .ok (.aload_n 0, 1) := by decide +kernel
theorem d_M_write_22 : decode prog_6_method_22_code 22 = .ok (.getfield 21, 3) := by decide +kernel
theorem d_M_write_25 : decode prog_6_method_22_code 25 = .ok (.iload_n 1, 1) := by decide +kernel
theorem d_M_write_26 : decode prog_6_method_22_code 26 = .ok (.aload_n 0, 1) := by decide +kernel
theorem d_M_write_27 : decode prog_6_method_22_code 27 = .ok (.getfield 128, 3) := by decide +kernel
theorem d_M_write_30 : decode prog_6_method_22_code 30 = .ok (.aload_n 0, 1) := by decide +kernel
theorem d_M_write_31 : decode prog_6_method_22_code 31 = .ok (.getfield 84, 3) := by decide +kernel
theorem d_M_write_34 : decode prog_6_method_22_code 34 = .ok (.aload_n 0, 1) := by decide +kernel
theorem d_M_write_35 : decode prog_6_method_22_code 35 = .ok (.getfield 46, 3) := by decide +kernel
theorem d_M_write_38 : decode prog_6_method_22_code 38 = .ok (.invokevirtual 178, 3) := by decide +kernel
theorem d_M_write_41 : decode prog_6_method_22_code 41 = .ok (.iconst 1, 1) := by decide +kernel
theorem d_M_write_42 : decode prog_6_method_22_code 42 = .ok (.ireturn, 1) := by decide +kernel
theorem d_M_beginWithdrawal_0 : decode prog_6_method_7_code 0 = .ok (.aload_n 0, 1) := by decide +kernel
theorem d_M_beginWithdrawal_1 : decode prog_6_method_7_code 1 = .ok (.getfield 29, 3) := by decide +kernel
theorem d_M_beginWithdrawal_4 : decode prog_6_method_7_code 4 = .ok (.ifCond .eq 42, 3) := by decide +kernel
theorem d_M_beginWithdrawal_7 : decode prog_6_method_7_code 7 = .ok (.aload_n 0, 1) := by decide +kernel
theorem d_M_beginWithdrawal_8 : decode prog_6_method_7_code 8 = .ok (.getfield 37, 3) := by decide +kernel
theorem d_M_beginWithdrawal_11 : decode prog_6_method_7_code 11 = .ok (.iconst 3, 1) := by decide +kernel
theorem d_M_beginWithdrawal_12 : decode prog_6_method_7_code 12 = .ok (.if_icmp .ne 34, 3) := by decide +kernel
theorem d_M_beginWithdrawal_15 : decode prog_6_method_7_code 15 = .ok (.iload_n 1, 1) := by decide +kernel
theorem d_M_beginWithdrawal_16 : decode prog_6_method_7_code 16 = .ok (.i2l, 1) := by decide +kernel
theorem d_M_beginWithdrawal_17 : decode prog_6_method_7_code 17 = .ok (.invokestatic 75, 3) := by decide +kernel
theorem d_M_beginWithdrawal_20 : decode prog_6_method_7_code 20 = .ok (.ifCond .eq 26, 3) := by decide +kernel
theorem d_M_beginWithdrawal_23 : decode prog_6_method_7_code 23 = .ok (.aload_n 0, 1) := by decide +kernel
theorem d_M_beginWithdrawal_24 : decode prog_6_method_7_code 24 = .ok (.getfield 21, 3) := by decide +kernel
theorem d_M_beginWithdrawal_27 : decode prog_6_method_7_code 27 = .ok (.getfield 78, 3) := by decide +kernel
theorem d_M_beginWithdrawal_30 : decode prog_6_method_7_code 30 = .ok (.sipush 290, 3) := by decide +kernel
theorem d_M_beginWithdrawal_33 : decode prog_6_method_7_code 33 = .ok (.if_icmp .gt 13, 3) := by decide +kernel
theorem d_M_beginWithdrawal_36 : decode prog_6_method_7_code 36 = .ok (.aload_n 0, 1) := by decide +kernel
theorem d_M_beginWithdrawal_37 : decode prog_6_method_7_code 37 = .ok (.getfield 43, 3) := by decide +kernel
theorem d_M_beginWithdrawal_40 : decode prog_6_method_7_code 40 = .ok (.sipush 2000, 3) := by decide +kernel
theorem d_M_beginWithdrawal_43 : decode prog_6_method_7_code 43 = .ok (.if_icmp .le 5, 3) := by decide +kernel
theorem d_M_beginWithdrawal_46 : decode prog_6_method_7_code 46 = .ok (.iconst (-1), 1) := by decide +kernel
theorem d_M_beginWithdrawal_47 : decode prog_6_method_7_code 47 = .ok (.ireturn, 1) := by decide +kernel
theorem d_M_beginWithdrawal_48 : decode prog_6_method_7_code 48 = .ok (.aload_n 0, 1) := by decide +kernel
theorem d_M_beginWithdrawal_49 : decode prog_6_method_7_code 49 = .ok (.getfield 12, 3) := by decide +kernel
theorem d_M_beginWithdrawal_52 : decode prog_6_method_7_code 52 = .ok (.iload_n 1, 1) := by decide +kernel
theorem d_M_beginWithdrawal_53 : decode prog_6_method_7_code 53 = .ok (.invokevirtual 81, 3) := by decide +kernel
theorem d_M_beginWithdrawal_56 : decode prog_6_method_7_code 56 = .ok (.ifCond .ne 5, 3) := by decide +kernel
theorem d_M_beginWithdrawal_59 : decode prog_6_method_7_code 59 = .ok (.iconst 0, 1) := by decide +kernel
theorem d_M_beginWithdrawal_60 : decode prog_6_method_7_code 60 = .ok (.ireturn, 1) := by decide +kernel
theorem d_M_beginWithdrawal_61 : decode prog_6_method_7_code 61 = .ok (.aload_n 0, 1) := by decide +kernel
theorem d_M_beginWithdrawal_62 : decode prog_6_method_7_code 62 = .ok (.invokevirtual 68, 3) := by decide +kernel
theorem d_M_beginWithdrawal_65 : decode prog_6_method_7_code 65 = .ok (.aload_n 0, 1) := by decide +kernel
theorem d_M_beginWithdrawal_66 : decode prog_6_method_7_code 66 = .ok (.iload_n 1, 1) := by decide +kernel
theorem d_M_beginWithdrawal_67 : decode prog_6_method_7_code 67 = .ok (.putfield 84, 3) := by decide +kernel
theorem d_M_beginWithdrawal_70 : decode prog_6_method_7_code 70 = .ok (.aload_n 0, 1) := by decide +kernel
theorem d_M_beginWithdrawal_71 : decode prog_6_method_7_code 71 = .ok (.iconst 1, 1) := by decide +kernel
theorem d_M_beginWithdrawal_72 : decode prog_6_method_7_code 72 = .ok (.invokevirtual 87, 3) := by decide +kernel
theorem d_M_beginWithdrawal_75 : decode prog_6_method_7_code 75 = .ok (.ifCond .eq 25, 3) := by decide +kernel
theorem d_M_beginWithdrawal_78 : decode prog_6_method_7_code 78 = .ok (.aload_n 0, 1) := by decide +kernel
theorem d_M_beginWithdrawal_79 : decode prog_6_method_7_code 79 = .ok (.aload_n 0, 1) := by decide +kernel
theorem d_M_beginWithdrawal_80 : decode prog_6_method_7_code 80 = .ok (.getfield 90, 3) := by decide +kernel
theorem d_M_beginWithdrawal_83 : decode prog_6_method_7_code 83 = .ok (.putfield 93, 3) := by decide +kernel
theorem d_M_beginWithdrawal_86 : decode prog_6_method_7_code 86 = .ok (.aload_n 0, 1) := by decide +kernel
theorem d_M_beginWithdrawal_87 : decode prog_6_method_7_code 87 = .ok (.iconst 2, 1) := by decide +kernel
theorem d_M_beginWithdrawal_88 : decode prog_6_method_7_code 88 = .ok (.iload_n 1, 1) := by decide +kernel
theorem d_M_beginWithdrawal_89 : decode prog_6_method_7_code 89 = .ok (.invokevirtual 71, 3) := by decide +kernel
theorem d_M_beginWithdrawal_92 : decode prog_6_method_7_code 92 = .ok (.ifCond .eq 8, 3) := by decide +kernel
theorem d_M_beginWithdrawal_95 : decode prog_6_method_7_code 95 = .ok (.aload_n 0, 1) := by decide +kernel
theorem d_M_beginWithdrawal_96 : decode prog_6_method_7_code 96 = .ok (.iconst 4, 1) := by decide +kernel
theorem d_M_beginWithdrawal_97 : decode prog_6_method_7_code 97 = .ok (.putfield 37, 3) := by decide +kernel
theorem d_M_beginWithdrawal_100 : decode prog_6_method_7_code 100 = .ok (.iconst 1, 1) := by decide +kernel
theorem d_M_beginWithdrawal_101 : decode prog_6_method_7_code 101 = .ok (.ireturn, 1) := by decide +kernel
theorem d_A_ask_0 : decode prog_1_method_7_code 0 = .ok (.aload_n 0, 1) := by decide +kernel
theorem d_A_ask_1 : decode prog_1_method_7_code 1 = .ok (.getfield 28, 3) := by decide +kernel
theorem d_A_ask_4 : decode prog_1_method_7_code 4 = .ok (.iload_n 1, 1) := by decide +kernel
theorem d_A_ask_5 : decode prog_1_method_7_code 5 = .ok (.invokevirtual 57, 3) := by decide +kernel
theorem d_A_ask_8 : decode prog_1_method_7_code 8 = .ok (.ireturn, 1) := by decide +kernel
theorem d_M_endWithoutCard_0 : decode prog_6_method_19_code 0 = .ok (.aload_n 0, 1) := by decide +kernel
theorem d_M_endWithoutCard_1 : decode prog_6_method_19_code 1 = .ok (.iconst (-1), 1) := by decide +kernel
theorem d_M_endWithoutCard_2 : decode prog_6_method_19_code 2 = .ok (.putfield 40, 3) := by decide +kernel
theorem d_M_endWithoutCard_5 : decode prog_6_method_19_code 5 = .ok (.aload_n 0, 1) := by decide +kernel
theorem d_M_endWithoutCard_6 : decode prog_6_method_19_code 6 = .ok (.iconst 0, 1) := by decide +kernel
theorem d_M_endWithoutCard_7 : decode prog_6_method_19_code 7 = .ok (.putfield 37, 3) := by decide +kernel
theorem d_M_endWithoutCard_10 : decode prog_6_method_19_code 10 = .ok (.return_, 1) := by decide +kernel
theorem d_M_giveCardBack_0 : decode prog_6_method_4_code 0 = .ok (.aload_n 0, 1) := by decide +kernel
theorem d_M_giveCardBack_1 : decode prog_6_method_4_code 1 = .ok (.getfield 29, 3) := by decide +kernel
theorem d_M_giveCardBack_4 : decode prog_6_method_4_code 4 = .ok (.ifCond .eq 19, 3) := by decide +kernel
theorem d_M_giveCardBack_7 : decode prog_6_method_4_code 7 = .ok (.aload_n 0, 1) := by decide +kernel
theorem d_M_giveCardBack_8 : decode prog_6_method_4_code 8 = .ok (.getfield 37, 3) := by decide +kernel
theorem d_M_giveCardBack_11 : decode prog_6_method_4_code 11 = .ok (.iconst 1, 1) := by decide +kernel
theorem d_M_giveCardBack_12 : decode prog_6_method_4_code 12 = .ok (.if_icmp .eq 13, 3) := by decide +kernel
theorem d_M_giveCardBack_15 : decode prog_6_method_4_code 15 = .ok (.aload_n 0, 1) := by decide +kernel
theorem d_M_giveCardBack_16 : decode prog_6_method_4_code 16 = .ok (.getfield 37, 3) := by decide +kernel
theorem d_M_giveCardBack_19 : decode prog_6_method_4_code 19 = .ok (.iconst 3, 1) := by decide +kernel
theorem d_M_giveCardBack_20 : decode prog_6_method_4_code 20 = .ok (.if_icmp .eq 5, 3) := by decide +kernel
theorem d_M_giveCardBack_23 : decode prog_6_method_4_code 23 = .ok (.iconst 0, 1) := by decide +kernel
theorem d_M_giveCardBack_24 : decode prog_6_method_4_code 24 = .ok (.ireturn, 1) := by decide +kernel
theorem d_M_giveCardBack_25 : decode prog_6_method_4_code 25 = .ok (.aload_n 0, 1) := by decide +kernel
theorem d_M_giveCardBack_26 : decode prog_6_method_4_code 26 = .ok (.invokevirtual 61, 3) := by decide +kernel
theorem d_M_giveCardBack_29 : decode prog_6_method_4_code 29 = .ok (.iconst 1, 1) := by decide +kernel
theorem d_M_giveCardBack_30 : decode prog_6_method_4_code 30 = .ok (.ireturn, 1) := by decide +kernel
theorem d_A_eject_0 : decode prog_1_method_8_code 0 = .ok (.aload_n 0, 1) := by decide +kernel
theorem d_A_eject_1 : decode prog_1_method_8_code 1 = .ok (.getfield 28, 3) := by decide +kernel
theorem d_A_eject_4 : decode prog_1_method_8_code 4 = .ok (.invokevirtual 61, 3) := by decide +kernel
theorem d_A_eject_7 : decode prog_1_method_8_code 7 = .ok (.ireturn, 1) := by decide +kernel
theorem d_F_fill_0 : decode prog_13_method_103_code 0 = .ok (.iconst 0, 1) := by decide +kernel
theorem d_F_fill_1 : decode prog_13_method_103_code 1 = .ok (.istore_n 2, 1) := by decide +kernel
theorem d_F_fill_2 : decode prog_13_method_103_code 2 = .ok (.aload_n 0, 1) := by decide +kernel
theorem d_F_fill_3 : decode prog_13_method_103_code 3 = .ok (.arraylength, 1) := by decide +kernel
theorem d_F_fill_4 : decode prog_13_method_103_code 4 = .ok (.istore_n 3, 1) := by decide +kernel
theorem d_F_fill_5 : decode prog_13_method_103_code 5 = .ok (.iload_n 2, 1) := by decide +kernel
theorem d_F_fill_6 : decode prog_13_method_103_code 6 = .ok (.iload_n 3, 1) := by decide +kernel
theorem d_F_fill_7 : decode prog_13_method_103_code 7 = .ok (.if_icmp .ge 13, 3) := by decide +kernel
theorem d_F_fill_10 : decode prog_13_method_103_code 10 = .ok (.aload_n 0, 1) := by decide +kernel
theorem d_F_fill_11 : decode prog_13_method_103_code 11 = .ok (.iload_n 2, 1) := by decide +kernel
theorem d_F_fill_12 : decode prog_13_method_103_code 12 = .ok (.iload_n 1, 1) := by decide +kernel
theorem d_F_fill_13 : decode prog_13_method_103_code 13 = .ok (.iastore, 1) := by decide +kernel
theorem d_F_fill_14 : decode prog_13_method_103_code 14 = .ok (.iinc 2 1, 3) := by decide +kernel
theorem d_F_fill_17 : decode prog_13_method_103_code 17 = .ok (.goto (-12), 3) := by decide +kernel
theorem d_F_fill_20 : decode prog_13_method_103_code 20 = .ok (.return_, 1) := by decide +kernel
theorem d_O_clearTray_0 : decode prog_7_method_14_code 0 = .ok (.aload_n 0, 1) := by decide +kernel
theorem d_O_clearTray_1 : decode prog_7_method_14_code 1 = .ok (.getfield 88, 3) := by decide +kernel
theorem d_O_clearTray_4 : decode prog_7_method_14_code 4 = .ok (.istore_n 1, 1) := by decide +kernel
theorem d_O_clearTray_5 : decode prog_7_method_14_code 5 = .ok (.aload_n 0, 1) := by decide +kernel
theorem d_O_clearTray_6 : decode prog_7_method_14_code 6 = .ok (.getfield 29, 3) := by decide +kernel
theorem d_O_clearTray_9 : decode prog_7_method_14_code 9 = .ok (.iconst 0, 1) := by decide +kernel
theorem d_O_clearTray_10 : decode prog_7_method_14_code 10 = .ok (.invokestatic 95, 3) := by decide +kernel
theorem d_O_clearTray_13 : decode prog_7_method_14_code 13 = .ok (.aload_n 0, 1) := by decide +kernel
theorem d_O_clearTray_14 : decode prog_7_method_14_code 14 = .ok (.iconst 0, 1) := by decide +kernel
theorem d_O_clearTray_15 : decode prog_7_method_14_code 15 = .ok (.putfield 88, 3) := by decide +kernel
theorem d_O_clearTray_18 : decode prog_7_method_14_code 18 = .ok (.iload_n 1, 1) := by decide +kernel
theorem d_O_clearTray_19 : decode prog_7_method_14_code 19 = .ok (.ireturn, 1) := by decide +kernel
theorem d_A_take_0 : decode prog_1_method_9_code 0 = .ok (.aload_n 0, 1) := by decide +kernel
theorem d_A_take_1 : decode prog_1_method_9_code 1 = .ok (.getfield 28, 3) := by decide +kernel
theorem d_A_take_4 : decode prog_1_method_9_code 4 = .ok (.getfield 65, 3) := by decide +kernel
theorem d_A_take_7 : decode prog_1_method_9_code 7 = .ok (.invokevirtual 69, 3) := by decide +kernel
theorem d_A_take_10 : decode prog_1_method_9_code 10 = .ok (.ireturn, 1) := by decide +kernel
theorem d_O_areStacked_0 : decode prog_7_method_10_code 0 = .ok (.iconst 0, 1) := by decide +kernel
theorem d_O_areStacked_1 : decode prog_7_method_10_code 1 = .ok (.istore_n 1, 1) := by decide +kernel
theorem d_O_areStacked_2 : decode prog_7_method_10_code 2 = .ok (.iconst 0, 1) := by decide +kernel
theorem d_O_areStacked_3 : decode prog_7_method_10_code 3 = .ok (.istore_n 2, 1) := by decide +kernel
theorem d_O_areStacked_4 : decode prog_7_method_10_code 4 = .ok (.iload_n 2, 1) := by decide +kernel
theorem d_O_areStacked_5 : decode prog_7_method_10_code 5 = .ok (.iconst 4, 1) := by decide +kernel
theorem d_O_areStacked_6 : decode prog_7_method_10_code 6 = .ok (.if_icmp .ge 28, 3) := by decide +kernel
theorem d_O_areStacked_9 : decode prog_7_method_10_code 9 = .ok (.iload_n 1, 1) := by decide +kernel
theorem d_O_areStacked_10 : decode prog_7_method_10_code 10 = .ok (.ifCond .ne 12, 3) := by decide +kernel
theorem d_O_areStacked_13 : decode prog_7_method_10_code 13 = .ok (.aload_n 0, 1) := by decide +kernel
theorem d_O_areStacked_14 : decode prog_7_method_10_code 14 = .ok (.getfield 26, 3) := by decide +kernel
theorem d_O_areStacked_17 : decode prog_7_method_10_code 17 = .ok (.iload_n 2, 1) := by decide +kernel
theorem d_O_areStacked_18 : decode prog_7_method_10_code 18 = .ok (.iaload, 1) := by decide +kernel
theorem d_O_areStacked_19 : decode prog_7_method_10_code 19 = .ok (.ifCond .le 7, 3) := by decide +kernel
theorem d_O_areStacked_22 : decode prog_7_method_10_code 22 = .ok (.iconst 1, 1) := by decide +kernel
theorem d_O_areStacked_23 : decode prog_7_method_10_code 23 = .ok (.goto 4, 3) := by decide +kernel
theorem d_O_areStacked_26 : decode prog_7_method_10_code 26 = .ok (.iconst 0, 1) := by decide +kernel
theorem d_O_areStacked_27 : decode prog_7_method_10_code 27 = .ok (.istore_n 1, 1) := by decide +kernel
theorem d_O_areStacked_28 : decode prog_7_method_10_code 28 = .ok (.iinc 2 1, 3) := by decide +kernel
theorem d_O_areStacked_31 : decode prog_7_method_10_code 31 = .ok (.goto (-27), 3) := by decide +kernel
theorem d_O_areStacked_34 : decode prog_7_method_10_code 34 = .ok (.iload_n 1, 1) := by decide +kernel
theorem d_O_areStacked_35 : decode prog_7_method_10_code 35 = .ok (.ireturn, 1) := by decide +kernel
