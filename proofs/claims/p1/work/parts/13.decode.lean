theorem d_R_letter_0 : decode prog_9_method_35_code 0 = .ok (.aload_n 0, 1) := by decide +kernel
theorem d_R_letter_1 : decode prog_9_method_35_code 1 = .ok (.iload_n 1, 1) := by decide +kernel
theorem d_R_letter_2 : decode prog_9_method_35_code 2 = .ok (.invokevirtual 187, 3) := by decide +kernel
theorem d_R_letter_5 : decode prog_9_method_35_code 5 = .ok (.ifCond .eq 27, 3) := by decide +kernel
theorem d_R_letter_8 : decode prog_9_method_35_code 8 = .ok (.iload_n 2, 1) := by decide +kernel
theorem d_R_letter_9 : decode prog_9_method_35_code 9 = .ok (.ifCond .lt 23, 3) := by decide +kernel
theorem d_R_letter_12 : decode prog_9_method_35_code 12 = .ok (.iload_n 2, 1) := by decide +kernel
theorem d_R_letter_13 : decode prog_9_method_35_code 13 = .ok (.bipush 12, 2) := by decide +kernel
theorem d_R_letter_15 : decode prog_9_method_35_code 15 = .ok (.if_icmp .gt 17, 3) := by decide +kernel
theorem d_R_letter_18 : decode prog_9_method_35_code 18 = .ok (.aload_n 0, 1) := by decide +kernel
theorem d_R_letter_19 : decode prog_9_method_35_code 19 = .ok (.getfield 77, 3) := by decide +kernel
theorem d_R_letter_22 : decode prog_9_method_35_code 22 = .ok (.bipush 14, 2) := by decide +kernel
theorem d_R_letter_24 : decode prog_9_method_35_code 24 = .ok (.iload_n 1, 1) := by decide +kernel
theorem d_R_letter_25 : decode prog_9_method_35_code 25 = .ok (.imul, 1) := by decide +kernel
theorem d_R_letter_26 : decode prog_9_method_35_code 26 = .ok (.iload_n 2, 1) := by decide +kernel
theorem d_R_letter_27 : decode prog_9_method_35_code 27 = .ok (.iadd, 1) := by decide +kernel
theorem d_R_letter_28 : decode prog_9_method_35_code 28 = .ok (.iaload, 1) := by decide +kernel
theorem d_R_letter_29 : decode prog_9_method_35_code 29 = .ok (.goto 4, 3) := by decide +kernel
theorem d_R_letter_32 : decode prog_9_method_35_code 32 = .ok (.iconst (-1), 1) := by decide +kernel
theorem d_R_letter_33 : decode prog_9_method_35_code 33 = .ok (.ireturn, 1) := by decide +kernel
theorem d_R_cut_0 : decode prog_9_method_36_code 0 = .ok (.aload_n 0, 1) := by decide +kernel
theorem d_R_cut_1 : decode prog_9_method_36_code 1 = .ok (.getfield 64, 3) := by decide +kernel
theorem d_R_cut_4 : decode prog_9_method_36_code 4 = .ok (.ifCond .ne 5, 3) := by decide +kernel
theorem d_R_cut_7 : decode prog_9_method_36_code 7 = .ok (.iconst 0, 1) := by decide +kernel
theorem d_R_cut_8 : decode prog_9_method_36_code 8 = .ok (.ireturn, 1) := by decide +kernel
theorem d_R_cut_9 : decode prog_9_method_36_code 9 = .ok (.aload_n 0, 1) := by decide +kernel
theorem d_R_cut_10 : decode prog_9_method_36_code 10 = .ok (.invokevirtual 136, 3) := by decide +kernel
theorem d_R_cut_13 : decode prog_9_method_36_code 13 = .ok (.iconst 1, 1) := by decide +kernel
theorem d_R_cut_14 : decode prog_9_method_36_code 14 = .ok (.ireturn, 1) := by decide +kernel
theorem d_R_arm_0 : decode prog_9_method_37_code 0 = .ok (.aload_n 0, 1) := by decide +kernel
theorem d_R_arm_1 : decode prog_9_method_37_code 1 = .ok (.getfield 64, 3) := by decide +kernel
theorem d_R_arm_4 : decode prog_9_method_37_code 4 = .ok (.ifCond .eq 13, 3) := by decide +kernel
theorem d_R_arm_7 : decode prog_9_method_37_code 7 = .ok (.iload_n 1, 1) := by decide +kernel
theorem d_R_arm_8 : decode prog_9_method_37_code 8 = .ok (.ifCond .lt 9, 3) := by decide +kernel
theorem d_R_arm_11 : decode prog_9_method_37_code 11 = .ok (.iload_n 1, 1) := by decide +kernel
theorem d_R_arm_12 : decode prog_9_method_37_code 12 = .ok (.bipush 100, 2) := by decide +kernel
theorem d_R_arm_14 : decode prog_9_method_37_code 14 = .ok (.if_icmp .le 5, 3) := by decide +kernel
theorem d_R_arm_17 : decode prog_9_method_37_code 17 = .ok (.iconst 0, 1) := by decide +kernel
theorem d_R_arm_18 : decode prog_9_method_37_code 18 = .ok (.ireturn, 1) := by decide +kernel
theorem d_R_arm_19 : decode prog_9_method_37_code 19 = .ok (.aload_n 0, 1) := by decide +kernel
theorem d_R_arm_20 : decode prog_9_method_37_code 20 = .ok (.iload_n 1, 1) := by decide +kernel
theorem d_R_arm_21 : decode prog_9_method_37_code 21 = .ok (.putfield 68, 3) := by decide +kernel
theorem d_R_arm_24 : decode prog_9_method_37_code 24 = .ok (.iconst 1, 1) := by decide +kernel
theorem d_R_arm_25 : decode prog_9_method_37_code 25 = .ok (.ireturn, 1) := by decide +kernel
theorem d_R_power_0 : decode prog_9_method_38_code 0 = .ok (.aload_n 0, 1) := by decide +kernel
theorem d_R_power_1 : decode prog_9_method_38_code 1 = .ok (.getfield 64, 3) := by decide +kernel
theorem d_R_power_4 : decode prog_9_method_38_code 4 = .ok (.ifCond .eq 5, 3) := by decide +kernel
theorem d_R_power_7 : decode prog_9_method_38_code 7 = .ok (.iconst 0, 1) := by decide +kernel
theorem d_R_power_8 : decode prog_9_method_38_code 8 = .ok (.ireturn, 1) := by decide +kernel
theorem d_R_power_9 : decode prog_9_method_38_code 9 = .ok (.aload_n 0, 1) := by decide +kernel
theorem d_R_power_10 : decode prog_9_method_38_code 10 = .ok (.iconst 1, 1) := by decide +kernel
theorem d_R_power_11 : decode prog_9_method_38_code 11 = .ok (.putfield 64, 3) := by decide +kernel
theorem d_R_power_14 : decode prog_9_method_38_code 14 = .ok (.aload_n 0, 1) := by decide +kernel
theorem d_R_power_15 : decode prog_9_method_38_code 15 = .ok (.iconst (-1), 1) := by decide +kernel
theorem d_R_power_16 : decode prog_9_method_38_code 16 = .ok (.putfield 68, 3) := by decide +kernel
theorem d_R_power_19 : decode prog_9_method_38_code 19 = .ok (.aload_n 0, 1) := by decide +kernel
theorem d_R_power_20 : decode prog_9_method_38_code 20 = .ok (.iconst (-1), 1) := by decide +kernel
theorem d_R_power_21 : decode prog_9_method_38_code 21 = .ok (.putfield 71, 3) := by decide +kernel
theorem d_R_power_24 : decode prog_9_method_38_code 24 = .ok (.aload_n 0, 1) := by decide +kernel
theorem d_R_power_25 : decode prog_9_method_38_code 25 = .ok (.iconst 0, 1) := by decide +kernel
theorem d_R_power_26 : decode prog_9_method_38_code 26 = .ok (.putfield 168, 3) := by decide +kernel
theorem d_R_power_29 : decode prog_9_method_38_code 29 = .ok (.aload_n 0, 1) := by decide +kernel
theorem d_R_power_30 : decode prog_9_method_38_code 30 = .ok (.getfield 139, 3) := by decide +kernel
theorem d_R_power_33 : decode prog_9_method_38_code 33 = .ok (.ifCond .ne 7, 3) := by decide +kernel
theorem d_R_power_36 : decode prog_9_method_38_code 36 = .ok (.iconst 0, 1) := by decide +kernel
theorem d_R_power_37 : decode prog_9_method_38_code 37 = .ok (.goto 16, 3) := by decide +kernel
theorem d_R_power_40 : decode prog_9_method_38_code 40 = .ok (.aload_n 0, 1) := by decide +kernel
theorem d_R_power_41 : decode prog_9_method_38_code 41 = .ok (.getfield 57, 3) := by decide +kernel
theorem d_R_power_44 : decode prog_9_method_38_code 44 = .ok (.iconst 5, 1) := by decide +kernel
theorem d_R_power_45 : decode prog_9_method_38_code 45 = .ok (.aload_n 0, 1) := by decide +kernel
theorem d_R_power_46 : decode prog_9_method_38_code 46 = .ok (.getfield 139, 3) := by decide +kernel
theorem d_R_power_49 : decode prog_9_method_38_code 49 = .ok (.imul, 1) := by decide +kernel
theorem d_R_power_50 : decode prog_9_method_38_code 50 = .ok (.iconst 5, 1) := by decide +kernel
theorem d_R_power_51 : decode prog_9_method_38_code 51 = .ok (.isub, 1) := by decide +kernel
theorem d_R_power_52 : decode prog_9_method_38_code 52 = .ok (.iaload, 1) := by decide +kernel
theorem d_R_power_53 : decode prog_9_method_38_code 53 = .ok (.istore_n 1, 1) := by decide +kernel
theorem d_R_power_54 : decode prog_9_method_38_code 54 = .ok (.iconst (-1), 1) := by decide +kernel
theorem d_R_power_55 : decode prog_9_method_38_code 55 = .ok (.istore_n 2, 1) := by decide +kernel
theorem d_R_power_56 : decode prog_9_method_38_code 56 = .ok (.iconst 0, 1) := by decide +kernel
theorem d_R_power_57 : decode prog_9_method_38_code 57 = .ok (.istore_n 3, 1) := by decide +kernel
theorem d_R_power_58 : decode prog_9_method_38_code 58 = .ok (.iload_n 3, 1) := by decide +kernel
theorem d_R_power_59 : decode prog_9_method_38_code 59 = .ok (.aload_n 0, 1) := by decide +kernel
theorem d_R_power_60 : decode prog_9_method_38_code 60 = .ok (.getfield 139, 3) := by decide +kernel
theorem d_R_power_63 : decode prog_9_method_38_code 63 = .ok (.if_icmp .ge 27, 3) := by decide +kernel
theorem d_R_power_66 : decode prog_9_method_38_code 66 = .ok (.aload_n 0, 1) := by decide +kernel
theorem d_R_power_67 : decode prog_9_method_38_code 67 = .ok (.getfield 57, 3) := by decide +kernel
theorem d_R_power_70 : decode prog_9_method_38_code 70 = .ok (.iconst 5, 1) := by decide +kernel
theorem d_R_power_71 : decode prog_9_method_38_code 71 = .ok (.iload_n 3, 1) := by decide +kernel
theorem d_R_power_72 : decode prog_9_method_38_code 72 = .ok (.imul, 1) := by decide +kernel
theorem d_R_power_73 : decode prog_9_method_38_code 73 = .ok (.iaload, 1) := by decide +kernel
theorem d_R_power_74 : decode prog_9_method_38_code 74 = .ok (.iconst 1, 1) := by decide +kernel
theorem d_R_power_75 : decode prog_9_method_38_code 75 = .ok (.if_icmp .ne 7, 3) := by decide +kernel
theorem d_R_power_78 : decode prog_9_method_38_code 78 = .ok (.iload_n 3, 1) := by decide +kernel
theorem d_R_power_79 : decode prog_9_method_38_code 79 = .ok (.goto 4, 3) := by decide +kernel
theorem d_R_power_82 : decode prog_9_method_38_code 82 = .ok (.iload_n 2, 1) := by decide +kernel
theorem d_R_power_83 : decode prog_9_method_38_code 83 = .ok (.istore_n 2, 1) := by decide +kernel
theorem d_R_power_84 : decode prog_9_method_38_code 84 = .ok (.iinc 3 1, 3) := by decide +kernel
theorem d_R_power_87 : decode prog_9_method_38_code 87 = .ok (.goto (-29), 3) := by decide +kernel
theorem d_R_power_90 : decode prog_9_method_38_code 90 = .ok (.iload_n 2, 1) := by decide +kernel
theorem d_R_power_91 : decode prog_9_method_38_code 91 = .ok (.iconst (-1), 1) := by decide +kernel
theorem d_R_power_92 : decode prog_9_method_38_code 92 = .ok (.if_icmp .eq 45, 3) := by decide +kernel
theorem d_R_power_95 : decode prog_9_method_38_code 95 = .ok (.aload_n 0, 1) := by decide +kernel
theorem d_R_power_96 : decode prog_9_method_38_code 96 = .ok (.aload_n 0, 1) := by decide +kernel
theorem d_R_power_97 : decode prog_9_method_38_code 97 = .ok (.getfield 57, 3) := by decide +kernel
theorem d_R_power_100 : decode prog_9_method_38_code 100 = .ok (.iconst 5, 1) := by decide +kernel
theorem d_R_power_101 : decode prog_9_method_38_code 101 = .ok (.iload_n 2, 1) := by decide +kernel
theorem d_R_power_102 : decode prog_9_method_38_code 102 = .ok (.imul, 1) := by decide +kernel
theorem d_R_power_103 : decode prog_9_method_38_code 103 = .ok (.iconst 1, 1) := by decide +kernel
theorem d_R_power_104 : decode prog_9_method_38_code 104 = .ok (.iadd, 1) := by decide +kernel
theorem d_R_power_105 : decode prog_9_method_38_code 105 = .ok (.iaload, 1) := by decide +kernel
theorem d_R_power_106 : decode prog_9_method_38_code 106 = .ok (.putfield 145, 3) := by decide +kernel
theorem d_R_power_109 : decode prog_9_method_38_code 109 = .ok (.aload_n 0, 1) := by decide +kernel
theorem d_R_power_110 : decode prog_9_method_38_code 110 = .ok (.aload_n 0, 1) := by decide +kernel
theorem d_R_power_111 : decode prog_9_method_38_code 111 = .ok (.getfield 57, 3) := by decide +kernel
theorem d_R_power_114 : decode prog_9_method_38_code 114 = .ok (.iconst 5, 1) := by decide +kernel
theorem d_R_power_115 : decode prog_9_method_38_code 115 = .ok (.iload_n 2, 1) := by decide +kernel
theorem d_R_power_116 : decode prog_9_method_38_code 116 = .ok (.imul, 1) := by decide +kernel
theorem d_R_power_117 : decode prog_9_method_38_code 117 = .ok (.iconst 2, 1) := by decide +kernel
theorem d_R_power_118 : decode prog_9_method_38_code 118 = .ok (.iadd, 1) := by decide +kernel
theorem d_R_power_119 : decode prog_9_method_38_code 119 = .ok (.iaload, 1) := by decide +kernel
theorem d_R_power_120 : decode prog_9_method_38_code 120 = .ok (.putfield 148, 3) := by decide +kernel
theorem d_R_power_123 : decode prog_9_method_38_code 123 = .ok (.aload_n 0, 1) := by decide +kernel
theorem d_R_power_124 : decode prog_9_method_38_code 124 = .ok (.aload_n 0, 1) := by decide +kernel
theorem d_R_power_125 : decode prog_9_method_38_code 125 = .ok (.getfield 57, 3) := by decide +kernel
theorem d_R_power_128 : decode prog_9_method_38_code 128 = .ok (.iconst 5, 1) := by decide +kernel
theorem d_R_power_129 : decode prog_9_method_38_code 129 = .ok (.iload_n 2, 1) := by decide +kernel
theorem d_R_power_130 : decode prog_9_method_38_code 130 = .ok (.imul, 1) := by decide +kernel
theorem d_R_power_131 : decode prog_9_method_38_code 131 = .ok (.iconst 3, 1) := by decide +kernel
theorem d_R_power_132 : decode prog_9_method_38_code 132 = .ok (.iadd, 1) := by decide +kernel
theorem d_R_power_133 : decode prog_9_method_38_code 133 = .ok (.iaload, 1) := by decide +kernel
theorem d_R_power_134 : decode prog_9_method_38_code 134 = .ok (.putfield 74, 3) := by decide +kernel
theorem d_R_power_137 : decode prog_9_method_38_code 137 = .ok (.iload_n 1, 1) := by decide +kernel
theorem d_R_power_138 : decode prog_9_method_38_code 138 = .ok (.iconst 2, 1) := by decide +kernel
theorem d_R_power_139 : decode prog_9_method_38_code 139 = .ok (.if_icmp .ne 29, 3) := by decide +kernel
theorem d_R_power_142 : decode prog_9_method_38_code 142 = .ok (.aload_n 0, 1) := by decide +kernel
theorem d_R_power_143 : decode prog_9_method_38_code 143 = .ok (.getfield 151, 3) := by decide +kernel
theorem d_R_power_146 : decode prog_9_method_38_code 146 = .ok (.aload_n 0, 1) := by decide +kernel
theorem d_R_power_147 : decode prog_9_method_38_code 147 = .ok (.getfield 57, 3) := by decide +kernel
theorem d_R_power_150 : decode prog_9_method_38_code 150 = .ok (.iconst 5, 1) := by decide +kernel
theorem d_R_power_151 : decode prog_9_method_38_code 151 = .ok (.iload_n 2, 1) := by decide +kernel
theorem d_R_power_152 : decode prog_9_method_38_code 152 = .ok (.imul, 1) := by decide +kernel
theorem d_R_power_153 : decode prog_9_method_38_code 153 = .ok (.iconst 4, 1) := by decide +kernel
theorem d_R_power_154 : decode prog_9_method_38_code 154 = .ok (.iadd, 1) := by decide +kernel
theorem d_R_power_155 : decode prog_9_method_38_code 155 = .ok (.iaload, 1) := by decide +kernel
theorem d_R_power_156 : decode prog_9_method_38_code 156 = .ok (.if_icmp .le 12, 3) := by decide +kernel
theorem d_R_power_159 : decode prog_9_method_38_code 159 = .ok (.aload_n 0, 1) := by decide +kernel
theorem d_R_power_160 : decode prog_9_method_38_code 160 = .ok (.iconst 3, 1) := by decide +kernel
theorem d_R_power_161 : decode prog_9_method_38_code 161 = .ok (.invokevirtual 154, 3) := by decide +kernel
theorem d_R_power_164 : decode prog_9_method_38_code 164 = .ok (.pop, 1) := by decide +kernel
theorem d_R_power_165 : decode prog_9_method_38_code 165 = .ok (.goto 32, 3) := by decide +kernel
theorem d_R_power_168 : decode prog_9_method_38_code 168 = .ok (.iload_n 1, 1) := by decide +kernel
theorem d_R_power_169 : decode prog_9_method_38_code 169 = .ok (.iconst 1, 1) := by decide +kernel
theorem d_R_power_170 : decode prog_9_method_38_code 170 = .ok (.if_icmp .eq 13, 3) := by decide +kernel
theorem d_R_power_173 : decode prog_9_method_38_code 173 = .ok (.iload_n 1, 1) := by decide +kernel
theorem d_R_power_174 : decode prog_9_method_38_code 174 = .ok (.iconst 2, 1) := by decide +kernel
theorem d_R_power_175 : decode prog_9_method_38_code 175 = .ok (.if_icmp .eq 8, 3) := by decide +kernel
theorem d_R_power_178 : decode prog_9_method_38_code 178 = .ok (.iload_n 1, 1) := by decide +kernel
theorem d_R_power_179 : decode prog_9_method_38_code 179 = .ok (.iconst 4, 1) := by decide +kernel
theorem d_R_power_180 : decode prog_9_method_38_code 180 = .ok (.if_icmp .ne 17, 3) := by decide +kernel
theorem d_R_power_183 : decode prog_9_method_38_code 183 = .ok (.aload_n 0, 1) := by decide +kernel
theorem d_R_power_184 : decode prog_9_method_38_code 184 = .ok (.iload_n 1, 1) := by decide +kernel
theorem d_R_power_185 : decode prog_9_method_38_code 185 = .ok (.iconst 4, 1) := by decide +kernel
theorem d_R_power_186 : decode prog_9_method_38_code 186 = .ok (.if_icmp .eq 7, 3) := by decide +kernel
theorem d_R_power_189 : decode prog_9_method_38_code 189 = .ok (.iconst 1, 1) := by decide +kernel
theorem d_R_power_190 : decode prog_9_method_38_code 190 = .ok (.goto 4, 3) := by decide +kernel
theorem d_R_power_193 : decode prog_9_method_38_code 193 = .ok (.iconst 0, 1) := by decide +kernel
theorem d_R_power_194 : decode prog_9_method_38_code 194 = .ok (.invokevirtual 183, 3) := by decide +kernel
theorem d_R_power_197 : decode prog_9_method_38_code 197 = .ok (.iconst 1, 1) := by decide +kernel
theorem d_R_power_198 : decode prog_9_method_38_code 198 = .ok (.ireturn, 1) := by decide +kernel
theorem d_R_cassette_0 : decode prog_9_method_39_code 0 = .ok (.iload_n 1, 1) := by decide +kernel
theorem d_R_cassette_1 : decode prog_9_method_39_code 1 = .ok (.ifCond .lt 8, 3) := by decide +kernel
theorem d_R_cassette_4 : decode prog_9_method_39_code 4 = .ok (.iload_n 1, 1) := by decide +kernel
theorem d_R_cassette_5 : decode prog_9_method_39_code 5 = .ok (.iconst 3, 1) := by decide +kernel
theorem d_R_cassette_6 : decode prog_9_method_39_code 6 = .ok (.if_icmp .le 5, 3) := by decide +kernel
theorem d_R_cassette_9 : decode prog_9_method_39_code 9 = .ok (.iconst (-1), 1) := by decide +kernel
theorem d_R_cassette_10 : decode prog_9_method_39_code 10 = .ok (.ireturn, 1) := by decide +kernel
theorem d_R_cassette_11 : decode prog_9_method_39_code 11 = .ok (.iload_n 2, 1) := by decide +kernel
theorem d_R_cassette_12 : decode prog_9_method_39_code 12 = .ok (.tableswitch 71 0 4 #[36, 43, 50, 57, 64], 36) := by decide +kernel
theorem d_R_cassette_48 : decode prog_9_method_39_code 48 = .ok (.aload_n 0, 1) := by decide +kernel
theorem d_R_cassette_49 : decode prog_9_method_39_code 49 = .ok (.getfield 39, 3) := by decide +kernel
theorem d_R_cassette_52 : decode prog_9_method_39_code 52 = .ok (.iload_n 1, 1) := by decide +kernel
theorem d_R_cassette_53 : decode prog_9_method_39_code 53 = .ok (.iaload, 1) := by decide +kernel
theorem d_R_cassette_54 : decode prog_9_method_39_code 54 = .ok (.ireturn, 1) := by decide +kernel
theorem d_R_cassette_55 : decode prog_9_method_39_code 55 = .ok (.aload_n 0, 1) := by decide +kernel
theorem d_R_cassette_56 : decode prog_9_method_39_code 56 = .ok (.getfield 42, 3) := by decide +kernel
theorem d_R_cassette_59 : decode prog_9_method_39_code 59 = .ok (.iload_n 1, 1) := by decide +kernel
theorem d_R_cassette_60 : decode prog_9_method_39_code 60 = .ok (.iaload, 1) := by decide +kernel
theorem d_R_cassette_61 : decode prog_9_method_39_code 61 = .ok (.ireturn, 1) := by decide +kernel
theorem d_R_cassette_62 : decode prog_9_method_39_code 62 = .ok (.aload_n 0, 1) := by decide +kernel
theorem d_R_cassette_63 : decode prog_9_method_39_code 63 = .ok (.getfield 45, 3) := by decide +kernel
theorem d_R_cassette_66 : decode prog_9_method_39_code 66 = .ok (.iload_n 1, 1) := by decide +kernel
theorem d_R_cassette_67 : decode prog_9_method_39_code 67 = .ok (.iaload, 1) := by decide +kernel
theorem d_R_cassette_68 : decode prog_9_method_39_code 68 = .ok (.ireturn, 1) := by decide +kernel
theorem d_R_cassette_69 : decode prog_9_method_39_code 69 = .ok (.aload_n 0, 1) := by decide +kernel
theorem d_R_cassette_70 : decode prog_9_method_39_code 70 = .ok (.getfield 48, 3) := by decide +kernel
theorem d_R_cassette_73 : decode prog_9_method_39_code 73 = .ok (.iload_n 1, 1) := by decide +kernel
theorem d_R_cassette_74 : decode prog_9_method_39_code 74 = .ok (.iaload, 1) := by decide +kernel
theorem d_R_cassette_75 : decode prog_9_method_39_code 75 = .ok (.ireturn, 1) := by decide +kernel
theorem d_R_cassette_76 : decode prog_9_method_39_code 76 = .ok (.aload_n 0, 1) := by decide +kernel
theorem d_R_cassette_77 : decode prog_9_method_39_code 77 = .ok (.getfield 51, 3) := by decide +kernel
theorem d_R_cassette_80 : decode prog_9_method_39_code 80 = .ok (.iload_n 1, 1) := by decide +kernel
theorem d_R_cassette_81 : decode prog_9_method_39_code 81 = .ok (.iaload, 1) := by decide +kernel
theorem d_R_cassette_82 : decode prog_9_method_39_code 82 = .ok (.ireturn, 1) := by decide +kernel
theorem d_R_cassette_83 : decode prog_9_method_39_code 83 = .ok (.iconst (-1), 1) := by decide +kernel
theorem d_R_cassette_84 : decode prog_9_method_39_code 84 = .ok (.ireturn, 1) := by decide +kernel
theorem d_R_mix_0 : decode prog_9_method_40_code 0 = .ok (.iload_n 2, 1) := by decide +kernel
theorem d_R_mix_1 : decode prog_9_method_40_code 1 = .ok (.ifCond .lt 27, 3) := by decide +kernel
theorem d_R_mix_4 : decode prog_9_method_40_code 4 = .ok (.iload_n 2, 1) := by decide +kernel
theorem d_R_mix_5 : decode prog_9_method_40_code 5 = .ok (.iconst 3, 1) := by decide +kernel
theorem d_R_mix_6 : decode prog_9_method_40_code 6 = .ok (.if_icmp .gt 22, 3) := by decide +kernel
theorem d_R_mix_9 : decode prog_9_method_40_code 9 = .ok (.iload_n 1, 1) := by decide +kernel
theorem d_R_mix_10 : decode prog_9_method_40_code 10 = .ok (.iconst 1, 1) := by decide +kernel
theorem d_R_mix_11 : decode prog_9_method_40_code 11 = .ok (.if_icmp .lt 17, 3) := by decide +kernel
theorem d_R_mix_14 : decode prog_9_method_40_code 14 = .ok (.iload_n 1, 1) := by decide +kernel
theorem d_R_mix_15 : decode prog_9_method_40_code 15 = .ok (.ldc 117, 2) := by decide +kernel
theorem d_R_mix_17 : decode prog_9_method_40_code 17 = .ok (.if_icmp .gt 11, 3) := by decide +kernel
theorem d_R_mix_20 : decode prog_9_method_40_code 20 = .ok (.aload_n 0, 1) := by decide +kernel
theorem d_R_mix_21 : decode prog_9_method_40_code 21 = .ok (.iload_n 1, 1) := by decide +kernel
theorem d_R_mix_22 : decode prog_9_method_40_code 22 = .ok (.invokevirtual 174, 3) := by decide +kernel
theorem d_R_mix_25 : decode prog_9_method_40_code 25 = .ok (.ifCond .ne 7, 3) := by decide +kernel
theorem d_R_mix_28 : decode prog_9_method_40_code 28 = .ok (.iconst (-1), 1) := by decide +kernel
theorem d_R_mix_29 : decode prog_9_method_40_code 29 = .ok (.goto 9, 3) := by decide +kernel
theorem d_R_mix_32 : decode prog_9_method_40_code 32 = .ok (.aload_n 0, 1) := by decide +kernel
theorem d_R_mix_33 : decode prog_9_method_40_code 33 = .ok (.getfield 83, 3) := by decide +kernel
theorem d_R_mix_36 : decode prog_9_method_40_code 36 = .ok (.iload_n 2, 1) := by decide +kernel
theorem d_R_mix_37 : decode prog_9_method_40_code 37 = .ok (.iaload, 1) := by decide +kernel
theorem d_R_mix_38 : decode prog_9_method_40_code 38 = .ok (.ireturn, 1) := by decide +kernel
theorem d_R_balance_0 : decode prog_9_method_41_code 0 = .ok (.iload_n 1, 1) := by decide +kernel
theorem d_R_balance_1 : decode prog_9_method_41_code 1 = .ok (.ifCond .lt 9, 3) := by decide +kernel
theorem d_R_balance_4 : decode prog_9_method_41_code 4 = .ok (.iload_n 1, 1) := by decide +kernel
theorem d_R_balance_5 : decode prog_9_method_41_code 5 = .ok (.bipush 7, 2) := by decide +kernel
theorem d_R_balance_7 : decode prog_9_method_41_code 7 = .ok (.if_icmp .le 9, 3) := by decide +kernel
theorem d_R_balance_10 : decode prog_9_method_41_code 10 = .ok (.ldc2_w 194, 3) := by decide +kernel
theorem d_R_balance_13 : decode prog_9_method_41_code 13 = .ok (.goto 9, 3) := by decide +kernel
theorem d_R_balance_16 : decode prog_9_method_41_code 16 = .ok (.aload_n 0, 1) := by decide +kernel
theorem d_R_balance_17 : decode prog_9_method_41_code 17 = .ok (.getfield 7, 3) := by decide +kernel
theorem d_R_balance_20 : decode prog_9_method_41_code 20 = .ok (.iload_n 1, 1) := by decide +kernel
theorem d_R_balance_21 : decode prog_9_method_41_code 21 = .ok (.laload, 1) := by decide +kernel
theorem d_R_balance_22 : decode prog_9_method_41_code 22 = .ok (.lreturn, 1) := by decide +kernel
theorem d_R_ofCard_0 : decode prog_9_method_42_code 0 = .ok (.iload_n 1, 1) := by decide +kernel
theorem d_R_ofCard_1 : decode prog_9_method_42_code 1 = .ok (.ifCond .lt 9, 3) := by decide +kernel
theorem d_R_ofCard_4 : decode prog_9_method_42_code 4 = .ok (.iload_n 1, 1) := by decide +kernel
theorem d_R_ofCard_5 : decode prog_9_method_42_code 5 = .ok (.bipush 15, 2) := by decide +kernel
theorem d_R_ofCard_7 : decode prog_9_method_42_code 7 = .ok (.if_icmp .le 5, 3) := by decide +kernel
theorem d_R_ofCard_10 : decode prog_9_method_42_code 10 = .ok (.iconst (-1), 1) := by decide +kernel
theorem d_R_ofCard_11 : decode prog_9_method_42_code 11 = .ok (.ireturn, 1) := by decide +kernel
theorem d_R_ofCard_12 : decode prog_9_method_42_code 12 = .ok (.iload_n 2, 1) := by decide +kernel
theorem d_R_ofCard_13 : decode prog_9_method_42_code 13 = .ok (.ifCond .ne 12, 3) := by decide +kernel
theorem d_R_ofCard_16 : decode prog_9_method_42_code 16 = .ok (.aload_n 0, 1) := by decide +kernel
theorem d_R_ofCard_17 : decode prog_9_method_42_code 17 = .ok (.getfield 20, 3) := by decide +kernel
theorem d_R_ofCard_20 : decode prog_9_method_42_code 20 = .ok (.iload_n 1, 1) := by decide +kernel
theorem d_R_ofCard_21 : decode prog_9_method_42_code 21 = .ok (.iaload, 1) := by decide +kernel
theorem d_R_ofCard_22 : decode prog_9_method_42_code 22 = .ok (.goto 40, 3) := by decide +kernel
theorem d_R_ofCard_25 : decode prog_9_method_42_code 25 = .ok (.iload_n 2, 1) := by decide +kernel
theorem d_R_ofCard_26 : decode prog_9_method_42_code 26 = .ok (.iconst 1, 1) := by decide +kernel
theorem d_R_ofCard_27 : decode prog_9_method_42_code 27 = .ok (.if_icmp .ne 20, 3) := by decide +kernel
theorem d_R_ofCard_30 : decode prog_9_method_42_code 30 = .ok (.aload_n 0, 1) := by decide +kernel
theorem d_R_ofCard_31 : decode prog_9_method_42_code 31 = .ok (.getfield 54, 3) := by decide +kernel
theorem d_R_ofCard_34 : decode prog_9_method_42_code 34 = .ok (.iload_n 1, 1) := by decide +kernel
theorem d_R_ofCard_35 : decode prog_9_method_42_code 35 = .ok (.baload, 1) := by decide +kernel
theorem d_R_ofCard_36 : decode prog_9_method_42_code 36 = .ok (.ifCond .eq 7, 3) := by decide +kernel
theorem d_R_ofCard_39 : decode prog_9_method_42_code 39 = .ok (.iconst 1, 1) := by decide +kernel
theorem d_R_ofCard_40 : decode prog_9_method_42_code 40 = .ok (.goto 22, 3) := by decide +kernel
theorem d_R_ofCard_43 : decode prog_9_method_42_code 43 = .ok (.iconst 0, 1) := by decide +kernel
theorem d_R_ofCard_44 : decode prog_9_method_42_code 44 = .ok (.goto 18, 3) := by decide +kernel
theorem d_R_ofCard_47 : decode prog_9_method_42_code 47 = .ok (.iload_n 2, 1) := by decide +kernel
theorem d_R_ofCard_48 : decode prog_9_method_42_code 48 = .ok (.iconst 2, 1) := by decide +kernel
theorem d_R_ofCard_49 : decode prog_9_method_42_code 49 = .ok (.if_icmp .ne 12, 3) := by decide +kernel
theorem d_R_ofCard_52 : decode prog_9_method_42_code 52 = .ok (.aload_n 0, 1) := by decide +kernel
theorem d_R_ofCard_53 : decode prog_9_method_42_code 53 = .ok (.getfield 13, 3) := by decide +kernel
theorem d_R_ofCard_56 : decode prog_9_method_42_code 56 = .ok (.iload_n 1, 1) := by decide +kernel
theorem d_R_ofCard_57 : decode prog_9_method_42_code 57 = .ok (.iaload, 1) := by decide +kernel
theorem d_R_ofCard_58 : decode prog_9_method_42_code 58 = .ok (.goto 4, 3) := by decide +kernel
theorem d_R_ofCard_61 : decode prog_9_method_42_code 61 = .ok (.iconst (-1), 1) := by decide +kernel
theorem d_R_ofCard_62 : decode prog_9_method_42_code 62 = .ok (.ireturn, 1) := by decide +kernel
theorem d_R_recordOf_0 : decode prog_9_method_43_code 0 = .ok (.iload_n 1, 1) := by decide +kernel
theorem d_R_recordOf_1 : decode prog_9_method_43_code 1 = .ok (.ifCond .lt 20, 3) := by decide +kernel
theorem d_R_recordOf_4 : decode prog_9_method_43_code 4 = .ok (.iload_n 1, 1) := by decide +kernel
theorem d_R_recordOf_5 : decode prog_9_method_43_code 5 = .ok (.aload_n 0, 1) := by decide +kernel
theorem d_R_recordOf_6 : decode prog_9_method_43_code 6 = .ok (.getfield 139, 3) := by decide +kernel
theorem d_R_recordOf_9 : decode prog_9_method_43_code 9 = .ok (.if_icmp .ge 12, 3) := by decide +kernel
theorem d_R_recordOf_12 : decode prog_9_method_43_code 12 = .ok (.iload_n 2, 1) := by decide +kernel
theorem d_R_recordOf_13 : decode prog_9_method_43_code 13 = .ok (.ifCond .lt 8, 3) := by decide +kernel
theorem d_R_recordOf_16 : decode prog_9_method_43_code 16 = .ok (.iload_n 2, 1) := by decide +kernel
theorem d_R_recordOf_17 : decode prog_9_method_43_code 17 = .ok (.iconst 3, 1) := by decide +kernel
theorem d_R_recordOf_18 : decode prog_9_method_43_code 18 = .ok (.if_icmp .le 7, 3) := by decide +kernel
theorem d_R_recordOf_21 : decode prog_9_method_43_code 21 = .ok (.iconst (-1), 1) := by decide +kernel
theorem d_R_recordOf_22 : decode prog_9_method_43_code 22 = .ok (.goto 13, 3) := by decide +kernel
theorem d_R_recordOf_25 : decode prog_9_method_43_code 25 = .ok (.aload_n 0, 1) := by decide +kernel
theorem d_R_recordOf_26 : decode prog_9_method_43_code 26 = .ok (.getfield 57, 3) := by decide +kernel
theorem d_R_recordOf_29 : decode prog_9_method_43_code 29 = .ok (.iconst 5, 1) := by decide +kernel
theorem d_R_recordOf_30 : decode prog_9_method_43_code 30 = .ok (.iload_n 1, 1) := by decide +kernel
theorem d_R_recordOf_31 : decode prog_9_method_43_code 31 = .ok (.imul, 1) := by decide +kernel
theorem d_R_recordOf_32 : decode prog_9_method_43_code 32 = .ok (.iload_n 2, 1) := by decide +kernel
theorem d_R_recordOf_33 : decode prog_9_method_43_code 33 = .ok (.iadd, 1) := by decide +kernel
theorem d_R_recordOf_34 : decode prog_9_method_43_code 34 = .ok (.iaload, 1) := by decide +kernel
theorem d_R_recordOf_35 : decode prog_9_method_43_code 35 = .ok (.ireturn, 1) := by decide +kernel
theorem d_R_count_0 : decode prog_9_method_44_code 0 = .ok (.iload_n 1, 1) := by decide +kernel
theorem d_R_count_1 : decode prog_9_method_44_code 1 = .ok (.tableswitch 143 0 10 #[59, 72, 91, 97, 103, 109, 115, 121, 127, 133, 138], 59) := by decide +kernel
theorem d_R_count_60 : decode prog_9_method_44_code 60 = .ok (.aload_n 0, 1) := by decide +kernel
theorem d_R_count_61 : decode prog_9_method_44_code 61 = .ok (.getfield 64, 3) := by decide +kernel
theorem d_R_count_64 : decode prog_9_method_44_code 64 = .ok (.ifCond .eq 7, 3) := by decide +kernel
theorem d_R_count_67 : decode prog_9_method_44_code 67 = .ok (.lconst 1, 1) := by decide +kernel
theorem d_R_count_68 : decode prog_9_method_44_code 68 = .ok (.goto 4, 3) := by decide +kernel
theorem d_R_count_71 : decode prog_9_method_44_code 71 = .ok (.lconst 0, 1) := by decide +kernel
theorem d_R_count_72 : decode prog_9_method_44_code 72 = .ok (.lreturn, 1) := by decide +kernel
theorem d_R_count_73 : decode prog_9_method_44_code 73 = .ok (.aload_n 0, 1) := by decide +kernel
theorem d_R_count_74 : decode prog_9_method_44_code 74 = .ok (.getfield 64, 3) := by decide +kernel
theorem d_R_count_77 : decode prog_9_method_44_code 77 = .ok (.ifCond .eq 11, 3) := by decide +kernel
theorem d_R_count_80 : decode prog_9_method_44_code 80 = .ok (.aload_n 0, 1) := by decide +kernel
theorem d_R_count_81 : decode prog_9_method_44_code 81 = .ok (.getfield 168, 3) := by decide +kernel
theorem d_R_count_84 : decode prog_9_method_44_code 84 = .ok (.i2l, 1) := by decide +kernel
theorem d_R_count_85 : decode prog_9_method_44_code 85 = .ok (.goto 6, 3) := by decide +kernel
theorem d_R_count_88 : decode prog_9_method_44_code 88 = .ok (.ldc2_w 194, 3) := by decide +kernel
theorem d_R_count_91 : decode prog_9_method_44_code 91 = .ok (.lreturn, 1) := by decide +kernel
theorem d_R_count_92 : decode prog_9_method_44_code 92 = .ok (.aload_n 0, 1) := by decide +kernel
theorem d_R_count_93 : decode prog_9_method_44_code 93 = .ok (.getfield 71, 3) := by decide +kernel
theorem d_R_count_96 : decode prog_9_method_44_code 96 = .ok (.i2l, 1) := by decide +kernel
theorem d_R_count_97 : decode prog_9_method_44_code 97 = .ok (.lreturn, 1) := by decide +kernel
theorem d_R_count_98 : decode prog_9_method_44_code 98 = .ok (.aload_n 0, 1) := by decide +kernel
theorem d_R_count_99 : decode prog_9_method_44_code 99 = .ok (.getfield 139, 3) := by decide +kernel
theorem d_R_count_102 : decode prog_9_method_44_code 102 = .ok (.i2l, 1) := by decide +kernel
theorem d_R_count_103 : decode prog_9_method_44_code 103 = .ok (.lreturn, 1) := by decide +kernel
theorem d_R_count_104 : decode prog_9_method_44_code 104 = .ok (.aload_n 0, 1) := by decide +kernel
theorem d_R_count_105 : decode prog_9_method_44_code 105 = .ok (.getfield 60, 3) := by decide +kernel
theorem d_R_count_108 : decode prog_9_method_44_code 108 = .ok (.i2l, 1) := by decide +kernel
theorem d_R_count_109 : decode prog_9_method_44_code 109 = .ok (.lreturn, 1) := by decide +kernel
theorem d_R_count_110 : decode prog_9_method_44_code 110 = .ok (.aload_n 0, 1) := by decide +kernel
theorem d_R_count_111 : decode prog_9_method_44_code 111 = .ok (.getfield 151, 3) := by decide +kernel
theorem d_R_count_114 : decode prog_9_method_44_code 114 = .ok (.i2l, 1) := by decide +kernel
theorem d_R_count_115 : decode prog_9_method_44_code 115 = .ok (.lreturn, 1) := by decide +kernel
theorem d_R_count_116 : decode prog_9_method_44_code 116 = .ok (.aload_n 0, 1) := by decide +kernel
theorem d_R_count_117 : decode prog_9_method_44_code 117 = .ok (.getfield 89, 3) := by decide +kernel
theorem d_R_count_120 : decode prog_9_method_44_code 120 = .ok (.i2l, 1) := by decide +kernel
theorem d_R_count_121 : decode prog_9_method_44_code 121 = .ok (.lreturn, 1) := by decide +kernel
theorem d_R_count_122 : decode prog_9_method_44_code 122 = .ok (.aload_n 0, 1) := by decide +kernel
theorem d_R_count_123 : decode prog_9_method_44_code 123 = .ok (.getfield 110, 3) := by decide +kernel
theorem d_R_count_126 : decode prog_9_method_44_code 126 = .ok (.i2l, 1) := by decide +kernel
theorem d_R_count_127 : decode prog_9_method_44_code 127 = .ok (.lreturn, 1) := by decide +kernel
theorem d_R_count_128 : decode prog_9_method_44_code 128 = .ok (.aload_n 0, 1) := by decide +kernel
theorem d_R_count_129 : decode prog_9_method_44_code 129 = .ok (.getfield 96, 3) := by decide +kernel
theorem d_R_count_132 : decode prog_9_method_44_code 132 = .ok (.i2l, 1) := by decide +kernel
theorem d_R_count_133 : decode prog_9_method_44_code 133 = .ok (.lreturn, 1) := by decide +kernel
theorem d_R_count_134 : decode prog_9_method_44_code 134 = .ok (.aload_n 0, 1) := by decide +kernel
theorem d_R_count_135 : decode prog_9_method_44_code 135 = .ok (.getfield 132, 3) := by decide +kernel
theorem d_R_count_138 : decode prog_9_method_44_code 138 = .ok (.lreturn, 1) := by decide +kernel
theorem d_R_count_139 : decode prog_9_method_44_code 139 = .ok (.aload_n 0, 1) := by decide +kernel
theorem d_R_count_140 : decode prog_9_method_44_code 140 = .ok (.getfield 180, 3) := by decide +kernel
theorem d_R_count_143 : decode prog_9_method_44_code 143 = .ok (.lreturn, 1) := by decide +kernel
theorem d_R_count_144 : decode prog_9_method_44_code 144 = .ok (.ldc2_w 194, 3) := by decide +kernel
theorem d_R_count_147 : decode prog_9_method_44_code 147 = .ok (.lreturn, 1) := by decide +kernel
