theorem d_Model_init_0 : decode prog_9_method_1_code 0 = .ok (.aload_n 0, 1) := by decide +kernel
theorem d_Model_init_1 : decode prog_9_method_1_code 1 = .ok (.invokespecial 1, 3) := by decide +kernel
theorem d_Model_init_4 : decode prog_9_method_1_code 4 = .ok (.aload_n 0, 1) := by decide +kernel
theorem d_Model_init_5 : decode prog_9_method_1_code 5 = .ok (.sipush 361, 3) := by decide +kernel
theorem d_Model_init_8 : decode prog_9_method_1_code 8 = .ok (.newarray .int, 2) := by decide +kernel
theorem d_Model_init_10 : decode prog_9_method_1_code 10 = .ok (.putfield 7, 3) := by decide +kernel
theorem d_Model_init_13 : decode prog_9_method_1_code 13 = .ok (.aload_n 0, 1) := by decide +kernel
theorem d_Model_init_14 : decode prog_9_method_1_code 14 = .ok (.sipush 361, 3) := by decide +kernel
theorem d_Model_init_17 : decode prog_9_method_1_code 17 = .ok (.newarray .int, 2) := by decide +kernel
theorem d_Model_init_19 : decode prog_9_method_1_code 19 = .ok (.putfield 13, 3) := by decide +kernel
theorem d_Model_init_22 : decode prog_9_method_1_code 22 = .ok (.aload_n 0, 1) := by decide +kernel
theorem d_Model_init_23 : decode prog_9_method_1_code 23 = .ok (.sipush 361, 3) := by decide +kernel
theorem d_Model_init_26 : decode prog_9_method_1_code 26 = .ok (.newarray .int, 2) := by decide +kernel
theorem d_Model_init_28 : decode prog_9_method_1_code 28 = .ok (.putfield 16, 3) := by decide +kernel
theorem d_Model_init_31 : decode prog_9_method_1_code 31 = .ok (.aload_n 0, 1) := by decide +kernel
theorem d_Model_init_32 : decode prog_9_method_1_code 32 = .ok (.sipush 361, 3) := by decide +kernel
theorem d_Model_init_35 : decode prog_9_method_1_code 35 = .ok (.newarray .int, 2) := by decide +kernel
theorem d_Model_init_37 : decode prog_9_method_1_code 37 = .ok (.putfield 19, 3) := by decide +kernel
theorem d_Model_init_40 : decode prog_9_method_1_code 40 = .ok (.aload_n 0, 1) := by decide +kernel
theorem d_Model_init_41 : decode prog_9_method_1_code 41 = .ok (.sipush 361, 3) := by decide +kernel
theorem d_Model_init_44 : decode prog_9_method_1_code 44 = .ok (.newarray .int, 2) := by decide +kernel
theorem d_Model_init_46 : decode prog_9_method_1_code 46 = .ok (.putfield 22, 3) := by decide +kernel
theorem d_Model_init_49 : decode prog_9_method_1_code 49 = .ok (.aload_n 0, 1) := by decide +kernel
theorem d_Model_init_50 : decode prog_9_method_1_code 50 = .ok (.sipush 1444, 3) := by decide +kernel
theorem d_Model_init_53 : decode prog_9_method_1_code 53 = .ok (.newarray .int, 2) := by decide +kernel
theorem d_Model_init_55 : decode prog_9_method_1_code 55 = .ok (.putfield 25, 3) := by decide +kernel
theorem d_Model_init_58 : decode prog_9_method_1_code 58 = .ok (.aload_n 0, 1) := by decide +kernel
theorem d_Model_init_59 : decode prog_9_method_1_code 59 = .ok (.sipush 1444, 3) := by decide +kernel
theorem d_Model_init_62 : decode prog_9_method_1_code 62 = .ok (.newarray .int, 2) := by decide +kernel
theorem d_Model_init_64 : decode prog_9_method_1_code 64 = .ok (.putfield 28, 3) := by decide +kernel
theorem d_Model_init_67 : decode prog_9_method_1_code 67 = .ok (.aload_n 0, 1) := by decide +kernel
theorem d_Model_init_68 : decode prog_9_method_1_code 68 = .ok (.bipush 6, 2) := by decide +kernel
theorem d_Model_init_70 : decode prog_9_method_1_code 70 = .ok (.newarray .boolean, 2) := by decide +kernel
theorem d_Model_init_72 : decode prog_9_method_1_code 72 = .ok (.putfield 31, 3) := by decide +kernel
theorem d_Model_init_75 : decode prog_9_method_1_code 75 = .ok (.aload_n 0, 1) := by decide +kernel
theorem d_Model_init_76 : decode prog_9_method_1_code 76 = .ok (.bipush 6, 2) := by decide +kernel
theorem d_Model_init_78 : decode prog_9_method_1_code 78 = .ok (.newarray .int, 2) := by decide +kernel
theorem d_Model_init_80 : decode prog_9_method_1_code 80 = .ok (.putfield 35, 3) := by decide +kernel
theorem d_Model_init_83 : decode prog_9_method_1_code 83 = .ok (.aload_n 0, 1) := by decide +kernel
theorem d_Model_init_84 : decode prog_9_method_1_code 84 = .ok (.iconst 1, 1) := by decide +kernel
theorem d_Model_init_85 : decode prog_9_method_1_code 85 = .ok (.putfield 38, 3) := by decide +kernel
theorem d_Model_init_88 : decode prog_9_method_1_code 88 = .ok (.aload_n 0, 1) := by decide +kernel
theorem d_Model_init_89 : decode prog_9_method_1_code 89 = .ok (.iconst 2, 1) := by decide +kernel
theorem d_Model_init_90 : decode prog_9_method_1_code 90 = .ok (.newarray .int, 2) := by decide +kernel
theorem d_Model_init_92 : decode prog_9_method_1_code 92 = .ok (.putfield 42, 3) := by decide +kernel
theorem d_Model_init_95 : decode prog_9_method_1_code 95 = .ok (.aload_n 0, 1) := by decide +kernel
theorem d_Model_init_96 : decode prog_9_method_1_code 96 = .ok (.iconst 1, 1) := by decide +kernel
theorem d_Model_init_97 : decode prog_9_method_1_code 97 = .ok (.putfield 45, 3) := by decide +kernel
theorem d_Model_init_100 : decode prog_9_method_1_code 100 = .ok (.aload_n 0, 1) := by decide +kernel
theorem d_Model_init_101 : decode prog_9_method_1_code 101 = .ok (.iconst 4, 1) := by decide +kernel
theorem d_Model_init_102 : decode prog_9_method_1_code 102 = .ok (.newarray .int, 2) := by decide +kernel
theorem d_Model_init_104 : decode prog_9_method_1_code 104 = .ok (.putfield 48, 3) := by decide +kernel
theorem d_Model_init_107 : decode prog_9_method_1_code 107 = .ok (.aload_n 0, 1) := by decide +kernel
theorem d_Model_init_108 : decode prog_9_method_1_code 108 = .ok (.bipush 8, 2) := by decide +kernel
theorem d_Model_init_110 : decode prog_9_method_1_code 110 = .ok (.newarray .int, 2) := by decide +kernel
theorem d_Model_init_112 : decode prog_9_method_1_code 112 = .ok (.putfield 51, 3) := by decide +kernel
theorem d_Model_init_115 : decode prog_9_method_1_code 115 = .ok (.aload_n 0, 1) := by decide +kernel
theorem d_Model_init_116 : decode prog_9_method_1_code 116 = .ok (.iconst 4, 1) := by decide +kernel
theorem d_Model_init_117 : decode prog_9_method_1_code 117 = .ok (.newarray .int, 2) := by decide +kernel
theorem d_Model_init_119 : decode prog_9_method_1_code 119 = .ok (.putfield 54, 3) := by decide +kernel
theorem d_Model_init_122 : decode prog_9_method_1_code 122 = .ok (.aload_n 0, 1) := by decide +kernel
theorem d_Model_init_123 : decode prog_9_method_1_code 123 = .ok (.bipush 16, 2) := by decide +kernel
theorem d_Model_init_125 : decode prog_9_method_1_code 125 = .ok (.newarray .int, 2) := by decide +kernel
theorem d_Model_init_127 : decode prog_9_method_1_code 127 = .ok (.putfield 57, 3) := by decide +kernel
theorem d_Model_init_130 : decode prog_9_method_1_code 130 = .ok (.aload_n 0, 1) := by decide +kernel
theorem d_Model_init_131 : decode prog_9_method_1_code 131 = .ok (.bipush 16, 2) := by decide +kernel
theorem d_Model_init_133 : decode prog_9_method_1_code 133 = .ok (.newarray .int, 2) := by decide +kernel
theorem d_Model_init_135 : decode prog_9_method_1_code 135 = .ok (.putfield 60, 3) := by decide +kernel
theorem d_Model_init_138 : decode prog_9_method_1_code 138 = .ok (.aload_n 0, 1) := by decide +kernel
theorem d_Model_init_139 : decode prog_9_method_1_code 139 = .ok (.iconst 4, 1) := by decide +kernel
theorem d_Model_init_140 : decode prog_9_method_1_code 140 = .ok (.newarray .boolean, 2) := by decide +kernel
theorem d_Model_init_142 : decode prog_9_method_1_code 142 = .ok (.putfield 63, 3) := by decide +kernel
theorem d_Model_init_145 : decode prog_9_method_1_code 145 = .ok (.aload_n 0, 1) := by decide +kernel
theorem d_Model_init_146 : decode prog_9_method_1_code 146 = .ok (.iconst 4, 1) := by decide +kernel
theorem d_Model_init_147 : decode prog_9_method_1_code 147 = .ok (.newarray .int, 2) := by decide +kernel
theorem d_Model_init_149 : decode prog_9_method_1_code 149 = .ok (.putfield 66, 3) := by decide +kernel
theorem d_Model_init_152 : decode prog_9_method_1_code 152 = .ok (.aload_n 0, 1) := by decide +kernel
theorem d_Model_init_153 : decode prog_9_method_1_code 153 = .ok (.bipush 16, 2) := by decide +kernel
theorem d_Model_init_155 : decode prog_9_method_1_code 155 = .ok (.newarray .int, 2) := by decide +kernel
theorem d_Model_init_157 : decode prog_9_method_1_code 157 = .ok (.putfield 69, 3) := by decide +kernel
theorem d_Model_init_160 : decode prog_9_method_1_code 160 = .ok (.aload_n 0, 1) := by decide +kernel
theorem d_Model_init_161 : decode prog_9_method_1_code 161 = .ok (.iconst 4, 1) := by decide +kernel
theorem d_Model_init_162 : decode prog_9_method_1_code 162 = .ok (.newarray .int, 2) := by decide +kernel
theorem d_Model_init_164 : decode prog_9_method_1_code 164 = .ok (.putfield 72, 3) := by decide +kernel
theorem d_Model_init_167 : decode prog_9_method_1_code 167 = .ok (.aload_n 0, 1) := by decide +kernel
theorem d_Model_init_168 : decode prog_9_method_1_code 168 = .ok (.bipush 16, 2) := by decide +kernel
theorem d_Model_init_170 : decode prog_9_method_1_code 170 = .ok (.newarray .int, 2) := by decide +kernel
theorem d_Model_init_172 : decode prog_9_method_1_code 172 = .ok (.putfield 75, 3) := by decide +kernel
theorem d_Model_init_175 : decode prog_9_method_1_code 175 = .ok (.aload_n 0, 1) := by decide +kernel
theorem d_Model_init_176 : decode prog_9_method_1_code 176 = .ok (.getfield 42, 3) := by decide +kernel
theorem d_Model_init_179 : decode prog_9_method_1_code 179 = .ok (.iconst 0, 1) := by decide +kernel
theorem d_Model_init_180 : decode prog_9_method_1_code 180 = .ok (.bipush 12, 2) := by decide +kernel
theorem d_Model_init_182 : decode prog_9_method_1_code 182 = .ok (.iastore, 1) := by decide +kernel
theorem d_Model_init_183 : decode prog_9_method_1_code 183 = .ok (.aload_n 0, 1) := by decide +kernel
theorem d_Model_init_184 : decode prog_9_method_1_code 184 = .ok (.getfield 42, 3) := by decide +kernel
theorem d_Model_init_187 : decode prog_9_method_1_code 187 = .ok (.iconst 1, 1) := by decide +kernel
theorem d_Model_init_188 : decode prog_9_method_1_code 188 = .ok (.bipush 34, 2) := by decide +kernel
theorem d_Model_init_190 : decode prog_9_method_1_code 190 = .ok (.iastore, 1) := by decide +kernel
theorem d_Model_init_191 : decode prog_9_method_1_code 191 = .ok (.iconst 0, 1) := by decide +kernel
theorem d_Model_init_192 : decode prog_9_method_1_code 192 = .ok (.istore_n 1, 1) := by decide +kernel
theorem d_Model_init_193 : decode prog_9_method_1_code 193 = .ok (.iload_n 1, 1) := by decide +kernel
theorem d_Model_init_194 : decode prog_9_method_1_code 194 = .ok (.iconst 4, 1) := by decide +kernel
theorem d_Model_init_195 : decode prog_9_method_1_code 195 = .ok (.if_icmp .ge 14, 3) := by decide +kernel
theorem d_Model_init_198 : decode prog_9_method_1_code 198 = .ok (.aload_n 0, 1) := by decide +kernel
theorem d_Model_init_199 : decode prog_9_method_1_code 199 = .ok (.iload_n 1, 1) := by decide +kernel
theorem d_Model_init_200 : decode prog_9_method_1_code 200 = .ok (.invokevirtual 78, 3) := by decide +kernel
theorem d_Model_init_203 : decode prog_9_method_1_code 203 = .ok (.iinc 1 1, 3) := by decide +kernel
theorem d_Model_init_206 : decode prog_9_method_1_code 206 = .ok (.goto (-13), 3) := by decide +kernel
theorem d_Model_init_209 : decode prog_9_method_1_code 209 = .ok (.return_, 1) := by decide +kernel
theorem d_Model_thrown_0 : decode prog_9_method_2_code 0 = .ok (.aload_n 0, 1) := by decide +kernel
theorem d_Model_thrown_1 : decode prog_9_method_2_code 1 = .ok (.getfield 82, 3) := by decide +kernel
theorem d_Model_thrown_4 : decode prog_9_method_2_code 4 = .ok (.ireturn, 1) := by decide +kernel
theorem d_Model_fail_0 : decode prog_9_method_3_code 0 = .ok (.aload_n 0, 1) := by decide +kernel
theorem d_Model_fail_1 : decode prog_9_method_3_code 1 = .ok (.iload_n 1, 1) := by decide +kernel
theorem d_Model_fail_2 : decode prog_9_method_3_code 2 = .ok (.putfield 82, 3) := by decide +kernel
theorem d_Model_fail_5 : decode prog_9_method_3_code 5 = .ok (.iconst 0, 1) := by decide +kernel
theorem d_Model_fail_6 : decode prog_9_method_3_code 6 = .ok (.ireturn, 1) := by decide +kernel
theorem d_Model_out_0 : decode prog_9_method_4_code 0 = .ok (.iload_n 1, 1) := by decide +kernel
theorem d_Model_out_1 : decode prog_9_method_4_code 1 = .ok (.ifCond .lt 8, 3) := by decide +kernel
theorem d_Model_out_4 : decode prog_9_method_4_code 4 = .ok (.iload_n 1, 1) := by decide +kernel
theorem d_Model_out_5 : decode prog_9_method_4_code 5 = .ok (.iload_n 2, 1) := by decide +kernel
theorem d_Model_out_6 : decode prog_9_method_4_code 6 = .ok (.if_icmp .lt 7, 3) := by decide +kernel
theorem d_Model_out_9 : decode prog_9_method_4_code 9 = .ok (.iconst 1, 1) := by decide +kernel
theorem d_Model_out_10 : decode prog_9_method_4_code 10 = .ok (.goto 4, 3) := by decide +kernel
theorem d_Model_out_13 : decode prog_9_method_4_code 13 = .ok (.iconst 0, 1) := by decide +kernel
theorem d_Model_out_14 : decode prog_9_method_4_code 14 = .ok (.ireturn, 1) := by decide +kernel
theorem d_Model_learnNow_0 : decode prog_9_method_5_code 0 = .ok (.aload_n 0, 1) := by decide +kernel
theorem d_Model_learnNow_1 : decode prog_9_method_5_code 1 = .ok (.getfield 48, 3) := by decide +kernel
theorem d_Model_learnNow_4 : decode prog_9_method_5_code 4 = .ok (.iload_n 1, 1) := by decide +kernel
theorem d_Model_learnNow_5 : decode prog_9_method_5_code 5 = .ok (.aload_n 0, 1) := by decide +kernel
theorem d_Model_learnNow_6 : decode prog_9_method_5_code 6 = .ok (.getfield 38, 3) := by decide +kernel
theorem d_Model_learnNow_9 : decode prog_9_method_5_code 9 = .ok (.iastore, 1) := by decide +kernel
theorem d_Model_learnNow_10 : decode prog_9_method_5_code 10 = .ok (.aload_n 0, 1) := by decide +kernel
theorem d_Model_learnNow_11 : decode prog_9_method_5_code 11 = .ok (.getfield 51, 3) := by decide +kernel
theorem d_Model_learnNow_14 : decode prog_9_method_5_code 14 = .ok (.iconst 2, 1) := by decide +kernel
theorem d_Model_learnNow_15 : decode prog_9_method_5_code 15 = .ok (.iload_n 1, 1) := by decide +kernel
theorem d_Model_learnNow_16 : decode prog_9_method_5_code 16 = .ok (.imul, 1) := by decide +kernel
theorem d_Model_learnNow_17 : decode prog_9_method_5_code 17 = .ok (.aload_n 0, 1) := by decide +kernel
theorem d_Model_learnNow_18 : decode prog_9_method_5_code 18 = .ok (.getfield 42, 3) := by decide +kernel
theorem d_Model_learnNow_21 : decode prog_9_method_5_code 21 = .ok (.iconst 0, 1) := by decide +kernel
theorem d_Model_learnNow_22 : decode prog_9_method_5_code 22 = .ok (.iaload, 1) := by decide +kernel
theorem d_Model_learnNow_23 : decode prog_9_method_5_code 23 = .ok (.iastore, 1) := by decide +kernel
theorem d_Model_learnNow_24 : decode prog_9_method_5_code 24 = .ok (.aload_n 0, 1) := by decide +kernel
theorem d_Model_learnNow_25 : decode prog_9_method_5_code 25 = .ok (.getfield 51, 3) := by decide +kernel
theorem d_Model_learnNow_28 : decode prog_9_method_5_code 28 = .ok (.iconst 2, 1) := by decide +kernel
theorem d_Model_learnNow_29 : decode prog_9_method_5_code 29 = .ok (.iload_n 1, 1) := by decide +kernel
theorem d_Model_learnNow_30 : decode prog_9_method_5_code 30 = .ok (.imul, 1) := by decide +kernel
theorem d_Model_learnNow_31 : decode prog_9_method_5_code 31 = .ok (.iconst 1, 1) := by decide +kernel
theorem d_Model_learnNow_32 : decode prog_9_method_5_code 32 = .ok (.iadd, 1) := by decide +kernel
theorem d_Model_learnNow_33 : decode prog_9_method_5_code 33 = .ok (.aload_n 0, 1) := by decide +kernel
theorem d_Model_learnNow_34 : decode prog_9_method_5_code 34 = .ok (.getfield 42, 3) := by decide +kernel
theorem d_Model_learnNow_37 : decode prog_9_method_5_code 37 = .ok (.iconst 1, 1) := by decide +kernel
theorem d_Model_learnNow_38 : decode prog_9_method_5_code 38 = .ok (.iaload, 1) := by decide +kernel
theorem d_Model_learnNow_39 : decode prog_9_method_5_code 39 = .ok (.iastore, 1) := by decide +kernel
theorem d_Model_learnNow_40 : decode prog_9_method_5_code 40 = .ok (.return_, 1) := by decide +kernel
theorem d_Model_length_0 : decode prog_9_method_6_code 0 = .ok (.iload_n 1, 1) := by decide +kernel
theorem d_Model_length_1 : decode prog_9_method_6_code 1 = .ok (.bipush 99, 2) := by decide +kernel
theorem d_Model_length_3 : decode prog_9_method_6_code 3 = .ok (.if_icmp .le 7, 3) := by decide +kernel
theorem d_Model_length_6 : decode prog_9_method_6_code 6 = .ok (.iconst 3, 1) := by decide +kernel
theorem d_Model_length_7 : decode prog_9_method_6_code 7 = .ok (.goto 14, 3) := by decide +kernel
theorem d_Model_length_10 : decode prog_9_method_6_code 10 = .ok (.iload_n 1, 1) := by decide +kernel
theorem d_Model_length_11 : decode prog_9_method_6_code 11 = .ok (.bipush 9, 2) := by decide +kernel
theorem d_Model_length_13 : decode prog_9_method_6_code 13 = .ok (.if_icmp .le 7, 3) := by decide +kernel
theorem d_Model_length_16 : decode prog_9_method_6_code 16 = .ok (.iconst 2, 1) := by decide +kernel
theorem d_Model_length_17 : decode prog_9_method_6_code 17 = .ok (.goto 4, 3) := by decide +kernel
theorem d_Model_length_20 : decode prog_9_method_6_code 20 = .ok (.iconst 1, 1) := by decide +kernel
theorem d_Model_length_21 : decode prog_9_method_6_code 21 = .ok (.ireturn, 1) := by decide +kernel
theorem d_Model_unit_0 : decode prog_9_method_7_code 0 = .ok (.iload_n 1, 1) := by decide +kernel
theorem d_Model_unit_1 : decode prog_9_method_7_code 1 = .ok (.istore_n 3, 1) := by decide +kernel
theorem d_Model_unit_2 : decode prog_9_method_7_code 2 = .ok (.aload_n 0, 1) := by decide +kernel
theorem d_Model_unit_3 : decode prog_9_method_7_code 3 = .ok (.iload_n 1, 1) := by decide +kernel
theorem d_Model_unit_4 : decode prog_9_method_7_code 4 = .ok (.invokevirtual 85, 3) := by decide +kernel
theorem d_Model_unit_7 : decode prog_9_method_7_code 7 = .ok (.iconst 1, 1) := by decide +kernel
theorem d_Model_unit_8 : decode prog_9_method_7_code 8 = .ok (.isub, 1) := by decide +kernel
theorem d_Model_unit_9 : decode prog_9_method_7_code 9 = .ok (.istore 4, 2) := by decide +kernel
theorem d_Model_unit_11 : decode prog_9_method_7_code 11 = .ok (.iload 4, 2) := by decide +kernel
theorem d_Model_unit_13 : decode prog_9_method_7_code 13 = .ok (.iload_n 2, 1) := by decide +kernel
theorem d_Model_unit_14 : decode prog_9_method_7_code 14 = .ok (.if_icmp .le 14, 3) := by decide +kernel
theorem d_Model_unit_17 : decode prog_9_method_7_code 17 = .ok (.iload_n 3, 1) := by decide +kernel
theorem d_Model_unit_18 : decode prog_9_method_7_code 18 = .ok (.bipush 10, 2) := by decide +kernel
theorem d_Model_unit_20 : decode prog_9_method_7_code 20 = .ok (.idiv, 1) := by decide +kernel
theorem d_Model_unit_21 : decode prog_9_method_7_code 21 = .ok (.istore_n 3, 1) := by decide +kernel
theorem d_Model_unit_22 : decode prog_9_method_7_code 22 = .ok (.iinc 4 (-1), 3) := by decide +kernel
theorem d_Model_unit_25 : decode prog_9_method_7_code 25 = .ok (.goto (-14), 3) := by decide +kernel
theorem d_Model_unit_28 : decode prog_9_method_7_code 28 = .ok (.iload_n 3, 1) := by decide +kernel
theorem d_Model_unit_29 : decode prog_9_method_7_code 29 = .ok (.bipush 10, 2) := by decide +kernel
theorem d_Model_unit_31 : decode prog_9_method_7_code 31 = .ok (.irem, 1) := by decide +kernel
theorem d_Model_unit_32 : decode prog_9_method_7_code 32 = .ok (.iconst 1, 1) := by decide +kernel
theorem d_Model_unit_33 : decode prog_9_method_7_code 33 = .ok (.isub, 1) := by decide +kernel
theorem d_Model_unit_34 : decode prog_9_method_7_code 34 = .ok (.ireturn, 1) := by decide +kernel
theorem d_Model_rowFor_0 : decode prog_9_method_8_code 0 = .ok (.aload_n 0, 1) := by decide +kernel
theorem d_Model_rowFor_1 : decode prog_9_method_8_code 1 = .ok (.getfield 51, 3) := by decide +kernel
theorem d_Model_rowFor_4 : decode prog_9_method_8_code 4 = .ok (.iconst 2, 1) := by decide +kernel
theorem d_Model_rowFor_5 : decode prog_9_method_8_code 5 = .ok (.iload_n 1, 1) := by decide +kernel
theorem d_Model_rowFor_6 : decode prog_9_method_8_code 6 = .ok (.imul, 1) := by decide +kernel
theorem d_Model_rowFor_7 : decode prog_9_method_8_code 7 = .ok (.iload_n 2, 1) := by decide +kernel
theorem d_Model_rowFor_8 : decode prog_9_method_8_code 8 = .ok (.iconst 2, 1) := by decide +kernel
theorem d_Model_rowFor_9 : decode prog_9_method_8_code 9 = .ok (.irem, 1) := by decide +kernel
theorem d_Model_rowFor_10 : decode prog_9_method_8_code 10 = .ok (.iadd, 1) := by decide +kernel
theorem d_Model_rowFor_11 : decode prog_9_method_8_code 11 = .ok (.iaload, 1) := by decide +kernel
theorem d_Model_rowFor_12 : decode prog_9_method_8_code 12 = .ok (.ireturn, 1) := by decide +kernel
theorem d_Model_usable_0 : decode prog_9_method_9_code 0 = .ok (.aload_n 0, 1) := by decide +kernel
theorem d_Model_usable_1 : decode prog_9_method_9_code 1 = .ok (.getfield 31, 3) := by decide +kernel
theorem d_Model_usable_4 : decode prog_9_method_9_code 4 = .ok (.iload_n 2, 1) := by decide +kernel
theorem d_Model_usable_5 : decode prog_9_method_9_code 5 = .ok (.baload, 1) := by decide +kernel
theorem d_Model_usable_6 : decode prog_9_method_9_code 6 = .ok (.ifCond .ne 22, 3) := by decide +kernel
theorem d_Model_usable_9 : decode prog_9_method_9_code 9 = .ok (.aload_n 0, 1) := by decide +kernel
theorem d_Model_usable_10 : decode prog_9_method_9_code 10 = .ok (.getfield 35, 3) := by decide +kernel
theorem d_Model_usable_13 : decode prog_9_method_9_code 13 = .ok (.iload_n 2, 1) := by decide +kernel
theorem d_Model_usable_14 : decode prog_9_method_9_code 14 = .ok (.iaload, 1) := by decide +kernel
theorem d_Model_usable_15 : decode prog_9_method_9_code 15 = .ok (.aload_n 0, 1) := by decide +kernel
theorem d_Model_usable_16 : decode prog_9_method_9_code 16 = .ok (.getfield 48, 3) := by decide +kernel
theorem d_Model_usable_19 : decode prog_9_method_9_code 19 = .ok (.iload_n 1, 1) := by decide +kernel
theorem d_Model_usable_20 : decode prog_9_method_9_code 20 = .ok (.iaload, 1) := by decide +kernel
theorem d_Model_usable_21 : decode prog_9_method_9_code 21 = .ok (.if_icmp .gt 7, 3) := by decide +kernel
theorem d_Model_usable_24 : decode prog_9_method_9_code 24 = .ok (.iconst 1, 1) := by decide +kernel
theorem d_Model_usable_25 : decode prog_9_method_9_code 25 = .ok (.goto 4, 3) := by decide +kernel
theorem d_Model_usable_28 : decode prog_9_method_9_code 28 = .ok (.iconst 0, 1) := by decide +kernel
theorem d_Model_usable_29 : decode prog_9_method_9_code 29 = .ok (.ireturn, 1) := by decide +kernel
theorem d_Model_cell_0 : decode prog_9_method_10_code 0 = .ok (.bipush 60, 2) := by decide +kernel
theorem d_Model_cell_2 : decode prog_9_method_10_code 2 = .ok (.iload_n 1, 1) := by decide +kernel
theorem d_Model_cell_3 : decode prog_9_method_10_code 3 = .ok (.imul, 1) := by decide +kernel
theorem d_Model_cell_4 : decode prog_9_method_10_code 4 = .ok (.iload_n 2, 1) := by decide +kernel
theorem d_Model_cell_5 : decode prog_9_method_10_code 5 = .ok (.iadd, 1) := by decide +kernel
theorem d_Model_cell_6 : decode prog_9_method_10_code 6 = .ok (.ireturn, 1) := by decide +kernel
theorem d_Model_copy_0 : decode prog_9_method_11_code 0 = .ok (.aload_n 0, 1) := by decide +kernel
theorem d_Model_copy_1 : decode prog_9_method_11_code 1 = .ok (.getfield 7, 3) := by decide +kernel
theorem d_Model_copy_4 : decode prog_9_method_11_code 4 = .ok (.iload_n 2, 1) := by decide +kernel
theorem d_Model_copy_5 : decode prog_9_method_11_code 5 = .ok (.aload_n 0, 1) := by decide +kernel
theorem d_Model_copy_6 : decode prog_9_method_11_code 6 = .ok (.getfield 7, 3) := by decide +kernel
theorem d_Model_copy_9 : decode prog_9_method_11_code 9 = .ok (.iload_n 1, 1) := by decide +kernel
theorem d_Model_copy_10 : decode prog_9_method_11_code 10 = .ok (.iaload, 1) := by decide +kernel
theorem d_Model_copy_11 : decode prog_9_method_11_code 11 = .ok (.iastore, 1) := by decide +kernel
theorem d_Model_copy_12 : decode prog_9_method_11_code 12 = .ok (.aload_n 0, 1) := by decide +kernel
theorem d_Model_copy_13 : decode prog_9_method_11_code 13 = .ok (.getfield 13, 3) := by decide +kernel
theorem d_Model_copy_16 : decode prog_9_method_11_code 16 = .ok (.iload_n 2, 1) := by decide +kernel
theorem d_Model_copy_17 : decode prog_9_method_11_code 17 = .ok (.aload_n 0, 1) := by decide +kernel
theorem d_Model_copy_18 : decode prog_9_method_11_code 18 = .ok (.getfield 13, 3) := by decide +kernel
theorem d_Model_copy_21 : decode prog_9_method_11_code 21 = .ok (.iload_n 1, 1) := by decide +kernel
theorem d_Model_copy_22 : decode prog_9_method_11_code 22 = .ok (.iaload, 1) := by decide +kernel
theorem d_Model_copy_23 : decode prog_9_method_11_code 23 = .ok (.iastore, 1) := by decide +kernel
theorem d_Model_copy_24 : decode prog_9_method_11_code 24 = .ok (.aload_n 0, 1) := by decide +kernel
theorem d_Model_copy_25 : decode prog_9_method_11_code 25 = .ok (.getfield 16, 3) := by decide +kernel
theorem d_Model_copy_28 : decode prog_9_method_11_code 28 = .ok (.iload_n 2, 1) := by decide +kernel
theorem d_Model_copy_29 : decode prog_9_method_11_code 29 = .ok (.aload_n 0, 1) := by decide +kernel
theorem d_Model_copy_30 : decode prog_9_method_11_code 30 = .ok (.getfield 16, 3) := by decide +kernel
theorem d_Model_copy_33 : decode prog_9_method_11_code 33 = .ok (.iload_n 1, 1) := by decide +kernel
theorem d_Model_copy_34 : decode prog_9_method_11_code 34 = .ok (.iaload, 1) := by decide +kernel
theorem d_Model_copy_35 : decode prog_9_method_11_code 35 = .ok (.iastore, 1) := by decide +kernel
theorem d_Model_copy_36 : decode prog_9_method_11_code 36 = .ok (.aload_n 0, 1) := by decide +kernel
theorem d_Model_copy_37 : decode prog_9_method_11_code 37 = .ok (.getfield 19, 3) := by decide +kernel
theorem d_Model_copy_40 : decode prog_9_method_11_code 40 = .ok (.iload_n 2, 1) := by decide +kernel
theorem d_Model_copy_41 : decode prog_9_method_11_code 41 = .ok (.aload_n 0, 1) := by decide +kernel
theorem d_Model_copy_42 : decode prog_9_method_11_code 42 = .ok (.getfield 19, 3) := by decide +kernel
theorem d_Model_copy_45 : decode prog_9_method_11_code 45 = .ok (.iload_n 1, 1) := by decide +kernel
theorem d_Model_copy_46 : decode prog_9_method_11_code 46 = .ok (.iaload, 1) := by decide +kernel
theorem d_Model_copy_47 : decode prog_9_method_11_code 47 = .ok (.iastore, 1) := by decide +kernel
theorem d_Model_copy_48 : decode prog_9_method_11_code 48 = .ok (.aload_n 0, 1) := by decide +kernel
theorem d_Model_copy_49 : decode prog_9_method_11_code 49 = .ok (.getfield 22, 3) := by decide +kernel
theorem d_Model_copy_52 : decode prog_9_method_11_code 52 = .ok (.iload_n 2, 1) := by decide +kernel
theorem d_Model_copy_53 : decode prog_9_method_11_code 53 = .ok (.aload_n 0, 1) := by decide +kernel
theorem d_Model_copy_54 : decode prog_9_method_11_code 54 = .ok (.getfield 22, 3) := by decide +kernel
theorem d_Model_copy_57 : decode prog_9_method_11_code 57 = .ok (.iload_n 1, 1) := by decide +kernel
theorem d_Model_copy_58 : decode prog_9_method_11_code 58 = .ok (.iaload, 1) := by decide +kernel
theorem d_Model_copy_59 : decode prog_9_method_11_code 59 = .ok (.iastore, 1) := by decide +kernel
theorem d_Model_copy_60 : decode prog_9_method_11_code 60 = .ok (.iconst 0, 1) := by decide +kernel
theorem d_Model_copy_61 : decode prog_9_method_11_code 61 = .ok (.istore_n 3, 1) := by decide +kernel
theorem d_Model_copy_62 : decode prog_9_method_11_code 62 = .ok (.iload_n 3, 1) := by decide +kernel
theorem d_Model_copy_63 : decode prog_9_method_11_code 63 = .ok (.iconst 4, 1) := by decide +kernel
theorem d_Model_copy_64 : decode prog_9_method_11_code 64 = .ok (.if_icmp .ge 49, 3) := by decide +kernel
theorem d_Model_copy_67 : decode prog_9_method_11_code 67 = .ok (.aload_n 0, 1) := by decide +kernel
theorem d_Model_copy_68 : decode prog_9_method_11_code 68 = .ok (.getfield 25, 3) := by decide +kernel
theorem d_Model_copy_71 : decode prog_9_method_11_code 71 = .ok (.iconst 4, 1) := by decide +kernel
theorem d_Model_copy_72 : decode prog_9_method_11_code 72 = .ok (.iload_n 2, 1) := by decide +kernel
theorem d_Model_copy_73 : decode prog_9_method_11_code 73 = .ok (.imul, 1) := by decide +kernel
theorem d_Model_copy_74 : decode prog_9_method_11_code 74 = .ok (.iload_n 3, 1) := by decide +kernel
theorem d_Model_copy_75 : decode prog_9_method_11_code 75 = .ok (.iadd, 1) := by decide +kernel
theorem d_Model_copy_76 : decode prog_9_method_11_code 76 = .ok (.aload_n 0, 1) := by decide +kernel
theorem d_Model_copy_77 : decode prog_9_method_11_code 77 = .ok (.getfield 25, 3) := by decide +kernel
theorem d_Model_copy_80 : decode prog_9_method_11_code 80 = .ok (.iconst 4, 1) := by decide +kernel
theorem d_Model_copy_81 : decode prog_9_method_11_code 81 = .ok (.iload_n 1, 1) := by decide +kernel
theorem d_Model_copy_82 : decode prog_9_method_11_code 82 = .ok (.imul, 1) := by decide +kernel
theorem d_Model_copy_83 : decode prog_9_method_11_code 83 = .ok (.iload_n 3, 1) := by decide +kernel
theorem d_Model_copy_84 : decode prog_9_method_11_code 84 = .ok (.iadd, 1) := by decide +kernel
theorem d_Model_copy_85 : decode prog_9_method_11_code 85 = .ok (.iaload, 1) := by decide +kernel
theorem d_Model_copy_86 : decode prog_9_method_11_code 86 = .ok (.iastore, 1) := by decide +kernel
theorem d_Model_copy_87 : decode prog_9_method_11_code 87 = .ok (.aload_n 0, 1) := by decide +kernel
theorem d_Model_copy_88 : decode prog_9_method_11_code 88 = .ok (.getfield 28, 3) := by decide +kernel
theorem d_Model_copy_91 : decode prog_9_method_11_code 91 = .ok (.iconst 4, 1) := by decide +kernel
theorem d_Model_copy_92 : decode prog_9_method_11_code 92 = .ok (.iload_n 2, 1) := by decide +kernel
theorem d_Model_copy_93 : decode prog_9_method_11_code 93 = .ok (.imul, 1) := by decide +kernel
theorem d_Model_copy_94 : decode prog_9_method_11_code 94 = .ok (.iload_n 3, 1) := by decide +kernel
theorem d_Model_copy_95 : decode prog_9_method_11_code 95 = .ok (.iadd, 1) := by decide +kernel
theorem d_Model_copy_96 : decode prog_9_method_11_code 96 = .ok (.aload_n 0, 1) := by decide +kernel
theorem d_Model_copy_97 : decode prog_9_method_11_code 97 = .ok (.getfield 28, 3) := by decide +kernel
theorem d_Model_copy_100 : decode prog_9_method_11_code 100 = .ok (.iconst 4, 1) := by decide +kernel
theorem d_Model_copy_101 : decode prog_9_method_11_code 101 = .ok (.iload_n 1, 1) := by decide +kernel
theorem d_Model_copy_102 : decode prog_9_method_11_code 102 = .ok (.imul, 1) := by decide +kernel
theorem d_Model_copy_103 : decode prog_9_method_11_code 103 = .ok (.iload_n 3, 1) := by decide +kernel
theorem d_Model_copy_104 : decode prog_9_method_11_code 104 = .ok (.iadd, 1) := by decide +kernel
theorem d_Model_copy_105 : decode prog_9_method_11_code 105 = .ok (.iaload, 1) := by decide +kernel
theorem d_Model_copy_106 : decode prog_9_method_11_code 106 = .ok (.iastore, 1) := by decide +kernel
theorem d_Model_copy_107 : decode prog_9_method_11_code 107 = .ok (.iinc 3 1, 3) := by decide +kernel
theorem d_Model_copy_110 : decode prog_9_method_11_code 110 = .ok (.goto (-48), 3) := by decide +kernel
theorem d_Model_copy_113 : decode prog_9_method_11_code 113 = .ok (.return_, 1) := by decide +kernel
theorem d_Model_ones_0 : decode prog_9_method_12_code 0 = .ok (.iconst 0, 1) := by decide +kernel
theorem d_Model_ones_1 : decode prog_9_method_12_code 1 = .ok (.istore_n 2, 1) := by decide +kernel
theorem d_Model_ones_2 : decode prog_9_method_12_code 2 = .ok (.iconst 0, 1) := by decide +kernel
theorem d_Model_ones_3 : decode prog_9_method_12_code 3 = .ok (.istore_n 3, 1) := by decide +kernel
theorem d_Model_ones_4 : decode prog_9_method_12_code 4 = .ok (.iload_n 3, 1) := by decide +kernel
theorem d_Model_ones_5 : decode prog_9_method_12_code 5 = .ok (.iconst 4, 1) := by decide +kernel
theorem d_Model_ones_6 : decode prog_9_method_12_code 6 = .ok (.if_icmp .ge 17, 3) := by decide +kernel
theorem d_Model_ones_9 : decode prog_9_method_12_code 9 = .ok (.iload_n 2, 1) := by decide +kernel
theorem d_Model_ones_10 : decode prog_9_method_12_code 10 = .ok (.iload_n 1, 1) := by decide +kernel
theorem d_Model_ones_11 : decode prog_9_method_12_code 11 = .ok (.iload_n 3, 1) := by decide +kernel
theorem d_Model_ones_12 : decode prog_9_method_12_code 12 = .ok (.ishr, 1) := by decide +kernel
theorem d_Model_ones_13 : decode prog_9_method_12_code 13 = .ok (.iconst 1, 1) := by decide +kernel
theorem d_Model_ones_14 : decode prog_9_method_12_code 14 = .ok (.iand, 1) := by decide +kernel
theorem d_Model_ones_15 : decode prog_9_method_12_code 15 = .ok (.iadd, 1) := by decide +kernel
theorem d_Model_ones_16 : decode prog_9_method_12_code 16 = .ok (.istore_n 2, 1) := by decide +kernel
theorem d_Model_ones_17 : decode prog_9_method_12_code 17 = .ok (.iinc 3 1, 3) := by decide +kernel
theorem d_Model_ones_20 : decode prog_9_method_12_code 20 = .ok (.goto (-16), 3) := by decide +kernel
theorem d_Model_ones_23 : decode prog_9_method_12_code 23 = .ok (.iload_n 2, 1) := by decide +kernel
theorem d_Model_ones_24 : decode prog_9_method_12_code 24 = .ok (.ireturn, 1) := by decide +kernel
theorem d_Model_write_0 : decode prog_9_method_13_code 0 = .ok (.aload_n 0, 1) := by decide +kernel
theorem d_Model_write_1 : decode prog_9_method_13_code 1 = .ok (.iload_n 1, 1) := by decide +kernel
theorem d_Model_write_2 : decode prog_9_method_13_code 2 = .ok (.iload_n 2, 1) := by decide +kernel
theorem d_Model_write_3 : decode prog_9_method_13_code 3 = .ok (.invokevirtual 89, 3) := by decide +kernel
theorem d_Model_write_6 : decode prog_9_method_13_code 6 = .ok (.istore 4, 2) := by decide +kernel
theorem d_Model_write_8 : decode prog_9_method_13_code 8 = .ok (.iconst 0, 1) := by decide +kernel
theorem d_Model_write_9 : decode prog_9_method_13_code 9 = .ok (.istore 5, 2) := by decide +kernel
theorem d_Model_write_11 : decode prog_9_method_13_code 11 = .ok (.iload 5, 2) := by decide +kernel
theorem d_Model_write_13 : decode prog_9_method_13_code 13 = .ok (.aload_n 0, 1) := by decide +kernel
theorem d_Model_write_14 : decode prog_9_method_13_code 14 = .ok (.iload 4, 2) := by decide +kernel
theorem d_Model_write_16 : decode prog_9_method_13_code 16 = .ok (.invokevirtual 85, 3) := by decide +kernel
theorem d_Model_write_19 : decode prog_9_method_13_code 19 = .ok (.if_icmp .ge 68, 3) := by decide +kernel
theorem d_Model_write_22 : decode prog_9_method_13_code 22 = .ok (.iload 5, 2) := by decide +kernel
theorem d_Model_write_24 : decode prog_9_method_13_code 24 = .ok (.iload_n 3, 1) := by decide +kernel
theorem d_Model_write_25 : decode prog_9_method_13_code 25 = .ok (.if_icmp .ge 62, 3) := by decide +kernel
theorem d_Model_write_28 : decode prog_9_method_13_code 28 = .ok (.aload_n 0, 1) := by decide +kernel
theorem d_Model_write_29 : decode prog_9_method_13_code 29 = .ok (.iload 4, 2) := by decide +kernel
theorem d_Model_write_31 : decode prog_9_method_13_code 31 = .ok (.iload 5, 2) := by decide +kernel
theorem d_Model_write_33 : decode prog_9_method_13_code 33 = .ok (.invokevirtual 93, 3) := by decide +kernel
theorem d_Model_write_36 : decode prog_9_method_13_code 36 = .ok (.istore 6, 2) := by decide +kernel
theorem d_Model_write_38 : decode prog_9_method_13_code 38 = .ok (.aload_n 0, 1) := by decide +kernel
theorem d_Model_write_39 : decode prog_9_method_13_code 39 = .ok (.iload_n 1, 1) := by decide +kernel
theorem d_Model_write_40 : decode prog_9_method_13_code 40 = .ok (.iload 6, 2) := by decide +kernel
theorem d_Model_write_42 : decode prog_9_method_13_code 42 = .ok (.invokevirtual 96, 3) := by decide +kernel
theorem d_Model_write_45 : decode prog_9_method_13_code 45 = .ok (.ifCond .ne 5, 3) := by decide +kernel
theorem d_Model_write_48 : decode prog_9_method_13_code 48 = .ok (.iconst 1, 1) := by decide +kernel
theorem d_Model_write_49 : decode prog_9_method_13_code 49 = .ok (.ireturn, 1) := by decide +kernel
theorem d_Model_write_50 : decode prog_9_method_13_code 50 = .ok (.aload_n 0, 1) := by decide +kernel
theorem d_Model_write_51 : decode prog_9_method_13_code 51 = .ok (.getfield 7, 3) := by decide +kernel
theorem d_Model_write_54 : decode prog_9_method_13_code 54 = .ok (.aload_n 0, 1) := by decide +kernel
theorem d_Model_write_55 : decode prog_9_method_13_code 55 = .ok (.iload 6, 2) := by decide +kernel
theorem d_Model_write_57 : decode prog_9_method_13_code 57 = .ok (.iload_n 2, 1) := by decide +kernel
theorem d_Model_write_58 : decode prog_9_method_13_code 58 = .ok (.invokevirtual 100, 3) := by decide +kernel
theorem d_Model_write_61 : decode prog_9_method_13_code 61 = .ok (.iaload, 1) := by decide +kernel
theorem d_Model_write_62 : decode prog_9_method_13_code 62 = .ok (.ifCond .eq 5, 3) := by decide +kernel
theorem d_Model_write_65 : decode prog_9_method_13_code 65 = .ok (.iconst 2, 1) := by decide +kernel
theorem d_Model_write_66 : decode prog_9_method_13_code 66 = .ok (.ireturn, 1) := by decide +kernel
theorem d_Model_write_67 : decode prog_9_method_13_code 67 = .ok (.aload_n 0, 1) := by decide +kernel
theorem d_Model_write_68 : decode prog_9_method_13_code 68 = .ok (.sipush 360, 3) := by decide +kernel
theorem d_Model_write_71 : decode prog_9_method_13_code 71 = .ok (.aload_n 0, 1) := by decide +kernel
theorem d_Model_write_72 : decode prog_9_method_13_code 72 = .ok (.iload 6, 2) := by decide +kernel
theorem d_Model_write_74 : decode prog_9_method_13_code 74 = .ok (.iload_n 2, 1) := by decide +kernel
theorem d_Model_write_75 : decode prog_9_method_13_code 75 = .ok (.invokevirtual 100, 3) := by decide +kernel
theorem d_Model_write_78 : decode prog_9_method_13_code 78 = .ok (.invokevirtual 103, 3) := by decide +kernel
theorem d_Model_write_81 : decode prog_9_method_13_code 81 = .ok (.iinc 5 1, 3) := by decide +kernel
theorem d_Model_write_84 : decode prog_9_method_13_code 84 = .ok (.goto (-73), 3) := by decide +kernel
theorem d_Model_write_87 : decode prog_9_method_13_code 87 = .ok (.iconst 0, 1) := by decide +kernel
theorem d_Model_write_88 : decode prog_9_method_13_code 88 = .ok (.ireturn, 1) := by decide +kernel
theorem d_Model_noToken_0 : decode prog_9_method_14_code 0 = .ok (.aload_n 0, 1) := by decide +kernel
theorem d_Model_noToken_1 : decode prog_9_method_14_code 1 = .ok (.getfield 107, 3) := by decide +kernel
theorem d_Model_noToken_4 : decode prog_9_method_14_code 4 = .ok (.ifCond .ne 16, 3) := by decide +kernel
theorem d_Model_noToken_7 : decode prog_9_method_14_code 7 = .ok (.aload_n 0, 1) := by decide +kernel
theorem d_Model_noToken_8 : decode prog_9_method_14_code 8 = .ok (.getfield 45, 3) := by decide +kernel
theorem d_Model_noToken_11 : decode prog_9_method_14_code 11 = .ok (.aload_n 0, 1) := by decide +kernel
theorem d_Model_noToken_12 : decode prog_9_method_14_code 12 = .ok (.getfield 48, 3) := by decide +kernel
theorem d_Model_noToken_15 : decode prog_9_method_14_code 15 = .ok (.iload_n 1, 1) := by decide +kernel
theorem d_Model_noToken_16 : decode prog_9_method_14_code 16 = .ok (.iaload, 1) := by decide +kernel
theorem d_Model_noToken_17 : decode prog_9_method_14_code 17 = .ok (.if_icmp .eq 7, 3) := by decide +kernel
theorem d_Model_noToken_20 : decode prog_9_method_14_code 20 = .ok (.iconst 1, 1) := by decide +kernel
theorem d_Model_noToken_21 : decode prog_9_method_14_code 21 = .ok (.goto 4, 3) := by decide +kernel
theorem d_Model_noToken_24 : decode prog_9_method_14_code 24 = .ok (.iconst 0, 1) := by decide +kernel
theorem d_Model_noToken_25 : decode prog_9_method_14_code 25 = .ok (.ireturn, 1) := by decide +kernel
theorem d_Model_append_0 : decode prog_9_method_15_code 0 = .ok (.aload_n 0, 1) := by decide +kernel
theorem d_Model_append_1 : decode prog_9_method_15_code 1 = .ok (.iconst 0, 1) := by decide +kernel
theorem d_Model_append_2 : decode prog_9_method_15_code 2 = .ok (.putfield 82, 3) := by decide +kernel
theorem d_Model_append_5 : decode prog_9_method_15_code 5 = .ok (.aload_n 0, 1) := by decide +kernel
theorem d_Model_append_6 : decode prog_9_method_15_code 6 = .ok (.iload_n 1, 1) := by decide +kernel
theorem d_Model_append_7 : decode prog_9_method_15_code 7 = .ok (.iconst 4, 1) := by decide +kernel
theorem d_Model_append_8 : decode prog_9_method_15_code 8 = .ok (.invokevirtual 111, 3) := by decide +kernel
theorem d_Model_append_11 : decode prog_9_method_15_code 11 = .ok (.ifCond .ne 22, 3) := by decide +kernel
theorem d_Model_append_14 : decode prog_9_method_15_code 14 = .ok (.aload_n 0, 1) := by decide +kernel
theorem d_Model_append_15 : decode prog_9_method_15_code 15 = .ok (.iload_n 2, 1) := by decide +kernel
theorem d_Model_append_16 : decode prog_9_method_15_code 16 = .ok (.iconst 4, 1) := by decide +kernel
theorem d_Model_append_17 : decode prog_9_method_15_code 17 = .ok (.invokevirtual 111, 3) := by decide +kernel
theorem d_Model_append_20 : decode prog_9_method_15_code 20 = .ok (.ifCond .ne 13, 3) := by decide +kernel
theorem d_Model_append_23 : decode prog_9_method_15_code 23 = .ok (.aload_n 0, 1) := by decide +kernel
theorem d_Model_append_24 : decode prog_9_method_15_code 24 = .ok (.iload 4, 2) := by decide +kernel
theorem d_Model_append_26 : decode prog_9_method_15_code 26 = .ok (.iconst 4, 1) := by decide +kernel
theorem d_Model_append_27 : decode prog_9_method_15_code 27 = .ok (.invokevirtual 111, 3) := by decide +kernel
theorem d_Model_append_30 : decode prog_9_method_15_code 30 = .ok (.ifCond .eq 9, 3) := by decide +kernel
theorem d_Model_append_33 : decode prog_9_method_15_code 33 = .ok (.aload_n 0, 1) := by decide +kernel
theorem d_Model_append_34 : decode prog_9_method_15_code 34 = .ok (.iconst 1, 1) := by decide +kernel
theorem d_Model_append_35 : decode prog_9_method_15_code 35 = .ok (.invokevirtual 114, 3) := by decide +kernel
theorem d_Model_append_38 : decode prog_9_method_15_code 38 = .ok (.ireturn, 1) := by decide +kernel
theorem d_Model_append_39 : decode prog_9_method_15_code 39 = .ok (.aload_n 0, 1) := by decide +kernel
theorem d_Model_append_40 : decode prog_9_method_15_code 40 = .ok (.iload_n 1, 1) := by decide +kernel
theorem d_Model_append_41 : decode prog_9_method_15_code 41 = .ok (.invokevirtual 117, 3) := by decide +kernel
theorem d_Model_append_44 : decode prog_9_method_15_code 44 = .ok (.ifCond .eq 9, 3) := by decide +kernel
theorem d_Model_append_47 : decode prog_9_method_15_code 47 = .ok (.aload_n 0, 1) := by decide +kernel
theorem d_Model_append_48 : decode prog_9_method_15_code 48 = .ok (.iconst 2, 1) := by decide +kernel
theorem d_Model_append_49 : decode prog_9_method_15_code 49 = .ok (.invokevirtual 114, 3) := by decide +kernel
theorem d_Model_append_52 : decode prog_9_method_15_code 52 = .ok (.ireturn, 1) := by decide +kernel
theorem d_Model_append_53 : decode prog_9_method_15_code 53 = .ok (.aload_n 0, 1) := by decide +kernel
theorem d_Model_append_54 : decode prog_9_method_15_code 54 = .ok (.getfield 121, 3) := by decide +kernel
theorem d_Model_append_57 : decode prog_9_method_15_code 57 = .ok (.bipush 60, 2) := by decide +kernel
theorem d_Model_append_59 : decode prog_9_method_15_code 59 = .ok (.if_icmp .ne 9, 3) := by decide +kernel
theorem d_Model_append_62 : decode prog_9_method_15_code 62 = .ok (.aload_n 0, 1) := by decide +kernel
theorem d_Model_append_63 : decode prog_9_method_15_code 63 = .ok (.iconst 4, 1) := by decide +kernel
theorem d_Model_append_64 : decode prog_9_method_15_code 64 = .ok (.invokevirtual 114, 3) := by decide +kernel
theorem d_Model_append_67 : decode prog_9_method_15_code 67 = .ok (.ireturn, 1) := by decide +kernel
theorem d_Model_append_68 : decode prog_9_method_15_code 68 = .ok (.aload_n 0, 1) := by decide +kernel
theorem d_Model_append_69 : decode prog_9_method_15_code 69 = .ok (.getfield 121, 3) := by decide +kernel
theorem d_Model_append_72 : decode prog_9_method_15_code 72 = .ok (.istore 5, 2) := by decide +kernel
theorem d_Model_append_74 : decode prog_9_method_15_code 74 = .ok (.aload_n 0, 1) := by decide +kernel
theorem d_Model_append_75 : decode prog_9_method_15_code 75 = .ok (.dup, 1) := by decide +kernel
theorem d_Model_append_76 : decode prog_9_method_15_code 76 = .ok (.getfield 121, 3) := by decide +kernel
theorem d_Model_append_79 : decode prog_9_method_15_code 79 = .ok (.iconst 1, 1) := by decide +kernel
theorem d_Model_append_80 : decode prog_9_method_15_code 80 = .ok (.iadd, 1) := by decide +kernel
theorem d_Model_append_81 : decode prog_9_method_15_code 81 = .ok (.putfield 121, 3) := by decide +kernel
theorem d_Model_append_84 : decode prog_9_method_15_code 84 = .ok (.aload_n 0, 1) := by decide +kernel
theorem d_Model_append_85 : decode prog_9_method_15_code 85 = .ok (.getfield 7, 3) := by decide +kernel
theorem d_Model_append_88 : decode prog_9_method_15_code 88 = .ok (.sipush 360, 3) := by decide +kernel
theorem d_Model_append_91 : decode prog_9_method_15_code 91 = .ok (.iconst 1, 1) := by decide +kernel
theorem d_Model_append_92 : decode prog_9_method_15_code 92 = .ok (.iastore, 1) := by decide +kernel
theorem d_Model_append_93 : decode prog_9_method_15_code 93 = .ok (.aload_n 0, 1) := by decide +kernel
theorem d_Model_append_94 : decode prog_9_method_15_code 94 = .ok (.getfield 13, 3) := by decide +kernel
theorem d_Model_append_97 : decode prog_9_method_15_code 97 = .ok (.sipush 360, 3) := by decide +kernel
theorem d_Model_append_100 : decode prog_9_method_15_code 100 = .ok (.iload_n 2, 1) := by decide +kernel
theorem d_Model_append_101 : decode prog_9_method_15_code 101 = .ok (.iastore, 1) := by decide +kernel
theorem d_Model_append_102 : decode prog_9_method_15_code 102 = .ok (.aload_n 0, 1) := by decide +kernel
theorem d_Model_append_103 : decode prog_9_method_15_code 103 = .ok (.getfield 16, 3) := by decide +kernel
theorem d_Model_append_106 : decode prog_9_method_15_code 106 = .ok (.sipush 360, 3) := by decide +kernel
theorem d_Model_append_109 : decode prog_9_method_15_code 109 = .ok (.iload_n 3, 1) := by decide +kernel
theorem d_Model_append_110 : decode prog_9_method_15_code 110 = .ok (.iastore, 1) := by decide +kernel
theorem d_Model_append_111 : decode prog_9_method_15_code 111 = .ok (.aload_n 0, 1) := by decide +kernel
theorem d_Model_append_112 : decode prog_9_method_15_code 112 = .ok (.iload_n 1, 1) := by decide +kernel
theorem d_Model_append_113 : decode prog_9_method_15_code 113 = .ok (.iload 5, 2) := by decide +kernel
theorem d_Model_append_115 : decode prog_9_method_15_code 115 = .ok (.iload 4, 2) := by decide +kernel
theorem d_Model_append_117 : decode prog_9_method_15_code 117 = .ok (.invokevirtual 124, 3) := by decide +kernel
theorem d_Model_append_120 : decode prog_9_method_15_code 120 = .ok (.istore 6, 2) := by decide +kernel
theorem d_Model_append_122 : decode prog_9_method_15_code 122 = .ok (.iload 6, 2) := by decide +kernel
theorem d_Model_append_124 : decode prog_9_method_15_code 124 = .ok (.ifCond .le 12, 3) := by decide +kernel
theorem d_Model_append_127 : decode prog_9_method_15_code 127 = .ok (.aload_n 0, 1) := by decide +kernel
theorem d_Model_append_128 : decode prog_9_method_15_code 128 = .ok (.iload 6, 2) := by decide +kernel
theorem d_Model_append_130 : decode prog_9_method_15_code 130 = .ok (.iconst 1, 1) := by decide +kernel
theorem d_Model_append_131 : decode prog_9_method_15_code 131 = .ok (.iadd, 1) := by decide +kernel
theorem d_Model_append_132 : decode prog_9_method_15_code 132 = .ok (.invokevirtual 114, 3) := by decide +kernel
theorem d_Model_append_135 : decode prog_9_method_15_code 135 = .ok (.ireturn, 1) := by decide +kernel
theorem d_Model_append_136 : decode prog_9_method_15_code 136 = .ok (.aload_n 0, 1) := by decide +kernel
theorem d_Model_append_137 : decode prog_9_method_15_code 137 = .ok (.aload_n 0, 1) := by decide +kernel
theorem d_Model_append_138 : decode prog_9_method_15_code 138 = .ok (.iload_n 1, 1) := by decide +kernel
theorem d_Model_append_139 : decode prog_9_method_15_code 139 = .ok (.iload 5, 2) := by decide +kernel
theorem d_Model_append_141 : decode prog_9_method_15_code 141 = .ok (.invokevirtual 89, 3) := by decide +kernel
theorem d_Model_append_144 : decode prog_9_method_15_code 144 = .ok (.invokevirtual 85, 3) := by decide +kernel
theorem d_Model_append_147 : decode prog_9_method_15_code 147 = .ok (.iload 4, 2) := by decide +kernel
theorem d_Model_append_149 : decode prog_9_method_15_code 149 = .ok (.if_icmp .le 11, 3) := by decide +kernel
theorem d_Model_append_152 : decode prog_9_method_15_code 152 = .ok (.iload 5, 2) := by decide +kernel
theorem d_Model_append_154 : decode prog_9_method_15_code 154 = .ok (.bipush 100, 2) := by decide +kernel
theorem d_Model_append_156 : decode prog_9_method_15_code 156 = .ok (.isub, 1) := by decide +kernel
theorem d_Model_append_157 : decode prog_9_method_15_code 157 = .ok (.goto 5, 3) := by decide +kernel
theorem d_Model_append_160 : decode prog_9_method_15_code 160 = .ok (.iload 5, 2) := by decide +kernel
theorem d_Model_append_162 : decode prog_9_method_15_code 162 = .ok (.ireturn, 1) := by decide +kernel
theorem d_Model_lastCell_0 : decode prog_9_method_16_code 0 = .ok (.aload_n 0, 1) := by decide +kernel
theorem d_Model_lastCell_1 : decode prog_9_method_16_code 1 = .ok (.iload_n 1, 1) := by decide +kernel
theorem d_Model_lastCell_2 : decode prog_9_method_16_code 2 = .ok (.iload_n 2, 1) := by decide +kernel
theorem d_Model_lastCell_3 : decode prog_9_method_16_code 3 = .ok (.invokevirtual 89, 3) := by decide +kernel
theorem d_Model_lastCell_6 : decode prog_9_method_16_code 6 = .ok (.istore_n 3, 1) := by decide +kernel
theorem d_Model_lastCell_7 : decode prog_9_method_16_code 7 = .ok (.aload_n 0, 1) := by decide +kernel
theorem d_Model_lastCell_8 : decode prog_9_method_16_code 8 = .ok (.iload_n 3, 1) := by decide +kernel
theorem d_Model_lastCell_9 : decode prog_9_method_16_code 9 = .ok (.aload_n 0, 1) := by decide +kernel
theorem d_Model_lastCell_10 : decode prog_9_method_16_code 10 = .ok (.iload_n 3, 1) := by decide +kernel
theorem d_Model_lastCell_11 : decode prog_9_method_16_code 11 = .ok (.invokevirtual 85, 3) := by decide +kernel
theorem d_Model_lastCell_14 : decode prog_9_method_16_code 14 = .ok (.iconst 1, 1) := by decide +kernel
theorem d_Model_lastCell_15 : decode prog_9_method_16_code 15 = .ok (.isub, 1) := by decide +kernel
theorem d_Model_lastCell_16 : decode prog_9_method_16_code 16 = .ok (.invokevirtual 93, 3) := by decide +kernel
theorem d_Model_lastCell_19 : decode prog_9_method_16_code 19 = .ok (.istore 4, 2) := by decide +kernel
theorem d_Model_lastCell_21 : decode prog_9_method_16_code 21 = .ok (.aload_n 0, 1) := by decide +kernel
theorem d_Model_lastCell_22 : decode prog_9_method_16_code 22 = .ok (.iload_n 1, 1) := by decide +kernel
theorem d_Model_lastCell_23 : decode prog_9_method_16_code 23 = .ok (.iload 4, 2) := by decide +kernel
theorem d_Model_lastCell_25 : decode prog_9_method_16_code 25 = .ok (.invokevirtual 96, 3) := by decide +kernel
theorem d_Model_lastCell_28 : decode prog_9_method_16_code 28 = .ok (.ifCond .eq 13, 3) := by decide +kernel
theorem d_Model_lastCell_31 : decode prog_9_method_16_code 31 = .ok (.aload_n 0, 1) := by decide +kernel
theorem d_Model_lastCell_32 : decode prog_9_method_16_code 32 = .ok (.iload 4, 2) := by decide +kernel
theorem d_Model_lastCell_34 : decode prog_9_method_16_code 34 = .ok (.iload_n 2, 1) := by decide +kernel
theorem d_Model_lastCell_35 : decode prog_9_method_16_code 35 = .ok (.invokevirtual 100, 3) := by decide +kernel
theorem d_Model_lastCell_38 : decode prog_9_method_16_code 38 = .ok (.goto 4, 3) := by decide +kernel
theorem d_Model_lastCell_41 : decode prog_9_method_16_code 41 = .ok (.iconst (-1), 1) := by decide +kernel
theorem d_Model_lastCell_42 : decode prog_9_method_16_code 42 = .ok (.ireturn, 1) := by decide +kernel
theorem d_Model_read_0 : decode prog_9_method_17_code 0 = .ok (.aload_n 0, 1) := by decide +kernel
theorem d_Model_read_1 : decode prog_9_method_17_code 1 = .ok (.iconst 0, 1) := by decide +kernel
theorem d_Model_read_2 : decode prog_9_method_17_code 2 = .ok (.putfield 82, 3) := by decide +kernel
theorem d_Model_read_5 : decode prog_9_method_17_code 5 = .ok (.aload_n 0, 1) := by decide +kernel
theorem d_Model_read_6 : decode prog_9_method_17_code 6 = .ok (.iload_n 1, 1) := by decide +kernel
theorem d_Model_read_7 : decode prog_9_method_17_code 7 = .ok (.iconst 4, 1) := by decide +kernel
theorem d_Model_read_8 : decode prog_9_method_17_code 8 = .ok (.invokevirtual 111, 3) := by decide +kernel
theorem d_Model_read_11 : decode prog_9_method_17_code 11 = .ok (.ifCond .ne 13, 3) := by decide +kernel
theorem d_Model_read_14 : decode prog_9_method_17_code 14 = .ok (.aload_n 0, 1) := by decide +kernel
theorem d_Model_read_15 : decode prog_9_method_17_code 15 = .ok (.iload_n 2, 1) := by decide +kernel
theorem d_Model_read_16 : decode prog_9_method_17_code 16 = .ok (.bipush 60, 2) := by decide +kernel
theorem d_Model_read_18 : decode prog_9_method_17_code 18 = .ok (.invokevirtual 111, 3) := by decide +kernel
theorem d_Model_read_21 : decode prog_9_method_17_code 21 = .ok (.ifCond .eq 9, 3) := by decide +kernel
theorem d_Model_read_24 : decode prog_9_method_17_code 24 = .ok (.aload_n 0, 1) := by decide +kernel
theorem d_Model_read_25 : decode prog_9_method_17_code 25 = .ok (.iconst 1, 1) := by decide +kernel
theorem d_Model_read_26 : decode prog_9_method_17_code 26 = .ok (.invokevirtual 114, 3) := by decide +kernel
theorem d_Model_read_29 : decode prog_9_method_17_code 29 = .ok (.ireturn, 1) := by decide +kernel
theorem d_Model_read_30 : decode prog_9_method_17_code 30 = .ok (.aload_n 0, 1) := by decide +kernel
theorem d_Model_read_31 : decode prog_9_method_17_code 31 = .ok (.iload_n 1, 1) := by decide +kernel
theorem d_Model_read_32 : decode prog_9_method_17_code 32 = .ok (.iload_n 2, 1) := by decide +kernel
theorem d_Model_read_33 : decode prog_9_method_17_code 33 = .ok (.invokevirtual 128, 3) := by decide +kernel
theorem d_Model_read_36 : decode prog_9_method_17_code 36 = .ok (.istore_n 3, 1) := by decide +kernel
theorem d_Model_read_37 : decode prog_9_method_17_code 37 = .ok (.iload_n 3, 1) := by decide +kernel
theorem d_Model_read_38 : decode prog_9_method_17_code 38 = .ok (.ifCond .ge 9, 3) := by decide +kernel
theorem d_Model_read_41 : decode prog_9_method_17_code 41 = .ok (.aload_n 0, 1) := by decide +kernel
theorem d_Model_read_42 : decode prog_9_method_17_code 42 = .ok (.iconst 2, 1) := by decide +kernel
theorem d_Model_read_43 : decode prog_9_method_17_code 43 = .ok (.invokevirtual 114, 3) := by decide +kernel
theorem d_Model_read_46 : decode prog_9_method_17_code 46 = .ok (.ireturn, 1) := by decide +kernel
theorem d_Model_read_47 : decode prog_9_method_17_code 47 = .ok (.aload_n 0, 1) := by decide +kernel
theorem d_Model_read_48 : decode prog_9_method_17_code 48 = .ok (.getfield 7, 3) := by decide +kernel
theorem d_Model_read_51 : decode prog_9_method_17_code 51 = .ok (.iload_n 3, 1) := by decide +kernel
theorem d_Model_read_52 : decode prog_9_method_17_code 52 = .ok (.iaload, 1) := by decide +kernel
theorem d_Model_read_53 : decode prog_9_method_17_code 53 = .ok (.tableswitch 61 0 3 #[31, 37, 44, 55], 31) := by decide +kernel
theorem d_Model_read_84 : decode prog_9_method_17_code 84 = .ok (.aload_n 0, 1) := by decide +kernel
theorem d_Model_read_85 : decode prog_9_method_17_code 85 = .ok (.iconst 5, 1) := by decide +kernel
theorem d_Model_read_86 : decode prog_9_method_17_code 86 = .ok (.invokevirtual 114, 3) := by decide +kernel
theorem d_Model_read_89 : decode prog_9_method_17_code 89 = .ok (.ireturn, 1) := by decide +kernel
theorem d_Model_read_90 : decode prog_9_method_17_code 90 = .ok (.aload_n 0, 1) := by decide +kernel
theorem d_Model_read_91 : decode prog_9_method_17_code 91 = .ok (.getfield 16, 3) := by decide +kernel
theorem d_Model_read_94 : decode prog_9_method_17_code 94 = .ok (.iload_n 3, 1) := by decide +kernel
theorem d_Model_read_95 : decode prog_9_method_17_code 95 = .ok (.iaload, 1) := by decide +kernel
theorem d_Model_read_96 : decode prog_9_method_17_code 96 = .ok (.ireturn, 1) := by decide +kernel
theorem d_Model_read_97 : decode prog_9_method_17_code 97 = .ok (.aload_n 0, 1) := by decide +kernel
theorem d_Model_read_98 : decode prog_9_method_17_code 98 = .ok (.aload_n 0, 1) := by decide +kernel
theorem d_Model_read_99 : decode prog_9_method_17_code 99 = .ok (.getfield 22, 3) := by decide +kernel
theorem d_Model_read_102 : decode prog_9_method_17_code 102 = .ok (.iload_n 3, 1) := by decide +kernel
theorem d_Model_read_103 : decode prog_9_method_17_code 103 = .ok (.iaload, 1) := by decide +kernel
theorem d_Model_read_104 : decode prog_9_method_17_code 104 = .ok (.invokevirtual 131, 3) := by decide +kernel
theorem d_Model_read_107 : decode prog_9_method_17_code 107 = .ok (.ireturn, 1) := by decide +kernel
theorem d_Model_read_108 : decode prog_9_method_17_code 108 = .ok (.aload_n 0, 1) := by decide +kernel
theorem d_Model_read_109 : decode prog_9_method_17_code 109 = .ok (.iconst 4, 1) := by decide +kernel
theorem d_Model_read_110 : decode prog_9_method_17_code 110 = .ok (.invokevirtual 114, 3) := by decide +kernel
theorem d_Model_read_113 : decode prog_9_method_17_code 113 = .ok (.ireturn, 1) := by decide +kernel
theorem d_Model_read_114 : decode prog_9_method_17_code 114 = .ok (.aload_n 0, 1) := by decide +kernel
theorem d_Model_read_115 : decode prog_9_method_17_code 115 = .ok (.iconst 3, 1) := by decide +kernel
theorem d_Model_read_116 : decode prog_9_method_17_code 116 = .ok (.invokevirtual 114, 3) := by decide +kernel
theorem d_Model_read_119 : decode prog_9_method_17_code 119 = .ok (.ireturn, 1) := by decide +kernel
theorem d_Model_fill_0 : decode prog_9_method_18_code 0 = .ok (.aload_n 0, 1) := by decide +kernel
theorem d_Model_fill_1 : decode prog_9_method_18_code 1 = .ok (.iconst 0, 1) := by decide +kernel
theorem d_Model_fill_2 : decode prog_9_method_18_code 2 = .ok (.putfield 82, 3) := by decide +kernel
theorem d_Model_fill_5 : decode prog_9_method_18_code 5 = .ok (.aload_n 0, 1) := by decide +kernel
theorem d_Model_fill_6 : decode prog_9_method_18_code 6 = .ok (.iload_n 1, 1) := by decide +kernel
theorem d_Model_fill_7 : decode prog_9_method_18_code 7 = .ok (.iconst 4, 1) := by decide +kernel
theorem d_Model_fill_8 : decode prog_9_method_18_code 8 = .ok (.invokevirtual 111, 3) := by decide +kernel
theorem d_Model_fill_11 : decode prog_9_method_18_code 11 = .ok (.ifCond .ne 13, 3) := by decide +kernel
theorem d_Model_fill_14 : decode prog_9_method_18_code 14 = .ok (.aload_n 0, 1) := by decide +kernel
theorem d_Model_fill_15 : decode prog_9_method_18_code 15 = .ok (.iload_n 2, 1) := by decide +kernel
theorem d_Model_fill_16 : decode prog_9_method_18_code 16 = .ok (.bipush 60, 2) := by decide +kernel
theorem d_Model_fill_18 : decode prog_9_method_18_code 18 = .ok (.invokevirtual 111, 3) := by decide +kernel
theorem d_Model_fill_21 : decode prog_9_method_18_code 21 = .ok (.ifCond .eq 9, 3) := by decide +kernel
theorem d_Model_fill_24 : decode prog_9_method_18_code 24 = .ok (.aload_n 0, 1) := by decide +kernel
theorem d_Model_fill_25 : decode prog_9_method_18_code 25 = .ok (.iconst 1, 1) := by decide +kernel
theorem d_Model_fill_26 : decode prog_9_method_18_code 26 = .ok (.invokevirtual 114, 3) := by decide +kernel
theorem d_Model_fill_29 : decode prog_9_method_18_code 29 = .ok (.ireturn, 1) := by decide +kernel
theorem d_Model_fill_30 : decode prog_9_method_18_code 30 = .ok (.aload_n 0, 1) := by decide +kernel
theorem d_Model_fill_31 : decode prog_9_method_18_code 31 = .ok (.iload_n 1, 1) := by decide +kernel
theorem d_Model_fill_32 : decode prog_9_method_18_code 32 = .ok (.iload_n 2, 1) := by decide +kernel
theorem d_Model_fill_33 : decode prog_9_method_18_code 33 = .ok (.invokevirtual 89, 3) := by decide +kernel
theorem d_Model_fill_36 : decode prog_9_method_18_code 36 = .ok (.istore_n 3, 1) := by decide +kernel
theorem d_Model_fill_37 : decode prog_9_method_18_code 37 = .ok (.iconst 0, 1) := by decide +kernel
theorem d_Model_fill_38 : decode prog_9_method_18_code 38 = .ok (.istore 4, 2) := by decide +kernel
theorem d_Model_fill_40 : decode prog_9_method_18_code 40 = .ok (.iconst 0, 1) := by decide +kernel
theorem d_Model_fill_41 : decode prog_9_method_18_code 41 = .ok (.istore 5, 2) := by decide +kernel
theorem d_Model_fill_43 : decode prog_9_method_18_code 43 = .ok (.iload 5, 2) := by decide +kernel
theorem d_Model_fill_45 : decode prog_9_method_18_code 45 = .ok (.aload_n 0, 1) := by decide +kernel
theorem d_Model_fill_46 : decode prog_9_method_18_code 46 = .ok (.iload_n 3, 1) := by decide +kernel
theorem d_Model_fill_47 : decode prog_9_method_18_code 47 = .ok (.invokevirtual 85, 3) := by decide +kernel
theorem d_Model_fill_50 : decode prog_9_method_18_code 50 = .ok (.if_icmp .ge 98, 3) := by decide +kernel
theorem d_Model_fill_53 : decode prog_9_method_18_code 53 = .ok (.aload_n 0, 1) := by decide +kernel
theorem d_Model_fill_54 : decode prog_9_method_18_code 54 = .ok (.iload_n 3, 1) := by decide +kernel
theorem d_Model_fill_55 : decode prog_9_method_18_code 55 = .ok (.iload 5, 2) := by decide +kernel
theorem d_Model_fill_57 : decode prog_9_method_18_code 57 = .ok (.invokevirtual 93, 3) := by decide +kernel
theorem d_Model_fill_60 : decode prog_9_method_18_code 60 = .ok (.istore 6, 2) := by decide +kernel
theorem d_Model_fill_62 : decode prog_9_method_18_code 62 = .ok (.aload_n 0, 1) := by decide +kernel
theorem d_Model_fill_63 : decode prog_9_method_18_code 63 = .ok (.iload_n 1, 1) := by decide +kernel
theorem d_Model_fill_64 : decode prog_9_method_18_code 64 = .ok (.iload 6, 2) := by decide +kernel
theorem d_Model_fill_66 : decode prog_9_method_18_code 66 = .ok (.invokevirtual 96, 3) := by decide +kernel
theorem d_Model_fill_69 : decode prog_9_method_18_code 69 = .ok (.ifCond .ne 9, 3) := by decide +kernel
theorem d_Model_fill_72 : decode prog_9_method_18_code 72 = .ok (.aload_n 0, 1) := by decide +kernel
theorem d_Model_fill_73 : decode prog_9_method_18_code 73 = .ok (.iconst 2, 1) := by decide +kernel
theorem d_Model_fill_74 : decode prog_9_method_18_code 74 = .ok (.invokevirtual 114, 3) := by decide +kernel
theorem d_Model_fill_77 : decode prog_9_method_18_code 77 = .ok (.ireturn, 1) := by decide +kernel
theorem d_Model_fill_78 : decode prog_9_method_18_code 78 = .ok (.aload_n 0, 1) := by decide +kernel
theorem d_Model_fill_79 : decode prog_9_method_18_code 79 = .ok (.getfield 7, 3) := by decide +kernel
theorem d_Model_fill_82 : decode prog_9_method_18_code 82 = .ok (.aload_n 0, 1) := by decide +kernel
theorem d_Model_fill_83 : decode prog_9_method_18_code 83 = .ok (.iload 6, 2) := by decide +kernel
theorem d_Model_fill_85 : decode prog_9_method_18_code 85 = .ok (.iload_n 2, 1) := by decide +kernel
theorem d_Model_fill_86 : decode prog_9_method_18_code 86 = .ok (.invokevirtual 100, 3) := by decide +kernel
theorem d_Model_fill_89 : decode prog_9_method_18_code 89 = .ok (.iaload, 1) := by decide +kernel
theorem d_Model_fill_90 : decode prog_9_method_18_code 90 = .ok (.ifCond .eq 6, 3) := by decide +kernel
theorem d_Model_fill_93 : decode prog_9_method_18_code 93 = .ok (.goto 49, 3) := by decide +kernel
theorem d_Model_fill_96 : decode prog_9_method_18_code 96 = .ok (.iload 5, 2) := by decide +kernel
theorem d_Model_fill_98 : decode prog_9_method_18_code 98 = .ok (.ifCond .ne 19, 3) := by decide +kernel
theorem d_Model_fill_101 : decode prog_9_method_18_code 101 = .ok (.aload_n 0, 1) := by decide +kernel
theorem d_Model_fill_102 : decode prog_9_method_18_code 102 = .ok (.getfield 7, 3) := by decide +kernel
theorem d_Model_fill_105 : decode prog_9_method_18_code 105 = .ok (.aload_n 0, 1) := by decide +kernel
theorem d_Model_fill_106 : decode prog_9_method_18_code 106 = .ok (.iload 6, 2) := by decide +kernel
theorem d_Model_fill_108 : decode prog_9_method_18_code 108 = .ok (.iload_n 2, 1) := by decide +kernel
theorem d_Model_fill_109 : decode prog_9_method_18_code 109 = .ok (.invokevirtual 100, 3) := by decide +kernel
theorem d_Model_fill_112 : decode prog_9_method_18_code 112 = .ok (.iconst 3, 1) := by decide +kernel
theorem d_Model_fill_113 : decode prog_9_method_18_code 113 = .ok (.iastore, 1) := by decide +kernel
theorem d_Model_fill_114 : decode prog_9_method_18_code 114 = .ok (.goto 25, 3) := by decide +kernel
theorem d_Model_fill_117 : decode prog_9_method_18_code 117 = .ok (.aload_n 0, 1) := by decide +kernel
theorem d_Model_fill_118 : decode prog_9_method_18_code 118 = .ok (.aload_n 0, 1) := by decide +kernel
theorem d_Model_fill_119 : decode prog_9_method_18_code 119 = .ok (.aload_n 0, 1) := by decide +kernel
theorem d_Model_fill_120 : decode prog_9_method_18_code 120 = .ok (.iload_n 3, 1) := by decide +kernel
theorem d_Model_fill_121 : decode prog_9_method_18_code 121 = .ok (.iconst 0, 1) := by decide +kernel
theorem d_Model_fill_122 : decode prog_9_method_18_code 122 = .ok (.invokevirtual 93, 3) := by decide +kernel
theorem d_Model_fill_125 : decode prog_9_method_18_code 125 = .ok (.iload_n 2, 1) := by decide +kernel
theorem d_Model_fill_126 : decode prog_9_method_18_code 126 = .ok (.invokevirtual 100, 3) := by decide +kernel
theorem d_Model_fill_129 : decode prog_9_method_18_code 129 = .ok (.aload_n 0, 1) := by decide +kernel
theorem d_Model_fill_130 : decode prog_9_method_18_code 130 = .ok (.iload 6, 2) := by decide +kernel
theorem d_Model_fill_132 : decode prog_9_method_18_code 132 = .ok (.iload_n 2, 1) := by decide +kernel
theorem d_Model_fill_133 : decode prog_9_method_18_code 133 = .ok (.invokevirtual 100, 3) := by decide +kernel
theorem d_Model_fill_136 : decode prog_9_method_18_code 136 = .ok (.invokevirtual 103, 3) := by decide +kernel
theorem d_Model_fill_139 : decode prog_9_method_18_code 139 = .ok (.iinc 4 1, 3) := by decide +kernel
theorem d_Model_fill_142 : decode prog_9_method_18_code 142 = .ok (.iinc 5 1, 3) := by decide +kernel
theorem d_Model_fill_145 : decode prog_9_method_18_code 145 = .ok (.goto (-102), 3) := by decide +kernel
theorem d_Model_fill_148 : decode prog_9_method_18_code 148 = .ok (.iload 4, 2) := by decide +kernel
theorem d_Model_fill_150 : decode prog_9_method_18_code 150 = .ok (.ireturn, 1) := by decide +kernel
theorem d_Model_trim_0 : decode prog_9_method_19_code 0 = .ok (.aload_n 0, 1) := by decide +kernel
theorem d_Model_trim_1 : decode prog_9_method_19_code 1 = .ok (.iconst 0, 1) := by decide +kernel
theorem d_Model_trim_2 : decode prog_9_method_19_code 2 = .ok (.putfield 82, 3) := by decide +kernel
theorem d_Model_trim_5 : decode prog_9_method_19_code 5 = .ok (.aload_n 0, 1) := by decide +kernel
theorem d_Model_trim_6 : decode prog_9_method_19_code 6 = .ok (.iload_n 1, 1) := by decide +kernel
theorem d_Model_trim_7 : decode prog_9_method_19_code 7 = .ok (.iconst 4, 1) := by decide +kernel
theorem d_Model_trim_8 : decode prog_9_method_19_code 8 = .ok (.invokevirtual 111, 3) := by decide +kernel
theorem d_Model_trim_11 : decode prog_9_method_19_code 11 = .ok (.ifCond .ne 13, 3) := by decide +kernel
theorem d_Model_trim_14 : decode prog_9_method_19_code 14 = .ok (.aload_n 0, 1) := by decide +kernel
theorem d_Model_trim_15 : decode prog_9_method_19_code 15 = .ok (.iload_n 2, 1) := by decide +kernel
theorem d_Model_trim_16 : decode prog_9_method_19_code 16 = .ok (.bipush 60, 2) := by decide +kernel
theorem d_Model_trim_18 : decode prog_9_method_19_code 18 = .ok (.invokevirtual 111, 3) := by decide +kernel
theorem d_Model_trim_21 : decode prog_9_method_19_code 21 = .ok (.ifCond .eq 9, 3) := by decide +kernel
theorem d_Model_trim_24 : decode prog_9_method_19_code 24 = .ok (.aload_n 0, 1) := by decide +kernel
theorem d_Model_trim_25 : decode prog_9_method_19_code 25 = .ok (.iconst 1, 1) := by decide +kernel
theorem d_Model_trim_26 : decode prog_9_method_19_code 26 = .ok (.invokevirtual 114, 3) := by decide +kernel
theorem d_Model_trim_29 : decode prog_9_method_19_code 29 = .ok (.ireturn, 1) := by decide +kernel
theorem d_Model_trim_30 : decode prog_9_method_19_code 30 = .ok (.iconst 0, 1) := by decide +kernel
theorem d_Model_trim_31 : decode prog_9_method_19_code 31 = .ok (.istore_n 3, 1) := by decide +kernel
theorem d_Model_trim_32 : decode prog_9_method_19_code 32 = .ok (.iconst 0, 1) := by decide +kernel
theorem d_Model_trim_33 : decode prog_9_method_19_code 33 = .ok (.istore 4, 2) := by decide +kernel
theorem d_Model_trim_35 : decode prog_9_method_19_code 35 = .ok (.iload 4, 2) := by decide +kernel
theorem d_Model_trim_37 : decode prog_9_method_19_code 37 = .ok (.iload_n 2, 1) := by decide +kernel
theorem d_Model_trim_38 : decode prog_9_method_19_code 38 = .ok (.if_icmp .gt 98, 3) := by decide +kernel
theorem d_Model_trim_41 : decode prog_9_method_19_code 41 = .ok (.aload_n 0, 1) := by decide +kernel
theorem d_Model_trim_42 : decode prog_9_method_19_code 42 = .ok (.iload_n 1, 1) := by decide +kernel
theorem d_Model_trim_43 : decode prog_9_method_19_code 43 = .ok (.iload 4, 2) := by decide +kernel
theorem d_Model_trim_45 : decode prog_9_method_19_code 45 = .ok (.invokevirtual 89, 3) := by decide +kernel
theorem d_Model_trim_48 : decode prog_9_method_19_code 48 = .ok (.istore 5, 2) := by decide +kernel
theorem d_Model_trim_50 : decode prog_9_method_19_code 50 = .ok (.iconst 0, 1) := by decide +kernel
theorem d_Model_trim_51 : decode prog_9_method_19_code 51 = .ok (.istore 6, 2) := by decide +kernel
theorem d_Model_trim_53 : decode prog_9_method_19_code 53 = .ok (.iload 6, 2) := by decide +kernel
theorem d_Model_trim_55 : decode prog_9_method_19_code 55 = .ok (.aload_n 0, 1) := by decide +kernel
theorem d_Model_trim_56 : decode prog_9_method_19_code 56 = .ok (.iload 5, 2) := by decide +kernel
theorem d_Model_trim_58 : decode prog_9_method_19_code 58 = .ok (.invokevirtual 85, 3) := by decide +kernel
theorem d_Model_trim_61 : decode prog_9_method_19_code 61 = .ok (.if_icmp .ge 69, 3) := by decide +kernel
theorem d_Model_trim_64 : decode prog_9_method_19_code 64 = .ok (.aload_n 0, 1) := by decide +kernel
theorem d_Model_trim_65 : decode prog_9_method_19_code 65 = .ok (.iload 5, 2) := by decide +kernel
theorem d_Model_trim_67 : decode prog_9_method_19_code 67 = .ok (.iload 6, 2) := by decide +kernel
theorem d_Model_trim_69 : decode prog_9_method_19_code 69 = .ok (.invokevirtual 93, 3) := by decide +kernel
theorem d_Model_trim_72 : decode prog_9_method_19_code 72 = .ok (.istore 7, 2) := by decide +kernel
theorem d_Model_trim_74 : decode prog_9_method_19_code 74 = .ok (.aload_n 0, 1) := by decide +kernel
theorem d_Model_trim_75 : decode prog_9_method_19_code 75 = .ok (.iload_n 1, 1) := by decide +kernel
theorem d_Model_trim_76 : decode prog_9_method_19_code 76 = .ok (.iload 7, 2) := by decide +kernel
theorem d_Model_trim_78 : decode prog_9_method_19_code 78 = .ok (.invokevirtual 96, 3) := by decide +kernel
theorem d_Model_trim_81 : decode prog_9_method_19_code 81 = .ok (.ifCond .ne 9, 3) := by decide +kernel
theorem d_Model_trim_84 : decode prog_9_method_19_code 84 = .ok (.aload_n 0, 1) := by decide +kernel
theorem d_Model_trim_85 : decode prog_9_method_19_code 85 = .ok (.iconst 2, 1) := by decide +kernel
theorem d_Model_trim_86 : decode prog_9_method_19_code 86 = .ok (.invokevirtual 114, 3) := by decide +kernel
theorem d_Model_trim_89 : decode prog_9_method_19_code 89 = .ok (.ireturn, 1) := by decide +kernel
theorem d_Model_trim_90 : decode prog_9_method_19_code 90 = .ok (.aload_n 0, 1) := by decide +kernel
theorem d_Model_trim_91 : decode prog_9_method_19_code 91 = .ok (.getfield 7, 3) := by decide +kernel
theorem d_Model_trim_94 : decode prog_9_method_19_code 94 = .ok (.aload_n 0, 1) := by decide +kernel
theorem d_Model_trim_95 : decode prog_9_method_19_code 95 = .ok (.iload 7, 2) := by decide +kernel
theorem d_Model_trim_97 : decode prog_9_method_19_code 97 = .ok (.iload 4, 2) := by decide +kernel
theorem d_Model_trim_99 : decode prog_9_method_19_code 99 = .ok (.invokevirtual 100, 3) := by decide +kernel
theorem d_Model_trim_102 : decode prog_9_method_19_code 102 = .ok (.iaload, 1) := by decide +kernel
theorem d_Model_trim_103 : decode prog_9_method_19_code 103 = .ok (.iconst 4, 1) := by decide +kernel
theorem d_Model_trim_104 : decode prog_9_method_19_code 104 = .ok (.if_icmp .eq 6, 3) := by decide +kernel
theorem d_Model_trim_107 : decode prog_9_method_19_code 107 = .ok (.iinc 3 1, 3) := by decide +kernel
theorem d_Model_trim_110 : decode prog_9_method_19_code 110 = .ok (.aload_n 0, 1) := by decide +kernel
theorem d_Model_trim_111 : decode prog_9_method_19_code 111 = .ok (.getfield 7, 3) := by decide +kernel
theorem d_Model_trim_114 : decode prog_9_method_19_code 114 = .ok (.aload_n 0, 1) := by decide +kernel
theorem d_Model_trim_115 : decode prog_9_method_19_code 115 = .ok (.iload 7, 2) := by decide +kernel
theorem d_Model_trim_117 : decode prog_9_method_19_code 117 = .ok (.iload 4, 2) := by decide +kernel
theorem d_Model_trim_119 : decode prog_9_method_19_code 119 = .ok (.invokevirtual 100, 3) := by decide +kernel
theorem d_Model_trim_122 : decode prog_9_method_19_code 122 = .ok (.iconst 4, 1) := by decide +kernel
theorem d_Model_trim_123 : decode prog_9_method_19_code 123 = .ok (.iastore, 1) := by decide +kernel
theorem d_Model_trim_124 : decode prog_9_method_19_code 124 = .ok (.iinc 6 1, 3) := by decide +kernel
theorem d_Model_trim_127 : decode prog_9_method_19_code 127 = .ok (.goto (-74), 3) := by decide +kernel
theorem d_Model_trim_130 : decode prog_9_method_19_code 130 = .ok (.iinc 4 1, 3) := by decide +kernel
theorem d_Model_trim_133 : decode prog_9_method_19_code 133 = .ok (.goto (-98), 3) := by decide +kernel
theorem d_Model_trim_136 : decode prog_9_method_19_code 136 = .ok (.iload_n 3, 1) := by decide +kernel
theorem d_Model_trim_137 : decode prog_9_method_19_code 137 = .ok (.ireturn, 1) := by decide +kernel
theorem d_Model_learn_0 : decode prog_9_method_20_code 0 = .ok (.aload_n 0, 1) := by decide +kernel
theorem d_Model_learn_1 : decode prog_9_method_20_code 1 = .ok (.iconst 0, 1) := by decide +kernel
theorem d_Model_learn_2 : decode prog_9_method_20_code 2 = .ok (.putfield 82, 3) := by decide +kernel
theorem d_Model_learn_5 : decode prog_9_method_20_code 5 = .ok (.aload_n 0, 1) := by decide +kernel
theorem d_Model_learn_6 : decode prog_9_method_20_code 6 = .ok (.iload_n 1, 1) := by decide +kernel
theorem d_Model_learn_7 : decode prog_9_method_20_code 7 = .ok (.iconst 4, 1) := by decide +kernel
theorem d_Model_learn_8 : decode prog_9_method_20_code 8 = .ok (.invokevirtual 111, 3) := by decide +kernel
theorem d_Model_learn_11 : decode prog_9_method_20_code 11 = .ok (.ifCond .eq 9, 3) := by decide +kernel
theorem d_Model_learn_14 : decode prog_9_method_20_code 14 = .ok (.aload_n 0, 1) := by decide +kernel
theorem d_Model_learn_15 : decode prog_9_method_20_code 15 = .ok (.iconst 1, 1) := by decide +kernel
theorem d_Model_learn_16 : decode prog_9_method_20_code 16 = .ok (.invokevirtual 114, 3) := by decide +kernel
theorem d_Model_learn_19 : decode prog_9_method_20_code 19 = .ok (.ireturn, 1) := by decide +kernel
theorem d_Model_learn_20 : decode prog_9_method_20_code 20 = .ok (.aload_n 0, 1) := by decide +kernel
theorem d_Model_learn_21 : decode prog_9_method_20_code 21 = .ok (.iload_n 1, 1) := by decide +kernel
theorem d_Model_learn_22 : decode prog_9_method_20_code 22 = .ok (.invokevirtual 78, 3) := by decide +kernel
theorem d_Model_learn_25 : decode prog_9_method_20_code 25 = .ok (.aload_n 0, 1) := by decide +kernel
theorem d_Model_learn_26 : decode prog_9_method_20_code 26 = .ok (.getfield 38, 3) := by decide +kernel
theorem d_Model_learn_29 : decode prog_9_method_20_code 29 = .ok (.ireturn, 1) := by decide +kernel
theorem d_Model_badRow_0 : decode prog_9_method_21_code 0 = .ok (.iload_n 1, 1) := by decide +kernel
theorem d_Model_badRow_1 : decode prog_9_method_21_code 1 = .ok (.iconst 1, 1) := by decide +kernel
theorem d_Model_badRow_2 : decode prog_9_method_21_code 2 = .ok (.if_icmp .lt 10, 3) := by decide +kernel
theorem d_Model_badRow_5 : decode prog_9_method_21_code 5 = .ok (.iload_n 1, 1) := by decide +kernel
theorem d_Model_badRow_6 : decode prog_9_method_21_code 6 = .ok (.sipush 666, 3) := by decide +kernel
theorem d_Model_badRow_9 : decode prog_9_method_21_code 9 = .ok (.if_icmp .le 5, 3) := by decide +kernel
theorem d_Model_badRow_12 : decode prog_9_method_21_code 12 = .ok (.iconst 1, 1) := by decide +kernel
theorem d_Model_badRow_13 : decode prog_9_method_21_code 13 = .ok (.ireturn, 1) := by decide +kernel
theorem d_Model_badRow_14 : decode prog_9_method_21_code 14 = .ok (.aload_n 0, 1) := by decide +kernel
theorem d_Model_badRow_15 : decode prog_9_method_21_code 15 = .ok (.iload_n 1, 1) := by decide +kernel
theorem d_Model_badRow_16 : decode prog_9_method_21_code 16 = .ok (.invokevirtual 85, 3) := by decide +kernel
theorem d_Model_badRow_19 : decode prog_9_method_21_code 19 = .ok (.istore_n 2, 1) := by decide +kernel
theorem d_Model_badRow_20 : decode prog_9_method_21_code 20 = .ok (.iconst 0, 1) := by decide +kernel
theorem d_Model_badRow_21 : decode prog_9_method_21_code 21 = .ok (.istore_n 3, 1) := by decide +kernel
theorem d_Model_badRow_22 : decode prog_9_method_21_code 22 = .ok (.iload_n 3, 1) := by decide +kernel
theorem d_Model_badRow_23 : decode prog_9_method_21_code 23 = .ok (.iload_n 2, 1) := by decide +kernel
theorem d_Model_badRow_24 : decode prog_9_method_21_code 24 = .ok (.if_icmp .ge 59, 3) := by decide +kernel
theorem d_Model_badRow_27 : decode prog_9_method_21_code 27 = .ok (.aload_n 0, 1) := by decide +kernel
theorem d_Model_badRow_28 : decode prog_9_method_21_code 28 = .ok (.aload_n 0, 1) := by decide +kernel
theorem d_Model_badRow_29 : decode prog_9_method_21_code 29 = .ok (.iload_n 1, 1) := by decide +kernel
theorem d_Model_badRow_30 : decode prog_9_method_21_code 30 = .ok (.iload_n 3, 1) := by decide +kernel
theorem d_Model_badRow_31 : decode prog_9_method_21_code 31 = .ok (.invokevirtual 93, 3) := by decide +kernel
theorem d_Model_badRow_34 : decode prog_9_method_21_code 34 = .ok (.bipush 6, 2) := by decide +kernel
theorem d_Model_badRow_36 : decode prog_9_method_21_code 36 = .ok (.invokevirtual 111, 3) := by decide +kernel
theorem d_Model_badRow_39 : decode prog_9_method_21_code 39 = .ok (.ifCond .eq 5, 3) := by decide +kernel
theorem d_Model_badRow_42 : decode prog_9_method_21_code 42 = .ok (.iconst 1, 1) := by decide +kernel
theorem d_Model_badRow_43 : decode prog_9_method_21_code 43 = .ok (.ireturn, 1) := by decide +kernel
theorem d_Model_badRow_44 : decode prog_9_method_21_code 44 = .ok (.iconst 0, 1) := by decide +kernel
theorem d_Model_badRow_45 : decode prog_9_method_21_code 45 = .ok (.istore 4, 2) := by decide +kernel
theorem d_Model_badRow_47 : decode prog_9_method_21_code 47 = .ok (.iload 4, 2) := by decide +kernel
theorem d_Model_badRow_49 : decode prog_9_method_21_code 49 = .ok (.iload_n 3, 1) := by decide +kernel
theorem d_Model_badRow_50 : decode prog_9_method_21_code 50 = .ok (.if_icmp .ge 27, 3) := by decide +kernel
theorem d_Model_badRow_53 : decode prog_9_method_21_code 53 = .ok (.aload_n 0, 1) := by decide +kernel
theorem d_Model_badRow_54 : decode prog_9_method_21_code 54 = .ok (.iload_n 1, 1) := by decide +kernel
theorem d_Model_badRow_55 : decode prog_9_method_21_code 55 = .ok (.iload_n 3, 1) := by decide +kernel
theorem d_Model_badRow_56 : decode prog_9_method_21_code 56 = .ok (.invokevirtual 93, 3) := by decide +kernel
theorem d_Model_badRow_59 : decode prog_9_method_21_code 59 = .ok (.aload_n 0, 1) := by decide +kernel
theorem d_Model_badRow_60 : decode prog_9_method_21_code 60 = .ok (.iload_n 1, 1) := by decide +kernel
theorem d_Model_badRow_61 : decode prog_9_method_21_code 61 = .ok (.iload 4, 2) := by decide +kernel
theorem d_Model_badRow_63 : decode prog_9_method_21_code 63 = .ok (.invokevirtual 93, 3) := by decide +kernel
theorem d_Model_badRow_66 : decode prog_9_method_21_code 66 = .ok (.if_icmp .ne 5, 3) := by decide +kernel
theorem d_Model_badRow_69 : decode prog_9_method_21_code 69 = .ok (.iconst 1, 1) := by decide +kernel
theorem d_Model_badRow_70 : decode prog_9_method_21_code 70 = .ok (.ireturn, 1) := by decide +kernel
theorem d_Model_badRow_71 : decode prog_9_method_21_code 71 = .ok (.iinc 4 1, 3) := by decide +kernel
theorem d_Model_badRow_74 : decode prog_9_method_21_code 74 = .ok (.goto (-27), 3) := by decide +kernel
theorem d_Model_badRow_77 : decode prog_9_method_21_code 77 = .ok (.iinc 3 1, 3) := by decide +kernel
theorem d_Model_badRow_80 : decode prog_9_method_21_code 80 = .ok (.goto (-58), 3) := by decide +kernel
theorem d_Model_badRow_83 : decode prog_9_method_21_code 83 = .ok (.iconst 0, 1) := by decide +kernel
theorem d_Model_badRow_84 : decode prog_9_method_21_code 84 = .ok (.ireturn, 1) := by decide +kernel
theorem d_Model_upUnits_0 : decode prog_9_method_22_code 0 = .ok (.iconst 0, 1) := by decide +kernel
theorem d_Model_upUnits_1 : decode prog_9_method_22_code 1 = .ok (.istore_n 2, 1) := by decide +kernel
theorem d_Model_upUnits_2 : decode prog_9_method_22_code 2 = .ok (.iconst 0, 1) := by decide +kernel
theorem d_Model_upUnits_3 : decode prog_9_method_22_code 3 = .ok (.istore_n 3, 1) := by decide +kernel
theorem d_Model_upUnits_4 : decode prog_9_method_22_code 4 = .ok (.iload_n 3, 1) := by decide +kernel
theorem d_Model_upUnits_5 : decode prog_9_method_22_code 5 = .ok (.aload_n 0, 1) := by decide +kernel
theorem d_Model_upUnits_6 : decode prog_9_method_22_code 6 = .ok (.iload_n 1, 1) := by decide +kernel
theorem d_Model_upUnits_7 : decode prog_9_method_22_code 7 = .ok (.invokevirtual 85, 3) := by decide +kernel
theorem d_Model_upUnits_10 : decode prog_9_method_22_code 10 = .ok (.if_icmp .ge 31, 3) := by decide +kernel
theorem d_Model_upUnits_13 : decode prog_9_method_22_code 13 = .ok (.iload_n 2, 1) := by decide +kernel
theorem d_Model_upUnits_14 : decode prog_9_method_22_code 14 = .ok (.aload_n 0, 1) := by decide +kernel
theorem d_Model_upUnits_15 : decode prog_9_method_22_code 15 = .ok (.getfield 31, 3) := by decide +kernel
theorem d_Model_upUnits_18 : decode prog_9_method_22_code 18 = .ok (.aload_n 0, 1) := by decide +kernel
theorem d_Model_upUnits_19 : decode prog_9_method_22_code 19 = .ok (.iload_n 1, 1) := by decide +kernel
theorem d_Model_upUnits_20 : decode prog_9_method_22_code 20 = .ok (.iload_n 3, 1) := by decide +kernel
theorem d_Model_upUnits_21 : decode prog_9_method_22_code 21 = .ok (.invokevirtual 93, 3) := by decide +kernel
theorem d_Model_upUnits_24 : decode prog_9_method_22_code 24 = .ok (.baload, 1) := by decide +kernel
theorem d_Model_upUnits_25 : decode prog_9_method_22_code 25 = .ok (.ifCond .eq 7, 3) := by decide +kernel
theorem d_Model_upUnits_28 : decode prog_9_method_22_code 28 = .ok (.iconst 0, 1) := by decide +kernel
theorem d_Model_upUnits_29 : decode prog_9_method_22_code 29 = .ok (.goto 4, 3) := by decide +kernel
theorem d_Model_upUnits_32 : decode prog_9_method_22_code 32 = .ok (.iconst 1, 1) := by decide +kernel
theorem d_Model_upUnits_33 : decode prog_9_method_22_code 33 = .ok (.iadd, 1) := by decide +kernel
theorem d_Model_upUnits_34 : decode prog_9_method_22_code 34 = .ok (.istore_n 2, 1) := by decide +kernel
theorem d_Model_upUnits_35 : decode prog_9_method_22_code 35 = .ok (.iinc 3 1, 3) := by decide +kernel
theorem d_Model_upUnits_38 : decode prog_9_method_22_code 38 = .ok (.goto (-34), 3) := by decide +kernel
theorem d_Model_upUnits_41 : decode prog_9_method_22_code 41 = .ok (.iload_n 2, 1) := by decide +kernel
theorem d_Model_upUnits_42 : decode prog_9_method_22_code 42 = .ok (.ireturn, 1) := by decide +kernel
theorem d_Model_sealRow_0 : decode prog_9_method_23_code 0 = .ok (.iconst 0, 1) := by decide +kernel
theorem d_Model_sealRow_1 : decode prog_9_method_23_code 1 = .ok (.istore_n 2, 1) := by decide +kernel
theorem d_Model_sealRow_2 : decode prog_9_method_23_code 2 = .ok (.iload_n 2, 1) := by decide +kernel
theorem d_Model_sealRow_3 : decode prog_9_method_23_code 3 = .ok (.aload_n 0, 1) := by decide +kernel
theorem d_Model_sealRow_4 : decode prog_9_method_23_code 4 = .ok (.iload_n 1, 1) := by decide +kernel
theorem d_Model_sealRow_5 : decode prog_9_method_23_code 5 = .ok (.invokevirtual 85, 3) := by decide +kernel
theorem d_Model_sealRow_8 : decode prog_9_method_23_code 8 = .ok (.if_icmp .ge 40, 3) := by decide +kernel
theorem d_Model_sealRow_11 : decode prog_9_method_23_code 11 = .ok (.aload_n 0, 1) := by decide +kernel
theorem d_Model_sealRow_12 : decode prog_9_method_23_code 12 = .ok (.getfield 31, 3) := by decide +kernel
theorem d_Model_sealRow_15 : decode prog_9_method_23_code 15 = .ok (.aload_n 0, 1) := by decide +kernel
theorem d_Model_sealRow_16 : decode prog_9_method_23_code 16 = .ok (.iload_n 1, 1) := by decide +kernel
theorem d_Model_sealRow_17 : decode prog_9_method_23_code 17 = .ok (.iload_n 2, 1) := by decide +kernel
theorem d_Model_sealRow_18 : decode prog_9_method_23_code 18 = .ok (.invokevirtual 93, 3) := by decide +kernel
theorem d_Model_sealRow_21 : decode prog_9_method_23_code 21 = .ok (.baload, 1) := by decide +kernel
theorem d_Model_sealRow_22 : decode prog_9_method_23_code 22 = .ok (.ifCond .ne 20, 3) := by decide +kernel
theorem d_Model_sealRow_25 : decode prog_9_method_23_code 25 = .ok (.aload_n 0, 1) := by decide +kernel
theorem d_Model_sealRow_26 : decode prog_9_method_23_code 26 = .ok (.getfield 35, 3) := by decide +kernel
theorem d_Model_sealRow_29 : decode prog_9_method_23_code 29 = .ok (.aload_n 0, 1) := by decide +kernel
theorem d_Model_sealRow_30 : decode prog_9_method_23_code 30 = .ok (.iload_n 1, 1) := by decide +kernel
theorem d_Model_sealRow_31 : decode prog_9_method_23_code 31 = .ok (.iload_n 2, 1) := by decide +kernel
theorem d_Model_sealRow_32 : decode prog_9_method_23_code 32 = .ok (.invokevirtual 93, 3) := by decide +kernel
theorem d_Model_sealRow_35 : decode prog_9_method_23_code 35 = .ok (.aload_n 0, 1) := by decide +kernel
theorem d_Model_sealRow_36 : decode prog_9_method_23_code 36 = .ok (.getfield 38, 3) := by decide +kernel
theorem d_Model_sealRow_39 : decode prog_9_method_23_code 39 = .ok (.iconst 1, 1) := by decide +kernel
theorem d_Model_sealRow_40 : decode prog_9_method_23_code 40 = .ok (.iadd, 1) := by decide +kernel
theorem d_Model_sealRow_41 : decode prog_9_method_23_code 41 = .ok (.iastore, 1) := by decide +kernel
theorem d_Model_sealRow_42 : decode prog_9_method_23_code 42 = .ok (.iinc 2 1, 3) := by decide +kernel
theorem d_Model_sealRow_45 : decode prog_9_method_23_code 45 = .ok (.goto (-43), 3) := by decide +kernel
theorem d_Model_sealRow_48 : decode prog_9_method_23_code 48 = .ok (.return_, 1) := by decide +kernel
theorem d_Model_merge_0 : decode prog_9_method_24_code 0 = .ok (.aload_n 0, 1) := by decide +kernel
theorem d_Model_merge_1 : decode prog_9_method_24_code 1 = .ok (.getfield 7, 3) := by decide +kernel
theorem d_Model_merge_4 : decode prog_9_method_24_code 4 = .ok (.sipush 360, 3) := by decide +kernel
theorem d_Model_merge_7 : decode prog_9_method_24_code 7 = .ok (.iconst 0, 1) := by decide +kernel
theorem d_Model_merge_8 : decode prog_9_method_24_code 8 = .ok (.iastore, 1) := by decide +kernel
theorem d_Model_merge_9 : decode prog_9_method_24_code 9 = .ok (.aload_n 0, 1) := by decide +kernel
theorem d_Model_merge_10 : decode prog_9_method_24_code 10 = .ok (.iload_n 2, 1) := by decide +kernel
theorem d_Model_merge_11 : decode prog_9_method_24_code 11 = .ok (.invokevirtual 85, 3) := by decide +kernel
theorem d_Model_merge_14 : decode prog_9_method_24_code 14 = .ok (.iconst 1, 1) := by decide +kernel
theorem d_Model_merge_15 : decode prog_9_method_24_code 15 = .ok (.isub, 1) := by decide +kernel
theorem d_Model_merge_16 : decode prog_9_method_24_code 16 = .ok (.istore 4, 2) := by decide +kernel
theorem d_Model_merge_18 : decode prog_9_method_24_code 18 = .ok (.iload 4, 2) := by decide +kernel
theorem d_Model_merge_20 : decode prog_9_method_24_code 20 = .ok (.ifCond .lt 57, 3) := by decide +kernel
theorem d_Model_merge_23 : decode prog_9_method_24_code 23 = .ok (.aload_n 0, 1) := by decide +kernel
theorem d_Model_merge_24 : decode prog_9_method_24_code 24 = .ok (.aload_n 0, 1) := by decide +kernel
theorem d_Model_merge_25 : decode prog_9_method_24_code 25 = .ok (.iload_n 2, 1) := by decide +kernel
theorem d_Model_merge_26 : decode prog_9_method_24_code 26 = .ok (.iload 4, 2) := by decide +kernel
theorem d_Model_merge_28 : decode prog_9_method_24_code 28 = .ok (.invokevirtual 93, 3) := by decide +kernel
theorem d_Model_merge_31 : decode prog_9_method_24_code 31 = .ok (.iload_n 1, 1) := by decide +kernel
theorem d_Model_merge_32 : decode prog_9_method_24_code 32 = .ok (.invokevirtual 100, 3) := by decide +kernel
theorem d_Model_merge_35 : decode prog_9_method_24_code 35 = .ok (.istore 5, 2) := by decide +kernel
theorem d_Model_merge_37 : decode prog_9_method_24_code 37 = .ok (.aload_n 0, 1) := by decide +kernel
theorem d_Model_merge_38 : decode prog_9_method_24_code 38 = .ok (.getfield 31, 3) := by decide +kernel
theorem d_Model_merge_41 : decode prog_9_method_24_code 41 = .ok (.aload_n 0, 1) := by decide +kernel
theorem d_Model_merge_42 : decode prog_9_method_24_code 42 = .ok (.iload_n 2, 1) := by decide +kernel
theorem d_Model_merge_43 : decode prog_9_method_24_code 43 = .ok (.iload 4, 2) := by decide +kernel
theorem d_Model_merge_45 : decode prog_9_method_24_code 45 = .ok (.invokevirtual 93, 3) := by decide +kernel
theorem d_Model_merge_48 : decode prog_9_method_24_code 48 = .ok (.baload, 1) := by decide +kernel
theorem d_Model_merge_49 : decode prog_9_method_24_code 49 = .ok (.ifCond .ne 22, 3) := by decide +kernel
theorem d_Model_merge_52 : decode prog_9_method_24_code 52 = .ok (.aload_n 0, 1) := by decide +kernel
theorem d_Model_merge_53 : decode prog_9_method_24_code 53 = .ok (.getfield 7, 3) := by decide +kernel
theorem d_Model_merge_56 : decode prog_9_method_24_code 56 = .ok (.iload 5, 2) := by decide +kernel
theorem d_Model_merge_58 : decode prog_9_method_24_code 58 = .ok (.iaload, 1) := by decide +kernel
theorem d_Model_merge_59 : decode prog_9_method_24_code 59 = .ok (.ifCond .eq 12, 3) := by decide +kernel
theorem d_Model_merge_62 : decode prog_9_method_24_code 62 = .ok (.aload_n 0, 1) := by decide +kernel
theorem d_Model_merge_63 : decode prog_9_method_24_code 63 = .ok (.iload 5, 2) := by decide +kernel
theorem d_Model_merge_65 : decode prog_9_method_24_code 65 = .ok (.sipush 360, 3) := by decide +kernel
theorem d_Model_merge_68 : decode prog_9_method_24_code 68 = .ok (.invokevirtual 103, 3) := by decide +kernel
theorem d_Model_merge_71 : decode prog_9_method_24_code 71 = .ok (.iinc 4 (-1), 3) := by decide +kernel
theorem d_Model_merge_74 : decode prog_9_method_24_code 74 = .ok (.goto (-56), 3) := by decide +kernel
theorem d_Model_merge_77 : decode prog_9_method_24_code 77 = .ok (.iconst 0, 1) := by decide +kernel
theorem d_Model_merge_78 : decode prog_9_method_24_code 78 = .ok (.istore 4, 2) := by decide +kernel
theorem d_Model_merge_80 : decode prog_9_method_24_code 80 = .ok (.iload 4, 2) := by decide +kernel
theorem d_Model_merge_82 : decode prog_9_method_24_code 82 = .ok (.aload_n 0, 1) := by decide +kernel
theorem d_Model_merge_83 : decode prog_9_method_24_code 83 = .ok (.iload_n 3, 1) := by decide +kernel
theorem d_Model_merge_84 : decode prog_9_method_24_code 84 = .ok (.invokevirtual 85, 3) := by decide +kernel
theorem d_Model_merge_87 : decode prog_9_method_24_code 87 = .ok (.if_icmp .ge 28, 3) := by decide +kernel
theorem d_Model_merge_90 : decode prog_9_method_24_code 90 = .ok (.aload_n 0, 1) := by decide +kernel
theorem d_Model_merge_91 : decode prog_9_method_24_code 91 = .ok (.sipush 360, 3) := by decide +kernel
theorem d_Model_merge_94 : decode prog_9_method_24_code 94 = .ok (.aload_n 0, 1) := by decide +kernel
theorem d_Model_merge_95 : decode prog_9_method_24_code 95 = .ok (.aload_n 0, 1) := by decide +kernel
theorem d_Model_merge_96 : decode prog_9_method_24_code 96 = .ok (.iload_n 3, 1) := by decide +kernel
theorem d_Model_merge_97 : decode prog_9_method_24_code 97 = .ok (.iload 4, 2) := by decide +kernel
theorem d_Model_merge_99 : decode prog_9_method_24_code 99 = .ok (.invokevirtual 93, 3) := by decide +kernel
theorem d_Model_merge_102 : decode prog_9_method_24_code 102 = .ok (.iload_n 1, 1) := by decide +kernel
theorem d_Model_merge_103 : decode prog_9_method_24_code 103 = .ok (.invokevirtual 100, 3) := by decide +kernel
theorem d_Model_merge_106 : decode prog_9_method_24_code 106 = .ok (.invokevirtual 103, 3) := by decide +kernel
theorem d_Model_merge_109 : decode prog_9_method_24_code 109 = .ok (.iinc 4 1, 3) := by decide +kernel
theorem d_Model_merge_112 : decode prog_9_method_24_code 112 = .ok (.goto (-32), 3) := by decide +kernel
theorem d_Model_merge_115 : decode prog_9_method_24_code 115 = .ok (.return_, 1) := by decide +kernel
theorem d_Model_change_0 : decode prog_9_method_25_code 0 = .ok (.aload_n 0, 1) := by decide +kernel
theorem d_Model_change_1 : decode prog_9_method_25_code 1 = .ok (.iconst 0, 1) := by decide +kernel
theorem d_Model_change_2 : decode prog_9_method_25_code 2 = .ok (.putfield 82, 3) := by decide +kernel
theorem d_Model_change_5 : decode prog_9_method_25_code 5 = .ok (.aload_n 0, 1) := by decide +kernel
theorem d_Model_change_6 : decode prog_9_method_25_code 6 = .ok (.iload_n 1, 1) := by decide +kernel
theorem d_Model_change_7 : decode prog_9_method_25_code 7 = .ok (.iconst 4, 1) := by decide +kernel
theorem d_Model_change_8 : decode prog_9_method_25_code 8 = .ok (.invokevirtual 111, 3) := by decide +kernel
theorem d_Model_change_11 : decode prog_9_method_25_code 11 = .ok (.ifCond .ne 20, 3) := by decide +kernel
theorem d_Model_change_14 : decode prog_9_method_25_code 14 = .ok (.aload_n 0, 1) := by decide +kernel
theorem d_Model_change_15 : decode prog_9_method_25_code 15 = .ok (.iload_n 2, 1) := by decide +kernel
theorem d_Model_change_16 : decode prog_9_method_25_code 16 = .ok (.iconst 2, 1) := by decide +kernel
theorem d_Model_change_17 : decode prog_9_method_25_code 17 = .ok (.invokevirtual 111, 3) := by decide +kernel
theorem d_Model_change_20 : decode prog_9_method_25_code 20 = .ok (.ifCond .ne 11, 3) := by decide +kernel
theorem d_Model_change_23 : decode prog_9_method_25_code 23 = .ok (.aload_n 0, 1) := by decide +kernel
theorem d_Model_change_24 : decode prog_9_method_25_code 24 = .ok (.iload_n 3, 1) := by decide +kernel
theorem d_Model_change_25 : decode prog_9_method_25_code 25 = .ok (.invokevirtual 134, 3) := by decide +kernel
theorem d_Model_change_28 : decode prog_9_method_25_code 28 = .ok (.ifCond .eq 9, 3) := by decide +kernel
theorem d_Model_change_31 : decode prog_9_method_25_code 31 = .ok (.aload_n 0, 1) := by decide +kernel
theorem d_Model_change_32 : decode prog_9_method_25_code 32 = .ok (.iconst 1, 1) := by decide +kernel
theorem d_Model_change_33 : decode prog_9_method_25_code 33 = .ok (.invokevirtual 114, 3) := by decide +kernel
theorem d_Model_change_36 : decode prog_9_method_25_code 36 = .ok (.ireturn, 1) := by decide +kernel
theorem d_Model_change_37 : decode prog_9_method_25_code 37 = .ok (.aload_n 0, 1) := by decide +kernel
theorem d_Model_change_38 : decode prog_9_method_25_code 38 = .ok (.getfield 48, 3) := by decide +kernel
theorem d_Model_change_41 : decode prog_9_method_25_code 41 = .ok (.iload_n 1, 1) := by decide +kernel
theorem d_Model_change_42 : decode prog_9_method_25_code 42 = .ok (.iaload, 1) := by decide +kernel
theorem d_Model_change_43 : decode prog_9_method_25_code 43 = .ok (.aload_n 0, 1) := by decide +kernel
theorem d_Model_change_44 : decode prog_9_method_25_code 44 = .ok (.getfield 38, 3) := by decide +kernel
theorem d_Model_change_47 : decode prog_9_method_25_code 47 = .ok (.if_icmp .ne 42, 3) := by decide +kernel
theorem d_Model_change_50 : decode prog_9_method_25_code 50 = .ok (.aload_n 0, 1) := by decide +kernel
theorem d_Model_change_51 : decode prog_9_method_25_code 51 = .ok (.iload_n 3, 1) := by decide +kernel
theorem d_Model_change_52 : decode prog_9_method_25_code 52 = .ok (.invokevirtual 137, 3) := by decide +kernel
theorem d_Model_change_55 : decode prog_9_method_25_code 55 = .ok (.aload_n 0, 1) := by decide +kernel
theorem d_Model_change_56 : decode prog_9_method_25_code 56 = .ok (.iload_n 3, 1) := by decide +kernel
theorem d_Model_change_57 : decode prog_9_method_25_code 57 = .ok (.invokevirtual 85, 3) := by decide +kernel
theorem d_Model_change_60 : decode prog_9_method_25_code 60 = .ok (.if_icmp .ne 29, 3) := by decide +kernel
theorem d_Model_change_63 : decode prog_9_method_25_code 63 = .ok (.aload_n 0, 1) := by decide +kernel
