theorem d_Model_change_64 : decode prog_9_method_25_code 64 = .ok (.aload_n 0, 1) := by decide +kernel
theorem d_Model_change_65 : decode prog_9_method_25_code 65 = .ok (.getfield 42, 3) := by decide +kernel
theorem d_Model_change_68 : decode prog_9_method_25_code 68 = .ok (.iconst 0, 1) := by decide +kernel
theorem d_Model_change_69 : decode prog_9_method_25_code 69 = .ok (.iaload, 1) := by decide +kernel
theorem d_Model_change_70 : decode prog_9_method_25_code 70 = .ok (.invokevirtual 137, 3) := by decide +kernel
theorem d_Model_change_73 : decode prog_9_method_25_code 73 = .ok (.ifCond .eq 16, 3) := by decide +kernel
theorem d_Model_change_76 : decode prog_9_method_25_code 76 = .ok (.aload_n 0, 1) := by decide +kernel
theorem d_Model_change_77 : decode prog_9_method_25_code 77 = .ok (.aload_n 0, 1) := by decide +kernel
theorem d_Model_change_78 : decode prog_9_method_25_code 78 = .ok (.getfield 42, 3) := by decide +kernel
theorem d_Model_change_81 : decode prog_9_method_25_code 81 = .ok (.iconst 1, 1) := by decide +kernel
theorem d_Model_change_82 : decode prog_9_method_25_code 82 = .ok (.iaload, 1) := by decide +kernel
theorem d_Model_change_83 : decode prog_9_method_25_code 83 = .ok (.invokevirtual 137, 3) := by decide +kernel
theorem d_Model_change_86 : decode prog_9_method_25_code 86 = .ok (.ifCond .ne 9, 3) := by decide +kernel
theorem d_Model_change_89 : decode prog_9_method_25_code 89 = .ok (.aload_n 0, 1) := by decide +kernel
theorem d_Model_change_90 : decode prog_9_method_25_code 90 = .ok (.iconst 2, 1) := by decide +kernel
theorem d_Model_change_91 : decode prog_9_method_25_code 91 = .ok (.invokevirtual 114, 3) := by decide +kernel
theorem d_Model_change_94 : decode prog_9_method_25_code 94 = .ok (.ireturn, 1) := by decide +kernel
theorem d_Model_change_95 : decode prog_9_method_25_code 95 = .ok (.aload_n 0, 1) := by decide +kernel
theorem d_Model_change_96 : decode prog_9_method_25_code 96 = .ok (.aload_n 0, 1) := by decide +kernel
theorem d_Model_change_97 : decode prog_9_method_25_code 97 = .ok (.getfield 42, 3) := by decide +kernel
theorem d_Model_change_100 : decode prog_9_method_25_code 100 = .ok (.iconst 0, 1) := by decide +kernel
theorem d_Model_change_101 : decode prog_9_method_25_code 101 = .ok (.iaload, 1) := by decide +kernel
theorem d_Model_change_102 : decode prog_9_method_25_code 102 = .ok (.invokevirtual 140, 3) := by decide +kernel
theorem d_Model_change_105 : decode prog_9_method_25_code 105 = .ok (.aload_n 0, 1) := by decide +kernel
theorem d_Model_change_106 : decode prog_9_method_25_code 106 = .ok (.aload_n 0, 1) := by decide +kernel
theorem d_Model_change_107 : decode prog_9_method_25_code 107 = .ok (.getfield 42, 3) := by decide +kernel
theorem d_Model_change_110 : decode prog_9_method_25_code 110 = .ok (.iconst 1, 1) := by decide +kernel
theorem d_Model_change_111 : decode prog_9_method_25_code 111 = .ok (.iaload, 1) := by decide +kernel
theorem d_Model_change_112 : decode prog_9_method_25_code 112 = .ok (.invokevirtual 140, 3) := by decide +kernel
theorem d_Model_change_115 : decode prog_9_method_25_code 115 = .ok (.aload_n 0, 1) := by decide +kernel
theorem d_Model_change_116 : decode prog_9_method_25_code 116 = .ok (.iload_n 3, 1) := by decide +kernel
theorem d_Model_change_117 : decode prog_9_method_25_code 117 = .ok (.invokevirtual 140, 3) := by decide +kernel
theorem d_Model_change_120 : decode prog_9_method_25_code 120 = .ok (.iload_n 2, 1) := by decide +kernel
theorem d_Model_change_121 : decode prog_9_method_25_code 121 = .ok (.istore 4, 2) := by decide +kernel
theorem d_Model_change_123 : decode prog_9_method_25_code 123 = .ok (.iload 4, 2) := by decide +kernel
theorem d_Model_change_125 : decode prog_9_method_25_code 125 = .ok (.bipush 60, 2) := by decide +kernel
theorem d_Model_change_127 : decode prog_9_method_25_code 127 = .ok (.if_icmp .ge 22, 3) := by decide +kernel
theorem d_Model_change_130 : decode prog_9_method_25_code 130 = .ok (.aload_n 0, 1) := by decide +kernel
theorem d_Model_change_131 : decode prog_9_method_25_code 131 = .ok (.iload 4, 2) := by decide +kernel
theorem d_Model_change_133 : decode prog_9_method_25_code 133 = .ok (.aload_n 0, 1) := by decide +kernel
theorem d_Model_change_134 : decode prog_9_method_25_code 134 = .ok (.getfield 42, 3) := by decide +kernel
theorem d_Model_change_137 : decode prog_9_method_25_code 137 = .ok (.iload_n 2, 1) := by decide +kernel
theorem d_Model_change_138 : decode prog_9_method_25_code 138 = .ok (.iaload, 1) := by decide +kernel
theorem d_Model_change_139 : decode prog_9_method_25_code 139 = .ok (.iload_n 3, 1) := by decide +kernel
theorem d_Model_change_140 : decode prog_9_method_25_code 140 = .ok (.invokevirtual 143, 3) := by decide +kernel
theorem d_Model_change_143 : decode prog_9_method_25_code 143 = .ok (.iinc 4 2, 3) := by decide +kernel
theorem d_Model_change_146 : decode prog_9_method_25_code 146 = .ok (.goto (-23), 3) := by decide +kernel
theorem d_Model_change_149 : decode prog_9_method_25_code 149 = .ok (.aload_n 0, 1) := by decide +kernel
theorem d_Model_change_150 : decode prog_9_method_25_code 150 = .ok (.getfield 42, 3) := by decide +kernel
theorem d_Model_change_153 : decode prog_9_method_25_code 153 = .ok (.iload_n 2, 1) := by decide +kernel
theorem d_Model_change_154 : decode prog_9_method_25_code 154 = .ok (.iload_n 3, 1) := by decide +kernel
theorem d_Model_change_155 : decode prog_9_method_25_code 155 = .ok (.iastore, 1) := by decide +kernel
theorem d_Model_change_156 : decode prog_9_method_25_code 156 = .ok (.aload_n 0, 1) := by decide +kernel
theorem d_Model_change_157 : decode prog_9_method_25_code 157 = .ok (.dup, 1) := by decide +kernel
theorem d_Model_change_158 : decode prog_9_method_25_code 158 = .ok (.getfield 38, 3) := by decide +kernel
theorem d_Model_change_161 : decode prog_9_method_25_code 161 = .ok (.iconst 1, 1) := by decide +kernel
theorem d_Model_change_162 : decode prog_9_method_25_code 162 = .ok (.iadd, 1) := by decide +kernel
theorem d_Model_change_163 : decode prog_9_method_25_code 163 = .ok (.putfield 38, 3) := by decide +kernel
theorem d_Model_change_166 : decode prog_9_method_25_code 166 = .ok (.aload_n 0, 1) := by decide +kernel
theorem d_Model_change_167 : decode prog_9_method_25_code 167 = .ok (.iload_n 1, 1) := by decide +kernel
theorem d_Model_change_168 : decode prog_9_method_25_code 168 = .ok (.invokevirtual 78, 3) := by decide +kernel
theorem d_Model_change_171 : decode prog_9_method_25_code 171 = .ok (.aload_n 0, 1) := by decide +kernel
theorem d_Model_change_172 : decode prog_9_method_25_code 172 = .ok (.iconst 0, 1) := by decide +kernel
theorem d_Model_change_173 : decode prog_9_method_25_code 173 = .ok (.putfield 107, 3) := by decide +kernel
theorem d_Model_change_176 : decode prog_9_method_25_code 176 = .ok (.aload_n 0, 1) := by decide +kernel
theorem d_Model_change_177 : decode prog_9_method_25_code 177 = .ok (.aload_n 0, 1) := by decide +kernel
theorem d_Model_change_178 : decode prog_9_method_25_code 178 = .ok (.getfield 38, 3) := by decide +kernel
theorem d_Model_change_181 : decode prog_9_method_25_code 181 = .ok (.putfield 45, 3) := by decide +kernel
theorem d_Model_change_184 : decode prog_9_method_25_code 184 = .ok (.aload_n 0, 1) := by decide +kernel
theorem d_Model_change_185 : decode prog_9_method_25_code 185 = .ok (.iconst 0, 1) := by decide +kernel
theorem d_Model_change_186 : decode prog_9_method_25_code 186 = .ok (.putfield 121, 3) := by decide +kernel
theorem d_Model_change_189 : decode prog_9_method_25_code 189 = .ok (.iconst 0, 1) := by decide +kernel
theorem d_Model_change_190 : decode prog_9_method_25_code 190 = .ok (.istore 4, 2) := by decide +kernel
theorem d_Model_change_192 : decode prog_9_method_25_code 192 = .ok (.iload 4, 2) := by decide +kernel
theorem d_Model_change_194 : decode prog_9_method_25_code 194 = .ok (.bipush 60, 2) := by decide +kernel
theorem d_Model_change_196 : decode prog_9_method_25_code 196 = .ok (.if_icmp .ge 86, 3) := by decide +kernel
theorem d_Model_change_199 : decode prog_9_method_25_code 199 = .ok (.aload_n 0, 1) := by decide +kernel
theorem d_Model_change_200 : decode prog_9_method_25_code 200 = .ok (.getfield 42, 3) := by decide +kernel
theorem d_Model_change_203 : decode prog_9_method_25_code 203 = .ok (.iload 4, 2) := by decide +kernel
theorem d_Model_change_205 : decode prog_9_method_25_code 205 = .ok (.iconst 2, 1) := by decide +kernel
theorem d_Model_change_206 : decode prog_9_method_25_code 206 = .ok (.irem, 1) := by decide +kernel
theorem d_Model_change_207 : decode prog_9_method_25_code 207 = .ok (.iaload, 1) := by decide +kernel
theorem d_Model_change_208 : decode prog_9_method_25_code 208 = .ok (.istore 5, 2) := by decide +kernel
theorem d_Model_change_210 : decode prog_9_method_25_code 210 = .ok (.iconst 0, 1) := by decide +kernel
theorem d_Model_change_211 : decode prog_9_method_25_code 211 = .ok (.istore 6, 2) := by decide +kernel
theorem d_Model_change_213 : decode prog_9_method_25_code 213 = .ok (.iload 6, 2) := by decide +kernel
theorem d_Model_change_215 : decode prog_9_method_25_code 215 = .ok (.aload_n 0, 1) := by decide +kernel
theorem d_Model_change_216 : decode prog_9_method_25_code 216 = .ok (.iload 5, 2) := by decide +kernel
theorem d_Model_change_218 : decode prog_9_method_25_code 218 = .ok (.invokevirtual 85, 3) := by decide +kernel
theorem d_Model_change_221 : decode prog_9_method_25_code 221 = .ok (.if_icmp .ge 55, 3) := by decide +kernel
theorem d_Model_change_224 : decode prog_9_method_25_code 224 = .ok (.aload_n 0, 1) := by decide +kernel
theorem d_Model_change_225 : decode prog_9_method_25_code 225 = .ok (.getfield 31, 3) := by decide +kernel
theorem d_Model_change_228 : decode prog_9_method_25_code 228 = .ok (.aload_n 0, 1) := by decide +kernel
theorem d_Model_change_229 : decode prog_9_method_25_code 229 = .ok (.iload 5, 2) := by decide +kernel
theorem d_Model_change_231 : decode prog_9_method_25_code 231 = .ok (.iload 6, 2) := by decide +kernel
theorem d_Model_change_233 : decode prog_9_method_25_code 233 = .ok (.invokevirtual 93, 3) := by decide +kernel
theorem d_Model_change_236 : decode prog_9_method_25_code 236 = .ok (.baload, 1) := by decide +kernel
theorem d_Model_change_237 : decode prog_9_method_25_code 237 = .ok (.ifCond .ne 33, 3) := by decide +kernel
theorem d_Model_change_240 : decode prog_9_method_25_code 240 = .ok (.aload_n 0, 1) := by decide +kernel
theorem d_Model_change_241 : decode prog_9_method_25_code 241 = .ok (.getfield 7, 3) := by decide +kernel
theorem d_Model_change_244 : decode prog_9_method_25_code 244 = .ok (.aload_n 0, 1) := by decide +kernel
theorem d_Model_change_245 : decode prog_9_method_25_code 245 = .ok (.aload_n 0, 1) := by decide +kernel
theorem d_Model_change_246 : decode prog_9_method_25_code 246 = .ok (.iload 5, 2) := by decide +kernel
theorem d_Model_change_248 : decode prog_9_method_25_code 248 = .ok (.iload 6, 2) := by decide +kernel
theorem d_Model_change_250 : decode prog_9_method_25_code 250 = .ok (.invokevirtual 93, 3) := by decide +kernel
theorem d_Model_change_253 : decode prog_9_method_25_code 253 = .ok (.iload 4, 2) := by decide +kernel
theorem d_Model_change_255 : decode prog_9_method_25_code 255 = .ok (.invokevirtual 100, 3) := by decide +kernel
theorem d_Model_change_258 : decode prog_9_method_25_code 258 = .ok (.iaload, 1) := by decide +kernel
theorem d_Model_change_259 : decode prog_9_method_25_code 259 = .ok (.ifCond .eq 11, 3) := by decide +kernel
theorem d_Model_change_262 : decode prog_9_method_25_code 262 = .ok (.aload_n 0, 1) := by decide +kernel
theorem d_Model_change_263 : decode prog_9_method_25_code 263 = .ok (.iload 4, 2) := by decide +kernel
theorem d_Model_change_265 : decode prog_9_method_25_code 265 = .ok (.iconst 1, 1) := by decide +kernel
theorem d_Model_change_266 : decode prog_9_method_25_code 266 = .ok (.iadd, 1) := by decide +kernel
theorem d_Model_change_267 : decode prog_9_method_25_code 267 = .ok (.putfield 121, 3) := by decide +kernel
theorem d_Model_change_270 : decode prog_9_method_25_code 270 = .ok (.iinc 6 1, 3) := by decide +kernel
theorem d_Model_change_273 : decode prog_9_method_25_code 273 = .ok (.goto (-60), 3) := by decide +kernel
theorem d_Model_change_276 : decode prog_9_method_25_code 276 = .ok (.iinc 4 1, 3) := by decide +kernel
theorem d_Model_change_279 : decode prog_9_method_25_code 279 = .ok (.goto (-87), 3) := by decide +kernel
theorem d_Model_change_282 : decode prog_9_method_25_code 282 = .ok (.aload_n 0, 1) := by decide +kernel
theorem d_Model_change_283 : decode prog_9_method_25_code 283 = .ok (.getfield 121, 3) := by decide +kernel
theorem d_Model_change_286 : decode prog_9_method_25_code 286 = .ok (.ireturn, 1) := by decide +kernel
theorem d_Model_up_0 : decode prog_9_method_26_code 0 = .ok (.aload_n 0, 1) := by decide +kernel
theorem d_Model_up_1 : decode prog_9_method_26_code 1 = .ok (.iconst 0, 1) := by decide +kernel
theorem d_Model_up_2 : decode prog_9_method_26_code 2 = .ok (.putfield 82, 3) := by decide +kernel
theorem d_Model_up_5 : decode prog_9_method_26_code 5 = .ok (.aload_n 0, 1) := by decide +kernel
theorem d_Model_up_6 : decode prog_9_method_26_code 6 = .ok (.iload_n 1, 1) := by decide +kernel
theorem d_Model_up_7 : decode prog_9_method_26_code 7 = .ok (.bipush 6, 2) := by decide +kernel
theorem d_Model_up_9 : decode prog_9_method_26_code 9 = .ok (.invokevirtual 111, 3) := by decide +kernel
theorem d_Model_up_12 : decode prog_9_method_26_code 12 = .ok (.ifCond .eq 9, 3) := by decide +kernel
theorem d_Model_up_15 : decode prog_9_method_26_code 15 = .ok (.aload_n 0, 1) := by decide +kernel
theorem d_Model_up_16 : decode prog_9_method_26_code 16 = .ok (.iconst 1, 1) := by decide +kernel
theorem d_Model_up_17 : decode prog_9_method_26_code 17 = .ok (.invokevirtual 114, 3) := by decide +kernel
theorem d_Model_up_20 : decode prog_9_method_26_code 20 = .ok (.ireturn, 1) := by decide +kernel
theorem d_Model_up_21 : decode prog_9_method_26_code 21 = .ok (.aload_n 0, 1) := by decide +kernel
theorem d_Model_up_22 : decode prog_9_method_26_code 22 = .ok (.getfield 31, 3) := by decide +kernel
theorem d_Model_up_25 : decode prog_9_method_26_code 25 = .ok (.iload_n 1, 1) := by decide +kernel
theorem d_Model_up_26 : decode prog_9_method_26_code 26 = .ok (.iload_n 2, 1) := by decide +kernel
theorem d_Model_up_27 : decode prog_9_method_26_code 27 = .ok (.ifCond .ne 7, 3) := by decide +kernel
theorem d_Model_up_30 : decode prog_9_method_26_code 30 = .ok (.iconst 1, 1) := by decide +kernel
theorem d_Model_up_31 : decode prog_9_method_26_code 31 = .ok (.goto 4, 3) := by decide +kernel
theorem d_Model_up_34 : decode prog_9_method_26_code 34 = .ok (.iconst 0, 1) := by decide +kernel
theorem d_Model_up_35 : decode prog_9_method_26_code 35 = .ok (.bastore, 1) := by decide +kernel
theorem d_Model_up_36 : decode prog_9_method_26_code 36 = .ok (.aload_n 0, 1) := by decide +kernel
theorem d_Model_up_37 : decode prog_9_method_26_code 37 = .ok (.getfield 35, 3) := by decide +kernel
theorem d_Model_up_40 : decode prog_9_method_26_code 40 = .ok (.iload_n 1, 1) := by decide +kernel
theorem d_Model_up_41 : decode prog_9_method_26_code 41 = .ok (.iaload, 1) := by decide +kernel
theorem d_Model_up_42 : decode prog_9_method_26_code 42 = .ok (.ireturn, 1) := by decide +kernel
theorem d_Model_lose_0 : decode prog_9_method_27_code 0 = .ok (.aload_n 0, 1) := by decide +kernel
theorem d_Model_lose_1 : decode prog_9_method_27_code 1 = .ok (.iconst 0, 1) := by decide +kernel
theorem d_Model_lose_2 : decode prog_9_method_27_code 2 = .ok (.putfield 82, 3) := by decide +kernel
theorem d_Model_lose_5 : decode prog_9_method_27_code 5 = .ok (.aload_n 0, 1) := by decide +kernel
theorem d_Model_lose_6 : decode prog_9_method_27_code 6 = .ok (.iconst 1, 1) := by decide +kernel
theorem d_Model_lose_7 : decode prog_9_method_27_code 7 = .ok (.putfield 107, 3) := by decide +kernel
theorem d_Model_lose_10 : decode prog_9_method_27_code 10 = .ok (.aload_n 0, 1) := by decide +kernel
theorem d_Model_lose_11 : decode prog_9_method_27_code 11 = .ok (.getfield 121, 3) := by decide +kernel
theorem d_Model_lose_14 : decode prog_9_method_27_code 14 = .ok (.ireturn, 1) := by decide +kernel
theorem d_Model_sameAges_0 : decode prog_9_method_28_code 0 = .ok (.iconst 1, 1) := by decide +kernel
theorem d_Model_sameAges_1 : decode prog_9_method_28_code 1 = .ok (.istore 5, 2) := by decide +kernel
theorem d_Model_sameAges_3 : decode prog_9_method_28_code 3 = .ok (.iconst 0, 1) := by decide +kernel
theorem d_Model_sameAges_4 : decode prog_9_method_28_code 4 = .ok (.istore 6, 2) := by decide +kernel
theorem d_Model_sameAges_6 : decode prog_9_method_28_code 6 = .ok (.iload 6, 2) := by decide +kernel
theorem d_Model_sameAges_8 : decode prog_9_method_28_code 8 = .ok (.iconst 4, 1) := by decide +kernel
theorem d_Model_sameAges_9 : decode prog_9_method_28_code 9 = .ok (.if_icmp .ge 49, 3) := by decide +kernel
theorem d_Model_sameAges_12 : decode prog_9_method_28_code 12 = .ok (.iload 5, 2) := by decide +kernel
theorem d_Model_sameAges_14 : decode prog_9_method_28_code 14 = .ok (.iload_n 2, 1) := by decide +kernel
theorem d_Model_sameAges_15 : decode prog_9_method_28_code 15 = .ok (.iload 6, 2) := by decide +kernel
theorem d_Model_sameAges_17 : decode prog_9_method_28_code 17 = .ok (.ishr, 1) := by decide +kernel
theorem d_Model_sameAges_18 : decode prog_9_method_28_code 18 = .ok (.iconst 1, 1) := by decide +kernel
theorem d_Model_sameAges_19 : decode prog_9_method_28_code 19 = .ok (.iand, 1) := by decide +kernel
theorem d_Model_sameAges_20 : decode prog_9_method_28_code 20 = .ok (.ifCond .eq 24, 3) := by decide +kernel
theorem d_Model_sameAges_23 : decode prog_9_method_28_code 23 = .ok (.aload_n 0, 1) := by decide +kernel
theorem d_Model_sameAges_24 : decode prog_9_method_28_code 24 = .ok (.getfield 60, 3) := by decide +kernel
theorem d_Model_sameAges_27 : decode prog_9_method_28_code 27 = .ok (.iconst 4, 1) := by decide +kernel
theorem d_Model_sameAges_28 : decode prog_9_method_28_code 28 = .ok (.iload_n 1, 1) := by decide +kernel
theorem d_Model_sameAges_29 : decode prog_9_method_28_code 29 = .ok (.imul, 1) := by decide +kernel
theorem d_Model_sameAges_30 : decode prog_9_method_28_code 30 = .ok (.iload 6, 2) := by decide +kernel
theorem d_Model_sameAges_32 : decode prog_9_method_28_code 32 = .ok (.iadd, 1) := by decide +kernel
theorem d_Model_sameAges_33 : decode prog_9_method_28_code 33 = .ok (.iaload, 1) := by decide +kernel
theorem d_Model_sameAges_34 : decode prog_9_method_28_code 34 = .ok (.aload_n 3, 1) := by decide +kernel
theorem d_Model_sameAges_35 : decode prog_9_method_28_code 35 = .ok (.iload 4, 2) := by decide +kernel
theorem d_Model_sameAges_37 : decode prog_9_method_28_code 37 = .ok (.iload 6, 2) := by decide +kernel
theorem d_Model_sameAges_39 : decode prog_9_method_28_code 39 = .ok (.iadd, 1) := by decide +kernel
theorem d_Model_sameAges_40 : decode prog_9_method_28_code 40 = .ok (.iaload, 1) := by decide +kernel
theorem d_Model_sameAges_41 : decode prog_9_method_28_code 41 = .ok (.if_icmp .ne 7, 3) := by decide +kernel
theorem d_Model_sameAges_44 : decode prog_9_method_28_code 44 = .ok (.iconst 1, 1) := by decide +kernel
theorem d_Model_sameAges_45 : decode prog_9_method_28_code 45 = .ok (.goto 4, 3) := by decide +kernel
theorem d_Model_sameAges_48 : decode prog_9_method_28_code 48 = .ok (.iconst 0, 1) := by decide +kernel
theorem d_Model_sameAges_49 : decode prog_9_method_28_code 49 = .ok (.iand, 1) := by decide +kernel
theorem d_Model_sameAges_50 : decode prog_9_method_28_code 50 = .ok (.istore 5, 2) := by decide +kernel
theorem d_Model_sameAges_52 : decode prog_9_method_28_code 52 = .ok (.iinc 6 1, 3) := by decide +kernel
theorem d_Model_sameAges_55 : decode prog_9_method_28_code 55 = .ok (.goto (-49), 3) := by decide +kernel
theorem d_Model_sameAges_58 : decode prog_9_method_28_code 58 = .ok (.iload 5, 2) := by decide +kernel
theorem d_Model_sameAges_60 : decode prog_9_method_28_code 60 = .ok (.ireturn, 1) := by decide +kernel
theorem d_Model_place_0 : decode prog_9_method_29_code 0 = .ok (.aload_n 0, 1) := by decide +kernel
theorem d_Model_place_1 : decode prog_9_method_29_code 1 = .ok (.getfield 57, 3) := by decide +kernel
theorem d_Model_place_4 : decode prog_9_method_29_code 4 = .ok (.iconst 4, 1) := by decide +kernel
theorem d_Model_place_5 : decode prog_9_method_29_code 5 = .ok (.iload_n 1, 1) := by decide +kernel
theorem d_Model_place_6 : decode prog_9_method_29_code 6 = .ok (.imul, 1) := by decide +kernel
theorem d_Model_place_7 : decode prog_9_method_29_code 7 = .ok (.iload_n 2, 1) := by decide +kernel
theorem d_Model_place_8 : decode prog_9_method_29_code 8 = .ok (.iadd, 1) := by decide +kernel
theorem d_Model_place_9 : decode prog_9_method_29_code 9 = .ok (.iload_n 3, 1) := by decide +kernel
theorem d_Model_place_10 : decode prog_9_method_29_code 10 = .ok (.iastore, 1) := by decide +kernel
theorem d_Model_place_11 : decode prog_9_method_29_code 11 = .ok (.aload_n 0, 1) := by decide +kernel
theorem d_Model_place_12 : decode prog_9_method_29_code 12 = .ok (.getfield 60, 3) := by decide +kernel
theorem d_Model_place_15 : decode prog_9_method_29_code 15 = .ok (.iconst 4, 1) := by decide +kernel
theorem d_Model_place_16 : decode prog_9_method_29_code 16 = .ok (.iload_n 1, 1) := by decide +kernel
theorem d_Model_place_17 : decode prog_9_method_29_code 17 = .ok (.imul, 1) := by decide +kernel
theorem d_Model_place_18 : decode prog_9_method_29_code 18 = .ok (.iload_n 2, 1) := by decide +kernel
theorem d_Model_place_19 : decode prog_9_method_29_code 19 = .ok (.iadd, 1) := by decide +kernel
theorem d_Model_place_20 : decode prog_9_method_29_code 20 = .ok (.aload_n 0, 1) := by decide +kernel
theorem d_Model_place_21 : decode prog_9_method_29_code 21 = .ok (.getfield 54, 3) := by decide +kernel
theorem d_Model_place_24 : decode prog_9_method_29_code 24 = .ok (.iload_n 1, 1) := by decide +kernel
theorem d_Model_place_25 : decode prog_9_method_29_code 25 = .ok (.iaload, 1) := by decide +kernel
theorem d_Model_place_26 : decode prog_9_method_29_code 26 = .ok (.iconst 1, 1) := by decide +kernel
theorem d_Model_place_27 : decode prog_9_method_29_code 27 = .ok (.iadd, 1) := by decide +kernel
theorem d_Model_place_28 : decode prog_9_method_29_code 28 = .ok (.iastore, 1) := by decide +kernel
theorem d_Model_place_29 : decode prog_9_method_29_code 29 = .ok (.return_, 1) := by decide +kernel
theorem d_Model_play_0 : decode prog_9_method_30_code 0 = .ok (.aload_n 0, 1) := by decide +kernel
theorem d_Model_play_1 : decode prog_9_method_30_code 1 = .ok (.getfield 54, 3) := by decide +kernel
theorem d_Model_play_4 : decode prog_9_method_30_code 4 = .ok (.iload_n 1, 1) := by decide +kernel
theorem d_Model_play_5 : decode prog_9_method_30_code 5 = .ok (.iaload, 1) := by decide +kernel
theorem d_Model_play_6 : decode prog_9_method_30_code 6 = .ok (.iload_n 2, 1) := by decide +kernel
theorem d_Model_play_7 : decode prog_9_method_30_code 7 = .ok (.if_icmp .ge 178, 3) := by decide +kernel
theorem d_Model_play_10 : decode prog_9_method_30_code 10 = .ok (.aload_n 0, 1) := by decide +kernel
theorem d_Model_play_11 : decode prog_9_method_30_code 11 = .ok (.iload_n 1, 1) := by decide +kernel
theorem d_Model_play_12 : decode prog_9_method_30_code 12 = .ok (.aload_n 0, 1) := by decide +kernel
theorem d_Model_play_13 : decode prog_9_method_30_code 13 = .ok (.getfield 54, 3) := by decide +kernel
theorem d_Model_play_16 : decode prog_9_method_30_code 16 = .ok (.iload_n 1, 1) := by decide +kernel
theorem d_Model_play_17 : decode prog_9_method_30_code 17 = .ok (.iaload, 1) := by decide +kernel
theorem d_Model_play_18 : decode prog_9_method_30_code 18 = .ok (.invokevirtual 128, 3) := by decide +kernel
theorem d_Model_play_21 : decode prog_9_method_30_code 21 = .ok (.istore_n 3, 1) := by decide +kernel
theorem d_Model_play_22 : decode prog_9_method_30_code 22 = .ok (.iload_n 3, 1) := by decide +kernel
theorem d_Model_play_23 : decode prog_9_method_30_code 23 = .ok (.ifCond .ge 5, 3) := by decide +kernel
theorem d_Model_play_26 : decode prog_9_method_30_code 26 = .ok (.iconst 1, 1) := by decide +kernel
theorem d_Model_play_27 : decode prog_9_method_30_code 27 = .ok (.ireturn, 1) := by decide +kernel
theorem d_Model_play_28 : decode prog_9_method_30_code 28 = .ok (.aload_n 0, 1) := by decide +kernel
theorem d_Model_play_29 : decode prog_9_method_30_code 29 = .ok (.getfield 7, 3) := by decide +kernel
theorem d_Model_play_32 : decode prog_9_method_30_code 32 = .ok (.iload_n 3, 1) := by decide +kernel
theorem d_Model_play_33 : decode prog_9_method_30_code 33 = .ok (.iaload, 1) := by decide +kernel
theorem d_Model_play_34 : decode prog_9_method_30_code 34 = .ok (.ifCond .ne 5, 3) := by decide +kernel
theorem d_Model_play_37 : decode prog_9_method_30_code 37 = .ok (.iconst 2, 1) := by decide +kernel
theorem d_Model_play_38 : decode prog_9_method_30_code 38 = .ok (.ireturn, 1) := by decide +kernel
theorem d_Model_play_39 : decode prog_9_method_30_code 39 = .ok (.aload_n 0, 1) := by decide +kernel
theorem d_Model_play_40 : decode prog_9_method_30_code 40 = .ok (.getfield 7, 3) := by decide +kernel
theorem d_Model_play_43 : decode prog_9_method_30_code 43 = .ok (.iload_n 3, 1) := by decide +kernel
theorem d_Model_play_44 : decode prog_9_method_30_code 44 = .ok (.iaload, 1) := by decide +kernel
theorem d_Model_play_45 : decode prog_9_method_30_code 45 = .ok (.iconst 4, 1) := by decide +kernel
theorem d_Model_play_46 : decode prog_9_method_30_code 46 = .ok (.if_icmp .ne 5, 3) := by decide +kernel
theorem d_Model_play_49 : decode prog_9_method_30_code 49 = .ok (.iconst 3, 1) := by decide +kernel
theorem d_Model_play_50 : decode prog_9_method_30_code 50 = .ok (.ireturn, 1) := by decide +kernel
theorem d_Model_play_51 : decode prog_9_method_30_code 51 = .ok (.aload_n 0, 1) := by decide +kernel
theorem d_Model_play_52 : decode prog_9_method_30_code 52 = .ok (.aload_n 0, 1) := by decide +kernel
theorem d_Model_play_53 : decode prog_9_method_30_code 53 = .ok (.getfield 7, 3) := by decide +kernel
theorem d_Model_play_56 : decode prog_9_method_30_code 56 = .ok (.iload_n 3, 1) := by decide +kernel
theorem d_Model_play_57 : decode prog_9_method_30_code 57 = .ok (.iaload, 1) := by decide +kernel
theorem d_Model_play_58 : decode prog_9_method_30_code 58 = .ok (.iconst 2, 1) := by decide +kernel
theorem d_Model_play_59 : decode prog_9_method_30_code 59 = .ok (.if_icmp .ne 28, 3) := by decide +kernel
theorem d_Model_play_62 : decode prog_9_method_30_code 62 = .ok (.aload_n 0, 1) := by decide +kernel
theorem d_Model_play_63 : decode prog_9_method_30_code 63 = .ok (.iload_n 1, 1) := by decide +kernel
theorem d_Model_play_64 : decode prog_9_method_30_code 64 = .ok (.aload_n 0, 1) := by decide +kernel
theorem d_Model_play_65 : decode prog_9_method_30_code 65 = .ok (.getfield 19, 3) := by decide +kernel
theorem d_Model_play_68 : decode prog_9_method_30_code 68 = .ok (.iload_n 3, 1) := by decide +kernel
theorem d_Model_play_69 : decode prog_9_method_30_code 69 = .ok (.iaload, 1) := by decide +kernel
theorem d_Model_play_70 : decode prog_9_method_30_code 70 = .ok (.aload_n 0, 1) := by decide +kernel
theorem d_Model_play_71 : decode prog_9_method_30_code 71 = .ok (.getfield 25, 3) := by decide +kernel
theorem d_Model_play_74 : decode prog_9_method_30_code 74 = .ok (.iconst 4, 1) := by decide +kernel
theorem d_Model_play_75 : decode prog_9_method_30_code 75 = .ok (.iload_n 3, 1) := by decide +kernel
theorem d_Model_play_76 : decode prog_9_method_30_code 76 = .ok (.imul, 1) := by decide +kernel
theorem d_Model_play_77 : decode prog_9_method_30_code 77 = .ok (.invokevirtual 147, 3) := by decide +kernel
theorem d_Model_play_80 : decode prog_9_method_30_code 80 = .ok (.ifCond .eq 7, 3) := by decide +kernel
theorem d_Model_play_83 : decode prog_9_method_30_code 83 = .ok (.iconst 1, 1) := by decide +kernel
theorem d_Model_play_84 : decode prog_9_method_30_code 84 = .ok (.goto 4, 3) := by decide +kernel
theorem d_Model_play_87 : decode prog_9_method_30_code 87 = .ok (.iconst 0, 1) := by decide +kernel
theorem d_Model_play_88 : decode prog_9_method_30_code 88 = .ok (.putfield 151, 3) := by decide +kernel
theorem d_Model_play_91 : decode prog_9_method_30_code 91 = .ok (.aload_n 0, 1) := by decide +kernel
theorem d_Model_play_92 : decode prog_9_method_30_code 92 = .ok (.getfield 7, 3) := by decide +kernel
theorem d_Model_play_95 : decode prog_9_method_30_code 95 = .ok (.iload_n 3, 1) := by decide +kernel
theorem d_Model_play_96 : decode prog_9_method_30_code 96 = .ok (.iaload, 1) := by decide +kernel
theorem d_Model_play_97 : decode prog_9_method_30_code 97 = .ok (.iconst 1, 1) := by decide +kernel
theorem d_Model_play_98 : decode prog_9_method_30_code 98 = .ok (.if_icmp .ne 20, 3) := by decide +kernel
theorem d_Model_play_101 : decode prog_9_method_30_code 101 = .ok (.aload_n 0, 1) := by decide +kernel
theorem d_Model_play_102 : decode prog_9_method_30_code 102 = .ok (.iload_n 1, 1) := by decide +kernel
theorem d_Model_play_103 : decode prog_9_method_30_code 103 = .ok (.aload_n 0, 1) := by decide +kernel
theorem d_Model_play_104 : decode prog_9_method_30_code 104 = .ok (.getfield 13, 3) := by decide +kernel
theorem d_Model_play_107 : decode prog_9_method_30_code 107 = .ok (.iload_n 3, 1) := by decide +kernel
theorem d_Model_play_108 : decode prog_9_method_30_code 108 = .ok (.iaload, 1) := by decide +kernel
theorem d_Model_play_109 : decode prog_9_method_30_code 109 = .ok (.aload_n 0, 1) := by decide +kernel
theorem d_Model_play_110 : decode prog_9_method_30_code 110 = .ok (.getfield 16, 3) := by decide +kernel
theorem d_Model_play_113 : decode prog_9_method_30_code 113 = .ok (.iload_n 3, 1) := by decide +kernel
theorem d_Model_play_114 : decode prog_9_method_30_code 114 = .ok (.iaload, 1) := by decide +kernel
theorem d_Model_play_115 : decode prog_9_method_30_code 115 = .ok (.invokevirtual 154, 3) := by decide +kernel
theorem d_Model_play_118 : decode prog_9_method_30_code 118 = .ok (.iconst 0, 1) := by decide +kernel
theorem d_Model_play_119 : decode prog_9_method_30_code 119 = .ok (.istore 4, 2) := by decide +kernel
theorem d_Model_play_121 : decode prog_9_method_30_code 121 = .ok (.iload 4, 2) := by decide +kernel
theorem d_Model_play_123 : decode prog_9_method_30_code 123 = .ok (.iconst 4, 1) := by decide +kernel
theorem d_Model_play_124 : decode prog_9_method_30_code 124 = .ok (.if_icmp .ge 48, 3) := by decide +kernel
theorem d_Model_play_127 : decode prog_9_method_30_code 127 = .ok (.aload_n 0, 1) := by decide +kernel
theorem d_Model_play_128 : decode prog_9_method_30_code 128 = .ok (.getfield 151, 3) := by decide +kernel
theorem d_Model_play_131 : decode prog_9_method_30_code 131 = .ok (.ifCond .eq 41, 3) := by decide +kernel
theorem d_Model_play_134 : decode prog_9_method_30_code 134 = .ok (.aload_n 0, 1) := by decide +kernel
theorem d_Model_play_135 : decode prog_9_method_30_code 135 = .ok (.getfield 22, 3) := by decide +kernel
theorem d_Model_play_138 : decode prog_9_method_30_code 138 = .ok (.iload_n 3, 1) := by decide +kernel
theorem d_Model_play_139 : decode prog_9_method_30_code 139 = .ok (.iaload, 1) := by decide +kernel
theorem d_Model_play_140 : decode prog_9_method_30_code 140 = .ok (.iload 4, 2) := by decide +kernel
theorem d_Model_play_142 : decode prog_9_method_30_code 142 = .ok (.ishr, 1) := by decide +kernel
theorem d_Model_play_143 : decode prog_9_method_30_code 143 = .ok (.iconst 1, 1) := by decide +kernel
theorem d_Model_play_144 : decode prog_9_method_30_code 144 = .ok (.iand, 1) := by decide +kernel
theorem d_Model_play_145 : decode prog_9_method_30_code 145 = .ok (.ifCond .eq 21, 3) := by decide +kernel
theorem d_Model_play_148 : decode prog_9_method_30_code 148 = .ok (.aload_n 0, 1) := by decide +kernel
theorem d_Model_play_149 : decode prog_9_method_30_code 149 = .ok (.iload_n 1, 1) := by decide +kernel
theorem d_Model_play_150 : decode prog_9_method_30_code 150 = .ok (.iload 4, 2) := by decide +kernel
theorem d_Model_play_152 : decode prog_9_method_30_code 152 = .ok (.aload_n 0, 1) := by decide +kernel
theorem d_Model_play_153 : decode prog_9_method_30_code 153 = .ok (.getfield 28, 3) := by decide +kernel
theorem d_Model_play_156 : decode prog_9_method_30_code 156 = .ok (.iconst 4, 1) := by decide +kernel
theorem d_Model_play_157 : decode prog_9_method_30_code 157 = .ok (.iload_n 3, 1) := by decide +kernel
theorem d_Model_play_158 : decode prog_9_method_30_code 158 = .ok (.imul, 1) := by decide +kernel
theorem d_Model_play_159 : decode prog_9_method_30_code 159 = .ok (.iload 4, 2) := by decide +kernel
theorem d_Model_play_161 : decode prog_9_method_30_code 161 = .ok (.iadd, 1) := by decide +kernel
theorem d_Model_play_162 : decode prog_9_method_30_code 162 = .ok (.iaload, 1) := by decide +kernel
theorem d_Model_play_163 : decode prog_9_method_30_code 163 = .ok (.invokevirtual 154, 3) := by decide +kernel
theorem d_Model_play_166 : decode prog_9_method_30_code 166 = .ok (.iinc 4 1, 3) := by decide +kernel
theorem d_Model_play_169 : decode prog_9_method_30_code 169 = .ok (.goto (-48), 3) := by decide +kernel
theorem d_Model_play_172 : decode prog_9_method_30_code 172 = .ok (.aload_n 0, 1) := by decide +kernel
theorem d_Model_play_173 : decode prog_9_method_30_code 173 = .ok (.getfield 54, 3) := by decide +kernel
theorem d_Model_play_176 : decode prog_9_method_30_code 176 = .ok (.iload_n 1, 1) := by decide +kernel
theorem d_Model_play_177 : decode prog_9_method_30_code 177 = .ok (.dup2, 1) := by decide +kernel
theorem d_Model_play_178 : decode prog_9_method_30_code 178 = .ok (.iaload, 1) := by decide +kernel
theorem d_Model_play_179 : decode prog_9_method_30_code 179 = .ok (.iconst 1, 1) := by decide +kernel
theorem d_Model_play_180 : decode prog_9_method_30_code 180 = .ok (.iadd, 1) := by decide +kernel
theorem d_Model_play_181 : decode prog_9_method_30_code 181 = .ok (.iastore, 1) := by decide +kernel
theorem d_Model_play_182 : decode prog_9_method_30_code 182 = .ok (.goto (-182), 3) := by decide +kernel
theorem d_Model_play_185 : decode prog_9_method_30_code 185 = .ok (.iconst 0, 1) := by decide +kernel
theorem d_Model_play_186 : decode prog_9_method_30_code 186 = .ok (.ireturn, 1) := by decide +kernel
theorem d_Model_sync_0 : decode prog_9_method_31_code 0 = .ok (.aload_n 0, 1) := by decide +kernel
theorem d_Model_sync_1 : decode prog_9_method_31_code 1 = .ok (.iconst 0, 1) := by decide +kernel
theorem d_Model_sync_2 : decode prog_9_method_31_code 2 = .ok (.putfield 82, 3) := by decide +kernel
theorem d_Model_sync_5 : decode prog_9_method_31_code 5 = .ok (.aload_n 0, 1) := by decide +kernel
theorem d_Model_sync_6 : decode prog_9_method_31_code 6 = .ok (.iload_n 1, 1) := by decide +kernel
theorem d_Model_sync_7 : decode prog_9_method_31_code 7 = .ok (.iconst 4, 1) := by decide +kernel
theorem d_Model_sync_8 : decode prog_9_method_31_code 8 = .ok (.invokevirtual 111, 3) := by decide +kernel
theorem d_Model_sync_11 : decode prog_9_method_31_code 11 = .ok (.ifCond .eq 9, 3) := by decide +kernel
theorem d_Model_sync_14 : decode prog_9_method_31_code 14 = .ok (.aload_n 0, 1) := by decide +kernel
theorem d_Model_sync_15 : decode prog_9_method_31_code 15 = .ok (.iconst 1, 1) := by decide +kernel
theorem d_Model_sync_16 : decode prog_9_method_31_code 16 = .ok (.invokevirtual 114, 3) := by decide +kernel
theorem d_Model_sync_19 : decode prog_9_method_31_code 19 = .ok (.ireturn, 1) := by decide +kernel
theorem d_Model_sync_20 : decode prog_9_method_31_code 20 = .ok (.aload_n 0, 1) := by decide +kernel
theorem d_Model_sync_21 : decode prog_9_method_31_code 21 = .ok (.iload_n 1, 1) := by decide +kernel
theorem d_Model_sync_22 : decode prog_9_method_31_code 22 = .ok (.invokevirtual 117, 3) := by decide +kernel
theorem d_Model_sync_25 : decode prog_9_method_31_code 25 = .ok (.ifCond .eq 9, 3) := by decide +kernel
theorem d_Model_sync_28 : decode prog_9_method_31_code 28 = .ok (.aload_n 0, 1) := by decide +kernel
theorem d_Model_sync_29 : decode prog_9_method_31_code 29 = .ok (.iconst 2, 1) := by decide +kernel
theorem d_Model_sync_30 : decode prog_9_method_31_code 30 = .ok (.invokevirtual 114, 3) := by decide +kernel
theorem d_Model_sync_33 : decode prog_9_method_31_code 33 = .ok (.ireturn, 1) := by decide +kernel
theorem d_Model_sync_34 : decode prog_9_method_31_code 34 = .ok (.aload_n 0, 1) := by decide +kernel
theorem d_Model_sync_35 : decode prog_9_method_31_code 35 = .ok (.iload_n 1, 1) := by decide +kernel
theorem d_Model_sync_36 : decode prog_9_method_31_code 36 = .ok (.aload_n 0, 1) := by decide +kernel
theorem d_Model_sync_37 : decode prog_9_method_31_code 37 = .ok (.getfield 121, 3) := by decide +kernel
theorem d_Model_sync_40 : decode prog_9_method_31_code 40 = .ok (.invokevirtual 157, 3) := by decide +kernel
theorem d_Model_sync_43 : decode prog_9_method_31_code 43 = .ok (.istore_n 2, 1) := by decide +kernel
theorem d_Model_sync_44 : decode prog_9_method_31_code 44 = .ok (.iload_n 2, 1) := by decide +kernel
theorem d_Model_sync_45 : decode prog_9_method_31_code 45 = .ok (.ifCond .le 27, 3) := by decide +kernel
theorem d_Model_sync_48 : decode prog_9_method_31_code 48 = .ok (.aload_n 0, 1) := by decide +kernel
theorem d_Model_sync_49 : decode prog_9_method_31_code 49 = .ok (.iload_n 2, 1) := by decide +kernel
theorem d_Model_sync_50 : decode prog_9_method_31_code 50 = .ok (.iconst 1, 1) := by decide +kernel
theorem d_Model_sync_51 : decode prog_9_method_31_code 51 = .ok (.if_icmp .ne 7, 3) := by decide +kernel
theorem d_Model_sync_54 : decode prog_9_method_31_code 54 = .ok (.iconst 2, 1) := by decide +kernel
theorem d_Model_sync_55 : decode prog_9_method_31_code 55 = .ok (.goto 13, 3) := by decide +kernel
theorem d_Model_sync_58 : decode prog_9_method_31_code 58 = .ok (.iload_n 2, 1) := by decide +kernel
theorem d_Model_sync_59 : decode prog_9_method_31_code 59 = .ok (.iconst 2, 1) := by decide +kernel
theorem d_Model_sync_60 : decode prog_9_method_31_code 60 = .ok (.if_icmp .ne 7, 3) := by decide +kernel
theorem d_Model_sync_63 : decode prog_9_method_31_code 63 = .ok (.iconst 4, 1) := by decide +kernel
theorem d_Model_sync_64 : decode prog_9_method_31_code 64 = .ok (.goto 4, 3) := by decide +kernel
theorem d_Model_sync_67 : decode prog_9_method_31_code 67 = .ok (.iconst 3, 1) := by decide +kernel
theorem d_Model_sync_68 : decode prog_9_method_31_code 68 = .ok (.invokevirtual 114, 3) := by decide +kernel
theorem d_Model_sync_71 : decode prog_9_method_31_code 71 = .ok (.ireturn, 1) := by decide +kernel
theorem d_Model_sync_72 : decode prog_9_method_31_code 72 = .ok (.aload_n 0, 1) := by decide +kernel
theorem d_Model_sync_73 : decode prog_9_method_31_code 73 = .ok (.getfield 54, 3) := by decide +kernel
theorem d_Model_sync_76 : decode prog_9_method_31_code 76 = .ok (.iload_n 1, 1) := by decide +kernel
theorem d_Model_sync_77 : decode prog_9_method_31_code 77 = .ok (.iaload, 1) := by decide +kernel
theorem d_Model_sync_78 : decode prog_9_method_31_code 78 = .ok (.ireturn, 1) := by decide +kernel
theorem d_Model_get_0 : decode prog_9_method_32_code 0 = .ok (.aload_n 0, 1) := by decide +kernel
theorem d_Model_get_1 : decode prog_9_method_32_code 1 = .ok (.iconst 0, 1) := by decide +kernel
theorem d_Model_get_2 : decode prog_9_method_32_code 2 = .ok (.putfield 82, 3) := by decide +kernel
theorem d_Model_get_5 : decode prog_9_method_32_code 5 = .ok (.aload_n 0, 1) := by decide +kernel
theorem d_Model_get_6 : decode prog_9_method_32_code 6 = .ok (.iload_n 1, 1) := by decide +kernel
theorem d_Model_get_7 : decode prog_9_method_32_code 7 = .ok (.iconst 4, 1) := by decide +kernel
theorem d_Model_get_8 : decode prog_9_method_32_code 8 = .ok (.invokevirtual 111, 3) := by decide +kernel
theorem d_Model_get_11 : decode prog_9_method_32_code 11 = .ok (.ifCond .ne 12, 3) := by decide +kernel
theorem d_Model_get_14 : decode prog_9_method_32_code 14 = .ok (.aload_n 0, 1) := by decide +kernel
theorem d_Model_get_15 : decode prog_9_method_32_code 15 = .ok (.iload_n 2, 1) := by decide +kernel
theorem d_Model_get_16 : decode prog_9_method_32_code 16 = .ok (.iconst 4, 1) := by decide +kernel
theorem d_Model_get_17 : decode prog_9_method_32_code 17 = .ok (.invokevirtual 111, 3) := by decide +kernel
theorem d_Model_get_20 : decode prog_9_method_32_code 20 = .ok (.ifCond .eq 11, 3) := by decide +kernel
theorem d_Model_get_23 : decode prog_9_method_32_code 23 = .ok (.aload_n 0, 1) := by decide +kernel
theorem d_Model_get_24 : decode prog_9_method_32_code 24 = .ok (.iconst 1, 1) := by decide +kernel
theorem d_Model_get_25 : decode prog_9_method_32_code 25 = .ok (.invokevirtual 114, 3) := by decide +kernel
theorem d_Model_get_28 : decode prog_9_method_32_code 28 = .ok (.goto 13, 3) := by decide +kernel
theorem d_Model_get_31 : decode prog_9_method_32_code 31 = .ok (.aload_n 0, 1) := by decide +kernel
theorem d_Model_get_32 : decode prog_9_method_32_code 32 = .ok (.getfield 57, 3) := by decide +kernel
theorem d_Model_get_35 : decode prog_9_method_32_code 35 = .ok (.iconst 4, 1) := by decide +kernel
theorem d_Model_get_36 : decode prog_9_method_32_code 36 = .ok (.iload_n 1, 1) := by decide +kernel
theorem d_Model_get_37 : decode prog_9_method_32_code 37 = .ok (.imul, 1) := by decide +kernel
theorem d_Model_get_38 : decode prog_9_method_32_code 38 = .ok (.iload_n 2, 1) := by decide +kernel
theorem d_Model_get_39 : decode prog_9_method_32_code 39 = .ok (.iadd, 1) := by decide +kernel
theorem d_Model_get_40 : decode prog_9_method_32_code 40 = .ok (.iaload, 1) := by decide +kernel
theorem d_Model_get_41 : decode prog_9_method_32_code 41 = .ok (.ireturn, 1) := by decide +kernel
theorem d_Model_begin_0 : decode prog_9_method_33_code 0 = .ok (.aload_n 0, 1) := by decide +kernel
theorem d_Model_begin_1 : decode prog_9_method_33_code 1 = .ok (.iconst 0, 1) := by decide +kernel
theorem d_Model_begin_2 : decode prog_9_method_33_code 2 = .ok (.putfield 82, 3) := by decide +kernel
theorem d_Model_begin_5 : decode prog_9_method_33_code 5 = .ok (.aload_n 0, 1) := by decide +kernel
theorem d_Model_begin_6 : decode prog_9_method_33_code 6 = .ok (.iload_n 1, 1) := by decide +kernel
theorem d_Model_begin_7 : decode prog_9_method_33_code 7 = .ok (.iconst 4, 1) := by decide +kernel
theorem d_Model_begin_8 : decode prog_9_method_33_code 8 = .ok (.invokevirtual 111, 3) := by decide +kernel
theorem d_Model_begin_11 : decode prog_9_method_33_code 11 = .ok (.ifCond .eq 9, 3) := by decide +kernel
theorem d_Model_begin_14 : decode prog_9_method_33_code 14 = .ok (.aload_n 0, 1) := by decide +kernel
theorem d_Model_begin_15 : decode prog_9_method_33_code 15 = .ok (.iconst 1, 1) := by decide +kernel
theorem d_Model_begin_16 : decode prog_9_method_33_code 16 = .ok (.invokevirtual 114, 3) := by decide +kernel
theorem d_Model_begin_19 : decode prog_9_method_33_code 19 = .ok (.ireturn, 1) := by decide +kernel
theorem d_Model_begin_20 : decode prog_9_method_33_code 20 = .ok (.aload_n 0, 1) := by decide +kernel
theorem d_Model_begin_21 : decode prog_9_method_33_code 21 = .ok (.getfield 63, 3) := by decide +kernel
theorem d_Model_begin_24 : decode prog_9_method_33_code 24 = .ok (.iload_n 1, 1) := by decide +kernel
theorem d_Model_begin_25 : decode prog_9_method_33_code 25 = .ok (.baload, 1) := by decide +kernel
theorem d_Model_begin_26 : decode prog_9_method_33_code 26 = .ok (.ifCond .eq 9, 3) := by decide +kernel
theorem d_Model_begin_29 : decode prog_9_method_33_code 29 = .ok (.aload_n 0, 1) := by decide +kernel
theorem d_Model_begin_30 : decode prog_9_method_33_code 30 = .ok (.iconst 2, 1) := by decide +kernel
theorem d_Model_begin_31 : decode prog_9_method_33_code 31 = .ok (.invokevirtual 114, 3) := by decide +kernel
theorem d_Model_begin_34 : decode prog_9_method_33_code 34 = .ok (.ireturn, 1) := by decide +kernel
theorem d_Model_begin_35 : decode prog_9_method_33_code 35 = .ok (.aload_n 0, 1) := by decide +kernel
theorem d_Model_begin_36 : decode prog_9_method_33_code 36 = .ok (.getfield 63, 3) := by decide +kernel
theorem d_Model_begin_39 : decode prog_9_method_33_code 39 = .ok (.iload_n 1, 1) := by decide +kernel
theorem d_Model_begin_40 : decode prog_9_method_33_code 40 = .ok (.iconst 1, 1) := by decide +kernel
theorem d_Model_begin_41 : decode prog_9_method_33_code 41 = .ok (.bastore, 1) := by decide +kernel
theorem d_Model_begin_42 : decode prog_9_method_33_code 42 = .ok (.aload_n 0, 1) := by decide +kernel
theorem d_Model_begin_43 : decode prog_9_method_33_code 43 = .ok (.getfield 66, 3) := by decide +kernel
theorem d_Model_begin_46 : decode prog_9_method_33_code 46 = .ok (.iload_n 1, 1) := by decide +kernel
theorem d_Model_begin_47 : decode prog_9_method_33_code 47 = .ok (.iconst 0, 1) := by decide +kernel
theorem d_Model_begin_48 : decode prog_9_method_33_code 48 = .ok (.iastore, 1) := by decide +kernel
theorem d_Model_begin_49 : decode prog_9_method_33_code 49 = .ok (.aload_n 0, 1) := by decide +kernel
theorem d_Model_begin_50 : decode prog_9_method_33_code 50 = .ok (.getfield 72, 3) := by decide +kernel
theorem d_Model_begin_53 : decode prog_9_method_33_code 53 = .ok (.iload_n 1, 1) := by decide +kernel
theorem d_Model_begin_54 : decode prog_9_method_33_code 54 = .ok (.iconst 0, 1) := by decide +kernel
theorem d_Model_begin_55 : decode prog_9_method_33_code 55 = .ok (.iastore, 1) := by decide +kernel
theorem d_Model_begin_56 : decode prog_9_method_33_code 56 = .ok (.aload_n 0, 1) := by decide +kernel
theorem d_Model_begin_57 : decode prog_9_method_33_code 57 = .ok (.getfield 54, 3) := by decide +kernel
theorem d_Model_begin_60 : decode prog_9_method_33_code 60 = .ok (.iload_n 1, 1) := by decide +kernel
theorem d_Model_begin_61 : decode prog_9_method_33_code 61 = .ok (.iaload, 1) := by decide +kernel
theorem d_Model_begin_62 : decode prog_9_method_33_code 62 = .ok (.ireturn, 1) := by decide +kernel
theorem d_Model_see_0 : decode prog_9_method_34_code 0 = .ok (.aload_n 0, 1) := by decide +kernel
theorem d_Model_see_1 : decode prog_9_method_34_code 1 = .ok (.iconst 0, 1) := by decide +kernel
theorem d_Model_see_2 : decode prog_9_method_34_code 2 = .ok (.putfield 82, 3) := by decide +kernel
theorem d_Model_see_5 : decode prog_9_method_34_code 5 = .ok (.aload_n 0, 1) := by decide +kernel
theorem d_Model_see_6 : decode prog_9_method_34_code 6 = .ok (.iload_n 1, 1) := by decide +kernel
theorem d_Model_see_7 : decode prog_9_method_34_code 7 = .ok (.iconst 4, 1) := by decide +kernel
theorem d_Model_see_8 : decode prog_9_method_34_code 8 = .ok (.invokevirtual 111, 3) := by decide +kernel
theorem d_Model_see_11 : decode prog_9_method_34_code 11 = .ok (.ifCond .ne 12, 3) := by decide +kernel
theorem d_Model_see_14 : decode prog_9_method_34_code 14 = .ok (.aload_n 0, 1) := by decide +kernel
theorem d_Model_see_15 : decode prog_9_method_34_code 15 = .ok (.iload_n 2, 1) := by decide +kernel
theorem d_Model_see_16 : decode prog_9_method_34_code 16 = .ok (.iconst 4, 1) := by decide +kernel
theorem d_Model_see_17 : decode prog_9_method_34_code 17 = .ok (.invokevirtual 111, 3) := by decide +kernel
theorem d_Model_see_20 : decode prog_9_method_34_code 20 = .ok (.ifCond .eq 9, 3) := by decide +kernel
theorem d_Model_see_23 : decode prog_9_method_34_code 23 = .ok (.aload_n 0, 1) := by decide +kernel
theorem d_Model_see_24 : decode prog_9_method_34_code 24 = .ok (.iconst 1, 1) := by decide +kernel
theorem d_Model_see_25 : decode prog_9_method_34_code 25 = .ok (.invokevirtual 114, 3) := by decide +kernel
theorem d_Model_see_28 : decode prog_9_method_34_code 28 = .ok (.ireturn, 1) := by decide +kernel
theorem d_Model_see_29 : decode prog_9_method_34_code 29 = .ok (.aload_n 0, 1) := by decide +kernel
theorem d_Model_see_30 : decode prog_9_method_34_code 30 = .ok (.getfield 63, 3) := by decide +kernel
theorem d_Model_see_33 : decode prog_9_method_34_code 33 = .ok (.iload_n 1, 1) := by decide +kernel
theorem d_Model_see_34 : decode prog_9_method_34_code 34 = .ok (.baload, 1) := by decide +kernel
theorem d_Model_see_35 : decode prog_9_method_34_code 35 = .ok (.ifCond .ne 9, 3) := by decide +kernel
theorem d_Model_see_38 : decode prog_9_method_34_code 38 = .ok (.aload_n 0, 1) := by decide +kernel
theorem d_Model_see_39 : decode prog_9_method_34_code 39 = .ok (.iconst 2, 1) := by decide +kernel
theorem d_Model_see_40 : decode prog_9_method_34_code 40 = .ok (.invokevirtual 114, 3) := by decide +kernel
theorem d_Model_see_43 : decode prog_9_method_34_code 43 = .ok (.ireturn, 1) := by decide +kernel
theorem d_Model_see_44 : decode prog_9_method_34_code 44 = .ok (.iconst 4, 1) := by decide +kernel
theorem d_Model_see_45 : decode prog_9_method_34_code 45 = .ok (.iload_n 1, 1) := by decide +kernel
theorem d_Model_see_46 : decode prog_9_method_34_code 46 = .ok (.imul, 1) := by decide +kernel
theorem d_Model_see_47 : decode prog_9_method_34_code 47 = .ok (.iload_n 2, 1) := by decide +kernel
theorem d_Model_see_48 : decode prog_9_method_34_code 48 = .ok (.iadd, 1) := by decide +kernel
theorem d_Model_see_49 : decode prog_9_method_34_code 49 = .ok (.istore_n 3, 1) := by decide +kernel
theorem d_Model_see_50 : decode prog_9_method_34_code 50 = .ok (.aload_n 0, 1) := by decide +kernel
theorem d_Model_see_51 : decode prog_9_method_34_code 51 = .ok (.getfield 72, 3) := by decide +kernel
theorem d_Model_see_54 : decode prog_9_method_34_code 54 = .ok (.iload_n 1, 1) := by decide +kernel
theorem d_Model_see_55 : decode prog_9_method_34_code 55 = .ok (.iaload, 1) := by decide +kernel
theorem d_Model_see_56 : decode prog_9_method_34_code 56 = .ok (.iload_n 2, 1) := by decide +kernel
theorem d_Model_see_57 : decode prog_9_method_34_code 57 = .ok (.ishr, 1) := by decide +kernel
theorem d_Model_see_58 : decode prog_9_method_34_code 58 = .ok (.iconst 1, 1) := by decide +kernel
theorem d_Model_see_59 : decode prog_9_method_34_code 59 = .ok (.iand, 1) := by decide +kernel
theorem d_Model_see_60 : decode prog_9_method_34_code 60 = .ok (.ifCond .eq 10, 3) := by decide +kernel
theorem d_Model_see_63 : decode prog_9_method_34_code 63 = .ok (.aload_n 0, 1) := by decide +kernel
theorem d_Model_see_64 : decode prog_9_method_34_code 64 = .ok (.getfield 75, 3) := by decide +kernel
theorem d_Model_see_67 : decode prog_9_method_34_code 67 = .ok (.iload_n 3, 1) := by decide +kernel
theorem d_Model_see_68 : decode prog_9_method_34_code 68 = .ok (.iaload, 1) := by decide +kernel
theorem d_Model_see_69 : decode prog_9_method_34_code 69 = .ok (.ireturn, 1) := by decide +kernel
theorem d_Model_see_70 : decode prog_9_method_34_code 70 = .ok (.aload_n 0, 1) := by decide +kernel
theorem d_Model_see_71 : decode prog_9_method_34_code 71 = .ok (.getfield 66, 3) := by decide +kernel
theorem d_Model_see_74 : decode prog_9_method_34_code 74 = .ok (.iload_n 1, 1) := by decide +kernel
theorem d_Model_see_75 : decode prog_9_method_34_code 75 = .ok (.iaload, 1) := by decide +kernel
theorem d_Model_see_76 : decode prog_9_method_34_code 76 = .ok (.iload_n 2, 1) := by decide +kernel
theorem d_Model_see_77 : decode prog_9_method_34_code 77 = .ok (.ishr, 1) := by decide +kernel
theorem d_Model_see_78 : decode prog_9_method_34_code 78 = .ok (.iconst 1, 1) := by decide +kernel
theorem d_Model_see_79 : decode prog_9_method_34_code 79 = .ok (.iand, 1) := by decide +kernel
theorem d_Model_see_80 : decode prog_9_method_34_code 80 = .ok (.ifCond .ne 15, 3) := by decide +kernel
theorem d_Model_see_83 : decode prog_9_method_34_code 83 = .ok (.aload_n 0, 1) := by decide +kernel
theorem d_Model_see_84 : decode prog_9_method_34_code 84 = .ok (.getfield 69, 3) := by decide +kernel
theorem d_Model_see_87 : decode prog_9_method_34_code 87 = .ok (.iload_n 3, 1) := by decide +kernel
theorem d_Model_see_88 : decode prog_9_method_34_code 88 = .ok (.aload_n 0, 1) := by decide +kernel
theorem d_Model_see_89 : decode prog_9_method_34_code 89 = .ok (.getfield 60, 3) := by decide +kernel
theorem d_Model_see_92 : decode prog_9_method_34_code 92 = .ok (.iload_n 3, 1) := by decide +kernel
theorem d_Model_see_93 : decode prog_9_method_34_code 93 = .ok (.iaload, 1) := by decide +kernel
theorem d_Model_see_94 : decode prog_9_method_34_code 94 = .ok (.iastore, 1) := by decide +kernel
theorem d_Model_see_95 : decode prog_9_method_34_code 95 = .ok (.aload_n 0, 1) := by decide +kernel
theorem d_Model_see_96 : decode prog_9_method_34_code 96 = .ok (.getfield 66, 3) := by decide +kernel
theorem d_Model_see_99 : decode prog_9_method_34_code 99 = .ok (.iload_n 1, 1) := by decide +kernel
theorem d_Model_see_100 : decode prog_9_method_34_code 100 = .ok (.dup2, 1) := by decide +kernel
theorem d_Model_see_101 : decode prog_9_method_34_code 101 = .ok (.iaload, 1) := by decide +kernel
theorem d_Model_see_102 : decode prog_9_method_34_code 102 = .ok (.iconst 1, 1) := by decide +kernel
theorem d_Model_see_103 : decode prog_9_method_34_code 103 = .ok (.iload_n 2, 1) := by decide +kernel
theorem d_Model_see_104 : decode prog_9_method_34_code 104 = .ok (.ishl, 1) := by decide +kernel
theorem d_Model_see_105 : decode prog_9_method_34_code 105 = .ok (.ior, 1) := by decide +kernel
theorem d_Model_see_106 : decode prog_9_method_34_code 106 = .ok (.iastore, 1) := by decide +kernel
theorem d_Model_see_107 : decode prog_9_method_34_code 107 = .ok (.aload_n 0, 1) := by decide +kernel
theorem d_Model_see_108 : decode prog_9_method_34_code 108 = .ok (.getfield 57, 3) := by decide +kernel
theorem d_Model_see_111 : decode prog_9_method_34_code 111 = .ok (.iload_n 3, 1) := by decide +kernel
theorem d_Model_see_112 : decode prog_9_method_34_code 112 = .ok (.iaload, 1) := by decide +kernel
theorem d_Model_see_113 : decode prog_9_method_34_code 113 = .ok (.ireturn, 1) := by decide +kernel
theorem d_Model_put_0 : decode prog_9_method_35_code 0 = .ok (.aload_n 0, 1) := by decide +kernel
theorem d_Model_put_1 : decode prog_9_method_35_code 1 = .ok (.iconst 0, 1) := by decide +kernel
theorem d_Model_put_2 : decode prog_9_method_35_code 2 = .ok (.putfield 82, 3) := by decide +kernel
theorem d_Model_put_5 : decode prog_9_method_35_code 5 = .ok (.aload_n 0, 1) := by decide +kernel
theorem d_Model_put_6 : decode prog_9_method_35_code 6 = .ok (.iload_n 1, 1) := by decide +kernel
theorem d_Model_put_7 : decode prog_9_method_35_code 7 = .ok (.iconst 4, 1) := by decide +kernel
theorem d_Model_put_8 : decode prog_9_method_35_code 8 = .ok (.invokevirtual 111, 3) := by decide +kernel
theorem d_Model_put_11 : decode prog_9_method_35_code 11 = .ok (.ifCond .ne 12, 3) := by decide +kernel
theorem d_Model_put_14 : decode prog_9_method_35_code 14 = .ok (.aload_n 0, 1) := by decide +kernel
theorem d_Model_put_15 : decode prog_9_method_35_code 15 = .ok (.iload_n 2, 1) := by decide +kernel
theorem d_Model_put_16 : decode prog_9_method_35_code 16 = .ok (.iconst 4, 1) := by decide +kernel
theorem d_Model_put_17 : decode prog_9_method_35_code 17 = .ok (.invokevirtual 111, 3) := by decide +kernel
theorem d_Model_put_20 : decode prog_9_method_35_code 20 = .ok (.ifCond .eq 9, 3) := by decide +kernel
theorem d_Model_put_23 : decode prog_9_method_35_code 23 = .ok (.aload_n 0, 1) := by decide +kernel
theorem d_Model_put_24 : decode prog_9_method_35_code 24 = .ok (.iconst 1, 1) := by decide +kernel
theorem d_Model_put_25 : decode prog_9_method_35_code 25 = .ok (.invokevirtual 114, 3) := by decide +kernel
theorem d_Model_put_28 : decode prog_9_method_35_code 28 = .ok (.ireturn, 1) := by decide +kernel
theorem d_Model_put_29 : decode prog_9_method_35_code 29 = .ok (.aload_n 0, 1) := by decide +kernel
theorem d_Model_put_30 : decode prog_9_method_35_code 30 = .ok (.getfield 63, 3) := by decide +kernel
theorem d_Model_put_33 : decode prog_9_method_35_code 33 = .ok (.iload_n 1, 1) := by decide +kernel
theorem d_Model_put_34 : decode prog_9_method_35_code 34 = .ok (.baload, 1) := by decide +kernel
theorem d_Model_put_35 : decode prog_9_method_35_code 35 = .ok (.ifCond .ne 9, 3) := by decide +kernel
theorem d_Model_put_38 : decode prog_9_method_35_code 38 = .ok (.aload_n 0, 1) := by decide +kernel
theorem d_Model_put_39 : decode prog_9_method_35_code 39 = .ok (.iconst 2, 1) := by decide +kernel
theorem d_Model_put_40 : decode prog_9_method_35_code 40 = .ok (.invokevirtual 114, 3) := by decide +kernel
theorem d_Model_put_43 : decode prog_9_method_35_code 43 = .ok (.ireturn, 1) := by decide +kernel
theorem d_Model_put_44 : decode prog_9_method_35_code 44 = .ok (.aload_n 0, 1) := by decide +kernel
theorem d_Model_put_45 : decode prog_9_method_35_code 45 = .ok (.getfield 72, 3) := by decide +kernel
theorem d_Model_put_48 : decode prog_9_method_35_code 48 = .ok (.iload_n 1, 1) := by decide +kernel
theorem d_Model_put_49 : decode prog_9_method_35_code 49 = .ok (.dup2, 1) := by decide +kernel
theorem d_Model_put_50 : decode prog_9_method_35_code 50 = .ok (.iaload, 1) := by decide +kernel
theorem d_Model_put_51 : decode prog_9_method_35_code 51 = .ok (.iconst 1, 1) := by decide +kernel
theorem d_Model_put_52 : decode prog_9_method_35_code 52 = .ok (.iload_n 2, 1) := by decide +kernel
theorem d_Model_put_53 : decode prog_9_method_35_code 53 = .ok (.ishl, 1) := by decide +kernel
theorem d_Model_put_54 : decode prog_9_method_35_code 54 = .ok (.ior, 1) := by decide +kernel
theorem d_Model_put_55 : decode prog_9_method_35_code 55 = .ok (.iastore, 1) := by decide +kernel
theorem d_Model_put_56 : decode prog_9_method_35_code 56 = .ok (.aload_n 0, 1) := by decide +kernel
theorem d_Model_put_57 : decode prog_9_method_35_code 57 = .ok (.getfield 75, 3) := by decide +kernel
theorem d_Model_put_60 : decode prog_9_method_35_code 60 = .ok (.iconst 4, 1) := by decide +kernel
theorem d_Model_put_61 : decode prog_9_method_35_code 61 = .ok (.iload_n 1, 1) := by decide +kernel
theorem d_Model_put_62 : decode prog_9_method_35_code 62 = .ok (.imul, 1) := by decide +kernel
theorem d_Model_put_63 : decode prog_9_method_35_code 63 = .ok (.iload_n 2, 1) := by decide +kernel
theorem d_Model_put_64 : decode prog_9_method_35_code 64 = .ok (.iadd, 1) := by decide +kernel
theorem d_Model_put_65 : decode prog_9_method_35_code 65 = .ok (.iload_n 3, 1) := by decide +kernel
theorem d_Model_put_66 : decode prog_9_method_35_code 66 = .ok (.iastore, 1) := by decide +kernel
theorem d_Model_put_67 : decode prog_9_method_35_code 67 = .ok (.aload_n 0, 1) := by decide +kernel
theorem d_Model_put_68 : decode prog_9_method_35_code 68 = .ok (.aload_n 0, 1) := by decide +kernel
theorem d_Model_put_69 : decode prog_9_method_35_code 69 = .ok (.getfield 72, 3) := by decide +kernel
theorem d_Model_put_72 : decode prog_9_method_35_code 72 = .ok (.iload_n 1, 1) := by decide +kernel
theorem d_Model_put_73 : decode prog_9_method_35_code 73 = .ok (.iaload, 1) := by decide +kernel
theorem d_Model_put_74 : decode prog_9_method_35_code 74 = .ok (.invokevirtual 131, 3) := by decide +kernel
theorem d_Model_put_77 : decode prog_9_method_35_code 77 = .ok (.ireturn, 1) := by decide +kernel
theorem d_Model_commit_0 : decode prog_9_method_36_code 0 = .ok (.aload_n 0, 1) := by decide +kernel
theorem d_Model_commit_1 : decode prog_9_method_36_code 1 = .ok (.iconst 0, 1) := by decide +kernel
theorem d_Model_commit_2 : decode prog_9_method_36_code 2 = .ok (.putfield 82, 3) := by decide +kernel
theorem d_Model_commit_5 : decode prog_9_method_36_code 5 = .ok (.aload_n 0, 1) := by decide +kernel
theorem d_Model_commit_6 : decode prog_9_method_36_code 6 = .ok (.iload_n 1, 1) := by decide +kernel
theorem d_Model_commit_7 : decode prog_9_method_36_code 7 = .ok (.iconst 4, 1) := by decide +kernel
theorem d_Model_commit_8 : decode prog_9_method_36_code 8 = .ok (.invokevirtual 111, 3) := by decide +kernel
theorem d_Model_commit_11 : decode prog_9_method_36_code 11 = .ok (.ifCond .eq 11, 3) := by decide +kernel
theorem d_Model_commit_14 : decode prog_9_method_36_code 14 = .ok (.aload_n 0, 1) := by decide +kernel
theorem d_Model_commit_15 : decode prog_9_method_36_code 15 = .ok (.iconst 1, 1) := by decide +kernel
theorem d_Model_commit_16 : decode prog_9_method_36_code 16 = .ok (.putfield 82, 3) := by decide +kernel
theorem d_Model_commit_19 : decode prog_9_method_36_code 19 = .ok (.goto 17, 3) := by decide +kernel
theorem d_Model_commit_22 : decode prog_9_method_36_code 22 = .ok (.aload_n 0, 1) := by decide +kernel
theorem d_Model_commit_23 : decode prog_9_method_36_code 23 = .ok (.getfield 63, 3) := by decide +kernel
theorem d_Model_commit_26 : decode prog_9_method_36_code 26 = .ok (.iload_n 1, 1) := by decide +kernel
theorem d_Model_commit_27 : decode prog_9_method_36_code 27 = .ok (.baload, 1) := by decide +kernel
theorem d_Model_commit_28 : decode prog_9_method_36_code 28 = .ok (.ifCond .ne 8, 3) := by decide +kernel
theorem d_Model_commit_31 : decode prog_9_method_36_code 31 = .ok (.aload_n 0, 1) := by decide +kernel
theorem d_Model_commit_32 : decode prog_9_method_36_code 32 = .ok (.iconst 2, 1) := by decide +kernel
theorem d_Model_commit_33 : decode prog_9_method_36_code 33 = .ok (.putfield 82, 3) := by decide +kernel
theorem d_Model_commit_36 : decode prog_9_method_36_code 36 = .ok (.aload_n 0, 1) := by decide +kernel
theorem d_Model_commit_37 : decode prog_9_method_36_code 37 = .ok (.getfield 82, 3) := by decide +kernel
theorem d_Model_commit_40 : decode prog_9_method_36_code 40 = .ok (.ifCond .le 5, 3) := by decide +kernel
theorem d_Model_commit_43 : decode prog_9_method_36_code 43 = .ok (.iconst 0, 1) := by decide +kernel
theorem d_Model_commit_44 : decode prog_9_method_36_code 44 = .ok (.ireturn, 1) := by decide +kernel
theorem d_Model_commit_45 : decode prog_9_method_36_code 45 = .ok (.aload_n 0, 1) := by decide +kernel
theorem d_Model_commit_46 : decode prog_9_method_36_code 46 = .ok (.getfield 72, 3) := by decide +kernel
theorem d_Model_commit_49 : decode prog_9_method_36_code 49 = .ok (.iload_n 1, 1) := by decide +kernel
theorem d_Model_commit_50 : decode prog_9_method_36_code 50 = .ok (.iaload, 1) := by decide +kernel
theorem d_Model_commit_51 : decode prog_9_method_36_code 51 = .ok (.ifCond .ne 29, 3) := by decide +kernel
theorem d_Model_commit_54 : decode prog_9_method_36_code 54 = .ok (.aload_n 0, 1) := by decide +kernel
theorem d_Model_commit_55 : decode prog_9_method_36_code 55 = .ok (.getfield 63, 3) := by decide +kernel
theorem d_Model_commit_58 : decode prog_9_method_36_code 58 = .ok (.iload_n 1, 1) := by decide +kernel
theorem d_Model_commit_59 : decode prog_9_method_36_code 59 = .ok (.iconst 0, 1) := by decide +kernel
theorem d_Model_commit_60 : decode prog_9_method_36_code 60 = .ok (.bastore, 1) := by decide +kernel
theorem d_Model_commit_61 : decode prog_9_method_36_code 61 = .ok (.aload_n 0, 1) := by decide +kernel
theorem d_Model_commit_62 : decode prog_9_method_36_code 62 = .ok (.iload_n 1, 1) := by decide +kernel
theorem d_Model_commit_63 : decode prog_9_method_36_code 63 = .ok (.aload_n 0, 1) := by decide +kernel
theorem d_Model_commit_64 : decode prog_9_method_36_code 64 = .ok (.getfield 66, 3) := by decide +kernel
theorem d_Model_commit_67 : decode prog_9_method_36_code 67 = .ok (.iload_n 1, 1) := by decide +kernel
theorem d_Model_commit_68 : decode prog_9_method_36_code 68 = .ok (.iaload, 1) := by decide +kernel
theorem d_Model_commit_69 : decode prog_9_method_36_code 69 = .ok (.aload_n 0, 1) := by decide +kernel
theorem d_Model_commit_70 : decode prog_9_method_36_code 70 = .ok (.getfield 69, 3) := by decide +kernel
theorem d_Model_commit_73 : decode prog_9_method_36_code 73 = .ok (.iconst 4, 1) := by decide +kernel
theorem d_Model_commit_74 : decode prog_9_method_36_code 74 = .ok (.iload_n 1, 1) := by decide +kernel
theorem d_Model_commit_75 : decode prog_9_method_36_code 75 = .ok (.imul, 1) := by decide +kernel
theorem d_Model_commit_76 : decode prog_9_method_36_code 76 = .ok (.invokevirtual 147, 3) := by decide +kernel
theorem d_Model_commit_79 : decode prog_9_method_36_code 79 = .ok (.ireturn, 1) := by decide +kernel
theorem d_Model_commit_80 : decode prog_9_method_36_code 80 = .ok (.aload_n 0, 1) := by decide +kernel
theorem d_Model_commit_81 : decode prog_9_method_36_code 81 = .ok (.iload_n 1, 1) := by decide +kernel
theorem d_Model_commit_82 : decode prog_9_method_36_code 82 = .ok (.invokevirtual 117, 3) := by decide +kernel
theorem d_Model_commit_85 : decode prog_9_method_36_code 85 = .ok (.ifCond .eq 11, 3) := by decide +kernel
theorem d_Model_commit_88 : decode prog_9_method_36_code 88 = .ok (.aload_n 0, 1) := by decide +kernel
theorem d_Model_commit_89 : decode prog_9_method_36_code 89 = .ok (.iconst 2, 1) := by decide +kernel
theorem d_Model_commit_90 : decode prog_9_method_36_code 90 = .ok (.putfield 82, 3) := by decide +kernel
theorem d_Model_commit_93 : decode prog_9_method_36_code 93 = .ok (.goto 17, 3) := by decide +kernel
theorem d_Model_commit_96 : decode prog_9_method_36_code 96 = .ok (.aload_n 0, 1) := by decide +kernel
theorem d_Model_commit_97 : decode prog_9_method_36_code 97 = .ok (.getfield 121, 3) := by decide +kernel
theorem d_Model_commit_100 : decode prog_9_method_36_code 100 = .ok (.bipush 60, 2) := by decide +kernel
theorem d_Model_commit_102 : decode prog_9_method_36_code 102 = .ok (.if_icmp .ne 8, 3) := by decide +kernel
theorem d_Model_commit_105 : decode prog_9_method_36_code 105 = .ok (.aload_n 0, 1) := by decide +kernel
theorem d_Model_commit_106 : decode prog_9_method_36_code 106 = .ok (.iconst 5, 1) := by decide +kernel
theorem d_Model_commit_107 : decode prog_9_method_36_code 107 = .ok (.putfield 82, 3) := by decide +kernel
theorem d_Model_commit_110 : decode prog_9_method_36_code 110 = .ok (.aload_n 0, 1) := by decide +kernel
theorem d_Model_commit_111 : decode prog_9_method_36_code 111 = .ok (.getfield 82, 3) := by decide +kernel
theorem d_Model_commit_114 : decode prog_9_method_36_code 114 = .ok (.ifCond .le 5, 3) := by decide +kernel
theorem d_Model_commit_117 : decode prog_9_method_36_code 117 = .ok (.iconst 0, 1) := by decide +kernel
theorem d_Model_commit_118 : decode prog_9_method_36_code 118 = .ok (.ireturn, 1) := by decide +kernel
theorem d_Model_commit_119 : decode prog_9_method_36_code 119 = .ok (.aload_n 0, 1) := by decide +kernel
theorem d_Model_commit_120 : decode prog_9_method_36_code 120 = .ok (.getfield 121, 3) := by decide +kernel
theorem d_Model_commit_123 : decode prog_9_method_36_code 123 = .ok (.istore_n 2, 1) := by decide +kernel
theorem d_Model_commit_124 : decode prog_9_method_36_code 124 = .ok (.aload_n 0, 1) := by decide +kernel
theorem d_Model_commit_125 : decode prog_9_method_36_code 125 = .ok (.dup, 1) := by decide +kernel
theorem d_Model_commit_126 : decode prog_9_method_36_code 126 = .ok (.getfield 121, 3) := by decide +kernel
theorem d_Model_commit_129 : decode prog_9_method_36_code 129 = .ok (.iconst 1, 1) := by decide +kernel
theorem d_Model_commit_130 : decode prog_9_method_36_code 130 = .ok (.iadd, 1) := by decide +kernel
theorem d_Model_commit_131 : decode prog_9_method_36_code 131 = .ok (.putfield 121, 3) := by decide +kernel
theorem d_Model_commit_134 : decode prog_9_method_36_code 134 = .ok (.aload_n 0, 1) := by decide +kernel
theorem d_Model_commit_135 : decode prog_9_method_36_code 135 = .ok (.getfield 7, 3) := by decide +kernel
theorem d_Model_commit_138 : decode prog_9_method_36_code 138 = .ok (.sipush 360, 3) := by decide +kernel
theorem d_Model_commit_141 : decode prog_9_method_36_code 141 = .ok (.iconst 2, 1) := by decide +kernel
theorem d_Model_commit_142 : decode prog_9_method_36_code 142 = .ok (.iastore, 1) := by decide +kernel
theorem d_Model_commit_143 : decode prog_9_method_36_code 143 = .ok (.aload_n 0, 1) := by decide +kernel
theorem d_Model_commit_144 : decode prog_9_method_36_code 144 = .ok (.getfield 19, 3) := by decide +kernel
theorem d_Model_commit_147 : decode prog_9_method_36_code 147 = .ok (.sipush 360, 3) := by decide +kernel
theorem d_Model_commit_150 : decode prog_9_method_36_code 150 = .ok (.aload_n 0, 1) := by decide +kernel
theorem d_Model_commit_151 : decode prog_9_method_36_code 151 = .ok (.getfield 66, 3) := by decide +kernel
theorem d_Model_commit_154 : decode prog_9_method_36_code 154 = .ok (.iload_n 1, 1) := by decide +kernel
theorem d_Model_commit_155 : decode prog_9_method_36_code 155 = .ok (.iaload, 1) := by decide +kernel
theorem d_Model_commit_156 : decode prog_9_method_36_code 156 = .ok (.iastore, 1) := by decide +kernel
theorem d_Model_commit_157 : decode prog_9_method_36_code 157 = .ok (.aload_n 0, 1) := by decide +kernel
theorem d_Model_commit_158 : decode prog_9_method_36_code 158 = .ok (.getfield 22, 3) := by decide +kernel
theorem d_Model_commit_161 : decode prog_9_method_36_code 161 = .ok (.sipush 360, 3) := by decide +kernel
theorem d_Model_commit_164 : decode prog_9_method_36_code 164 = .ok (.aload_n 0, 1) := by decide +kernel
theorem d_Model_commit_165 : decode prog_9_method_36_code 165 = .ok (.getfield 72, 3) := by decide +kernel
theorem d_Model_commit_168 : decode prog_9_method_36_code 168 = .ok (.iload_n 1, 1) := by decide +kernel
theorem d_Model_commit_169 : decode prog_9_method_36_code 169 = .ok (.iaload, 1) := by decide +kernel
theorem d_Model_commit_170 : decode prog_9_method_36_code 170 = .ok (.iastore, 1) := by decide +kernel
theorem d_Model_commit_171 : decode prog_9_method_36_code 171 = .ok (.iconst 0, 1) := by decide +kernel
theorem d_Model_commit_172 : decode prog_9_method_36_code 172 = .ok (.istore_n 3, 1) := by decide +kernel
theorem d_Model_commit_173 : decode prog_9_method_36_code 173 = .ok (.iload_n 3, 1) := by decide +kernel
theorem d_Model_commit_174 : decode prog_9_method_36_code 174 = .ok (.iconst 4, 1) := by decide +kernel
theorem d_Model_commit_175 : decode prog_9_method_36_code 175 = .ok (.if_icmp .ge 49, 3) := by decide +kernel
theorem d_Model_commit_178 : decode prog_9_method_36_code 178 = .ok (.aload_n 0, 1) := by decide +kernel
theorem d_Model_commit_179 : decode prog_9_method_36_code 179 = .ok (.getfield 25, 3) := by decide +kernel
theorem d_Model_commit_182 : decode prog_9_method_36_code 182 = .ok (.sipush 1440, 3) := by decide +kernel
theorem d_Model_commit_185 : decode prog_9_method_36_code 185 = .ok (.iload_n 3, 1) := by decide +kernel
theorem d_Model_commit_186 : decode prog_9_method_36_code 186 = .ok (.iadd, 1) := by decide +kernel
theorem d_Model_commit_187 : decode prog_9_method_36_code 187 = .ok (.aload_n 0, 1) := by decide +kernel
theorem d_Model_commit_188 : decode prog_9_method_36_code 188 = .ok (.getfield 69, 3) := by decide +kernel
theorem d_Model_commit_191 : decode prog_9_method_36_code 191 = .ok (.iconst 4, 1) := by decide +kernel
theorem d_Model_commit_192 : decode prog_9_method_36_code 192 = .ok (.iload_n 1, 1) := by decide +kernel
theorem d_Model_commit_193 : decode prog_9_method_36_code 193 = .ok (.imul, 1) := by decide +kernel
theorem d_Model_commit_194 : decode prog_9_method_36_code 194 = .ok (.iload_n 3, 1) := by decide +kernel
theorem d_Model_commit_195 : decode prog_9_method_36_code 195 = .ok (.iadd, 1) := by decide +kernel
theorem d_Model_commit_196 : decode prog_9_method_36_code 196 = .ok (.iaload, 1) := by decide +kernel
theorem d_Model_commit_197 : decode prog_9_method_36_code 197 = .ok (.iastore, 1) := by decide +kernel
theorem d_Model_commit_198 : decode prog_9_method_36_code 198 = .ok (.aload_n 0, 1) := by decide +kernel
theorem d_Model_commit_199 : decode prog_9_method_36_code 199 = .ok (.getfield 28, 3) := by decide +kernel
theorem d_Model_commit_202 : decode prog_9_method_36_code 202 = .ok (.sipush 1440, 3) := by decide +kernel
theorem d_Model_commit_205 : decode prog_9_method_36_code 205 = .ok (.iload_n 3, 1) := by decide +kernel
theorem d_Model_commit_206 : decode prog_9_method_36_code 206 = .ok (.iadd, 1) := by decide +kernel
theorem d_Model_commit_207 : decode prog_9_method_36_code 207 = .ok (.aload_n 0, 1) := by decide +kernel
theorem d_Model_commit_208 : decode prog_9_method_36_code 208 = .ok (.getfield 75, 3) := by decide +kernel
theorem d_Model_commit_211 : decode prog_9_method_36_code 211 = .ok (.iconst 4, 1) := by decide +kernel
theorem d_Model_commit_212 : decode prog_9_method_36_code 212 = .ok (.iload_n 1, 1) := by decide +kernel
theorem d_Model_commit_213 : decode prog_9_method_36_code 213 = .ok (.imul, 1) := by decide +kernel
theorem d_Model_commit_214 : decode prog_9_method_36_code 214 = .ok (.iload_n 3, 1) := by decide +kernel
theorem d_Model_commit_215 : decode prog_9_method_36_code 215 = .ok (.iadd, 1) := by decide +kernel
theorem d_Model_commit_216 : decode prog_9_method_36_code 216 = .ok (.iaload, 1) := by decide +kernel
theorem d_Model_commit_217 : decode prog_9_method_36_code 217 = .ok (.iastore, 1) := by decide +kernel
theorem d_Model_commit_218 : decode prog_9_method_36_code 218 = .ok (.iinc 3 1, 3) := by decide +kernel
theorem d_Model_commit_221 : decode prog_9_method_36_code 221 = .ok (.goto (-48), 3) := by decide +kernel
theorem d_Model_commit_224 : decode prog_9_method_36_code 224 = .ok (.aload_n 0, 1) := by decide +kernel
theorem d_Model_commit_225 : decode prog_9_method_36_code 225 = .ok (.iload_n 1, 1) := by decide +kernel
theorem d_Model_commit_226 : decode prog_9_method_36_code 226 = .ok (.iload_n 2, 1) := by decide +kernel
theorem d_Model_commit_227 : decode prog_9_method_36_code 227 = .ok (.iconst 3, 1) := by decide +kernel
theorem d_Model_commit_228 : decode prog_9_method_36_code 228 = .ok (.invokevirtual 124, 3) := by decide +kernel
theorem d_Model_commit_231 : decode prog_9_method_36_code 231 = .ok (.istore_n 3, 1) := by decide +kernel
theorem d_Model_commit_232 : decode prog_9_method_36_code 232 = .ok (.iload_n 3, 1) := by decide +kernel
theorem d_Model_commit_233 : decode prog_9_method_36_code 233 = .ok (.ifCond .le 19, 3) := by decide +kernel
theorem d_Model_commit_236 : decode prog_9_method_36_code 236 = .ok (.aload_n 0, 1) := by decide +kernel
theorem d_Model_commit_237 : decode prog_9_method_36_code 237 = .ok (.iload_n 3, 1) := by decide +kernel
theorem d_Model_commit_238 : decode prog_9_method_36_code 238 = .ok (.iconst 1, 1) := by decide +kernel
theorem d_Model_commit_239 : decode prog_9_method_36_code 239 = .ok (.if_icmp .ne 7, 3) := by decide +kernel
theorem d_Model_commit_242 : decode prog_9_method_36_code 242 = .ok (.iconst 2, 1) := by decide +kernel
theorem d_Model_commit_243 : decode prog_9_method_36_code 243 = .ok (.goto 4, 3) := by decide +kernel
theorem d_Model_commit_246 : decode prog_9_method_36_code 246 = .ok (.iconst 4, 1) := by decide +kernel
theorem d_Model_commit_247 : decode prog_9_method_36_code 247 = .ok (.putfield 82, 3) := by decide +kernel
theorem d_Model_commit_250 : decode prog_9_method_36_code 250 = .ok (.iconst 0, 1) := by decide +kernel
theorem d_Model_commit_251 : decode prog_9_method_36_code 251 = .ok (.ireturn, 1) := by decide +kernel
theorem d_Model_commit_252 : decode prog_9_method_36_code 252 = .ok (.aload_n 0, 1) := by decide +kernel
theorem d_Model_commit_253 : decode prog_9_method_36_code 253 = .ok (.iconst 0, 1) := by decide +kernel
theorem d_Model_commit_254 : decode prog_9_method_36_code 254 = .ok (.putfield 151, 3) := by decide +kernel
theorem d_Model_commit_257 : decode prog_9_method_36_code 257 = .ok (.aload_n 0, 1) := by decide +kernel
theorem d_Model_commit_258 : decode prog_9_method_36_code 258 = .ok (.iload_n 1, 1) := by decide +kernel
theorem d_Model_commit_259 : decode prog_9_method_36_code 259 = .ok (.iload_n 2, 1) := by decide +kernel
theorem d_Model_commit_260 : decode prog_9_method_36_code 260 = .ok (.iconst 1, 1) := by decide +kernel
theorem d_Model_commit_261 : decode prog_9_method_36_code 261 = .ok (.iadd, 1) := by decide +kernel
theorem d_Model_commit_262 : decode prog_9_method_36_code 262 = .ok (.invokevirtual 157, 3) := by decide +kernel
theorem d_Model_commit_265 : decode prog_9_method_36_code 265 = .ok (.istore 4, 2) := by decide +kernel
theorem d_Model_commit_267 : decode prog_9_method_36_code 267 = .ok (.iload 4, 2) := by decide +kernel
theorem d_Model_commit_269 : decode prog_9_method_36_code 269 = .ok (.ifCond .le 30, 3) := by decide +kernel
theorem d_Model_commit_272 : decode prog_9_method_36_code 272 = .ok (.aload_n 0, 1) := by decide +kernel
theorem d_Model_commit_273 : decode prog_9_method_36_code 273 = .ok (.iload 4, 2) := by decide +kernel
theorem d_Model_commit_275 : decode prog_9_method_36_code 275 = .ok (.iconst 1, 1) := by decide +kernel
theorem d_Model_commit_276 : decode prog_9_method_36_code 276 = .ok (.if_icmp .ne 7, 3) := by decide +kernel
theorem d_Model_commit_279 : decode prog_9_method_36_code 279 = .ok (.iconst 2, 1) := by decide +kernel
theorem d_Model_commit_280 : decode prog_9_method_36_code 280 = .ok (.goto 14, 3) := by decide +kernel
theorem d_Model_commit_283 : decode prog_9_method_36_code 283 = .ok (.iload 4, 2) := by decide +kernel
theorem d_Model_commit_285 : decode prog_9_method_36_code 285 = .ok (.iconst 2, 1) := by decide +kernel
theorem d_Model_commit_286 : decode prog_9_method_36_code 286 = .ok (.if_icmp .ne 7, 3) := by decide +kernel
theorem d_Model_commit_289 : decode prog_9_method_36_code 289 = .ok (.iconst 5, 1) := by decide +kernel
theorem d_Model_commit_290 : decode prog_9_method_36_code 290 = .ok (.goto 4, 3) := by decide +kernel
theorem d_Model_commit_293 : decode prog_9_method_36_code 293 = .ok (.iconst 3, 1) := by decide +kernel
theorem d_Model_commit_294 : decode prog_9_method_36_code 294 = .ok (.putfield 82, 3) := by decide +kernel
theorem d_Model_commit_297 : decode prog_9_method_36_code 297 = .ok (.iconst 0, 1) := by decide +kernel
theorem d_Model_commit_298 : decode prog_9_method_36_code 298 = .ok (.ireturn, 1) := by decide +kernel
theorem d_Model_commit_299 : decode prog_9_method_36_code 299 = .ok (.aload_n 0, 1) := by decide +kernel
theorem d_Model_commit_300 : decode prog_9_method_36_code 300 = .ok (.getfield 63, 3) := by decide +kernel
theorem d_Model_commit_303 : decode prog_9_method_36_code 303 = .ok (.iload_n 1, 1) := by decide +kernel
theorem d_Model_commit_304 : decode prog_9_method_36_code 304 = .ok (.iconst 0, 1) := by decide +kernel
theorem d_Model_commit_305 : decode prog_9_method_36_code 305 = .ok (.bastore, 1) := by decide +kernel
theorem d_Model_commit_306 : decode prog_9_method_36_code 306 = .ok (.aload_n 0, 1) := by decide +kernel
theorem d_Model_commit_307 : decode prog_9_method_36_code 307 = .ok (.getfield 151, 3) := by decide +kernel
theorem d_Model_commit_310 : decode prog_9_method_36_code 310 = .ok (.ireturn, 1) := by decide +kernel
theorem d_Model_drop_0 : decode prog_9_method_37_code 0 = .ok (.aload_n 0, 1) := by decide +kernel
theorem d_Model_drop_1 : decode prog_9_method_37_code 1 = .ok (.iconst 0, 1) := by decide +kernel
theorem d_Model_drop_2 : decode prog_9_method_37_code 2 = .ok (.putfield 82, 3) := by decide +kernel
theorem d_Model_drop_5 : decode prog_9_method_37_code 5 = .ok (.aload_n 0, 1) := by decide +kernel
theorem d_Model_drop_6 : decode prog_9_method_37_code 6 = .ok (.iload_n 1, 1) := by decide +kernel
theorem d_Model_drop_7 : decode prog_9_method_37_code 7 = .ok (.iconst 4, 1) := by decide +kernel
theorem d_Model_drop_8 : decode prog_9_method_37_code 8 = .ok (.invokevirtual 111, 3) := by decide +kernel
theorem d_Model_drop_11 : decode prog_9_method_37_code 11 = .ok (.ifCond .eq 9, 3) := by decide +kernel
theorem d_Model_drop_14 : decode prog_9_method_37_code 14 = .ok (.aload_n 0, 1) := by decide +kernel
theorem d_Model_drop_15 : decode prog_9_method_37_code 15 = .ok (.iconst 1, 1) := by decide +kernel
theorem d_Model_drop_16 : decode prog_9_method_37_code 16 = .ok (.invokevirtual 114, 3) := by decide +kernel
theorem d_Model_drop_19 : decode prog_9_method_37_code 19 = .ok (.ireturn, 1) := by decide +kernel
theorem d_Model_drop_20 : decode prog_9_method_37_code 20 = .ok (.aload_n 0, 1) := by decide +kernel
theorem d_Model_drop_21 : decode prog_9_method_37_code 21 = .ok (.getfield 63, 3) := by decide +kernel
theorem d_Model_drop_24 : decode prog_9_method_37_code 24 = .ok (.iload_n 1, 1) := by decide +kernel
theorem d_Model_drop_25 : decode prog_9_method_37_code 25 = .ok (.baload, 1) := by decide +kernel
theorem d_Model_drop_26 : decode prog_9_method_37_code 26 = .ok (.ifCond .ne 5, 3) := by decide +kernel
theorem d_Model_drop_29 : decode prog_9_method_37_code 29 = .ok (.iconst (-1), 1) := by decide +kernel
theorem d_Model_drop_30 : decode prog_9_method_37_code 30 = .ok (.ireturn, 1) := by decide +kernel
theorem d_Model_drop_31 : decode prog_9_method_37_code 31 = .ok (.aload_n 0, 1) := by decide +kernel
theorem d_Model_drop_32 : decode prog_9_method_37_code 32 = .ok (.getfield 63, 3) := by decide +kernel
theorem d_Model_drop_35 : decode prog_9_method_37_code 35 = .ok (.iload_n 1, 1) := by decide +kernel
theorem d_Model_drop_36 : decode prog_9_method_37_code 36 = .ok (.iconst 0, 1) := by decide +kernel
theorem d_Model_drop_37 : decode prog_9_method_37_code 37 = .ok (.bastore, 1) := by decide +kernel
theorem d_Model_drop_38 : decode prog_9_method_37_code 38 = .ok (.aload_n 0, 1) := by decide +kernel
theorem d_Model_drop_39 : decode prog_9_method_37_code 39 = .ok (.aload_n 0, 1) := by decide +kernel
theorem d_Model_drop_40 : decode prog_9_method_37_code 40 = .ok (.getfield 72, 3) := by decide +kernel
theorem d_Model_drop_43 : decode prog_9_method_37_code 43 = .ok (.iload_n 1, 1) := by decide +kernel
theorem d_Model_drop_44 : decode prog_9_method_37_code 44 = .ok (.iaload, 1) := by decide +kernel
theorem d_Model_drop_45 : decode prog_9_method_37_code 45 = .ok (.invokevirtual 131, 3) := by decide +kernel
theorem d_Model_drop_48 : decode prog_9_method_37_code 48 = .ok (.ireturn, 1) := by decide +kernel
theorem d_Model_look_0 : decode prog_9_method_38_code 0 = .ok (.aload_n 0, 1) := by decide +kernel
theorem d_Model_look_1 : decode prog_9_method_38_code 1 = .ok (.iconst 0, 1) := by decide +kernel
theorem d_Model_look_2 : decode prog_9_method_38_code 2 = .ok (.putfield 82, 3) := by decide +kernel
theorem d_Model_look_5 : decode prog_9_method_38_code 5 = .ok (.aload_n 0, 1) := by decide +kernel
theorem d_Model_look_6 : decode prog_9_method_38_code 6 = .ok (.iload_n 1, 1) := by decide +kernel
theorem d_Model_look_7 : decode prog_9_method_38_code 7 = .ok (.bipush 6, 2) := by decide +kernel
theorem d_Model_look_9 : decode prog_9_method_38_code 9 = .ok (.invokevirtual 111, 3) := by decide +kernel
theorem d_Model_look_12 : decode prog_9_method_38_code 12 = .ok (.ifCond .ne 13, 3) := by decide +kernel
theorem d_Model_look_15 : decode prog_9_method_38_code 15 = .ok (.aload_n 0, 1) := by decide +kernel
theorem d_Model_look_16 : decode prog_9_method_38_code 16 = .ok (.iload_n 2, 1) := by decide +kernel
theorem d_Model_look_17 : decode prog_9_method_38_code 17 = .ok (.bipush 60, 2) := by decide +kernel
theorem d_Model_look_19 : decode prog_9_method_38_code 19 = .ok (.invokevirtual 111, 3) := by decide +kernel
theorem d_Model_look_22 : decode prog_9_method_38_code 22 = .ok (.ifCond .eq 11, 3) := by decide +kernel
theorem d_Model_look_25 : decode prog_9_method_38_code 25 = .ok (.aload_n 0, 1) := by decide +kernel
theorem d_Model_look_26 : decode prog_9_method_38_code 26 = .ok (.iconst 1, 1) := by decide +kernel
theorem d_Model_look_27 : decode prog_9_method_38_code 27 = .ok (.invokevirtual 114, 3) := by decide +kernel
theorem d_Model_look_30 : decode prog_9_method_38_code 30 = .ok (.goto 14, 3) := by decide +kernel
theorem d_Model_look_33 : decode prog_9_method_38_code 33 = .ok (.aload_n 0, 1) := by decide +kernel
theorem d_Model_look_34 : decode prog_9_method_38_code 34 = .ok (.getfield 7, 3) := by decide +kernel
theorem d_Model_look_37 : decode prog_9_method_38_code 37 = .ok (.aload_n 0, 1) := by decide +kernel
theorem d_Model_look_38 : decode prog_9_method_38_code 38 = .ok (.iload_n 1, 1) := by decide +kernel
theorem d_Model_look_39 : decode prog_9_method_38_code 39 = .ok (.iload_n 2, 1) := by decide +kernel
theorem d_Model_look_40 : decode prog_9_method_38_code 40 = .ok (.invokevirtual 100, 3) := by decide +kernel
theorem d_Model_look_43 : decode prog_9_method_38_code 43 = .ok (.iaload, 1) := by decide +kernel
theorem d_Model_look_44 : decode prog_9_method_38_code 44 = .ok (.ireturn, 1) := by decide +kernel
theorem d_Model_client_0 : decode prog_9_method_39_code 0 = .ok (.aload_n 0, 1) := by decide +kernel
theorem d_Model_client_1 : decode prog_9_method_39_code 1 = .ok (.iconst 0, 1) := by decide +kernel
theorem d_Model_client_2 : decode prog_9_method_39_code 2 = .ok (.putfield 82, 3) := by decide +kernel
theorem d_Model_client_5 : decode prog_9_method_39_code 5 = .ok (.aload_n 0, 1) := by decide +kernel
theorem d_Model_client_6 : decode prog_9_method_39_code 6 = .ok (.iload_n 1, 1) := by decide +kernel
theorem d_Model_client_7 : decode prog_9_method_39_code 7 = .ok (.iconst 4, 1) := by decide +kernel
theorem d_Model_client_8 : decode prog_9_method_39_code 8 = .ok (.invokevirtual 111, 3) := by decide +kernel
theorem d_Model_client_11 : decode prog_9_method_39_code 11 = .ok (.ifCond .ne 13, 3) := by decide +kernel
theorem d_Model_client_14 : decode prog_9_method_39_code 14 = .ok (.aload_n 0, 1) := by decide +kernel
theorem d_Model_client_15 : decode prog_9_method_39_code 15 = .ok (.iload_n 2, 1) := by decide +kernel
theorem d_Model_client_16 : decode prog_9_method_39_code 16 = .ok (.bipush 9, 2) := by decide +kernel
theorem d_Model_client_18 : decode prog_9_method_39_code 18 = .ok (.invokevirtual 111, 3) := by decide +kernel
theorem d_Model_client_21 : decode prog_9_method_39_code 21 = .ok (.ifCond .eq 9, 3) := by decide +kernel
theorem d_Model_client_24 : decode prog_9_method_39_code 24 = .ok (.aload_n 0, 1) := by decide +kernel
theorem d_Model_client_25 : decode prog_9_method_39_code 25 = .ok (.iconst 1, 1) := by decide +kernel
theorem d_Model_client_26 : decode prog_9_method_39_code 26 = .ok (.invokevirtual 114, 3) := by decide +kernel
theorem d_Model_client_29 : decode prog_9_method_39_code 29 = .ok (.ireturn, 1) := by decide +kernel
theorem d_Model_client_30 : decode prog_9_method_39_code 30 = .ok (.iload_n 2, 1) := by decide +kernel
theorem d_Model_client_31 : decode prog_9_method_39_code 31 = .ok (.ifCond .ne 10, 3) := by decide +kernel
theorem d_Model_client_34 : decode prog_9_method_39_code 34 = .ok (.aload_n 0, 1) := by decide +kernel
theorem d_Model_client_35 : decode prog_9_method_39_code 35 = .ok (.getfield 48, 3) := by decide +kernel
theorem d_Model_client_38 : decode prog_9_method_39_code 38 = .ok (.iload_n 1, 1) := by decide +kernel
theorem d_Model_client_39 : decode prog_9_method_39_code 39 = .ok (.iaload, 1) := by decide +kernel
theorem d_Model_client_40 : decode prog_9_method_39_code 40 = .ok (.ireturn, 1) := by decide +kernel
theorem d_Model_client_41 : decode prog_9_method_39_code 41 = .ok (.iload_n 2, 1) := by decide +kernel
theorem d_Model_client_42 : decode prog_9_method_39_code 42 = .ok (.iconst 1, 1) := by decide +kernel
theorem d_Model_client_43 : decode prog_9_method_39_code 43 = .ok (.if_icmp .ne 10, 3) := by decide +kernel
theorem d_Model_client_46 : decode prog_9_method_39_code 46 = .ok (.aload_n 0, 1) := by decide +kernel
theorem d_Model_client_47 : decode prog_9_method_39_code 47 = .ok (.getfield 54, 3) := by decide +kernel
theorem d_Model_client_50 : decode prog_9_method_39_code 50 = .ok (.iload_n 1, 1) := by decide +kernel
theorem d_Model_client_51 : decode prog_9_method_39_code 51 = .ok (.iaload, 1) := by decide +kernel
theorem d_Model_client_52 : decode prog_9_method_39_code 52 = .ok (.ireturn, 1) := by decide +kernel
theorem d_Model_client_53 : decode prog_9_method_39_code 53 = .ok (.iload_n 2, 1) := by decide +kernel
theorem d_Model_client_54 : decode prog_9_method_39_code 54 = .ok (.bipush 6, 2) := by decide +kernel
theorem d_Model_client_56 : decode prog_9_method_39_code 56 = .ok (.if_icmp .ge 16, 3) := by decide +kernel
theorem d_Model_client_59 : decode prog_9_method_39_code 59 = .ok (.aload_n 0, 1) := by decide +kernel
theorem d_Model_client_60 : decode prog_9_method_39_code 60 = .ok (.getfield 60, 3) := by decide +kernel
theorem d_Model_client_63 : decode prog_9_method_39_code 63 = .ok (.iconst 4, 1) := by decide +kernel
theorem d_Model_client_64 : decode prog_9_method_39_code 64 = .ok (.iload_n 1, 1) := by decide +kernel
theorem d_Model_client_65 : decode prog_9_method_39_code 65 = .ok (.imul, 1) := by decide +kernel
theorem d_Model_client_66 : decode prog_9_method_39_code 66 = .ok (.iload_n 2, 1) := by decide +kernel
theorem d_Model_client_67 : decode prog_9_method_39_code 67 = .ok (.iadd, 1) := by decide +kernel
theorem d_Model_client_68 : decode prog_9_method_39_code 68 = .ok (.iconst 2, 1) := by decide +kernel
theorem d_Model_client_69 : decode prog_9_method_39_code 69 = .ok (.isub, 1) := by decide +kernel
theorem d_Model_client_70 : decode prog_9_method_39_code 70 = .ok (.iaload, 1) := by decide +kernel
theorem d_Model_client_71 : decode prog_9_method_39_code 71 = .ok (.ireturn, 1) := by decide +kernel
theorem d_Model_client_72 : decode prog_9_method_39_code 72 = .ok (.iload_n 2, 1) := by decide +kernel
theorem d_Model_client_73 : decode prog_9_method_39_code 73 = .ok (.bipush 8, 2) := by decide +kernel
theorem d_Model_client_75 : decode prog_9_method_39_code 75 = .ok (.if_icmp .ge 17, 3) := by decide +kernel
theorem d_Model_client_78 : decode prog_9_method_39_code 78 = .ok (.aload_n 0, 1) := by decide +kernel
theorem d_Model_client_79 : decode prog_9_method_39_code 79 = .ok (.getfield 51, 3) := by decide +kernel
theorem d_Model_client_82 : decode prog_9_method_39_code 82 = .ok (.iconst 2, 1) := by decide +kernel
theorem d_Model_client_83 : decode prog_9_method_39_code 83 = .ok (.iload_n 1, 1) := by decide +kernel
theorem d_Model_client_84 : decode prog_9_method_39_code 84 = .ok (.imul, 1) := by decide +kernel
theorem d_Model_client_85 : decode prog_9_method_39_code 85 = .ok (.iload_n 2, 1) := by decide +kernel
theorem d_Model_client_86 : decode prog_9_method_39_code 86 = .ok (.iadd, 1) := by decide +kernel
theorem d_Model_client_87 : decode prog_9_method_39_code 87 = .ok (.bipush 6, 2) := by decide +kernel
theorem d_Model_client_89 : decode prog_9_method_39_code 89 = .ok (.isub, 1) := by decide +kernel
theorem d_Model_client_90 : decode prog_9_method_39_code 90 = .ok (.iaload, 1) := by decide +kernel
theorem d_Model_client_91 : decode prog_9_method_39_code 91 = .ok (.ireturn, 1) := by decide +kernel
theorem d_Model_client_92 : decode prog_9_method_39_code 92 = .ok (.aload_n 0, 1) := by decide +kernel
theorem d_Model_client_93 : decode prog_9_method_39_code 93 = .ok (.getfield 63, 3) := by decide +kernel
theorem d_Model_client_96 : decode prog_9_method_39_code 96 = .ok (.iload_n 1, 1) := by decide +kernel
theorem d_Model_client_97 : decode prog_9_method_39_code 97 = .ok (.baload, 1) := by decide +kernel
theorem d_Model_client_98 : decode prog_9_method_39_code 98 = .ok (.ifCond .eq 7, 3) := by decide +kernel
theorem d_Model_client_101 : decode prog_9_method_39_code 101 = .ok (.iconst 1, 1) := by decide +kernel
theorem d_Model_client_102 : decode prog_9_method_39_code 102 = .ok (.goto 4, 3) := by decide +kernel
theorem d_Model_client_105 : decode prog_9_method_39_code 105 = .ok (.iconst 0, 1) := by decide +kernel
theorem d_Model_client_106 : decode prog_9_method_39_code 106 = .ok (.ireturn, 1) := by decide +kernel
theorem d_Model_count_0 : decode prog_9_method_40_code 0 = .ok (.aload_n 0, 1) := by decide +kernel
theorem d_Model_count_1 : decode prog_9_method_40_code 1 = .ok (.iconst 0, 1) := by decide +kernel
theorem d_Model_count_2 : decode prog_9_method_40_code 2 = .ok (.putfield 82, 3) := by decide +kernel
theorem d_Model_count_5 : decode prog_9_method_40_code 5 = .ok (.aload_n 0, 1) := by decide +kernel
theorem d_Model_count_6 : decode prog_9_method_40_code 6 = .ok (.iload_n 1, 1) := by decide +kernel
theorem d_Model_count_7 : decode prog_9_method_40_code 7 = .ok (.bipush 10, 2) := by decide +kernel
theorem d_Model_count_9 : decode prog_9_method_40_code 9 = .ok (.invokevirtual 111, 3) := by decide +kernel
theorem d_Model_count_12 : decode prog_9_method_40_code 12 = .ok (.ifCond .eq 9, 3) := by decide +kernel
theorem d_Model_count_15 : decode prog_9_method_40_code 15 = .ok (.aload_n 0, 1) := by decide +kernel
theorem d_Model_count_16 : decode prog_9_method_40_code 16 = .ok (.iconst 1, 1) := by decide +kernel
theorem d_Model_count_17 : decode prog_9_method_40_code 17 = .ok (.invokevirtual 114, 3) := by decide +kernel
theorem d_Model_count_20 : decode prog_9_method_40_code 20 = .ok (.ireturn, 1) := by decide +kernel
theorem d_Model_count_21 : decode prog_9_method_40_code 21 = .ok (.iload_n 1, 1) := by decide +kernel
theorem d_Model_count_22 : decode prog_9_method_40_code 22 = .ok (.ifCond .ne 8, 3) := by decide +kernel
theorem d_Model_count_25 : decode prog_9_method_40_code 25 = .ok (.aload_n 0, 1) := by decide +kernel
theorem d_Model_count_26 : decode prog_9_method_40_code 26 = .ok (.getfield 38, 3) := by decide +kernel
theorem d_Model_count_29 : decode prog_9_method_40_code 29 = .ok (.ireturn, 1) := by decide +kernel
theorem d_Model_count_30 : decode prog_9_method_40_code 30 = .ok (.iload_n 1, 1) := by decide +kernel
theorem d_Model_count_31 : decode prog_9_method_40_code 31 = .ok (.iconst 1, 1) := by decide +kernel
theorem d_Model_count_32 : decode prog_9_method_40_code 32 = .ok (.if_icmp .ne 8, 3) := by decide +kernel
theorem d_Model_count_35 : decode prog_9_method_40_code 35 = .ok (.aload_n 0, 1) := by decide +kernel
theorem d_Model_count_36 : decode prog_9_method_40_code 36 = .ok (.getfield 45, 3) := by decide +kernel
theorem d_Model_count_39 : decode prog_9_method_40_code 39 = .ok (.ireturn, 1) := by decide +kernel
theorem d_Model_count_40 : decode prog_9_method_40_code 40 = .ok (.iload_n 1, 1) := by decide +kernel
theorem d_Model_count_41 : decode prog_9_method_40_code 41 = .ok (.iconst 2, 1) := by decide +kernel
theorem d_Model_count_42 : decode prog_9_method_40_code 42 = .ok (.if_icmp .ne 8, 3) := by decide +kernel
theorem d_Model_count_45 : decode prog_9_method_40_code 45 = .ok (.aload_n 0, 1) := by decide +kernel
theorem d_Model_count_46 : decode prog_9_method_40_code 46 = .ok (.getfield 121, 3) := by decide +kernel
theorem d_Model_count_49 : decode prog_9_method_40_code 49 = .ok (.ireturn, 1) := by decide +kernel
theorem d_Model_count_50 : decode prog_9_method_40_code 50 = .ok (.iload_n 1, 1) := by decide +kernel
theorem d_Model_count_51 : decode prog_9_method_40_code 51 = .ok (.iconst 3, 1) := by decide +kernel
theorem d_Model_count_52 : decode prog_9_method_40_code 52 = .ok (.if_icmp .ne 18, 3) := by decide +kernel
theorem d_Model_count_55 : decode prog_9_method_40_code 55 = .ok (.aload_n 0, 1) := by decide +kernel
theorem d_Model_count_56 : decode prog_9_method_40_code 56 = .ok (.getfield 107, 3) := by decide +kernel
theorem d_Model_count_59 : decode prog_9_method_40_code 59 = .ok (.ifCond .eq 7, 3) := by decide +kernel
theorem d_Model_count_62 : decode prog_9_method_40_code 62 = .ok (.iconst 1, 1) := by decide +kernel
theorem d_Model_count_63 : decode prog_9_method_40_code 63 = .ok (.goto 15, 3) := by decide +kernel
theorem d_Model_count_66 : decode prog_9_method_40_code 66 = .ok (.iconst 0, 1) := by decide +kernel
theorem d_Model_count_67 : decode prog_9_method_40_code 67 = .ok (.goto 11, 3) := by decide +kernel
theorem d_Model_count_70 : decode prog_9_method_40_code 70 = .ok (.aload_n 0, 1) := by decide +kernel
theorem d_Model_count_71 : decode prog_9_method_40_code 71 = .ok (.getfield 35, 3) := by decide +kernel
theorem d_Model_count_74 : decode prog_9_method_40_code 74 = .ok (.iload_n 1, 1) := by decide +kernel
theorem d_Model_count_75 : decode prog_9_method_40_code 75 = .ok (.iconst 4, 1) := by decide +kernel
theorem d_Model_count_76 : decode prog_9_method_40_code 76 = .ok (.isub, 1) := by decide +kernel
theorem d_Model_count_77 : decode prog_9_method_40_code 77 = .ok (.iaload, 1) := by decide +kernel
theorem d_Model_count_78 : decode prog_9_method_40_code 78 = .ok (.ireturn, 1) := by decide +kernel
