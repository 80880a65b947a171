theorem d_Log_init_0 : decode prog_1_method_1_code 0 = .ok (.aload_n 0, 1) := by decide +kernel
theorem d_Log_init_1 : decode prog_1_method_1_code 1 = .ok (.invokespecial 1, 3) := by decide +kernel
theorem d_Log_init_4 : decode prog_1_method_1_code 4 = .ok (.aload_n 0, 1) := by decide +kernel
theorem d_Log_init_5 : decode prog_1_method_1_code 5 = .ok (.bipush 6, 2) := by decide +kernel
theorem d_Log_init_7 : decode prog_1_method_1_code 7 = .ok (.anewarray 9, 3) := by decide +kernel
theorem d_Log_init_10 : decode prog_1_method_1_code 10 = .ok (.putfield 11, 3) := by decide +kernel
theorem d_Log_init_13 : decode prog_1_method_1_code 13 = .ok (.aload_n 0, 1) := by decide +kernel
theorem d_Log_init_14 : decode prog_1_method_1_code 14 = .ok (.iconst 4, 1) := by decide +kernel
theorem d_Log_init_15 : decode prog_1_method_1_code 15 = .ok (.anewarray 15, 3) := by decide +kernel
theorem d_Log_init_18 : decode prog_1_method_1_code 18 = .ok (.putfield 17, 3) := by decide +kernel
theorem d_Log_init_21 : decode prog_1_method_1_code 21 = .ok (.aload_n 0, 1) := by decide +kernel
theorem d_Log_init_22 : decode prog_1_method_1_code 22 = .ok (.new 21, 3) := by decide +kernel
theorem d_Log_init_25 : decode prog_1_method_1_code 25 = .ok (.dup, 1) := by decide +kernel
theorem d_Log_init_26 : decode prog_1_method_1_code 26 = .ok (.invokespecial 23, 3) := by decide +kernel
theorem d_Log_init_29 : decode prog_1_method_1_code 29 = .ok (.putfield 24, 3) := by decide +kernel
theorem d_Log_init_32 : decode prog_1_method_1_code 32 = .ok (.new 28, 3) := by decide +kernel
theorem d_Log_init_35 : decode prog_1_method_1_code 35 = .ok (.dup, 1) := by decide +kernel
theorem d_Log_init_36 : decode prog_1_method_1_code 36 = .ok (.invokespecial 30, 3) := by decide +kernel
theorem d_Log_init_39 : decode prog_1_method_1_code 39 = .ok (.astore_n 1, 1) := by decide +kernel
theorem d_Log_init_40 : decode prog_1_method_1_code 40 = .ok (.aload_n 0, 1) := by decide +kernel
theorem d_Log_init_41 : decode prog_1_method_1_code 41 = .ok (.new 31, 3) := by decide +kernel
theorem d_Log_init_44 : decode prog_1_method_1_code 44 = .ok (.dup, 1) := by decide +kernel
theorem d_Log_init_45 : decode prog_1_method_1_code 45 = .ok (.iconst 0, 1) := by decide +kernel
theorem d_Log_init_46 : decode prog_1_method_1_code 46 = .ok (.iconst 0, 1) := by decide +kernel
theorem d_Log_init_47 : decode prog_1_method_1_code 47 = .ok (.aload_n 1, 1) := by decide +kernel
theorem d_Log_init_48 : decode prog_1_method_1_code 48 = .ok (.invokespecial 33, 3) := by decide +kernel
theorem d_Log_init_51 : decode prog_1_method_1_code 51 = .ok (.putfield 36, 3) := by decide +kernel
theorem d_Log_init_54 : decode prog_1_method_1_code 54 = .ok (.aload_n 0, 1) := by decide +kernel
theorem d_Log_init_55 : decode prog_1_method_1_code 55 = .ok (.new 31, 3) := by decide +kernel
theorem d_Log_init_58 : decode prog_1_method_1_code 58 = .ok (.dup, 1) := by decide +kernel
theorem d_Log_init_59 : decode prog_1_method_1_code 59 = .ok (.iconst 3, 1) := by decide +kernel
theorem d_Log_init_60 : decode prog_1_method_1_code 60 = .ok (.iconst 0, 1) := by decide +kernel
theorem d_Log_init_61 : decode prog_1_method_1_code 61 = .ok (.aload_n 1, 1) := by decide +kernel
theorem d_Log_init_62 : decode prog_1_method_1_code 62 = .ok (.invokespecial 33, 3) := by decide +kernel
theorem d_Log_init_65 : decode prog_1_method_1_code 65 = .ok (.putfield 40, 3) := by decide +kernel
theorem d_Log_init_68 : decode prog_1_method_1_code 68 = .ok (.aload_n 0, 1) := by decide +kernel
theorem d_Log_init_69 : decode prog_1_method_1_code 69 = .ok (.new 31, 3) := by decide +kernel
theorem d_Log_init_72 : decode prog_1_method_1_code 72 = .ok (.dup, 1) := by decide +kernel
theorem d_Log_init_73 : decode prog_1_method_1_code 73 = .ok (.iconst 4, 1) := by decide +kernel
theorem d_Log_init_74 : decode prog_1_method_1_code 74 = .ok (.iconst 0, 1) := by decide +kernel
theorem d_Log_init_75 : decode prog_1_method_1_code 75 = .ok (.aload_n 1, 1) := by decide +kernel
theorem d_Log_init_76 : decode prog_1_method_1_code 76 = .ok (.invokespecial 33, 3) := by decide +kernel
theorem d_Log_init_79 : decode prog_1_method_1_code 79 = .ok (.putfield 43, 3) := by decide +kernel
theorem d_Log_init_82 : decode prog_1_method_1_code 82 = .ok (.aload_n 0, 1) := by decide +kernel
theorem d_Log_init_83 : decode prog_1_method_1_code 83 = .ok (.new 46, 3) := by decide +kernel
theorem d_Log_init_86 : decode prog_1_method_1_code 86 = .ok (.dup, 1) := by decide +kernel
theorem d_Log_init_87 : decode prog_1_method_1_code 87 = .ok (.iconst 1, 1) := by decide +kernel
theorem d_Log_init_88 : decode prog_1_method_1_code 88 = .ok (.bipush 12, 2) := by decide +kernel
theorem d_Log_init_90 : decode prog_1_method_1_code 90 = .ok (.invokestatic 48, 3) := by decide +kernel
theorem d_Log_init_93 : decode prog_1_method_1_code 93 = .ok (.bipush 34, 2) := by decide +kernel
theorem d_Log_init_95 : decode prog_1_method_1_code 95 = .ok (.invokestatic 48, 3) := by decide +kernel
theorem d_Log_init_98 : decode prog_1_method_1_code 98 = .ok (.invokespecial 52, 3) := by decide +kernel
theorem d_Log_init_101 : decode prog_1_method_1_code 101 = .ok (.putfield 55, 3) := by decide +kernel
theorem d_Log_init_104 : decode prog_1_method_1_code 104 = .ok (.iconst 0, 1) := by decide +kernel
theorem d_Log_init_105 : decode prog_1_method_1_code 105 = .ok (.istore_n 2, 1) := by decide +kernel
theorem d_Log_init_106 : decode prog_1_method_1_code 106 = .ok (.iload_n 2, 1) := by decide +kernel
theorem d_Log_init_107 : decode prog_1_method_1_code 107 = .ok (.bipush 6, 2) := by decide +kernel
theorem d_Log_init_109 : decode prog_1_method_1_code 109 = .ok (.if_icmp .ge 26, 3) := by decide +kernel
theorem d_Log_init_112 : decode prog_1_method_1_code 112 = .ok (.aload_n 0, 1) := by decide +kernel
theorem d_Log_init_113 : decode prog_1_method_1_code 113 = .ok (.getfield 11, 3) := by decide +kernel
theorem d_Log_init_116 : decode prog_1_method_1_code 116 = .ok (.iload_n 2, 1) := by decide +kernel
theorem d_Log_init_117 : decode prog_1_method_1_code 117 = .ok (.new 9, 3) := by decide +kernel
theorem d_Log_init_120 : decode prog_1_method_1_code 120 = .ok (.dup, 1) := by decide +kernel
theorem d_Log_init_121 : decode prog_1_method_1_code 121 = .ok (.aload_n 0, 1) := by decide +kernel
theorem d_Log_init_122 : decode prog_1_method_1_code 122 = .ok (.getfield 36, 3) := by decide +kernel
theorem d_Log_init_125 : decode prog_1_method_1_code 125 = .ok (.invokespecial 59, 3) := by decide +kernel
theorem d_Log_init_128 : decode prog_1_method_1_code 128 = .ok (.aastore, 1) := by decide +kernel
theorem d_Log_init_129 : decode prog_1_method_1_code 129 = .ok (.iinc 2 1, 3) := by decide +kernel
theorem d_Log_init_132 : decode prog_1_method_1_code 132 = .ok (.goto (-26), 3) := by decide +kernel
theorem d_Log_init_135 : decode prog_1_method_1_code 135 = .ok (.iconst 0, 1) := by decide +kernel
theorem d_Log_init_136 : decode prog_1_method_1_code 136 = .ok (.istore_n 2, 1) := by decide +kernel
theorem d_Log_init_137 : decode prog_1_method_1_code 137 = .ok (.iload_n 2, 1) := by decide +kernel
theorem d_Log_init_138 : decode prog_1_method_1_code 138 = .ok (.iconst 4, 1) := by decide +kernel
theorem d_Log_init_139 : decode prog_1_method_1_code 139 = .ok (.if_icmp .ge 26, 3) := by decide +kernel
theorem d_Log_init_142 : decode prog_1_method_1_code 142 = .ok (.aload_n 0, 1) := by decide +kernel
theorem d_Log_init_143 : decode prog_1_method_1_code 143 = .ok (.getfield 17, 3) := by decide +kernel
theorem d_Log_init_146 : decode prog_1_method_1_code 146 = .ok (.iload_n 2, 1) := by decide +kernel
theorem d_Log_init_147 : decode prog_1_method_1_code 147 = .ok (.new 15, 3) := by decide +kernel
theorem d_Log_init_150 : decode prog_1_method_1_code 150 = .ok (.dup, 1) := by decide +kernel
theorem d_Log_init_151 : decode prog_1_method_1_code 151 = .ok (.aload_n 0, 1) := by decide +kernel
theorem d_Log_init_152 : decode prog_1_method_1_code 152 = .ok (.getfield 55, 3) := by decide +kernel
theorem d_Log_init_155 : decode prog_1_method_1_code 155 = .ok (.invokespecial 62, 3) := by decide +kernel
theorem d_Log_init_158 : decode prog_1_method_1_code 158 = .ok (.aastore, 1) := by decide +kernel
theorem d_Log_init_159 : decode prog_1_method_1_code 159 = .ok (.iinc 2 1, 3) := by decide +kernel
theorem d_Log_init_162 : decode prog_1_method_1_code 162 = .ok (.goto (-25), 3) := by decide +kernel
theorem d_Log_init_165 : decode prog_1_method_1_code 165 = .ok (.return_, 1) := by decide +kernel
theorem d_Log_append_0 : decode prog_1_method_2_code 0 = .ok (.iload_n 1, 1) := by decide +kernel
theorem d_Log_append_1 : decode prog_1_method_2_code 1 = .ok (.iconst 3, 1) := by decide +kernel
theorem d_Log_append_2 : decode prog_1_method_2_code 2 = .ok (.invokestatic 65, 3) := by decide +kernel
theorem d_Log_append_5 : decode prog_1_method_2_code 5 = .ok (.iload_n 2, 1) := by decide +kernel
theorem d_Log_append_6 : decode prog_1_method_2_code 6 = .ok (.iconst 3, 1) := by decide +kernel
theorem d_Log_append_7 : decode prog_1_method_2_code 7 = .ok (.invokestatic 65, 3) := by decide +kernel
theorem d_Log_append_10 : decode prog_1_method_2_code 10 = .ok (.iload 4, 2) := by decide +kernel
theorem d_Log_append_12 : decode prog_1_method_2_code 12 = .ok (.iconst 3, 1) := by decide +kernel
theorem d_Log_append_13 : decode prog_1_method_2_code 13 = .ok (.invokestatic 65, 3) := by decide +kernel
theorem d_Log_append_16 : decode prog_1_method_2_code 16 = .ok (.aload_n 0, 1) := by decide +kernel
theorem d_Log_append_17 : decode prog_1_method_2_code 17 = .ok (.getfield 17, 3) := by decide +kernel
theorem d_Log_append_20 : decode prog_1_method_2_code 20 = .ok (.iload_n 1, 1) := by decide +kernel
theorem d_Log_append_21 : decode prog_1_method_2_code 21 = .ok (.aaload, 1) := by decide +kernel
theorem d_Log_append_22 : decode prog_1_method_2_code 22 = .ok (.astore 5, 2) := by decide +kernel
theorem d_Log_append_24 : decode prog_1_method_2_code 24 = .ok (.aload_n 0, 1) := by decide +kernel
theorem d_Log_append_25 : decode prog_1_method_2_code 25 = .ok (.aload 5, 2) := by decide +kernel
theorem d_Log_append_27 : decode prog_1_method_2_code 27 = .ok (.invokevirtual 69, 3) := by decide +kernel
theorem d_Log_append_30 : decode prog_1_method_2_code 30 = .ok (.istore 6, 2) := by decide +kernel
theorem d_Log_append_32 : decode prog_1_method_2_code 32 = .ok (.new 28, 3) := by decide +kernel
theorem d_Log_append_35 : decode prog_1_method_2_code 35 = .ok (.dup, 1) := by decide +kernel
theorem d_Log_append_36 : decode prog_1_method_2_code 36 = .ok (.invokespecial 30, 3) := by decide +kernel
theorem d_Log_append_39 : decode prog_1_method_2_code 39 = .ok (.astore 7, 2) := by decide +kernel
theorem d_Log_append_41 : decode prog_1_method_2_code 41 = .ok (.aload 7, 2) := by decide +kernel
theorem d_Log_append_43 : decode prog_1_method_2_code 43 = .ok (.iload_n 2, 1) := by decide +kernel
theorem d_Log_append_44 : decode prog_1_method_2_code 44 = .ok (.iload_n 3, 1) := by decide +kernel
theorem d_Log_append_45 : decode prog_1_method_2_code 45 = .ok (.invokevirtual 73, 3) := by decide +kernel
theorem d_Log_append_48 : decode prog_1_method_2_code 48 = .ok (.aload_n 0, 1) := by decide +kernel
theorem d_Log_append_49 : decode prog_1_method_2_code 49 = .ok (.aload 5, 2) := by decide +kernel
theorem d_Log_append_51 : decode prog_1_method_2_code 51 = .ok (.iload 6, 2) := by decide +kernel
theorem d_Log_append_53 : decode prog_1_method_2_code 53 = .ok (.new 31, 3) := by decide +kernel
theorem d_Log_append_56 : decode prog_1_method_2_code 56 = .ok (.dup, 1) := by decide +kernel
theorem d_Log_append_57 : decode prog_1_method_2_code 57 = .ok (.iconst 1, 1) := by decide +kernel
theorem d_Log_append_58 : decode prog_1_method_2_code 58 = .ok (.iload_n 3, 1) := by decide +kernel
theorem d_Log_append_59 : decode prog_1_method_2_code 59 = .ok (.aload 7, 2) := by decide +kernel
theorem d_Log_append_61 : decode prog_1_method_2_code 61 = .ok (.invokespecial 33, 3) := by decide +kernel
theorem d_Log_append_64 : decode prog_1_method_2_code 64 = .ok (.iload 4, 2) := by decide +kernel
theorem d_Log_append_66 : decode prog_1_method_2_code 66 = .ok (.invokevirtual 76, 3) := by decide +kernel
theorem d_Log_append_69 : decode prog_1_method_2_code 69 = .ok (.aload 5, 2) := by decide +kernel
theorem d_Log_append_71 : decode prog_1_method_2_code 71 = .ok (.getfield 80, 3) := by decide +kernel
theorem d_Log_append_74 : decode prog_1_method_2_code 74 = .ok (.iload 6, 2) := by decide +kernel
theorem d_Log_append_76 : decode prog_1_method_2_code 76 = .ok (.invokevirtual 83, 3) := by decide +kernel
theorem d_Log_append_79 : decode prog_1_method_2_code 79 = .ok (.arraylength, 1) := by decide +kernel
theorem d_Log_append_80 : decode prog_1_method_2_code 80 = .ok (.iload 4, 2) := by decide +kernel
theorem d_Log_append_82 : decode prog_1_method_2_code 82 = .ok (.if_icmp .le 7, 3) := by decide +kernel
theorem d_Log_append_85 : decode prog_1_method_2_code 85 = .ok (.iconst 1, 1) := by decide +kernel
theorem d_Log_append_86 : decode prog_1_method_2_code 86 = .ok (.goto 4, 3) := by decide +kernel
theorem d_Log_append_89 : decode prog_1_method_2_code 89 = .ok (.iconst 0, 1) := by decide +kernel
theorem d_Log_append_90 : decode prog_1_method_2_code 90 = .ok (.istore 8, 2) := by decide +kernel
theorem d_Log_append_92 : decode prog_1_method_2_code 92 = .ok (.iload 8, 2) := by decide +kernel
theorem d_Log_append_94 : decode prog_1_method_2_code 94 = .ok (.ifCond .eq 11, 3) := by decide +kernel
theorem d_Log_append_97 : decode prog_1_method_2_code 97 = .ok (.iload 6, 2) := by decide +kernel
theorem d_Log_append_99 : decode prog_1_method_2_code 99 = .ok (.bipush 100, 2) := by decide +kernel
theorem d_Log_append_101 : decode prog_1_method_2_code 101 = .ok (.isub, 1) := by decide +kernel
theorem d_Log_append_102 : decode prog_1_method_2_code 102 = .ok (.goto 5, 3) := by decide +kernel
theorem d_Log_append_105 : decode prog_1_method_2_code 105 = .ok (.iload 6, 2) := by decide +kernel
theorem d_Log_append_107 : decode prog_1_method_2_code 107 = .ok (.ireturn, 1) := by decide +kernel
theorem d_Log_read_0 : decode prog_1_method_3_code 0 = .ok (.iload_n 1, 1) := by decide +kernel
theorem d_Log_read_1 : decode prog_1_method_3_code 1 = .ok (.iconst 3, 1) := by decide +kernel
theorem d_Log_read_2 : decode prog_1_method_3_code 2 = .ok (.invokestatic 65, 3) := by decide +kernel
theorem d_Log_read_5 : decode prog_1_method_3_code 5 = .ok (.iload_n 2, 1) := by decide +kernel
theorem d_Log_read_6 : decode prog_1_method_3_code 6 = .ok (.bipush 59, 2) := by decide +kernel
theorem d_Log_read_8 : decode prog_1_method_3_code 8 = .ok (.invokestatic 65, 3) := by decide +kernel
theorem d_Log_read_11 : decode prog_1_method_3_code 11 = .ok (.aload_n 0, 1) := by decide +kernel
theorem d_Log_read_12 : decode prog_1_method_3_code 12 = .ok (.aload_n 0, 1) := by decide +kernel
theorem d_Log_read_13 : decode prog_1_method_3_code 13 = .ok (.getfield 17, 3) := by decide +kernel
theorem d_Log_read_16 : decode prog_1_method_3_code 16 = .ok (.iload_n 1, 1) := by decide +kernel
theorem d_Log_read_17 : decode prog_1_method_3_code 17 = .ok (.aaload, 1) := by decide +kernel
theorem d_Log_read_18 : decode prog_1_method_3_code 18 = .ok (.iload_n 2, 1) := by decide +kernel
theorem d_Log_read_19 : decode prog_1_method_3_code 19 = .ok (.invokevirtual 86, 3) := by decide +kernel
theorem d_Log_read_22 : decode prog_1_method_3_code 22 = .ok (.astore_n 3, 1) := by decide +kernel
theorem d_Log_read_23 : decode prog_1_method_3_code 23 = .ok (.aload_n 3, 1) := by decide +kernel
theorem d_Log_read_24 : decode prog_1_method_3_code 24 = .ok (.getfield 90, 3) := by decide +kernel
theorem d_Log_read_27 : decode prog_1_method_3_code 27 = .ok (.iconst 3, 1) := by decide +kernel
theorem d_Log_read_28 : decode prog_1_method_3_code 28 = .ok (.if_icmp .ne 13, 3) := by decide +kernel
theorem d_Log_read_31 : decode prog_1_method_3_code 31 = .ok (.new 94, 3) := by decide +kernel
theorem d_Log_read_34 : decode prog_1_method_3_code 34 = .ok (.dup, 1) := by decide +kernel
theorem d_Log_read_35 : decode prog_1_method_3_code 35 = .ok (.ldc 96, 2) := by decide +kernel
theorem d_Log_read_37 : decode prog_1_method_3_code 37 = .ok (.invokespecial 97, 3) := by decide +kernel
theorem d_Log_read_40 : decode prog_1_method_3_code 40 = .ok (.athrow, 1) := by decide +kernel
theorem d_Log_read_41 : decode prog_1_method_3_code 41 = .ok (.aload_n 3, 1) := by decide +kernel
theorem d_Log_read_42 : decode prog_1_method_3_code 42 = .ok (.getfield 100, 3) := by decide +kernel
theorem d_Log_read_45 : decode prog_1_method_3_code 45 = .ok (.ireturn, 1) := by decide +kernel
theorem d_Log_fill_0 : decode prog_1_method_4_code 0 = .ok (.iload_n 1, 1) := by decide +kernel
theorem d_Log_fill_1 : decode prog_1_method_4_code 1 = .ok (.iconst 3, 1) := by decide +kernel
theorem d_Log_fill_2 : decode prog_1_method_4_code 2 = .ok (.invokestatic 65, 3) := by decide +kernel
theorem d_Log_fill_5 : decode prog_1_method_4_code 5 = .ok (.iload_n 2, 1) := by decide +kernel
theorem d_Log_fill_6 : decode prog_1_method_4_code 6 = .ok (.bipush 59, 2) := by decide +kernel
theorem d_Log_fill_8 : decode prog_1_method_4_code 8 = .ok (.invokestatic 65, 3) := by decide +kernel
theorem d_Log_fill_11 : decode prog_1_method_4_code 11 = .ok (.aload_n 0, 1) := by decide +kernel
theorem d_Log_fill_12 : decode prog_1_method_4_code 12 = .ok (.getfield 17, 3) := by decide +kernel
theorem d_Log_fill_15 : decode prog_1_method_4_code 15 = .ok (.iload_n 1, 1) := by decide +kernel
theorem d_Log_fill_16 : decode prog_1_method_4_code 16 = .ok (.aaload, 1) := by decide +kernel
theorem d_Log_fill_17 : decode prog_1_method_4_code 17 = .ok (.astore_n 3, 1) := by decide +kernel
theorem d_Log_fill_18 : decode prog_1_method_4_code 18 = .ok (.aload_n 3, 1) := by decide +kernel
theorem d_Log_fill_19 : decode prog_1_method_4_code 19 = .ok (.getfield 80, 3) := by decide +kernel
theorem d_Log_fill_22 : decode prog_1_method_4_code 22 = .ok (.iload_n 2, 1) := by decide +kernel
theorem d_Log_fill_23 : decode prog_1_method_4_code 23 = .ok (.invokevirtual 83, 3) := by decide +kernel
theorem d_Log_fill_26 : decode prog_1_method_4_code 26 = .ok (.astore 4, 2) := by decide +kernel
theorem d_Log_fill_28 : decode prog_1_method_4_code 28 = .ok (.aload_n 0, 1) := by decide +kernel
theorem d_Log_fill_29 : decode prog_1_method_4_code 29 = .ok (.getfield 40, 3) := by decide +kernel
theorem d_Log_fill_32 : decode prog_1_method_4_code 32 = .ok (.astore 5, 2) := by decide +kernel
theorem d_Log_fill_34 : decode prog_1_method_4_code 34 = .ok (.iconst 0, 1) := by decide +kernel
theorem d_Log_fill_35 : decode prog_1_method_4_code 35 = .ok (.istore 6, 2) := by decide +kernel
theorem d_Log_fill_37 : decode prog_1_method_4_code 37 = .ok (.iconst 0, 1) := by decide +kernel
theorem d_Log_fill_38 : decode prog_1_method_4_code 38 = .ok (.istore 7, 2) := by decide +kernel
theorem d_Log_fill_40 : decode prog_1_method_4_code 40 = .ok (.iload 7, 2) := by decide +kernel
theorem d_Log_fill_42 : decode prog_1_method_4_code 42 = .ok (.aload 4, 2) := by decide +kernel
theorem d_Log_fill_44 : decode prog_1_method_4_code 44 = .ok (.arraylength, 1) := by decide +kernel
theorem d_Log_fill_45 : decode prog_1_method_4_code 45 = .ok (.if_icmp .ge 59, 3) := by decide +kernel
theorem d_Log_fill_48 : decode prog_1_method_4_code 48 = .ok (.aload_n 0, 1) := by decide +kernel
theorem d_Log_fill_49 : decode prog_1_method_4_code 49 = .ok (.aload_n 3, 1) := by decide +kernel
theorem d_Log_fill_50 : decode prog_1_method_4_code 50 = .ok (.aload 4, 2) := by decide +kernel
theorem d_Log_fill_52 : decode prog_1_method_4_code 52 = .ok (.iload 7, 2) := by decide +kernel
theorem d_Log_fill_54 : decode prog_1_method_4_code 54 = .ok (.iaload, 1) := by decide +kernel
theorem d_Log_fill_55 : decode prog_1_method_4_code 55 = .ok (.invokevirtual 103, 3) := by decide +kernel
theorem d_Log_fill_58 : decode prog_1_method_4_code 58 = .ok (.astore 8, 2) := by decide +kernel
theorem d_Log_fill_60 : decode prog_1_method_4_code 60 = .ok (.aload 8, 2) := by decide +kernel
theorem d_Log_fill_62 : decode prog_1_method_4_code 62 = .ok (.iload_n 2, 1) := by decide +kernel
theorem d_Log_fill_63 : decode prog_1_method_4_code 63 = .ok (.invokevirtual 107, 3) := by decide +kernel
theorem d_Log_fill_66 : decode prog_1_method_4_code 66 = .ok (.ifCond .ne 18, 3) := by decide +kernel
theorem d_Log_fill_69 : decode prog_1_method_4_code 69 = .ok (.aload 8, 2) := by decide +kernel
theorem d_Log_fill_71 : decode prog_1_method_4_code 71 = .ok (.getfield 111, 3) := by decide +kernel
theorem d_Log_fill_74 : decode prog_1_method_4_code 74 = .ok (.iload_n 2, 1) := by decide +kernel
theorem d_Log_fill_75 : decode prog_1_method_4_code 75 = .ok (.aload 5, 2) := by decide +kernel
theorem d_Log_fill_77 : decode prog_1_method_4_code 77 = .ok (.aastore, 1) := by decide +kernel
theorem d_Log_fill_78 : decode prog_1_method_4_code 78 = .ok (.iinc 6 1, 3) := by decide +kernel
theorem d_Log_fill_81 : decode prog_1_method_4_code 81 = .ok (.goto 17, 3) := by decide +kernel
theorem d_Log_fill_84 : decode prog_1_method_4_code 84 = .ok (.iload 7, 2) := by decide +kernel
theorem d_Log_fill_86 : decode prog_1_method_4_code 86 = .ok (.ifCond .ne 12, 3) := by decide +kernel
theorem d_Log_fill_89 : decode prog_1_method_4_code 89 = .ok (.aload 8, 2) := by decide +kernel
theorem d_Log_fill_91 : decode prog_1_method_4_code 91 = .ok (.getfield 111, 3) := by decide +kernel
theorem d_Log_fill_94 : decode prog_1_method_4_code 94 = .ok (.iload_n 2, 1) := by decide +kernel
theorem d_Log_fill_95 : decode prog_1_method_4_code 95 = .ok (.aaload, 1) := by decide +kernel
theorem d_Log_fill_96 : decode prog_1_method_4_code 96 = .ok (.astore 5, 2) := by decide +kernel
theorem d_Log_fill_98 : decode prog_1_method_4_code 98 = .ok (.iinc 7 1, 3) := by decide +kernel
theorem d_Log_fill_101 : decode prog_1_method_4_code 101 = .ok (.goto (-61), 3) := by decide +kernel
theorem d_Log_fill_104 : decode prog_1_method_4_code 104 = .ok (.iload 6, 2) := by decide +kernel
theorem d_Log_fill_106 : decode prog_1_method_4_code 106 = .ok (.ireturn, 1) := by decide +kernel
theorem d_Log_trim_0 : decode prog_1_method_5_code 0 = .ok (.iload_n 1, 1) := by decide +kernel
theorem d_Log_trim_1 : decode prog_1_method_5_code 1 = .ok (.iconst 3, 1) := by decide +kernel
theorem d_Log_trim_2 : decode prog_1_method_5_code 2 = .ok (.invokestatic 65, 3) := by decide +kernel
theorem d_Log_trim_5 : decode prog_1_method_5_code 5 = .ok (.iload_n 2, 1) := by decide +kernel
theorem d_Log_trim_6 : decode prog_1_method_5_code 6 = .ok (.bipush 59, 2) := by decide +kernel
theorem d_Log_trim_8 : decode prog_1_method_5_code 8 = .ok (.invokestatic 65, 3) := by decide +kernel
theorem d_Log_trim_11 : decode prog_1_method_5_code 11 = .ok (.iconst 0, 1) := by decide +kernel
theorem d_Log_trim_12 : decode prog_1_method_5_code 12 = .ok (.istore_n 3, 1) := by decide +kernel
theorem d_Log_trim_13 : decode prog_1_method_5_code 13 = .ok (.iconst 0, 1) := by decide +kernel
theorem d_Log_trim_14 : decode prog_1_method_5_code 14 = .ok (.istore 4, 2) := by decide +kernel
theorem d_Log_trim_16 : decode prog_1_method_5_code 16 = .ok (.iload 4, 2) := by decide +kernel
theorem d_Log_trim_18 : decode prog_1_method_5_code 18 = .ok (.iload_n 2, 1) := by decide +kernel
theorem d_Log_trim_19 : decode prog_1_method_5_code 19 = .ok (.if_icmp .gt 24, 3) := by decide +kernel
theorem d_Log_trim_22 : decode prog_1_method_5_code 22 = .ok (.iload_n 3, 1) := by decide +kernel
theorem d_Log_trim_23 : decode prog_1_method_5_code 23 = .ok (.aload_n 0, 1) := by decide +kernel
theorem d_Log_trim_24 : decode prog_1_method_5_code 24 = .ok (.aload_n 0, 1) := by decide +kernel
theorem d_Log_trim_25 : decode prog_1_method_5_code 25 = .ok (.getfield 17, 3) := by decide +kernel
theorem d_Log_trim_28 : decode prog_1_method_5_code 28 = .ok (.iload_n 1, 1) := by decide +kernel
theorem d_Log_trim_29 : decode prog_1_method_5_code 29 = .ok (.aaload, 1) := by decide +kernel
theorem d_Log_trim_30 : decode prog_1_method_5_code 30 = .ok (.iload 4, 2) := by decide +kernel
theorem d_Log_trim_32 : decode prog_1_method_5_code 32 = .ok (.invokevirtual 115, 3) := by decide +kernel
theorem d_Log_trim_35 : decode prog_1_method_5_code 35 = .ok (.iadd, 1) := by decide +kernel
theorem d_Log_trim_36 : decode prog_1_method_5_code 36 = .ok (.istore_n 3, 1) := by decide +kernel
theorem d_Log_trim_37 : decode prog_1_method_5_code 37 = .ok (.iinc 4 1, 3) := by decide +kernel
theorem d_Log_trim_40 : decode prog_1_method_5_code 40 = .ok (.goto (-24), 3) := by decide +kernel
theorem d_Log_trim_43 : decode prog_1_method_5_code 43 = .ok (.iload_n 3, 1) := by decide +kernel
theorem d_Log_trim_44 : decode prog_1_method_5_code 44 = .ok (.ireturn, 1) := by decide +kernel
theorem d_Log_learn_0 : decode prog_1_method_6_code 0 = .ok (.iload_n 1, 1) := by decide +kernel
theorem d_Log_learn_1 : decode prog_1_method_6_code 1 = .ok (.iconst 3, 1) := by decide +kernel
theorem d_Log_learn_2 : decode prog_1_method_6_code 2 = .ok (.invokestatic 65, 3) := by decide +kernel
theorem d_Log_learn_5 : decode prog_1_method_6_code 5 = .ok (.aload_n 0, 1) := by decide +kernel
theorem d_Log_learn_6 : decode prog_1_method_6_code 6 = .ok (.getfield 17, 3) := by decide +kernel
theorem d_Log_learn_9 : decode prog_1_method_6_code 9 = .ok (.iload_n 1, 1) := by decide +kernel
theorem d_Log_learn_10 : decode prog_1_method_6_code 10 = .ok (.aaload, 1) := by decide +kernel
theorem d_Log_learn_11 : decode prog_1_method_6_code 11 = .ok (.aload_n 0, 1) := by decide +kernel
theorem d_Log_learn_12 : decode prog_1_method_6_code 12 = .ok (.getfield 55, 3) := by decide +kernel
theorem d_Log_learn_15 : decode prog_1_method_6_code 15 = .ok (.putfield 80, 3) := by decide +kernel
theorem d_Log_learn_18 : decode prog_1_method_6_code 18 = .ok (.aload_n 0, 1) := by decide +kernel
theorem d_Log_learn_19 : decode prog_1_method_6_code 19 = .ok (.getfield 55, 3) := by decide +kernel
theorem d_Log_learn_22 : decode prog_1_method_6_code 22 = .ok (.getfield 119, 3) := by decide +kernel
theorem d_Log_learn_25 : decode prog_1_method_6_code 25 = .ok (.ireturn, 1) := by decide +kernel
theorem d_Log_change_0 : decode prog_1_method_7_code 0 = .ok (.iload_n 1, 1) := by decide +kernel
theorem d_Log_change_1 : decode prog_1_method_7_code 1 = .ok (.iconst 3, 1) := by decide +kernel
theorem d_Log_change_2 : decode prog_1_method_7_code 2 = .ok (.invokestatic 65, 3) := by decide +kernel
theorem d_Log_change_5 : decode prog_1_method_7_code 5 = .ok (.iload_n 2, 1) := by decide +kernel
theorem d_Log_change_6 : decode prog_1_method_7_code 6 = .ok (.iconst 1, 1) := by decide +kernel
theorem d_Log_change_7 : decode prog_1_method_7_code 7 = .ok (.invokestatic 65, 3) := by decide +kernel
theorem d_Log_change_10 : decode prog_1_method_7_code 10 = .ok (.iload_n 3, 1) := by decide +kernel
theorem d_Log_change_11 : decode prog_1_method_7_code 11 = .ok (.invokestatic 122, 3) := by decide +kernel
theorem d_Log_change_14 : decode prog_1_method_7_code 14 = .ok (.aload_n 0, 1) := by decide +kernel
theorem d_Log_change_15 : decode prog_1_method_7_code 15 = .ok (.getfield 17, 3) := by decide +kernel
theorem d_Log_change_18 : decode prog_1_method_7_code 18 = .ok (.iload_n 1, 1) := by decide +kernel
theorem d_Log_change_19 : decode prog_1_method_7_code 19 = .ok (.aaload, 1) := by decide +kernel
theorem d_Log_change_20 : decode prog_1_method_7_code 20 = .ok (.astore 4, 2) := by decide +kernel
theorem d_Log_change_22 : decode prog_1_method_7_code 22 = .ok (.aload_n 0, 1) := by decide +kernel
theorem d_Log_change_23 : decode prog_1_method_7_code 23 = .ok (.getfield 55, 3) := by decide +kernel
theorem d_Log_change_26 : decode prog_1_method_7_code 26 = .ok (.astore 5, 2) := by decide +kernel
theorem d_Log_change_28 : decode prog_1_method_7_code 28 = .ok (.iload_n 3, 1) := by decide +kernel
theorem d_Log_change_29 : decode prog_1_method_7_code 29 = .ok (.invokestatic 48, 3) := by decide +kernel
theorem d_Log_change_32 : decode prog_1_method_7_code 32 = .ok (.astore 6, 2) := by decide +kernel
theorem d_Log_change_34 : decode prog_1_method_7_code 34 = .ok (.aload_n 0, 1) := by decide +kernel
theorem d_Log_change_35 : decode prog_1_method_7_code 35 = .ok (.aload 4, 2) := by decide +kernel
theorem d_Log_change_37 : decode prog_1_method_7_code 37 = .ok (.aload 6, 2) := by decide +kernel
theorem d_Log_change_39 : decode prog_1_method_7_code 39 = .ok (.invokevirtual 126, 3) := by decide +kernel
theorem d_Log_change_42 : decode prog_1_method_7_code 42 = .ok (.aload 5, 2) := by decide +kernel
theorem d_Log_change_44 : decode prog_1_method_7_code 44 = .ok (.iload_n 2, 1) := by decide +kernel
theorem d_Log_change_45 : decode prog_1_method_7_code 45 = .ok (.aload 6, 2) := by decide +kernel
theorem d_Log_change_47 : decode prog_1_method_7_code 47 = .ok (.invokevirtual 130, 3) := by decide +kernel
theorem d_Log_change_50 : decode prog_1_method_7_code 50 = .ok (.astore 7, 2) := by decide +kernel
theorem d_Log_change_52 : decode prog_1_method_7_code 52 = .ok (.aload_n 0, 1) := by decide +kernel
theorem d_Log_change_53 : decode prog_1_method_7_code 53 = .ok (.aload 5, 2) := by decide +kernel
theorem d_Log_change_55 : decode prog_1_method_7_code 55 = .ok (.aload 6, 2) := by decide +kernel
theorem d_Log_change_57 : decode prog_1_method_7_code 57 = .ok (.aload 7, 2) := by decide +kernel
theorem d_Log_change_59 : decode prog_1_method_7_code 59 = .ok (.getfield 119, 3) := by decide +kernel
theorem d_Log_change_62 : decode prog_1_method_7_code 62 = .ok (.invokevirtual 134, 3) := by decide +kernel
theorem d_Log_change_65 : decode prog_1_method_7_code 65 = .ok (.aload_n 0, 1) := by decide +kernel
theorem d_Log_change_66 : decode prog_1_method_7_code 66 = .ok (.aload 5, 2) := by decide +kernel
theorem d_Log_change_68 : decode prog_1_method_7_code 68 = .ok (.iload_n 2, 1) := by decide +kernel
theorem d_Log_change_69 : decode prog_1_method_7_code 69 = .ok (.invokevirtual 138, 3) := by decide +kernel
theorem d_Log_change_72 : decode prog_1_method_7_code 72 = .ok (.aload 6, 2) := by decide +kernel
theorem d_Log_change_74 : decode prog_1_method_7_code 74 = .ok (.iload_n 2, 1) := by decide +kernel
theorem d_Log_change_75 : decode prog_1_method_7_code 75 = .ok (.invokevirtual 141, 3) := by decide +kernel
theorem d_Log_change_78 : decode prog_1_method_7_code 78 = .ok (.aload_n 0, 1) := by decide +kernel
theorem d_Log_change_79 : decode prog_1_method_7_code 79 = .ok (.aload 7, 2) := by decide +kernel
theorem d_Log_change_81 : decode prog_1_method_7_code 81 = .ok (.putfield 55, 3) := by decide +kernel
theorem d_Log_change_84 : decode prog_1_method_7_code 84 = .ok (.aload 4, 2) := by decide +kernel
theorem d_Log_change_86 : decode prog_1_method_7_code 86 = .ok (.aload 7, 2) := by decide +kernel
theorem d_Log_change_88 : decode prog_1_method_7_code 88 = .ok (.putfield 80, 3) := by decide +kernel
theorem d_Log_change_91 : decode prog_1_method_7_code 91 = .ok (.aload_n 0, 1) := by decide +kernel
theorem d_Log_change_92 : decode prog_1_method_7_code 92 = .ok (.getfield 24, 3) := by decide +kernel
theorem d_Log_change_95 : decode prog_1_method_7_code 95 = .ok (.aload 7, 2) := by decide +kernel
theorem d_Log_change_97 : decode prog_1_method_7_code 97 = .ok (.getfield 119, 3) := by decide +kernel
theorem d_Log_change_100 : decode prog_1_method_7_code 100 = .ok (.aload_n 0, 1) := by decide +kernel
theorem d_Log_change_101 : decode prog_1_method_7_code 101 = .ok (.invokevirtual 145, 3) := by decide +kernel
theorem d_Log_change_104 : decode prog_1_method_7_code 104 = .ok (.invokevirtual 149, 3) := by decide +kernel
theorem d_Log_change_107 : decode prog_1_method_7_code 107 = .ok (.aload_n 0, 1) := by decide +kernel
theorem d_Log_change_108 : decode prog_1_method_7_code 108 = .ok (.getfield 24, 3) := by decide +kernel
theorem d_Log_change_111 : decode prog_1_method_7_code 111 = .ok (.getfield 152, 3) := by decide +kernel
theorem d_Log_change_114 : decode prog_1_method_7_code 114 = .ok (.ireturn, 1) := by decide +kernel
theorem d_Log_up_0 : decode prog_1_method_8_code 0 = .ok (.iload_n 1, 1) := by decide +kernel
theorem d_Log_up_1 : decode prog_1_method_8_code 1 = .ok (.iconst 5, 1) := by decide +kernel
theorem d_Log_up_2 : decode prog_1_method_8_code 2 = .ok (.invokestatic 65, 3) := by decide +kernel
theorem d_Log_up_5 : decode prog_1_method_8_code 5 = .ok (.aload_n 0, 1) := by decide +kernel
theorem d_Log_up_6 : decode prog_1_method_8_code 6 = .ok (.getfield 11, 3) := by decide +kernel
theorem d_Log_up_9 : decode prog_1_method_8_code 9 = .ok (.iload_n 1, 1) := by decide +kernel
theorem d_Log_up_10 : decode prog_1_method_8_code 10 = .ok (.aaload, 1) := by decide +kernel
theorem d_Log_up_11 : decode prog_1_method_8_code 11 = .ok (.iload_n 2, 1) := by decide +kernel
theorem d_Log_up_12 : decode prog_1_method_8_code 12 = .ok (.putfield 154, 3) := by decide +kernel
theorem d_Log_up_15 : decode prog_1_method_8_code 15 = .ok (.aload_n 0, 1) := by decide +kernel
theorem d_Log_up_16 : decode prog_1_method_8_code 16 = .ok (.getfield 11, 3) := by decide +kernel
theorem d_Log_up_19 : decode prog_1_method_8_code 19 = .ok (.iload_n 1, 1) := by decide +kernel
theorem d_Log_up_20 : decode prog_1_method_8_code 20 = .ok (.aaload, 1) := by decide +kernel
theorem d_Log_up_21 : decode prog_1_method_8_code 21 = .ok (.getfield 158, 3) := by decide +kernel
theorem d_Log_up_24 : decode prog_1_method_8_code 24 = .ok (.ireturn, 1) := by decide +kernel
theorem d_Log_lose_0 : decode prog_1_method_9_code 0 = .ok (.aload_n 0, 1) := by decide +kernel
theorem d_Log_lose_1 : decode prog_1_method_9_code 1 = .ok (.getfield 24, 3) := by decide +kernel
theorem d_Log_lose_4 : decode prog_1_method_9_code 4 = .ok (.iconst 1, 1) := by decide +kernel
theorem d_Log_lose_5 : decode prog_1_method_9_code 5 = .ok (.putfield 161, 3) := by decide +kernel
theorem d_Log_lose_8 : decode prog_1_method_9_code 8 = .ok (.aload_n 0, 1) := by decide +kernel
theorem d_Log_lose_9 : decode prog_1_method_9_code 9 = .ok (.getfield 24, 3) := by decide +kernel
theorem d_Log_lose_12 : decode prog_1_method_9_code 12 = .ok (.getfield 152, 3) := by decide +kernel
theorem d_Log_lose_15 : decode prog_1_method_9_code 15 = .ok (.ireturn, 1) := by decide +kernel
theorem d_Log_sync_0 : decode prog_1_method_10_code 0 = .ok (.iload_n 1, 1) := by decide +kernel
theorem d_Log_sync_1 : decode prog_1_method_10_code 1 = .ok (.iconst 3, 1) := by decide +kernel
theorem d_Log_sync_2 : decode prog_1_method_10_code 2 = .ok (.invokestatic 65, 3) := by decide +kernel
theorem d_Log_sync_5 : decode prog_1_method_10_code 5 = .ok (.aload_n 0, 1) := by decide +kernel
theorem d_Log_sync_6 : decode prog_1_method_10_code 6 = .ok (.getfield 17, 3) := by decide +kernel
theorem d_Log_sync_9 : decode prog_1_method_10_code 9 = .ok (.iload_n 1, 1) := by decide +kernel
theorem d_Log_sync_10 : decode prog_1_method_10_code 10 = .ok (.aaload, 1) := by decide +kernel
theorem d_Log_sync_11 : decode prog_1_method_10_code 11 = .ok (.astore_n 2, 1) := by decide +kernel
theorem d_Log_sync_12 : decode prog_1_method_10_code 12 = .ok (.aload_n 0, 1) := by decide +kernel
theorem d_Log_sync_13 : decode prog_1_method_10_code 13 = .ok (.aload_n 2, 1) := by decide +kernel
theorem d_Log_sync_14 : decode prog_1_method_10_code 14 = .ok (.invokevirtual 164, 3) := by decide +kernel
theorem d_Log_sync_17 : decode prog_1_method_10_code 17 = .ok (.aload_n 0, 1) := by decide +kernel
theorem d_Log_sync_18 : decode prog_1_method_10_code 18 = .ok (.aload_n 2, 1) := by decide +kernel
theorem d_Log_sync_19 : decode prog_1_method_10_code 19 = .ok (.aload_n 0, 1) := by decide +kernel
theorem d_Log_sync_20 : decode prog_1_method_10_code 20 = .ok (.getfield 24, 3) := by decide +kernel
theorem d_Log_sync_23 : decode prog_1_method_10_code 23 = .ok (.getfield 152, 3) := by decide +kernel
theorem d_Log_sync_26 : decode prog_1_method_10_code 26 = .ok (.invokevirtual 168, 3) := by decide +kernel
theorem d_Log_sync_29 : decode prog_1_method_10_code 29 = .ok (.pop, 1) := by decide +kernel
theorem d_Log_sync_30 : decode prog_1_method_10_code 30 = .ok (.aload_n 2, 1) := by decide +kernel
theorem d_Log_sync_31 : decode prog_1_method_10_code 31 = .ok (.getfield 172, 3) := by decide +kernel
theorem d_Log_sync_34 : decode prog_1_method_10_code 34 = .ok (.ireturn, 1) := by decide +kernel
theorem d_Log_get_0 : decode prog_1_method_11_code 0 = .ok (.iload_n 1, 1) := by decide +kernel
theorem d_Log_get_1 : decode prog_1_method_11_code 1 = .ok (.iconst 3, 1) := by decide +kernel
theorem d_Log_get_2 : decode prog_1_method_11_code 2 = .ok (.invokestatic 65, 3) := by decide +kernel
theorem d_Log_get_5 : decode prog_1_method_11_code 5 = .ok (.iload_n 2, 1) := by decide +kernel
theorem d_Log_get_6 : decode prog_1_method_11_code 6 = .ok (.iconst 3, 1) := by decide +kernel
theorem d_Log_get_7 : decode prog_1_method_11_code 7 = .ok (.invokestatic 65, 3) := by decide +kernel
theorem d_Log_get_10 : decode prog_1_method_11_code 10 = .ok (.aload_n 0, 1) := by decide +kernel
theorem d_Log_get_11 : decode prog_1_method_11_code 11 = .ok (.getfield 17, 3) := by decide +kernel
theorem d_Log_get_14 : decode prog_1_method_11_code 14 = .ok (.iload_n 1, 1) := by decide +kernel
theorem d_Log_get_15 : decode prog_1_method_11_code 15 = .ok (.aaload, 1) := by decide +kernel
theorem d_Log_get_16 : decode prog_1_method_11_code 16 = .ok (.getfield 175, 3) := by decide +kernel
theorem d_Log_get_19 : decode prog_1_method_11_code 19 = .ok (.iload_n 2, 1) := by decide +kernel
theorem d_Log_get_20 : decode prog_1_method_11_code 20 = .ok (.iaload, 1) := by decide +kernel
theorem d_Log_get_21 : decode prog_1_method_11_code 21 = .ok (.ireturn, 1) := by decide +kernel
theorem d_Log_begin_0 : decode prog_1_method_12_code 0 = .ok (.iload_n 1, 1) := by decide +kernel
theorem d_Log_begin_1 : decode prog_1_method_12_code 1 = .ok (.iconst 3, 1) := by decide +kernel
theorem d_Log_begin_2 : decode prog_1_method_12_code 2 = .ok (.invokestatic 65, 3) := by decide +kernel
theorem d_Log_begin_5 : decode prog_1_method_12_code 5 = .ok (.aload_n 0, 1) := by decide +kernel
theorem d_Log_begin_6 : decode prog_1_method_12_code 6 = .ok (.getfield 17, 3) := by decide +kernel
theorem d_Log_begin_9 : decode prog_1_method_12_code 9 = .ok (.iload_n 1, 1) := by decide +kernel
theorem d_Log_begin_10 : decode prog_1_method_12_code 10 = .ok (.aaload, 1) := by decide +kernel
theorem d_Log_begin_11 : decode prog_1_method_12_code 11 = .ok (.astore_n 2, 1) := by decide +kernel
theorem d_Log_begin_12 : decode prog_1_method_12_code 12 = .ok (.aload_n 2, 1) := by decide +kernel
theorem d_Log_begin_13 : decode prog_1_method_12_code 13 = .ok (.getfield 179, 3) := by decide +kernel
theorem d_Log_begin_16 : decode prog_1_method_12_code 16 = .ok (.ifCond .eq 13, 3) := by decide +kernel
theorem d_Log_begin_19 : decode prog_1_method_12_code 19 = .ok (.new 182, 3) := by decide +kernel
theorem d_Log_begin_22 : decode prog_1_method_12_code 22 = .ok (.dup, 1) := by decide +kernel
theorem d_Log_begin_23 : decode prog_1_method_12_code 23 = .ok (.ldc 184, 2) := by decide +kernel
theorem d_Log_begin_25 : decode prog_1_method_12_code 25 = .ok (.invokespecial 186, 3) := by decide +kernel
theorem d_Log_begin_28 : decode prog_1_method_12_code 28 = .ok (.athrow, 1) := by decide +kernel
theorem d_Log_begin_29 : decode prog_1_method_12_code 29 = .ok (.aload_n 2, 1) := by decide +kernel
theorem d_Log_begin_30 : decode prog_1_method_12_code 30 = .ok (.iconst 1, 1) := by decide +kernel
theorem d_Log_begin_31 : decode prog_1_method_12_code 31 = .ok (.putfield 179, 3) := by decide +kernel
theorem d_Log_begin_34 : decode prog_1_method_12_code 34 = .ok (.aload_n 2, 1) := by decide +kernel
theorem d_Log_begin_35 : decode prog_1_method_12_code 35 = .ok (.getfield 187, 3) := by decide +kernel
theorem d_Log_begin_38 : decode prog_1_method_12_code 38 = .ok (.invokevirtual 191, 3) := by decide +kernel
theorem d_Log_begin_41 : decode prog_1_method_12_code 41 = .ok (.aload_n 2, 1) := by decide +kernel
theorem d_Log_begin_42 : decode prog_1_method_12_code 42 = .ok (.getfield 172, 3) := by decide +kernel
theorem d_Log_begin_45 : decode prog_1_method_12_code 45 = .ok (.ireturn, 1) := by decide +kernel
theorem d_Log_see_0 : decode prog_1_method_13_code 0 = .ok (.iload_n 1, 1) := by decide +kernel
theorem d_Log_see_1 : decode prog_1_method_13_code 1 = .ok (.iconst 3, 1) := by decide +kernel
theorem d_Log_see_2 : decode prog_1_method_13_code 2 = .ok (.invokestatic 65, 3) := by decide +kernel
theorem d_Log_see_5 : decode prog_1_method_13_code 5 = .ok (.iload_n 2, 1) := by decide +kernel
theorem d_Log_see_6 : decode prog_1_method_13_code 6 = .ok (.iconst 3, 1) := by decide +kernel
theorem d_Log_see_7 : decode prog_1_method_13_code 7 = .ok (.invokestatic 65, 3) := by decide +kernel
theorem d_Log_see_10 : decode prog_1_method_13_code 10 = .ok (.aload_n 0, 1) := by decide +kernel
theorem d_Log_see_11 : decode prog_1_method_13_code 11 = .ok (.getfield 17, 3) := by decide +kernel
theorem d_Log_see_14 : decode prog_1_method_13_code 14 = .ok (.iload_n 1, 1) := by decide +kernel
theorem d_Log_see_15 : decode prog_1_method_13_code 15 = .ok (.aaload, 1) := by decide +kernel
theorem d_Log_see_16 : decode prog_1_method_13_code 16 = .ok (.astore_n 3, 1) := by decide +kernel
theorem d_Log_see_17 : decode prog_1_method_13_code 17 = .ok (.aload_n 3, 1) := by decide +kernel
theorem d_Log_see_18 : decode prog_1_method_13_code 18 = .ok (.invokestatic 194, 3) := by decide +kernel
theorem d_Log_see_21 : decode prog_1_method_13_code 21 = .ok (.aload_n 3, 1) := by decide +kernel
theorem d_Log_see_22 : decode prog_1_method_13_code 22 = .ok (.getfield 187, 3) := by decide +kernel
theorem d_Log_see_25 : decode prog_1_method_13_code 25 = .ok (.astore 4, 2) := by decide +kernel
theorem d_Log_see_27 : decode prog_1_method_13_code 27 = .ok (.aload 4, 2) := by decide +kernel
theorem d_Log_see_29 : decode prog_1_method_13_code 29 = .ok (.getfield 197, 3) := by decide +kernel
theorem d_Log_see_32 : decode prog_1_method_13_code 32 = .ok (.iload_n 2, 1) := by decide +kernel
theorem d_Log_see_33 : decode prog_1_method_13_code 33 = .ok (.baload, 1) := by decide +kernel
theorem d_Log_see_34 : decode prog_1_method_13_code 34 = .ok (.ifCond .eq 11, 3) := by decide +kernel
theorem d_Log_see_37 : decode prog_1_method_13_code 37 = .ok (.aload 4, 2) := by decide +kernel
theorem d_Log_see_39 : decode prog_1_method_13_code 39 = .ok (.getfield 201, 3) := by decide +kernel
theorem d_Log_see_42 : decode prog_1_method_13_code 42 = .ok (.iload_n 2, 1) := by decide +kernel
theorem d_Log_see_43 : decode prog_1_method_13_code 43 = .ok (.iaload, 1) := by decide +kernel
theorem d_Log_see_44 : decode prog_1_method_13_code 44 = .ok (.ireturn, 1) := by decide +kernel
theorem d_Log_see_45 : decode prog_1_method_13_code 45 = .ok (.aload 4, 2) := by decide +kernel
theorem d_Log_see_47 : decode prog_1_method_13_code 47 = .ok (.iload_n 2, 1) := by decide +kernel
theorem d_Log_see_48 : decode prog_1_method_13_code 48 = .ok (.aload_n 3, 1) := by decide +kernel
theorem d_Log_see_49 : decode prog_1_method_13_code 49 = .ok (.getfield 202, 3) := by decide +kernel
theorem d_Log_see_52 : decode prog_1_method_13_code 52 = .ok (.iload_n 2, 1) := by decide +kernel
theorem d_Log_see_53 : decode prog_1_method_13_code 53 = .ok (.iaload, 1) := by decide +kernel
theorem d_Log_see_54 : decode prog_1_method_13_code 54 = .ok (.invokevirtual 205, 3) := by decide +kernel
theorem d_Log_see_57 : decode prog_1_method_13_code 57 = .ok (.aload_n 3, 1) := by decide +kernel
theorem d_Log_see_58 : decode prog_1_method_13_code 58 = .ok (.getfield 175, 3) := by decide +kernel
theorem d_Log_see_61 : decode prog_1_method_13_code 61 = .ok (.iload_n 2, 1) := by decide +kernel
theorem d_Log_see_62 : decode prog_1_method_13_code 62 = .ok (.iaload, 1) := by decide +kernel
theorem d_Log_see_63 : decode prog_1_method_13_code 63 = .ok (.ireturn, 1) := by decide +kernel
theorem d_Log_put_0 : decode prog_1_method_14_code 0 = .ok (.iload_n 1, 1) := by decide +kernel
theorem d_Log_put_1 : decode prog_1_method_14_code 1 = .ok (.iconst 3, 1) := by decide +kernel
theorem d_Log_put_2 : decode prog_1_method_14_code 2 = .ok (.invokestatic 65, 3) := by decide +kernel
theorem d_Log_put_5 : decode prog_1_method_14_code 5 = .ok (.iload_n 2, 1) := by decide +kernel
theorem d_Log_put_6 : decode prog_1_method_14_code 6 = .ok (.iconst 3, 1) := by decide +kernel
theorem d_Log_put_7 : decode prog_1_method_14_code 7 = .ok (.invokestatic 65, 3) := by decide +kernel
theorem d_Log_put_10 : decode prog_1_method_14_code 10 = .ok (.aload_n 0, 1) := by decide +kernel
theorem d_Log_put_11 : decode prog_1_method_14_code 11 = .ok (.getfield 17, 3) := by decide +kernel
theorem d_Log_put_14 : decode prog_1_method_14_code 14 = .ok (.iload_n 1, 1) := by decide +kernel
theorem d_Log_put_15 : decode prog_1_method_14_code 15 = .ok (.aaload, 1) := by decide +kernel
theorem d_Log_put_16 : decode prog_1_method_14_code 16 = .ok (.astore 4, 2) := by decide +kernel
theorem d_Log_put_18 : decode prog_1_method_14_code 18 = .ok (.aload 4, 2) := by decide +kernel
theorem d_Log_put_20 : decode prog_1_method_14_code 20 = .ok (.invokestatic 194, 3) := by decide +kernel
theorem d_Log_put_23 : decode prog_1_method_14_code 23 = .ok (.aload 4, 2) := by decide +kernel
theorem d_Log_put_25 : decode prog_1_method_14_code 25 = .ok (.getfield 187, 3) := by decide +kernel
theorem d_Log_put_28 : decode prog_1_method_14_code 28 = .ok (.iload_n 2, 1) := by decide +kernel
theorem d_Log_put_29 : decode prog_1_method_14_code 29 = .ok (.iload_n 3, 1) := by decide +kernel
theorem d_Log_put_30 : decode prog_1_method_14_code 30 = .ok (.invokevirtual 73, 3) := by decide +kernel
theorem d_Log_put_33 : decode prog_1_method_14_code 33 = .ok (.aload 4, 2) := by decide +kernel
theorem d_Log_put_35 : decode prog_1_method_14_code 35 = .ok (.getfield 187, 3) := by decide +kernel
theorem d_Log_put_38 : decode prog_1_method_14_code 38 = .ok (.invokevirtual 208, 3) := by decide +kernel
theorem d_Log_put_41 : decode prog_1_method_14_code 41 = .ok (.ireturn, 1) := by decide +kernel
theorem d_Log_commit_0 : decode prog_1_method_15_code 0 = .ok (.iload_n 1, 1) := by decide +kernel
theorem d_Log_commit_1 : decode prog_1_method_15_code 1 = .ok (.iconst 3, 1) := by decide +kernel
theorem d_Log_commit_2 : decode prog_1_method_15_code 2 = .ok (.invokestatic 65, 3) := by decide +kernel
theorem d_Log_commit_5 : decode prog_1_method_15_code 5 = .ok (.aload_n 0, 1) := by decide +kernel
theorem d_Log_commit_6 : decode prog_1_method_15_code 6 = .ok (.getfield 17, 3) := by decide +kernel
theorem d_Log_commit_9 : decode prog_1_method_15_code 9 = .ok (.iload_n 1, 1) := by decide +kernel
theorem d_Log_commit_10 : decode prog_1_method_15_code 10 = .ok (.aaload, 1) := by decide +kernel
theorem d_Log_commit_11 : decode prog_1_method_15_code 11 = .ok (.astore_n 2, 1) := by decide +kernel
theorem d_Log_commit_12 : decode prog_1_method_15_code 12 = .ok (.aload_n 2, 1) := by decide +kernel
theorem d_Log_commit_13 : decode prog_1_method_15_code 13 = .ok (.invokestatic 194, 3) := by decide +kernel
theorem d_Log_commit_16 : decode prog_1_method_15_code 16 = .ok (.aload_n 2, 1) := by decide +kernel
theorem d_Log_commit_17 : decode prog_1_method_15_code 17 = .ok (.getfield 187, 3) := by decide +kernel
theorem d_Log_commit_20 : decode prog_1_method_15_code 20 = .ok (.invokevirtual 208, 3) := by decide +kernel
theorem d_Log_commit_23 : decode prog_1_method_15_code 23 = .ok (.ifCond .ne 14, 3) := by decide +kernel
theorem d_Log_commit_26 : decode prog_1_method_15_code 26 = .ok (.aload_n 2, 1) := by decide +kernel
theorem d_Log_commit_27 : decode prog_1_method_15_code 27 = .ok (.aload_n 2, 1) := by decide +kernel
theorem d_Log_commit_28 : decode prog_1_method_15_code 28 = .ok (.getfield 187, 3) := by decide +kernel
theorem d_Log_commit_31 : decode prog_1_method_15_code 31 = .ok (.invokevirtual 211, 3) := by decide +kernel
theorem d_Log_commit_34 : decode prog_1_method_15_code 34 = .ok (.goto 8, 3) := by decide +kernel
theorem d_Log_commit_37 : decode prog_1_method_15_code 37 = .ok (.aload_n 0, 1) := by decide +kernel
theorem d_Log_commit_38 : decode prog_1_method_15_code 38 = .ok (.aload_n 2, 1) := by decide +kernel
theorem d_Log_commit_39 : decode prog_1_method_15_code 39 = .ok (.invokevirtual 215, 3) := by decide +kernel
theorem d_Log_commit_42 : decode prog_1_method_15_code 42 = .ok (.istore_n 3, 1) := by decide +kernel
theorem d_Log_commit_43 : decode prog_1_method_15_code 43 = .ok (.aload_n 2, 1) := by decide +kernel
theorem d_Log_commit_44 : decode prog_1_method_15_code 44 = .ok (.iconst 0, 1) := by decide +kernel
theorem d_Log_commit_45 : decode prog_1_method_15_code 45 = .ok (.putfield 179, 3) := by decide +kernel
theorem d_Log_commit_48 : decode prog_1_method_15_code 48 = .ok (.iload_n 3, 1) := by decide +kernel
theorem d_Log_commit_49 : decode prog_1_method_15_code 49 = .ok (.ireturn, 1) := by decide +kernel
theorem d_Log_drop_0 : decode prog_1_method_16_code 0 = .ok (.iload_n 1, 1) := by decide +kernel
theorem d_Log_drop_1 : decode prog_1_method_16_code 1 = .ok (.iconst 3, 1) := by decide +kernel
theorem d_Log_drop_2 : decode prog_1_method_16_code 2 = .ok (.invokestatic 65, 3) := by decide +kernel
theorem d_Log_drop_5 : decode prog_1_method_16_code 5 = .ok (.aload_n 0, 1) := by decide +kernel
theorem d_Log_drop_6 : decode prog_1_method_16_code 6 = .ok (.getfield 17, 3) := by decide +kernel
theorem d_Log_drop_9 : decode prog_1_method_16_code 9 = .ok (.iload_n 1, 1) := by decide +kernel
theorem d_Log_drop_10 : decode prog_1_method_16_code 10 = .ok (.aaload, 1) := by decide +kernel
theorem d_Log_drop_11 : decode prog_1_method_16_code 11 = .ok (.astore_n 2, 1) := by decide +kernel
theorem d_Log_drop_12 : decode prog_1_method_16_code 12 = .ok (.aload_n 2, 1) := by decide +kernel
theorem d_Log_drop_13 : decode prog_1_method_16_code 13 = .ok (.getfield 179, 3) := by decide +kernel
theorem d_Log_drop_16 : decode prog_1_method_16_code 16 = .ok (.ifCond .ne 5, 3) := by decide +kernel
theorem d_Log_drop_19 : decode prog_1_method_16_code 19 = .ok (.iconst (-1), 1) := by decide +kernel
theorem d_Log_drop_20 : decode prog_1_method_16_code 20 = .ok (.ireturn, 1) := by decide +kernel
theorem d_Log_drop_21 : decode prog_1_method_16_code 21 = .ok (.aload_n 2, 1) := by decide +kernel
theorem d_Log_drop_22 : decode prog_1_method_16_code 22 = .ok (.iconst 0, 1) := by decide +kernel
theorem d_Log_drop_23 : decode prog_1_method_16_code 23 = .ok (.putfield 179, 3) := by decide +kernel
theorem d_Log_drop_26 : decode prog_1_method_16_code 26 = .ok (.aload_n 2, 1) := by decide +kernel
theorem d_Log_drop_27 : decode prog_1_method_16_code 27 = .ok (.getfield 187, 3) := by decide +kernel
theorem d_Log_drop_30 : decode prog_1_method_16_code 30 = .ok (.invokevirtual 208, 3) := by decide +kernel
theorem d_Log_drop_33 : decode prog_1_method_16_code 33 = .ok (.ireturn, 1) := by decide +kernel
theorem d_Log_look_0 : decode prog_1_method_17_code 0 = .ok (.iload_n 1, 1) := by decide +kernel
theorem d_Log_look_1 : decode prog_1_method_17_code 1 = .ok (.iconst 5, 1) := by decide +kernel
theorem d_Log_look_2 : decode prog_1_method_17_code 2 = .ok (.invokestatic 65, 3) := by decide +kernel
theorem d_Log_look_5 : decode prog_1_method_17_code 5 = .ok (.iload_n 2, 1) := by decide +kernel
theorem d_Log_look_6 : decode prog_1_method_17_code 6 = .ok (.bipush 59, 2) := by decide +kernel
theorem d_Log_look_8 : decode prog_1_method_17_code 8 = .ok (.invokestatic 65, 3) := by decide +kernel
theorem d_Log_look_11 : decode prog_1_method_17_code 11 = .ok (.aload_n 0, 1) := by decide +kernel
theorem d_Log_look_12 : decode prog_1_method_17_code 12 = .ok (.getfield 11, 3) := by decide +kernel
theorem d_Log_look_15 : decode prog_1_method_17_code 15 = .ok (.iload_n 1, 1) := by decide +kernel
theorem d_Log_look_16 : decode prog_1_method_17_code 16 = .ok (.aaload, 1) := by decide +kernel
theorem d_Log_look_17 : decode prog_1_method_17_code 17 = .ok (.getfield 111, 3) := by decide +kernel
theorem d_Log_look_20 : decode prog_1_method_17_code 20 = .ok (.iload_n 2, 1) := by decide +kernel
theorem d_Log_look_21 : decode prog_1_method_17_code 21 = .ok (.aaload, 1) := by decide +kernel
theorem d_Log_look_22 : decode prog_1_method_17_code 22 = .ok (.getfield 90, 3) := by decide +kernel
theorem d_Log_look_25 : decode prog_1_method_17_code 25 = .ok (.ireturn, 1) := by decide +kernel
theorem d_Log_client_0 : decode prog_1_method_18_code 0 = .ok (.iload_n 1, 1) := by decide +kernel
theorem d_Log_client_1 : decode prog_1_method_18_code 1 = .ok (.iconst 3, 1) := by decide +kernel
theorem d_Log_client_2 : decode prog_1_method_18_code 2 = .ok (.invokestatic 65, 3) := by decide +kernel
theorem d_Log_client_5 : decode prog_1_method_18_code 5 = .ok (.iload_n 2, 1) := by decide +kernel
theorem d_Log_client_6 : decode prog_1_method_18_code 6 = .ok (.bipush 8, 2) := by decide +kernel
theorem d_Log_client_8 : decode prog_1_method_18_code 8 = .ok (.invokestatic 65, 3) := by decide +kernel
theorem d_Log_client_11 : decode prog_1_method_18_code 11 = .ok (.aload_n 0, 1) := by decide +kernel
theorem d_Log_client_12 : decode prog_1_method_18_code 12 = .ok (.getfield 17, 3) := by decide +kernel
theorem d_Log_client_15 : decode prog_1_method_18_code 15 = .ok (.iload_n 1, 1) := by decide +kernel
theorem d_Log_client_16 : decode prog_1_method_18_code 16 = .ok (.aaload, 1) := by decide +kernel
theorem d_Log_client_17 : decode prog_1_method_18_code 17 = .ok (.astore_n 3, 1) := by decide +kernel
theorem d_Log_client_18 : decode prog_1_method_18_code 18 = .ok (.iload_n 2, 1) := by decide +kernel
theorem d_Log_client_19 : decode prog_1_method_18_code 19 = .ok (.tableswitch 90 0 8 #[49, 57, 90, 90, 90, 90, 62, 62, 77], 49) := by decide +kernel
theorem d_Log_client_68 : decode prog_1_method_18_code 68 = .ok (.aload_n 3, 1) := by decide +kernel
theorem d_Log_client_69 : decode prog_1_method_18_code 69 = .ok (.getfield 80, 3) := by decide +kernel
theorem d_Log_client_72 : decode prog_1_method_18_code 72 = .ok (.getfield 119, 3) := by decide +kernel
theorem d_Log_client_75 : decode prog_1_method_18_code 75 = .ok (.ireturn, 1) := by decide +kernel
theorem d_Log_client_76 : decode prog_1_method_18_code 76 = .ok (.aload_n 3, 1) := by decide +kernel
theorem d_Log_client_77 : decode prog_1_method_18_code 77 = .ok (.getfield 172, 3) := by decide +kernel
theorem d_Log_client_80 : decode prog_1_method_18_code 80 = .ok (.ireturn, 1) := by decide +kernel
theorem d_Log_client_81 : decode prog_1_method_18_code 81 = .ok (.aload_n 3, 1) := by decide +kernel
theorem d_Log_client_82 : decode prog_1_method_18_code 82 = .ok (.getfield 80, 3) := by decide +kernel
theorem d_Log_client_85 : decode prog_1_method_18_code 85 = .ok (.iload_n 2, 1) := by decide +kernel
theorem d_Log_client_86 : decode prog_1_method_18_code 86 = .ok (.bipush 6, 2) := by decide +kernel
theorem d_Log_client_88 : decode prog_1_method_18_code 88 = .ok (.isub, 1) := by decide +kernel
theorem d_Log_client_89 : decode prog_1_method_18_code 89 = .ok (.invokevirtual 138, 3) := by decide +kernel
theorem d_Log_client_92 : decode prog_1_method_18_code 92 = .ok (.invokestatic 219, 3) := by decide +kernel
theorem d_Log_client_95 : decode prog_1_method_18_code 95 = .ok (.ireturn, 1) := by decide +kernel
theorem d_Log_client_96 : decode prog_1_method_18_code 96 = .ok (.aload_n 3, 1) := by decide +kernel
theorem d_Log_client_97 : decode prog_1_method_18_code 97 = .ok (.getfield 179, 3) := by decide +kernel
theorem d_Log_client_100 : decode prog_1_method_18_code 100 = .ok (.ifCond .eq 7, 3) := by decide +kernel
theorem d_Log_client_103 : decode prog_1_method_18_code 103 = .ok (.iconst 1, 1) := by decide +kernel
theorem d_Log_client_104 : decode prog_1_method_18_code 104 = .ok (.goto 4, 3) := by decide +kernel
theorem d_Log_client_107 : decode prog_1_method_18_code 107 = .ok (.iconst 0, 1) := by decide +kernel
theorem d_Log_client_108 : decode prog_1_method_18_code 108 = .ok (.ireturn, 1) := by decide +kernel
theorem d_Log_client_109 : decode prog_1_method_18_code 109 = .ok (.aload_n 3, 1) := by decide +kernel
theorem d_Log_client_110 : decode prog_1_method_18_code 110 = .ok (.getfield 202, 3) := by decide +kernel
theorem d_Log_client_113 : decode prog_1_method_18_code 113 = .ok (.iload_n 2, 1) := by decide +kernel
theorem d_Log_client_114 : decode prog_1_method_18_code 114 = .ok (.iconst 2, 1) := by decide +kernel
theorem d_Log_client_115 : decode prog_1_method_18_code 115 = .ok (.isub, 1) := by decide +kernel
theorem d_Log_client_116 : decode prog_1_method_18_code 116 = .ok (.iaload, 1) := by decide +kernel
theorem d_Log_client_117 : decode prog_1_method_18_code 117 = .ok (.ireturn, 1) := by decide +kernel
theorem d_Log_count_0 : decode prog_1_method_19_code 0 = .ok (.iload_n 1, 1) := by decide +kernel
theorem d_Log_count_1 : decode prog_1_method_19_code 1 = .ok (.bipush 9, 2) := by decide +kernel
theorem d_Log_count_3 : decode prog_1_method_19_code 3 = .ok (.invokestatic 65, 3) := by decide +kernel
theorem d_Log_count_6 : decode prog_1_method_19_code 6 = .ok (.iload_n 1, 1) := by decide +kernel
theorem d_Log_count_7 : decode prog_1_method_19_code 7 = .ok (.tableswitch 69 0 3 #[29, 37, 45, 53], 29) := by decide +kernel
theorem d_Log_count_36 : decode prog_1_method_19_code 36 = .ok (.aload_n 0, 1) := by decide +kernel
theorem d_Log_count_37 : decode prog_1_method_19_code 37 = .ok (.getfield 55, 3) := by decide +kernel
theorem d_Log_count_40 : decode prog_1_method_19_code 40 = .ok (.getfield 119, 3) := by decide +kernel
theorem d_Log_count_43 : decode prog_1_method_19_code 43 = .ok (.ireturn, 1) := by decide +kernel
theorem d_Log_count_44 : decode prog_1_method_19_code 44 = .ok (.aload_n 0, 1) := by decide +kernel
theorem d_Log_count_45 : decode prog_1_method_19_code 45 = .ok (.getfield 24, 3) := by decide +kernel
theorem d_Log_count_48 : decode prog_1_method_19_code 48 = .ok (.getfield 223, 3) := by decide +kernel
theorem d_Log_count_51 : decode prog_1_method_19_code 51 = .ok (.ireturn, 1) := by decide +kernel
theorem d_Log_count_52 : decode prog_1_method_19_code 52 = .ok (.aload_n 0, 1) := by decide +kernel
theorem d_Log_count_53 : decode prog_1_method_19_code 53 = .ok (.getfield 24, 3) := by decide +kernel
theorem d_Log_count_56 : decode prog_1_method_19_code 56 = .ok (.getfield 152, 3) := by decide +kernel
theorem d_Log_count_59 : decode prog_1_method_19_code 59 = .ok (.ireturn, 1) := by decide +kernel
theorem d_Log_count_60 : decode prog_1_method_19_code 60 = .ok (.aload_n 0, 1) := by decide +kernel
theorem d_Log_count_61 : decode prog_1_method_19_code 61 = .ok (.getfield 24, 3) := by decide +kernel
theorem d_Log_count_64 : decode prog_1_method_19_code 64 = .ok (.getfield 161, 3) := by decide +kernel
theorem d_Log_count_67 : decode prog_1_method_19_code 67 = .ok (.ifCond .eq 7, 3) := by decide +kernel
theorem d_Log_count_70 : decode prog_1_method_19_code 70 = .ok (.iconst 1, 1) := by decide +kernel
theorem d_Log_count_71 : decode prog_1_method_19_code 71 = .ok (.goto 4, 3) := by decide +kernel
theorem d_Log_count_74 : decode prog_1_method_19_code 74 = .ok (.iconst 0, 1) := by decide +kernel
theorem d_Log_count_75 : decode prog_1_method_19_code 75 = .ok (.ireturn, 1) := by decide +kernel
theorem d_Log_count_76 : decode prog_1_method_19_code 76 = .ok (.aload_n 0, 1) := by decide +kernel
theorem d_Log_count_77 : decode prog_1_method_19_code 77 = .ok (.getfield 11, 3) := by decide +kernel
theorem d_Log_count_80 : decode prog_1_method_19_code 80 = .ok (.iload_n 1, 1) := by decide +kernel
theorem d_Log_count_81 : decode prog_1_method_19_code 81 = .ok (.iconst 4, 1) := by decide +kernel
theorem d_Log_count_82 : decode prog_1_method_19_code 82 = .ok (.isub, 1) := by decide +kernel
theorem d_Log_count_83 : decode prog_1_method_19_code 83 = .ok (.aaload, 1) := by decide +kernel
theorem d_Log_count_84 : decode prog_1_method_19_code 84 = .ok (.getfield 158, 3) := by decide +kernel
theorem d_Log_count_87 : decode prog_1_method_19_code 87 = .ok (.ireturn, 1) := by decide +kernel
theorem d_Log_requireWithin_0 : decode prog_1_method_20_code 0 = .ok (.iload_n 0, 1) := by decide +kernel
theorem d_Log_requireWithin_1 : decode prog_1_method_20_code 1 = .ok (.ifCond .lt 8, 3) := by decide +kernel
theorem d_Log_requireWithin_4 : decode prog_1_method_20_code 4 = .ok (.iload_n 0, 1) := by decide +kernel
theorem d_Log_requireWithin_5 : decode prog_1_method_20_code 5 = .ok (.iload_n 1, 1) := by decide +kernel
theorem d_Log_requireWithin_6 : decode prog_1_method_20_code 6 = .ok (.if_icmp .le 13, 3) := by decide +kernel
theorem d_Log_requireWithin_9 : decode prog_1_method_20_code 9 = .ok (.new 224, 3) := by decide +kernel
theorem d_Log_requireWithin_12 : decode prog_1_method_20_code 12 = .ok (.dup, 1) := by decide +kernel
theorem d_Log_requireWithin_13 : decode prog_1_method_20_code 13 = .ok (.ldc 226, 2) := by decide +kernel
theorem d_Log_requireWithin_15 : decode prog_1_method_20_code 15 = .ok (.invokespecial 228, 3) := by decide +kernel
theorem d_Log_requireWithin_18 : decode prog_1_method_20_code 18 = .ok (.athrow, 1) := by decide +kernel
theorem d_Log_requireWithin_19 : decode prog_1_method_20_code 19 = .ok (.return_, 1) := by decide +kernel
theorem d_Log_requireRow_0 : decode prog_1_method_21_code 0 = .ok (.iload_n 0, 1) := by decide +kernel
theorem d_Log_requireRow_1 : decode prog_1_method_21_code 1 = .ok (.invokestatic 229, 3) := by decide +kernel
theorem d_Log_requireRow_4 : decode prog_1_method_21_code 4 = .ok (.ifCond .ne 13, 3) := by decide +kernel
theorem d_Log_requireRow_7 : decode prog_1_method_21_code 7 = .ok (.new 224, 3) := by decide +kernel
theorem d_Log_requireRow_10 : decode prog_1_method_21_code 10 = .ok (.dup, 1) := by decide +kernel
theorem d_Log_requireRow_11 : decode prog_1_method_21_code 11 = .ok (.ldc 232, 2) := by decide +kernel
theorem d_Log_requireRow_13 : decode prog_1_method_21_code 13 = .ok (.invokespecial 228, 3) := by decide +kernel
theorem d_Log_requireRow_16 : decode prog_1_method_21_code 16 = .ok (.athrow, 1) := by decide +kernel
theorem d_Log_requireRow_17 : decode prog_1_method_21_code 17 = .ok (.return_, 1) := by decide +kernel
theorem d_Log_isRow_0 : decode prog_1_method_22_code 0 = .ok (.iload_n 0, 1) := by decide +kernel
theorem d_Log_isRow_1 : decode prog_1_method_22_code 1 = .ok (.iconst 1, 1) := by decide +kernel
theorem d_Log_isRow_2 : decode prog_1_method_22_code 2 = .ok (.if_icmp .lt 10, 3) := by decide +kernel
theorem d_Log_isRow_5 : decode prog_1_method_22_code 5 = .ok (.iload_n 0, 1) := by decide +kernel
theorem d_Log_isRow_6 : decode prog_1_method_22_code 6 = .ok (.sipush 666, 3) := by decide +kernel
theorem d_Log_isRow_9 : decode prog_1_method_22_code 9 = .ok (.if_icmp .le 5, 3) := by decide +kernel
theorem d_Log_isRow_12 : decode prog_1_method_22_code 12 = .ok (.iconst 0, 1) := by decide +kernel
theorem d_Log_isRow_13 : decode prog_1_method_22_code 13 = .ok (.ireturn, 1) := by decide +kernel
theorem d_Log_isRow_14 : decode prog_1_method_22_code 14 = .ok (.bipush 6, 2) := by decide +kernel
theorem d_Log_isRow_16 : decode prog_1_method_22_code 16 = .ok (.newarray .boolean, 2) := by decide +kernel
theorem d_Log_isRow_18 : decode prog_1_method_22_code 18 = .ok (.astore_n 1, 1) := by decide +kernel
theorem d_Log_isRow_19 : decode prog_1_method_22_code 19 = .ok (.iload_n 0, 1) := by decide +kernel
theorem d_Log_isRow_20 : decode prog_1_method_22_code 20 = .ok (.istore_n 2, 1) := by decide +kernel
theorem d_Log_isRow_21 : decode prog_1_method_22_code 21 = .ok (.iload_n 2, 1) := by decide +kernel
theorem d_Log_isRow_22 : decode prog_1_method_22_code 22 = .ok (.ifCond .le 40, 3) := by decide +kernel
theorem d_Log_isRow_25 : decode prog_1_method_22_code 25 = .ok (.iload_n 2, 1) := by decide +kernel
theorem d_Log_isRow_26 : decode prog_1_method_22_code 26 = .ok (.bipush 10, 2) := by decide +kernel
theorem d_Log_isRow_28 : decode prog_1_method_22_code 28 = .ok (.irem, 1) := by decide +kernel
theorem d_Log_isRow_29 : decode prog_1_method_22_code 29 = .ok (.iconst 1, 1) := by decide +kernel
theorem d_Log_isRow_30 : decode prog_1_method_22_code 30 = .ok (.isub, 1) := by decide +kernel
theorem d_Log_isRow_31 : decode prog_1_method_22_code 31 = .ok (.istore_n 3, 1) := by decide +kernel
theorem d_Log_isRow_32 : decode prog_1_method_22_code 32 = .ok (.iload_n 3, 1) := by decide +kernel
theorem d_Log_isRow_33 : decode prog_1_method_22_code 33 = .ok (.ifCond .lt 15, 3) := by decide +kernel
theorem d_Log_isRow_36 : decode prog_1_method_22_code 36 = .ok (.iload_n 3, 1) := by decide +kernel
theorem d_Log_isRow_37 : decode prog_1_method_22_code 37 = .ok (.bipush 6, 2) := by decide +kernel
theorem d_Log_isRow_39 : decode prog_1_method_22_code 39 = .ok (.if_icmp .ge 9, 3) := by decide +kernel
theorem d_Log_isRow_42 : decode prog_1_method_22_code 42 = .ok (.aload_n 1, 1) := by decide +kernel
theorem d_Log_isRow_43 : decode prog_1_method_22_code 43 = .ok (.iload_n 3, 1) := by decide +kernel
theorem d_Log_isRow_44 : decode prog_1_method_22_code 44 = .ok (.baload, 1) := by decide +kernel
theorem d_Log_isRow_45 : decode prog_1_method_22_code 45 = .ok (.ifCond .eq 5, 3) := by decide +kernel
theorem d_Log_isRow_48 : decode prog_1_method_22_code 48 = .ok (.iconst 0, 1) := by decide +kernel
theorem d_Log_isRow_49 : decode prog_1_method_22_code 49 = .ok (.ireturn, 1) := by decide +kernel
theorem d_Log_isRow_50 : decode prog_1_method_22_code 50 = .ok (.aload_n 1, 1) := by decide +kernel
theorem d_Log_isRow_51 : decode prog_1_method_22_code 51 = .ok (.iload_n 3, 1) := by decide +kernel
theorem d_Log_isRow_52 : decode prog_1_method_22_code 52 = .ok (.iconst 1, 1) := by decide +kernel
theorem d_Log_isRow_53 : decode prog_1_method_22_code 53 = .ok (.bastore, 1) := by decide +kernel
theorem d_Log_isRow_54 : decode prog_1_method_22_code 54 = .ok (.iload_n 2, 1) := by decide +kernel
theorem d_Log_isRow_55 : decode prog_1_method_22_code 55 = .ok (.bipush 10, 2) := by decide +kernel
theorem d_Log_isRow_57 : decode prog_1_method_22_code 57 = .ok (.idiv, 1) := by decide +kernel
theorem d_Log_isRow_58 : decode prog_1_method_22_code 58 = .ok (.istore_n 2, 1) := by decide +kernel
theorem d_Log_isRow_59 : decode prog_1_method_22_code 59 = .ok (.goto (-38), 3) := by decide +kernel
theorem d_Log_isRow_62 : decode prog_1_method_22_code 62 = .ok (.iconst 1, 1) := by decide +kernel
theorem d_Log_isRow_63 : decode prog_1_method_22_code 63 = .ok (.ireturn, 1) := by decide +kernel
theorem d_Log_rowOf_0 : decode prog_1_method_23_code 0 = .ok (.iload_n 0, 1) := by decide +kernel
theorem d_Log_rowOf_1 : decode prog_1_method_23_code 1 = .ok (.bipush 10, 2) := by decide +kernel
theorem d_Log_rowOf_3 : decode prog_1_method_23_code 3 = .ok (.if_icmp .ge 7, 3) := by decide +kernel
theorem d_Log_rowOf_6 : decode prog_1_method_23_code 6 = .ok (.iconst 1, 1) := by decide +kernel
theorem d_Log_rowOf_7 : decode prog_1_method_23_code 7 = .ok (.goto 14, 3) := by decide +kernel
theorem d_Log_rowOf_10 : decode prog_1_method_23_code 10 = .ok (.iload_n 0, 1) := by decide +kernel
theorem d_Log_rowOf_11 : decode prog_1_method_23_code 11 = .ok (.bipush 100, 2) := by decide +kernel
theorem d_Log_rowOf_13 : decode prog_1_method_23_code 13 = .ok (.if_icmp .ge 7, 3) := by decide +kernel
theorem d_Log_rowOf_16 : decode prog_1_method_23_code 16 = .ok (.iconst 2, 1) := by decide +kernel
theorem d_Log_rowOf_17 : decode prog_1_method_23_code 17 = .ok (.goto 4, 3) := by decide +kernel
theorem d_Log_rowOf_20 : decode prog_1_method_23_code 20 = .ok (.iconst 3, 1) := by decide +kernel
theorem d_Log_rowOf_21 : decode prog_1_method_23_code 21 = .ok (.istore_n 1, 1) := by decide +kernel
theorem d_Log_rowOf_22 : decode prog_1_method_23_code 22 = .ok (.iload_n 1, 1) := by decide +kernel
theorem d_Log_rowOf_23 : decode prog_1_method_23_code 23 = .ok (.newarray .int, 2) := by decide +kernel
theorem d_Log_rowOf_25 : decode prog_1_method_23_code 25 = .ok (.astore_n 2, 1) := by decide +kernel
theorem d_Log_rowOf_26 : decode prog_1_method_23_code 26 = .ok (.iload_n 0, 1) := by decide +kernel
theorem d_Log_rowOf_27 : decode prog_1_method_23_code 27 = .ok (.istore_n 3, 1) := by decide +kernel
theorem d_Log_rowOf_28 : decode prog_1_method_23_code 28 = .ok (.iload_n 1, 1) := by decide +kernel
theorem d_Log_rowOf_29 : decode prog_1_method_23_code 29 = .ok (.iconst 1, 1) := by decide +kernel
theorem d_Log_rowOf_30 : decode prog_1_method_23_code 30 = .ok (.isub, 1) := by decide +kernel
theorem d_Log_rowOf_31 : decode prog_1_method_23_code 31 = .ok (.istore 4, 2) := by decide +kernel
theorem d_Log_rowOf_33 : decode prog_1_method_23_code 33 = .ok (.iload 4, 2) := by decide +kernel
theorem d_Log_rowOf_35 : decode prog_1_method_23_code 35 = .ok (.ifCond .lt 24, 3) := by decide +kernel
theorem d_Log_rowOf_38 : decode prog_1_method_23_code 38 = .ok (.aload_n 2, 1) := by decide +kernel
theorem d_Log_rowOf_39 : decode prog_1_method_23_code 39 = .ok (.iload 4, 2) := by decide +kernel
theorem d_Log_rowOf_41 : decode prog_1_method_23_code 41 = .ok (.iload_n 3, 1) := by decide +kernel
theorem d_Log_rowOf_42 : decode prog_1_method_23_code 42 = .ok (.bipush 10, 2) := by decide +kernel
theorem d_Log_rowOf_44 : decode prog_1_method_23_code 44 = .ok (.irem, 1) := by decide +kernel
theorem d_Log_rowOf_45 : decode prog_1_method_23_code 45 = .ok (.iconst 1, 1) := by decide +kernel
theorem d_Log_rowOf_46 : decode prog_1_method_23_code 46 = .ok (.isub, 1) := by decide +kernel
theorem d_Log_rowOf_47 : decode prog_1_method_23_code 47 = .ok (.iastore, 1) := by decide +kernel
theorem d_Log_rowOf_48 : decode prog_1_method_23_code 48 = .ok (.iload_n 3, 1) := by decide +kernel
theorem d_Log_rowOf_49 : decode prog_1_method_23_code 49 = .ok (.bipush 10, 2) := by decide +kernel
theorem d_Log_rowOf_51 : decode prog_1_method_23_code 51 = .ok (.idiv, 1) := by decide +kernel
theorem d_Log_rowOf_52 : decode prog_1_method_23_code 52 = .ok (.istore_n 3, 1) := by decide +kernel
theorem d_Log_rowOf_53 : decode prog_1_method_23_code 53 = .ok (.iinc 4 (-1), 3) := by decide +kernel
theorem d_Log_rowOf_56 : decode prog_1_method_23_code 56 = .ok (.goto (-23), 3) := by decide +kernel
theorem d_Log_rowOf_59 : decode prog_1_method_23_code 59 = .ok (.aload_n 2, 1) := by decide +kernel
theorem d_Log_rowOf_60 : decode prog_1_method_23_code 60 = .ok (.areturn, 1) := by decide +kernel
theorem d_Log_digitsOf_0 : decode prog_1_method_24_code 0 = .ok (.iconst 0, 1) := by decide +kernel
theorem d_Log_digitsOf_1 : decode prog_1_method_24_code 1 = .ok (.istore_n 1, 1) := by decide +kernel
theorem d_Log_digitsOf_2 : decode prog_1_method_24_code 2 = .ok (.iconst 0, 1) := by decide +kernel
theorem d_Log_digitsOf_3 : decode prog_1_method_24_code 3 = .ok (.istore_n 2, 1) := by decide +kernel
theorem d_Log_digitsOf_4 : decode prog_1_method_24_code 4 = .ok (.iload_n 2, 1) := by decide +kernel
theorem d_Log_digitsOf_5 : decode prog_1_method_24_code 5 = .ok (.aload_n 0, 1) := by decide +kernel
theorem d_Log_digitsOf_6 : decode prog_1_method_24_code 6 = .ok (.arraylength, 1) := by decide +kernel
theorem d_Log_digitsOf_7 : decode prog_1_method_24_code 7 = .ok (.if_icmp .ge 20, 3) := by decide +kernel
theorem d_Log_digitsOf_10 : decode prog_1_method_24_code 10 = .ok (.iload_n 1, 1) := by decide +kernel
theorem d_Log_digitsOf_11 : decode prog_1_method_24_code 11 = .ok (.bipush 10, 2) := by decide +kernel
theorem d_Log_digitsOf_13 : decode prog_1_method_24_code 13 = .ok (.imul, 1) := by decide +kernel
theorem d_Log_digitsOf_14 : decode prog_1_method_24_code 14 = .ok (.aload_n 0, 1) := by decide +kernel
theorem d_Log_digitsOf_15 : decode prog_1_method_24_code 15 = .ok (.iload_n 2, 1) := by decide +kernel
theorem d_Log_digitsOf_16 : decode prog_1_method_24_code 16 = .ok (.iaload, 1) := by decide +kernel
theorem d_Log_digitsOf_17 : decode prog_1_method_24_code 17 = .ok (.iadd, 1) := by decide +kernel
theorem d_Log_digitsOf_18 : decode prog_1_method_24_code 18 = .ok (.iconst 1, 1) := by decide +kernel
theorem d_Log_digitsOf_19 : decode prog_1_method_24_code 19 = .ok (.iadd, 1) := by decide +kernel
theorem d_Log_digitsOf_20 : decode prog_1_method_24_code 20 = .ok (.istore_n 1, 1) := by decide +kernel
theorem d_Log_digitsOf_21 : decode prog_1_method_24_code 21 = .ok (.iinc 2 1, 3) := by decide +kernel
theorem d_Log_digitsOf_24 : decode prog_1_method_24_code 24 = .ok (.goto (-20), 3) := by decide +kernel
theorem d_Log_digitsOf_27 : decode prog_1_method_24_code 27 = .ok (.iload_n 1, 1) := by decide +kernel
theorem d_Log_digitsOf_28 : decode prog_1_method_24_code 28 = .ok (.ireturn, 1) := by decide +kernel
theorem d_Log_requireTransaction_0 : decode prog_1_method_25_code 0 = .ok (.aload_n 0, 1) := by decide +kernel
theorem d_Log_requireTransaction_1 : decode prog_1_method_25_code 1 = .ok (.getfield 179, 3) := by decide +kernel
theorem d_Log_requireTransaction_4 : decode prog_1_method_25_code 4 = .ok (.ifCond .ne 13, 3) := by decide +kernel
theorem d_Log_requireTransaction_7 : decode prog_1_method_25_code 7 = .ok (.new 182, 3) := by decide +kernel
theorem d_Log_requireTransaction_10 : decode prog_1_method_25_code 10 = .ok (.dup, 1) := by decide +kernel
theorem d_Log_requireTransaction_11 : decode prog_1_method_25_code 11 = .ok (.ldc 234, 2) := by decide +kernel
theorem d_Log_requireTransaction_13 : decode prog_1_method_25_code 13 = .ok (.invokespecial 186, 3) := by decide +kernel
theorem d_Log_requireTransaction_16 : decode prog_1_method_25_code 16 = .ok (.athrow, 1) := by decide +kernel
theorem d_Log_requireTransaction_17 : decode prog_1_method_25_code 17 = .ok (.return_, 1) := by decide +kernel
theorem d_Log_requireSequencer_0 : decode prog_1_method_26_code 0 = .ok (.aload_n 0, 1) := by decide +kernel
theorem d_Log_requireSequencer_1 : decode prog_1_method_26_code 1 = .ok (.getfield 24, 3) := by decide +kernel
theorem d_Log_requireSequencer_4 : decode prog_1_method_26_code 4 = .ok (.getfield 161, 3) := by decide +kernel
theorem d_Log_requireSequencer_7 : decode prog_1_method_26_code 7 = .ok (.ifCond .ne 20, 3) := by decide +kernel
theorem d_Log_requireSequencer_10 : decode prog_1_method_26_code 10 = .ok (.aload_n 0, 1) := by decide +kernel
theorem d_Log_requireSequencer_11 : decode prog_1_method_26_code 11 = .ok (.getfield 24, 3) := by decide +kernel
theorem d_Log_requireSequencer_14 : decode prog_1_method_26_code 14 = .ok (.getfield 223, 3) := by decide +kernel
theorem d_Log_requireSequencer_17 : decode prog_1_method_26_code 17 = .ok (.aload_n 1, 1) := by decide +kernel
theorem d_Log_requireSequencer_18 : decode prog_1_method_26_code 18 = .ok (.getfield 80, 3) := by decide +kernel
theorem d_Log_requireSequencer_21 : decode prog_1_method_26_code 21 = .ok (.getfield 119, 3) := by decide +kernel
theorem d_Log_requireSequencer_24 : decode prog_1_method_26_code 24 = .ok (.if_icmp .eq 13, 3) := by decide +kernel
theorem d_Log_requireSequencer_27 : decode prog_1_method_26_code 27 = .ok (.new 182, 3) := by decide +kernel
theorem d_Log_requireSequencer_30 : decode prog_1_method_26_code 30 = .ok (.dup, 1) := by decide +kernel
theorem d_Log_requireSequencer_31 : decode prog_1_method_26_code 31 = .ok (.ldc 236, 2) := by decide +kernel
theorem d_Log_requireSequencer_33 : decode prog_1_method_26_code 33 = .ok (.invokespecial 186, 3) := by decide +kernel
theorem d_Log_requireSequencer_36 : decode prog_1_method_26_code 36 = .ok (.athrow, 1) := by decide +kernel
theorem d_Log_requireSequencer_37 : decode prog_1_method_26_code 37 = .ok (.return_, 1) := by decide +kernel
theorem d_Log_takeToken_0 : decode prog_1_method_27_code 0 = .ok (.aload_n 0, 1) := by decide +kernel
theorem d_Log_takeToken_1 : decode prog_1_method_27_code 1 = .ok (.aload_n 1, 1) := by decide +kernel
theorem d_Log_takeToken_2 : decode prog_1_method_27_code 2 = .ok (.invokevirtual 164, 3) := by decide +kernel
theorem d_Log_takeToken_5 : decode prog_1_method_27_code 5 = .ok (.aload_n 0, 1) := by decide +kernel
theorem d_Log_takeToken_6 : decode prog_1_method_27_code 6 = .ok (.getfield 24, 3) := by decide +kernel
theorem d_Log_takeToken_9 : decode prog_1_method_27_code 9 = .ok (.getfield 152, 3) := by decide +kernel
theorem d_Log_takeToken_12 : decode prog_1_method_27_code 12 = .ok (.bipush 60, 2) := by decide +kernel
theorem d_Log_takeToken_14 : decode prog_1_method_27_code 14 = .ok (.if_icmp .lt 13, 3) := by decide +kernel
theorem d_Log_takeToken_17 : decode prog_1_method_27_code 17 = .ok (.new 238, 3) := by decide +kernel
theorem d_Log_takeToken_20 : decode prog_1_method_27_code 20 = .ok (.dup, 1) := by decide +kernel
theorem d_Log_takeToken_21 : decode prog_1_method_27_code 21 = .ok (.ldc 240, 2) := by decide +kernel
theorem d_Log_takeToken_23 : decode prog_1_method_27_code 23 = .ok (.invokespecial 242, 3) := by decide +kernel
theorem d_Log_takeToken_26 : decode prog_1_method_27_code 26 = .ok (.athrow, 1) := by decide +kernel
theorem d_Log_takeToken_27 : decode prog_1_method_27_code 27 = .ok (.aload_n 0, 1) := by decide +kernel
theorem d_Log_takeToken_28 : decode prog_1_method_27_code 28 = .ok (.getfield 24, 3) := by decide +kernel
theorem d_Log_takeToken_31 : decode prog_1_method_27_code 31 = .ok (.getfield 152, 3) := by decide +kernel
theorem d_Log_takeToken_34 : decode prog_1_method_27_code 34 = .ok (.istore_n 2, 1) := by decide +kernel
theorem d_Log_takeToken_35 : decode prog_1_method_27_code 35 = .ok (.aload_n 0, 1) := by decide +kernel
theorem d_Log_takeToken_36 : decode prog_1_method_27_code 36 = .ok (.getfield 24, 3) := by decide +kernel
theorem d_Log_takeToken_39 : decode prog_1_method_27_code 39 = .ok (.iload_n 2, 1) := by decide +kernel
theorem d_Log_takeToken_40 : decode prog_1_method_27_code 40 = .ok (.iconst 1, 1) := by decide +kernel
theorem d_Log_takeToken_41 : decode prog_1_method_27_code 41 = .ok (.iadd, 1) := by decide +kernel
theorem d_Log_takeToken_42 : decode prog_1_method_27_code 42 = .ok (.putfield 152, 3) := by decide +kernel
theorem d_Log_takeToken_45 : decode prog_1_method_27_code 45 = .ok (.iload_n 2, 1) := by decide +kernel
theorem d_Log_takeToken_46 : decode prog_1_method_27_code 46 = .ok (.ireturn, 1) := by decide +kernel
theorem d_Log_use_0 : decode prog_1_method_28_code 0 = .ok (.aload_n 0, 1) := by decide +kernel
theorem d_Log_use_1 : decode prog_1_method_28_code 1 = .ok (.getfield 11, 3) := by decide +kernel
theorem d_Log_use_4 : decode prog_1_method_28_code 4 = .ok (.iload_n 2, 1) := by decide +kernel
theorem d_Log_use_5 : decode prog_1_method_28_code 5 = .ok (.aaload, 1) := by decide +kernel
theorem d_Log_use_6 : decode prog_1_method_28_code 6 = .ok (.astore_n 3, 1) := by decide +kernel
theorem d_Log_use_7 : decode prog_1_method_28_code 7 = .ok (.aload_n 3, 1) := by decide +kernel
theorem d_Log_use_8 : decode prog_1_method_28_code 8 = .ok (.getfield 154, 3) := by decide +kernel
theorem d_Log_use_11 : decode prog_1_method_28_code 11 = .ok (.ifCond .eq 17, 3) := by decide +kernel
theorem d_Log_use_14 : decode prog_1_method_28_code 14 = .ok (.aload_n 3, 1) := by decide +kernel
theorem d_Log_use_15 : decode prog_1_method_28_code 15 = .ok (.getfield 158, 3) := by decide +kernel
theorem d_Log_use_18 : decode prog_1_method_28_code 18 = .ok (.aload_n 1, 1) := by decide +kernel
theorem d_Log_use_19 : decode prog_1_method_28_code 19 = .ok (.getfield 80, 3) := by decide +kernel
theorem d_Log_use_22 : decode prog_1_method_28_code 22 = .ok (.getfield 119, 3) := by decide +kernel
theorem d_Log_use_25 : decode prog_1_method_28_code 25 = .ok (.if_icmp .le 13, 3) := by decide +kernel
theorem d_Log_use_28 : decode prog_1_method_28_code 28 = .ok (.new 182, 3) := by decide +kernel
theorem d_Log_use_31 : decode prog_1_method_28_code 31 = .ok (.dup, 1) := by decide +kernel
theorem d_Log_use_32 : decode prog_1_method_28_code 32 = .ok (.ldc 243, 2) := by decide +kernel
theorem d_Log_use_34 : decode prog_1_method_28_code 34 = .ok (.invokespecial 186, 3) := by decide +kernel
theorem d_Log_use_37 : decode prog_1_method_28_code 37 = .ok (.athrow, 1) := by decide +kernel
theorem d_Log_use_38 : decode prog_1_method_28_code 38 = .ok (.aload_n 3, 1) := by decide +kernel
theorem d_Log_use_39 : decode prog_1_method_28_code 39 = .ok (.areturn, 1) := by decide +kernel
theorem d_Log_write_0 : decode prog_1_method_29_code 0 = .ok (.aload_n 1, 1) := by decide +kernel
theorem d_Log_write_1 : decode prog_1_method_29_code 1 = .ok (.getfield 80, 3) := by decide +kernel
theorem d_Log_write_4 : decode prog_1_method_29_code 4 = .ok (.iload_n 2, 1) := by decide +kernel
theorem d_Log_write_5 : decode prog_1_method_29_code 5 = .ok (.invokevirtual 83, 3) := by decide +kernel
theorem d_Log_write_8 : decode prog_1_method_29_code 8 = .ok (.astore 5, 2) := by decide +kernel
theorem d_Log_write_10 : decode prog_1_method_29_code 10 = .ok (.iconst 0, 1) := by decide +kernel
theorem d_Log_write_11 : decode prog_1_method_29_code 11 = .ok (.istore 6, 2) := by decide +kernel
theorem d_Log_write_13 : decode prog_1_method_29_code 13 = .ok (.iload 6, 2) := by decide +kernel
theorem d_Log_write_15 : decode prog_1_method_29_code 15 = .ok (.aload 5, 2) := by decide +kernel
theorem d_Log_write_17 : decode prog_1_method_29_code 17 = .ok (.arraylength, 1) := by decide +kernel
theorem d_Log_write_18 : decode prog_1_method_29_code 18 = .ok (.if_icmp .ge 55, 3) := by decide +kernel
theorem d_Log_write_21 : decode prog_1_method_29_code 21 = .ok (.iload 6, 2) := by decide +kernel
theorem d_Log_write_23 : decode prog_1_method_29_code 23 = .ok (.iload 4, 2) := by decide +kernel
theorem d_Log_write_25 : decode prog_1_method_29_code 25 = .ok (.if_icmp .ge 48, 3) := by decide +kernel
theorem d_Log_write_28 : decode prog_1_method_29_code 28 = .ok (.aload_n 0, 1) := by decide +kernel
theorem d_Log_write_29 : decode prog_1_method_29_code 29 = .ok (.aload_n 1, 1) := by decide +kernel
theorem d_Log_write_30 : decode prog_1_method_29_code 30 = .ok (.aload 5, 2) := by decide +kernel
theorem d_Log_write_32 : decode prog_1_method_29_code 32 = .ok (.iload 6, 2) := by decide +kernel
theorem d_Log_write_34 : decode prog_1_method_29_code 34 = .ok (.iaload, 1) := by decide +kernel
theorem d_Log_write_35 : decode prog_1_method_29_code 35 = .ok (.invokevirtual 103, 3) := by decide +kernel
theorem d_Log_write_38 : decode prog_1_method_29_code 38 = .ok (.astore 7, 2) := by decide +kernel
theorem d_Log_write_40 : decode prog_1_method_29_code 40 = .ok (.aload 7, 2) := by decide +kernel
theorem d_Log_write_42 : decode prog_1_method_29_code 42 = .ok (.iload_n 2, 1) := by decide +kernel
theorem d_Log_write_43 : decode prog_1_method_29_code 43 = .ok (.invokevirtual 107, 3) := by decide +kernel
theorem d_Log_write_46 : decode prog_1_method_29_code 46 = .ok (.ifCond .eq 13, 3) := by decide +kernel
theorem d_Log_write_49 : decode prog_1_method_29_code 49 = .ok (.new 94, 3) := by decide +kernel
theorem d_Log_write_52 : decode prog_1_method_29_code 52 = .ok (.dup, 1) := by decide +kernel
theorem d_Log_write_53 : decode prog_1_method_29_code 53 = .ok (.ldc 245, 2) := by decide +kernel
theorem d_Log_write_55 : decode prog_1_method_29_code 55 = .ok (.invokespecial 97, 3) := by decide +kernel
theorem d_Log_write_58 : decode prog_1_method_29_code 58 = .ok (.athrow, 1) := by decide +kernel
theorem d_Log_write_59 : decode prog_1_method_29_code 59 = .ok (.aload 7, 2) := by decide +kernel
theorem d_Log_write_61 : decode prog_1_method_29_code 61 = .ok (.getfield 111, 3) := by decide +kernel
theorem d_Log_write_64 : decode prog_1_method_29_code 64 = .ok (.iload_n 2, 1) := by decide +kernel
theorem d_Log_write_65 : decode prog_1_method_29_code 65 = .ok (.aload_n 3, 1) := by decide +kernel
theorem d_Log_write_66 : decode prog_1_method_29_code 66 = .ok (.aastore, 1) := by decide +kernel
theorem d_Log_write_67 : decode prog_1_method_29_code 67 = .ok (.iinc 6 1, 3) := by decide +kernel
theorem d_Log_write_70 : decode prog_1_method_29_code 70 = .ok (.goto (-57), 3) := by decide +kernel
theorem d_Log_write_73 : decode prog_1_method_29_code 73 = .ok (.return_, 1) := by decide +kernel
theorem d_Log_entryAtEnd_0 : decode prog_1_method_30_code 0 = .ok (.aload_n 1, 1) := by decide +kernel
theorem d_Log_entryAtEnd_1 : decode prog_1_method_30_code 1 = .ok (.getfield 80, 3) := by decide +kernel
theorem d_Log_entryAtEnd_4 : decode prog_1_method_30_code 4 = .ok (.iload_n 2, 1) := by decide +kernel
theorem d_Log_entryAtEnd_5 : decode prog_1_method_30_code 5 = .ok (.invokevirtual 83, 3) := by decide +kernel
theorem d_Log_entryAtEnd_8 : decode prog_1_method_30_code 8 = .ok (.astore_n 3, 1) := by decide +kernel
theorem d_Log_entryAtEnd_9 : decode prog_1_method_30_code 9 = .ok (.aload_n 0, 1) := by decide +kernel
theorem d_Log_entryAtEnd_10 : decode prog_1_method_30_code 10 = .ok (.aload_n 1, 1) := by decide +kernel
theorem d_Log_entryAtEnd_11 : decode prog_1_method_30_code 11 = .ok (.aload_n 3, 1) := by decide +kernel
theorem d_Log_entryAtEnd_12 : decode prog_1_method_30_code 12 = .ok (.aload_n 3, 1) := by decide +kernel
theorem d_Log_entryAtEnd_13 : decode prog_1_method_30_code 13 = .ok (.arraylength, 1) := by decide +kernel
theorem d_Log_entryAtEnd_14 : decode prog_1_method_30_code 14 = .ok (.iconst 1, 1) := by decide +kernel
theorem d_Log_entryAtEnd_15 : decode prog_1_method_30_code 15 = .ok (.isub, 1) := by decide +kernel
theorem d_Log_entryAtEnd_16 : decode prog_1_method_30_code 16 = .ok (.iaload, 1) := by decide +kernel
theorem d_Log_entryAtEnd_17 : decode prog_1_method_30_code 17 = .ok (.invokevirtual 103, 3) := by decide +kernel
theorem d_Log_entryAtEnd_20 : decode prog_1_method_30_code 20 = .ok (.getfield 111, 3) := by decide +kernel
theorem d_Log_entryAtEnd_23 : decode prog_1_method_30_code 23 = .ok (.iload_n 2, 1) := by decide +kernel
theorem d_Log_entryAtEnd_24 : decode prog_1_method_30_code 24 = .ok (.aaload, 1) := by decide +kernel
theorem d_Log_entryAtEnd_25 : decode prog_1_method_30_code 25 = .ok (.astore 4, 2) := by decide +kernel
theorem d_Log_entryAtEnd_27 : decode prog_1_method_30_code 27 = .ok (.aload 4, 2) := by decide +kernel
theorem d_Log_entryAtEnd_29 : decode prog_1_method_30_code 29 = .ok (.getfield 90, 3) := by decide +kernel
theorem d_Log_entryAtEnd_32 : decode prog_1_method_30_code 32 = .ok (.ifCond .ne 13, 3) := by decide +kernel
theorem d_Log_entryAtEnd_35 : decode prog_1_method_30_code 35 = .ok (.new 238, 3) := by decide +kernel
theorem d_Log_entryAtEnd_38 : decode prog_1_method_30_code 38 = .ok (.dup, 1) := by decide +kernel
theorem d_Log_entryAtEnd_39 : decode prog_1_method_30_code 39 = .ok (.ldc 247, 2) := by decide +kernel
theorem d_Log_entryAtEnd_41 : decode prog_1_method_30_code 41 = .ok (.invokespecial 242, 3) := by decide +kernel
theorem d_Log_entryAtEnd_44 : decode prog_1_method_30_code 44 = .ok (.athrow, 1) := by decide +kernel
theorem d_Log_entryAtEnd_45 : decode prog_1_method_30_code 45 = .ok (.aload 4, 2) := by decide +kernel
theorem d_Log_entryAtEnd_47 : decode prog_1_method_30_code 47 = .ok (.getfield 90, 3) := by decide +kernel
theorem d_Log_entryAtEnd_50 : decode prog_1_method_30_code 50 = .ok (.iconst 4, 1) := by decide +kernel
theorem d_Log_entryAtEnd_51 : decode prog_1_method_30_code 51 = .ok (.if_icmp .ne 13, 3) := by decide +kernel
theorem d_Log_entryAtEnd_54 : decode prog_1_method_30_code 54 = .ok (.new 249, 3) := by decide +kernel
theorem d_Log_entryAtEnd_57 : decode prog_1_method_30_code 57 = .ok (.dup, 1) := by decide +kernel
theorem d_Log_entryAtEnd_58 : decode prog_1_method_30_code 58 = .ok (.ldc 251, 2) := by decide +kernel
theorem d_Log_entryAtEnd_60 : decode prog_1_method_30_code 60 = .ok (.invokespecial 252, 3) := by decide +kernel
theorem d_Log_entryAtEnd_63 : decode prog_1_method_30_code 63 = .ok (.athrow, 1) := by decide +kernel
theorem d_Log_entryAtEnd_64 : decode prog_1_method_30_code 64 = .ok (.aload 4, 2) := by decide +kernel
theorem d_Log_entryAtEnd_66 : decode prog_1_method_30_code 66 = .ok (.areturn, 1) := by decide +kernel
theorem d_Log_trimOne_0 : decode prog_1_method_31_code 0 = .ok (.aload_n 1, 1) := by decide +kernel
theorem d_Log_trimOne_1 : decode prog_1_method_31_code 1 = .ok (.getfield 80, 3) := by decide +kernel
theorem d_Log_trimOne_4 : decode prog_1_method_31_code 4 = .ok (.iload_n 2, 1) := by decide +kernel
theorem d_Log_trimOne_5 : decode prog_1_method_31_code 5 = .ok (.invokevirtual 83, 3) := by decide +kernel
theorem d_Log_trimOne_8 : decode prog_1_method_31_code 8 = .ok (.astore_n 3, 1) := by decide +kernel
theorem d_Log_trimOne_9 : decode prog_1_method_31_code 9 = .ok (.iconst 0, 1) := by decide +kernel
theorem d_Log_trimOne_10 : decode prog_1_method_31_code 10 = .ok (.istore 4, 2) := by decide +kernel
theorem d_Log_trimOne_12 : decode prog_1_method_31_code 12 = .ok (.iconst 0, 1) := by decide +kernel
theorem d_Log_trimOne_13 : decode prog_1_method_31_code 13 = .ok (.istore 5, 2) := by decide +kernel
theorem d_Log_trimOne_15 : decode prog_1_method_31_code 15 = .ok (.iload 5, 2) := by decide +kernel
theorem d_Log_trimOne_17 : decode prog_1_method_31_code 17 = .ok (.aload_n 3, 1) := by decide +kernel
theorem d_Log_trimOne_18 : decode prog_1_method_31_code 18 = .ok (.arraylength, 1) := by decide +kernel
theorem d_Log_trimOne_19 : decode prog_1_method_31_code 19 = .ok (.if_icmp .ge 48, 3) := by decide +kernel
theorem d_Log_trimOne_22 : decode prog_1_method_31_code 22 = .ok (.aload_n 0, 1) := by decide +kernel
theorem d_Log_trimOne_23 : decode prog_1_method_31_code 23 = .ok (.aload_n 1, 1) := by decide +kernel
theorem d_Log_trimOne_24 : decode prog_1_method_31_code 24 = .ok (.aload_n 3, 1) := by decide +kernel
theorem d_Log_trimOne_25 : decode prog_1_method_31_code 25 = .ok (.iload 5, 2) := by decide +kernel
theorem d_Log_trimOne_27 : decode prog_1_method_31_code 27 = .ok (.iaload, 1) := by decide +kernel
theorem d_Log_trimOne_28 : decode prog_1_method_31_code 28 = .ok (.invokevirtual 103, 3) := by decide +kernel
theorem d_Log_trimOne_31 : decode prog_1_method_31_code 31 = .ok (.astore 6, 2) := by decide +kernel
theorem d_Log_trimOne_33 : decode prog_1_method_31_code 33 = .ok (.aload 6, 2) := by decide +kernel
theorem d_Log_trimOne_35 : decode prog_1_method_31_code 35 = .ok (.getfield 111, 3) := by decide +kernel
theorem d_Log_trimOne_38 : decode prog_1_method_31_code 38 = .ok (.iload_n 2, 1) := by decide +kernel
theorem d_Log_trimOne_39 : decode prog_1_method_31_code 39 = .ok (.aaload, 1) := by decide +kernel
theorem d_Log_trimOne_40 : decode prog_1_method_31_code 40 = .ok (.getfield 90, 3) := by decide +kernel
theorem d_Log_trimOne_43 : decode prog_1_method_31_code 43 = .ok (.iconst 4, 1) := by decide +kernel
theorem d_Log_trimOne_44 : decode prog_1_method_31_code 44 = .ok (.if_icmp .eq 17, 3) := by decide +kernel
theorem d_Log_trimOne_47 : decode prog_1_method_31_code 47 = .ok (.aload 6, 2) := by decide +kernel
theorem d_Log_trimOne_49 : decode prog_1_method_31_code 49 = .ok (.getfield 111, 3) := by decide +kernel
theorem d_Log_trimOne_52 : decode prog_1_method_31_code 52 = .ok (.iload_n 2, 1) := by decide +kernel
theorem d_Log_trimOne_53 : decode prog_1_method_31_code 53 = .ok (.aload_n 0, 1) := by decide +kernel
theorem d_Log_trimOne_54 : decode prog_1_method_31_code 54 = .ok (.getfield 43, 3) := by decide +kernel
theorem d_Log_trimOne_57 : decode prog_1_method_31_code 57 = .ok (.aastore, 1) := by decide +kernel
theorem d_Log_trimOne_58 : decode prog_1_method_31_code 58 = .ok (.iinc 4 1, 3) := by decide +kernel
theorem d_Log_trimOne_61 : decode prog_1_method_31_code 61 = .ok (.iinc 5 1, 3) := by decide +kernel
theorem d_Log_trimOne_64 : decode prog_1_method_31_code 64 = .ok (.goto (-49), 3) := by decide +kernel
theorem d_Log_trimOne_67 : decode prog_1_method_31_code 67 = .ok (.iload 4, 2) := by decide +kernel
theorem d_Log_trimOne_69 : decode prog_1_method_31_code 69 = .ok (.ireturn, 1) := by decide +kernel
theorem d_Log_play_0 : decode prog_1_method_32_code 0 = .ok (.iconst 0, 1) := by decide +kernel
theorem d_Log_play_1 : decode prog_1_method_32_code 1 = .ok (.istore_n 3, 1) := by decide +kernel
theorem d_Log_play_2 : decode prog_1_method_32_code 2 = .ok (.aload_n 1, 1) := by decide +kernel
theorem d_Log_play_3 : decode prog_1_method_32_code 3 = .ok (.getfield 172, 3) := by decide +kernel
theorem d_Log_play_6 : decode prog_1_method_32_code 6 = .ok (.istore 4, 2) := by decide +kernel
theorem d_Log_play_8 : decode prog_1_method_32_code 8 = .ok (.iload 4, 2) := by decide +kernel
theorem d_Log_play_10 : decode prog_1_method_32_code 10 = .ok (.iload_n 2, 1) := by decide +kernel
theorem d_Log_play_11 : decode prog_1_method_32_code 11 = .ok (.if_icmp .ge 36, 3) := by decide +kernel
theorem d_Log_play_14 : decode prog_1_method_32_code 14 = .ok (.aload_n 1, 1) := by decide +kernel
theorem d_Log_play_15 : decode prog_1_method_32_code 15 = .ok (.aload_n 0, 1) := by decide +kernel
theorem d_Log_play_16 : decode prog_1_method_32_code 16 = .ok (.aload_n 1, 1) := by decide +kernel
theorem d_Log_play_17 : decode prog_1_method_32_code 17 = .ok (.iload 4, 2) := by decide +kernel
theorem d_Log_play_19 : decode prog_1_method_32_code 19 = .ok (.invokevirtual 86, 3) := by decide +kernel
theorem d_Log_play_22 : decode prog_1_method_32_code 22 = .ok (.getfield 253, 3) := by decide +kernel
theorem d_Log_play_25 : decode prog_1_method_32_code 25 = .ok (.iload 4, 2) := by decide +kernel
theorem d_Log_play_27 : decode prog_1_method_32_code 27 = .ok (.iconst 1, 1) := by decide +kernel
theorem d_Log_play_28 : decode prog_1_method_32_code 28 = .ok (.iadd, 1) := by decide +kernel
theorem d_Log_play_29 : decode prog_1_method_32_code 29 = .ok (.invokevirtual 256, 3) := by decide +kernel
theorem d_Log_play_32 : decode prog_1_method_32_code 32 = .ok (.istore_n 3, 1) := by decide +kernel
theorem d_Log_play_33 : decode prog_1_method_32_code 33 = .ok (.aload_n 1, 1) := by decide +kernel
theorem d_Log_play_34 : decode prog_1_method_32_code 34 = .ok (.iload 4, 2) := by decide +kernel
theorem d_Log_play_36 : decode prog_1_method_32_code 36 = .ok (.iconst 1, 1) := by decide +kernel
theorem d_Log_play_37 : decode prog_1_method_32_code 37 = .ok (.iadd, 1) := by decide +kernel
theorem d_Log_play_38 : decode prog_1_method_32_code 38 = .ok (.putfield 172, 3) := by decide +kernel
theorem d_Log_play_41 : decode prog_1_method_32_code 41 = .ok (.iinc 4 1, 3) := by decide +kernel
theorem d_Log_play_44 : decode prog_1_method_32_code 44 = .ok (.goto (-36), 3) := by decide +kernel
theorem d_Log_play_47 : decode prog_1_method_32_code 47 = .ok (.iload_n 3, 1) := by decide +kernel
theorem d_Log_play_48 : decode prog_1_method_32_code 48 = .ok (.ireturn, 1) := by decide +kernel
theorem d_Log_writeAndPlayCommit_0 : decode prog_1_method_33_code 0 = .ok (.aload_n 0, 1) := by decide +kernel
theorem d_Log_writeAndPlayCommit_1 : decode prog_1_method_33_code 1 = .ok (.aload_n 1, 1) := by decide +kernel
theorem d_Log_writeAndPlayCommit_2 : decode prog_1_method_33_code 2 = .ok (.invokevirtual 69, 3) := by decide +kernel
theorem d_Log_writeAndPlayCommit_5 : decode prog_1_method_33_code 5 = .ok (.istore_n 2, 1) := by decide +kernel
theorem d_Log_writeAndPlayCommit_6 : decode prog_1_method_33_code 6 = .ok (.aload_n 1, 1) := by decide +kernel
theorem d_Log_writeAndPlayCommit_7 : decode prog_1_method_33_code 7 = .ok (.getfield 187, 3) := by decide +kernel
theorem d_Log_writeAndPlayCommit_10 : decode prog_1_method_33_code 10 = .ok (.invokevirtual 260, 3) := by decide +kernel
theorem d_Log_writeAndPlayCommit_13 : decode prog_1_method_33_code 13 = .ok (.astore_n 3, 1) := by decide +kernel
theorem d_Log_writeAndPlayCommit_14 : decode prog_1_method_33_code 14 = .ok (.aload_n 0, 1) := by decide +kernel
theorem d_Log_writeAndPlayCommit_15 : decode prog_1_method_33_code 15 = .ok (.aload_n 1, 1) := by decide +kernel
theorem d_Log_writeAndPlayCommit_16 : decode prog_1_method_33_code 16 = .ok (.iload_n 2, 1) := by decide +kernel
theorem d_Log_writeAndPlayCommit_17 : decode prog_1_method_33_code 17 = .ok (.new 31, 3) := by decide +kernel
theorem d_Log_writeAndPlayCommit_20 : decode prog_1_method_33_code 20 = .ok (.dup, 1) := by decide +kernel
theorem d_Log_writeAndPlayCommit_21 : decode prog_1_method_33_code 21 = .ok (.iconst 2, 1) := by decide +kernel
theorem d_Log_writeAndPlayCommit_22 : decode prog_1_method_33_code 22 = .ok (.aload_n 3, 1) := by decide +kernel
theorem d_Log_writeAndPlayCommit_23 : decode prog_1_method_33_code 23 = .ok (.invokevirtual 208, 3) := by decide +kernel
theorem d_Log_writeAndPlayCommit_26 : decode prog_1_method_33_code 26 = .ok (.aload_n 3, 1) := by decide +kernel
theorem d_Log_writeAndPlayCommit_27 : decode prog_1_method_33_code 27 = .ok (.invokespecial 33, 3) := by decide +kernel
theorem d_Log_writeAndPlayCommit_30 : decode prog_1_method_33_code 30 = .ok (.iconst 3, 1) := by decide +kernel
theorem d_Log_writeAndPlayCommit_31 : decode prog_1_method_33_code 31 = .ok (.invokevirtual 76, 3) := by decide +kernel
theorem d_Log_writeAndPlayCommit_34 : decode prog_1_method_33_code 34 = .ok (.aload_n 0, 1) := by decide +kernel
theorem d_Log_writeAndPlayCommit_35 : decode prog_1_method_33_code 35 = .ok (.aload_n 1, 1) := by decide +kernel
theorem d_Log_writeAndPlayCommit_36 : decode prog_1_method_33_code 36 = .ok (.iload_n 2, 1) := by decide +kernel
theorem d_Log_writeAndPlayCommit_37 : decode prog_1_method_33_code 37 = .ok (.iconst 1, 1) := by decide +kernel
theorem d_Log_writeAndPlayCommit_38 : decode prog_1_method_33_code 38 = .ok (.iadd, 1) := by decide +kernel
theorem d_Log_writeAndPlayCommit_39 : decode prog_1_method_33_code 39 = .ok (.invokevirtual 168, 3) := by decide +kernel
theorem d_Log_writeAndPlayCommit_42 : decode prog_1_method_33_code 42 = .ok (.ireturn, 1) := by decide +kernel
theorem d_Log_requireChangeable_0 : decode prog_1_method_34_code 0 = .ok (.aload_n 1, 1) := by decide +kernel
theorem d_Log_requireChangeable_1 : decode prog_1_method_34_code 1 = .ok (.getfield 80, 3) := by decide +kernel
theorem d_Log_requireChangeable_4 : decode prog_1_method_34_code 4 = .ok (.getfield 119, 3) := by decide +kernel
theorem d_Log_requireChangeable_7 : decode prog_1_method_34_code 7 = .ok (.aload_n 0, 1) := by decide +kernel
theorem d_Log_requireChangeable_8 : decode prog_1_method_34_code 8 = .ok (.getfield 55, 3) := by decide +kernel
theorem d_Log_requireChangeable_11 : decode prog_1_method_34_code 11 = .ok (.getfield 119, 3) := by decide +kernel
theorem d_Log_requireChangeable_14 : decode prog_1_method_34_code 14 = .ok (.if_icmp .eq 14, 3) := by decide +kernel
theorem d_Log_requireChangeable_17 : decode prog_1_method_34_code 17 = .ok (.new 182, 3) := by decide +kernel
theorem d_Log_requireChangeable_20 : decode prog_1_method_34_code 20 = .ok (.dup, 1) := by decide +kernel
theorem d_Log_requireChangeable_21 : decode prog_1_method_34_code 21 = .ok (.ldc_w 264, 3) := by decide +kernel
theorem d_Log_requireChangeable_24 : decode prog_1_method_34_code 24 = .ok (.invokespecial 186, 3) := by decide +kernel
theorem d_Log_requireChangeable_27 : decode prog_1_method_34_code 27 = .ok (.athrow, 1) := by decide +kernel
theorem d_Log_requireChangeable_28 : decode prog_1_method_34_code 28 = .ok (.aload_n 0, 1) := by decide +kernel
theorem d_Log_requireChangeable_29 : decode prog_1_method_34_code 29 = .ok (.aload_n 2, 1) := by decide +kernel
theorem d_Log_requireChangeable_30 : decode prog_1_method_34_code 30 = .ok (.invokevirtual 266, 3) := by decide +kernel
theorem d_Log_requireChangeable_33 : decode prog_1_method_34_code 33 = .ok (.aload_n 2, 1) := by decide +kernel
theorem d_Log_requireChangeable_34 : decode prog_1_method_34_code 34 = .ok (.arraylength, 1) := by decide +kernel
theorem d_Log_requireChangeable_35 : decode prog_1_method_34_code 35 = .ok (.if_icmp .ge 14, 3) := by decide +kernel
theorem d_Log_requireChangeable_38 : decode prog_1_method_34_code 38 = .ok (.new 182, 3) := by decide +kernel
theorem d_Log_requireChangeable_41 : decode prog_1_method_34_code 41 = .ok (.dup, 1) := by decide +kernel
theorem d_Log_requireChangeable_42 : decode prog_1_method_34_code 42 = .ok (.ldc_w 269, 3) := by decide +kernel
theorem d_Log_requireChangeable_45 : decode prog_1_method_34_code 45 = .ok (.invokespecial 186, 3) := by decide +kernel
theorem d_Log_requireChangeable_48 : decode prog_1_method_34_code 48 = .ok (.athrow, 1) := by decide +kernel
theorem d_Log_requireChangeable_49 : decode prog_1_method_34_code 49 = .ok (.iconst 0, 1) := by decide +kernel
theorem d_Log_requireChangeable_50 : decode prog_1_method_34_code 50 = .ok (.istore_n 3, 1) := by decide +kernel
theorem d_Log_requireChangeable_51 : decode prog_1_method_34_code 51 = .ok (.iload_n 3, 1) := by decide +kernel
theorem d_Log_requireChangeable_52 : decode prog_1_method_34_code 52 = .ok (.iconst 2, 1) := by decide +kernel
theorem d_Log_requireChangeable_53 : decode prog_1_method_34_code 53 = .ok (.if_icmp .ge 35, 3) := by decide +kernel
theorem d_Log_requireChangeable_56 : decode prog_1_method_34_code 56 = .ok (.aload_n 0, 1) := by decide +kernel
theorem d_Log_requireChangeable_57 : decode prog_1_method_34_code 57 = .ok (.aload_n 0, 1) := by decide +kernel
theorem d_Log_requireChangeable_58 : decode prog_1_method_34_code 58 = .ok (.getfield 55, 3) := by decide +kernel
theorem d_Log_requireChangeable_61 : decode prog_1_method_34_code 61 = .ok (.iload_n 3, 1) := by decide +kernel
theorem d_Log_requireChangeable_62 : decode prog_1_method_34_code 62 = .ok (.invokevirtual 138, 3) := by decide +kernel
theorem d_Log_requireChangeable_65 : decode prog_1_method_34_code 65 = .ok (.invokevirtual 266, 3) := by decide +kernel
theorem d_Log_requireChangeable_68 : decode prog_1_method_34_code 68 = .ok (.ifCond .ne 14, 3) := by decide +kernel
theorem d_Log_requireChangeable_71 : decode prog_1_method_34_code 71 = .ok (.new 182, 3) := by decide +kernel
theorem d_Log_requireChangeable_74 : decode prog_1_method_34_code 74 = .ok (.dup, 1) := by decide +kernel
theorem d_Log_requireChangeable_75 : decode prog_1_method_34_code 75 = .ok (.ldc_w 271, 3) := by decide +kernel
theorem d_Log_requireChangeable_78 : decode prog_1_method_34_code 78 = .ok (.invokespecial 186, 3) := by decide +kernel
theorem d_Log_requireChangeable_81 : decode prog_1_method_34_code 81 = .ok (.athrow, 1) := by decide +kernel
theorem d_Log_requireChangeable_82 : decode prog_1_method_34_code 82 = .ok (.iinc 3 1, 3) := by decide +kernel
theorem d_Log_requireChangeable_85 : decode prog_1_method_34_code 85 = .ok (.goto (-34), 3) := by decide +kernel
theorem d_Log_requireChangeable_88 : decode prog_1_method_34_code 88 = .ok (.return_, 1) := by decide +kernel
theorem d_Log_upCount_0 : decode prog_1_method_35_code 0 = .ok (.iconst 0, 1) := by decide +kernel
theorem d_Log_upCount_1 : decode prog_1_method_35_code 1 = .ok (.istore_n 2, 1) := by decide +kernel
theorem d_Log_upCount_2 : decode prog_1_method_35_code 2 = .ok (.iconst 0, 1) := by decide +kernel
theorem d_Log_upCount_3 : decode prog_1_method_35_code 3 = .ok (.istore_n 3, 1) := by decide +kernel
theorem d_Log_upCount_4 : decode prog_1_method_35_code 4 = .ok (.iload_n 3, 1) := by decide +kernel
theorem d_Log_upCount_5 : decode prog_1_method_35_code 5 = .ok (.aload_n 1, 1) := by decide +kernel
theorem d_Log_upCount_6 : decode prog_1_method_35_code 6 = .ok (.arraylength, 1) := by decide +kernel
theorem d_Log_upCount_7 : decode prog_1_method_35_code 7 = .ok (.if_icmp .ge 26, 3) := by decide +kernel
theorem d_Log_upCount_10 : decode prog_1_method_35_code 10 = .ok (.aload_n 0, 1) := by decide +kernel
theorem d_Log_upCount_11 : decode prog_1_method_35_code 11 = .ok (.getfield 11, 3) := by decide +kernel
theorem d_Log_upCount_14 : decode prog_1_method_35_code 14 = .ok (.aload_n 1, 1) := by decide +kernel
theorem d_Log_upCount_15 : decode prog_1_method_35_code 15 = .ok (.iload_n 3, 1) := by decide +kernel
theorem d_Log_upCount_16 : decode prog_1_method_35_code 16 = .ok (.iaload, 1) := by decide +kernel
theorem d_Log_upCount_17 : decode prog_1_method_35_code 17 = .ok (.aaload, 1) := by decide +kernel
theorem d_Log_upCount_18 : decode prog_1_method_35_code 18 = .ok (.getfield 154, 3) := by decide +kernel
theorem d_Log_upCount_21 : decode prog_1_method_35_code 21 = .ok (.ifCond .eq 6, 3) := by decide +kernel
theorem d_Log_upCount_24 : decode prog_1_method_35_code 24 = .ok (.iinc 2 1, 3) := by decide +kernel
theorem d_Log_upCount_27 : decode prog_1_method_35_code 27 = .ok (.iinc 3 1, 3) := by decide +kernel
theorem d_Log_upCount_30 : decode prog_1_method_35_code 30 = .ok (.goto (-26), 3) := by decide +kernel
theorem d_Log_upCount_33 : decode prog_1_method_35_code 33 = .ok (.iload_n 2, 1) := by decide +kernel
theorem d_Log_upCount_34 : decode prog_1_method_35_code 34 = .ok (.ireturn, 1) := by decide +kernel
theorem d_Log_sealAll_0 : decode prog_1_method_36_code 0 = .ok (.iconst 0, 1) := by decide +kernel
theorem d_Log_sealAll_1 : decode prog_1_method_36_code 1 = .ok (.istore 4, 2) := by decide +kernel
theorem d_Log_sealAll_3 : decode prog_1_method_36_code 3 = .ok (.iload 4, 2) := by decide +kernel
theorem d_Log_sealAll_5 : decode prog_1_method_36_code 5 = .ok (.iconst 2, 1) := by decide +kernel
theorem d_Log_sealAll_6 : decode prog_1_method_36_code 6 = .ok (.if_icmp .ge 20, 3) := by decide +kernel
theorem d_Log_sealAll_9 : decode prog_1_method_36_code 9 = .ok (.aload_n 0, 1) := by decide +kernel
theorem d_Log_sealAll_10 : decode prog_1_method_36_code 10 = .ok (.aload_n 1, 1) := by decide +kernel
theorem d_Log_sealAll_11 : decode prog_1_method_36_code 11 = .ok (.iload 4, 2) := by decide +kernel
theorem d_Log_sealAll_13 : decode prog_1_method_36_code 13 = .ok (.invokevirtual 138, 3) := by decide +kernel
theorem d_Log_sealAll_16 : decode prog_1_method_36_code 16 = .ok (.iload_n 3, 1) := by decide +kernel
theorem d_Log_sealAll_17 : decode prog_1_method_36_code 17 = .ok (.invokevirtual 273, 3) := by decide +kernel
theorem d_Log_sealAll_20 : decode prog_1_method_36_code 20 = .ok (.iinc 4 1, 3) := by decide +kernel
theorem d_Log_sealAll_23 : decode prog_1_method_36_code 23 = .ok (.goto (-20), 3) := by decide +kernel
theorem d_Log_sealAll_26 : decode prog_1_method_36_code 26 = .ok (.aload_n 0, 1) := by decide +kernel
theorem d_Log_sealAll_27 : decode prog_1_method_36_code 27 = .ok (.aload_n 2, 1) := by decide +kernel
theorem d_Log_sealAll_28 : decode prog_1_method_36_code 28 = .ok (.iload_n 3, 1) := by decide +kernel
theorem d_Log_sealAll_29 : decode prog_1_method_36_code 29 = .ok (.invokevirtual 273, 3) := by decide +kernel
theorem d_Log_sealAll_32 : decode prog_1_method_36_code 32 = .ok (.return_, 1) := by decide +kernel
theorem d_Log_sealRow_0 : decode prog_1_method_37_code 0 = .ok (.iconst 0, 1) := by decide +kernel
theorem d_Log_sealRow_1 : decode prog_1_method_37_code 1 = .ok (.istore_n 3, 1) := by decide +kernel
theorem d_Log_sealRow_2 : decode prog_1_method_37_code 2 = .ok (.iload_n 3, 1) := by decide +kernel
theorem d_Log_sealRow_3 : decode prog_1_method_37_code 3 = .ok (.aload_n 1, 1) := by decide +kernel
theorem d_Log_sealRow_4 : decode prog_1_method_37_code 4 = .ok (.arraylength, 1) := by decide +kernel
theorem d_Log_sealRow_5 : decode prog_1_method_37_code 5 = .ok (.if_icmp .ge 33, 3) := by decide +kernel
theorem d_Log_sealRow_8 : decode prog_1_method_37_code 8 = .ok (.aload_n 0, 1) := by decide +kernel
theorem d_Log_sealRow_9 : decode prog_1_method_37_code 9 = .ok (.getfield 11, 3) := by decide +kernel
theorem d_Log_sealRow_12 : decode prog_1_method_37_code 12 = .ok (.aload_n 1, 1) := by decide +kernel
theorem d_Log_sealRow_13 : decode prog_1_method_37_code 13 = .ok (.iload_n 3, 1) := by decide +kernel
theorem d_Log_sealRow_14 : decode prog_1_method_37_code 14 = .ok (.iaload, 1) := by decide +kernel
theorem d_Log_sealRow_15 : decode prog_1_method_37_code 15 = .ok (.aaload, 1) := by decide +kernel
theorem d_Log_sealRow_16 : decode prog_1_method_37_code 16 = .ok (.astore 4, 2) := by decide +kernel
theorem d_Log_sealRow_18 : decode prog_1_method_37_code 18 = .ok (.aload 4, 2) := by decide +kernel
theorem d_Log_sealRow_20 : decode prog_1_method_37_code 20 = .ok (.getfield 154, 3) := by decide +kernel
theorem d_Log_sealRow_23 : decode prog_1_method_37_code 23 = .ok (.ifCond .eq 9, 3) := by decide +kernel
theorem d_Log_sealRow_26 : decode prog_1_method_37_code 26 = .ok (.aload 4, 2) := by decide +kernel
theorem d_Log_sealRow_28 : decode prog_1_method_37_code 28 = .ok (.iload_n 2, 1) := by decide +kernel
theorem d_Log_sealRow_29 : decode prog_1_method_37_code 29 = .ok (.putfield 158, 3) := by decide +kernel
theorem d_Log_sealRow_32 : decode prog_1_method_37_code 32 = .ok (.iinc 3 1, 3) := by decide +kernel
theorem d_Log_sealRow_35 : decode prog_1_method_37_code 35 = .ok (.goto (-33), 3) := by decide +kernel
theorem d_Log_sealRow_38 : decode prog_1_method_37_code 38 = .ok (.return_, 1) := by decide +kernel
theorem d_Log_merge_0 : decode prog_1_method_38_code 0 = .ok (.iload_n 3, 1) := by decide +kernel
theorem d_Log_merge_1 : decode prog_1_method_38_code 1 = .ok (.istore 4, 2) := by decide +kernel
theorem d_Log_merge_3 : decode prog_1_method_38_code 3 = .ok (.iload 4, 2) := by decide +kernel
theorem d_Log_merge_5 : decode prog_1_method_38_code 5 = .ok (.bipush 60, 2) := by decide +kernel
theorem d_Log_merge_7 : decode prog_1_method_38_code 7 = .ok (.if_icmp .ge 51, 3) := by decide +kernel
theorem d_Log_merge_10 : decode prog_1_method_38_code 10 = .ok (.aload_n 0, 1) := by decide +kernel
theorem d_Log_merge_11 : decode prog_1_method_38_code 11 = .ok (.aload_n 1, 1) := by decide +kernel
theorem d_Log_merge_12 : decode prog_1_method_38_code 12 = .ok (.iload 4, 2) := by decide +kernel
theorem d_Log_merge_14 : decode prog_1_method_38_code 14 = .ok (.invokevirtual 277, 3) := by decide +kernel
theorem d_Log_merge_17 : decode prog_1_method_38_code 17 = .ok (.astore 5, 2) := by decide +kernel
theorem d_Log_merge_19 : decode prog_1_method_38_code 19 = .ok (.iconst 0, 1) := by decide +kernel
theorem d_Log_merge_20 : decode prog_1_method_38_code 20 = .ok (.istore 6, 2) := by decide +kernel
theorem d_Log_merge_22 : decode prog_1_method_38_code 22 = .ok (.iload 6, 2) := by decide +kernel
theorem d_Log_merge_24 : decode prog_1_method_38_code 24 = .ok (.aload_n 2, 1) := by decide +kernel
theorem d_Log_merge_25 : decode prog_1_method_38_code 25 = .ok (.arraylength, 1) := by decide +kernel
theorem d_Log_merge_26 : decode prog_1_method_38_code 26 = .ok (.if_icmp .ge 26, 3) := by decide +kernel
theorem d_Log_merge_29 : decode prog_1_method_38_code 29 = .ok (.aload_n 0, 1) := by decide +kernel
theorem d_Log_merge_30 : decode prog_1_method_38_code 30 = .ok (.getfield 11, 3) := by decide +kernel
theorem d_Log_merge_33 : decode prog_1_method_38_code 33 = .ok (.aload_n 2, 1) := by decide +kernel
theorem d_Log_merge_34 : decode prog_1_method_38_code 34 = .ok (.iload 6, 2) := by decide +kernel
theorem d_Log_merge_36 : decode prog_1_method_38_code 36 = .ok (.iaload, 1) := by decide +kernel
theorem d_Log_merge_37 : decode prog_1_method_38_code 37 = .ok (.aaload, 1) := by decide +kernel
theorem d_Log_merge_38 : decode prog_1_method_38_code 38 = .ok (.getfield 111, 3) := by decide +kernel
theorem d_Log_merge_41 : decode prog_1_method_38_code 41 = .ok (.iload 4, 2) := by decide +kernel
theorem d_Log_merge_43 : decode prog_1_method_38_code 43 = .ok (.aload 5, 2) := by decide +kernel
theorem d_Log_merge_45 : decode prog_1_method_38_code 45 = .ok (.aastore, 1) := by decide +kernel
theorem d_Log_merge_46 : decode prog_1_method_38_code 46 = .ok (.iinc 6 1, 3) := by decide +kernel
theorem d_Log_merge_49 : decode prog_1_method_38_code 49 = .ok (.goto (-27), 3) := by decide +kernel
theorem d_Log_merge_52 : decode prog_1_method_38_code 52 = .ok (.iinc 4 2, 3) := by decide +kernel
theorem d_Log_merge_55 : decode prog_1_method_38_code 55 = .ok (.goto (-52), 3) := by decide +kernel
theorem d_Log_merge_58 : decode prog_1_method_38_code 58 = .ok (.return_, 1) := by decide +kernel
theorem d_Log_firstHeld_0 : decode prog_1_method_39_code 0 = .ok (.iconst 0, 1) := by decide +kernel
theorem d_Log_firstHeld_1 : decode prog_1_method_39_code 1 = .ok (.istore_n 3, 1) := by decide +kernel
theorem d_Log_firstHeld_2 : decode prog_1_method_39_code 2 = .ok (.iload_n 3, 1) := by decide +kernel
theorem d_Log_firstHeld_3 : decode prog_1_method_39_code 3 = .ok (.aload_n 1, 1) := by decide +kernel
theorem d_Log_firstHeld_4 : decode prog_1_method_39_code 4 = .ok (.arraylength, 1) := by decide +kernel
theorem d_Log_firstHeld_5 : decode prog_1_method_39_code 5 = .ok (.if_icmp .ge 44, 3) := by decide +kernel
theorem d_Log_firstHeld_8 : decode prog_1_method_39_code 8 = .ok (.aload_n 0, 1) := by decide +kernel
theorem d_Log_firstHeld_9 : decode prog_1_method_39_code 9 = .ok (.getfield 11, 3) := by decide +kernel
theorem d_Log_firstHeld_12 : decode prog_1_method_39_code 12 = .ok (.aload_n 1, 1) := by decide +kernel
theorem d_Log_firstHeld_13 : decode prog_1_method_39_code 13 = .ok (.iload_n 3, 1) := by decide +kernel
theorem d_Log_firstHeld_14 : decode prog_1_method_39_code 14 = .ok (.iaload, 1) := by decide +kernel
theorem d_Log_firstHeld_15 : decode prog_1_method_39_code 15 = .ok (.aaload, 1) := by decide +kernel
theorem d_Log_firstHeld_16 : decode prog_1_method_39_code 16 = .ok (.astore 4, 2) := by decide +kernel
theorem d_Log_firstHeld_18 : decode prog_1_method_39_code 18 = .ok (.aload 4, 2) := by decide +kernel
theorem d_Log_firstHeld_20 : decode prog_1_method_39_code 20 = .ok (.getfield 154, 3) := by decide +kernel
theorem d_Log_firstHeld_23 : decode prog_1_method_39_code 23 = .ok (.ifCond .eq 20, 3) := by decide +kernel
theorem d_Log_firstHeld_26 : decode prog_1_method_39_code 26 = .ok (.aload 4, 2) := by decide +kernel
theorem d_Log_firstHeld_28 : decode prog_1_method_39_code 28 = .ok (.iload_n 2, 1) := by decide +kernel
theorem d_Log_firstHeld_29 : decode prog_1_method_39_code 29 = .ok (.invokevirtual 107, 3) := by decide +kernel
theorem d_Log_firstHeld_32 : decode prog_1_method_39_code 32 = .ok (.ifCond .eq 11, 3) := by decide +kernel
theorem d_Log_firstHeld_35 : decode prog_1_method_39_code 35 = .ok (.aload 4, 2) := by decide +kernel
theorem d_Log_firstHeld_37 : decode prog_1_method_39_code 37 = .ok (.getfield 111, 3) := by decide +kernel
theorem d_Log_firstHeld_40 : decode prog_1_method_39_code 40 = .ok (.iload_n 2, 1) := by decide +kernel
theorem d_Log_firstHeld_41 : decode prog_1_method_39_code 41 = .ok (.aaload, 1) := by decide +kernel
theorem d_Log_firstHeld_42 : decode prog_1_method_39_code 42 = .ok (.areturn, 1) := by decide +kernel
theorem d_Log_firstHeld_43 : decode prog_1_method_39_code 43 = .ok (.iinc 3 1, 3) := by decide +kernel
theorem d_Log_firstHeld_46 : decode prog_1_method_39_code 46 = .ok (.goto (-44), 3) := by decide +kernel
theorem d_Log_firstHeld_49 : decode prog_1_method_39_code 49 = .ok (.aload_n 0, 1) := by decide +kernel
theorem d_Log_firstHeld_50 : decode prog_1_method_39_code 50 = .ok (.getfield 36, 3) := by decide +kernel
theorem d_Log_firstHeld_53 : decode prog_1_method_39_code 53 = .ok (.areturn, 1) := by decide +kernel
theorem d_Log_firstFreeOffset_0 : decode prog_1_method_40_code 0 = .ok (.bipush 59, 2) := by decide +kernel
theorem d_Log_firstFreeOffset_2 : decode prog_1_method_40_code 2 = .ok (.istore_n 1, 1) := by decide +kernel
theorem d_Log_firstFreeOffset_3 : decode prog_1_method_40_code 3 = .ok (.iload_n 1, 1) := by decide +kernel
theorem d_Log_firstFreeOffset_4 : decode prog_1_method_40_code 4 = .ok (.ifCond .lt 32, 3) := by decide +kernel
theorem d_Log_firstFreeOffset_7 : decode prog_1_method_40_code 7 = .ok (.aload_n 0, 1) := by decide +kernel
theorem d_Log_firstFreeOffset_8 : decode prog_1_method_40_code 8 = .ok (.aload_n 0, 1) := by decide +kernel
theorem d_Log_firstFreeOffset_9 : decode prog_1_method_40_code 9 = .ok (.getfield 55, 3) := by decide +kernel
theorem d_Log_firstFreeOffset_12 : decode prog_1_method_40_code 12 = .ok (.iload_n 1, 1) := by decide +kernel
theorem d_Log_firstFreeOffset_13 : decode prog_1_method_40_code 13 = .ok (.invokevirtual 83, 3) := by decide +kernel
theorem d_Log_firstFreeOffset_16 : decode prog_1_method_40_code 16 = .ok (.iload_n 1, 1) := by decide +kernel
theorem d_Log_firstFreeOffset_17 : decode prog_1_method_40_code 17 = .ok (.invokevirtual 277, 3) := by decide +kernel
theorem d_Log_firstFreeOffset_20 : decode prog_1_method_40_code 20 = .ok (.getfield 90, 3) := by decide +kernel
theorem d_Log_firstFreeOffset_23 : decode prog_1_method_40_code 23 = .ok (.ifCond .eq 7, 3) := by decide +kernel
theorem d_Log_firstFreeOffset_26 : decode prog_1_method_40_code 26 = .ok (.iload_n 1, 1) := by decide +kernel
theorem d_Log_firstFreeOffset_27 : decode prog_1_method_40_code 27 = .ok (.iconst 1, 1) := by decide +kernel
theorem d_Log_firstFreeOffset_28 : decode prog_1_method_40_code 28 = .ok (.iadd, 1) := by decide +kernel
theorem d_Log_firstFreeOffset_29 : decode prog_1_method_40_code 29 = .ok (.ireturn, 1) := by decide +kernel
theorem d_Log_firstFreeOffset_30 : decode prog_1_method_40_code 30 = .ok (.iinc 1 (-1), 3) := by decide +kernel
theorem d_Log_firstFreeOffset_33 : decode prog_1_method_40_code 33 = .ok (.goto (-30), 3) := by decide +kernel
theorem d_Log_firstFreeOffset_36 : decode prog_1_method_40_code 36 = .ok (.iconst 0, 1) := by decide +kernel
theorem d_Log_firstFreeOffset_37 : decode prog_1_method_40_code 37 = .ok (.ireturn, 1) := by decide +kernel
