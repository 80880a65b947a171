theorem d_Law_append_0 : decode method_3_code 0 = .ok (.aload 5, 2) := by decide +kernel
theorem d_Law_append_2 : decode method_3_code 2 = .ok (.iconst 0, 1) := by decide +kernel
theorem d_Law_append_3 : decode method_3_code 3 = .ok (.aload_n 0, 1) := by decide +kernel
theorem d_Law_append_4 : decode method_3_code 4 = .ok (.iload_n 1, 1) := by decide +kernel
theorem d_Law_append_5 : decode method_3_code 5 = .ok (.iload_n 2, 1) := by decide +kernel
theorem d_Law_append_6 : decode method_3_code 6 = .ok (.iload_n 3, 1) := by decide +kernel
theorem d_Law_append_7 : decode method_3_code 7 = .ok (.iload 4, 2) := by decide +kernel
theorem d_Law_append_9 : decode method_3_code 9 = .ok (.invokevirtual 7, 3) := by decide +kernel
theorem d_Law_append_12 : decode method_3_code 12 = .ok (.i2l, 1) := by decide +kernel
theorem d_Law_append_13 : decode method_3_code 13 = .ok (.lastore, 1) := by decide +kernel
theorem d_Law_append_14 : decode method_3_code 14 = .ok (.goto 19, 3) := by decide +kernel
theorem d_Law_append_17 : decode method_3_code 17 = .ok (.astore 6, 2) := by decide +kernel
theorem d_Law_append_19 : decode method_3_code 19 = .ok (.iconst 1, 1) := by decide +kernel
theorem d_Law_append_20 : decode method_3_code 20 = .ok (.ireturn, 1) := by decide +kernel
theorem d_Law_append_21 : decode method_3_code 21 = .ok (.astore 6, 2) := by decide +kernel
theorem d_Law_append_23 : decode method_3_code 23 = .ok (.iconst 2, 1) := by decide +kernel
theorem d_Law_append_24 : decode method_3_code 24 = .ok (.ireturn, 1) := by decide +kernel
theorem d_Law_append_25 : decode method_3_code 25 = .ok (.astore 6, 2) := by decide +kernel
theorem d_Law_append_27 : decode method_3_code 27 = .ok (.iconst 3, 1) := by decide +kernel
theorem d_Law_append_28 : decode method_3_code 28 = .ok (.ireturn, 1) := by decide +kernel
theorem d_Law_append_29 : decode method_3_code 29 = .ok (.astore 6, 2) := by decide +kernel
theorem d_Law_append_31 : decode method_3_code 31 = .ok (.iconst 4, 1) := by decide +kernel
theorem d_Law_append_32 : decode method_3_code 32 = .ok (.ireturn, 1) := by decide +kernel
theorem d_Law_append_33 : decode method_3_code 33 = .ok (.iconst 0, 1) := by decide +kernel
theorem d_Law_append_34 : decode method_3_code 34 = .ok (.ireturn, 1) := by decide +kernel
theorem d_Law_read_0 : decode method_4_code 0 = .ok (.aload_n 3, 1) := by decide +kernel
theorem d_Law_read_1 : decode method_4_code 1 = .ok (.iconst 0, 1) := by decide +kernel
theorem d_Law_read_2 : decode method_4_code 2 = .ok (.aload_n 0, 1) := by decide +kernel
theorem d_Law_read_3 : decode method_4_code 3 = .ok (.iload_n 1, 1) := by decide +kernel
theorem d_Law_read_4 : decode method_4_code 4 = .ok (.iload_n 2, 1) := by decide +kernel
theorem d_Law_read_5 : decode method_4_code 5 = .ok (.invokevirtual 21, 3) := by decide +kernel
theorem d_Law_read_8 : decode method_4_code 8 = .ok (.i2l, 1) := by decide +kernel
theorem d_Law_read_9 : decode method_4_code 9 = .ok (.lastore, 1) := by decide +kernel
theorem d_Law_read_10 : decode method_4_code 10 = .ok (.goto 23, 3) := by decide +kernel
theorem d_Law_read_13 : decode method_4_code 13 = .ok (.astore 4, 2) := by decide +kernel
theorem d_Law_read_15 : decode method_4_code 15 = .ok (.iconst 1, 1) := by decide +kernel
theorem d_Law_read_16 : decode method_4_code 16 = .ok (.ireturn, 1) := by decide +kernel
theorem d_Law_read_17 : decode method_4_code 17 = .ok (.astore 4, 2) := by decide +kernel
theorem d_Law_read_19 : decode method_4_code 19 = .ok (.iconst 2, 1) := by decide +kernel
theorem d_Law_read_20 : decode method_4_code 20 = .ok (.ireturn, 1) := by decide +kernel
theorem d_Law_read_21 : decode method_4_code 21 = .ok (.astore 4, 2) := by decide +kernel
theorem d_Law_read_23 : decode method_4_code 23 = .ok (.iconst 3, 1) := by decide +kernel
theorem d_Law_read_24 : decode method_4_code 24 = .ok (.ireturn, 1) := by decide +kernel
theorem d_Law_read_25 : decode method_4_code 25 = .ok (.astore 4, 2) := by decide +kernel
theorem d_Law_read_27 : decode method_4_code 27 = .ok (.iconst 4, 1) := by decide +kernel
theorem d_Law_read_28 : decode method_4_code 28 = .ok (.ireturn, 1) := by decide +kernel
theorem d_Law_read_29 : decode method_4_code 29 = .ok (.astore 4, 2) := by decide +kernel
theorem d_Law_read_31 : decode method_4_code 31 = .ok (.iconst 5, 1) := by decide +kernel
theorem d_Law_read_32 : decode method_4_code 32 = .ok (.ireturn, 1) := by decide +kernel
theorem d_Law_read_33 : decode method_4_code 33 = .ok (.iconst 0, 1) := by decide +kernel
theorem d_Law_read_34 : decode method_4_code 34 = .ok (.ireturn, 1) := by decide +kernel
theorem d_Law_fill_0 : decode method_5_code 0 = .ok (.aload_n 3, 1) := by decide +kernel
theorem d_Law_fill_1 : decode method_5_code 1 = .ok (.iconst 0, 1) := by decide +kernel
theorem d_Law_fill_2 : decode method_5_code 2 = .ok (.aload_n 0, 1) := by decide +kernel
theorem d_Law_fill_3 : decode method_5_code 3 = .ok (.iload_n 1, 1) := by decide +kernel
theorem d_Law_fill_4 : decode method_5_code 4 = .ok (.iload_n 2, 1) := by decide +kernel
theorem d_Law_fill_5 : decode method_5_code 5 = .ok (.invokevirtual 27, 3) := by decide +kernel
theorem d_Law_fill_8 : decode method_5_code 8 = .ok (.i2l, 1) := by decide +kernel
theorem d_Law_fill_9 : decode method_5_code 9 = .ok (.lastore, 1) := by decide +kernel
theorem d_Law_fill_10 : decode method_5_code 10 = .ok (.goto 11, 3) := by decide +kernel
theorem d_Law_fill_13 : decode method_5_code 13 = .ok (.astore 4, 2) := by decide +kernel
theorem d_Law_fill_15 : decode method_5_code 15 = .ok (.iconst 1, 1) := by decide +kernel
theorem d_Law_fill_16 : decode method_5_code 16 = .ok (.ireturn, 1) := by decide +kernel
theorem d_Law_fill_17 : decode method_5_code 17 = .ok (.astore 4, 2) := by decide +kernel
theorem d_Law_fill_19 : decode method_5_code 19 = .ok (.iconst 2, 1) := by decide +kernel
theorem d_Law_fill_20 : decode method_5_code 20 = .ok (.ireturn, 1) := by decide +kernel
theorem d_Law_fill_21 : decode method_5_code 21 = .ok (.iconst 0, 1) := by decide +kernel
theorem d_Law_fill_22 : decode method_5_code 22 = .ok (.ireturn, 1) := by decide +kernel
theorem d_Law_trim_0 : decode method_6_code 0 = .ok (.aload_n 3, 1) := by decide +kernel
theorem d_Law_trim_1 : decode method_6_code 1 = .ok (.iconst 0, 1) := by decide +kernel
theorem d_Law_trim_2 : decode method_6_code 2 = .ok (.aload_n 0, 1) := by decide +kernel
theorem d_Law_trim_3 : decode method_6_code 3 = .ok (.iload_n 1, 1) := by decide +kernel
theorem d_Law_trim_4 : decode method_6_code 4 = .ok (.iload_n 2, 1) := by decide +kernel
theorem d_Law_trim_5 : decode method_6_code 5 = .ok (.invokevirtual 30, 3) := by decide +kernel
theorem d_Law_trim_8 : decode method_6_code 8 = .ok (.i2l, 1) := by decide +kernel
theorem d_Law_trim_9 : decode method_6_code 9 = .ok (.lastore, 1) := by decide +kernel
theorem d_Law_trim_10 : decode method_6_code 10 = .ok (.goto 11, 3) := by decide +kernel
theorem d_Law_trim_13 : decode method_6_code 13 = .ok (.astore 4, 2) := by decide +kernel
theorem d_Law_trim_15 : decode method_6_code 15 = .ok (.iconst 1, 1) := by decide +kernel
theorem d_Law_trim_16 : decode method_6_code 16 = .ok (.ireturn, 1) := by decide +kernel
theorem d_Law_trim_17 : decode method_6_code 17 = .ok (.astore 4, 2) := by decide +kernel
theorem d_Law_trim_19 : decode method_6_code 19 = .ok (.iconst 2, 1) := by decide +kernel
theorem d_Law_trim_20 : decode method_6_code 20 = .ok (.ireturn, 1) := by decide +kernel
theorem d_Law_trim_21 : decode method_6_code 21 = .ok (.iconst 0, 1) := by decide +kernel
theorem d_Law_trim_22 : decode method_6_code 22 = .ok (.ireturn, 1) := by decide +kernel
theorem d_Law_learn_0 : decode method_7_code 0 = .ok (.aload_n 2, 1) := by decide +kernel
theorem d_Law_learn_1 : decode method_7_code 1 = .ok (.iconst 0, 1) := by decide +kernel
theorem d_Law_learn_2 : decode method_7_code 2 = .ok (.aload_n 0, 1) := by decide +kernel
theorem d_Law_learn_3 : decode method_7_code 3 = .ok (.iload_n 1, 1) := by decide +kernel
theorem d_Law_learn_4 : decode method_7_code 4 = .ok (.invokevirtual 33, 3) := by decide +kernel
theorem d_Law_learn_7 : decode method_7_code 7 = .ok (.i2l, 1) := by decide +kernel
theorem d_Law_learn_8 : decode method_7_code 8 = .ok (.lastore, 1) := by decide +kernel
theorem d_Law_learn_9 : decode method_7_code 9 = .ok (.goto 6, 3) := by decide +kernel
theorem d_Law_learn_12 : decode method_7_code 12 = .ok (.astore_n 3, 1) := by decide +kernel
theorem d_Law_learn_13 : decode method_7_code 13 = .ok (.iconst 1, 1) := by decide +kernel
theorem d_Law_learn_14 : decode method_7_code 14 = .ok (.ireturn, 1) := by decide +kernel
theorem d_Law_learn_15 : decode method_7_code 15 = .ok (.iconst 0, 1) := by decide +kernel
theorem d_Law_learn_16 : decode method_7_code 16 = .ok (.ireturn, 1) := by decide +kernel
theorem d_Law_change_0 : decode method_8_code 0 = .ok (.aload 4, 2) := by decide +kernel
theorem d_Law_change_2 : decode method_8_code 2 = .ok (.iconst 0, 1) := by decide +kernel
theorem d_Law_change_3 : decode method_8_code 3 = .ok (.aload_n 0, 1) := by decide +kernel
theorem d_Law_change_4 : decode method_8_code 4 = .ok (.iload_n 1, 1) := by decide +kernel
theorem d_Law_change_5 : decode method_8_code 5 = .ok (.iload_n 2, 1) := by decide +kernel
theorem d_Law_change_6 : decode method_8_code 6 = .ok (.iload_n 3, 1) := by decide +kernel
theorem d_Law_change_7 : decode method_8_code 7 = .ok (.invokevirtual 37, 3) := by decide +kernel
theorem d_Law_change_10 : decode method_8_code 10 = .ok (.i2l, 1) := by decide +kernel
theorem d_Law_change_11 : decode method_8_code 11 = .ok (.lastore, 1) := by decide +kernel
theorem d_Law_change_12 : decode method_8_code 12 = .ok (.goto 11, 3) := by decide +kernel
theorem d_Law_change_15 : decode method_8_code 15 = .ok (.astore 5, 2) := by decide +kernel
theorem d_Law_change_17 : decode method_8_code 17 = .ok (.iconst 1, 1) := by decide +kernel
theorem d_Law_change_18 : decode method_8_code 18 = .ok (.ireturn, 1) := by decide +kernel
theorem d_Law_change_19 : decode method_8_code 19 = .ok (.astore 5, 2) := by decide +kernel
theorem d_Law_change_21 : decode method_8_code 21 = .ok (.iconst 2, 1) := by decide +kernel
theorem d_Law_change_22 : decode method_8_code 22 = .ok (.ireturn, 1) := by decide +kernel
theorem d_Law_change_23 : decode method_8_code 23 = .ok (.iconst 0, 1) := by decide +kernel
theorem d_Law_change_24 : decode method_8_code 24 = .ok (.ireturn, 1) := by decide +kernel
theorem d_Law_up_0 : decode method_9_code 0 = .ok (.aload_n 3, 1) := by decide +kernel
theorem d_Law_up_1 : decode method_9_code 1 = .ok (.iconst 0, 1) := by decide +kernel
theorem d_Law_up_2 : decode method_9_code 2 = .ok (.aload_n 0, 1) := by decide +kernel
theorem d_Law_up_3 : decode method_9_code 3 = .ok (.iload_n 1, 1) := by decide +kernel
theorem d_Law_up_4 : decode method_9_code 4 = .ok (.iload_n 2, 1) := by decide +kernel
theorem d_Law_up_5 : decode method_9_code 5 = .ok (.invokevirtual 41, 3) := by decide +kernel
theorem d_Law_up_8 : decode method_9_code 8 = .ok (.i2l, 1) := by decide +kernel
theorem d_Law_up_9 : decode method_9_code 9 = .ok (.lastore, 1) := by decide +kernel
theorem d_Law_up_10 : decode method_9_code 10 = .ok (.goto 7, 3) := by decide +kernel
theorem d_Law_up_13 : decode method_9_code 13 = .ok (.astore 4, 2) := by decide +kernel
theorem d_Law_up_15 : decode method_9_code 15 = .ok (.iconst 1, 1) := by decide +kernel
theorem d_Law_up_16 : decode method_9_code 16 = .ok (.ireturn, 1) := by decide +kernel
theorem d_Law_up_17 : decode method_9_code 17 = .ok (.iconst 0, 1) := by decide +kernel
theorem d_Law_up_18 : decode method_9_code 18 = .ok (.ireturn, 1) := by decide +kernel
theorem d_Law_sync_0 : decode method_10_code 0 = .ok (.aload_n 2, 1) := by decide +kernel
theorem d_Law_sync_1 : decode method_10_code 1 = .ok (.iconst 0, 1) := by decide +kernel
theorem d_Law_sync_2 : decode method_10_code 2 = .ok (.aload_n 0, 1) := by decide +kernel
theorem d_Law_sync_3 : decode method_10_code 3 = .ok (.iload_n 1, 1) := by decide +kernel
theorem d_Law_sync_4 : decode method_10_code 4 = .ok (.invokevirtual 45, 3) := by decide +kernel
theorem d_Law_sync_7 : decode method_10_code 7 = .ok (.i2l, 1) := by decide +kernel
theorem d_Law_sync_8 : decode method_10_code 8 = .ok (.lastore, 1) := by decide +kernel
theorem d_Law_sync_9 : decode method_10_code 9 = .ok (.goto 15, 3) := by decide +kernel
theorem d_Law_sync_12 : decode method_10_code 12 = .ok (.astore_n 3, 1) := by decide +kernel
theorem d_Law_sync_13 : decode method_10_code 13 = .ok (.iconst 1, 1) := by decide +kernel
theorem d_Law_sync_14 : decode method_10_code 14 = .ok (.ireturn, 1) := by decide +kernel
theorem d_Law_sync_15 : decode method_10_code 15 = .ok (.astore_n 3, 1) := by decide +kernel
theorem d_Law_sync_16 : decode method_10_code 16 = .ok (.iconst 2, 1) := by decide +kernel
theorem d_Law_sync_17 : decode method_10_code 17 = .ok (.ireturn, 1) := by decide +kernel
theorem d_Law_sync_18 : decode method_10_code 18 = .ok (.astore_n 3, 1) := by decide +kernel
theorem d_Law_sync_19 : decode method_10_code 19 = .ok (.iconst 3, 1) := by decide +kernel
theorem d_Law_sync_20 : decode method_10_code 20 = .ok (.ireturn, 1) := by decide +kernel
theorem d_Law_sync_21 : decode method_10_code 21 = .ok (.astore_n 3, 1) := by decide +kernel
theorem d_Law_sync_22 : decode method_10_code 22 = .ok (.iconst 4, 1) := by decide +kernel
theorem d_Law_sync_23 : decode method_10_code 23 = .ok (.ireturn, 1) := by decide +kernel
theorem d_Law_sync_24 : decode method_10_code 24 = .ok (.iconst 0, 1) := by decide +kernel
theorem d_Law_sync_25 : decode method_10_code 25 = .ok (.ireturn, 1) := by decide +kernel
theorem d_Law_get_0 : decode method_11_code 0 = .ok (.aload_n 3, 1) := by decide +kernel
theorem d_Law_get_1 : decode method_11_code 1 = .ok (.iconst 0, 1) := by decide +kernel
theorem d_Law_get_2 : decode method_11_code 2 = .ok (.aload_n 0, 1) := by decide +kernel
theorem d_Law_get_3 : decode method_11_code 3 = .ok (.iload_n 1, 1) := by decide +kernel
theorem d_Law_get_4 : decode method_11_code 4 = .ok (.iload_n 2, 1) := by decide +kernel
theorem d_Law_get_5 : decode method_11_code 5 = .ok (.invokevirtual 48, 3) := by decide +kernel
theorem d_Law_get_8 : decode method_11_code 8 = .ok (.i2l, 1) := by decide +kernel
theorem d_Law_get_9 : decode method_11_code 9 = .ok (.lastore, 1) := by decide +kernel
theorem d_Law_get_10 : decode method_11_code 10 = .ok (.goto 7, 3) := by decide +kernel
theorem d_Law_get_13 : decode method_11_code 13 = .ok (.astore 4, 2) := by decide +kernel
theorem d_Law_get_15 : decode method_11_code 15 = .ok (.iconst 1, 1) := by decide +kernel
theorem d_Law_get_16 : decode method_11_code 16 = .ok (.ireturn, 1) := by decide +kernel
theorem d_Law_get_17 : decode method_11_code 17 = .ok (.iconst 0, 1) := by decide +kernel
theorem d_Law_get_18 : decode method_11_code 18 = .ok (.ireturn, 1) := by decide +kernel
theorem d_Law_begin_0 : decode method_12_code 0 = .ok (.aload_n 2, 1) := by decide +kernel
theorem d_Law_begin_1 : decode method_12_code 1 = .ok (.iconst 0, 1) := by decide +kernel
theorem d_Law_begin_2 : decode method_12_code 2 = .ok (.aload_n 0, 1) := by decide +kernel
theorem d_Law_begin_3 : decode method_12_code 3 = .ok (.iload_n 1, 1) := by decide +kernel
theorem d_Law_begin_4 : decode method_12_code 4 = .ok (.invokevirtual 51, 3) := by decide +kernel
theorem d_Law_begin_7 : decode method_12_code 7 = .ok (.i2l, 1) := by decide +kernel
theorem d_Law_begin_8 : decode method_12_code 8 = .ok (.lastore, 1) := by decide +kernel
theorem d_Law_begin_9 : decode method_12_code 9 = .ok (.goto 9, 3) := by decide +kernel
theorem d_Law_begin_12 : decode method_12_code 12 = .ok (.astore_n 3, 1) := by decide +kernel
theorem d_Law_begin_13 : decode method_12_code 13 = .ok (.iconst 1, 1) := by decide +kernel
theorem d_Law_begin_14 : decode method_12_code 14 = .ok (.ireturn, 1) := by decide +kernel
theorem d_Law_begin_15 : decode method_12_code 15 = .ok (.astore_n 3, 1) := by decide +kernel
theorem d_Law_begin_16 : decode method_12_code 16 = .ok (.iconst 2, 1) := by decide +kernel
theorem d_Law_begin_17 : decode method_12_code 17 = .ok (.ireturn, 1) := by decide +kernel
theorem d_Law_begin_18 : decode method_12_code 18 = .ok (.iconst 0, 1) := by decide +kernel
theorem d_Law_begin_19 : decode method_12_code 19 = .ok (.ireturn, 1) := by decide +kernel
theorem d_Law_see_0 : decode method_13_code 0 = .ok (.aload_n 3, 1) := by decide +kernel
theorem d_Law_see_1 : decode method_13_code 1 = .ok (.iconst 0, 1) := by decide +kernel
theorem d_Law_see_2 : decode method_13_code 2 = .ok (.aload_n 0, 1) := by decide +kernel
theorem d_Law_see_3 : decode method_13_code 3 = .ok (.iload_n 1, 1) := by decide +kernel
theorem d_Law_see_4 : decode method_13_code 4 = .ok (.iload_n 2, 1) := by decide +kernel
theorem d_Law_see_5 : decode method_13_code 5 = .ok (.invokevirtual 54, 3) := by decide +kernel
theorem d_Law_see_8 : decode method_13_code 8 = .ok (.i2l, 1) := by decide +kernel
theorem d_Law_see_9 : decode method_13_code 9 = .ok (.lastore, 1) := by decide +kernel
theorem d_Law_see_10 : decode method_13_code 10 = .ok (.goto 11, 3) := by decide +kernel
theorem d_Law_see_13 : decode method_13_code 13 = .ok (.astore 4, 2) := by decide +kernel
theorem d_Law_see_15 : decode method_13_code 15 = .ok (.iconst 1, 1) := by decide +kernel
theorem d_Law_see_16 : decode method_13_code 16 = .ok (.ireturn, 1) := by decide +kernel
theorem d_Law_see_17 : decode method_13_code 17 = .ok (.astore 4, 2) := by decide +kernel
theorem d_Law_see_19 : decode method_13_code 19 = .ok (.iconst 2, 1) := by decide +kernel
theorem d_Law_see_20 : decode method_13_code 20 = .ok (.ireturn, 1) := by decide +kernel
theorem d_Law_see_21 : decode method_13_code 21 = .ok (.iconst 0, 1) := by decide +kernel
theorem d_Law_see_22 : decode method_13_code 22 = .ok (.ireturn, 1) := by decide +kernel
theorem d_Law_put_0 : decode method_14_code 0 = .ok (.aload 4, 2) := by decide +kernel
theorem d_Law_put_2 : decode method_14_code 2 = .ok (.iconst 0, 1) := by decide +kernel
theorem d_Law_put_3 : decode method_14_code 3 = .ok (.aload_n 0, 1) := by decide +kernel
theorem d_Law_put_4 : decode method_14_code 4 = .ok (.iload_n 1, 1) := by decide +kernel
theorem d_Law_put_5 : decode method_14_code 5 = .ok (.iload_n 2, 1) := by decide +kernel
theorem d_Law_put_6 : decode method_14_code 6 = .ok (.iload_n 3, 1) := by decide +kernel
theorem d_Law_put_7 : decode method_14_code 7 = .ok (.invokevirtual 57, 3) := by decide +kernel
theorem d_Law_put_10 : decode method_14_code 10 = .ok (.i2l, 1) := by decide +kernel
theorem d_Law_put_11 : decode method_14_code 11 = .ok (.lastore, 1) := by decide +kernel
theorem d_Law_put_12 : decode method_14_code 12 = .ok (.goto 11, 3) := by decide +kernel
theorem d_Law_put_15 : decode method_14_code 15 = .ok (.astore 5, 2) := by decide +kernel
theorem d_Law_put_17 : decode method_14_code 17 = .ok (.iconst 1, 1) := by decide +kernel
theorem d_Law_put_18 : decode method_14_code 18 = .ok (.ireturn, 1) := by decide +kernel
theorem d_Law_put_19 : decode method_14_code 19 = .ok (.astore 5, 2) := by decide +kernel
theorem d_Law_put_21 : decode method_14_code 21 = .ok (.iconst 2, 1) := by decide +kernel
theorem d_Law_put_22 : decode method_14_code 22 = .ok (.ireturn, 1) := by decide +kernel
theorem d_Law_put_23 : decode method_14_code 23 = .ok (.iconst 0, 1) := by decide +kernel
theorem d_Law_put_24 : decode method_14_code 24 = .ok (.ireturn, 1) := by decide +kernel
theorem d_Law_commit_0 : decode method_15_code 0 = .ok (.aload_n 2, 1) := by decide +kernel
theorem d_Law_commit_1 : decode method_15_code 1 = .ok (.iconst 0, 1) := by decide +kernel
theorem d_Law_commit_2 : decode method_15_code 2 = .ok (.aload_n 0, 1) := by decide +kernel
theorem d_Law_commit_3 : decode method_15_code 3 = .ok (.iload_n 1, 1) := by decide +kernel
theorem d_Law_commit_4 : decode method_15_code 4 = .ok (.invokevirtual 60, 3) := by decide +kernel
theorem d_Law_commit_7 : decode method_15_code 7 = .ok (.ifCond .eq 7, 3) := by decide +kernel
theorem d_Law_commit_10 : decode method_15_code 10 = .ok (.lconst 1, 1) := by decide +kernel
theorem d_Law_commit_11 : decode method_15_code 11 = .ok (.goto 4, 3) := by decide +kernel
theorem d_Law_commit_14 : decode method_15_code 14 = .ok (.lconst 0, 1) := by decide +kernel
theorem d_Law_commit_15 : decode method_15_code 15 = .ok (.lastore, 1) := by decide +kernel
theorem d_Law_commit_16 : decode method_15_code 16 = .ok (.goto 18, 3) := by decide +kernel
theorem d_Law_commit_19 : decode method_15_code 19 = .ok (.astore_n 3, 1) := by decide +kernel
theorem d_Law_commit_20 : decode method_15_code 20 = .ok (.iconst 1, 1) := by decide +kernel
theorem d_Law_commit_21 : decode method_15_code 21 = .ok (.ireturn, 1) := by decide +kernel
theorem d_Law_commit_22 : decode method_15_code 22 = .ok (.astore_n 3, 1) := by decide +kernel
theorem d_Law_commit_23 : decode method_15_code 23 = .ok (.iconst 2, 1) := by decide +kernel
theorem d_Law_commit_24 : decode method_15_code 24 = .ok (.ireturn, 1) := by decide +kernel
theorem d_Law_commit_25 : decode method_15_code 25 = .ok (.astore_n 3, 1) := by decide +kernel
theorem d_Law_commit_26 : decode method_15_code 26 = .ok (.iconst 3, 1) := by decide +kernel
theorem d_Law_commit_27 : decode method_15_code 27 = .ok (.ireturn, 1) := by decide +kernel
theorem d_Law_commit_28 : decode method_15_code 28 = .ok (.astore_n 3, 1) := by decide +kernel
theorem d_Law_commit_29 : decode method_15_code 29 = .ok (.iconst 4, 1) := by decide +kernel
theorem d_Law_commit_30 : decode method_15_code 30 = .ok (.ireturn, 1) := by decide +kernel
theorem d_Law_commit_31 : decode method_15_code 31 = .ok (.astore_n 3, 1) := by decide +kernel
theorem d_Law_commit_32 : decode method_15_code 32 = .ok (.iconst 5, 1) := by decide +kernel
theorem d_Law_commit_33 : decode method_15_code 33 = .ok (.ireturn, 1) := by decide +kernel
theorem d_Law_commit_34 : decode method_15_code 34 = .ok (.iconst 0, 1) := by decide +kernel
theorem d_Law_commit_35 : decode method_15_code 35 = .ok (.ireturn, 1) := by decide +kernel
theorem d_Law_drop_0 : decode method_16_code 0 = .ok (.aload_n 2, 1) := by decide +kernel
theorem d_Law_drop_1 : decode method_16_code 1 = .ok (.iconst 0, 1) := by decide +kernel
theorem d_Law_drop_2 : decode method_16_code 2 = .ok (.aload_n 0, 1) := by decide +kernel
theorem d_Law_drop_3 : decode method_16_code 3 = .ok (.iload_n 1, 1) := by decide +kernel
theorem d_Law_drop_4 : decode method_16_code 4 = .ok (.invokevirtual 64, 3) := by decide +kernel
theorem d_Law_drop_7 : decode method_16_code 7 = .ok (.i2l, 1) := by decide +kernel
theorem d_Law_drop_8 : decode method_16_code 8 = .ok (.lastore, 1) := by decide +kernel
theorem d_Law_drop_9 : decode method_16_code 9 = .ok (.goto 6, 3) := by decide +kernel
theorem d_Law_drop_12 : decode method_16_code 12 = .ok (.astore_n 3, 1) := by decide +kernel
theorem d_Law_drop_13 : decode method_16_code 13 = .ok (.iconst 1, 1) := by decide +kernel
theorem d_Law_drop_14 : decode method_16_code 14 = .ok (.ireturn, 1) := by decide +kernel
theorem d_Law_drop_15 : decode method_16_code 15 = .ok (.iconst 0, 1) := by decide +kernel
theorem d_Law_drop_16 : decode method_16_code 16 = .ok (.ireturn, 1) := by decide +kernel
theorem d_Law_look_0 : decode method_17_code 0 = .ok (.aload_n 3, 1) := by decide +kernel
theorem d_Law_look_1 : decode method_17_code 1 = .ok (.iconst 0, 1) := by decide +kernel
theorem d_Law_look_2 : decode method_17_code 2 = .ok (.aload_n 0, 1) := by decide +kernel
theorem d_Law_look_3 : decode method_17_code 3 = .ok (.iload_n 1, 1) := by decide +kernel
theorem d_Law_look_4 : decode method_17_code 4 = .ok (.iload_n 2, 1) := by decide +kernel
theorem d_Law_look_5 : decode method_17_code 5 = .ok (.invokevirtual 67, 3) := by decide +kernel
theorem d_Law_look_8 : decode method_17_code 8 = .ok (.i2l, 1) := by decide +kernel
theorem d_Law_look_9 : decode method_17_code 9 = .ok (.lastore, 1) := by decide +kernel
theorem d_Law_look_10 : decode method_17_code 10 = .ok (.goto 7, 3) := by decide +kernel
theorem d_Law_look_13 : decode method_17_code 13 = .ok (.astore 4, 2) := by decide +kernel
theorem d_Law_look_15 : decode method_17_code 15 = .ok (.iconst 1, 1) := by decide +kernel
theorem d_Law_look_16 : decode method_17_code 16 = .ok (.ireturn, 1) := by decide +kernel
theorem d_Law_look_17 : decode method_17_code 17 = .ok (.iconst 0, 1) := by decide +kernel
theorem d_Law_look_18 : decode method_17_code 18 = .ok (.ireturn, 1) := by decide +kernel
theorem d_Law_client_0 : decode method_18_code 0 = .ok (.aload_n 3, 1) := by decide +kernel
theorem d_Law_client_1 : decode method_18_code 1 = .ok (.iconst 0, 1) := by decide +kernel
theorem d_Law_client_2 : decode method_18_code 2 = .ok (.aload_n 0, 1) := by decide +kernel
theorem d_Law_client_3 : decode method_18_code 3 = .ok (.iload_n 1, 1) := by decide +kernel
theorem d_Law_client_4 : decode method_18_code 4 = .ok (.iload_n 2, 1) := by decide +kernel
theorem d_Law_client_5 : decode method_18_code 5 = .ok (.invokevirtual 70, 3) := by decide +kernel
theorem d_Law_client_8 : decode method_18_code 8 = .ok (.i2l, 1) := by decide +kernel
theorem d_Law_client_9 : decode method_18_code 9 = .ok (.lastore, 1) := by decide +kernel
theorem d_Law_client_10 : decode method_18_code 10 = .ok (.goto 7, 3) := by decide +kernel
theorem d_Law_client_13 : decode method_18_code 13 = .ok (.astore 4, 2) := by decide +kernel
theorem d_Law_client_15 : decode method_18_code 15 = .ok (.iconst 1, 1) := by decide +kernel
theorem d_Law_client_16 : decode method_18_code 16 = .ok (.ireturn, 1) := by decide +kernel
theorem d_Law_client_17 : decode method_18_code 17 = .ok (.iconst 0, 1) := by decide +kernel
theorem d_Law_client_18 : decode method_18_code 18 = .ok (.ireturn, 1) := by decide +kernel
theorem d_Law_count_0 : decode method_19_code 0 = .ok (.aload_n 2, 1) := by decide +kernel
theorem d_Law_count_1 : decode method_19_code 1 = .ok (.iconst 0, 1) := by decide +kernel
theorem d_Law_count_2 : decode method_19_code 2 = .ok (.aload_n 0, 1) := by decide +kernel
theorem d_Law_count_3 : decode method_19_code 3 = .ok (.iload_n 1, 1) := by decide +kernel
theorem d_Law_count_4 : decode method_19_code 4 = .ok (.invokevirtual 73, 3) := by decide +kernel
theorem d_Law_count_7 : decode method_19_code 7 = .ok (.i2l, 1) := by decide +kernel
theorem d_Law_count_8 : decode method_19_code 8 = .ok (.lastore, 1) := by decide +kernel
theorem d_Law_count_9 : decode method_19_code 9 = .ok (.goto 6, 3) := by decide +kernel
theorem d_Law_count_12 : decode method_19_code 12 = .ok (.astore_n 3, 1) := by decide +kernel
theorem d_Law_count_13 : decode method_19_code 13 = .ok (.iconst 1, 1) := by decide +kernel
theorem d_Law_count_14 : decode method_19_code 14 = .ok (.ireturn, 1) := by decide +kernel
theorem d_Law_count_15 : decode method_19_code 15 = .ok (.iconst 0, 1) := by decide +kernel
theorem d_Law_count_16 : decode method_19_code 16 = .ok (.ireturn, 1) := by decide +kernel
theorem d_Law_law_0 : decode code 0 = .ok (.new 8, 3) := by decide +kernel
theorem d_Law_law_3 : decode code 3 = .ok (.dup, 1) := by decide +kernel
theorem d_Law_law_4 : decode code 4 = .ok (.invokespecial 76, 3) := by decide +kernel
theorem d_Law_law_7 : decode code 7 = .ok (.astore_n 1, 1) := by decide +kernel
theorem d_Law_law_8 : decode code 8 = .ok (.new 77, 3) := by decide +kernel
theorem d_Law_law_11 : decode code 11 = .ok (.dup, 1) := by decide +kernel
theorem d_Law_law_12 : decode code 12 = .ok (.invokespecial 79, 3) := by decide +kernel
theorem d_Law_law_15 : decode code 15 = .ok (.astore_n 2, 1) := by decide +kernel
theorem d_Law_law_16 : decode code 16 = .ok (.iconst 1, 1) := by decide +kernel
theorem d_Law_law_17 : decode code 17 = .ok (.newarray .long, 2) := by decide +kernel
theorem d_Law_law_19 : decode code 19 = .ok (.astore_n 3, 1) := by decide +kernel
theorem d_Law_law_20 : decode code 20 = .ok (.iconst 0, 1) := by decide +kernel
theorem d_Law_law_21 : decode code 21 = .ok (.istore 4, 2) := by decide +kernel
theorem d_Law_law_23 : decode code 23 = .ok (.iload 4, 2) := by decide +kernel
theorem d_Law_law_25 : decode code 25 = .ok (.aload_n 0, 1) := by decide +kernel
theorem d_Law_law_26 : decode code 26 = .ok (.arraylength, 1) := by decide +kernel
theorem d_Law_law_27 : decode code 27 = .ok (.iconst 5, 1) := by decide +kernel
theorem d_Law_law_28 : decode code 28 = .ok (.isub, 1) := by decide +kernel
theorem d_Law_law_29 : decode code 29 = .ok (.if_icmp .gt 1269, 3) := by decide +kernel
theorem d_Law_law_32 : decode code 32 = .ok (.aload_n 0, 1) := by decide +kernel
theorem d_Law_law_33 : decode code 33 = .ok (.iload 4, 2) := by decide +kernel
theorem d_Law_law_35 : decode code 35 = .ok (.iaload, 1) := by decide +kernel
theorem d_Law_law_36 : decode code 36 = .ok (.bipush 31, 2) := by decide +kernel
theorem d_Law_law_38 : decode code 38 = .ok (.iand, 1) := by decide +kernel
theorem d_Law_law_39 : decode code 39 = .ok (.tableswitch 1253 0 17 #[85, 177, 245, 313, 381, 437, 517, 601, 614, 670, 738, 794, 862, 942, 1005, 1061, 1129, 1197], 85) := by decide +kernel
theorem d_Law_law_124 : decode code 124 = .ok (.aload_n 1, 1) := by decide +kernel
theorem d_Law_law_125 : decode code 125 = .ok (.aload_n 0, 1) := by decide +kernel
theorem d_Law_law_126 : decode code 126 = .ok (.iload 4, 2) := by decide +kernel
theorem d_Law_law_128 : decode code 128 = .ok (.iconst 1, 1) := by decide +kernel
theorem d_Law_law_129 : decode code 129 = .ok (.iadd, 1) := by decide +kernel
theorem d_Law_law_130 : decode code 130 = .ok (.iaload, 1) := by decide +kernel
theorem d_Law_law_131 : decode code 131 = .ok (.aload_n 0, 1) := by decide +kernel
theorem d_Law_law_132 : decode code 132 = .ok (.iload 4, 2) := by decide +kernel
theorem d_Law_law_134 : decode code 134 = .ok (.iconst 2, 1) := by decide +kernel
theorem d_Law_law_135 : decode code 135 = .ok (.iadd, 1) := by decide +kernel
theorem d_Law_law_136 : decode code 136 = .ok (.iaload, 1) := by decide +kernel
theorem d_Law_law_137 : decode code 137 = .ok (.aload_n 0, 1) := by decide +kernel
theorem d_Law_law_138 : decode code 138 = .ok (.iload 4, 2) := by decide +kernel
theorem d_Law_law_140 : decode code 140 = .ok (.iconst 3, 1) := by decide +kernel
theorem d_Law_law_141 : decode code 141 = .ok (.iadd, 1) := by decide +kernel
theorem d_Law_law_142 : decode code 142 = .ok (.iaload, 1) := by decide +kernel
theorem d_Law_law_143 : decode code 143 = .ok (.aload_n 0, 1) := by decide +kernel
theorem d_Law_law_144 : decode code 144 = .ok (.iload 4, 2) := by decide +kernel
theorem d_Law_law_146 : decode code 146 = .ok (.iconst 4, 1) := by decide +kernel
theorem d_Law_law_147 : decode code 147 = .ok (.iadd, 1) := by decide +kernel
theorem d_Law_law_148 : decode code 148 = .ok (.iaload, 1) := by decide +kernel
theorem d_Law_law_149 : decode code 149 = .ok (.aload_n 3, 1) := by decide +kernel
theorem d_Law_law_150 : decode code 150 = .ok (.invokestatic 80, 3) := by decide +kernel
theorem d_Law_law_153 : decode code 153 = .ok (.istore 5, 2) := by decide +kernel
theorem d_Law_law_155 : decode code 155 = .ok (.aload_n 2, 1) := by decide +kernel
theorem d_Law_law_156 : decode code 156 = .ok (.aload_n 0, 1) := by decide +kernel
theorem d_Law_law_157 : decode code 157 = .ok (.iload 4, 2) := by decide +kernel
theorem d_Law_law_159 : decode code 159 = .ok (.iconst 1, 1) := by decide +kernel
theorem d_Law_law_160 : decode code 160 = .ok (.iadd, 1) := by decide +kernel
theorem d_Law_law_161 : decode code 161 = .ok (.iaload, 1) := by decide +kernel
theorem d_Law_law_162 : decode code 162 = .ok (.aload_n 0, 1) := by decide +kernel
theorem d_Law_law_163 : decode code 163 = .ok (.iload 4, 2) := by decide +kernel
theorem d_Law_law_165 : decode code 165 = .ok (.iconst 2, 1) := by decide +kernel
theorem d_Law_law_166 : decode code 166 = .ok (.iadd, 1) := by decide +kernel
theorem d_Law_law_167 : decode code 167 = .ok (.iaload, 1) := by decide +kernel
theorem d_Law_law_168 : decode code 168 = .ok (.aload_n 0, 1) := by decide +kernel
theorem d_Law_law_169 : decode code 169 = .ok (.iload 4, 2) := by decide +kernel
theorem d_Law_law_171 : decode code 171 = .ok (.iconst 3, 1) := by decide +kernel
theorem d_Law_law_172 : decode code 172 = .ok (.iadd, 1) := by decide +kernel
theorem d_Law_law_173 : decode code 173 = .ok (.iaload, 1) := by decide +kernel
theorem d_Law_law_174 : decode code 174 = .ok (.aload_n 0, 1) := by decide +kernel
theorem d_Law_law_175 : decode code 175 = .ok (.iload 4, 2) := by decide +kernel
theorem d_Law_law_177 : decode code 177 = .ok (.iconst 4, 1) := by decide +kernel
theorem d_Law_law_178 : decode code 178 = .ok (.iadd, 1) := by decide +kernel
theorem d_Law_law_179 : decode code 179 = .ok (.iaload, 1) := by decide +kernel
theorem d_Law_law_180 : decode code 180 = .ok (.invokevirtual 85, 3) := by decide +kernel
theorem d_Law_law_183 : decode code 183 = .ok (.istore 6, 2) := by decide +kernel
theorem d_Law_law_185 : decode code 185 = .ok (.aload_n 2, 1) := by decide +kernel
theorem d_Law_law_186 : decode code 186 = .ok (.invokevirtual 86, 3) := by decide +kernel
theorem d_Law_law_189 : decode code 189 = .ok (.iload 5, 2) := by decide +kernel
theorem d_Law_law_191 : decode code 191 = .ok (.if_icmp .eq 5, 3) := by decide +kernel
theorem d_Law_law_194 : decode code 194 = .ok (.iconst 0, 1) := by decide +kernel
theorem d_Law_law_195 : decode code 195 = .ok (.ireturn, 1) := by decide +kernel
theorem d_Law_law_196 : decode code 196 = .ok (.iload 5, 2) := by decide +kernel
theorem d_Law_law_198 : decode code 198 = .ok (.ifCond .ne 15, 3) := by decide +kernel
theorem d_Law_law_201 : decode code 201 = .ok (.aload_n 3, 1) := by decide +kernel
theorem d_Law_law_202 : decode code 202 = .ok (.iconst 0, 1) := by decide +kernel
theorem d_Law_law_203 : decode code 203 = .ok (.laload, 1) := by decide +kernel
theorem d_Law_law_204 : decode code 204 = .ok (.iload 6, 2) := by decide +kernel
theorem d_Law_law_206 : decode code 206 = .ok (.i2l, 1) := by decide +kernel
theorem d_Law_law_207 : decode code 207 = .ok (.lcmp, 1) := by decide +kernel
theorem d_Law_law_208 : decode code 208 = .ok (.ifCond .eq 5, 3) := by decide +kernel
theorem d_Law_law_211 : decode code 211 = .ok (.iconst 0, 1) := by decide +kernel
theorem d_Law_law_212 : decode code 212 = .ok (.ireturn, 1) := by decide +kernel
theorem d_Law_law_213 : decode code 213 = .ok (.goto 1079, 3) := by decide +kernel
theorem d_Law_law_216 : decode code 216 = .ok (.aload_n 1, 1) := by decide +kernel
theorem d_Law_law_217 : decode code 217 = .ok (.aload_n 0, 1) := by decide +kernel
theorem d_Law_law_218 : decode code 218 = .ok (.iload 4, 2) := by decide +kernel
theorem d_Law_law_220 : decode code 220 = .ok (.iconst 1, 1) := by decide +kernel
theorem d_Law_law_221 : decode code 221 = .ok (.iadd, 1) := by decide +kernel
theorem d_Law_law_222 : decode code 222 = .ok (.iaload, 1) := by decide +kernel
theorem d_Law_law_223 : decode code 223 = .ok (.aload_n 0, 1) := by decide +kernel
theorem d_Law_law_224 : decode code 224 = .ok (.iload 4, 2) := by decide +kernel
theorem d_Law_law_226 : decode code 226 = .ok (.iconst 2, 1) := by decide +kernel
theorem d_Law_law_227 : decode code 227 = .ok (.iadd, 1) := by decide +kernel
theorem d_Law_law_228 : decode code 228 = .ok (.iaload, 1) := by decide +kernel
theorem d_Law_law_229 : decode code 229 = .ok (.aload_n 3, 1) := by decide +kernel
theorem d_Law_law_230 : decode code 230 = .ok (.invokestatic 90, 3) := by decide +kernel
theorem d_Law_law_233 : decode code 233 = .ok (.istore 5, 2) := by decide +kernel
theorem d_Law_law_235 : decode code 235 = .ok (.aload_n 2, 1) := by decide +kernel
theorem d_Law_law_236 : decode code 236 = .ok (.aload_n 0, 1) := by decide +kernel
theorem d_Law_law_237 : decode code 237 = .ok (.iload 4, 2) := by decide +kernel
theorem d_Law_law_239 : decode code 239 = .ok (.iconst 1, 1) := by decide +kernel
theorem d_Law_law_240 : decode code 240 = .ok (.iadd, 1) := by decide +kernel
theorem d_Law_law_241 : decode code 241 = .ok (.iaload, 1) := by decide +kernel
theorem d_Law_law_242 : decode code 242 = .ok (.aload_n 0, 1) := by decide +kernel
theorem d_Law_law_243 : decode code 243 = .ok (.iload 4, 2) := by decide +kernel
theorem d_Law_law_245 : decode code 245 = .ok (.iconst 2, 1) := by decide +kernel
theorem d_Law_law_246 : decode code 246 = .ok (.iadd, 1) := by decide +kernel
theorem d_Law_law_247 : decode code 247 = .ok (.iaload, 1) := by decide +kernel
theorem d_Law_law_248 : decode code 248 = .ok (.invokevirtual 93, 3) := by decide +kernel
theorem d_Law_law_251 : decode code 251 = .ok (.istore 6, 2) := by decide +kernel
theorem d_Law_law_253 : decode code 253 = .ok (.aload_n 2, 1) := by decide +kernel
theorem d_Law_law_254 : decode code 254 = .ok (.invokevirtual 86, 3) := by decide +kernel
theorem d_Law_law_257 : decode code 257 = .ok (.iload 5, 2) := by decide +kernel
theorem d_Law_law_259 : decode code 259 = .ok (.if_icmp .eq 5, 3) := by decide +kernel
theorem d_Law_law_262 : decode code 262 = .ok (.iconst 0, 1) := by decide +kernel
theorem d_Law_law_263 : decode code 263 = .ok (.ireturn, 1) := by decide +kernel
theorem d_Law_law_264 : decode code 264 = .ok (.iload 5, 2) := by decide +kernel
theorem d_Law_law_266 : decode code 266 = .ok (.ifCond .ne 15, 3) := by decide +kernel
theorem d_Law_law_269 : decode code 269 = .ok (.aload_n 3, 1) := by decide +kernel
theorem d_Law_law_270 : decode code 270 = .ok (.iconst 0, 1) := by decide +kernel
theorem d_Law_law_271 : decode code 271 = .ok (.laload, 1) := by decide +kernel
theorem d_Law_law_272 : decode code 272 = .ok (.iload 6, 2) := by decide +kernel
theorem d_Law_law_274 : decode code 274 = .ok (.i2l, 1) := by decide +kernel
theorem d_Law_law_275 : decode code 275 = .ok (.lcmp, 1) := by decide +kernel
theorem d_Law_law_276 : decode code 276 = .ok (.ifCond .eq 5, 3) := by decide +kernel
theorem d_Law_law_279 : decode code 279 = .ok (.iconst 0, 1) := by decide +kernel
theorem d_Law_law_280 : decode code 280 = .ok (.ireturn, 1) := by decide +kernel
theorem d_Law_law_281 : decode code 281 = .ok (.goto 1011, 3) := by decide +kernel
theorem d_Law_law_284 : decode code 284 = .ok (.aload_n 1, 1) := by decide +kernel
theorem d_Law_law_285 : decode code 285 = .ok (.aload_n 0, 1) := by decide +kernel
theorem d_Law_law_286 : decode code 286 = .ok (.iload 4, 2) := by decide +kernel
theorem d_Law_law_288 : decode code 288 = .ok (.iconst 1, 1) := by decide +kernel
theorem d_Law_law_289 : decode code 289 = .ok (.iadd, 1) := by decide +kernel
theorem d_Law_law_290 : decode code 290 = .ok (.iaload, 1) := by decide +kernel
theorem d_Law_law_291 : decode code 291 = .ok (.aload_n 0, 1) := by decide +kernel
theorem d_Law_law_292 : decode code 292 = .ok (.iload 4, 2) := by decide +kernel
theorem d_Law_law_294 : decode code 294 = .ok (.iconst 2, 1) := by decide +kernel
theorem d_Law_law_295 : decode code 295 = .ok (.iadd, 1) := by decide +kernel
theorem d_Law_law_296 : decode code 296 = .ok (.iaload, 1) := by decide +kernel
theorem d_Law_law_297 : decode code 297 = .ok (.aload_n 3, 1) := by decide +kernel
theorem d_Law_law_298 : decode code 298 = .ok (.invokestatic 94, 3) := by decide +kernel
theorem d_Law_law_301 : decode code 301 = .ok (.istore 5, 2) := by decide +kernel
theorem d_Law_law_303 : decode code 303 = .ok (.aload_n 2, 1) := by decide +kernel
theorem d_Law_law_304 : decode code 304 = .ok (.aload_n 0, 1) := by decide +kernel
theorem d_Law_law_305 : decode code 305 = .ok (.iload 4, 2) := by decide +kernel
theorem d_Law_law_307 : decode code 307 = .ok (.iconst 1, 1) := by decide +kernel
theorem d_Law_law_308 : decode code 308 = .ok (.iadd, 1) := by decide +kernel
theorem d_Law_law_309 : decode code 309 = .ok (.iaload, 1) := by decide +kernel
theorem d_Law_law_310 : decode code 310 = .ok (.aload_n 0, 1) := by decide +kernel
theorem d_Law_law_311 : decode code 311 = .ok (.iload 4, 2) := by decide +kernel
theorem d_Law_law_313 : decode code 313 = .ok (.iconst 2, 1) := by decide +kernel
theorem d_Law_law_314 : decode code 314 = .ok (.iadd, 1) := by decide +kernel
theorem d_Law_law_315 : decode code 315 = .ok (.iaload, 1) := by decide +kernel
theorem d_Law_law_316 : decode code 316 = .ok (.invokevirtual 96, 3) := by decide +kernel
theorem d_Law_law_319 : decode code 319 = .ok (.istore 6, 2) := by decide +kernel
theorem d_Law_law_321 : decode code 321 = .ok (.aload_n 2, 1) := by decide +kernel
theorem d_Law_law_322 : decode code 322 = .ok (.invokevirtual 86, 3) := by decide +kernel
theorem d_Law_law_325 : decode code 325 = .ok (.iload 5, 2) := by decide +kernel
theorem d_Law_law_327 : decode code 327 = .ok (.if_icmp .eq 5, 3) := by decide +kernel
theorem d_Law_law_330 : decode code 330 = .ok (.iconst 0, 1) := by decide +kernel
theorem d_Law_law_331 : decode code 331 = .ok (.ireturn, 1) := by decide +kernel
theorem d_Law_law_332 : decode code 332 = .ok (.iload 5, 2) := by decide +kernel
theorem d_Law_law_334 : decode code 334 = .ok (.ifCond .ne 15, 3) := by decide +kernel
theorem d_Law_law_337 : decode code 337 = .ok (.aload_n 3, 1) := by decide +kernel
theorem d_Law_law_338 : decode code 338 = .ok (.iconst 0, 1) := by decide +kernel
theorem d_Law_law_339 : decode code 339 = .ok (.laload, 1) := by decide +kernel
theorem d_Law_law_340 : decode code 340 = .ok (.iload 6, 2) := by decide +kernel
theorem d_Law_law_342 : decode code 342 = .ok (.i2l, 1) := by decide +kernel
theorem d_Law_law_343 : decode code 343 = .ok (.lcmp, 1) := by decide +kernel
theorem d_Law_law_344 : decode code 344 = .ok (.ifCond .eq 5, 3) := by decide +kernel
theorem d_Law_law_347 : decode code 347 = .ok (.iconst 0, 1) := by decide +kernel
theorem d_Law_law_348 : decode code 348 = .ok (.ireturn, 1) := by decide +kernel
theorem d_Law_law_349 : decode code 349 = .ok (.goto 943, 3) := by decide +kernel
theorem d_Law_law_352 : decode code 352 = .ok (.aload_n 1, 1) := by decide +kernel
theorem d_Law_law_353 : decode code 353 = .ok (.aload_n 0, 1) := by decide +kernel
theorem d_Law_law_354 : decode code 354 = .ok (.iload 4, 2) := by decide +kernel
theorem d_Law_law_356 : decode code 356 = .ok (.iconst 1, 1) := by decide +kernel
theorem d_Law_law_357 : decode code 357 = .ok (.iadd, 1) := by decide +kernel
theorem d_Law_law_358 : decode code 358 = .ok (.iaload, 1) := by decide +kernel
theorem d_Law_law_359 : decode code 359 = .ok (.aload_n 0, 1) := by decide +kernel
theorem d_Law_law_360 : decode code 360 = .ok (.iload 4, 2) := by decide +kernel
theorem d_Law_law_362 : decode code 362 = .ok (.iconst 2, 1) := by decide +kernel
theorem d_Law_law_363 : decode code 363 = .ok (.iadd, 1) := by decide +kernel
theorem d_Law_law_364 : decode code 364 = .ok (.iaload, 1) := by decide +kernel
theorem d_Law_law_365 : decode code 365 = .ok (.aload_n 3, 1) := by decide +kernel
theorem d_Law_law_366 : decode code 366 = .ok (.invokestatic 97, 3) := by decide +kernel
theorem d_Law_law_369 : decode code 369 = .ok (.istore 5, 2) := by decide +kernel
theorem d_Law_law_371 : decode code 371 = .ok (.aload_n 2, 1) := by decide +kernel
theorem d_Law_law_372 : decode code 372 = .ok (.aload_n 0, 1) := by decide +kernel
theorem d_Law_law_373 : decode code 373 = .ok (.iload 4, 2) := by decide +kernel
theorem d_Law_law_375 : decode code 375 = .ok (.iconst 1, 1) := by decide +kernel
theorem d_Law_law_376 : decode code 376 = .ok (.iadd, 1) := by decide +kernel
theorem d_Law_law_377 : decode code 377 = .ok (.iaload, 1) := by decide +kernel
theorem d_Law_law_378 : decode code 378 = .ok (.aload_n 0, 1) := by decide +kernel
theorem d_Law_law_379 : decode code 379 = .ok (.iload 4, 2) := by decide +kernel
theorem d_Law_law_381 : decode code 381 = .ok (.iconst 2, 1) := by decide +kernel
theorem d_Law_law_382 : decode code 382 = .ok (.iadd, 1) := by decide +kernel
theorem d_Law_law_383 : decode code 383 = .ok (.iaload, 1) := by decide +kernel
theorem d_Law_law_384 : decode code 384 = .ok (.invokevirtual 99, 3) := by decide +kernel
theorem d_Law_law_387 : decode code 387 = .ok (.istore 6, 2) := by decide +kernel
theorem d_Law_law_389 : decode code 389 = .ok (.aload_n 2, 1) := by decide +kernel
theorem d_Law_law_390 : decode code 390 = .ok (.invokevirtual 86, 3) := by decide +kernel
theorem d_Law_law_393 : decode code 393 = .ok (.iload 5, 2) := by decide +kernel
theorem d_Law_law_395 : decode code 395 = .ok (.if_icmp .eq 5, 3) := by decide +kernel
theorem d_Law_law_398 : decode code 398 = .ok (.iconst 0, 1) := by decide +kernel
theorem d_Law_law_399 : decode code 399 = .ok (.ireturn, 1) := by decide +kernel
theorem d_Law_law_400 : decode code 400 = .ok (.iload 5, 2) := by decide +kernel
theorem d_Law_law_402 : decode code 402 = .ok (.ifCond .ne 15, 3) := by decide +kernel
theorem d_Law_law_405 : decode code 405 = .ok (.aload_n 3, 1) := by decide +kernel
theorem d_Law_law_406 : decode code 406 = .ok (.iconst 0, 1) := by decide +kernel
theorem d_Law_law_407 : decode code 407 = .ok (.laload, 1) := by decide +kernel
theorem d_Law_law_408 : decode code 408 = .ok (.iload 6, 2) := by decide +kernel
theorem d_Law_law_410 : decode code 410 = .ok (.i2l, 1) := by decide +kernel
theorem d_Law_law_411 : decode code 411 = .ok (.lcmp, 1) := by decide +kernel
theorem d_Law_law_412 : decode code 412 = .ok (.ifCond .eq 5, 3) := by decide +kernel
theorem d_Law_law_415 : decode code 415 = .ok (.iconst 0, 1) := by decide +kernel
theorem d_Law_law_416 : decode code 416 = .ok (.ireturn, 1) := by decide +kernel
theorem d_Law_law_417 : decode code 417 = .ok (.goto 875, 3) := by decide +kernel
theorem d_Law_law_420 : decode code 420 = .ok (.aload_n 1, 1) := by decide +kernel
theorem d_Law_law_421 : decode code 421 = .ok (.aload_n 0, 1) := by decide +kernel
theorem d_Law_law_422 : decode code 422 = .ok (.iload 4, 2) := by decide +kernel
theorem d_Law_law_424 : decode code 424 = .ok (.iconst 1, 1) := by decide +kernel
theorem d_Law_law_425 : decode code 425 = .ok (.iadd, 1) := by decide +kernel
theorem d_Law_law_426 : decode code 426 = .ok (.iaload, 1) := by decide +kernel
theorem d_Law_law_427 : decode code 427 = .ok (.aload_n 3, 1) := by decide +kernel
theorem d_Law_law_428 : decode code 428 = .ok (.invokestatic 100, 3) := by decide +kernel
theorem d_Law_law_431 : decode code 431 = .ok (.istore 5, 2) := by decide +kernel
theorem d_Law_law_433 : decode code 433 = .ok (.aload_n 2, 1) := by decide +kernel
theorem d_Law_law_434 : decode code 434 = .ok (.aload_n 0, 1) := by decide +kernel
theorem d_Law_law_435 : decode code 435 = .ok (.iload 4, 2) := by decide +kernel
theorem d_Law_law_437 : decode code 437 = .ok (.iconst 1, 1) := by decide +kernel
theorem d_Law_law_438 : decode code 438 = .ok (.iadd, 1) := by decide +kernel
theorem d_Law_law_439 : decode code 439 = .ok (.iaload, 1) := by decide +kernel
theorem d_Law_law_440 : decode code 440 = .ok (.invokevirtual 103, 3) := by decide +kernel
theorem d_Law_law_443 : decode code 443 = .ok (.istore 6, 2) := by decide +kernel
theorem d_Law_law_445 : decode code 445 = .ok (.aload_n 2, 1) := by decide +kernel
theorem d_Law_law_446 : decode code 446 = .ok (.invokevirtual 86, 3) := by decide +kernel
theorem d_Law_law_449 : decode code 449 = .ok (.iload 5, 2) := by decide +kernel
theorem d_Law_law_451 : decode code 451 = .ok (.if_icmp .eq 5, 3) := by decide +kernel
theorem d_Law_law_454 : decode code 454 = .ok (.iconst 0, 1) := by decide +kernel
theorem d_Law_law_455 : decode code 455 = .ok (.ireturn, 1) := by decide +kernel
theorem d_Law_law_456 : decode code 456 = .ok (.iload 5, 2) := by decide +kernel
theorem d_Law_law_458 : decode code 458 = .ok (.ifCond .ne 15, 3) := by decide +kernel
theorem d_Law_law_461 : decode code 461 = .ok (.aload_n 3, 1) := by decide +kernel
theorem d_Law_law_462 : decode code 462 = .ok (.iconst 0, 1) := by decide +kernel
theorem d_Law_law_463 : decode code 463 = .ok (.laload, 1) := by decide +kernel
theorem d_Law_law_464 : decode code 464 = .ok (.iload 6, 2) := by decide +kernel
theorem d_Law_law_466 : decode code 466 = .ok (.i2l, 1) := by decide +kernel
theorem d_Law_law_467 : decode code 467 = .ok (.lcmp, 1) := by decide +kernel
theorem d_Law_law_468 : decode code 468 = .ok (.ifCond .eq 5, 3) := by decide +kernel
theorem d_Law_law_471 : decode code 471 = .ok (.iconst 0, 1) := by decide +kernel
theorem d_Law_law_472 : decode code 472 = .ok (.ireturn, 1) := by decide +kernel
theorem d_Law_law_473 : decode code 473 = .ok (.goto 819, 3) := by decide +kernel
theorem d_Law_law_476 : decode code 476 = .ok (.aload_n 1, 1) := by decide +kernel
theorem d_Law_law_477 : decode code 477 = .ok (.aload_n 0, 1) := by decide +kernel
theorem d_Law_law_478 : decode code 478 = .ok (.iload 4, 2) := by decide +kernel
theorem d_Law_law_480 : decode code 480 = .ok (.iconst 1, 1) := by decide +kernel
theorem d_Law_law_481 : decode code 481 = .ok (.iadd, 1) := by decide +kernel
theorem d_Law_law_482 : decode code 482 = .ok (.iaload, 1) := by decide +kernel
theorem d_Law_law_483 : decode code 483 = .ok (.aload_n 0, 1) := by decide +kernel
theorem d_Law_law_484 : decode code 484 = .ok (.iload 4, 2) := by decide +kernel
theorem d_Law_law_486 : decode code 486 = .ok (.iconst 2, 1) := by decide +kernel
theorem d_Law_law_487 : decode code 487 = .ok (.iadd, 1) := by decide +kernel
theorem d_Law_law_488 : decode code 488 = .ok (.iaload, 1) := by decide +kernel
theorem d_Law_law_489 : decode code 489 = .ok (.aload_n 0, 1) := by decide +kernel
theorem d_Law_law_490 : decode code 490 = .ok (.iload 4, 2) := by decide +kernel
theorem d_Law_law_492 : decode code 492 = .ok (.iconst 3, 1) := by decide +kernel
theorem d_Law_law_493 : decode code 493 = .ok (.iadd, 1) := by decide +kernel
theorem d_Law_law_494 : decode code 494 = .ok (.iaload, 1) := by decide +kernel
theorem d_Law_law_495 : decode code 495 = .ok (.aload_n 3, 1) := by decide +kernel
theorem d_Law_law_496 : decode code 496 = .ok (.invokestatic 104, 3) := by decide +kernel
theorem d_Law_law_499 : decode code 499 = .ok (.istore 5, 2) := by decide +kernel
theorem d_Law_law_501 : decode code 501 = .ok (.aload_n 2, 1) := by decide +kernel
theorem d_Law_law_502 : decode code 502 = .ok (.aload_n 0, 1) := by decide +kernel
theorem d_Law_law_503 : decode code 503 = .ok (.iload 4, 2) := by decide +kernel
theorem d_Law_law_505 : decode code 505 = .ok (.iconst 1, 1) := by decide +kernel
theorem d_Law_law_506 : decode code 506 = .ok (.iadd, 1) := by decide +kernel
theorem d_Law_law_507 : decode code 507 = .ok (.iaload, 1) := by decide +kernel
theorem d_Law_law_508 : decode code 508 = .ok (.aload_n 0, 1) := by decide +kernel
theorem d_Law_law_509 : decode code 509 = .ok (.iload 4, 2) := by decide +kernel
theorem d_Law_law_511 : decode code 511 = .ok (.iconst 2, 1) := by decide +kernel
theorem d_Law_law_512 : decode code 512 = .ok (.iadd, 1) := by decide +kernel
theorem d_Law_law_513 : decode code 513 = .ok (.iaload, 1) := by decide +kernel
theorem d_Law_law_514 : decode code 514 = .ok (.aload_n 0, 1) := by decide +kernel
theorem d_Law_law_515 : decode code 515 = .ok (.iload 4, 2) := by decide +kernel
theorem d_Law_law_517 : decode code 517 = .ok (.iconst 3, 1) := by decide +kernel
theorem d_Law_law_518 : decode code 518 = .ok (.iadd, 1) := by decide +kernel
theorem d_Law_law_519 : decode code 519 = .ok (.iaload, 1) := by decide +kernel
theorem d_Law_law_520 : decode code 520 = .ok (.invokevirtual 107, 3) := by decide +kernel
theorem d_Law_law_523 : decode code 523 = .ok (.istore 6, 2) := by decide +kernel
theorem d_Law_law_525 : decode code 525 = .ok (.aload_n 2, 1) := by decide +kernel
theorem d_Law_law_526 : decode code 526 = .ok (.invokevirtual 86, 3) := by decide +kernel
theorem d_Law_law_529 : decode code 529 = .ok (.iload 5, 2) := by decide +kernel
theorem d_Law_law_531 : decode code 531 = .ok (.if_icmp .eq 5, 3) := by decide +kernel
theorem d_Law_law_534 : decode code 534 = .ok (.iconst 0, 1) := by decide +kernel
theorem d_Law_law_535 : decode code 535 = .ok (.ireturn, 1) := by decide +kernel
theorem d_Law_law_536 : decode code 536 = .ok (.iload 5, 2) := by decide +kernel
theorem d_Law_law_538 : decode code 538 = .ok (.ifCond .ne 15, 3) := by decide +kernel
theorem d_Law_law_541 : decode code 541 = .ok (.aload_n 3, 1) := by decide +kernel
theorem d_Law_law_542 : decode code 542 = .ok (.iconst 0, 1) := by decide +kernel
theorem d_Law_law_543 : decode code 543 = .ok (.laload, 1) := by decide +kernel
theorem d_Law_law_544 : decode code 544 = .ok (.iload 6, 2) := by decide +kernel
theorem d_Law_law_546 : decode code 546 = .ok (.i2l, 1) := by decide +kernel
theorem d_Law_law_547 : decode code 547 = .ok (.lcmp, 1) := by decide +kernel
theorem d_Law_law_548 : decode code 548 = .ok (.ifCond .eq 5, 3) := by decide +kernel
theorem d_Law_law_551 : decode code 551 = .ok (.iconst 0, 1) := by decide +kernel
theorem d_Law_law_552 : decode code 552 = .ok (.ireturn, 1) := by decide +kernel
theorem d_Law_law_553 : decode code 553 = .ok (.goto 739, 3) := by decide +kernel
theorem d_Law_law_556 : decode code 556 = .ok (.aload_n 1, 1) := by decide +kernel
theorem d_Law_law_557 : decode code 557 = .ok (.aload_n 0, 1) := by decide +kernel
theorem d_Law_law_558 : decode code 558 = .ok (.iload 4, 2) := by decide +kernel
theorem d_Law_law_560 : decode code 560 = .ok (.iconst 1, 1) := by decide +kernel
theorem d_Law_law_561 : decode code 561 = .ok (.iadd, 1) := by decide +kernel
theorem d_Law_law_562 : decode code 562 = .ok (.iaload, 1) := by decide +kernel
theorem d_Law_law_563 : decode code 563 = .ok (.aload_n 0, 1) := by decide +kernel
theorem d_Law_law_564 : decode code 564 = .ok (.iload 4, 2) := by decide +kernel
theorem d_Law_law_566 : decode code 566 = .ok (.iconst 2, 1) := by decide +kernel
theorem d_Law_law_567 : decode code 567 = .ok (.iadd, 1) := by decide +kernel
theorem d_Law_law_568 : decode code 568 = .ok (.iaload, 1) := by decide +kernel
theorem d_Law_law_569 : decode code 569 = .ok (.ifCond .eq 7, 3) := by decide +kernel
theorem d_Law_law_572 : decode code 572 = .ok (.iconst 1, 1) := by decide +kernel
theorem d_Law_law_573 : decode code 573 = .ok (.goto 4, 3) := by decide +kernel
theorem d_Law_law_576 : decode code 576 = .ok (.iconst 0, 1) := by decide +kernel
theorem d_Law_law_577 : decode code 577 = .ok (.aload_n 3, 1) := by decide +kernel
theorem d_Law_law_578 : decode code 578 = .ok (.invokestatic 108, 3) := by decide +kernel
theorem d_Law_law_581 : decode code 581 = .ok (.istore 5, 2) := by decide +kernel
theorem d_Law_law_583 : decode code 583 = .ok (.aload_n 2, 1) := by decide +kernel
theorem d_Law_law_584 : decode code 584 = .ok (.aload_n 0, 1) := by decide +kernel
theorem d_Law_law_585 : decode code 585 = .ok (.iload 4, 2) := by decide +kernel
theorem d_Law_law_587 : decode code 587 = .ok (.iconst 1, 1) := by decide +kernel
theorem d_Law_law_588 : decode code 588 = .ok (.iadd, 1) := by decide +kernel
theorem d_Law_law_589 : decode code 589 = .ok (.iaload, 1) := by decide +kernel
theorem d_Law_law_590 : decode code 590 = .ok (.aload_n 0, 1) := by decide +kernel
theorem d_Law_law_591 : decode code 591 = .ok (.iload 4, 2) := by decide +kernel
theorem d_Law_law_593 : decode code 593 = .ok (.iconst 2, 1) := by decide +kernel
theorem d_Law_law_594 : decode code 594 = .ok (.iadd, 1) := by decide +kernel
theorem d_Law_law_595 : decode code 595 = .ok (.iaload, 1) := by decide +kernel
theorem d_Law_law_596 : decode code 596 = .ok (.ifCond .eq 7, 3) := by decide +kernel
theorem d_Law_law_599 : decode code 599 = .ok (.iconst 1, 1) := by decide +kernel
theorem d_Law_law_600 : decode code 600 = .ok (.goto 4, 3) := by decide +kernel
theorem d_Law_law_603 : decode code 603 = .ok (.iconst 0, 1) := by decide +kernel
theorem d_Law_law_604 : decode code 604 = .ok (.invokevirtual 111, 3) := by decide +kernel
theorem d_Law_law_607 : decode code 607 = .ok (.istore 6, 2) := by decide +kernel
theorem d_Law_law_609 : decode code 609 = .ok (.aload_n 2, 1) := by decide +kernel
theorem d_Law_law_610 : decode code 610 = .ok (.invokevirtual 86, 3) := by decide +kernel
theorem d_Law_law_613 : decode code 613 = .ok (.iload 5, 2) := by decide +kernel
theorem d_Law_law_615 : decode code 615 = .ok (.if_icmp .eq 5, 3) := by decide +kernel
theorem d_Law_law_618 : decode code 618 = .ok (.iconst 0, 1) := by decide +kernel
theorem d_Law_law_619 : decode code 619 = .ok (.ireturn, 1) := by decide +kernel
theorem d_Law_law_620 : decode code 620 = .ok (.iload 5, 2) := by decide +kernel
theorem d_Law_law_622 : decode code 622 = .ok (.ifCond .ne 15, 3) := by decide +kernel
theorem d_Law_law_625 : decode code 625 = .ok (.aload_n 3, 1) := by decide +kernel
theorem d_Law_law_626 : decode code 626 = .ok (.iconst 0, 1) := by decide +kernel
theorem d_Law_law_627 : decode code 627 = .ok (.laload, 1) := by decide +kernel
theorem d_Law_law_628 : decode code 628 = .ok (.iload 6, 2) := by decide +kernel
theorem d_Law_law_630 : decode code 630 = .ok (.i2l, 1) := by decide +kernel
theorem d_Law_law_631 : decode code 631 = .ok (.lcmp, 1) := by decide +kernel
theorem d_Law_law_632 : decode code 632 = .ok (.ifCond .eq 5, 3) := by decide +kernel
theorem d_Law_law_635 : decode code 635 = .ok (.iconst 0, 1) := by decide +kernel
theorem d_Law_law_636 : decode code 636 = .ok (.ireturn, 1) := by decide +kernel
theorem d_Law_law_637 : decode code 637 = .ok (.goto 655, 3) := by decide +kernel
theorem d_Law_law_640 : decode code 640 = .ok (.aload_n 1, 1) := by decide +kernel
theorem d_Law_law_641 : decode code 641 = .ok (.invokevirtual 112, 3) := by decide +kernel
theorem d_Law_law_644 : decode code 644 = .ok (.aload_n 2, 1) := by decide +kernel
theorem d_Law_law_645 : decode code 645 = .ok (.invokevirtual 115, 3) := by decide +kernel
theorem d_Law_law_648 : decode code 648 = .ok (.if_icmp .eq 644, 3) := by decide +kernel
theorem d_Law_law_651 : decode code 651 = .ok (.iconst 0, 1) := by decide +kernel
theorem d_Law_law_652 : decode code 652 = .ok (.ireturn, 1) := by decide +kernel
theorem d_Law_law_653 : decode code 653 = .ok (.aload_n 1, 1) := by decide +kernel
theorem d_Law_law_654 : decode code 654 = .ok (.aload_n 0, 1) := by decide +kernel
theorem d_Law_law_655 : decode code 655 = .ok (.iload 4, 2) := by decide +kernel
theorem d_Law_law_657 : decode code 657 = .ok (.iconst 1, 1) := by decide +kernel
theorem d_Law_law_658 : decode code 658 = .ok (.iadd, 1) := by decide +kernel
theorem d_Law_law_659 : decode code 659 = .ok (.iaload, 1) := by decide +kernel
theorem d_Law_law_660 : decode code 660 = .ok (.aload_n 3, 1) := by decide +kernel
theorem d_Law_law_661 : decode code 661 = .ok (.invokestatic 116, 3) := by decide +kernel
theorem d_Law_law_664 : decode code 664 = .ok (.istore 5, 2) := by decide +kernel
theorem d_Law_law_666 : decode code 666 = .ok (.aload_n 2, 1) := by decide +kernel
theorem d_Law_law_667 : decode code 667 = .ok (.aload_n 0, 1) := by decide +kernel
theorem d_Law_law_668 : decode code 668 = .ok (.iload 4, 2) := by decide +kernel
theorem d_Law_law_670 : decode code 670 = .ok (.iconst 1, 1) := by decide +kernel
theorem d_Law_law_671 : decode code 671 = .ok (.iadd, 1) := by decide +kernel
theorem d_Law_law_672 : decode code 672 = .ok (.iaload, 1) := by decide +kernel
theorem d_Law_law_673 : decode code 673 = .ok (.invokevirtual 118, 3) := by decide +kernel
theorem d_Law_law_676 : decode code 676 = .ok (.istore 6, 2) := by decide +kernel
theorem d_Law_law_678 : decode code 678 = .ok (.aload_n 2, 1) := by decide +kernel
theorem d_Law_law_679 : decode code 679 = .ok (.invokevirtual 86, 3) := by decide +kernel
theorem d_Law_law_682 : decode code 682 = .ok (.iload 5, 2) := by decide +kernel
theorem d_Law_law_684 : decode code 684 = .ok (.if_icmp .eq 5, 3) := by decide +kernel
theorem d_Law_law_687 : decode code 687 = .ok (.iconst 0, 1) := by decide +kernel
theorem d_Law_law_688 : decode code 688 = .ok (.ireturn, 1) := by decide +kernel
theorem d_Law_law_689 : decode code 689 = .ok (.iload 5, 2) := by decide +kernel
theorem d_Law_law_691 : decode code 691 = .ok (.ifCond .ne 15, 3) := by decide +kernel
theorem d_Law_law_694 : decode code 694 = .ok (.aload_n 3, 1) := by decide +kernel
theorem d_Law_law_695 : decode code 695 = .ok (.iconst 0, 1) := by decide +kernel
theorem d_Law_law_696 : decode code 696 = .ok (.laload, 1) := by decide +kernel
theorem d_Law_law_697 : decode code 697 = .ok (.iload 6, 2) := by decide +kernel
theorem d_Law_law_699 : decode code 699 = .ok (.i2l, 1) := by decide +kernel
theorem d_Law_law_700 : decode code 700 = .ok (.lcmp, 1) := by decide +kernel
theorem d_Law_law_701 : decode code 701 = .ok (.ifCond .eq 5, 3) := by decide +kernel
theorem d_Law_law_704 : decode code 704 = .ok (.iconst 0, 1) := by decide +kernel
theorem d_Law_law_705 : decode code 705 = .ok (.ireturn, 1) := by decide +kernel
theorem d_Law_law_706 : decode code 706 = .ok (.goto 586, 3) := by decide +kernel
theorem d_Law_law_709 : decode code 709 = .ok (.aload_n 1, 1) := by decide +kernel
theorem d_Law_law_710 : decode code 710 = .ok (.aload_n 0, 1) := by decide +kernel
theorem d_Law_law_711 : decode code 711 = .ok (.iload 4, 2) := by decide +kernel
theorem d_Law_law_713 : decode code 713 = .ok (.iconst 1, 1) := by decide +kernel
theorem d_Law_law_714 : decode code 714 = .ok (.iadd, 1) := by decide +kernel
theorem d_Law_law_715 : decode code 715 = .ok (.iaload, 1) := by decide +kernel
theorem d_Law_law_716 : decode code 716 = .ok (.aload_n 0, 1) := by decide +kernel
theorem d_Law_law_717 : decode code 717 = .ok (.iload 4, 2) := by decide +kernel
theorem d_Law_law_719 : decode code 719 = .ok (.iconst 2, 1) := by decide +kernel
theorem d_Law_law_720 : decode code 720 = .ok (.iadd, 1) := by decide +kernel
theorem d_Law_law_721 : decode code 721 = .ok (.iaload, 1) := by decide +kernel
theorem d_Law_law_722 : decode code 722 = .ok (.aload_n 3, 1) := by decide +kernel
theorem d_Law_law_723 : decode code 723 = .ok (.invokestatic 119, 3) := by decide +kernel
theorem d_Law_law_726 : decode code 726 = .ok (.istore 5, 2) := by decide +kernel
theorem d_Law_law_728 : decode code 728 = .ok (.aload_n 2, 1) := by decide +kernel
theorem d_Law_law_729 : decode code 729 = .ok (.aload_n 0, 1) := by decide +kernel
theorem d_Law_law_730 : decode code 730 = .ok (.iload 4, 2) := by decide +kernel
theorem d_Law_law_732 : decode code 732 = .ok (.iconst 1, 1) := by decide +kernel
theorem d_Law_law_733 : decode code 733 = .ok (.iadd, 1) := by decide +kernel
theorem d_Law_law_734 : decode code 734 = .ok (.iaload, 1) := by decide +kernel
theorem d_Law_law_735 : decode code 735 = .ok (.aload_n 0, 1) := by decide +kernel
theorem d_Law_law_736 : decode code 736 = .ok (.iload 4, 2) := by decide +kernel
theorem d_Law_law_738 : decode code 738 = .ok (.iconst 2, 1) := by decide +kernel
theorem d_Law_law_739 : decode code 739 = .ok (.iadd, 1) := by decide +kernel
theorem d_Law_law_740 : decode code 740 = .ok (.iaload, 1) := by decide +kernel
theorem d_Law_law_741 : decode code 741 = .ok (.invokevirtual 121, 3) := by decide +kernel
theorem d_Law_law_744 : decode code 744 = .ok (.istore 6, 2) := by decide +kernel
theorem d_Law_law_746 : decode code 746 = .ok (.aload_n 2, 1) := by decide +kernel
theorem d_Law_law_747 : decode code 747 = .ok (.invokevirtual 86, 3) := by decide +kernel
theorem d_Law_law_750 : decode code 750 = .ok (.iload 5, 2) := by decide +kernel
theorem d_Law_law_752 : decode code 752 = .ok (.if_icmp .eq 5, 3) := by decide +kernel
theorem d_Law_law_755 : decode code 755 = .ok (.iconst 0, 1) := by decide +kernel
theorem d_Law_law_756 : decode code 756 = .ok (.ireturn, 1) := by decide +kernel
theorem d_Law_law_757 : decode code 757 = .ok (.iload 5, 2) := by decide +kernel
theorem d_Law_law_759 : decode code 759 = .ok (.ifCond .ne 15, 3) := by decide +kernel
theorem d_Law_law_762 : decode code 762 = .ok (.aload_n 3, 1) := by decide +kernel
theorem d_Law_law_763 : decode code 763 = .ok (.iconst 0, 1) := by decide +kernel
theorem d_Law_law_764 : decode code 764 = .ok (.laload, 1) := by decide +kernel
theorem d_Law_law_765 : decode code 765 = .ok (.iload 6, 2) := by decide +kernel
theorem d_Law_law_767 : decode code 767 = .ok (.i2l, 1) := by decide +kernel
theorem d_Law_law_768 : decode code 768 = .ok (.lcmp, 1) := by decide +kernel
theorem d_Law_law_769 : decode code 769 = .ok (.ifCond .eq 5, 3) := by decide +kernel
theorem d_Law_law_772 : decode code 772 = .ok (.iconst 0, 1) := by decide +kernel
theorem d_Law_law_773 : decode code 773 = .ok (.ireturn, 1) := by decide +kernel
theorem d_Law_law_774 : decode code 774 = .ok (.goto 518, 3) := by decide +kernel
theorem d_Law_law_777 : decode code 777 = .ok (.aload_n 1, 1) := by decide +kernel
theorem d_Law_law_778 : decode code 778 = .ok (.aload_n 0, 1) := by decide +kernel
theorem d_Law_law_779 : decode code 779 = .ok (.iload 4, 2) := by decide +kernel
theorem d_Law_law_781 : decode code 781 = .ok (.iconst 1, 1) := by decide +kernel
theorem d_Law_law_782 : decode code 782 = .ok (.iadd, 1) := by decide +kernel
theorem d_Law_law_783 : decode code 783 = .ok (.iaload, 1) := by decide +kernel
theorem d_Law_law_784 : decode code 784 = .ok (.aload_n 3, 1) := by decide +kernel
theorem d_Law_law_785 : decode code 785 = .ok (.invokestatic 122, 3) := by decide +kernel
theorem d_Law_law_788 : decode code 788 = .ok (.istore 5, 2) := by decide +kernel
theorem d_Law_law_790 : decode code 790 = .ok (.aload_n 2, 1) := by decide +kernel
theorem d_Law_law_791 : decode code 791 = .ok (.aload_n 0, 1) := by decide +kernel
theorem d_Law_law_792 : decode code 792 = .ok (.iload 4, 2) := by decide +kernel
theorem d_Law_law_794 : decode code 794 = .ok (.iconst 1, 1) := by decide +kernel
theorem d_Law_law_795 : decode code 795 = .ok (.iadd, 1) := by decide +kernel
theorem d_Law_law_796 : decode code 796 = .ok (.iaload, 1) := by decide +kernel
theorem d_Law_law_797 : decode code 797 = .ok (.invokevirtual 124, 3) := by decide +kernel
theorem d_Law_law_800 : decode code 800 = .ok (.istore 6, 2) := by decide +kernel
theorem d_Law_law_802 : decode code 802 = .ok (.aload_n 2, 1) := by decide +kernel
theorem d_Law_law_803 : decode code 803 = .ok (.invokevirtual 86, 3) := by decide +kernel
theorem d_Law_law_806 : decode code 806 = .ok (.iload 5, 2) := by decide +kernel
theorem d_Law_law_808 : decode code 808 = .ok (.if_icmp .eq 5, 3) := by decide +kernel
theorem d_Law_law_811 : decode code 811 = .ok (.iconst 0, 1) := by decide +kernel
theorem d_Law_law_812 : decode code 812 = .ok (.ireturn, 1) := by decide +kernel
theorem d_Law_law_813 : decode code 813 = .ok (.iload 5, 2) := by decide +kernel
theorem d_Law_law_815 : decode code 815 = .ok (.ifCond .ne 15, 3) := by decide +kernel
theorem d_Law_law_818 : decode code 818 = .ok (.aload_n 3, 1) := by decide +kernel
theorem d_Law_law_819 : decode code 819 = .ok (.iconst 0, 1) := by decide +kernel
theorem d_Law_law_820 : decode code 820 = .ok (.laload, 1) := by decide +kernel
theorem d_Law_law_821 : decode code 821 = .ok (.iload 6, 2) := by decide +kernel
theorem d_Law_law_823 : decode code 823 = .ok (.i2l, 1) := by decide +kernel
theorem d_Law_law_824 : decode code 824 = .ok (.lcmp, 1) := by decide +kernel
theorem d_Law_law_825 : decode code 825 = .ok (.ifCond .eq 5, 3) := by decide +kernel
theorem d_Law_law_828 : decode code 828 = .ok (.iconst 0, 1) := by decide +kernel
theorem d_Law_law_829 : decode code 829 = .ok (.ireturn, 1) := by decide +kernel
theorem d_Law_law_830 : decode code 830 = .ok (.goto 462, 3) := by decide +kernel
theorem d_Law_law_833 : decode code 833 = .ok (.aload_n 1, 1) := by decide +kernel
theorem d_Law_law_834 : decode code 834 = .ok (.aload_n 0, 1) := by decide +kernel
theorem d_Law_law_835 : decode code 835 = .ok (.iload 4, 2) := by decide +kernel
theorem d_Law_law_837 : decode code 837 = .ok (.iconst 1, 1) := by decide +kernel
theorem d_Law_law_838 : decode code 838 = .ok (.iadd, 1) := by decide +kernel
theorem d_Law_law_839 : decode code 839 = .ok (.iaload, 1) := by decide +kernel
theorem d_Law_law_840 : decode code 840 = .ok (.aload_n 0, 1) := by decide +kernel
theorem d_Law_law_841 : decode code 841 = .ok (.iload 4, 2) := by decide +kernel
theorem d_Law_law_843 : decode code 843 = .ok (.iconst 2, 1) := by decide +kernel
theorem d_Law_law_844 : decode code 844 = .ok (.iadd, 1) := by decide +kernel
theorem d_Law_law_845 : decode code 845 = .ok (.iaload, 1) := by decide +kernel
theorem d_Law_law_846 : decode code 846 = .ok (.aload_n 3, 1) := by decide +kernel
theorem d_Law_law_847 : decode code 847 = .ok (.invokestatic 125, 3) := by decide +kernel
theorem d_Law_law_850 : decode code 850 = .ok (.istore 5, 2) := by decide +kernel
theorem d_Law_law_852 : decode code 852 = .ok (.aload_n 2, 1) := by decide +kernel
theorem d_Law_law_853 : decode code 853 = .ok (.aload_n 0, 1) := by decide +kernel
theorem d_Law_law_854 : decode code 854 = .ok (.iload 4, 2) := by decide +kernel
theorem d_Law_law_856 : decode code 856 = .ok (.iconst 1, 1) := by decide +kernel
theorem d_Law_law_857 : decode code 857 = .ok (.iadd, 1) := by decide +kernel
theorem d_Law_law_858 : decode code 858 = .ok (.iaload, 1) := by decide +kernel
theorem d_Law_law_859 : decode code 859 = .ok (.aload_n 0, 1) := by decide +kernel
theorem d_Law_law_860 : decode code 860 = .ok (.iload 4, 2) := by decide +kernel
theorem d_Law_law_862 : decode code 862 = .ok (.iconst 2, 1) := by decide +kernel
theorem d_Law_law_863 : decode code 863 = .ok (.iadd, 1) := by decide +kernel
theorem d_Law_law_864 : decode code 864 = .ok (.iaload, 1) := by decide +kernel
theorem d_Law_law_865 : decode code 865 = .ok (.invokevirtual 127, 3) := by decide +kernel
theorem d_Law_law_868 : decode code 868 = .ok (.istore 6, 2) := by decide +kernel
theorem d_Law_law_870 : decode code 870 = .ok (.aload_n 2, 1) := by decide +kernel
theorem d_Law_law_871 : decode code 871 = .ok (.invokevirtual 86, 3) := by decide +kernel
theorem d_Law_law_874 : decode code 874 = .ok (.iload 5, 2) := by decide +kernel
theorem d_Law_law_876 : decode code 876 = .ok (.if_icmp .eq 5, 3) := by decide +kernel
theorem d_Law_law_879 : decode code 879 = .ok (.iconst 0, 1) := by decide +kernel
theorem d_Law_law_880 : decode code 880 = .ok (.ireturn, 1) := by decide +kernel
theorem d_Law_law_881 : decode code 881 = .ok (.iload 5, 2) := by decide +kernel
theorem d_Law_law_883 : decode code 883 = .ok (.ifCond .ne 15, 3) := by decide +kernel
theorem d_Law_law_886 : decode code 886 = .ok (.aload_n 3, 1) := by decide +kernel
theorem d_Law_law_887 : decode code 887 = .ok (.iconst 0, 1) := by decide +kernel
theorem d_Law_law_888 : decode code 888 = .ok (.laload, 1) := by decide +kernel
theorem d_Law_law_889 : decode code 889 = .ok (.iload 6, 2) := by decide +kernel
theorem d_Law_law_891 : decode code 891 = .ok (.i2l, 1) := by decide +kernel
theorem d_Law_law_892 : decode code 892 = .ok (.lcmp, 1) := by decide +kernel
theorem d_Law_law_893 : decode code 893 = .ok (.ifCond .eq 5, 3) := by decide +kernel
theorem d_Law_law_896 : decode code 896 = .ok (.iconst 0, 1) := by decide +kernel
theorem d_Law_law_897 : decode code 897 = .ok (.ireturn, 1) := by decide +kernel
theorem d_Law_law_898 : decode code 898 = .ok (.goto 394, 3) := by decide +kernel
theorem d_Law_law_901 : decode code 901 = .ok (.aload_n 1, 1) := by decide +kernel
theorem d_Law_law_902 : decode code 902 = .ok (.aload_n 0, 1) := by decide +kernel
theorem d_Law_law_903 : decode code 903 = .ok (.iload 4, 2) := by decide +kernel
theorem d_Law_law_905 : decode code 905 = .ok (.iconst 1, 1) := by decide +kernel
theorem d_Law_law_906 : decode code 906 = .ok (.iadd, 1) := by decide +kernel
theorem d_Law_law_907 : decode code 907 = .ok (.iaload, 1) := by decide +kernel
theorem d_Law_law_908 : decode code 908 = .ok (.aload_n 0, 1) := by decide +kernel
theorem d_Law_law_909 : decode code 909 = .ok (.iload 4, 2) := by decide +kernel
theorem d_Law_law_911 : decode code 911 = .ok (.iconst 2, 1) := by decide +kernel
theorem d_Law_law_912 : decode code 912 = .ok (.iadd, 1) := by decide +kernel
theorem d_Law_law_913 : decode code 913 = .ok (.iaload, 1) := by decide +kernel
theorem d_Law_law_914 : decode code 914 = .ok (.aload_n 0, 1) := by decide +kernel
theorem d_Law_law_915 : decode code 915 = .ok (.iload 4, 2) := by decide +kernel
theorem d_Law_law_917 : decode code 917 = .ok (.iconst 3, 1) := by decide +kernel
theorem d_Law_law_918 : decode code 918 = .ok (.iadd, 1) := by decide +kernel
theorem d_Law_law_919 : decode code 919 = .ok (.iaload, 1) := by decide +kernel
theorem d_Law_law_920 : decode code 920 = .ok (.aload_n 3, 1) := by decide +kernel
theorem d_Law_law_921 : decode code 921 = .ok (.invokestatic 128, 3) := by decide +kernel
theorem d_Law_law_924 : decode code 924 = .ok (.istore 5, 2) := by decide +kernel
theorem d_Law_law_926 : decode code 926 = .ok (.aload_n 2, 1) := by decide +kernel
theorem d_Law_law_927 : decode code 927 = .ok (.aload_n 0, 1) := by decide +kernel
theorem d_Law_law_928 : decode code 928 = .ok (.iload 4, 2) := by decide +kernel
theorem d_Law_law_930 : decode code 930 = .ok (.iconst 1, 1) := by decide +kernel
theorem d_Law_law_931 : decode code 931 = .ok (.iadd, 1) := by decide +kernel
theorem d_Law_law_932 : decode code 932 = .ok (.iaload, 1) := by decide +kernel
theorem d_Law_law_933 : decode code 933 = .ok (.aload_n 0, 1) := by decide +kernel
theorem d_Law_law_934 : decode code 934 = .ok (.iload 4, 2) := by decide +kernel
theorem d_Law_law_936 : decode code 936 = .ok (.iconst 2, 1) := by decide +kernel
theorem d_Law_law_937 : decode code 937 = .ok (.iadd, 1) := by decide +kernel
theorem d_Law_law_938 : decode code 938 = .ok (.iaload, 1) := by decide +kernel
theorem d_Law_law_939 : decode code 939 = .ok (.aload_n 0, 1) := by decide +kernel
theorem d_Law_law_940 : decode code 940 = .ok (.iload 4, 2) := by decide +kernel
theorem d_Law_law_942 : decode code 942 = .ok (.iconst 3, 1) := by decide +kernel
theorem d_Law_law_943 : decode code 943 = .ok (.iadd, 1) := by decide +kernel
theorem d_Law_law_944 : decode code 944 = .ok (.iaload, 1) := by decide +kernel
theorem d_Law_law_945 : decode code 945 = .ok (.invokevirtual 130, 3) := by decide +kernel
theorem d_Law_law_948 : decode code 948 = .ok (.istore 6, 2) := by decide +kernel
theorem d_Law_law_950 : decode code 950 = .ok (.aload_n 2, 1) := by decide +kernel
theorem d_Law_law_951 : decode code 951 = .ok (.invokevirtual 86, 3) := by decide +kernel
theorem d_Law_law_954 : decode code 954 = .ok (.iload 5, 2) := by decide +kernel
theorem d_Law_law_956 : decode code 956 = .ok (.if_icmp .eq 5, 3) := by decide +kernel
theorem d_Law_law_959 : decode code 959 = .ok (.iconst 0, 1) := by decide +kernel
theorem d_Law_law_960 : decode code 960 = .ok (.ireturn, 1) := by decide +kernel
theorem d_Law_law_961 : decode code 961 = .ok (.iload 5, 2) := by decide +kernel
theorem d_Law_law_963 : decode code 963 = .ok (.ifCond .ne 15, 3) := by decide +kernel
theorem d_Law_law_966 : decode code 966 = .ok (.aload_n 3, 1) := by decide +kernel
theorem d_Law_law_967 : decode code 967 = .ok (.iconst 0, 1) := by decide +kernel
theorem d_Law_law_968 : decode code 968 = .ok (.laload, 1) := by decide +kernel
theorem d_Law_law_969 : decode code 969 = .ok (.iload 6, 2) := by decide +kernel
theorem d_Law_law_971 : decode code 971 = .ok (.i2l, 1) := by decide +kernel
theorem d_Law_law_972 : decode code 972 = .ok (.lcmp, 1) := by decide +kernel
theorem d_Law_law_973 : decode code 973 = .ok (.ifCond .eq 5, 3) := by decide +kernel
theorem d_Law_law_976 : decode code 976 = .ok (.iconst 0, 1) := by decide +kernel
theorem d_Law_law_977 : decode code 977 = .ok (.ireturn, 1) := by decide +kernel
theorem d_Law_law_978 : decode code 978 = .ok (.goto 314, 3) := by decide +kernel
theorem d_Law_law_981 : decode code 981 = .ok (.aload_n 1, 1) := by decide +kernel
theorem d_Law_law_982 : decode code 982 = .ok (.aload_n 0, 1) := by decide +kernel
theorem d_Law_law_983 : decode code 983 = .ok (.iload 4, 2) := by decide +kernel
theorem d_Law_law_985 : decode code 985 = .ok (.iconst 1, 1) := by decide +kernel
theorem d_Law_law_986 : decode code 986 = .ok (.iadd, 1) := by decide +kernel
theorem d_Law_law_987 : decode code 987 = .ok (.iaload, 1) := by decide +kernel
theorem d_Law_law_988 : decode code 988 = .ok (.aload_n 3, 1) := by decide +kernel
theorem d_Law_law_989 : decode code 989 = .ok (.invokestatic 131, 3) := by decide +kernel
theorem d_Law_law_992 : decode code 992 = .ok (.istore 5, 2) := by decide +kernel
theorem d_Law_law_994 : decode code 994 = .ok (.aload_n 2, 1) := by decide +kernel
theorem d_Law_law_995 : decode code 995 = .ok (.aload_n 0, 1) := by decide +kernel
theorem d_Law_law_996 : decode code 996 = .ok (.iload 4, 2) := by decide +kernel
theorem d_Law_law_998 : decode code 998 = .ok (.iconst 1, 1) := by decide +kernel
theorem d_Law_law_999 : decode code 999 = .ok (.iadd, 1) := by decide +kernel
theorem d_Law_law_1000 : decode code 1000 = .ok (.iaload, 1) := by decide +kernel
theorem d_Law_law_1001 : decode code 1001 = .ok (.invokevirtual 133, 3) := by decide +kernel
theorem d_Law_law_1004 : decode code 1004 = .ok (.istore 6, 2) := by decide +kernel
theorem d_Law_law_1006 : decode code 1006 = .ok (.aload_n 2, 1) := by decide +kernel
theorem d_Law_law_1007 : decode code 1007 = .ok (.invokevirtual 86, 3) := by decide +kernel
theorem d_Law_law_1010 : decode code 1010 = .ok (.iload 5, 2) := by decide +kernel
theorem d_Law_law_1012 : decode code 1012 = .ok (.if_icmp .eq 5, 3) := by decide +kernel
theorem d_Law_law_1015 : decode code 1015 = .ok (.iconst 0, 1) := by decide +kernel
theorem d_Law_law_1016 : decode code 1016 = .ok (.ireturn, 1) := by decide +kernel
theorem d_Law_law_1017 : decode code 1017 = .ok (.iload 5, 2) := by decide +kernel
theorem d_Law_law_1019 : decode code 1019 = .ok (.ifCond .ne 22, 3) := by decide +kernel
theorem d_Law_law_1022 : decode code 1022 = .ok (.aload_n 3, 1) := by decide +kernel
theorem d_Law_law_1023 : decode code 1023 = .ok (.iconst 0, 1) := by decide +kernel
theorem d_Law_law_1024 : decode code 1024 = .ok (.laload, 1) := by decide +kernel
theorem d_Law_law_1025 : decode code 1025 = .ok (.iload 6, 2) := by decide +kernel
theorem d_Law_law_1027 : decode code 1027 = .ok (.ifCond .eq 7, 3) := by decide +kernel
theorem d_Law_law_1030 : decode code 1030 = .ok (.lconst 1, 1) := by decide +kernel
theorem d_Law_law_1031 : decode code 1031 = .ok (.goto 4, 3) := by decide +kernel
theorem d_Law_law_1034 : decode code 1034 = .ok (.lconst 0, 1) := by decide +kernel
theorem d_Law_law_1035 : decode code 1035 = .ok (.lcmp, 1) := by decide +kernel
theorem d_Law_law_1036 : decode code 1036 = .ok (.ifCond .eq 5, 3) := by decide +kernel
theorem d_Law_law_1039 : decode code 1039 = .ok (.iconst 0, 1) := by decide +kernel
theorem d_Law_law_1040 : decode code 1040 = .ok (.ireturn, 1) := by decide +kernel
theorem d_Law_law_1041 : decode code 1041 = .ok (.goto 251, 3) := by decide +kernel
theorem d_Law_law_1044 : decode code 1044 = .ok (.aload_n 1, 1) := by decide +kernel
theorem d_Law_law_1045 : decode code 1045 = .ok (.aload_n 0, 1) := by decide +kernel
theorem d_Law_law_1046 : decode code 1046 = .ok (.iload 4, 2) := by decide +kernel
theorem d_Law_law_1048 : decode code 1048 = .ok (.iconst 1, 1) := by decide +kernel
theorem d_Law_law_1049 : decode code 1049 = .ok (.iadd, 1) := by decide +kernel
theorem d_Law_law_1050 : decode code 1050 = .ok (.iaload, 1) := by decide +kernel
theorem d_Law_law_1051 : decode code 1051 = .ok (.aload_n 3, 1) := by decide +kernel
theorem d_Law_law_1052 : decode code 1052 = .ok (.invokestatic 134, 3) := by decide +kernel
theorem d_Law_law_1055 : decode code 1055 = .ok (.istore 5, 2) := by decide +kernel
theorem d_Law_law_1057 : decode code 1057 = .ok (.aload_n 2, 1) := by decide +kernel
theorem d_Law_law_1058 : decode code 1058 = .ok (.aload_n 0, 1) := by decide +kernel
theorem d_Law_law_1059 : decode code 1059 = .ok (.iload 4, 2) := by decide +kernel
theorem d_Law_law_1061 : decode code 1061 = .ok (.iconst 1, 1) := by decide +kernel
theorem d_Law_law_1062 : decode code 1062 = .ok (.iadd, 1) := by decide +kernel
theorem d_Law_law_1063 : decode code 1063 = .ok (.iaload, 1) := by decide +kernel
theorem d_Law_law_1064 : decode code 1064 = .ok (.invokevirtual 136, 3) := by decide +kernel
theorem d_Law_law_1067 : decode code 1067 = .ok (.istore 6, 2) := by decide +kernel
theorem d_Law_law_1069 : decode code 1069 = .ok (.aload_n 2, 1) := by decide +kernel
theorem d_Law_law_1070 : decode code 1070 = .ok (.invokevirtual 86, 3) := by decide +kernel
theorem d_Law_law_1073 : decode code 1073 = .ok (.iload 5, 2) := by decide +kernel
theorem d_Law_law_1075 : decode code 1075 = .ok (.if_icmp .eq 5, 3) := by decide +kernel
theorem d_Law_law_1078 : decode code 1078 = .ok (.iconst 0, 1) := by decide +kernel
theorem d_Law_law_1079 : decode code 1079 = .ok (.ireturn, 1) := by decide +kernel
theorem d_Law_law_1080 : decode code 1080 = .ok (.iload 5, 2) := by decide +kernel
theorem d_Law_law_1082 : decode code 1082 = .ok (.ifCond .ne 15, 3) := by decide +kernel
theorem d_Law_law_1085 : decode code 1085 = .ok (.aload_n 3, 1) := by decide +kernel
theorem d_Law_law_1086 : decode code 1086 = .ok (.iconst 0, 1) := by decide +kernel
theorem d_Law_law_1087 : decode code 1087 = .ok (.laload, 1) := by decide +kernel
theorem d_Law_law_1088 : decode code 1088 = .ok (.iload 6, 2) := by decide +kernel
theorem d_Law_law_1090 : decode code 1090 = .ok (.i2l, 1) := by decide +kernel
theorem d_Law_law_1091 : decode code 1091 = .ok (.lcmp, 1) := by decide +kernel
theorem d_Law_law_1092 : decode code 1092 = .ok (.ifCond .eq 5, 3) := by decide +kernel
theorem d_Law_law_1095 : decode code 1095 = .ok (.iconst 0, 1) := by decide +kernel
theorem d_Law_law_1096 : decode code 1096 = .ok (.ireturn, 1) := by decide +kernel
theorem d_Law_law_1097 : decode code 1097 = .ok (.goto 195, 3) := by decide +kernel
theorem d_Law_law_1100 : decode code 1100 = .ok (.aload_n 1, 1) := by decide +kernel
theorem d_Law_law_1101 : decode code 1101 = .ok (.aload_n 0, 1) := by decide +kernel
theorem d_Law_law_1102 : decode code 1102 = .ok (.iload 4, 2) := by decide +kernel
theorem d_Law_law_1104 : decode code 1104 = .ok (.iconst 1, 1) := by decide +kernel
theorem d_Law_law_1105 : decode code 1105 = .ok (.iadd, 1) := by decide +kernel
theorem d_Law_law_1106 : decode code 1106 = .ok (.iaload, 1) := by decide +kernel
theorem d_Law_law_1107 : decode code 1107 = .ok (.aload_n 0, 1) := by decide +kernel
theorem d_Law_law_1108 : decode code 1108 = .ok (.iload 4, 2) := by decide +kernel
theorem d_Law_law_1110 : decode code 1110 = .ok (.iconst 2, 1) := by decide +kernel
theorem d_Law_law_1111 : decode code 1111 = .ok (.iadd, 1) := by decide +kernel
theorem d_Law_law_1112 : decode code 1112 = .ok (.iaload, 1) := by decide +kernel
theorem d_Law_law_1113 : decode code 1113 = .ok (.aload_n 3, 1) := by decide +kernel
theorem d_Law_law_1114 : decode code 1114 = .ok (.invokestatic 137, 3) := by decide +kernel
theorem d_Law_law_1117 : decode code 1117 = .ok (.istore 5, 2) := by decide +kernel
theorem d_Law_law_1119 : decode code 1119 = .ok (.aload_n 2, 1) := by decide +kernel
theorem d_Law_law_1120 : decode code 1120 = .ok (.aload_n 0, 1) := by decide +kernel
theorem d_Law_law_1121 : decode code 1121 = .ok (.iload 4, 2) := by decide +kernel
theorem d_Law_law_1123 : decode code 1123 = .ok (.iconst 1, 1) := by decide +kernel
theorem d_Law_law_1124 : decode code 1124 = .ok (.iadd, 1) := by decide +kernel
theorem d_Law_law_1125 : decode code 1125 = .ok (.iaload, 1) := by decide +kernel
theorem d_Law_law_1126 : decode code 1126 = .ok (.aload_n 0, 1) := by decide +kernel
theorem d_Law_law_1127 : decode code 1127 = .ok (.iload 4, 2) := by decide +kernel
theorem d_Law_law_1129 : decode code 1129 = .ok (.iconst 2, 1) := by decide +kernel
theorem d_Law_law_1130 : decode code 1130 = .ok (.iadd, 1) := by decide +kernel
theorem d_Law_law_1131 : decode code 1131 = .ok (.iaload, 1) := by decide +kernel
theorem d_Law_law_1132 : decode code 1132 = .ok (.invokevirtual 139, 3) := by decide +kernel
theorem d_Law_law_1135 : decode code 1135 = .ok (.istore 6, 2) := by decide +kernel
theorem d_Law_law_1137 : decode code 1137 = .ok (.aload_n 2, 1) := by decide +kernel
theorem d_Law_law_1138 : decode code 1138 = .ok (.invokevirtual 86, 3) := by decide +kernel
theorem d_Law_law_1141 : decode code 1141 = .ok (.iload 5, 2) := by decide +kernel
theorem d_Law_law_1143 : decode code 1143 = .ok (.if_icmp .eq 5, 3) := by decide +kernel
theorem d_Law_law_1146 : decode code 1146 = .ok (.iconst 0, 1) := by decide +kernel
theorem d_Law_law_1147 : decode code 1147 = .ok (.ireturn, 1) := by decide +kernel
theorem d_Law_law_1148 : decode code 1148 = .ok (.iload 5, 2) := by decide +kernel
theorem d_Law_law_1150 : decode code 1150 = .ok (.ifCond .ne 15, 3) := by decide +kernel
theorem d_Law_law_1153 : decode code 1153 = .ok (.aload_n 3, 1) := by decide +kernel
theorem d_Law_law_1154 : decode code 1154 = .ok (.iconst 0, 1) := by decide +kernel
theorem d_Law_law_1155 : decode code 1155 = .ok (.laload, 1) := by decide +kernel
theorem d_Law_law_1156 : decode code 1156 = .ok (.iload 6, 2) := by decide +kernel
theorem d_Law_law_1158 : decode code 1158 = .ok (.i2l, 1) := by decide +kernel
theorem d_Law_law_1159 : decode code 1159 = .ok (.lcmp, 1) := by decide +kernel
theorem d_Law_law_1160 : decode code 1160 = .ok (.ifCond .eq 5, 3) := by decide +kernel
theorem d_Law_law_1163 : decode code 1163 = .ok (.iconst 0, 1) := by decide +kernel
theorem d_Law_law_1164 : decode code 1164 = .ok (.ireturn, 1) := by decide +kernel
theorem d_Law_law_1165 : decode code 1165 = .ok (.goto 127, 3) := by decide +kernel
theorem d_Law_law_1168 : decode code 1168 = .ok (.aload_n 1, 1) := by decide +kernel
theorem d_Law_law_1169 : decode code 1169 = .ok (.aload_n 0, 1) := by decide +kernel
theorem d_Law_law_1170 : decode code 1170 = .ok (.iload 4, 2) := by decide +kernel
theorem d_Law_law_1172 : decode code 1172 = .ok (.iconst 1, 1) := by decide +kernel
theorem d_Law_law_1173 : decode code 1173 = .ok (.iadd, 1) := by decide +kernel
theorem d_Law_law_1174 : decode code 1174 = .ok (.iaload, 1) := by decide +kernel
theorem d_Law_law_1175 : decode code 1175 = .ok (.aload_n 0, 1) := by decide +kernel
theorem d_Law_law_1176 : decode code 1176 = .ok (.iload 4, 2) := by decide +kernel
theorem d_Law_law_1178 : decode code 1178 = .ok (.iconst 2, 1) := by decide +kernel
theorem d_Law_law_1179 : decode code 1179 = .ok (.iadd, 1) := by decide +kernel
theorem d_Law_law_1180 : decode code 1180 = .ok (.iaload, 1) := by decide +kernel
theorem d_Law_law_1181 : decode code 1181 = .ok (.aload_n 3, 1) := by decide +kernel
theorem d_Law_law_1182 : decode code 1182 = .ok (.invokestatic 140, 3) := by decide +kernel
theorem d_Law_law_1185 : decode code 1185 = .ok (.istore 5, 2) := by decide +kernel
theorem d_Law_law_1187 : decode code 1187 = .ok (.aload_n 2, 1) := by decide +kernel
theorem d_Law_law_1188 : decode code 1188 = .ok (.aload_n 0, 1) := by decide +kernel
theorem d_Law_law_1189 : decode code 1189 = .ok (.iload 4, 2) := by decide +kernel
theorem d_Law_law_1191 : decode code 1191 = .ok (.iconst 1, 1) := by decide +kernel
theorem d_Law_law_1192 : decode code 1192 = .ok (.iadd, 1) := by decide +kernel
theorem d_Law_law_1193 : decode code 1193 = .ok (.iaload, 1) := by decide +kernel
theorem d_Law_law_1194 : decode code 1194 = .ok (.aload_n 0, 1) := by decide +kernel
theorem d_Law_law_1195 : decode code 1195 = .ok (.iload 4, 2) := by decide +kernel
theorem d_Law_law_1197 : decode code 1197 = .ok (.iconst 2, 1) := by decide +kernel
theorem d_Law_law_1198 : decode code 1198 = .ok (.iadd, 1) := by decide +kernel
theorem d_Law_law_1199 : decode code 1199 = .ok (.iaload, 1) := by decide +kernel
theorem d_Law_law_1200 : decode code 1200 = .ok (.invokevirtual 142, 3) := by decide +kernel
theorem d_Law_law_1203 : decode code 1203 = .ok (.istore 6, 2) := by decide +kernel
theorem d_Law_law_1205 : decode code 1205 = .ok (.aload_n 2, 1) := by decide +kernel
theorem d_Law_law_1206 : decode code 1206 = .ok (.invokevirtual 86, 3) := by decide +kernel
theorem d_Law_law_1209 : decode code 1209 = .ok (.iload 5, 2) := by decide +kernel
theorem d_Law_law_1211 : decode code 1211 = .ok (.if_icmp .eq 5, 3) := by decide +kernel
theorem d_Law_law_1214 : decode code 1214 = .ok (.iconst 0, 1) := by decide +kernel
theorem d_Law_law_1215 : decode code 1215 = .ok (.ireturn, 1) := by decide +kernel
theorem d_Law_law_1216 : decode code 1216 = .ok (.iload 5, 2) := by decide +kernel
theorem d_Law_law_1218 : decode code 1218 = .ok (.ifCond .ne 15, 3) := by decide +kernel
theorem d_Law_law_1221 : decode code 1221 = .ok (.aload_n 3, 1) := by decide +kernel
theorem d_Law_law_1222 : decode code 1222 = .ok (.iconst 0, 1) := by decide +kernel
theorem d_Law_law_1223 : decode code 1223 = .ok (.laload, 1) := by decide +kernel
theorem d_Law_law_1224 : decode code 1224 = .ok (.iload 6, 2) := by decide +kernel
theorem d_Law_law_1226 : decode code 1226 = .ok (.i2l, 1) := by decide +kernel
theorem d_Law_law_1227 : decode code 1227 = .ok (.lcmp, 1) := by decide +kernel
theorem d_Law_law_1228 : decode code 1228 = .ok (.ifCond .eq 5, 3) := by decide +kernel
theorem d_Law_law_1231 : decode code 1231 = .ok (.iconst 0, 1) := by decide +kernel
theorem d_Law_law_1232 : decode code 1232 = .ok (.ireturn, 1) := by decide +kernel
theorem d_Law_law_1233 : decode code 1233 = .ok (.goto 59, 3) := by decide +kernel
theorem d_Law_law_1236 : decode code 1236 = .ok (.aload_n 1, 1) := by decide +kernel
theorem d_Law_law_1237 : decode code 1237 = .ok (.aload_n 0, 1) := by decide +kernel
theorem d_Law_law_1238 : decode code 1238 = .ok (.iload 4, 2) := by decide +kernel
theorem d_Law_law_1240 : decode code 1240 = .ok (.iconst 1, 1) := by decide +kernel
theorem d_Law_law_1241 : decode code 1241 = .ok (.iadd, 1) := by decide +kernel
theorem d_Law_law_1242 : decode code 1242 = .ok (.iaload, 1) := by decide +kernel
theorem d_Law_law_1243 : decode code 1243 = .ok (.aload_n 3, 1) := by decide +kernel
theorem d_Law_law_1244 : decode code 1244 = .ok (.invokestatic 143, 3) := by decide +kernel
theorem d_Law_law_1247 : decode code 1247 = .ok (.istore 5, 2) := by decide +kernel
theorem d_Law_law_1249 : decode code 1249 = .ok (.aload_n 2, 1) := by decide +kernel
theorem d_Law_law_1250 : decode code 1250 = .ok (.aload_n 0, 1) := by decide +kernel
theorem d_Law_law_1251 : decode code 1251 = .ok (.iload 4, 2) := by decide +kernel
theorem d_Law_law_1253 : decode code 1253 = .ok (.iconst 1, 1) := by decide +kernel
theorem d_Law_law_1254 : decode code 1254 = .ok (.iadd, 1) := by decide +kernel
theorem d_Law_law_1255 : decode code 1255 = .ok (.iaload, 1) := by decide +kernel
theorem d_Law_law_1256 : decode code 1256 = .ok (.invokevirtual 145, 3) := by decide +kernel
theorem d_Law_law_1259 : decode code 1259 = .ok (.istore 6, 2) := by decide +kernel
theorem d_Law_law_1261 : decode code 1261 = .ok (.aload_n 2, 1) := by decide +kernel
theorem d_Law_law_1262 : decode code 1262 = .ok (.invokevirtual 86, 3) := by decide +kernel
theorem d_Law_law_1265 : decode code 1265 = .ok (.iload 5, 2) := by decide +kernel
theorem d_Law_law_1267 : decode code 1267 = .ok (.if_icmp .eq 5, 3) := by decide +kernel
theorem d_Law_law_1270 : decode code 1270 = .ok (.iconst 0, 1) := by decide +kernel
theorem d_Law_law_1271 : decode code 1271 = .ok (.ireturn, 1) := by decide +kernel
theorem d_Law_law_1272 : decode code 1272 = .ok (.iload 5, 2) := by decide +kernel
theorem d_Law_law_1274 : decode code 1274 = .ok (.ifCond .ne 15, 3) := by decide +kernel
theorem d_Law_law_1277 : decode code 1277 = .ok (.aload_n 3, 1) := by decide +kernel
theorem d_Law_law_1278 : decode code 1278 = .ok (.iconst 0, 1) := by decide +kernel
theorem d_Law_law_1279 : decode code 1279 = .ok (.laload, 1) := by decide +kernel
theorem d_Law_law_1280 : decode code 1280 = .ok (.iload 6, 2) := by decide +kernel
theorem d_Law_law_1282 : decode code 1282 = .ok (.i2l, 1) := by decide +kernel
theorem d_Law_law_1283 : decode code 1283 = .ok (.lcmp, 1) := by decide +kernel
theorem d_Law_law_1284 : decode code 1284 = .ok (.ifCond .eq 5, 3) := by decide +kernel
theorem d_Law_law_1287 : decode code 1287 = .ok (.iconst 0, 1) := by decide +kernel
theorem d_Law_law_1288 : decode code 1288 = .ok (.ireturn, 1) := by decide +kernel
theorem d_Law_law_1289 : decode code 1289 = .ok (.goto 3, 3) := by decide +kernel
theorem d_Law_law_1292 : decode code 1292 = .ok (.iinc 4 5, 3) := by decide +kernel
theorem d_Law_law_1295 : decode code 1295 = .ok (.goto (-1272), 3) := by decide +kernel
theorem d_Law_law_1298 : decode code 1298 = .ok (.iconst 1, 1) := by decide +kernel
theorem d_Law_law_1299 : decode code 1299 = .ok (.ireturn, 1) := by decide +kernel
