theorem d_Unit_init_0 : decode prog_6_method_1_code 0 = .ok (.aload_n 0, 1) := by decide +kernel
theorem d_Unit_init_1 : decode prog_6_method_1_code 1 = .ok (.invokespecial 3, 3) := by decide +kernel
theorem d_Unit_init_4 : decode prog_6_method_1_code 4 = .ok (.aload_n 0, 1) := by decide +kernel
theorem d_Unit_init_5 : decode prog_6_method_1_code 5 = .ok (.bipush 60, 2) := by decide +kernel
theorem d_Unit_init_7 : decode prog_6_method_1_code 7 = .ok (.anewarray 9, 3) := by decide +kernel
theorem d_Unit_init_10 : decode prog_6_method_1_code 10 = .ok (.putfield 11, 3) := by decide +kernel
theorem d_Unit_init_13 : decode prog_6_method_1_code 13 = .ok (.aload_n 0, 1) := by decide +kernel
theorem d_Unit_init_14 : decode prog_6_method_1_code 14 = .ok (.iconst 1, 1) := by decide +kernel
theorem d_Unit_init_15 : decode prog_6_method_1_code 15 = .ok (.putfield 17, 3) := by decide +kernel
theorem d_Unit_init_18 : decode prog_6_method_1_code 18 = .ok (.aload_n 0, 1) := by decide +kernel
theorem d_Unit_init_19 : decode prog_6_method_1_code 19 = .ok (.iconst 0, 1) := by decide +kernel
theorem d_Unit_init_20 : decode prog_6_method_1_code 20 = .ok (.putfield 21, 3) := by decide +kernel
theorem d_Unit_init_23 : decode prog_6_method_1_code 23 = .ok (.iconst 0, 1) := by decide +kernel
theorem d_Unit_init_24 : decode prog_6_method_1_code 24 = .ok (.istore_n 2, 1) := by decide +kernel
theorem d_Unit_init_25 : decode prog_6_method_1_code 25 = .ok (.iload_n 2, 1) := by decide +kernel
theorem d_Unit_init_26 : decode prog_6_method_1_code 26 = .ok (.bipush 60, 2) := by decide +kernel
theorem d_Unit_init_28 : decode prog_6_method_1_code 28 = .ok (.if_icmp .ge 16, 3) := by decide +kernel
theorem d_Unit_init_31 : decode prog_6_method_1_code 31 = .ok (.aload_n 0, 1) := by decide +kernel
theorem d_Unit_init_32 : decode prog_6_method_1_code 32 = .ok (.getfield 11, 3) := by decide +kernel
theorem d_Unit_init_35 : decode prog_6_method_1_code 35 = .ok (.iload_n 2, 1) := by decide +kernel
theorem d_Unit_init_36 : decode prog_6_method_1_code 36 = .ok (.aload_n 1, 1) := by decide +kernel
theorem d_Unit_init_37 : decode prog_6_method_1_code 37 = .ok (.aastore, 1) := by decide +kernel
theorem d_Unit_init_38 : decode prog_6_method_1_code 38 = .ok (.iinc 2 1, 3) := by decide +kernel
theorem d_Unit_init_41 : decode prog_6_method_1_code 41 = .ok (.goto (-16), 3) := by decide +kernel
theorem d_Unit_init_44 : decode prog_6_method_1_code 44 = .ok (.return_, 1) := by decide +kernel
theorem d_Unit_holds_0 : decode prog_6_method_2_code 0 = .ok (.aload_n 0, 1) := by decide +kernel
theorem d_Unit_holds_1 : decode prog_6_method_2_code 1 = .ok (.getfield 11, 3) := by decide +kernel
theorem d_Unit_holds_4 : decode prog_6_method_2_code 4 = .ok (.iload_n 1, 1) := by decide +kernel
theorem d_Unit_holds_5 : decode prog_6_method_2_code 5 = .ok (.aaload, 1) := by decide +kernel
theorem d_Unit_holds_6 : decode prog_6_method_2_code 6 = .ok (.getfield 25, 3) := by decide +kernel
theorem d_Unit_holds_9 : decode prog_6_method_2_code 9 = .ok (.ifCond .eq 7, 3) := by decide +kernel
theorem d_Unit_holds_12 : decode prog_6_method_2_code 12 = .ok (.iconst 1, 1) := by decide +kernel
theorem d_Unit_holds_13 : decode prog_6_method_2_code 13 = .ok (.goto 4, 3) := by decide +kernel
theorem d_Unit_holds_16 : decode prog_6_method_2_code 16 = .ok (.iconst 0, 1) := by decide +kernel
theorem d_Unit_holds_17 : decode prog_6_method_2_code 17 = .ok (.ireturn, 1) := by decide +kernel
theorem d_Entry_init_0 : decode prog_3_method_1_code 0 = .ok (.aload_n 0, 1) := by decide +kernel
theorem d_Entry_init_1 : decode prog_3_method_1_code 1 = .ok (.invokespecial 1, 3) := by decide +kernel
theorem d_Entry_init_4 : decode prog_3_method_1_code 4 = .ok (.aload_n 0, 1) := by decide +kernel
theorem d_Entry_init_5 : decode prog_3_method_1_code 5 = .ok (.iload_n 1, 1) := by decide +kernel
theorem d_Entry_init_6 : decode prog_3_method_1_code 6 = .ok (.putfield 7, 3) := by decide +kernel
theorem d_Entry_init_9 : decode prog_3_method_1_code 9 = .ok (.aload_n 0, 1) := by decide +kernel
theorem d_Entry_init_10 : decode prog_3_method_1_code 10 = .ok (.iload_n 2, 1) := by decide +kernel
theorem d_Entry_init_11 : decode prog_3_method_1_code 11 = .ok (.putfield 13, 3) := by decide +kernel
theorem d_Entry_init_14 : decode prog_3_method_1_code 14 = .ok (.aload_n 0, 1) := by decide +kernel
theorem d_Entry_init_15 : decode prog_3_method_1_code 15 = .ok (.aload_n 3, 1) := by decide +kernel
theorem d_Entry_init_16 : decode prog_3_method_1_code 16 = .ok (.putfield 16, 3) := by decide +kernel
theorem d_Entry_init_19 : decode prog_3_method_1_code 19 = .ok (.return_, 1) := by decide +kernel
theorem d_Layout_init_0 : decode prog_4_method_1_code 0 = .ok (.aload_n 0, 1) := by decide +kernel
theorem d_Layout_init_1 : decode prog_4_method_1_code 1 = .ok (.invokespecial 3, 3) := by decide +kernel
theorem d_Layout_init_4 : decode prog_4_method_1_code 4 = .ok (.aload_n 0, 1) := by decide +kernel
theorem d_Layout_init_5 : decode prog_4_method_1_code 5 = .ok (.iload_n 1, 1) := by decide +kernel
theorem d_Layout_init_6 : decode prog_4_method_1_code 6 = .ok (.putfield 9, 3) := by decide +kernel
theorem d_Layout_init_9 : decode prog_4_method_1_code 9 = .ok (.aload_n 0, 1) := by decide +kernel
theorem d_Layout_init_10 : decode prog_4_method_1_code 10 = .ok (.aload_n 2, 1) := by decide +kernel
theorem d_Layout_init_11 : decode prog_4_method_1_code 11 = .ok (.putfield 15, 3) := by decide +kernel
theorem d_Layout_init_14 : decode prog_4_method_1_code 14 = .ok (.aload_n 0, 1) := by decide +kernel
theorem d_Layout_init_15 : decode prog_4_method_1_code 15 = .ok (.aload_n 3, 1) := by decide +kernel
theorem d_Layout_init_16 : decode prog_4_method_1_code 16 = .ok (.putfield 19, 3) := by decide +kernel
theorem d_Layout_init_19 : decode prog_4_method_1_code 19 = .ok (.return_, 1) := by decide +kernel
theorem d_Layout_chain_0 : decode prog_4_method_2_code 0 = .ok (.iload_n 1, 1) := by decide +kernel
theorem d_Layout_chain_1 : decode prog_4_method_2_code 1 = .ok (.ifCond .ne 10, 3) := by decide +kernel
theorem d_Layout_chain_4 : decode prog_4_method_2_code 4 = .ok (.aload_n 0, 1) := by decide +kernel
theorem d_Layout_chain_5 : decode prog_4_method_2_code 5 = .ok (.getfield 15, 3) := by decide +kernel
theorem d_Layout_chain_8 : decode prog_4_method_2_code 8 = .ok (.goto 7, 3) := by decide +kernel
theorem d_Layout_chain_11 : decode prog_4_method_2_code 11 = .ok (.aload_n 0, 1) := by decide +kernel
theorem d_Layout_chain_12 : decode prog_4_method_2_code 12 = .ok (.getfield 19, 3) := by decide +kernel
theorem d_Layout_chain_15 : decode prog_4_method_2_code 15 = .ok (.areturn, 1) := by decide +kernel
theorem d_Layout_chainOf_0 : decode prog_4_method_3_code 0 = .ok (.aload_n 0, 1) := by decide +kernel
theorem d_Layout_chainOf_1 : decode prog_4_method_3_code 1 = .ok (.iload_n 1, 1) := by decide +kernel
theorem d_Layout_chainOf_2 : decode prog_4_method_3_code 2 = .ok (.iconst 2, 1) := by decide +kernel
theorem d_Layout_chainOf_3 : decode prog_4_method_3_code 3 = .ok (.irem, 1) := by decide +kernel
theorem d_Layout_chainOf_4 : decode prog_4_method_3_code 4 = .ok (.invokevirtual 22, 3) := by decide +kernel
theorem d_Layout_chainOf_7 : decode prog_4_method_3_code 7 = .ok (.areturn, 1) := by decide +kernel
theorem d_Layout_next_0 : decode prog_4_method_4_code 0 = .ok (.iload_n 1, 1) := by decide +kernel
theorem d_Layout_next_1 : decode prog_4_method_4_code 1 = .ok (.ifCond .ne 24, 3) := by decide +kernel
theorem d_Layout_next_4 : decode prog_4_method_4_code 4 = .ok (.new 10, 3) := by decide +kernel
theorem d_Layout_next_7 : decode prog_4_method_4_code 7 = .ok (.dup, 1) := by decide +kernel
theorem d_Layout_next_8 : decode prog_4_method_4_code 8 = .ok (.aload_n 0, 1) := by decide +kernel
theorem d_Layout_next_9 : decode prog_4_method_4_code 9 = .ok (.getfield 9, 3) := by decide +kernel
theorem d_Layout_next_12 : decode prog_4_method_4_code 12 = .ok (.iconst 1, 1) := by decide +kernel
theorem d_Layout_next_13 : decode prog_4_method_4_code 13 = .ok (.iadd, 1) := by decide +kernel
theorem d_Layout_next_14 : decode prog_4_method_4_code 14 = .ok (.aload_n 2, 1) := by decide +kernel
theorem d_Layout_next_15 : decode prog_4_method_4_code 15 = .ok (.aload_n 0, 1) := by decide +kernel
theorem d_Layout_next_16 : decode prog_4_method_4_code 16 = .ok (.getfield 19, 3) := by decide +kernel
theorem d_Layout_next_19 : decode prog_4_method_4_code 19 = .ok (.invokespecial 26, 3) := by decide +kernel
theorem d_Layout_next_22 : decode prog_4_method_4_code 22 = .ok (.goto 21, 3) := by decide +kernel
theorem d_Layout_next_25 : decode prog_4_method_4_code 25 = .ok (.new 10, 3) := by decide +kernel
theorem d_Layout_next_28 : decode prog_4_method_4_code 28 = .ok (.dup, 1) := by decide +kernel
theorem d_Layout_next_29 : decode prog_4_method_4_code 29 = .ok (.aload_n 0, 1) := by decide +kernel
theorem d_Layout_next_30 : decode prog_4_method_4_code 30 = .ok (.getfield 9, 3) := by decide +kernel
theorem d_Layout_next_33 : decode prog_4_method_4_code 33 = .ok (.iconst 1, 1) := by decide +kernel
theorem d_Layout_next_34 : decode prog_4_method_4_code 34 = .ok (.iadd, 1) := by decide +kernel
theorem d_Layout_next_35 : decode prog_4_method_4_code 35 = .ok (.aload_n 0, 1) := by decide +kernel
theorem d_Layout_next_36 : decode prog_4_method_4_code 36 = .ok (.getfield 15, 3) := by decide +kernel
theorem d_Layout_next_39 : decode prog_4_method_4_code 39 = .ok (.aload_n 2, 1) := by decide +kernel
theorem d_Layout_next_40 : decode prog_4_method_4_code 40 = .ok (.invokespecial 26, 3) := by decide +kernel
theorem d_Layout_next_43 : decode prog_4_method_4_code 43 = .ok (.areturn, 1) := by decide +kernel
theorem d_Seq_init_0 : decode prog_5_method_1_code 0 = .ok (.aload_n 0, 1) := by decide +kernel
theorem d_Seq_init_1 : decode prog_5_method_1_code 1 = .ok (.invokespecial 3, 3) := by decide +kernel
theorem d_Seq_init_4 : decode prog_5_method_1_code 4 = .ok (.aload_n 0, 1) := by decide +kernel
theorem d_Seq_init_5 : decode prog_5_method_1_code 5 = .ok (.iconst 0, 1) := by decide +kernel
theorem d_Seq_init_6 : decode prog_5_method_1_code 6 = .ok (.putfield 9, 3) := by decide +kernel
theorem d_Seq_init_9 : decode prog_5_method_1_code 9 = .ok (.aload_n 0, 1) := by decide +kernel
theorem d_Seq_init_10 : decode prog_5_method_1_code 10 = .ok (.iconst 1, 1) := by decide +kernel
theorem d_Seq_init_11 : decode prog_5_method_1_code 11 = .ok (.putfield 15, 3) := by decide +kernel
theorem d_Seq_init_14 : decode prog_5_method_1_code 14 = .ok (.aload_n 0, 1) := by decide +kernel
theorem d_Seq_init_15 : decode prog_5_method_1_code 15 = .ok (.iconst 0, 1) := by decide +kernel
theorem d_Seq_init_16 : decode prog_5_method_1_code 16 = .ok (.putfield 19, 3) := by decide +kernel
theorem d_Seq_init_19 : decode prog_5_method_1_code 19 = .ok (.return_, 1) := by decide +kernel
theorem d_Seq_restart_0 : decode prog_5_method_2_code 0 = .ok (.aload_n 0, 1) := by decide +kernel
theorem d_Seq_restart_1 : decode prog_5_method_2_code 1 = .ok (.iconst 0, 1) := by decide +kernel
theorem d_Seq_restart_2 : decode prog_5_method_2_code 2 = .ok (.putfield 9, 3) := by decide +kernel
theorem d_Seq_restart_5 : decode prog_5_method_2_code 5 = .ok (.aload_n 0, 1) := by decide +kernel
theorem d_Seq_restart_6 : decode prog_5_method_2_code 6 = .ok (.iload_n 1, 1) := by decide +kernel
theorem d_Seq_restart_7 : decode prog_5_method_2_code 7 = .ok (.putfield 15, 3) := by decide +kernel
theorem d_Seq_restart_10 : decode prog_5_method_2_code 10 = .ok (.aload_n 0, 1) := by decide +kernel
theorem d_Seq_restart_11 : decode prog_5_method_2_code 11 = .ok (.iload_n 2, 1) := by decide +kernel
theorem d_Seq_restart_12 : decode prog_5_method_2_code 12 = .ok (.putfield 19, 3) := by decide +kernel
theorem d_Seq_restart_15 : decode prog_5_method_2_code 15 = .ok (.return_, 1) := by decide +kernel
theorem d_Work_init_0 : decode prog_7_method_1_code 0 = .ok (.aload_n 0, 1) := by decide +kernel
theorem d_Work_init_1 : decode prog_7_method_1_code 1 = .ok (.invokespecial 3, 3) := by decide +kernel
theorem d_Work_init_4 : decode prog_7_method_1_code 4 = .ok (.aload_n 0, 1) := by decide +kernel
theorem d_Work_init_5 : decode prog_7_method_1_code 5 = .ok (.iconst 4, 1) := by decide +kernel
theorem d_Work_init_6 : decode prog_7_method_1_code 6 = .ok (.newarray .boolean, 2) := by decide +kernel
theorem d_Work_init_8 : decode prog_7_method_1_code 8 = .ok (.putfield 9, 3) := by decide +kernel
theorem d_Work_init_11 : decode prog_7_method_1_code 11 = .ok (.aload_n 0, 1) := by decide +kernel
theorem d_Work_init_12 : decode prog_7_method_1_code 12 = .ok (.iconst 4, 1) := by decide +kernel
theorem d_Work_init_13 : decode prog_7_method_1_code 13 = .ok (.newarray .int, 2) := by decide +kernel
theorem d_Work_init_15 : decode prog_7_method_1_code 15 = .ok (.putfield 15, 3) := by decide +kernel
theorem d_Work_init_18 : decode prog_7_method_1_code 18 = .ok (.aload_n 0, 1) := by decide +kernel
theorem d_Work_init_19 : decode prog_7_method_1_code 19 = .ok (.iconst 4, 1) := by decide +kernel
theorem d_Work_init_20 : decode prog_7_method_1_code 20 = .ok (.newarray .boolean, 2) := by decide +kernel
theorem d_Work_init_22 : decode prog_7_method_1_code 22 = .ok (.putfield 19, 3) := by decide +kernel
theorem d_Work_init_25 : decode prog_7_method_1_code 25 = .ok (.aload_n 0, 1) := by decide +kernel
theorem d_Work_init_26 : decode prog_7_method_1_code 26 = .ok (.iconst 4, 1) := by decide +kernel
theorem d_Work_init_27 : decode prog_7_method_1_code 27 = .ok (.newarray .int, 2) := by decide +kernel
theorem d_Work_init_29 : decode prog_7_method_1_code 29 = .ok (.putfield 22, 3) := by decide +kernel
theorem d_Work_init_32 : decode prog_7_method_1_code 32 = .ok (.return_, 1) := by decide +kernel
theorem d_Work_clear_0 : decode prog_7_method_2_code 0 = .ok (.iconst 0, 1) := by decide +kernel
theorem d_Work_clear_1 : decode prog_7_method_2_code 1 = .ok (.istore_n 1, 1) := by decide +kernel
theorem d_Work_clear_2 : decode prog_7_method_2_code 2 = .ok (.iload_n 1, 1) := by decide +kernel
theorem d_Work_clear_3 : decode prog_7_method_2_code 3 = .ok (.iconst 4, 1) := by decide +kernel
theorem d_Work_clear_4 : decode prog_7_method_2_code 4 = .ok (.if_icmp .ge 23, 3) := by decide +kernel
theorem d_Work_clear_7 : decode prog_7_method_2_code 7 = .ok (.aload_n 0, 1) := by decide +kernel
theorem d_Work_clear_8 : decode prog_7_method_2_code 8 = .ok (.getfield 9, 3) := by decide +kernel
theorem d_Work_clear_11 : decode prog_7_method_2_code 11 = .ok (.iload_n 1, 1) := by decide +kernel
theorem d_Work_clear_12 : decode prog_7_method_2_code 12 = .ok (.iconst 0, 1) := by decide +kernel
theorem d_Work_clear_13 : decode prog_7_method_2_code 13 = .ok (.bastore, 1) := by decide +kernel
theorem d_Work_clear_14 : decode prog_7_method_2_code 14 = .ok (.aload_n 0, 1) := by decide +kernel
theorem d_Work_clear_15 : decode prog_7_method_2_code 15 = .ok (.getfield 19, 3) := by decide +kernel
theorem d_Work_clear_18 : decode prog_7_method_2_code 18 = .ok (.iload_n 1, 1) := by decide +kernel
theorem d_Work_clear_19 : decode prog_7_method_2_code 19 = .ok (.iconst 0, 1) := by decide +kernel
theorem d_Work_clear_20 : decode prog_7_method_2_code 20 = .ok (.bastore, 1) := by decide +kernel
theorem d_Work_clear_21 : decode prog_7_method_2_code 21 = .ok (.iinc 1 1, 3) := by decide +kernel
theorem d_Work_clear_24 : decode prog_7_method_2_code 24 = .ok (.goto (-22), 3) := by decide +kernel
theorem d_Work_clear_27 : decode prog_7_method_2_code 27 = .ok (.return_, 1) := by decide +kernel
theorem d_Work_noteRead_0 : decode prog_7_method_3_code 0 = .ok (.aload_n 0, 1) := by decide +kernel
theorem d_Work_noteRead_1 : decode prog_7_method_3_code 1 = .ok (.getfield 9, 3) := by decide +kernel
theorem d_Work_noteRead_4 : decode prog_7_method_3_code 4 = .ok (.iload_n 1, 1) := by decide +kernel
theorem d_Work_noteRead_5 : decode prog_7_method_3_code 5 = .ok (.baload, 1) := by decide +kernel
theorem d_Work_noteRead_6 : decode prog_7_method_3_code 6 = .ok (.ifCond .ne 17, 3) := by decide +kernel
theorem d_Work_noteRead_9 : decode prog_7_method_3_code 9 = .ok (.aload_n 0, 1) := by decide +kernel
theorem d_Work_noteRead_10 : decode prog_7_method_3_code 10 = .ok (.getfield 9, 3) := by decide +kernel
theorem d_Work_noteRead_13 : decode prog_7_method_3_code 13 = .ok (.iload_n 1, 1) := by decide +kernel
theorem d_Work_noteRead_14 : decode prog_7_method_3_code 14 = .ok (.iconst 1, 1) := by decide +kernel
theorem d_Work_noteRead_15 : decode prog_7_method_3_code 15 = .ok (.bastore, 1) := by decide +kernel
theorem d_Work_noteRead_16 : decode prog_7_method_3_code 16 = .ok (.aload_n 0, 1) := by decide +kernel
theorem d_Work_noteRead_17 : decode prog_7_method_3_code 17 = .ok (.getfield 15, 3) := by decide +kernel
theorem d_Work_noteRead_20 : decode prog_7_method_3_code 20 = .ok (.iload_n 1, 1) := by decide +kernel
theorem d_Work_noteRead_21 : decode prog_7_method_3_code 21 = .ok (.iload_n 2, 1) := by decide +kernel
theorem d_Work_noteRead_22 : decode prog_7_method_3_code 22 = .ok (.iastore, 1) := by decide +kernel
theorem d_Work_noteRead_23 : decode prog_7_method_3_code 23 = .ok (.return_, 1) := by decide +kernel
theorem d_Work_setPut_0 : decode prog_7_method_4_code 0 = .ok (.aload_n 0, 1) := by decide +kernel
theorem d_Work_setPut_1 : decode prog_7_method_4_code 1 = .ok (.getfield 19, 3) := by decide +kernel
theorem d_Work_setPut_4 : decode prog_7_method_4_code 4 = .ok (.iload_n 1, 1) := by decide +kernel
theorem d_Work_setPut_5 : decode prog_7_method_4_code 5 = .ok (.iconst 1, 1) := by decide +kernel
theorem d_Work_setPut_6 : decode prog_7_method_4_code 6 = .ok (.bastore, 1) := by decide +kernel
theorem d_Work_setPut_7 : decode prog_7_method_4_code 7 = .ok (.aload_n 0, 1) := by decide +kernel
theorem d_Work_setPut_8 : decode prog_7_method_4_code 8 = .ok (.getfield 22, 3) := by decide +kernel
theorem d_Work_setPut_11 : decode prog_7_method_4_code 11 = .ok (.iload_n 1, 1) := by decide +kernel
theorem d_Work_setPut_12 : decode prog_7_method_4_code 12 = .ok (.iload_n 2, 1) := by decide +kernel
theorem d_Work_setPut_13 : decode prog_7_method_4_code 13 = .ok (.iastore, 1) := by decide +kernel
theorem d_Work_setPut_14 : decode prog_7_method_4_code 14 = .ok (.return_, 1) := by decide +kernel
theorem d_Work_putCount_0 : decode prog_7_method_5_code 0 = .ok (.iconst 0, 1) := by decide +kernel
theorem d_Work_putCount_1 : decode prog_7_method_5_code 1 = .ok (.istore_n 1, 1) := by decide +kernel
theorem d_Work_putCount_2 : decode prog_7_method_5_code 2 = .ok (.iconst 0, 1) := by decide +kernel
theorem d_Work_putCount_3 : decode prog_7_method_5_code 3 = .ok (.istore_n 2, 1) := by decide +kernel
theorem d_Work_putCount_4 : decode prog_7_method_5_code 4 = .ok (.iload_n 2, 1) := by decide +kernel
theorem d_Work_putCount_5 : decode prog_7_method_5_code 5 = .ok (.iconst 4, 1) := by decide +kernel
theorem d_Work_putCount_6 : decode prog_7_method_5_code 6 = .ok (.if_icmp .ge 21, 3) := by decide +kernel
theorem d_Work_putCount_9 : decode prog_7_method_5_code 9 = .ok (.aload_n 0, 1) := by decide +kernel
theorem d_Work_putCount_10 : decode prog_7_method_5_code 10 = .ok (.getfield 19, 3) := by decide +kernel
theorem d_Work_putCount_13 : decode prog_7_method_5_code 13 = .ok (.iload_n 2, 1) := by decide +kernel
theorem d_Work_putCount_14 : decode prog_7_method_5_code 14 = .ok (.baload, 1) := by decide +kernel
theorem d_Work_putCount_15 : decode prog_7_method_5_code 15 = .ok (.ifCond .eq 6, 3) := by decide +kernel
theorem d_Work_putCount_18 : decode prog_7_method_5_code 18 = .ok (.iinc 1 1, 3) := by decide +kernel
theorem d_Work_putCount_21 : decode prog_7_method_5_code 21 = .ok (.iinc 2 1, 3) := by decide +kernel
theorem d_Work_putCount_24 : decode prog_7_method_5_code 24 = .ok (.goto (-20), 3) := by decide +kernel
theorem d_Work_putCount_27 : decode prog_7_method_5_code 27 = .ok (.iload_n 1, 1) := by decide +kernel
theorem d_Work_putCount_28 : decode prog_7_method_5_code 28 = .ok (.ireturn, 1) := by decide +kernel
theorem d_Work_copy_0 : decode prog_7_method_6_code 0 = .ok (.new 10, 3) := by decide +kernel
theorem d_Work_copy_3 : decode prog_7_method_6_code 3 = .ok (.dup, 1) := by decide +kernel
theorem d_Work_copy_4 : decode prog_7_method_6_code 4 = .ok (.invokespecial 25, 3) := by decide +kernel
theorem d_Work_copy_7 : decode prog_7_method_6_code 7 = .ok (.astore_n 1, 1) := by decide +kernel
theorem d_Work_copy_8 : decode prog_7_method_6_code 8 = .ok (.iconst 0, 1) := by decide +kernel
theorem d_Work_copy_9 : decode prog_7_method_6_code 9 = .ok (.istore_n 2, 1) := by decide +kernel
theorem d_Work_copy_10 : decode prog_7_method_6_code 10 = .ok (.iload_n 2, 1) := by decide +kernel
theorem d_Work_copy_11 : decode prog_7_method_6_code 11 = .ok (.iconst 4, 1) := by decide +kernel
theorem d_Work_copy_12 : decode prog_7_method_6_code 12 = .ok (.if_icmp .ge 57, 3) := by decide +kernel
theorem d_Work_copy_15 : decode prog_7_method_6_code 15 = .ok (.aload_n 1, 1) := by decide +kernel
theorem d_Work_copy_16 : decode prog_7_method_6_code 16 = .ok (.getfield 9, 3) := by decide +kernel
theorem d_Work_copy_19 : decode prog_7_method_6_code 19 = .ok (.iload_n 2, 1) := by decide +kernel
theorem d_Work_copy_20 : decode prog_7_method_6_code 20 = .ok (.aload_n 0, 1) := by decide +kernel
theorem d_Work_copy_21 : decode prog_7_method_6_code 21 = .ok (.getfield 9, 3) := by decide +kernel
theorem d_Work_copy_24 : decode prog_7_method_6_code 24 = .ok (.iload_n 2, 1) := by decide +kernel
theorem d_Work_copy_25 : decode prog_7_method_6_code 25 = .ok (.baload, 1) := by decide +kernel
theorem d_Work_copy_26 : decode prog_7_method_6_code 26 = .ok (.bastore, 1) := by decide +kernel
theorem d_Work_copy_27 : decode prog_7_method_6_code 27 = .ok (.aload_n 1, 1) := by decide +kernel
theorem d_Work_copy_28 : decode prog_7_method_6_code 28 = .ok (.getfield 15, 3) := by decide +kernel
theorem d_Work_copy_31 : decode prog_7_method_6_code 31 = .ok (.iload_n 2, 1) := by decide +kernel
theorem d_Work_copy_32 : decode prog_7_method_6_code 32 = .ok (.aload_n 0, 1) := by decide +kernel
theorem d_Work_copy_33 : decode prog_7_method_6_code 33 = .ok (.getfield 15, 3) := by decide +kernel
theorem d_Work_copy_36 : decode prog_7_method_6_code 36 = .ok (.iload_n 2, 1) := by decide +kernel
theorem d_Work_copy_37 : decode prog_7_method_6_code 37 = .ok (.iaload, 1) := by decide +kernel
theorem d_Work_copy_38 : decode prog_7_method_6_code 38 = .ok (.iastore, 1) := by decide +kernel
theorem d_Work_copy_39 : decode prog_7_method_6_code 39 = .ok (.aload_n 1, 1) := by decide +kernel
theorem d_Work_copy_40 : decode prog_7_method_6_code 40 = .ok (.getfield 19, 3) := by decide +kernel
theorem d_Work_copy_43 : decode prog_7_method_6_code 43 = .ok (.iload_n 2, 1) := by decide +kernel
theorem d_Work_copy_44 : decode prog_7_method_6_code 44 = .ok (.aload_n 0, 1) := by decide +kernel
theorem d_Work_copy_45 : decode prog_7_method_6_code 45 = .ok (.getfield 19, 3) := by decide +kernel
theorem d_Work_copy_48 : decode prog_7_method_6_code 48 = .ok (.iload_n 2, 1) := by decide +kernel
theorem d_Work_copy_49 : decode prog_7_method_6_code 49 = .ok (.baload, 1) := by decide +kernel
theorem d_Work_copy_50 : decode prog_7_method_6_code 50 = .ok (.bastore, 1) := by decide +kernel
theorem d_Work_copy_51 : decode prog_7_method_6_code 51 = .ok (.aload_n 1, 1) := by decide +kernel
theorem d_Work_copy_52 : decode prog_7_method_6_code 52 = .ok (.getfield 22, 3) := by decide +kernel
theorem d_Work_copy_55 : decode prog_7_method_6_code 55 = .ok (.iload_n 2, 1) := by decide +kernel
theorem d_Work_copy_56 : decode prog_7_method_6_code 56 = .ok (.aload_n 0, 1) := by decide +kernel
theorem d_Work_copy_57 : decode prog_7_method_6_code 57 = .ok (.getfield 22, 3) := by decide +kernel
theorem d_Work_copy_60 : decode prog_7_method_6_code 60 = .ok (.iload_n 2, 1) := by decide +kernel
theorem d_Work_copy_61 : decode prog_7_method_6_code 61 = .ok (.iaload, 1) := by decide +kernel
theorem d_Work_copy_62 : decode prog_7_method_6_code 62 = .ok (.iastore, 1) := by decide +kernel
theorem d_Work_copy_63 : decode prog_7_method_6_code 63 = .ok (.iinc 2 1, 3) := by decide +kernel
theorem d_Work_copy_66 : decode prog_7_method_6_code 66 = .ok (.goto (-56), 3) := by decide +kernel
theorem d_Work_copy_69 : decode prog_7_method_6_code 69 = .ok (.aload_n 1, 1) := by decide +kernel
theorem d_Work_copy_70 : decode prog_7_method_6_code 70 = .ok (.areturn, 1) := by decide +kernel
theorem d_Client_init_0 : decode prog_2_method_1_code 0 = .ok (.aload_n 0, 1) := by decide +kernel
theorem d_Client_init_1 : decode prog_2_method_1_code 1 = .ok (.invokespecial 3, 3) := by decide +kernel
theorem d_Client_init_4 : decode prog_2_method_1_code 4 = .ok (.aload_n 0, 1) := by decide +kernel
theorem d_Client_init_5 : decode prog_2_method_1_code 5 = .ok (.iconst 4, 1) := by decide +kernel
theorem d_Client_init_6 : decode prog_2_method_1_code 6 = .ok (.newarray .int, 2) := by decide +kernel
theorem d_Client_init_8 : decode prog_2_method_1_code 8 = .ok (.putfield 9, 3) := by decide +kernel
theorem d_Client_init_11 : decode prog_2_method_1_code 11 = .ok (.aload_n 0, 1) := by decide +kernel
theorem d_Client_init_12 : decode prog_2_method_1_code 12 = .ok (.iconst 4, 1) := by decide +kernel
theorem d_Client_init_13 : decode prog_2_method_1_code 13 = .ok (.newarray .int, 2) := by decide +kernel
theorem d_Client_init_15 : decode prog_2_method_1_code 15 = .ok (.putfield 15, 3) := by decide +kernel
theorem d_Client_init_18 : decode prog_2_method_1_code 18 = .ok (.aload_n 0, 1) := by decide +kernel
theorem d_Client_init_19 : decode prog_2_method_1_code 19 = .ok (.new 18, 3) := by decide +kernel
theorem d_Client_init_22 : decode prog_2_method_1_code 22 = .ok (.dup, 1) := by decide +kernel
theorem d_Client_init_23 : decode prog_2_method_1_code 23 = .ok (.invokespecial 20, 3) := by decide +kernel
theorem d_Client_init_26 : decode prog_2_method_1_code 26 = .ok (.putfield 21, 3) := by decide +kernel
theorem d_Client_init_29 : decode prog_2_method_1_code 29 = .ok (.aload_n 0, 1) := by decide +kernel
theorem d_Client_init_30 : decode prog_2_method_1_code 30 = .ok (.iconst 0, 1) := by decide +kernel
theorem d_Client_init_31 : decode prog_2_method_1_code 31 = .ok (.putfield 25, 3) := by decide +kernel
theorem d_Client_init_34 : decode prog_2_method_1_code 34 = .ok (.aload_n 0, 1) := by decide +kernel
theorem d_Client_init_35 : decode prog_2_method_1_code 35 = .ok (.iconst 0, 1) := by decide +kernel
theorem d_Client_init_36 : decode prog_2_method_1_code 36 = .ok (.putfield 29, 3) := by decide +kernel
theorem d_Client_init_39 : decode prog_2_method_1_code 39 = .ok (.aload_n 0, 1) := by decide +kernel
theorem d_Client_init_40 : decode prog_2_method_1_code 40 = .ok (.aload_n 1, 1) := by decide +kernel
theorem d_Client_init_41 : decode prog_2_method_1_code 41 = .ok (.putfield 33, 3) := by decide +kernel
theorem d_Client_init_44 : decode prog_2_method_1_code 44 = .ok (.return_, 1) := by decide +kernel
theorem d_Client_agesMatch_0 : decode prog_2_method_2_code 0 = .ok (.iconst 0, 1) := by decide +kernel
theorem d_Client_agesMatch_1 : decode prog_2_method_2_code 1 = .ok (.istore_n 2, 1) := by decide +kernel
theorem d_Client_agesMatch_2 : decode prog_2_method_2_code 2 = .ok (.iload_n 2, 1) := by decide +kernel
theorem d_Client_agesMatch_3 : decode prog_2_method_2_code 3 = .ok (.iconst 4, 1) := by decide +kernel
theorem d_Client_agesMatch_4 : decode prog_2_method_2_code 4 = .ok (.if_icmp .ge 35, 3) := by decide +kernel
theorem d_Client_agesMatch_7 : decode prog_2_method_2_code 7 = .ok (.aload_n 1, 1) := by decide +kernel
theorem d_Client_agesMatch_8 : decode prog_2_method_2_code 8 = .ok (.getfield 37, 3) := by decide +kernel
theorem d_Client_agesMatch_11 : decode prog_2_method_2_code 11 = .ok (.iload_n 2, 1) := by decide +kernel
theorem d_Client_agesMatch_12 : decode prog_2_method_2_code 12 = .ok (.baload, 1) := by decide +kernel
theorem d_Client_agesMatch_13 : decode prog_2_method_2_code 13 = .ok (.ifCond .eq 20, 3) := by decide +kernel
theorem d_Client_agesMatch_16 : decode prog_2_method_2_code 16 = .ok (.aload_n 1, 1) := by decide +kernel
theorem d_Client_agesMatch_17 : decode prog_2_method_2_code 17 = .ok (.getfield 41, 3) := by decide +kernel
theorem d_Client_agesMatch_20 : decode prog_2_method_2_code 20 = .ok (.iload_n 2, 1) := by decide +kernel
theorem d_Client_agesMatch_21 : decode prog_2_method_2_code 21 = .ok (.iaload, 1) := by decide +kernel
theorem d_Client_agesMatch_22 : decode prog_2_method_2_code 22 = .ok (.aload_n 0, 1) := by decide +kernel
theorem d_Client_agesMatch_23 : decode prog_2_method_2_code 23 = .ok (.getfield 15, 3) := by decide +kernel
theorem d_Client_agesMatch_26 : decode prog_2_method_2_code 26 = .ok (.iload_n 2, 1) := by decide +kernel
theorem d_Client_agesMatch_27 : decode prog_2_method_2_code 27 = .ok (.iaload, 1) := by decide +kernel
theorem d_Client_agesMatch_28 : decode prog_2_method_2_code 28 = .ok (.if_icmp .eq 5, 3) := by decide +kernel
theorem d_Client_agesMatch_31 : decode prog_2_method_2_code 31 = .ok (.iconst 0, 1) := by decide +kernel
theorem d_Client_agesMatch_32 : decode prog_2_method_2_code 32 = .ok (.ireturn, 1) := by decide +kernel
theorem d_Client_agesMatch_33 : decode prog_2_method_2_code 33 = .ok (.iinc 2 1, 3) := by decide +kernel
theorem d_Client_agesMatch_36 : decode prog_2_method_2_code 36 = .ok (.goto (-34), 3) := by decide +kernel
theorem d_Client_agesMatch_39 : decode prog_2_method_2_code 39 = .ok (.iconst 1, 1) := by decide +kernel
theorem d_Client_agesMatch_40 : decode prog_2_method_2_code 40 = .ok (.ireturn, 1) := by decide +kernel
theorem d_Client_apply_0 : decode prog_2_method_3_code 0 = .ok (.aload_n 0, 1) := by decide +kernel
theorem d_Client_apply_1 : decode prog_2_method_3_code 1 = .ok (.aload_n 1, 1) := by decide +kernel
theorem d_Client_apply_2 : decode prog_2_method_3_code 2 = .ok (.invokevirtual 44, 3) := by decide +kernel
theorem d_Client_apply_5 : decode prog_2_method_3_code 5 = .ok (.ifCond .ne 5, 3) := by decide +kernel
theorem d_Client_apply_8 : decode prog_2_method_3_code 8 = .ok (.iconst 0, 1) := by decide +kernel
theorem d_Client_apply_9 : decode prog_2_method_3_code 9 = .ok (.ireturn, 1) := by decide +kernel
theorem d_Client_apply_10 : decode prog_2_method_3_code 10 = .ok (.iconst 0, 1) := by decide +kernel
theorem d_Client_apply_11 : decode prog_2_method_3_code 11 = .ok (.istore_n 3, 1) := by decide +kernel
theorem d_Client_apply_12 : decode prog_2_method_3_code 12 = .ok (.iload_n 3, 1) := by decide +kernel
theorem d_Client_apply_13 : decode prog_2_method_3_code 13 = .ok (.iconst 4, 1) := by decide +kernel
theorem d_Client_apply_14 : decode prog_2_method_3_code 14 = .ok (.if_icmp .ge 37, 3) := by decide +kernel
theorem d_Client_apply_17 : decode prog_2_method_3_code 17 = .ok (.aload_n 1, 1) := by decide +kernel
theorem d_Client_apply_18 : decode prog_2_method_3_code 18 = .ok (.getfield 48, 3) := by decide +kernel
theorem d_Client_apply_21 : decode prog_2_method_3_code 21 = .ok (.iload_n 3, 1) := by decide +kernel
theorem d_Client_apply_22 : decode prog_2_method_3_code 22 = .ok (.baload, 1) := by decide +kernel
theorem d_Client_apply_23 : decode prog_2_method_3_code 23 = .ok (.ifCond .eq 22, 3) := by decide +kernel
theorem d_Client_apply_26 : decode prog_2_method_3_code 26 = .ok (.aload_n 0, 1) := by decide +kernel
theorem d_Client_apply_27 : decode prog_2_method_3_code 27 = .ok (.getfield 9, 3) := by decide +kernel
theorem d_Client_apply_30 : decode prog_2_method_3_code 30 = .ok (.iload_n 3, 1) := by decide +kernel
theorem d_Client_apply_31 : decode prog_2_method_3_code 31 = .ok (.aload_n 1, 1) := by decide +kernel
theorem d_Client_apply_32 : decode prog_2_method_3_code 32 = .ok (.getfield 51, 3) := by decide +kernel
theorem d_Client_apply_35 : decode prog_2_method_3_code 35 = .ok (.iload_n 3, 1) := by decide +kernel
theorem d_Client_apply_36 : decode prog_2_method_3_code 36 = .ok (.iaload, 1) := by decide +kernel
theorem d_Client_apply_37 : decode prog_2_method_3_code 37 = .ok (.iastore, 1) := by decide +kernel
theorem d_Client_apply_38 : decode prog_2_method_3_code 38 = .ok (.aload_n 0, 1) := by decide +kernel
theorem d_Client_apply_39 : decode prog_2_method_3_code 39 = .ok (.getfield 15, 3) := by decide +kernel
theorem d_Client_apply_42 : decode prog_2_method_3_code 42 = .ok (.iload_n 3, 1) := by decide +kernel
theorem d_Client_apply_43 : decode prog_2_method_3_code 43 = .ok (.iload_n 2, 1) := by decide +kernel
theorem d_Client_apply_44 : decode prog_2_method_3_code 44 = .ok (.iastore, 1) := by decide +kernel
theorem d_Client_apply_45 : decode prog_2_method_3_code 45 = .ok (.iinc 3 1, 3) := by decide +kernel
theorem d_Client_apply_48 : decode prog_2_method_3_code 48 = .ok (.goto (-36), 3) := by decide +kernel
theorem d_Client_apply_51 : decode prog_2_method_3_code 51 = .ok (.iconst 1, 1) := by decide +kernel
theorem d_Client_apply_52 : decode prog_2_method_3_code 52 = .ok (.ireturn, 1) := by decide +kernel
