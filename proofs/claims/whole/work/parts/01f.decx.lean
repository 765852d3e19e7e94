theorem dX3_keep_23 : decode cX3_keep 23 = .ok (.putfield 18, 3) := by decide +kernel
theorem dX3_keep_26 : decode cX3_keep 26 = .ok (.aload_n 0, 1) := by decide +kernel
theorem dX3_keep_27 : decode cX3_keep 27 = .ok (.aload_n 0, 1) := by decide +kernel
theorem dX3_keep_28 : decode cX3_keep 28 = .ok (.getfield 26, 3) := by decide +kernel
theorem dX3_keep_31 : decode cX3_keep 31 = .ok (.iconst 1, 1) := by decide +kernel
theorem dX3_keep_32 : decode cX3_keep 32 = .ok (.iadd, 1) := by decide +kernel
theorem dX3_keep_33 : decode cX3_keep 33 = .ok (.bipush 6, 2) := by decide +kernel
theorem dX3_keep_35 : decode cX3_keep 35 = .ok (.invokestatic 29, 3) := by decide +kernel
theorem dX3_keep_38 : decode cX3_keep 38 = .ok (.putfield 26, 3) := by decide +kernel
theorem dX3_keep_41 : decode cX3_keep 41 = .ok (.return_, 1) := by decide +kernel
theorem dX3_restore_0 : decode cX3_restore 0 = .ok (.aload_n 0, 1) := by decide +kernel
theorem dX3_restore_1 : decode cX3_restore 1 = .ok (.getfield 26, 3) := by decide +kernel
theorem dX3_restore_4 : decode cX3_restore 4 = .ok (.ifCond .ne 5, 3) := by decide +kernel
theorem dX3_restore_7 : decode cX3_restore 7 = .ok (.iconst 0, 1) := by decide +kernel
theorem dX3_restore_8 : decode cX3_restore 8 = .ok (.ireturn, 1) := by decide +kernel
theorem dX3_restore_9 : decode cX3_restore 9 = .ok (.aload_n 0, 1) := by decide +kernel
theorem dX3_restore_10 : decode cX3_restore 10 = .ok (.dup, 1) := by decide +kernel
theorem dX3_restore_11 : decode cX3_restore 11 = .ok (.getfield 26, 3) := by decide +kernel
theorem dX3_restore_14 : decode cX3_restore 14 = .ok (.iconst 1, 1) := by decide +kernel
theorem dX3_restore_15 : decode cX3_restore 15 = .ok (.isub, 1) := by decide +kernel
theorem dX3_restore_16 : decode cX3_restore 16 = .ok (.putfield 26, 3) := by decide +kernel
theorem dX3_restore_19 : decode cX3_restore 19 = .ok (.aload_n 0, 1) := by decide +kernel
theorem dX3_restore_20 : decode cX3_restore 20 = .ok (.aload_n 0, 1) := by decide +kernel
theorem dX3_restore_21 : decode cX3_restore 21 = .ok (.getfield 18, 3) := by decide +kernel
theorem dX3_restore_24 : decode cX3_restore 24 = .ok (.bipush 6, 2) := by decide +kernel
theorem dX3_restore_26 : decode cX3_restore 26 = .ok (.iadd, 1) := by decide +kernel
theorem dX3_restore_27 : decode cX3_restore 27 = .ok (.iconst 1, 1) := by decide +kernel
theorem dX3_restore_28 : decode cX3_restore 28 = .ok (.isub, 1) := by decide +kernel
theorem dX3_restore_29 : decode cX3_restore 29 = .ok (.bipush 6, 2) := by decide +kernel
theorem dX3_restore_31 : decode cX3_restore 31 = .ok (.irem, 1) := by decide +kernel
theorem dX3_restore_32 : decode cX3_restore 32 = .ok (.putfield 18, 3) := by decide +kernel
theorem dX3_restore_35 : decode cX3_restore 35 = .ok (.aload_n 1, 1) := by decide +kernel
theorem dX3_restore_36 : decode cX3_restore 36 = .ok (.aload_n 0, 1) := by decide +kernel
theorem dX3_restore_37 : decode cX3_restore 37 = .ok (.getfield 11, 3) := by decide +kernel
theorem dX3_restore_40 : decode cX3_restore 40 = .ok (.aload_n 0, 1) := by decide +kernel
theorem dX3_restore_41 : decode cX3_restore 41 = .ok (.getfield 18, 3) := by decide +kernel
theorem dX3_restore_44 : decode cX3_restore 44 = .ok (.aaload, 1) := by decide +kernel
theorem dX3_restore_45 : decode cX3_restore 45 = .ok (.invokevirtual 22, 3) := by decide +kernel
theorem dX3_restore_48 : decode cX3_restore 48 = .ok (.iconst 1, 1) := by decide +kernel
theorem dX3_restore_49 : decode cX3_restore 49 = .ok (.ireturn, 1) := by decide +kernel
theorem dX4_init_0 : decode cX4_init 0 = .ok (.aload_n 0, 1) := by decide +kernel
theorem dX4_init_1 : decode cX4_init 1 = .ok (.invokespecial 3, 3) := by decide +kernel
theorem dX4_init_4 : decode cX4_init 4 = .ok (.aload_n 0, 1) := by decide +kernel
theorem dX4_init_5 : decode cX4_init 5 = .ok (.iload_n 1, 1) := by decide +kernel
theorem dX4_init_6 : decode cX4_init 6 = .ok (.iconst 0, 1) := by decide +kernel
theorem dX4_init_7 : decode cX4_init 7 = .ok (.invokestatic 9, 3) := by decide +kernel
theorem dX4_init_10 : decode cX4_init 10 = .ok (.newarray .int, 2) := by decide +kernel
theorem dX4_init_12 : decode cX4_init 12 = .ok (.putfield 15, 3) := by decide +kernel
theorem dX4_init_15 : decode cX4_init 15 = .ok (.return_, 1) := by decide +kernel
theorem dX4_append_0 : decode cX4_append 0 = .ok (.aload_n 0, 1) := by decide +kernel
theorem dX4_append_1 : decode cX4_append 1 = .ok (.getfield 21, 3) := by decide +kernel
theorem dX4_append_4 : decode cX4_append 4 = .ok (.aload_n 0, 1) := by decide +kernel
theorem dX4_append_5 : decode cX4_append 5 = .ok (.getfield 15, 3) := by decide +kernel
theorem dX4_append_8 : decode cX4_append 8 = .ok (.arraylength, 1) := by decide +kernel
theorem dX4_append_9 : decode cX4_append 9 = .ok (.if_icmp .ge 23, 3) := by decide +kernel
theorem dX4_append_12 : decode cX4_append 12 = .ok (.aload_n 0, 1) := by decide +kernel
theorem dX4_append_13 : decode cX4_append 13 = .ok (.getfield 15, 3) := by decide +kernel
theorem dX4_append_16 : decode cX4_append 16 = .ok (.aload_n 0, 1) := by decide +kernel
theorem dX4_append_17 : decode cX4_append 17 = .ok (.getfield 21, 3) := by decide +kernel
theorem dX4_append_20 : decode cX4_append 20 = .ok (.iload_n 1, 1) := by decide +kernel
theorem dX4_append_21 : decode cX4_append 21 = .ok (.iastore, 1) := by decide +kernel
theorem dX4_append_22 : decode cX4_append 22 = .ok (.aload_n 0, 1) := by decide +kernel
theorem dX4_append_23 : decode cX4_append 23 = .ok (.dup, 1) := by decide +kernel
theorem dX4_append_24 : decode cX4_append 24 = .ok (.getfield 21, 3) := by decide +kernel
theorem dX4_append_27 : decode cX4_append 27 = .ok (.iconst 1, 1) := by decide +kernel
theorem dX4_append_28 : decode cX4_append 28 = .ok (.iadd, 1) := by decide +kernel
theorem dX4_append_29 : decode cX4_append 29 = .ok (.putfield 21, 3) := by decide +kernel
theorem dX4_append_32 : decode cX4_append 32 = .ok (.return_, 1) := by decide +kernel
theorem dX4_answer_0 : decode cX4_answer 0 = .ok (.iload_n 1, 1) := by decide +kernel
theorem dX4_answer_1 : decode cX4_answer 1 = .ok (.iconst (-1), 1) := by decide +kernel
theorem dX4_answer_2 : decode cX4_answer 2 = .ok (.if_icmp .ne 8, 3) := by decide +kernel
theorem dX4_answer_5 : decode cX4_answer 5 = .ok (.aload_n 0, 1) := by decide +kernel
theorem dX4_answer_6 : decode cX4_answer 6 = .ok (.getfield 21, 3) := by decide +kernel
theorem dX4_answer_9 : decode cX4_answer 9 = .ok (.ireturn, 1) := by decide +kernel
theorem dX4_answer_10 : decode cX4_answer 10 = .ok (.iload_n 1, 1) := by decide +kernel
theorem dX4_answer_11 : decode cX4_answer 11 = .ok (.ifCond .lt 20, 3) := by decide +kernel
theorem dX4_answer_14 : decode cX4_answer 14 = .ok (.iload_n 1, 1) := by decide +kernel
theorem dX4_answer_15 : decode cX4_answer 15 = .ok (.aload_n 0, 1) := by decide +kernel
theorem dX4_answer_16 : decode cX4_answer 16 = .ok (.getfield 21, 3) := by decide +kernel
theorem dX4_answer_19 : decode cX4_answer 19 = .ok (.if_icmp .ge 12, 3) := by decide +kernel
theorem dX4_answer_22 : decode cX4_answer 22 = .ok (.aload_n 0, 1) := by decide +kernel
theorem dX4_answer_23 : decode cX4_answer 23 = .ok (.getfield 15, 3) := by decide +kernel
theorem dX4_answer_26 : decode cX4_answer 26 = .ok (.iload_n 1, 1) := by decide +kernel
theorem dX4_answer_27 : decode cX4_answer 27 = .ok (.iaload, 1) := by decide +kernel
theorem dX4_answer_28 : decode cX4_answer 28 = .ok (.goto 5, 3) := by decide +kernel
theorem dX4_answer_31 : decode cX4_answer 31 = .ok (.bipush (-5), 2) := by decide +kernel
theorem dX4_answer_33 : decode cX4_answer 33 = .ok (.ireturn, 1) := by decide +kernel
theorem dX5_init_0 : decode cX5_init 0 = .ok (.aload_n 0, 1) := by decide +kernel
theorem dX5_init_1 : decode cX5_init 1 = .ok (.invokespecial 5, 3) := by decide +kernel
theorem dX5_init_4 : decode cX5_init 4 = .ok (.aload_n 0, 1) := by decide +kernel
theorem dX5_init_5 : decode cX5_init 5 = .ok (.bipush 45, 2) := by decide +kernel
theorem dX5_init_7 : decode cX5_init 7 = .ok (.newarray .long, 2) := by decide +kernel
theorem dX5_init_9 : decode cX5_init 9 = .ok (.putfield 11, 3) := by decide +kernel
theorem dX5_init_12 : decode cX5_init 12 = .ok (.return_, 1) := by decide +kernel
theorem dX5_load_0 : decode cX5_load 0 = .ok (.aload_n 0, 1) := by decide +kernel
theorem dX5_load_1 : decode cX5_load 1 = .ok (.iconst 0, 1) := by decide +kernel
theorem dX5_load_2 : decode cX5_load 2 = .ok (.putfield 15, 3) := by decide +kernel
theorem dX5_load_5 : decode cX5_load 5 = .ok (.aload_n 0, 1) := by decide +kernel
theorem dX5_load_6 : decode cX5_load 6 = .ok (.aload_n 1, 1) := by decide +kernel
theorem dX5_load_7 : decode cX5_load 7 = .ok (.getfield 19, 3) := by decide +kernel
theorem dX5_load_10 : decode cX5_load 10 = .ok (.putfield 24, 3) := by decide +kernel
theorem dX5_load_13 : decode cX5_load 13 = .ok (.aload_n 0, 1) := by decide +kernel
theorem dX5_load_14 : decode cX5_load 14 = .ok (.aload_n 0, 1) := by decide +kernel
theorem dX5_load_15 : decode cX5_load 15 = .ok (.getfield 24, 3) := by decide +kernel
theorem dX5_load_18 : decode cX5_load 18 = .ok (.putfield 27, 3) := by decide +kernel
theorem dX5_load_21 : decode cX5_load 21 = .ok (.iconst 0, 1) := by decide +kernel
theorem dX5_load_22 : decode cX5_load 22 = .ok (.istore_n 3, 1) := by decide +kernel
theorem dX5_load_23 : decode cX5_load 23 = .ok (.iload_n 3, 1) := by decide +kernel
theorem dX5_load_24 : decode cX5_load 24 = .ok (.aload_n 1, 1) := by decide +kernel
theorem dX5_load_25 : decode cX5_load 25 = .ok (.getfield 30, 3) := by decide +kernel
theorem dX5_load_28 : decode cX5_load 28 = .ok (.if_icmp .ge 76, 3) := by decide +kernel
theorem dX5_load_31 : decode cX5_load 31 = .ok (.aload_n 0, 1) := by decide +kernel
theorem dX5_load_32 : decode cX5_load 32 = .ok (.getfield 15, 3) := by decide +kernel
theorem dX5_load_35 : decode cX5_load 35 = .ok (.iconst 5, 1) := by decide +kernel
theorem dX5_load_36 : decode cX5_load 36 = .ok (.if_icmp .ge 68, 3) := by decide +kernel
theorem dX5_load_39 : decode cX5_load 39 = .ok (.iload_n 2, 1) := by decide +kernel
theorem dX5_load_40 : decode cX5_load 40 = .ok (.iload_n 3, 1) := by decide +kernel
theorem dX5_load_41 : decode cX5_load 41 = .ok (.ishr, 1) := by decide +kernel
theorem dX5_load_42 : decode cX5_load 42 = .ok (.iconst 1, 1) := by decide +kernel
theorem dX5_load_43 : decode cX5_load 43 = .ok (.iand, 1) := by decide +kernel
theorem dX5_load_44 : decode cX5_load 44 = .ok (.ifCond .eq 54, 3) := by decide +kernel
theorem dX5_load_47 : decode cX5_load 47 = .ok (.iconst 0, 1) := by decide +kernel
theorem dX5_load_48 : decode cX5_load 48 = .ok (.istore 4, 2) := by decide +kernel
theorem dX5_load_50 : decode cX5_load 50 = .ok (.iload 4, 2) := by decide +kernel
theorem dX5_load_52 : decode cX5_load 52 = .ok (.aload_n 0, 1) := by decide +kernel
theorem dX5_load_53 : decode cX5_load 53 = .ok (.getfield 24, 3) := by decide +kernel
theorem dX5_load_56 : decode cX5_load 56 = .ok (.if_icmp .ge 32, 3) := by decide +kernel
theorem dX5_load_59 : decode cX5_load 59 = .ok (.aload_n 0, 1) := by decide +kernel
theorem dX5_load_60 : decode cX5_load 60 = .ok (.getfield 11, 3) := by decide +kernel
theorem dX5_load_63 : decode cX5_load 63 = .ok (.aload_n 0, 1) := by decide +kernel
theorem dX5_load_64 : decode cX5_load 64 = .ok (.getfield 15, 3) := by decide +kernel
theorem dX5_load_67 : decode cX5_load 67 = .ok (.bipush 9, 2) := by decide +kernel
theorem dX5_load_69 : decode cX5_load 69 = .ok (.imul, 1) := by decide +kernel
theorem dX5_load_70 : decode cX5_load 70 = .ok (.iload 4, 2) := by decide +kernel
theorem dX5_load_72 : decode cX5_load 72 = .ok (.iadd, 1) := by decide +kernel
theorem dX5_load_73 : decode cX5_load 73 = .ok (.aload_n 1, 1) := by decide +kernel
theorem dX5_load_74 : decode cX5_load 74 = .ok (.iload_n 3, 1) := by decide +kernel
theorem dX5_load_75 : decode cX5_load 75 = .ok (.iload 4, 2) := by decide +kernel
theorem dX5_load_77 : decode cX5_load 77 = .ok (.invokevirtual 33, 3) := by decide +kernel
theorem dX5_load_80 : decode cX5_load 80 = .ok (.i2l, 1) := by decide +kernel
theorem dX5_load_81 : decode cX5_load 81 = .ok (.lastore, 1) := by decide +kernel
theorem dX5_load_82 : decode cX5_load 82 = .ok (.iinc 4 1, 3) := by decide +kernel
theorem dX5_load_85 : decode cX5_load 85 = .ok (.goto (-35), 3) := by decide +kernel
theorem dX5_load_88 : decode cX5_load 88 = .ok (.aload_n 0, 1) := by decide +kernel
theorem dX5_load_89 : decode cX5_load 89 = .ok (.dup, 1) := by decide +kernel
theorem dX5_load_90 : decode cX5_load 90 = .ok (.getfield 15, 3) := by decide +kernel
theorem dX5_load_93 : decode cX5_load 93 = .ok (.iconst 1, 1) := by decide +kernel
theorem dX5_load_94 : decode cX5_load 94 = .ok (.iadd, 1) := by decide +kernel
theorem dX5_load_95 : decode cX5_load 95 = .ok (.putfield 15, 3) := by decide +kernel
theorem dX5_load_98 : decode cX5_load 98 = .ok (.iinc 3 1, 3) := by decide +kernel
theorem dX5_load_101 : decode cX5_load 101 = .ok (.goto (-78), 3) := by decide +kernel
theorem dX5_load_104 : decode cX5_load 104 = .ok (.return_, 1) := by decide +kernel
theorem dX5_trace_0 : decode cX5_trace 0 = .ok (.aload_n 0, 1) := by decide +kernel
theorem dX5_trace_1 : decode cX5_trace 1 = .ok (.aload_n 0, 1) := by decide +kernel
theorem dX5_trace_2 : decode cX5_trace 2 = .ok (.getfield 24, 3) := by decide +kernel
theorem dX5_trace_5 : decode cX5_trace 5 = .ok (.aload_n 0, 1) := by decide +kernel
theorem dX5_trace_6 : decode cX5_trace 6 = .ok (.getfield 15, 3) := by decide +kernel
theorem dX5_trace_9 : decode cX5_trace 9 = .ok (.iadd, 1) := by decide +kernel
theorem dX5_trace_10 : decode cX5_trace 10 = .ok (.putfield 27, 3) := by decide +kernel
theorem dX5_trace_13 : decode cX5_trace 13 = .ok (.iconst 0, 1) := by decide +kernel
theorem dX5_trace_14 : decode cX5_trace 14 = .ok (.istore_n 1, 1) := by decide +kernel
theorem dX5_trace_15 : decode cX5_trace 15 = .ok (.iload_n 1, 1) := by decide +kernel
theorem dX5_trace_16 : decode cX5_trace 16 = .ok (.aload_n 0, 1) := by decide +kernel
theorem dX5_trace_17 : decode cX5_trace 17 = .ok (.getfield 15, 3) := by decide +kernel
theorem dX5_trace_20 : decode cX5_trace 20 = .ok (.if_icmp .ge 51, 3) := by decide +kernel
theorem dX5_trace_23 : decode cX5_trace 23 = .ok (.iconst 0, 1) := by decide +kernel
theorem dX5_trace_24 : decode cX5_trace 24 = .ok (.istore_n 2, 1) := by decide +kernel
theorem dX5_trace_25 : decode cX5_trace 25 = .ok (.iload_n 2, 1) := by decide +kernel
theorem dX5_trace_26 : decode cX5_trace 26 = .ok (.aload_n 0, 1) := by decide +kernel
theorem dX5_trace_27 : decode cX5_trace 27 = .ok (.getfield 15, 3) := by decide +kernel
theorem dX5_trace_30 : decode cX5_trace 30 = .ok (.if_icmp .ge 35, 3) := by decide +kernel
theorem dX5_trace_33 : decode cX5_trace 33 = .ok (.aload_n 0, 1) := by decide +kernel
theorem dX5_trace_34 : decode cX5_trace 34 = .ok (.getfield 11, 3) := by decide +kernel
theorem dX5_trace_37 : decode cX5_trace 37 = .ok (.iload_n 1, 1) := by decide +kernel
theorem dX5_trace_38 : decode cX5_trace 38 = .ok (.bipush 9, 2) := by decide +kernel
theorem dX5_trace_40 : decode cX5_trace 40 = .ok (.imul, 1) := by decide +kernel
theorem dX5_trace_41 : decode cX5_trace 41 = .ok (.aload_n 0, 1) := by decide +kernel
theorem dX5_trace_42 : decode cX5_trace 42 = .ok (.getfield 24, 3) := by decide +kernel
theorem dX5_trace_45 : decode cX5_trace 45 = .ok (.iadd, 1) := by decide +kernel
theorem dX5_trace_46 : decode cX5_trace 46 = .ok (.iload_n 2, 1) := by decide +kernel
theorem dX5_trace_47 : decode cX5_trace 47 = .ok (.iadd, 1) := by decide +kernel
theorem dX5_trace_48 : decode cX5_trace 48 = .ok (.iload_n 1, 1) := by decide +kernel
theorem dX5_trace_49 : decode cX5_trace 49 = .ok (.iload_n 2, 1) := by decide +kernel
theorem dX5_trace_50 : decode cX5_trace 50 = .ok (.if_icmp .ne 7, 3) := by decide +kernel
theorem dX5_trace_53 : decode cX5_trace 53 = .ok (.lconst 1, 1) := by decide +kernel
theorem dX5_trace_54 : decode cX5_trace 54 = .ok (.goto 4, 3) := by decide +kernel
theorem dX5_trace_57 : decode cX5_trace 57 = .ok (.lconst 0, 1) := by decide +kernel
theorem dX5_trace_58 : decode cX5_trace 58 = .ok (.lastore, 1) := by decide +kernel
theorem dX5_trace_59 : decode cX5_trace 59 = .ok (.iinc 2 1, 3) := by decide +kernel
theorem dX5_trace_62 : decode cX5_trace 62 = .ok (.goto (-37), 3) := by decide +kernel
theorem dX5_trace_65 : decode cX5_trace 65 = .ok (.iinc 1 1, 3) := by decide +kernel
theorem dX5_trace_68 : decode cX5_trace 68 = .ok (.goto (-53), 3) := by decide +kernel
theorem dX5_trace_71 : decode cX5_trace 71 = .ok (.return_, 1) := by decide +kernel
theorem dX5_traceInLast_0 : decode cX5_traceInLast 0 = .ok (.iload_n 1, 1) := by decide +kernel
theorem dX5_traceInLast_1 : decode cX5_traceInLast 1 = .ok (.ifCond .lt 35, 3) := by decide +kernel
theorem dX5_traceInLast_4 : decode cX5_traceInLast 4 = .ok (.iload_n 1, 1) := by decide +kernel
theorem dX5_traceInLast_5 : decode cX5_traceInLast 5 = .ok (.aload_n 0, 1) := by decide +kernel
theorem dX5_traceInLast_6 : decode cX5_traceInLast 6 = .ok (.getfield 15, 3) := by decide +kernel
theorem dX5_traceInLast_9 : decode cX5_traceInLast 9 = .ok (.if_icmp .ge 27, 3) := by decide +kernel
theorem dX5_traceInLast_12 : decode cX5_traceInLast 12 = .ok (.aload_n 0, 1) := by decide +kernel
theorem dX5_traceInLast_13 : decode cX5_traceInLast 13 = .ok (.getfield 11, 3) := by decide +kernel
theorem dX5_traceInLast_16 : decode cX5_traceInLast 16 = .ok (.aload_n 0, 1) := by decide +kernel
theorem dX5_traceInLast_17 : decode cX5_traceInLast 17 = .ok (.getfield 15, 3) := by decide +kernel
theorem dX5_traceInLast_20 : decode cX5_traceInLast 20 = .ok (.iconst 1, 1) := by decide +kernel
theorem dX5_traceInLast_21 : decode cX5_traceInLast 21 = .ok (.isub, 1) := by decide +kernel
theorem dX5_traceInLast_22 : decode cX5_traceInLast 22 = .ok (.bipush 9, 2) := by decide +kernel
theorem dX5_traceInLast_24 : decode cX5_traceInLast 24 = .ok (.imul, 1) := by decide +kernel
theorem dX5_traceInLast_25 : decode cX5_traceInLast 25 = .ok (.aload_n 0, 1) := by decide +kernel
theorem dX5_traceInLast_26 : decode cX5_traceInLast 26 = .ok (.getfield 24, 3) := by decide +kernel
theorem dX5_traceInLast_29 : decode cX5_traceInLast 29 = .ok (.iadd, 1) := by decide +kernel
theorem dX5_traceInLast_30 : decode cX5_traceInLast 30 = .ok (.iload_n 1, 1) := by decide +kernel
theorem dX5_traceInLast_31 : decode cX5_traceInLast 31 = .ok (.iadd, 1) := by decide +kernel
theorem dX5_traceInLast_32 : decode cX5_traceInLast 32 = .ok (.laload, 1) := by decide +kernel
theorem dX5_traceInLast_33 : decode cX5_traceInLast 33 = .ok (.goto 4, 3) := by decide +kernel
theorem dX5_traceInLast_36 : decode cX5_traceInLast 36 = .ok (.lconst 0, 1) := by decide +kernel
theorem dX5_traceInLast_37 : decode cX5_traceInLast 37 = .ok (.lreturn, 1) := by decide +kernel
theorem dX5_reduce_0 : decode cX5_reduce 0 = .ok (.aload_n 0, 1) := by decide +kernel
theorem dX5_reduce_1 : decode cX5_reduce 1 = .ok (.iload_n 1, 1) := by decide +kernel
theorem dX5_reduce_2 : decode cX5_reduce 2 = .ok (.invokevirtual 37, 3) := by decide +kernel
theorem dX5_reduce_5 : decode cX5_reduce 5 = .ok (.iconst 0, 1) := by decide +kernel
theorem dX5_reduce_6 : decode cX5_reduce 6 = .ok (.istore_n 2, 1) := by decide +kernel
theorem dX5_reduce_7 : decode cX5_reduce 7 = .ok (.iconst 0, 1) := by decide +kernel
theorem dX5_reduce_8 : decode cX5_reduce 8 = .ok (.istore_n 3, 1) := by decide +kernel
theorem dX5_reduce_9 : decode cX5_reduce 9 = .ok (.iload_n 3, 1) := by decide +kernel
theorem dX5_reduce_10 : decode cX5_reduce 10 = .ok (.aload_n 0, 1) := by decide +kernel
theorem dX5_reduce_11 : decode cX5_reduce 11 = .ok (.getfield 24, 3) := by decide +kernel
theorem dX5_reduce_14 : decode cX5_reduce 14 = .ok (.if_icmp .ge 58, 3) := by decide +kernel
theorem dX5_reduce_17 : decode cX5_reduce 17 = .ok (.iload_n 2, 1) := by decide +kernel
theorem dX5_reduce_18 : decode cX5_reduce 18 = .ok (.aload_n 0, 1) := by decide +kernel
theorem dX5_reduce_19 : decode cX5_reduce 19 = .ok (.getfield 15, 3) := by decide +kernel
theorem dX5_reduce_22 : decode cX5_reduce 22 = .ok (.if_icmp .ge 50, 3) := by decide +kernel
theorem dX5_reduce_25 : decode cX5_reduce 25 = .ok (.aload_n 0, 1) := by decide +kernel
theorem dX5_reduce_26 : decode cX5_reduce 26 = .ok (.iload_n 2, 1) := by decide +kernel
theorem dX5_reduce_27 : decode cX5_reduce 27 = .ok (.iload_n 3, 1) := by decide +kernel
theorem dX5_reduce_28 : decode cX5_reduce 28 = .ok (.invokevirtual 41, 3) := by decide +kernel
theorem dX5_reduce_31 : decode cX5_reduce 31 = .ok (.ifCond .eq 35, 3) := by decide +kernel
theorem dX5_reduce_34 : decode cX5_reduce 34 = .ok (.iload_n 2, 1) := by decide +kernel
theorem dX5_reduce_35 : decode cX5_reduce 35 = .ok (.iconst 1, 1) := by decide +kernel
theorem dX5_reduce_36 : decode cX5_reduce 36 = .ok (.iadd, 1) := by decide +kernel
theorem dX5_reduce_37 : decode cX5_reduce 37 = .ok (.istore 4, 2) := by decide +kernel
theorem dX5_reduce_39 : decode cX5_reduce 39 = .ok (.iload 4, 2) := by decide +kernel
theorem dX5_reduce_41 : decode cX5_reduce 41 = .ok (.aload_n 0, 1) := by decide +kernel
theorem dX5_reduce_42 : decode cX5_reduce 42 = .ok (.getfield 15, 3) := by decide +kernel
theorem dX5_reduce_45 : decode cX5_reduce 45 = .ok (.if_icmp .ge 18, 3) := by decide +kernel
theorem dX5_reduce_48 : decode cX5_reduce 48 = .ok (.aload_n 0, 1) := by decide +kernel
theorem dX5_reduce_49 : decode cX5_reduce 49 = .ok (.iload 4, 2) := by decide +kernel
theorem dX5_reduce_51 : decode cX5_reduce 51 = .ok (.iload_n 2, 1) := by decide +kernel
theorem dX5_reduce_52 : decode cX5_reduce 52 = .ok (.iload_n 3, 1) := by decide +kernel
theorem dX5_reduce_53 : decode cX5_reduce 53 = .ok (.iload_n 1, 1) := by decide +kernel
theorem dX5_reduce_54 : decode cX5_reduce 54 = .ok (.invokevirtual 45, 3) := by decide +kernel
theorem dX5_reduce_57 : decode cX5_reduce 57 = .ok (.iinc 4 1, 3) := by decide +kernel
theorem dX5_reduce_60 : decode cX5_reduce 60 = .ok (.goto (-21), 3) := by decide +kernel
theorem dX5_reduce_63 : decode cX5_reduce 63 = .ok (.iinc 2 1, 3) := by decide +kernel
theorem dX5_reduce_66 : decode cX5_reduce 66 = .ok (.iinc 3 1, 3) := by decide +kernel
theorem dX5_reduce_69 : decode cX5_reduce 69 = .ok (.goto (-60), 3) := by decide +kernel
theorem dX5_reduce_72 : decode cX5_reduce 72 = .ok (.iload_n 2, 1) := by decide +kernel
theorem dX5_reduce_73 : decode cX5_reduce 73 = .ok (.ireturn, 1) := by decide +kernel
theorem dX5_takeRemainders_0 : decode cX5_takeRemainders 0 = .ok (.iload_n 1, 1) := by decide +kernel
theorem dX5_takeRemainders_1 : decode cX5_takeRemainders 1 = .ok (.ifCond .gt 4, 3) := by decide +kernel
theorem dX5_takeRemainders_4 : decode cX5_takeRemainders 4 = .ok (.return_, 1) := by decide +kernel
theorem dX5_takeRemainders_5 : decode cX5_takeRemainders 5 = .ok (.iconst 0, 1) := by decide +kernel
theorem dX5_takeRemainders_6 : decode cX5_takeRemainders 6 = .ok (.istore_n 2, 1) := by decide +kernel
theorem dX5_takeRemainders_7 : decode cX5_takeRemainders 7 = .ok (.iload_n 2, 1) := by decide +kernel
theorem dX5_takeRemainders_8 : decode cX5_takeRemainders 8 = .ok (.aload_n 0, 1) := by decide +kernel
theorem dX5_takeRemainders_9 : decode cX5_takeRemainders 9 = .ok (.getfield 15, 3) := by decide +kernel
theorem dX5_takeRemainders_12 : decode cX5_takeRemainders 12 = .ok (.bipush 9, 2) := by decide +kernel
theorem dX5_takeRemainders_14 : decode cX5_takeRemainders 14 = .ok (.imul, 1) := by decide +kernel
theorem dX5_takeRemainders_15 : decode cX5_takeRemainders 15 = .ok (.if_icmp .ge 20, 3) := by decide +kernel
theorem dX5_takeRemainders_18 : decode cX5_takeRemainders 18 = .ok (.aload_n 0, 1) := by decide +kernel
theorem dX5_takeRemainders_19 : decode cX5_takeRemainders 19 = .ok (.getfield 11, 3) := by decide +kernel
theorem dX5_takeRemainders_22 : decode cX5_takeRemainders 22 = .ok (.iload_n 2, 1) := by decide +kernel
theorem dX5_takeRemainders_23 : decode cX5_takeRemainders 23 = .ok (.dup2, 1) := by decide +kernel
theorem dX5_takeRemainders_24 : decode cX5_takeRemainders 24 = .ok (.laload, 1) := by decide +kernel
theorem dX5_takeRemainders_25 : decode cX5_takeRemainders 25 = .ok (.iload_n 1, 1) := by decide +kernel
theorem dX5_takeRemainders_26 : decode cX5_takeRemainders 26 = .ok (.i2l, 1) := by decide +kernel
theorem dX5_takeRemainders_27 : decode cX5_takeRemainders 27 = .ok (.lrem, 1) := by decide +kernel
theorem dX5_takeRemainders_28 : decode cX5_takeRemainders 28 = .ok (.lastore, 1) := by decide +kernel
theorem dX5_takeRemainders_29 : decode cX5_takeRemainders 29 = .ok (.iinc 2 1, 3) := by decide +kernel
theorem dX5_takeRemainders_32 : decode cX5_takeRemainders 32 = .ok (.goto (-25), 3) := by decide +kernel
theorem dX5_takeRemainders_35 : decode cX5_takeRemainders 35 = .ok (.return_, 1) := by decide +kernel
theorem dX5_bringUp_0 : decode cX5_bringUp 0 = .ok (.iload_n 1, 1) := by decide +kernel
theorem dX5_bringUp_1 : decode cX5_bringUp 1 = .ok (.istore_n 3, 1) := by decide +kernel
theorem dX5_bringUp_2 : decode cX5_bringUp 2 = .ok (.iload_n 3, 1) := by decide +kernel
theorem dX5_bringUp_3 : decode cX5_bringUp 3 = .ok (.aload_n 0, 1) := by decide +kernel
theorem dX5_bringUp_4 : decode cX5_bringUp 4 = .ok (.getfield 15, 3) := by decide +kernel
theorem dX5_bringUp_7 : decode cX5_bringUp 7 = .ok (.if_icmp .ge 97, 3) := by decide +kernel
theorem dX5_bringUp_10 : decode cX5_bringUp 10 = .ok (.aload_n 0, 1) := by decide +kernel
theorem dX5_bringUp_11 : decode cX5_bringUp 11 = .ok (.getfield 11, 3) := by decide +kernel
theorem dX5_bringUp_14 : decode cX5_bringUp 14 = .ok (.iload_n 3, 1) := by decide +kernel
theorem dX5_bringUp_15 : decode cX5_bringUp 15 = .ok (.bipush 9, 2) := by decide +kernel
theorem dX5_bringUp_17 : decode cX5_bringUp 17 = .ok (.imul, 1) := by decide +kernel
theorem dX5_bringUp_18 : decode cX5_bringUp 18 = .ok (.iload_n 2, 1) := by decide +kernel
theorem dX5_bringUp_19 : decode cX5_bringUp 19 = .ok (.iadd, 1) := by decide +kernel
theorem dX5_bringUp_20 : decode cX5_bringUp 20 = .ok (.laload, 1) := by decide +kernel
theorem dX5_bringUp_21 : decode cX5_bringUp 21 = .ok (.lconst 0, 1) := by decide +kernel
theorem dX5_bringUp_22 : decode cX5_bringUp 22 = .ok (.lcmp, 1) := by decide +kernel
theorem dX5_bringUp_23 : decode cX5_bringUp 23 = .ok (.ifCond .eq 75, 3) := by decide +kernel
theorem dX5_bringUp_26 : decode cX5_bringUp 26 = .ok (.iconst 0, 1) := by decide +kernel
theorem dX5_bringUp_27 : decode cX5_bringUp 27 = .ok (.istore 4, 2) := by decide +kernel
theorem dX5_bringUp_29 : decode cX5_bringUp 29 = .ok (.iload 4, 2) := by decide +kernel
theorem dX5_bringUp_31 : decode cX5_bringUp 31 = .ok (.aload_n 0, 1) := by decide +kernel
theorem dX5_bringUp_32 : decode cX5_bringUp 32 = .ok (.getfield 27, 3) := by decide +kernel
theorem dX5_bringUp_35 : decode cX5_bringUp 35 = .ok (.if_icmp .ge 61, 3) := by decide +kernel
theorem dX5_bringUp_38 : decode cX5_bringUp 38 = .ok (.aload_n 0, 1) := by decide +kernel
theorem dX5_bringUp_39 : decode cX5_bringUp 39 = .ok (.getfield 11, 3) := by decide +kernel
theorem dX5_bringUp_42 : decode cX5_bringUp 42 = .ok (.iload_n 1, 1) := by decide +kernel
theorem dX5_bringUp_43 : decode cX5_bringUp 43 = .ok (.bipush 9, 2) := by decide +kernel
theorem dX5_bringUp_45 : decode cX5_bringUp 45 = .ok (.imul, 1) := by decide +kernel
theorem dX5_bringUp_46 : decode cX5_bringUp 46 = .ok (.iload 4, 2) := by decide +kernel
theorem dX5_bringUp_48 : decode cX5_bringUp 48 = .ok (.iadd, 1) := by decide +kernel
theorem dX5_bringUp_49 : decode cX5_bringUp 49 = .ok (.laload, 1) := by decide +kernel
theorem dX5_bringUp_50 : decode cX5_bringUp 50 = .ok (.lstore 5, 2) := by decide +kernel
theorem dX5_bringUp_52 : decode cX5_bringUp 52 = .ok (.aload_n 0, 1) := by decide +kernel
theorem dX5_bringUp_53 : decode cX5_bringUp 53 = .ok (.getfield 11, 3) := by decide +kernel
theorem dX5_bringUp_56 : decode cX5_bringUp 56 = .ok (.iload_n 1, 1) := by decide +kernel
theorem dX5_bringUp_57 : decode cX5_bringUp 57 = .ok (.bipush 9, 2) := by decide +kernel
theorem dX5_bringUp_59 : decode cX5_bringUp 59 = .ok (.imul, 1) := by decide +kernel
theorem dX5_bringUp_60 : decode cX5_bringUp 60 = .ok (.iload 4, 2) := by decide +kernel
theorem dX5_bringUp_62 : decode cX5_bringUp 62 = .ok (.iadd, 1) := by decide +kernel
theorem dX5_bringUp_63 : decode cX5_bringUp 63 = .ok (.aload_n 0, 1) := by decide +kernel
theorem dX5_bringUp_64 : decode cX5_bringUp 64 = .ok (.getfield 11, 3) := by decide +kernel
theorem dX5_bringUp_67 : decode cX5_bringUp 67 = .ok (.iload_n 3, 1) := by decide +kernel
theorem dX5_bringUp_68 : decode cX5_bringUp 68 = .ok (.bipush 9, 2) := by decide +kernel
theorem dX5_bringUp_70 : decode cX5_bringUp 70 = .ok (.imul, 1) := by decide +kernel
theorem dX5_bringUp_71 : decode cX5_bringUp 71 = .ok (.iload 4, 2) := by decide +kernel
theorem dX5_bringUp_73 : decode cX5_bringUp 73 = .ok (.iadd, 1) := by decide +kernel
theorem dX5_bringUp_74 : decode cX5_bringUp 74 = .ok (.laload, 1) := by decide +kernel
theorem dX5_bringUp_75 : decode cX5_bringUp 75 = .ok (.lastore, 1) := by decide +kernel
theorem dX5_bringUp_76 : decode cX5_bringUp 76 = .ok (.aload_n 0, 1) := by decide +kernel
theorem dX5_bringUp_77 : decode cX5_bringUp 77 = .ok (.getfield 11, 3) := by decide +kernel
theorem dX5_bringUp_80 : decode cX5_bringUp 80 = .ok (.iload_n 3, 1) := by decide +kernel
theorem dX5_bringUp_81 : decode cX5_bringUp 81 = .ok (.bipush 9, 2) := by decide +kernel
theorem dX5_bringUp_83 : decode cX5_bringUp 83 = .ok (.imul, 1) := by decide +kernel
theorem dX5_bringUp_84 : decode cX5_bringUp 84 = .ok (.iload 4, 2) := by decide +kernel
theorem dX5_bringUp_86 : decode cX5_bringUp 86 = .ok (.iadd, 1) := by decide +kernel
theorem dX5_bringUp_87 : decode cX5_bringUp 87 = .ok (.lload 5, 2) := by decide +kernel
theorem dX5_bringUp_89 : decode cX5_bringUp 89 = .ok (.lastore, 1) := by decide +kernel
theorem dX5_bringUp_90 : decode cX5_bringUp 90 = .ok (.iinc 4 1, 3) := by decide +kernel
theorem dX5_bringUp_93 : decode cX5_bringUp 93 = .ok (.goto (-64), 3) := by decide +kernel
theorem dX5_bringUp_96 : decode cX5_bringUp 96 = .ok (.iconst 1, 1) := by decide +kernel
theorem dX5_bringUp_97 : decode cX5_bringUp 97 = .ok (.ireturn, 1) := by decide +kernel
theorem dX5_bringUp_98 : decode cX5_bringUp 98 = .ok (.iinc 3 1, 3) := by decide +kernel
theorem dX5_bringUp_101 : decode cX5_bringUp 101 = .ok (.goto (-99), 3) := by decide +kernel
theorem dX5_bringUp_104 : decode cX5_bringUp 104 = .ok (.iconst 0, 1) := by decide +kernel
theorem dX5_bringUp_105 : decode cX5_bringUp 105 = .ok (.ireturn, 1) := by decide +kernel
theorem dX5_strike_0 : decode cX5_strike 0 = .ok (.aload_n 0, 1) := by decide +kernel
theorem dX5_strike_1 : decode cX5_strike 1 = .ok (.getfield 11, 3) := by decide +kernel
theorem dX5_strike_4 : decode cX5_strike 4 = .ok (.iload_n 1, 1) := by decide +kernel
theorem dX5_strike_5 : decode cX5_strike 5 = .ok (.bipush 9, 2) := by decide +kernel
theorem dX5_strike_7 : decode cX5_strike 7 = .ok (.imul, 1) := by decide +kernel
theorem dX5_strike_8 : decode cX5_strike 8 = .ok (.iload_n 3, 1) := by decide +kernel
theorem dX5_strike_9 : decode cX5_strike 9 = .ok (.iadd, 1) := by decide +kernel
theorem dX5_strike_10 : decode cX5_strike 10 = .ok (.laload, 1) := by decide +kernel
theorem dX5_strike_11 : decode cX5_strike 11 = .ok (.lstore 5, 2) := by decide +kernel
theorem dX5_strike_13 : decode cX5_strike 13 = .ok (.aload_n 0, 1) := by decide +kernel
theorem dX5_strike_14 : decode cX5_strike 14 = .ok (.getfield 11, 3) := by decide +kernel
theorem dX5_strike_17 : decode cX5_strike 17 = .ok (.iload_n 2, 1) := by decide +kernel
theorem dX5_strike_18 : decode cX5_strike 18 = .ok (.bipush 9, 2) := by decide +kernel
theorem dX5_strike_20 : decode cX5_strike 20 = .ok (.imul, 1) := by decide +kernel
theorem dX5_strike_21 : decode cX5_strike 21 = .ok (.iload_n 3, 1) := by decide +kernel
theorem dX5_strike_22 : decode cX5_strike 22 = .ok (.iadd, 1) := by decide +kernel
theorem dX5_strike_23 : decode cX5_strike 23 = .ok (.laload, 1) := by decide +kernel
theorem dX5_strike_24 : decode cX5_strike 24 = .ok (.lstore 7, 2) := by decide +kernel
theorem dX5_strike_26 : decode cX5_strike 26 = .ok (.lload 5, 2) := by decide +kernel
theorem dX5_strike_28 : decode cX5_strike 28 = .ok (.lconst 0, 1) := by decide +kernel
theorem dX5_strike_29 : decode cX5_strike 29 = .ok (.lcmp, 1) := by decide +kernel
theorem dX5_strike_30 : decode cX5_strike 30 = .ok (.ifCond .ne 4, 3) := by decide +kernel
theorem dX5_strike_33 : decode cX5_strike 33 = .ok (.return_, 1) := by decide +kernel
theorem dX5_strike_34 : decode cX5_strike 34 = .ok (.iconst 0, 1) := by decide +kernel
theorem dX5_strike_35 : decode cX5_strike 35 = .ok (.istore 9, 2) := by decide +kernel
theorem dX5_strike_37 : decode cX5_strike 37 = .ok (.iload 9, 2) := by decide +kernel
theorem dX5_strike_39 : decode cX5_strike 39 = .ok (.aload_n 0, 1) := by decide +kernel
theorem dX5_strike_40 : decode cX5_strike 40 = .ok (.getfield 27, 3) := by decide +kernel
theorem dX5_strike_43 : decode cX5_strike 43 = .ok (.if_icmp .ge 70, 3) := by decide +kernel
theorem dX5_strike_46 : decode cX5_strike 46 = .ok (.aload_n 0, 1) := by decide +kernel
theorem dX5_strike_47 : decode cX5_strike 47 = .ok (.getfield 11, 3) := by decide +kernel
theorem dX5_strike_50 : decode cX5_strike 50 = .ok (.iload_n 1, 1) := by decide +kernel
theorem dX5_strike_51 : decode cX5_strike 51 = .ok (.bipush 9, 2) := by decide +kernel
theorem dX5_strike_53 : decode cX5_strike 53 = .ok (.imul, 1) := by decide +kernel
theorem dX5_strike_54 : decode cX5_strike 54 = .ok (.iload 9, 2) := by decide +kernel
theorem dX5_strike_56 : decode cX5_strike 56 = .ok (.iadd, 1) := by decide +kernel
theorem dX5_strike_57 : decode cX5_strike 57 = .ok (.laload, 1) := by decide +kernel
theorem dX5_strike_58 : decode cX5_strike 58 = .ok (.lload 7, 2) := by decide +kernel
theorem dX5_strike_60 : decode cX5_strike 60 = .ok (.lmul, 1) := by decide +kernel
theorem dX5_strike_61 : decode cX5_strike 61 = .ok (.aload_n 0, 1) := by decide +kernel
theorem dX5_strike_62 : decode cX5_strike 62 = .ok (.getfield 11, 3) := by decide +kernel
theorem dX5_strike_65 : decode cX5_strike 65 = .ok (.iload_n 2, 1) := by decide +kernel
theorem dX5_strike_66 : decode cX5_strike 66 = .ok (.bipush 9, 2) := by decide +kernel
theorem dX5_strike_68 : decode cX5_strike 68 = .ok (.imul, 1) := by decide +kernel
theorem dX5_strike_69 : decode cX5_strike 69 = .ok (.iload 9, 2) := by decide +kernel
theorem dX5_strike_71 : decode cX5_strike 71 = .ok (.iadd, 1) := by decide +kernel
theorem dX5_strike_72 : decode cX5_strike 72 = .ok (.laload, 1) := by decide +kernel
theorem dX5_strike_73 : decode cX5_strike 73 = .ok (.lload 5, 2) := by decide +kernel
theorem dX5_strike_75 : decode cX5_strike 75 = .ok (.lmul, 1) := by decide +kernel
theorem dX5_strike_76 : decode cX5_strike 76 = .ok (.lsub, 1) := by decide +kernel
theorem dX5_strike_77 : decode cX5_strike 77 = .ok (.lstore 10, 2) := by decide +kernel
theorem dX5_strike_79 : decode cX5_strike 79 = .ok (.aload_n 0, 1) := by decide +kernel
theorem dX5_strike_80 : decode cX5_strike 80 = .ok (.getfield 11, 3) := by decide +kernel
theorem dX5_strike_83 : decode cX5_strike 83 = .ok (.iload_n 1, 1) := by decide +kernel
theorem dX5_strike_84 : decode cX5_strike 84 = .ok (.bipush 9, 2) := by decide +kernel
theorem dX5_strike_86 : decode cX5_strike 86 = .ok (.imul, 1) := by decide +kernel
theorem dX5_strike_87 : decode cX5_strike 87 = .ok (.iload 9, 2) := by decide +kernel
theorem dX5_strike_89 : decode cX5_strike 89 = .ok (.iadd, 1) := by decide +kernel
theorem dX5_strike_90 : decode cX5_strike 90 = .ok (.iload 4, 2) := by decide +kernel
theorem dX5_strike_92 : decode cX5_strike 92 = .ok (.ifCond .le 12, 3) := by decide +kernel
theorem dX5_strike_95 : decode cX5_strike 95 = .ok (.lload 10, 2) := by decide +kernel
theorem dX5_strike_97 : decode cX5_strike 97 = .ok (.iload 4, 2) := by decide +kernel
theorem dX5_strike_99 : decode cX5_strike 99 = .ok (.i2l, 1) := by decide +kernel
theorem dX5_strike_100 : decode cX5_strike 100 = .ok (.lrem, 1) := by decide +kernel
theorem dX5_strike_101 : decode cX5_strike 101 = .ok (.goto 5, 3) := by decide +kernel
theorem dX5_strike_104 : decode cX5_strike 104 = .ok (.lload 10, 2) := by decide +kernel
theorem dX5_strike_106 : decode cX5_strike 106 = .ok (.lastore, 1) := by decide +kernel
theorem dX5_strike_107 : decode cX5_strike 107 = .ok (.iinc 9 1, 3) := by decide +kernel
theorem dX5_strike_110 : decode cX5_strike 110 = .ok (.goto (-73), 3) := by decide +kernel
theorem dX5_strike_113 : decode cX5_strike 113 = .ok (.return_, 1) := by decide +kernel
theorem dX6_init_0 : decode cX6_init 0 = .ok (.aload_n 0, 1) := by decide +kernel
theorem dX6_init_1 : decode cX6_init 1 = .ok (.invokespecial 3, 3) := by decide +kernel
theorem dX6_init_4 : decode cX6_init 4 = .ok (.aload_n 0, 1) := by decide +kernel
theorem dX6_init_5 : decode cX6_init 5 = .ok (.new 9, 3) := by decide +kernel
theorem dX6_init_8 : decode cX6_init 8 = .ok (.dup, 1) := by decide +kernel
theorem dX6_init_9 : decode cX6_init 9 = .ok (.invokespecial 11, 3) := by decide +kernel
theorem dX6_init_12 : decode cX6_init 12 = .ok (.putfield 12, 3) := by decide +kernel
theorem dX6_init_15 : decode cX6_init 15 = .ok (.aload_n 0, 1) := by decide +kernel
theorem dX6_init_16 : decode cX6_init 16 = .ok (.sipush 512, 3) := by decide +kernel
theorem dX6_init_19 : decode cX6_init 19 = .ok (.newarray .int, 2) := by decide +kernel
theorem dX6_init_21 : decode cX6_init 21 = .ok (.putfield 18, 3) := by decide +kernel
theorem dX6_init_24 : decode cX6_init 24 = .ok (.aload_n 0, 1) := by decide +kernel
theorem dX6_init_25 : decode cX6_init 25 = .ok (.sipush 512, 3) := by decide +kernel
theorem dX6_init_28 : decode cX6_init 28 = .ok (.newarray .boolean, 2) := by decide +kernel
theorem dX6_init_30 : decode cX6_init 30 = .ok (.putfield 22, 3) := by decide +kernel
theorem dX6_init_33 : decode cX6_init 33 = .ok (.aload_n 0, 1) := by decide +kernel
theorem dX6_init_34 : decode cX6_init 34 = .ok (.new 26, 3) := by decide +kernel
theorem dX6_init_37 : decode cX6_init 37 = .ok (.dup, 1) := by decide +kernel
theorem dX6_init_38 : decode cX6_init 38 = .ok (.bipush 126, 2) := by decide +kernel
theorem dX6_init_40 : decode cX6_init 40 = .ok (.invokespecial 28, 3) := by decide +kernel
theorem dX6_init_43 : decode cX6_init 43 = .ok (.putfield 31, 3) := by decide +kernel
theorem dX6_init_46 : decode cX6_init 46 = .ok (.aload_n 0, 1) := by decide +kernel
theorem dX6_init_47 : decode cX6_init 47 = .ok (.new 26, 3) := by decide +kernel
theorem dX6_init_50 : decode cX6_init 50 = .ok (.dup, 1) := by decide +kernel
theorem dX6_init_51 : decode cX6_init 51 = .ok (.bipush 126, 2) := by decide +kernel
theorem dX6_init_53 : decode cX6_init 53 = .ok (.invokespecial 28, 3) := by decide +kernel
theorem dX6_init_56 : decode cX6_init 56 = .ok (.putfield 35, 3) := by decide +kernel
theorem dX6_init_59 : decode cX6_init 59 = .ok (.aload_n 0, 1) := by decide +kernel
theorem dX6_init_60 : decode cX6_init 60 = .ok (.bipush 9, 2) := by decide +kernel
theorem dX6_init_62 : decode cX6_init 62 = .ok (.newarray .int, 2) := by decide +kernel
theorem dX6_init_64 : decode cX6_init 64 = .ok (.putfield 38, 3) := by decide +kernel
theorem dX6_init_67 : decode cX6_init 67 = .ok (.aload_n 0, 1) := by decide +kernel
theorem dX6_init_68 : decode cX6_init 68 = .ok (.iconst (-1), 1) := by decide +kernel
theorem dX6_init_69 : decode cX6_init 69 = .ok (.putfield 41, 3) := by decide +kernel
theorem dX6_init_72 : decode cX6_init 72 = .ok (.aload_n 0, 1) := by decide +kernel
theorem dX6_init_73 : decode cX6_init 73 = .ok (.aload_n 1, 1) := by decide +kernel
theorem dX6_init_74 : decode cX6_init 74 = .ok (.putfield 45, 3) := by decide +kernel
theorem dX6_init_77 : decode cX6_init 77 = .ok (.return_, 1) := by decide +kernel
theorem dX6_refresh_0 : decode cX6_refresh 0 = .ok (.aload_n 0, 1) := by decide +kernel
theorem dX6_refresh_1 : decode cX6_refresh 1 = .ok (.getfield 41, 3) := by decide +kernel
theorem dX6_refresh_4 : decode cX6_refresh 4 = .ok (.aload_n 0, 1) := by decide +kernel
theorem dX6_refresh_5 : decode cX6_refresh 5 = .ok (.getfield 45, 3) := by decide +kernel
theorem dX6_refresh_8 : decode cX6_refresh 8 = .ok (.getfield 49, 3) := by decide +kernel
theorem dX6_refresh_11 : decode cX6_refresh 11 = .ok (.if_icmp .ne 4, 3) := by decide +kernel
theorem dX6_refresh_14 : decode cX6_refresh 14 = .ok (.return_, 1) := by decide +kernel
theorem dX6_refresh_15 : decode cX6_refresh 15 = .ok (.aload_n 0, 1) := by decide +kernel
theorem dX6_refresh_16 : decode cX6_refresh 16 = .ok (.aload_n 0, 1) := by decide +kernel
theorem dX6_refresh_17 : decode cX6_refresh 17 = .ok (.getfield 45, 3) := by decide +kernel
theorem dX6_refresh_20 : decode cX6_refresh 20 = .ok (.getfield 49, 3) := by decide +kernel
theorem dX6_refresh_23 : decode cX6_refresh 23 = .ok (.putfield 41, 3) := by decide +kernel
theorem dX6_refresh_26 : decode cX6_refresh 26 = .ok (.aload_n 0, 1) := by decide +kernel
theorem dX6_refresh_27 : decode cX6_refresh 27 = .ok (.getfield 45, 3) := by decide +kernel
theorem dX6_refresh_30 : decode cX6_refresh 30 = .ok (.invokevirtual 54, 3) := by decide +kernel
theorem dX6_refresh_33 : decode cX6_refresh 33 = .ok (.istore_n 1, 1) := by decide +kernel
theorem dX6_refresh_34 : decode cX6_refresh 34 = .ok (.iconst 0, 1) := by decide +kernel
theorem dX6_refresh_35 : decode cX6_refresh 35 = .ok (.istore_n 2, 1) := by decide +kernel
theorem dX6_refresh_36 : decode cX6_refresh 36 = .ok (.iload_n 2, 1) := by decide +kernel
theorem dX6_refresh_37 : decode cX6_refresh 37 = .ok (.iload_n 1, 1) := by decide +kernel
theorem dX6_refresh_38 : decode cX6_refresh 38 = .ok (.if_icmp .gt 20, 3) := by decide +kernel
theorem dX6_refresh_41 : decode cX6_refresh 41 = .ok (.aload_n 0, 1) := by decide +kernel
theorem dX6_refresh_42 : decode cX6_refresh 42 = .ok (.getfield 18, 3) := by decide +kernel
theorem dX6_refresh_45 : decode cX6_refresh 45 = .ok (.iload_n 2, 1) := by decide +kernel
theorem dX6_refresh_46 : decode cX6_refresh 46 = .ok (.aload_n 0, 1) := by decide +kernel
theorem dX6_refresh_47 : decode cX6_refresh 47 = .ok (.iload_n 2, 1) := by decide +kernel
theorem dX6_refresh_48 : decode cX6_refresh 48 = .ok (.invokevirtual 58, 3) := by decide +kernel
theorem dX6_refresh_51 : decode cX6_refresh 51 = .ok (.iastore, 1) := by decide +kernel
theorem dX6_refresh_52 : decode cX6_refresh 52 = .ok (.iinc 2 1, 3) := by decide +kernel
theorem dX6_refresh_55 : decode cX6_refresh 55 = .ok (.goto (-19), 3) := by decide +kernel
theorem dX6_refresh_58 : decode cX6_refresh 58 = .ok (.iconst 0, 1) := by decide +kernel
theorem dX6_refresh_59 : decode cX6_refresh 59 = .ok (.istore_n 2, 1) := by decide +kernel
theorem dX6_refresh_60 : decode cX6_refresh 60 = .ok (.iload_n 2, 1) := by decide +kernel
theorem dX6_refresh_61 : decode cX6_refresh 61 = .ok (.iload_n 1, 1) := by decide +kernel
theorem dX6_refresh_62 : decode cX6_refresh 62 = .ok (.if_icmp .gt 29, 3) := by decide +kernel
theorem dX6_refresh_65 : decode cX6_refresh 65 = .ok (.aload_n 0, 1) := by decide +kernel
theorem dX6_refresh_66 : decode cX6_refresh 66 = .ok (.getfield 22, 3) := by decide +kernel
theorem dX6_refresh_69 : decode cX6_refresh 69 = .ok (.iload_n 2, 1) := by decide +kernel
theorem dX6_refresh_70 : decode cX6_refresh 70 = .ok (.aload_n 0, 1) := by decide +kernel
theorem dX6_refresh_71 : decode cX6_refresh 71 = .ok (.iload_n 2, 1) := by decide +kernel
theorem dX6_refresh_72 : decode cX6_refresh 72 = .ok (.invokevirtual 62, 3) := by decide +kernel
theorem dX6_refresh_75 : decode cX6_refresh 75 = .ok (.iload_n 2, 1) := by decide +kernel
theorem dX6_refresh_76 : decode cX6_refresh 76 = .ok (.if_icmp .ne 7, 3) := by decide +kernel
theorem dX6_refresh_79 : decode cX6_refresh 79 = .ok (.iconst 1, 1) := by decide +kernel
theorem dX6_refresh_80 : decode cX6_refresh 80 = .ok (.goto 4, 3) := by decide +kernel
theorem dX6_refresh_83 : decode cX6_refresh 83 = .ok (.iconst 0, 1) := by decide +kernel
theorem dX6_refresh_84 : decode cX6_refresh 84 = .ok (.bastore, 1) := by decide +kernel
theorem dX6_refresh_85 : decode cX6_refresh 85 = .ok (.iinc 2 1, 3) := by decide +kernel
theorem dX6_refresh_88 : decode cX6_refresh 88 = .ok (.goto (-28), 3) := by decide +kernel
theorem dX6_refresh_91 : decode cX6_refresh 91 = .ok (.aload_n 0, 1) := by decide +kernel
theorem dX6_refresh_92 : decode cX6_refresh 92 = .ok (.getfield 31, 3) := by decide +kernel
theorem dX6_refresh_95 : decode cX6_refresh 95 = .ok (.iconst 0, 1) := by decide +kernel
theorem dX6_refresh_96 : decode cX6_refresh 96 = .ok (.putfield 65, 3) := by decide +kernel
theorem dX6_refresh_99 : decode cX6_refresh 99 = .ok (.iconst 1, 1) := by decide +kernel
theorem dX6_refresh_100 : decode cX6_refresh 100 = .ok (.istore_n 2, 1) := by decide +kernel
theorem dX6_refresh_101 : decode cX6_refresh 101 = .ok (.iload_n 2, 1) := by decide +kernel
theorem dX6_refresh_102 : decode cX6_refresh 102 = .ok (.aload_n 0, 1) := by decide +kernel
theorem dX6_refresh_103 : decode cX6_refresh 103 = .ok (.getfield 45, 3) := by decide +kernel
theorem dX6_refresh_106 : decode cX6_refresh 106 = .ok (.getfield 68, 3) := by decide +kernel
theorem dX6_refresh_109 : decode cX6_refresh 109 = .ok (.iconst 1, 1) := by decide +kernel
theorem dX6_refresh_110 : decode cX6_refresh 110 = .ok (.iadd, 1) := by decide +kernel
theorem dX6_refresh_111 : decode cX6_refresh 111 = .ok (.if_icmp .gt 47, 3) := by decide +kernel
theorem dX6_refresh_114 : decode cX6_refresh 114 = .ok (.iconst 0, 1) := by decide +kernel
theorem dX6_refresh_115 : decode cX6_refresh 115 = .ok (.istore_n 3, 1) := by decide +kernel
theorem dX6_refresh_116 : decode cX6_refresh 116 = .ok (.iload_n 3, 1) := by decide +kernel
theorem dX6_refresh_117 : decode cX6_refresh 117 = .ok (.iload_n 1, 1) := by decide +kernel
theorem dX6_refresh_118 : decode cX6_refresh 118 = .ok (.if_icmp .gt 34, 3) := by decide +kernel
theorem dX6_refresh_121 : decode cX6_refresh 121 = .ok (.iload_n 3, 1) := by decide +kernel
theorem dX6_refresh_122 : decode cX6_refresh 122 = .ok (.invokestatic 71, 3) := by decide +kernel
theorem dX6_refresh_125 : decode cX6_refresh 125 = .ok (.iload_n 2, 1) := by decide +kernel
theorem dX6_refresh_126 : decode cX6_refresh 126 = .ok (.if_icmp .ne 20, 3) := by decide +kernel
theorem dX6_refresh_129 : decode cX6_refresh 129 = .ok (.aload_n 0, 1) := by decide +kernel
theorem dX6_refresh_130 : decode cX6_refresh 130 = .ok (.iload_n 3, 1) := by decide +kernel
theorem dX6_refresh_131 : decode cX6_refresh 131 = .ok (.iload_n 2, 1) := by decide +kernel
theorem dX6_refresh_132 : decode cX6_refresh 132 = .ok (.invokevirtual 76, 3) := by decide +kernel
theorem dX6_refresh_135 : decode cX6_refresh 135 = .ok (.ifCond .eq 11, 3) := by decide +kernel
theorem dX6_refresh_138 : decode cX6_refresh 138 = .ok (.aload_n 0, 1) := by decide +kernel
theorem dX6_refresh_139 : decode cX6_refresh 139 = .ok (.getfield 31, 3) := by decide +kernel
theorem dX6_refresh_142 : decode cX6_refresh 142 = .ok (.iload_n 3, 1) := by decide +kernel
theorem dX6_refresh_143 : decode cX6_refresh 143 = .ok (.invokevirtual 80, 3) := by decide +kernel
theorem dX6_refresh_146 : decode cX6_refresh 146 = .ok (.iinc 3 1, 3) := by decide +kernel
theorem dX6_refresh_149 : decode cX6_refresh 149 = .ok (.goto (-33), 3) := by decide +kernel
theorem dX6_refresh_152 : decode cX6_refresh 152 = .ok (.iinc 2 1, 3) := by decide +kernel
theorem dX6_refresh_155 : decode cX6_refresh 155 = .ok (.goto (-54), 3) := by decide +kernel
theorem dX6_refresh_158 : decode cX6_refresh 158 = .ok (.return_, 1) := by decide +kernel
theorem dX6_rankFromSubsets_0 : decode cX6_rankFromSubsets 0 = .ok (.iload_n 1, 1) := by decide +kernel
theorem dX6_rankFromSubsets_1 : decode cX6_rankFromSubsets 1 = .ok (.invokestatic 71, 3) := by decide +kernel
theorem dX6_rankFromSubsets_4 : decode cX6_rankFromSubsets 4 = .ok (.istore_n 2, 1) := by decide +kernel
theorem dX6_rankFromSubsets_5 : decode cX6_rankFromSubsets 5 = .ok (.iconst 0, 1) := by decide +kernel
theorem dX6_rankFromSubsets_6 : decode cX6_rankFromSubsets 6 = .ok (.istore_n 3, 1) := by decide +kernel
theorem dX6_rankFromSubsets_7 : decode cX6_rankFromSubsets 7 = .ok (.iload_n 2, 1) := by decide +kernel
theorem dX6_rankFromSubsets_8 : decode cX6_rankFromSubsets 8 = .ok (.aload_n 0, 1) := by decide +kernel
theorem dX6_rankFromSubsets_9 : decode cX6_rankFromSubsets 9 = .ok (.getfield 45, 3) := by decide +kernel
theorem dX6_rankFromSubsets_12 : decode cX6_rankFromSubsets 12 = .ok (.getfield 68, 3) := by decide +kernel
theorem dX6_rankFromSubsets_15 : decode cX6_rankFromSubsets 15 = .ok (.if_icmp .gt 7, 3) := by decide +kernel
theorem dX6_rankFromSubsets_18 : decode cX6_rankFromSubsets 18 = .ok (.iconst 1, 1) := by decide +kernel
theorem dX6_rankFromSubsets_19 : decode cX6_rankFromSubsets 19 = .ok (.goto 4, 3) := by decide +kernel
theorem dX6_rankFromSubsets_22 : decode cX6_rankFromSubsets 22 = .ok (.iconst 0, 1) := by decide +kernel
theorem dX6_rankFromSubsets_23 : decode cX6_rankFromSubsets 23 = .ok (.istore 4, 2) := by decide +kernel
theorem dX6_rankFromSubsets_25 : decode cX6_rankFromSubsets 25 = .ok (.iconst 0, 1) := by decide +kernel
theorem dX6_rankFromSubsets_26 : decode cX6_rankFromSubsets 26 = .ok (.istore 5, 2) := by decide +kernel
theorem dX6_rankFromSubsets_28 : decode cX6_rankFromSubsets 28 = .ok (.iload 5, 2) := by decide +kernel
theorem dX6_rankFromSubsets_30 : decode cX6_rankFromSubsets 30 = .ok (.aload_n 0, 1) := by decide +kernel
theorem dX6_rankFromSubsets_31 : decode cX6_rankFromSubsets 31 = .ok (.getfield 45, 3) := by decide +kernel
theorem dX6_rankFromSubsets_34 : decode cX6_rankFromSubsets 34 = .ok (.getfield 83, 3) := by decide +kernel
theorem dX6_rankFromSubsets_37 : decode cX6_rankFromSubsets 37 = .ok (.if_icmp .ge 58, 3) := by decide +kernel
theorem dX6_rankFromSubsets_40 : decode cX6_rankFromSubsets 40 = .ok (.iload_n 1, 1) := by decide +kernel
theorem dX6_rankFromSubsets_41 : decode cX6_rankFromSubsets 41 = .ok (.iload 5, 2) := by decide +kernel
theorem dX6_rankFromSubsets_43 : decode cX6_rankFromSubsets 43 = .ok (.ishr, 1) := by decide +kernel
theorem dX6_rankFromSubsets_44 : decode cX6_rankFromSubsets 44 = .ok (.iconst 1, 1) := by decide +kernel
theorem dX6_rankFromSubsets_45 : decode cX6_rankFromSubsets 45 = .ok (.iand, 1) := by decide +kernel
theorem dX6_rankFromSubsets_46 : decode cX6_rankFromSubsets 46 = .ok (.ifCond .eq 43, 3) := by decide +kernel
theorem dX6_rankFromSubsets_49 : decode cX6_rankFromSubsets 49 = .ok (.aload_n 0, 1) := by decide +kernel
theorem dX6_rankFromSubsets_50 : decode cX6_rankFromSubsets 50 = .ok (.getfield 18, 3) := by decide +kernel
theorem dX6_rankFromSubsets_53 : decode cX6_rankFromSubsets 53 = .ok (.iload_n 1, 1) := by decide +kernel
theorem dX6_rankFromSubsets_54 : decode cX6_rankFromSubsets 54 = .ok (.iconst 1, 1) := by decide +kernel
theorem dX6_rankFromSubsets_55 : decode cX6_rankFromSubsets 55 = .ok (.iload 5, 2) := by decide +kernel
theorem dX6_rankFromSubsets_57 : decode cX6_rankFromSubsets 57 = .ok (.ishl, 1) := by decide +kernel
theorem dX6_rankFromSubsets_58 : decode cX6_rankFromSubsets 58 = .ok (.ixor, 1) := by decide +kernel
theorem dX6_rankFromSubsets_59 : decode cX6_rankFromSubsets 59 = .ok (.iaload, 1) := by decide +kernel
theorem dX6_rankFromSubsets_60 : decode cX6_rankFromSubsets 60 = .ok (.istore 6, 2) := by decide +kernel
theorem dX6_rankFromSubsets_62 : decode cX6_rankFromSubsets 62 = .ok (.iload_n 3, 1) := by decide +kernel
theorem dX6_rankFromSubsets_63 : decode cX6_rankFromSubsets 63 = .ok (.iload 6, 2) := by decide +kernel
theorem dX6_rankFromSubsets_65 : decode cX6_rankFromSubsets 65 = .ok (.invokestatic 86, 3) := by decide +kernel
theorem dX6_rankFromSubsets_68 : decode cX6_rankFromSubsets 68 = .ok (.istore_n 3, 1) := by decide +kernel
theorem dX6_rankFromSubsets_69 : decode cX6_rankFromSubsets 69 = .ok (.iload 4, 2) := by decide +kernel
theorem dX6_rankFromSubsets_71 : decode cX6_rankFromSubsets 71 = .ok (.ifCond .eq 15, 3) := by decide +kernel
theorem dX6_rankFromSubsets_74 : decode cX6_rankFromSubsets 74 = .ok (.iload 6, 2) := by decide +kernel
theorem dX6_rankFromSubsets_76 : decode cX6_rankFromSubsets 76 = .ok (.iload_n 2, 1) := by decide +kernel
theorem dX6_rankFromSubsets_77 : decode cX6_rankFromSubsets 77 = .ok (.iconst 1, 1) := by decide +kernel
theorem dX6_rankFromSubsets_78 : decode cX6_rankFromSubsets 78 = .ok (.isub, 1) := by decide +kernel
theorem dX6_rankFromSubsets_79 : decode cX6_rankFromSubsets 79 = .ok (.if_icmp .ne 7, 3) := by decide +kernel
theorem dX6_rankFromSubsets_82 : decode cX6_rankFromSubsets 82 = .ok (.iconst 1, 1) := by decide +kernel
theorem dX6_rankFromSubsets_83 : decode cX6_rankFromSubsets 83 = .ok (.goto 4, 3) := by decide +kernel
theorem dX6_rankFromSubsets_86 : decode cX6_rankFromSubsets 86 = .ok (.iconst 0, 1) := by decide +kernel
theorem dX6_rankFromSubsets_87 : decode cX6_rankFromSubsets 87 = .ok (.istore 4, 2) := by decide +kernel
theorem dX6_rankFromSubsets_89 : decode cX6_rankFromSubsets 89 = .ok (.iinc 5 1, 3) := by decide +kernel
theorem dX6_rankFromSubsets_92 : decode cX6_rankFromSubsets 92 = .ok (.goto (-64), 3) := by decide +kernel
theorem dX6_rankFromSubsets_95 : decode cX6_rankFromSubsets 95 = .ok (.iload 4, 2) := by decide +kernel
theorem dX6_rankFromSubsets_97 : decode cX6_rankFromSubsets 97 = .ok (.ifCond .ne 5, 3) := by decide +kernel
theorem dX6_rankFromSubsets_100 : decode cX6_rankFromSubsets 100 = .ok (.iload_n 3, 1) := by decide +kernel
theorem dX6_rankFromSubsets_101 : decode cX6_rankFromSubsets 101 = .ok (.ireturn, 1) := by decide +kernel
theorem dX6_rankFromSubsets_102 : decode cX6_rankFromSubsets 102 = .ok (.aload_n 0, 1) := by decide +kernel
theorem dX6_rankFromSubsets_103 : decode cX6_rankFromSubsets 103 = .ok (.getfield 12, 3) := by decide +kernel
theorem dX6_rankFromSubsets_106 : decode cX6_rankFromSubsets 106 = .ok (.aload_n 0, 1) := by decide +kernel
theorem dX6_rankFromSubsets_107 : decode cX6_rankFromSubsets 107 = .ok (.getfield 45, 3) := by decide +kernel
theorem dX6_rankFromSubsets_110 : decode cX6_rankFromSubsets 110 = .ok (.iload_n 1, 1) := by decide +kernel
theorem dX6_rankFromSubsets_111 : decode cX6_rankFromSubsets 111 = .ok (.invokevirtual 92, 3) := by decide +kernel
theorem dX6_rankFromSubsets_114 : decode cX6_rankFromSubsets 114 = .ok (.aload_n 0, 1) := by decide +kernel
theorem dX6_rankFromSubsets_115 : decode cX6_rankFromSubsets 115 = .ok (.getfield 12, 3) := by decide +kernel
theorem dX6_rankFromSubsets_118 : decode cX6_rankFromSubsets 118 = .ok (.iconst 0, 1) := by decide +kernel
theorem dX6_rankFromSubsets_119 : decode cX6_rankFromSubsets 119 = .ok (.invokevirtual 96, 3) := by decide +kernel
theorem dX6_rankFromSubsets_122 : decode cX6_rankFromSubsets 122 = .ok (.ireturn, 1) := by decide +kernel
theorem dX6_closureFromRanks_0 : decode cX6_closureFromRanks 0 = .ok (.iload_n 1, 1) := by decide +kernel
theorem dX6_closureFromRanks_1 : decode cX6_closureFromRanks 1 = .ok (.istore_n 2, 1) := by decide +kernel
theorem dX6_closureFromRanks_2 : decode cX6_closureFromRanks 2 = .ok (.iconst 0, 1) := by decide +kernel
theorem dX6_closureFromRanks_3 : decode cX6_closureFromRanks 3 = .ok (.istore_n 3, 1) := by decide +kernel
theorem dX6_closureFromRanks_4 : decode cX6_closureFromRanks 4 = .ok (.iload_n 3, 1) := by decide +kernel
theorem dX6_closureFromRanks_5 : decode cX6_closureFromRanks 5 = .ok (.aload_n 0, 1) := by decide +kernel
theorem dX6_closureFromRanks_6 : decode cX6_closureFromRanks 6 = .ok (.getfield 45, 3) := by decide +kernel
theorem dX6_closureFromRanks_9 : decode cX6_closureFromRanks 9 = .ok (.getfield 83, 3) := by decide +kernel
theorem dX6_closureFromRanks_12 : decode cX6_closureFromRanks 12 = .ok (.if_icmp .ge 34, 3) := by decide +kernel
theorem dX6_closureFromRanks_15 : decode cX6_closureFromRanks 15 = .ok (.aload_n 0, 1) := by decide +kernel
theorem dX6_closureFromRanks_16 : decode cX6_closureFromRanks 16 = .ok (.getfield 18, 3) := by decide +kernel
theorem dX6_closureFromRanks_19 : decode cX6_closureFromRanks 19 = .ok (.iload_n 1, 1) := by decide +kernel
theorem dX6_closureFromRanks_20 : decode cX6_closureFromRanks 20 = .ok (.iconst 1, 1) := by decide +kernel
theorem dX6_closureFromRanks_21 : decode cX6_closureFromRanks 21 = .ok (.iload_n 3, 1) := by decide +kernel
theorem dX6_closureFromRanks_22 : decode cX6_closureFromRanks 22 = .ok (.ishl, 1) := by decide +kernel
theorem dX6_closureFromRanks_23 : decode cX6_closureFromRanks 23 = .ok (.ior, 1) := by decide +kernel
theorem dX6_closureFromRanks_24 : decode cX6_closureFromRanks 24 = .ok (.iaload, 1) := by decide +kernel
theorem dX6_closureFromRanks_25 : decode cX6_closureFromRanks 25 = .ok (.aload_n 0, 1) := by decide +kernel
theorem dX6_closureFromRanks_26 : decode cX6_closureFromRanks 26 = .ok (.getfield 18, 3) := by decide +kernel
theorem dX6_closureFromRanks_29 : decode cX6_closureFromRanks 29 = .ok (.iload_n 1, 1) := by decide +kernel
theorem dX6_closureFromRanks_30 : decode cX6_closureFromRanks 30 = .ok (.iaload, 1) := by decide +kernel
theorem dX6_closureFromRanks_31 : decode cX6_closureFromRanks 31 = .ok (.if_icmp .ne 9, 3) := by decide +kernel
theorem dX6_closureFromRanks_34 : decode cX6_closureFromRanks 34 = .ok (.iload_n 2, 1) := by decide +kernel
theorem dX6_closureFromRanks_35 : decode cX6_closureFromRanks 35 = .ok (.iconst 1, 1) := by decide +kernel
theorem dX6_closureFromRanks_36 : decode cX6_closureFromRanks 36 = .ok (.iload_n 3, 1) := by decide +kernel
theorem dX6_closureFromRanks_37 : decode cX6_closureFromRanks 37 = .ok (.ishl, 1) := by decide +kernel
theorem dX6_closureFromRanks_38 : decode cX6_closureFromRanks 38 = .ok (.ior, 1) := by decide +kernel
theorem dX6_closureFromRanks_39 : decode cX6_closureFromRanks 39 = .ok (.istore_n 2, 1) := by decide +kernel
theorem dX6_closureFromRanks_40 : decode cX6_closureFromRanks 40 = .ok (.iinc 3 1, 3) := by decide +kernel
theorem dX6_closureFromRanks_43 : decode cX6_closureFromRanks 43 = .ok (.goto (-39), 3) := by decide +kernel
theorem dX6_closureFromRanks_46 : decode cX6_closureFromRanks 46 = .ok (.iload_n 2, 1) := by decide +kernel
theorem dX6_closureFromRanks_47 : decode cX6_closureFromRanks 47 = .ok (.ireturn, 1) := by decide +kernel
theorem dX6_isCircuit_0 : decode cX6_isCircuit 0 = .ok (.aload_n 0, 1) := by decide +kernel
theorem dX6_isCircuit_1 : decode cX6_isCircuit 1 = .ok (.getfield 18, 3) := by decide +kernel
theorem dX6_isCircuit_4 : decode cX6_isCircuit 4 = .ok (.iload_n 1, 1) := by decide +kernel
theorem dX6_isCircuit_5 : decode cX6_isCircuit 5 = .ok (.iaload, 1) := by decide +kernel
theorem dX6_isCircuit_6 : decode cX6_isCircuit 6 = .ok (.iload_n 2, 1) := by decide +kernel
theorem dX6_isCircuit_7 : decode cX6_isCircuit 7 = .ok (.if_icmp .ne 5, 3) := by decide +kernel
theorem dX6_isCircuit_10 : decode cX6_isCircuit 10 = .ok (.iconst 0, 1) := by decide +kernel
theorem dX6_isCircuit_11 : decode cX6_isCircuit 11 = .ok (.ireturn, 1) := by decide +kernel
theorem dX6_isCircuit_12 : decode cX6_isCircuit 12 = .ok (.iconst 0, 1) := by decide +kernel
theorem dX6_isCircuit_13 : decode cX6_isCircuit 13 = .ok (.istore_n 3, 1) := by decide +kernel
theorem dX6_isCircuit_14 : decode cX6_isCircuit 14 = .ok (.iload_n 3, 1) := by decide +kernel
theorem dX6_isCircuit_15 : decode cX6_isCircuit 15 = .ok (.aload_n 0, 1) := by decide +kernel
theorem dX6_isCircuit_16 : decode cX6_isCircuit 16 = .ok (.getfield 45, 3) := by decide +kernel
theorem dX6_isCircuit_19 : decode cX6_isCircuit 19 = .ok (.getfield 83, 3) := by decide +kernel
theorem dX6_isCircuit_22 : decode cX6_isCircuit 22 = .ok (.if_icmp .ge 35, 3) := by decide +kernel
theorem dX6_isCircuit_25 : decode cX6_isCircuit 25 = .ok (.iload_n 1, 1) := by decide +kernel
theorem dX6_isCircuit_26 : decode cX6_isCircuit 26 = .ok (.iload_n 3, 1) := by decide +kernel
theorem dX6_isCircuit_27 : decode cX6_isCircuit 27 = .ok (.ishr, 1) := by decide +kernel
theorem dX6_isCircuit_28 : decode cX6_isCircuit 28 = .ok (.iconst 1, 1) := by decide +kernel
theorem dX6_isCircuit_29 : decode cX6_isCircuit 29 = .ok (.iand, 1) := by decide +kernel
theorem dX6_isCircuit_30 : decode cX6_isCircuit 30 = .ok (.ifCond .eq 21, 3) := by decide +kernel
theorem dX6_isCircuit_33 : decode cX6_isCircuit 33 = .ok (.aload_n 0, 1) := by decide +kernel
theorem dX6_isCircuit_34 : decode cX6_isCircuit 34 = .ok (.getfield 18, 3) := by decide +kernel
theorem dX6_isCircuit_37 : decode cX6_isCircuit 37 = .ok (.iload_n 1, 1) := by decide +kernel
theorem dX6_isCircuit_38 : decode cX6_isCircuit 38 = .ok (.iconst 1, 1) := by decide +kernel
theorem dX6_isCircuit_39 : decode cX6_isCircuit 39 = .ok (.iload_n 3, 1) := by decide +kernel
theorem dX6_isCircuit_40 : decode cX6_isCircuit 40 = .ok (.ishl, 1) := by decide +kernel
theorem dX6_isCircuit_41 : decode cX6_isCircuit 41 = .ok (.ixor, 1) := by decide +kernel
theorem dX6_isCircuit_42 : decode cX6_isCircuit 42 = .ok (.iaload, 1) := by decide +kernel
theorem dX6_isCircuit_43 : decode cX6_isCircuit 43 = .ok (.iload_n 2, 1) := by decide +kernel
theorem dX6_isCircuit_44 : decode cX6_isCircuit 44 = .ok (.iconst 1, 1) := by decide +kernel
theorem dX6_isCircuit_45 : decode cX6_isCircuit 45 = .ok (.isub, 1) := by decide +kernel
theorem dX6_isCircuit_46 : decode cX6_isCircuit 46 = .ok (.if_icmp .eq 5, 3) := by decide +kernel
theorem dX6_isCircuit_49 : decode cX6_isCircuit 49 = .ok (.iconst 0, 1) := by decide +kernel
theorem dX6_isCircuit_50 : decode cX6_isCircuit 50 = .ok (.ireturn, 1) := by decide +kernel
theorem dX6_isCircuit_51 : decode cX6_isCircuit 51 = .ok (.iinc 3 1, 3) := by decide +kernel
theorem dX6_isCircuit_54 : decode cX6_isCircuit 54 = .ok (.goto (-40), 3) := by decide +kernel
theorem dX6_isCircuit_57 : decode cX6_isCircuit 57 = .ok (.iconst 1, 1) := by decide +kernel
theorem dX6_isCircuit_58 : decode cX6_isCircuit 58 = .ok (.ireturn, 1) := by decide +kernel
theorem dX6_rankOf_0 : decode cX6_rankOf 0 = .ok (.aload_n 0, 1) := by decide +kernel
theorem dX6_rankOf_1 : decode cX6_rankOf 1 = .ok (.invokevirtual 99, 3) := by decide +kernel
theorem dX6_rankOf_4 : decode cX6_rankOf 4 = .ok (.aload_n 0, 1) := by decide +kernel
theorem dX6_rankOf_5 : decode cX6_rankOf 5 = .ok (.getfield 18, 3) := by decide +kernel
theorem dX6_rankOf_8 : decode cX6_rankOf 8 = .ok (.iload_n 1, 1) := by decide +kernel
theorem dX6_rankOf_9 : decode cX6_rankOf 9 = .ok (.iaload, 1) := by decide +kernel
theorem dX6_rankOf_10 : decode cX6_rankOf 10 = .ok (.ireturn, 1) := by decide +kernel
theorem dX6_closureOf_0 : decode cX6_closureOf 0 = .ok (.aload_n 0, 1) := by decide +kernel
theorem dX6_closureOf_1 : decode cX6_closureOf 1 = .ok (.invokevirtual 99, 3) := by decide +kernel
theorem dX6_closureOf_4 : decode cX6_closureOf 4 = .ok (.aload_n 0, 1) := by decide +kernel
theorem dX6_closureOf_5 : decode cX6_closureOf 5 = .ok (.iload_n 1, 1) := by decide +kernel
theorem dX6_closureOf_6 : decode cX6_closureOf 6 = .ok (.invokevirtual 62, 3) := by decide +kernel
theorem dX6_closureOf_9 : decode cX6_closureOf 9 = .ok (.ireturn, 1) := by decide +kernel
theorem dX6_isFlat_0 : decode cX6_isFlat 0 = .ok (.aload_n 0, 1) := by decide +kernel
theorem dX6_isFlat_1 : decode cX6_isFlat 1 = .ok (.invokevirtual 99, 3) := by decide +kernel
theorem dX6_isFlat_4 : decode cX6_isFlat 4 = .ok (.aload_n 0, 1) := by decide +kernel
theorem dX6_isFlat_5 : decode cX6_isFlat 5 = .ok (.getfield 22, 3) := by decide +kernel
theorem dX6_isFlat_8 : decode cX6_isFlat 8 = .ok (.iload_n 1, 1) := by decide +kernel
theorem dX6_isFlat_9 : decode cX6_isFlat 9 = .ok (.baload, 1) := by decide +kernel
theorem dX6_isFlat_10 : decode cX6_isFlat 10 = .ok (.ireturn, 1) := by decide +kernel
theorem dX6_isIndependent_0 : decode cX6_isIndependent 0 = .ok (.aload_n 0, 1) := by decide +kernel
theorem dX6_isIndependent_1 : decode cX6_isIndependent 1 = .ok (.invokevirtual 99, 3) := by decide +kernel
theorem dX6_isIndependent_4 : decode cX6_isIndependent 4 = .ok (.aload_n 0, 1) := by decide +kernel
theorem dX6_isIndependent_5 : decode cX6_isIndependent 5 = .ok (.getfield 18, 3) := by decide +kernel
theorem dX6_isIndependent_8 : decode cX6_isIndependent 8 = .ok (.iload_n 1, 1) := by decide +kernel
theorem dX6_isIndependent_9 : decode cX6_isIndependent 9 = .ok (.iaload, 1) := by decide +kernel
theorem dX6_isIndependent_10 : decode cX6_isIndependent 10 = .ok (.iload_n 1, 1) := by decide +kernel
theorem dX6_isIndependent_11 : decode cX6_isIndependent 11 = .ok (.invokestatic 71, 3) := by decide +kernel
theorem dX6_isIndependent_14 : decode cX6_isIndependent 14 = .ok (.if_icmp .ne 7, 3) := by decide +kernel
theorem dX6_isIndependent_17 : decode cX6_isIndependent 17 = .ok (.iconst 1, 1) := by decide +kernel
theorem dX6_isIndependent_18 : decode cX6_isIndependent 18 = .ok (.goto 4, 3) := by decide +kernel
theorem dX6_isIndependent_21 : decode cX6_isIndependent 21 = .ok (.iconst 0, 1) := by decide +kernel
theorem dX6_isIndependent_22 : decode cX6_isIndependent 22 = .ok (.ireturn, 1) := by decide +kernel
theorem dX6_flatsOfRank_0 : decode cX6_flatsOfRank 0 = .ok (.aload_n 0, 1) := by decide +kernel
theorem dX6_flatsOfRank_1 : decode cX6_flatsOfRank 1 = .ok (.invokevirtual 99, 3) := by decide +kernel
theorem dX6_flatsOfRank_4 : decode cX6_flatsOfRank 4 = .ok (.aload_n 0, 1) := by decide +kernel
theorem dX6_flatsOfRank_5 : decode cX6_flatsOfRank 5 = .ok (.getfield 35, 3) := by decide +kernel
theorem dX6_flatsOfRank_8 : decode cX6_flatsOfRank 8 = .ok (.iconst 0, 1) := by decide +kernel
theorem dX6_flatsOfRank_9 : decode cX6_flatsOfRank 9 = .ok (.putfield 65, 3) := by decide +kernel
theorem dX6_flatsOfRank_12 : decode cX6_flatsOfRank 12 = .ok (.iconst 0, 1) := by decide +kernel
theorem dX6_flatsOfRank_13 : decode cX6_flatsOfRank 13 = .ok (.istore_n 2, 1) := by decide +kernel
theorem dX6_flatsOfRank_14 : decode cX6_flatsOfRank 14 = .ok (.iload_n 2, 1) := by decide +kernel
theorem dX6_flatsOfRank_15 : decode cX6_flatsOfRank 15 = .ok (.aload_n 0, 1) := by decide +kernel
theorem dX6_flatsOfRank_16 : decode cX6_flatsOfRank 16 = .ok (.getfield 45, 3) := by decide +kernel
theorem dX6_flatsOfRank_19 : decode cX6_flatsOfRank 19 = .ok (.invokevirtual 54, 3) := by decide +kernel
theorem dX6_flatsOfRank_22 : decode cX6_flatsOfRank 22 = .ok (.if_icmp .gt 36, 3) := by decide +kernel
theorem dX6_flatsOfRank_25 : decode cX6_flatsOfRank 25 = .ok (.aload_n 0, 1) := by decide +kernel
theorem dX6_flatsOfRank_26 : decode cX6_flatsOfRank 26 = .ok (.getfield 22, 3) := by decide +kernel
theorem dX6_flatsOfRank_29 : decode cX6_flatsOfRank 29 = .ok (.iload_n 2, 1) := by decide +kernel
theorem dX6_flatsOfRank_30 : decode cX6_flatsOfRank 30 = .ok (.baload, 1) := by decide +kernel
theorem dX6_flatsOfRank_31 : decode cX6_flatsOfRank 31 = .ok (.ifCond .eq 21, 3) := by decide +kernel
theorem dX6_flatsOfRank_34 : decode cX6_flatsOfRank 34 = .ok (.aload_n 0, 1) := by decide +kernel
theorem dX6_flatsOfRank_35 : decode cX6_flatsOfRank 35 = .ok (.getfield 18, 3) := by decide +kernel
theorem dX6_flatsOfRank_38 : decode cX6_flatsOfRank 38 = .ok (.iload_n 2, 1) := by decide +kernel
theorem dX6_flatsOfRank_39 : decode cX6_flatsOfRank 39 = .ok (.iaload, 1) := by decide +kernel
theorem dX6_flatsOfRank_40 : decode cX6_flatsOfRank 40 = .ok (.iload_n 1, 1) := by decide +kernel
theorem dX6_flatsOfRank_41 : decode cX6_flatsOfRank 41 = .ok (.if_icmp .ne 11, 3) := by decide +kernel
theorem dX6_flatsOfRank_44 : decode cX6_flatsOfRank 44 = .ok (.aload_n 0, 1) := by decide +kernel
theorem dX6_flatsOfRank_45 : decode cX6_flatsOfRank 45 = .ok (.getfield 35, 3) := by decide +kernel
theorem dX6_flatsOfRank_48 : decode cX6_flatsOfRank 48 = .ok (.iload_n 2, 1) := by decide +kernel
theorem dX6_flatsOfRank_49 : decode cX6_flatsOfRank 49 = .ok (.invokevirtual 80, 3) := by decide +kernel
theorem dX6_flatsOfRank_52 : decode cX6_flatsOfRank 52 = .ok (.iinc 2 1, 3) := by decide +kernel
theorem dX6_flatsOfRank_55 : decode cX6_flatsOfRank 55 = .ok (.goto (-41), 3) := by decide +kernel
theorem dX6_flatsOfRank_58 : decode cX6_flatsOfRank 58 = .ok (.aload_n 0, 1) := by decide +kernel
theorem dX6_flatsOfRank_59 : decode cX6_flatsOfRank 59 = .ok (.getfield 35, 3) := by decide +kernel
theorem dX6_flatsOfRank_62 : decode cX6_flatsOfRank 62 = .ok (.areturn, 1) := by decide +kernel
theorem dX6_circuits_0 : decode cX6_circuits 0 = .ok (.aload_n 0, 1) := by decide +kernel
theorem dX6_circuits_1 : decode cX6_circuits 1 = .ok (.invokevirtual 99, 3) := by decide +kernel
theorem dX6_circuits_4 : decode cX6_circuits 4 = .ok (.aload_n 0, 1) := by decide +kernel
theorem dX6_circuits_5 : decode cX6_circuits 5 = .ok (.getfield 31, 3) := by decide +kernel
theorem dX6_circuits_8 : decode cX6_circuits 8 = .ok (.areturn, 1) := by decide +kernel
theorem dX6_factorsOf_0 : decode cX6_factorsOf 0 = .ok (.aload_n 0, 1) := by decide +kernel
theorem dX6_factorsOf_1 : decode cX6_factorsOf 1 = .ok (.getfield 12, 3) := by decide +kernel
theorem dX6_factorsOf_4 : decode cX6_factorsOf 4 = .ok (.aload_n 0, 1) := by decide +kernel
theorem dX6_factorsOf_5 : decode cX6_factorsOf 5 = .ok (.getfield 45, 3) := by decide +kernel
theorem dX6_factorsOf_8 : decode cX6_factorsOf 8 = .ok (.iload_n 1, 1) := by decide +kernel
theorem dX6_factorsOf_9 : decode cX6_factorsOf 9 = .ok (.invokevirtual 92, 3) := by decide +kernel
theorem dX6_factorsOf_12 : decode cX6_factorsOf 12 = .ok (.aload_n 0, 1) := by decide +kernel
theorem dX6_factorsOf_13 : decode cX6_factorsOf 13 = .ok (.getfield 12, 3) := by decide +kernel
theorem dX6_factorsOf_16 : decode cX6_factorsOf 16 = .ok (.invokevirtual 102, 3) := by decide +kernel
theorem dX6_factorsOf_19 : decode cX6_factorsOf 19 = .ok (.aload_n 0, 1) := by decide +kernel
theorem dX6_factorsOf_20 : decode cX6_factorsOf 20 = .ok (.getfield 12, 3) := by decide +kernel
theorem dX6_factorsOf_23 : decode cX6_factorsOf 23 = .ok (.iconst 0, 1) := by decide +kernel
theorem dX6_factorsOf_24 : decode cX6_factorsOf 24 = .ok (.invokevirtual 96, 3) := by decide +kernel
theorem dX6_factorsOf_27 : decode cX6_factorsOf 27 = .ok (.pop, 1) := by decide +kernel
theorem dX6_factorsOf_28 : decode cX6_factorsOf 28 = .ok (.lconst 0, 1) := by decide +kernel
theorem dX6_factorsOf_29 : decode cX6_factorsOf 29 = .ok (.lstore_n 2, 1) := by decide +kernel
theorem dX6_factorsOf_30 : decode cX6_factorsOf 30 = .ok (.iconst 0, 1) := by decide +kernel
theorem dX6_factorsOf_31 : decode cX6_factorsOf 31 = .ok (.istore 4, 2) := by decide +kernel
theorem dX6_factorsOf_33 : decode cX6_factorsOf 33 = .ok (.iload 4, 2) := by decide +kernel
theorem dX6_factorsOf_35 : decode cX6_factorsOf 35 = .ok (.iload_n 1, 1) := by decide +kernel
theorem dX6_factorsOf_36 : decode cX6_factorsOf 36 = .ok (.invokestatic 71, 3) := by decide +kernel
theorem dX6_factorsOf_39 : decode cX6_factorsOf 39 = .ok (.if_icmp .ge 23, 3) := by decide +kernel
theorem dX6_factorsOf_42 : decode cX6_factorsOf 42 = .ok (.lload_n 2, 1) := by decide +kernel
theorem dX6_factorsOf_43 : decode cX6_factorsOf 43 = .ok (.aload_n 0, 1) := by decide +kernel
theorem dX6_factorsOf_44 : decode cX6_factorsOf 44 = .ok (.getfield 12, 3) := by decide +kernel
theorem dX6_factorsOf_47 : decode cX6_factorsOf 47 = .ok (.iload 4, 2) := by decide +kernel
theorem dX6_factorsOf_49 : decode cX6_factorsOf 49 = .ok (.invokevirtual 105, 3) := by decide +kernel
theorem dX6_factorsOf_52 : decode cX6_factorsOf 52 = .ok (.invokestatic 109, 3) := by decide +kernel
theorem dX6_factorsOf_55 : decode cX6_factorsOf 55 = .ok (.lstore_n 2, 1) := by decide +kernel
theorem dX6_factorsOf_56 : decode cX6_factorsOf 56 = .ok (.iinc 4 1, 3) := by decide +kernel
theorem dX6_factorsOf_59 : decode cX6_factorsOf 59 = .ok (.goto (-26), 3) := by decide +kernel
theorem dX6_factorsOf_62 : decode cX6_factorsOf 62 = .ok (.aload_n 0, 1) := by decide +kernel
theorem dX6_factorsOf_63 : decode cX6_factorsOf 63 = .ok (.getfield 12, 3) := by decide +kernel
theorem dX6_factorsOf_66 : decode cX6_factorsOf 66 = .ok (.iconst 0, 1) := by decide +kernel
theorem dX6_factorsOf_67 : decode cX6_factorsOf 67 = .ok (.invokevirtual 105, 3) := by decide +kernel
theorem dX6_factorsOf_70 : decode cX6_factorsOf 70 = .ok (.lconst 0, 1) := by decide +kernel
theorem dX6_factorsOf_71 : decode cX6_factorsOf 71 = .ok (.lcmp, 1) := by decide +kernel
theorem dX6_factorsOf_72 : decode cX6_factorsOf 72 = .ok (.ifCond .ge 6, 3) := by decide +kernel
theorem dX6_factorsOf_75 : decode cX6_factorsOf 75 = .ok (.lload_n 2, 1) := by decide +kernel
theorem dX6_factorsOf_76 : decode cX6_factorsOf 76 = .ok (.lneg, 1) := by decide +kernel
theorem dX6_factorsOf_77 : decode cX6_factorsOf 77 = .ok (.lstore_n 2, 1) := by decide +kernel
theorem dX6_factorsOf_78 : decode cX6_factorsOf 78 = .ok (.aload_n 0, 1) := by decide +kernel
theorem dX6_factorsOf_79 : decode cX6_factorsOf 79 = .ok (.getfield 38, 3) := by decide +kernel
theorem dX6_factorsOf_82 : decode cX6_factorsOf 82 = .ok (.iconst 0, 1) := by decide +kernel
theorem dX6_factorsOf_83 : decode cX6_factorsOf 83 = .ok (.invokestatic 113, 3) := by decide +kernel
theorem dX6_factorsOf_86 : decode cX6_factorsOf 86 = .ok (.iconst 0, 1) := by decide +kernel
theorem dX6_factorsOf_87 : decode cX6_factorsOf 87 = .ok (.istore 4, 2) := by decide +kernel
theorem dX6_factorsOf_89 : decode cX6_factorsOf 89 = .ok (.iconst 0, 1) := by decide +kernel
theorem dX6_factorsOf_90 : decode cX6_factorsOf 90 = .ok (.istore 5, 2) := by decide +kernel
theorem dX6_factorsOf_92 : decode cX6_factorsOf 92 = .ok (.iload 5, 2) := by decide +kernel
theorem dX6_factorsOf_94 : decode cX6_factorsOf 94 = .ok (.aload_n 0, 1) := by decide +kernel
theorem dX6_factorsOf_95 : decode cX6_factorsOf 95 = .ok (.getfield 45, 3) := by decide +kernel
theorem dX6_factorsOf_98 : decode cX6_factorsOf 98 = .ok (.getfield 83, 3) := by decide +kernel
theorem dX6_factorsOf_101 : decode cX6_factorsOf 101 = .ok (.if_icmp .ge 46, 3) := by decide +kernel
theorem dX6_factorsOf_104 : decode cX6_factorsOf 104 = .ok (.iload_n 1, 1) := by decide +kernel
theorem dX6_factorsOf_105 : decode cX6_factorsOf 105 = .ok (.iload 5, 2) := by decide +kernel
theorem dX6_factorsOf_107 : decode cX6_factorsOf 107 = .ok (.ishr, 1) := by decide +kernel
theorem dX6_factorsOf_108 : decode cX6_factorsOf 108 = .ok (.iconst 1, 1) := by decide +kernel
theorem dX6_factorsOf_109 : decode cX6_factorsOf 109 = .ok (.iand, 1) := by decide +kernel
theorem dX6_factorsOf_110 : decode cX6_factorsOf 110 = .ok (.ifCond .eq 31, 3) := by decide +kernel
theorem dX6_factorsOf_113 : decode cX6_factorsOf 113 = .ok (.lload_n 2, 1) := by decide +kernel
theorem dX6_factorsOf_114 : decode cX6_factorsOf 114 = .ok (.lconst 0, 1) := by decide +kernel
theorem dX6_factorsOf_115 : decode cX6_factorsOf 115 = .ok (.lcmp, 1) := by decide +kernel
theorem dX6_factorsOf_116 : decode cX6_factorsOf 116 = .ok (.ifCond .eq 25, 3) := by decide +kernel
theorem dX6_factorsOf_119 : decode cX6_factorsOf 119 = .ok (.aload_n 0, 1) := by decide +kernel
theorem dX6_factorsOf_120 : decode cX6_factorsOf 120 = .ok (.getfield 38, 3) := by decide +kernel
theorem dX6_factorsOf_123 : decode cX6_factorsOf 123 = .ok (.iload 5, 2) := by decide +kernel
theorem dX6_factorsOf_125 : decode cX6_factorsOf 125 = .ok (.aload_n 0, 1) := by decide +kernel
theorem dX6_factorsOf_126 : decode cX6_factorsOf 126 = .ok (.getfield 12, 3) := by decide +kernel
theorem dX6_factorsOf_129 : decode cX6_factorsOf 129 = .ok (.iload 4, 2) := by decide +kernel
theorem dX6_factorsOf_131 : decode cX6_factorsOf 131 = .ok (.invokevirtual 105, 3) := by decide +kernel
theorem dX6_factorsOf_134 : decode cX6_factorsOf 134 = .ok (.lload_n 2, 1) := by decide +kernel
theorem dX6_factorsOf_135 : decode cX6_factorsOf 135 = .ok (.ldiv, 1) := by decide +kernel
theorem dX6_factorsOf_136 : decode cX6_factorsOf 136 = .ok (.l2i, 1) := by decide +kernel
theorem dX6_factorsOf_137 : decode cX6_factorsOf 137 = .ok (.iastore, 1) := by decide +kernel
theorem dX6_factorsOf_138 : decode cX6_factorsOf 138 = .ok (.iinc 4 1, 3) := by decide +kernel
theorem dX6_factorsOf_141 : decode cX6_factorsOf 141 = .ok (.iinc 5 1, 3) := by decide +kernel
theorem dX6_factorsOf_144 : decode cX6_factorsOf 144 = .ok (.goto (-52), 3) := by decide +kernel
theorem dX6_factorsOf_147 : decode cX6_factorsOf 147 = .ok (.aload_n 0, 1) := by decide +kernel
theorem dX6_factorsOf_148 : decode cX6_factorsOf 148 = .ok (.getfield 38, 3) := by decide +kernel
theorem dX6_factorsOf_151 : decode cX6_factorsOf 151 = .ok (.areturn, 1) := by decide +kernel
theorem dX6_commonDivisor_0 : decode cX6_commonDivisor 0 = .ok (.lload_n 0, 1) := by decide +kernel
theorem dX6_commonDivisor_1 : decode cX6_commonDivisor 1 = .ok (.invokestatic 119, 3) := by decide +kernel
theorem dX6_commonDivisor_4 : decode cX6_commonDivisor 4 = .ok (.lstore 4, 2) := by decide +kernel
theorem dX6_commonDivisor_6 : decode cX6_commonDivisor 6 = .ok (.lload_n 2, 1) := by decide +kernel
theorem dX6_commonDivisor_7 : decode cX6_commonDivisor 7 = .ok (.invokestatic 119, 3) := by decide +kernel
theorem dX6_commonDivisor_10 : decode cX6_commonDivisor 10 = .ok (.lstore 6, 2) := by decide +kernel
theorem dX6_commonDivisor_12 : decode cX6_commonDivisor 12 = .ok (.iconst 0, 1) := by decide +kernel
theorem dX6_commonDivisor_13 : decode cX6_commonDivisor 13 = .ok (.istore 8, 2) := by decide +kernel
theorem dX6_commonDivisor_15 : decode cX6_commonDivisor 15 = .ok (.iload 8, 2) := by decide +kernel
theorem dX6_commonDivisor_17 : decode cX6_commonDivisor 17 = .ok (.bipush 100, 2) := by decide +kernel
theorem dX6_commonDivisor_19 : decode cX6_commonDivisor 19 = .ok (.if_icmp .ge 31, 3) := by decide +kernel
theorem dX6_commonDivisor_22 : decode cX6_commonDivisor 22 = .ok (.lload 6, 2) := by decide +kernel
theorem dX6_commonDivisor_24 : decode cX6_commonDivisor 24 = .ok (.lconst 0, 1) := by decide +kernel
theorem dX6_commonDivisor_25 : decode cX6_commonDivisor 25 = .ok (.lcmp, 1) := by decide +kernel
theorem dX6_commonDivisor_26 : decode cX6_commonDivisor 26 = .ok (.ifCond .eq 24, 3) := by decide +kernel
theorem dX6_commonDivisor_29 : decode cX6_commonDivisor 29 = .ok (.lload 4, 2) := by decide +kernel
theorem dX6_commonDivisor_31 : decode cX6_commonDivisor 31 = .ok (.lload 6, 2) := by decide +kernel
theorem dX6_commonDivisor_33 : decode cX6_commonDivisor 33 = .ok (.lrem, 1) := by decide +kernel
theorem dX6_commonDivisor_34 : decode cX6_commonDivisor 34 = .ok (.lstore 9, 2) := by decide +kernel
theorem dX6_commonDivisor_36 : decode cX6_commonDivisor 36 = .ok (.lload 6, 2) := by decide +kernel
theorem dX6_commonDivisor_38 : decode cX6_commonDivisor 38 = .ok (.lstore 4, 2) := by decide +kernel
theorem dX6_commonDivisor_40 : decode cX6_commonDivisor 40 = .ok (.lload 9, 2) := by decide +kernel
theorem dX6_commonDivisor_42 : decode cX6_commonDivisor 42 = .ok (.lstore 6, 2) := by decide +kernel
theorem dX6_commonDivisor_44 : decode cX6_commonDivisor 44 = .ok (.iinc 8 1, 3) := by decide +kernel
theorem dX6_commonDivisor_47 : decode cX6_commonDivisor 47 = .ok (.goto (-32), 3) := by decide +kernel
theorem dX6_commonDivisor_50 : decode cX6_commonDivisor 50 = .ok (.lload 4, 2) := by decide +kernel
theorem dX6_commonDivisor_52 : decode cX6_commonDivisor 52 = .ok (.lreturn, 1) := by decide +kernel
theorem dX6_coefficient_0 : decode cX6_coefficient 0 = .ok (.aload_n 0, 1) := by decide +kernel
theorem dX6_coefficient_1 : decode cX6_coefficient 1 = .ok (.invokevirtual 99, 3) := by decide +kernel
theorem dX6_coefficient_4 : decode cX6_coefficient 4 = .ok (.aload_n 0, 1) := by decide +kernel
theorem dX6_coefficient_5 : decode cX6_coefficient 5 = .ok (.iload_n 1, 1) := by decide +kernel
theorem dX6_coefficient_6 : decode cX6_coefficient 6 = .ok (.iload_n 2, 1) := by decide +kernel
theorem dX6_coefficient_7 : decode cX6_coefficient 7 = .ok (.invokevirtual 123, 3) := by decide +kernel
theorem dX6_coefficient_10 : decode cX6_coefficient 10 = .ok (.ireturn, 1) := by decide +kernel
theorem dX6_coefficientFromRanks_0 : decode cX6_coefficientFromRanks 0 = .ok (.aload_n 0, 1) := by decide +kernel
theorem dX6_coefficientFromRanks_1 : decode cX6_coefficientFromRanks 1 = .ok (.getfield 45, 3) := by decide +kernel
theorem dX6_coefficientFromRanks_4 : decode cX6_coefficientFromRanks 4 = .ok (.getfield 68, 3) := by decide +kernel
theorem dX6_coefficientFromRanks_7 : decode cX6_coefficientFromRanks 7 = .ok (.iload_n 2, 1) := by decide +kernel
theorem dX6_coefficientFromRanks_8 : decode cX6_coefficientFromRanks 8 = .ok (.isub, 1) := by decide +kernel
theorem dX6_coefficientFromRanks_9 : decode cX6_coefficientFromRanks 9 = .ok (.istore_n 3, 1) := by decide +kernel
theorem dX6_coefficientFromRanks_10 : decode cX6_coefficientFromRanks 10 = .ok (.iconst 0, 1) := by decide +kernel
theorem dX6_coefficientFromRanks_11 : decode cX6_coefficientFromRanks 11 = .ok (.istore 4, 2) := by decide +kernel
theorem dX6_coefficientFromRanks_13 : decode cX6_coefficientFromRanks 13 = .ok (.iconst 0, 1) := by decide +kernel
theorem dX6_coefficientFromRanks_14 : decode cX6_coefficientFromRanks 14 = .ok (.istore 5, 2) := by decide +kernel
theorem dX6_coefficientFromRanks_16 : decode cX6_coefficientFromRanks 16 = .ok (.iload 5, 2) := by decide +kernel
theorem dX6_coefficientFromRanks_18 : decode cX6_coefficientFromRanks 18 = .ok (.iload_n 1, 1) := by decide +kernel
theorem dX6_coefficientFromRanks_19 : decode cX6_coefficientFromRanks 19 = .ok (.if_icmp .gt 49, 3) := by decide +kernel
theorem dX6_coefficientFromRanks_22 : decode cX6_coefficientFromRanks 22 = .ok (.iload 5, 2) := by decide +kernel
theorem dX6_coefficientFromRanks_24 : decode cX6_coefficientFromRanks 24 = .ok (.iload_n 1, 1) := by decide +kernel
theorem dX6_coefficientFromRanks_25 : decode cX6_coefficientFromRanks 25 = .ok (.iconst (-1), 1) := by decide +kernel
theorem dX6_coefficientFromRanks_26 : decode cX6_coefficientFromRanks 26 = .ok (.ixor, 1) := by decide +kernel
theorem dX6_coefficientFromRanks_27 : decode cX6_coefficientFromRanks 27 = .ok (.iand, 1) := by decide +kernel
theorem dX6_coefficientFromRanks_28 : decode cX6_coefficientFromRanks 28 = .ok (.ifCond .ne 34, 3) := by decide +kernel
theorem dX6_coefficientFromRanks_31 : decode cX6_coefficientFromRanks 31 = .ok (.aload_n 0, 1) := by decide +kernel
theorem dX6_coefficientFromRanks_32 : decode cX6_coefficientFromRanks 32 = .ok (.getfield 18, 3) := by decide +kernel
theorem dX6_coefficientFromRanks_35 : decode cX6_coefficientFromRanks 35 = .ok (.iload 5, 2) := by decide +kernel
theorem dX6_coefficientFromRanks_37 : decode cX6_coefficientFromRanks 37 = .ok (.iaload, 1) := by decide +kernel
theorem dX6_coefficientFromRanks_38 : decode cX6_coefficientFromRanks 38 = .ok (.iload_n 3, 1) := by decide +kernel
theorem dX6_coefficientFromRanks_39 : decode cX6_coefficientFromRanks 39 = .ok (.if_icmp .ne 23, 3) := by decide +kernel
theorem dX6_coefficientFromRanks_42 : decode cX6_coefficientFromRanks 42 = .ok (.iload 4, 2) := by decide +kernel
theorem dX6_coefficientFromRanks_44 : decode cX6_coefficientFromRanks 44 = .ok (.iload 5, 2) := by decide +kernel
theorem dX6_coefficientFromRanks_46 : decode cX6_coefficientFromRanks 46 = .ok (.invokestatic 71, 3) := by decide +kernel
theorem dX6_coefficientFromRanks_49 : decode cX6_coefficientFromRanks 49 = .ok (.iconst 1, 1) := by decide +kernel
theorem dX6_coefficientFromRanks_50 : decode cX6_coefficientFromRanks 50 = .ok (.iand, 1) := by decide +kernel
theorem dX6_coefficientFromRanks_51 : decode cX6_coefficientFromRanks 51 = .ok (.ifCond .ne 7, 3) := by decide +kernel
theorem dX6_coefficientFromRanks_54 : decode cX6_coefficientFromRanks 54 = .ok (.iconst 1, 1) := by decide +kernel
theorem dX6_coefficientFromRanks_55 : decode cX6_coefficientFromRanks 55 = .ok (.goto 4, 3) := by decide +kernel
theorem dX6_coefficientFromRanks_58 : decode cX6_coefficientFromRanks 58 = .ok (.iconst (-1), 1) := by decide +kernel
theorem dX6_coefficientFromRanks_59 : decode cX6_coefficientFromRanks 59 = .ok (.iadd, 1) := by decide +kernel
theorem dX6_coefficientFromRanks_60 : decode cX6_coefficientFromRanks 60 = .ok (.istore 4, 2) := by decide +kernel
theorem dX6_coefficientFromRanks_62 : decode cX6_coefficientFromRanks 62 = .ok (.iinc 5 1, 3) := by decide +kernel
theorem dX6_coefficientFromRanks_65 : decode cX6_coefficientFromRanks 65 = .ok (.goto (-49), 3) := by decide +kernel
theorem dX6_coefficientFromRanks_68 : decode cX6_coefficientFromRanks 68 = .ok (.iload 4, 2) := by decide +kernel
theorem dX6_coefficientFromRanks_70 : decode cX6_coefficientFromRanks 70 = .ok (.ireturn, 1) := by decide +kernel
theorem dX6_moebius_0 : decode cX6_moebius 0 = .ok (.aload_n 0, 1) := by decide +kernel
theorem dX6_moebius_1 : decode cX6_moebius 1 = .ok (.invokevirtual 99, 3) := by decide +kernel
theorem dX6_moebius_4 : decode cX6_moebius 4 = .ok (.aload_n 0, 1) := by decide +kernel
theorem dX6_moebius_5 : decode cX6_moebius 5 = .ok (.iload_n 1, 1) := by decide +kernel
theorem dX6_moebius_6 : decode cX6_moebius 6 = .ok (.aload_n 0, 1) := by decide +kernel
theorem dX6_moebius_7 : decode cX6_moebius 7 = .ok (.getfield 45, 3) := by decide +kernel
theorem dX6_moebius_10 : decode cX6_moebius 10 = .ok (.getfield 68, 3) := by decide +kernel
theorem dX6_moebius_13 : decode cX6_moebius 13 = .ok (.aload_n 0, 1) := by decide +kernel
theorem dX6_moebius_14 : decode cX6_moebius 14 = .ok (.getfield 18, 3) := by decide +kernel
theorem dX6_moebius_17 : decode cX6_moebius 17 = .ok (.iload_n 1, 1) := by decide +kernel
theorem dX6_moebius_18 : decode cX6_moebius 18 = .ok (.iaload, 1) := by decide +kernel
theorem dX6_moebius_19 : decode cX6_moebius 19 = .ok (.isub, 1) := by decide +kernel
theorem dX6_moebius_20 : decode cX6_moebius 20 = .ok (.invokevirtual 123, 3) := by decide +kernel
theorem dX6_moebius_23 : decode cX6_moebius 23 = .ok (.ireturn, 1) := by decide +kernel
theorem dX6_valueAt_0 : decode cX6_valueAt 0 = .ok (.aload_n 0, 1) := by decide +kernel
theorem dX6_valueAt_1 : decode cX6_valueAt 1 = .ok (.invokevirtual 99, 3) := by decide +kernel
theorem dX6_valueAt_4 : decode cX6_valueAt 4 = .ok (.iconst 0, 1) := by decide +kernel
theorem dX6_valueAt_5 : decode cX6_valueAt 5 = .ok (.istore_n 2, 1) := by decide +kernel
theorem dX6_valueAt_6 : decode cX6_valueAt 6 = .ok (.iconst 4, 1) := by decide +kernel
theorem dX6_valueAt_7 : decode cX6_valueAt 7 = .ok (.istore_n 3, 1) := by decide +kernel
theorem dX6_valueAt_8 : decode cX6_valueAt 8 = .ok (.iload_n 3, 1) := by decide +kernel
theorem dX6_valueAt_9 : decode cX6_valueAt 9 = .ok (.ifCond .lt 26, 3) := by decide +kernel
theorem dX6_valueAt_12 : decode cX6_valueAt 12 = .ok (.iload_n 2, 1) := by decide +kernel
theorem dX6_valueAt_13 : decode cX6_valueAt 13 = .ok (.iload_n 1, 1) := by decide +kernel
theorem dX6_valueAt_14 : decode cX6_valueAt 14 = .ok (.imul, 1) := by decide +kernel
theorem dX6_valueAt_15 : decode cX6_valueAt 15 = .ok (.aload_n 0, 1) := by decide +kernel
theorem dX6_valueAt_16 : decode cX6_valueAt 16 = .ok (.aload_n 0, 1) := by decide +kernel
theorem dX6_valueAt_17 : decode cX6_valueAt 17 = .ok (.getfield 45, 3) := by decide +kernel
theorem dX6_valueAt_20 : decode cX6_valueAt 20 = .ok (.invokevirtual 54, 3) := by decide +kernel
theorem dX6_valueAt_23 : decode cX6_valueAt 23 = .ok (.iload_n 3, 1) := by decide +kernel
theorem dX6_valueAt_24 : decode cX6_valueAt 24 = .ok (.invokevirtual 123, 3) := by decide +kernel
theorem dX6_valueAt_27 : decode cX6_valueAt 27 = .ok (.iadd, 1) := by decide +kernel
theorem dX6_valueAt_28 : decode cX6_valueAt 28 = .ok (.istore_n 2, 1) := by decide +kernel
theorem dX6_valueAt_29 : decode cX6_valueAt 29 = .ok (.iinc 3 (-1), 3) := by decide +kernel
theorem dX6_valueAt_32 : decode cX6_valueAt 32 = .ok (.goto (-24), 3) := by decide +kernel
theorem dX6_valueAt_35 : decode cX6_valueAt 35 = .ok (.iload_n 2, 1) := by decide +kernel
theorem dX6_valueAt_36 : decode cX6_valueAt 36 = .ok (.ireturn, 1) := by decide +kernel
theorem dX6_countRegions_0 : decode cX6_countRegions 0 = .ok (.aload_n 0, 1) := by decide +kernel
theorem dX6_countRegions_1 : decode cX6_countRegions 1 = .ok (.iconst (-1), 1) := by decide +kernel
theorem dX6_countRegions_2 : decode cX6_countRegions 2 = .ok (.invokevirtual 126, 3) := by decide +kernel
theorem dX6_countRegions_5 : decode cX6_countRegions 5 = .ok (.invokestatic 129, 3) := by decide +kernel
theorem dX6_countRegions_8 : decode cX6_countRegions 8 = .ok (.ireturn, 1) := by decide +kernel
theorem dX7_init_0 : decode cX7_init 0 = .ok (.aload_n 0, 1) := by decide +kernel
theorem dX7_init_1 : decode cX7_init 1 = .ok (.invokespecial 3, 3) := by decide +kernel
theorem dX7_init_4 : decode cX7_init 4 = .ok (.aload_n 0, 1) := by decide +kernel
theorem dX7_init_5 : decode cX7_init 5 = .ok (.sipush 512, 3) := by decide +kernel
theorem dX7_init_8 : decode cX7_init 8 = .ok (.newarray .boolean, 2) := by decide +kernel
theorem dX7_init_10 : decode cX7_init 10 = .ok (.putfield 9, 3) := by decide +kernel
theorem dX7_init_13 : decode cX7_init 13 = .ok (.aload_n 0, 1) := by decide +kernel
theorem dX7_init_14 : decode cX7_init 14 = .ok (.sipush 512, 3) := by decide +kernel
theorem dX7_init_17 : decode cX7_init 17 = .ok (.newarray .boolean, 2) := by decide +kernel
theorem dX7_init_19 : decode cX7_init 19 = .ok (.putfield 15, 3) := by decide +kernel
theorem dX7_init_22 : decode cX7_init 22 = .ok (.aload_n 0, 1) := by decide +kernel
theorem dX7_init_23 : decode cX7_init 23 = .ok (.iconst 5, 1) := by decide +kernel
theorem dX7_init_24 : decode cX7_init 24 = .ok (.newarray .int, 2) := by decide +kernel
theorem dX7_init_26 : decode cX7_init 26 = .ok (.putfield 18, 3) := by decide +kernel
theorem dX7_init_29 : decode cX7_init 29 = .ok (.aload_n 0, 1) := by decide +kernel
theorem dX7_init_30 : decode cX7_init 30 = .ok (.iconst (-1), 1) := by decide +kernel
theorem dX7_init_31 : decode cX7_init 31 = .ok (.putfield 22, 3) := by decide +kernel
theorem dX7_init_34 : decode cX7_init 34 = .ok (.aload_n 0, 1) := by decide +kernel
theorem dX7_init_35 : decode cX7_init 35 = .ok (.aload_n 1, 1) := by decide +kernel
theorem dX7_init_36 : decode cX7_init 36 = .ok (.putfield 26, 3) := by decide +kernel
theorem dX7_init_39 : decode cX7_init 39 = .ok (.aload_n 0, 1) := by decide +kernel
theorem dX7_init_40 : decode cX7_init 40 = .ok (.aload_n 2, 1) := by decide +kernel
theorem dX7_init_41 : decode cX7_init 41 = .ok (.putfield 30, 3) := by decide +kernel
theorem dX7_init_44 : decode cX7_init 44 = .ok (.return_, 1) := by decide +kernel
theorem dX7_refresh_0 : decode cX7_refresh 0 = .ok (.aload_n 0, 1) := by decide +kernel
theorem dX7_refresh_1 : decode cX7_refresh 1 = .ok (.getfield 22, 3) := by decide +kernel
theorem dX7_refresh_4 : decode cX7_refresh 4 = .ok (.aload_n 0, 1) := by decide +kernel
theorem dX7_refresh_5 : decode cX7_refresh 5 = .ok (.getfield 26, 3) := by decide +kernel
theorem dX7_refresh_8 : decode cX7_refresh 8 = .ok (.getfield 34, 3) := by decide +kernel
theorem dX7_refresh_11 : decode cX7_refresh 11 = .ok (.if_icmp .ne 4, 3) := by decide +kernel
theorem dX7_refresh_14 : decode cX7_refresh 14 = .ok (.return_, 1) := by decide +kernel
theorem dX7_refresh_15 : decode cX7_refresh 15 = .ok (.aload_n 0, 1) := by decide +kernel
theorem dX7_refresh_16 : decode cX7_refresh 16 = .ok (.aload_n 0, 1) := by decide +kernel
theorem dX7_refresh_17 : decode cX7_refresh 17 = .ok (.getfield 26, 3) := by decide +kernel
theorem dX7_refresh_20 : decode cX7_refresh 20 = .ok (.getfield 34, 3) := by decide +kernel
theorem dX7_refresh_23 : decode cX7_refresh 23 = .ok (.putfield 22, 3) := by decide +kernel
theorem dX7_refresh_26 : decode cX7_refresh 26 = .ok (.aload_n 0, 1) := by decide +kernel
theorem dX7_refresh_27 : decode cX7_refresh 27 = .ok (.getfield 30, 3) := by decide +kernel
theorem dX7_refresh_30 : decode cX7_refresh 30 = .ok (.invokevirtual 39, 3) := by decide +kernel
theorem dX7_refresh_33 : decode cX7_refresh 33 = .ok (.aload_n 0, 1) := by decide +kernel
theorem dX7_refresh_34 : decode cX7_refresh 34 = .ok (.getfield 26, 3) := by decide +kernel
theorem dX7_refresh_37 : decode cX7_refresh 37 = .ok (.invokevirtual 44, 3) := by decide +kernel
theorem dX7_refresh_40 : decode cX7_refresh 40 = .ok (.istore_n 1, 1) := by decide +kernel
theorem dX7_refresh_41 : decode cX7_refresh 41 = .ok (.iload_n 1, 1) := by decide +kernel
theorem dX7_refresh_42 : decode cX7_refresh 42 = .ok (.istore_n 2, 1) := by decide +kernel
theorem dX7_refresh_43 : decode cX7_refresh 43 = .ok (.iload_n 2, 1) := by decide +kernel
theorem dX7_refresh_44 : decode cX7_refresh 44 = .ok (.ifCond .lt 74, 3) := by decide +kernel
theorem dX7_refresh_47 : decode cX7_refresh 47 = .ok (.aload_n 0, 1) := by decide +kernel
theorem dX7_refresh_48 : decode cX7_refresh 48 = .ok (.getfield 9, 3) := by decide +kernel
theorem dX7_refresh_51 : decode cX7_refresh 51 = .ok (.iload_n 2, 1) := by decide +kernel
theorem dX7_refresh_52 : decode cX7_refresh 52 = .ok (.aload_n 0, 1) := by decide +kernel
theorem dX7_refresh_53 : decode cX7_refresh 53 = .ok (.getfield 30, 3) := by decide +kernel
theorem dX7_refresh_56 : decode cX7_refresh 56 = .ok (.getfield 48, 3) := by decide +kernel
theorem dX7_refresh_59 : decode cX7_refresh 59 = .ok (.iload_n 2, 1) := by decide +kernel
theorem dX7_refresh_60 : decode cX7_refresh 60 = .ok (.baload, 1) := by decide +kernel
