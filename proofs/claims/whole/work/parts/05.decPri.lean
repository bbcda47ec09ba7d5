theorem d_Pri_init_0 : decode b_Pri_init 0 = .ok (.aload_n 0, 1) := by decide +kernel
theorem d_Pri_init_1 : decode b_Pri_init 1 = .ok (.invokespecial 1, 3) := by decide +kernel
theorem d_Pri_init_4 : decode b_Pri_init 4 = .ok (.aload_n 0, 1) := by decide +kernel
theorem d_Pri_init_5 : decode b_Pri_init 5 = .ok (.new 7, 3) := by decide +kernel
theorem d_Pri_init_8 : decode b_Pri_init 8 = .ok (.dup, 1) := by decide +kernel
theorem d_Pri_init_9 : decode b_Pri_init 9 = .ok (.invokespecial 9, 3) := by decide +kernel
theorem d_Pri_init_12 : decode b_Pri_init 12 = .ok (.putfield 10, 3) := by decide +kernel
theorem d_Pri_init_15 : decode b_Pri_init 15 = .ok (.aload_n 0, 1) := by decide +kernel
theorem d_Pri_init_16 : decode b_Pri_init 16 = .ok (.new 16, 3) := by decide +kernel
theorem d_Pri_init_19 : decode b_Pri_init 19 = .ok (.dup, 1) := by decide +kernel
theorem d_Pri_init_20 : decode b_Pri_init 20 = .ok (.invokespecial 18, 3) := by decide +kernel
theorem d_Pri_init_23 : decode b_Pri_init 23 = .ok (.putfield 19, 3) := by decide +kernel
theorem d_Pri_init_26 : decode b_Pri_init 26 = .ok (.aload_n 0, 1) := by decide +kernel
theorem d_Pri_init_27 : decode b_Pri_init 27 = .ok (.new 23, 3) := by decide +kernel
theorem d_Pri_init_30 : decode b_Pri_init 30 = .ok (.dup, 1) := by decide +kernel
theorem d_Pri_init_31 : decode b_Pri_init 31 = .ok (.invokespecial 25, 3) := by decide +kernel
theorem d_Pri_init_34 : decode b_Pri_init 34 = .ok (.putfield 26, 3) := by decide +kernel
theorem d_Pri_init_37 : decode b_Pri_init 37 = .ok (.aload_n 0, 1) := by decide +kernel
theorem d_Pri_init_38 : decode b_Pri_init 38 = .ok (.new 30, 3) := by decide +kernel
theorem d_Pri_init_41 : decode b_Pri_init 41 = .ok (.dup, 1) := by decide +kernel
theorem d_Pri_init_42 : decode b_Pri_init 42 = .ok (.invokespecial 32, 3) := by decide +kernel
theorem d_Pri_init_45 : decode b_Pri_init 45 = .ok (.putfield 33, 3) := by decide +kernel
theorem d_Pri_init_48 : decode b_Pri_init 48 = .ok (.aload_n 0, 1) := by decide +kernel
theorem d_Pri_init_49 : decode b_Pri_init 49 = .ok (.new 37, 3) := by decide +kernel
theorem d_Pri_init_52 : decode b_Pri_init 52 = .ok (.dup, 1) := by decide +kernel
theorem d_Pri_init_53 : decode b_Pri_init 53 = .ok (.invokespecial 39, 3) := by decide +kernel
theorem d_Pri_init_56 : decode b_Pri_init 56 = .ok (.putfield 40, 3) := by decide +kernel
theorem d_Pri_init_59 : decode b_Pri_init 59 = .ok (.aload_n 0, 1) := by decide +kernel
theorem d_Pri_init_60 : decode b_Pri_init 60 = .ok (.new 44, 3) := by decide +kernel
theorem d_Pri_init_63 : decode b_Pri_init 63 = .ok (.dup, 1) := by decide +kernel
theorem d_Pri_init_64 : decode b_Pri_init 64 = .ok (.invokespecial 46, 3) := by decide +kernel
theorem d_Pri_init_67 : decode b_Pri_init 67 = .ok (.putfield 47, 3) := by decide +kernel
theorem d_Pri_init_70 : decode b_Pri_init 70 = .ok (.aload_n 0, 1) := by decide +kernel
theorem d_Pri_init_71 : decode b_Pri_init 71 = .ok (.new 51, 3) := by decide +kernel
theorem d_Pri_init_74 : decode b_Pri_init 74 = .ok (.dup, 1) := by decide +kernel
theorem d_Pri_init_75 : decode b_Pri_init 75 = .ok (.invokespecial 53, 3) := by decide +kernel
theorem d_Pri_init_78 : decode b_Pri_init 78 = .ok (.putfield 54, 3) := by decide +kernel
theorem d_Pri_init_81 : decode b_Pri_init 81 = .ok (.aload_n 0, 1) := by decide +kernel
theorem d_Pri_init_82 : decode b_Pri_init 82 = .ok (.new 58, 3) := by decide +kernel
theorem d_Pri_init_85 : decode b_Pri_init 85 = .ok (.dup, 1) := by decide +kernel
theorem d_Pri_init_86 : decode b_Pri_init 86 = .ok (.invokespecial 60, 3) := by decide +kernel
theorem d_Pri_init_89 : decode b_Pri_init 89 = .ok (.putfield 61, 3) := by decide +kernel
theorem d_Pri_init_92 : decode b_Pri_init 92 = .ok (.aload_n 0, 1) := by decide +kernel
theorem d_Pri_init_93 : decode b_Pri_init 93 = .ok (.new 58, 3) := by decide +kernel
theorem d_Pri_init_96 : decode b_Pri_init 96 = .ok (.dup, 1) := by decide +kernel
theorem d_Pri_init_97 : decode b_Pri_init 97 = .ok (.invokespecial 60, 3) := by decide +kernel
theorem d_Pri_init_100 : decode b_Pri_init 100 = .ok (.putfield 65, 3) := by decide +kernel
theorem d_Pri_init_103 : decode b_Pri_init 103 = .ok (.return_, 1) := by decide +kernel
theorem d_Pri_unit_0 : decode b_Pri_unit 0 = .ok (.aload_n 0, 1) := by decide +kernel
theorem d_Pri_unit_1 : decode b_Pri_unit 1 = .ok (.getfield 10, 3) := by decide +kernel
theorem d_Pri_unit_4 : decode b_Pri_unit 4 = .ok (.iload_n 1, 1) := by decide +kernel
theorem d_Pri_unit_5 : decode b_Pri_unit 5 = .ok (.invokevirtual 68, 3) := by decide +kernel
theorem d_Pri_unit_8 : decode b_Pri_unit 8 = .ok (.ireturn, 1) := by decide +kernel
theorem d_Pri_isIndex_0 : decode b_Pri_isIndex 0 = .ok (.iload_n 0, 1) := by decide +kernel
theorem d_Pri_isIndex_1 : decode b_Pri_isIndex 1 = .ok (.ifCond .lt 12, 3) := by decide +kernel
theorem d_Pri_isIndex_4 : decode b_Pri_isIndex 4 = .ok (.iload_n 0, 1) := by decide +kernel
theorem d_Pri_isIndex_5 : decode b_Pri_isIndex 5 = .ok (.iload_n 1, 1) := by decide +kernel
theorem d_Pri_isIndex_6 : decode b_Pri_isIndex 6 = .ok (.if_icmp .ge 7, 3) := by decide +kernel
theorem d_Pri_isIndex_9 : decode b_Pri_isIndex 9 = .ok (.iconst 1, 1) := by decide +kernel
theorem d_Pri_isIndex_10 : decode b_Pri_isIndex 10 = .ok (.goto 4, 3) := by decide +kernel
theorem d_Pri_isIndex_13 : decode b_Pri_isIndex 13 = .ok (.iconst 0, 1) := by decide +kernel
theorem d_Pri_isIndex_14 : decode b_Pri_isIndex 14 = .ok (.ireturn, 1) := by decide +kernel
theorem d_Pri_read_0 : decode b_Pri_read 0 = .ok (.aload_n 0, 1) := by decide +kernel
theorem d_Pri_read_1 : decode b_Pri_read 1 = .ok (.getfield 10, 3) := by decide +kernel
theorem d_Pri_read_4 : decode b_Pri_read 4 = .ok (.aload_n 0, 1) := by decide +kernel
theorem d_Pri_read_5 : decode b_Pri_read 5 = .ok (.getfield 65, 3) := by decide +kernel
theorem d_Pri_read_8 : decode b_Pri_read 8 = .ok (.invokevirtual 72, 3) := by decide +kernel
theorem d_Pri_read_11 : decode b_Pri_read 11 = .ok (.istore_n 1, 1) := by decide +kernel
theorem d_Pri_read_12 : decode b_Pri_read 12 = .ok (.iload_n 1, 1) := by decide +kernel
theorem d_Pri_read_13 : decode b_Pri_read 13 = .ok (.iconst (-1), 1) := by decide +kernel
theorem d_Pri_read_14 : decode b_Pri_read 14 = .ok (.if_icmp .eq 7, 3) := by decide +kernel
theorem d_Pri_read_17 : decode b_Pri_read 17 = .ok (.iconst (-1), 1) := by decide +kernel
theorem d_Pri_read_18 : decode b_Pri_read 18 = .ok (.iload_n 1, 1) := by decide +kernel
theorem d_Pri_read_19 : decode b_Pri_read 19 = .ok (.isub, 1) := by decide +kernel
theorem d_Pri_read_20 : decode b_Pri_read 20 = .ok (.ireturn, 1) := by decide +kernel
theorem d_Pri_read_21 : decode b_Pri_read 21 = .ok (.aload_n 0, 1) := by decide +kernel
theorem d_Pri_read_22 : decode b_Pri_read 22 = .ok (.getfield 65, 3) := by decide +kernel
theorem d_Pri_read_25 : decode b_Pri_read 25 = .ok (.astore_n 2, 1) := by decide +kernel
theorem d_Pri_read_26 : decode b_Pri_read 26 = .ok (.aload_n 0, 1) := by decide +kernel
theorem d_Pri_read_27 : decode b_Pri_read 27 = .ok (.aload_n 0, 1) := by decide +kernel
theorem d_Pri_read_28 : decode b_Pri_read 28 = .ok (.getfield 61, 3) := by decide +kernel
theorem d_Pri_read_31 : decode b_Pri_read 31 = .ok (.putfield 65, 3) := by decide +kernel
theorem d_Pri_read_34 : decode b_Pri_read 34 = .ok (.aload_n 0, 1) := by decide +kernel
theorem d_Pri_read_35 : decode b_Pri_read 35 = .ok (.aload_n 2, 1) := by decide +kernel
theorem d_Pri_read_36 : decode b_Pri_read 36 = .ok (.putfield 61, 3) := by decide +kernel
theorem d_Pri_read_39 : decode b_Pri_read 39 = .ok (.aload_n 0, 1) := by decide +kernel
theorem d_Pri_read_40 : decode b_Pri_read 40 = .ok (.getfield 61, 3) := by decide +kernel
theorem d_Pri_read_43 : decode b_Pri_read 43 = .ok (.getfield 76, 3) := by decide +kernel
theorem d_Pri_read_46 : decode b_Pri_read 46 = .ok (.ireturn, 1) := by decide +kernel
theorem d_Pri_isFactLetter_0 : decode b_Pri_isFactLetter 0 = .ok (.iload_n 0, 1) := by decide +kernel
theorem d_Pri_isFactLetter_1 : decode b_Pri_isFactLetter 1 = .ok (.bipush 97, 2) := by decide +kernel
theorem d_Pri_isFactLetter_3 : decode b_Pri_isFactLetter 3 = .ok (.if_icmp .lt 19, 3) := by decide +kernel
theorem d_Pri_isFactLetter_6 : decode b_Pri_isFactLetter 6 = .ok (.iload_n 0, 1) := by decide +kernel
theorem d_Pri_isFactLetter_7 : decode b_Pri_isFactLetter 7 = .ok (.bipush 122, 2) := by decide +kernel
theorem d_Pri_isFactLetter_9 : decode b_Pri_isFactLetter 9 = .ok (.if_icmp .gt 13, 3) := by decide +kernel
theorem d_Pri_isFactLetter_12 : decode b_Pri_isFactLetter 12 = .ok (.iload_n 0, 1) := by decide +kernel
theorem d_Pri_isFactLetter_13 : decode b_Pri_isFactLetter 13 = .ok (.bipush 114, 2) := by decide +kernel
theorem d_Pri_isFactLetter_15 : decode b_Pri_isFactLetter 15 = .ok (.if_icmp .eq 7, 3) := by decide +kernel
theorem d_Pri_isFactLetter_18 : decode b_Pri_isFactLetter 18 = .ok (.iconst 1, 1) := by decide +kernel
theorem d_Pri_isFactLetter_19 : decode b_Pri_isFactLetter 19 = .ok (.goto 4, 3) := by decide +kernel
theorem d_Pri_isFactLetter_22 : decode b_Pri_isFactLetter 22 = .ok (.iconst 0, 1) := by decide +kernel
theorem d_Pri_isFactLetter_23 : decode b_Pri_isFactLetter 23 = .ok (.ireturn, 1) := by decide +kernel
theorem d_Pri_run_0 : decode b_Pri_run 0 = .ok (.aload_n 0, 1) := by decide +kernel
theorem d_Pri_run_1 : decode b_Pri_run 1 = .ok (.getfield 26, 3) := by decide +kernel
theorem d_Pri_run_4 : decode b_Pri_run 4 = .ok (.aload_n 0, 1) := by decide +kernel
theorem d_Pri_run_5 : decode b_Pri_run 5 = .ok (.getfield 61, 3) := by decide +kernel
theorem d_Pri_run_8 : decode b_Pri_run 8 = .ok (.aload_n 0, 1) := by decide +kernel
theorem d_Pri_run_9 : decode b_Pri_run 9 = .ok (.getfield 19, 3) := by decide +kernel
theorem d_Pri_run_12 : decode b_Pri_run 12 = .ok (.invokevirtual 98, 3) := by decide +kernel
theorem d_Pri_run_15 : decode b_Pri_run 15 = .ok (.pop2, 1) := by decide +kernel
theorem d_Pri_run_16 : decode b_Pri_run 16 = .ok (.aload_n 0, 1) := by decide +kernel
theorem d_Pri_run_17 : decode b_Pri_run 17 = .ok (.getfield 26, 3) := by decide +kernel
theorem d_Pri_run_20 : decode b_Pri_run 20 = .ok (.getfield 102, 3) := by decide +kernel
theorem d_Pri_run_23 : decode b_Pri_run 23 = .ok (.ireturn, 1) := by decide +kernel
theorem d_Pri_cents_0 : decode b_Pri_cents 0 = .ok (.aload_n 0, 1) := by decide +kernel
theorem d_Pri_cents_1 : decode b_Pri_cents 1 = .ok (.getfield 26, 3) := by decide +kernel
theorem d_Pri_cents_4 : decode b_Pri_cents 4 = .ok (.aload_n 0, 1) := by decide +kernel
theorem d_Pri_cents_5 : decode b_Pri_cents 5 = .ok (.getfield 61, 3) := by decide +kernel
theorem d_Pri_cents_8 : decode b_Pri_cents 8 = .ok (.aload_n 0, 1) := by decide +kernel
theorem d_Pri_cents_9 : decode b_Pri_cents 9 = .ok (.getfield 19, 3) := by decide +kernel
theorem d_Pri_cents_12 : decode b_Pri_cents 12 = .ok (.invokevirtual 98, 3) := by decide +kernel
theorem d_Pri_cents_15 : decode b_Pri_cents 15 = .ok (.lreturn, 1) := by decide +kernel
theorem d_Pri_fact_0 : decode b_Pri_fact 0 = .ok (.iload_n 1, 1) := by decide +kernel
theorem d_Pri_fact_1 : decode b_Pri_fact 1 = .ok (.invokestatic 80, 3) := by decide +kernel
theorem d_Pri_fact_4 : decode b_Pri_fact 4 = .ok (.iload_n 2, 1) := by decide +kernel
theorem d_Pri_fact_5 : decode b_Pri_fact 5 = .ok (.iload_n 3, 1) := by decide +kernel
theorem d_Pri_fact_6 : decode b_Pri_fact 6 = .ok (.invokestatic 84, 3) := by decide +kernel
theorem d_Pri_fact_9 : decode b_Pri_fact 9 = .ok (.aload_n 0, 1) := by decide +kernel
theorem d_Pri_fact_10 : decode b_Pri_fact 10 = .ok (.getfield 19, 3) := by decide +kernel
theorem d_Pri_fact_13 : decode b_Pri_fact 13 = .ok (.iload_n 1, 1) := by decide +kernel
theorem d_Pri_fact_14 : decode b_Pri_fact 14 = .ok (.iload_n 2, 1) := by decide +kernel
theorem d_Pri_fact_15 : decode b_Pri_fact 15 = .ok (.iload_n 3, 1) := by decide +kernel
theorem d_Pri_fact_16 : decode b_Pri_fact 16 = .ok (.invokevirtual 88, 3) := by decide +kernel
theorem d_Pri_fact_19 : decode b_Pri_fact 19 = .ok (.return_, 1) := by decide +kernel
theorem d_Pri_requireLetter_0 : decode b_Pri_requireLetter 0 = .ok (.iload_n 0, 1) := by decide +kernel
theorem d_Pri_requireLetter_1 : decode b_Pri_requireLetter 1 = .ok (.invokestatic 204, 3) := by decide +kernel
theorem d_Pri_requireLetter_4 : decode b_Pri_requireLetter 4 = .ok (.ifCond .ne 13, 3) := by decide +kernel
theorem d_Pri_requireLetter_7 : decode b_Pri_requireLetter 7 = .ok (.new 105, 3) := by decide +kernel
theorem d_Pri_requireLetter_10 : decode b_Pri_requireLetter 10 = .ok (.dup, 1) := by decide +kernel
theorem d_Pri_requireLetter_11 : decode b_Pri_requireLetter 11 = .ok (.ldc 207, 2) := by decide +kernel
theorem d_Pri_requireLetter_13 : decode b_Pri_requireLetter 13 = .ok (.invokespecial 109, 3) := by decide +kernel
theorem d_Pri_requireLetter_16 : decode b_Pri_requireLetter 16 = .ok (.athrow, 1) := by decide +kernel
theorem d_Pri_requireLetter_17 : decode b_Pri_requireLetter 17 = .ok (.return_, 1) := by decide +kernel
theorem d_Pri_requireFactNumbers_0 : decode b_Pri_requireFactNumbers 0 = .ok (.iload_n 1, 1) := by decide +kernel
theorem d_Pri_requireFactNumbers_1 : decode b_Pri_requireFactNumbers 1 = .ok (.iconst 1, 1) := by decide +kernel
theorem d_Pri_requireFactNumbers_2 : decode b_Pri_requireFactNumbers 2 = .ok (.if_icmp .lt 10, 3) := by decide +kernel
theorem d_Pri_requireFactNumbers_5 : decode b_Pri_requireFactNumbers 5 = .ok (.iload_n 1, 1) := by decide +kernel
theorem d_Pri_requireFactNumbers_6 : decode b_Pri_requireFactNumbers 6 = .ok (.sipush 10000, 3) := by decide +kernel
theorem d_Pri_requireFactNumbers_9 : decode b_Pri_requireFactNumbers 9 = .ok (.if_icmp .le 13, 3) := by decide +kernel
theorem d_Pri_requireFactNumbers_12 : decode b_Pri_requireFactNumbers 12 = .ok (.new 131, 3) := by decide +kernel
theorem d_Pri_requireFactNumbers_15 : decode b_Pri_requireFactNumbers 15 = .ok (.dup, 1) := by decide +kernel
theorem d_Pri_requireFactNumbers_16 : decode b_Pri_requireFactNumbers 16 = .ok (.ldc 209, 2) := by decide +kernel
theorem d_Pri_requireFactNumbers_18 : decode b_Pri_requireFactNumbers 18 = .ok (.invokespecial 135, 3) := by decide +kernel
theorem d_Pri_requireFactNumbers_21 : decode b_Pri_requireFactNumbers 21 = .ok (.athrow, 1) := by decide +kernel
theorem d_Pri_requireFactNumbers_22 : decode b_Pri_requireFactNumbers 22 = .ok (.iload_n 0, 1) := by decide +kernel
theorem d_Pri_requireFactNumbers_23 : decode b_Pri_requireFactNumbers 23 = .ok (.ldc 211, 2) := by decide +kernel
theorem d_Pri_requireFactNumbers_25 : decode b_Pri_requireFactNumbers 25 = .ok (.if_icmp .lt 9, 3) := by decide +kernel
theorem d_Pri_requireFactNumbers_28 : decode b_Pri_requireFactNumbers 28 = .ok (.iload_n 0, 1) := by decide +kernel
theorem d_Pri_requireFactNumbers_29 : decode b_Pri_requireFactNumbers 29 = .ok (.ldc 212, 2) := by decide +kernel
theorem d_Pri_requireFactNumbers_31 : decode b_Pri_requireFactNumbers 31 = .ok (.if_icmp .le 13, 3) := by decide +kernel
theorem d_Pri_requireFactNumbers_34 : decode b_Pri_requireFactNumbers 34 = .ok (.new 131, 3) := by decide +kernel
theorem d_Pri_requireFactNumbers_37 : decode b_Pri_requireFactNumbers 37 = .ok (.dup, 1) := by decide +kernel
theorem d_Pri_requireFactNumbers_38 : decode b_Pri_requireFactNumbers 38 = .ok (.ldc 213, 2) := by decide +kernel
theorem d_Pri_requireFactNumbers_40 : decode b_Pri_requireFactNumbers 40 = .ok (.invokespecial 135, 3) := by decide +kernel
theorem d_Pri_requireFactNumbers_43 : decode b_Pri_requireFactNumbers 43 = .ok (.athrow, 1) := by decide +kernel
theorem d_Pri_requireFactNumbers_44 : decode b_Pri_requireFactNumbers 44 = .ok (.return_, 1) := by decide +kernel
theorem d_Pri_forget_0 : decode b_Pri_forget 0 = .ok (.iload_n 1, 1) := by decide +kernel
theorem d_Pri_forget_1 : decode b_Pri_forget 1 = .ok (.invokestatic 80, 3) := by decide +kernel
theorem d_Pri_forget_4 : decode b_Pri_forget 4 = .ok (.aload_n 0, 1) := by decide +kernel
theorem d_Pri_forget_5 : decode b_Pri_forget 5 = .ok (.getfield 19, 3) := by decide +kernel
theorem d_Pri_forget_8 : decode b_Pri_forget 8 = .ok (.iload_n 1, 1) := by decide +kernel
theorem d_Pri_forget_9 : decode b_Pri_forget 9 = .ok (.invokevirtual 92, 3) := by decide +kernel
theorem d_Pri_forget_12 : decode b_Pri_forget 12 = .ok (.istore_n 2, 1) := by decide +kernel
theorem d_Pri_forget_13 : decode b_Pri_forget 13 = .ok (.aload_n 0, 1) := by decide +kernel
theorem d_Pri_forget_14 : decode b_Pri_forget 14 = .ok (.getfield 19, 3) := by decide +kernel
theorem d_Pri_forget_17 : decode b_Pri_forget 17 = .ok (.iload_n 1, 1) := by decide +kernel
theorem d_Pri_forget_18 : decode b_Pri_forget 18 = .ok (.invokevirtual 95, 3) := by decide +kernel
theorem d_Pri_forget_21 : decode b_Pri_forget 21 = .ok (.iload_n 2, 1) := by decide +kernel
theorem d_Pri_forget_22 : decode b_Pri_forget 22 = .ok (.ireturn, 1) := by decide +kernel
theorem d_Pri_line_0 : decode b_Pri_line 0 = .ok (.iload_n 1, 1) := by decide +kernel
theorem d_Pri_line_1 : decode b_Pri_line 1 = .ok (.ifCond .lt 14, 3) := by decide +kernel
theorem d_Pri_line_4 : decode b_Pri_line 4 = .ok (.iload_n 1, 1) := by decide +kernel
theorem d_Pri_line_5 : decode b_Pri_line 5 = .ok (.aload_n 0, 1) := by decide +kernel
theorem d_Pri_line_6 : decode b_Pri_line 6 = .ok (.getfield 61, 3) := by decide +kernel
theorem d_Pri_line_9 : decode b_Pri_line 9 = .ok (.getfield 76, 3) := by decide +kernel
theorem d_Pri_line_12 : decode b_Pri_line 12 = .ok (.if_icmp .lt 13, 3) := by decide +kernel
theorem d_Pri_line_15 : decode b_Pri_line 15 = .ok (.new 105, 3) := by decide +kernel
theorem d_Pri_line_18 : decode b_Pri_line 18 = .ok (.dup, 1) := by decide +kernel
theorem d_Pri_line_19 : decode b_Pri_line 19 = .ok (.ldc 107, 2) := by decide +kernel
theorem d_Pri_line_21 : decode b_Pri_line 21 = .ok (.invokespecial 109, 3) := by decide +kernel
theorem d_Pri_line_24 : decode b_Pri_line 24 = .ok (.athrow, 1) := by decide +kernel
theorem d_Pri_line_25 : decode b_Pri_line 25 = .ok (.iload_n 2, 1) := by decide +kernel
theorem d_Pri_line_26 : decode b_Pri_line 26 = .ok (.ifCond .lt 8, 3) := by decide +kernel
theorem d_Pri_line_29 : decode b_Pri_line 29 = .ok (.iload_n 2, 1) := by decide +kernel
theorem d_Pri_line_30 : decode b_Pri_line 30 = .ok (.iconst 3, 1) := by decide +kernel
theorem d_Pri_line_31 : decode b_Pri_line 31 = .ok (.if_icmp .le 13, 3) := by decide +kernel
theorem d_Pri_line_34 : decode b_Pri_line 34 = .ok (.new 105, 3) := by decide +kernel
theorem d_Pri_line_37 : decode b_Pri_line 37 = .ok (.dup, 1) := by decide +kernel
theorem d_Pri_line_38 : decode b_Pri_line 38 = .ok (.ldc 112, 2) := by decide +kernel
theorem d_Pri_line_40 : decode b_Pri_line 40 = .ok (.invokespecial 109, 3) := by decide +kernel
theorem d_Pri_line_43 : decode b_Pri_line 43 = .ok (.athrow, 1) := by decide +kernel
theorem d_Pri_line_44 : decode b_Pri_line 44 = .ok (.aload_n 0, 1) := by decide +kernel
theorem d_Pri_line_45 : decode b_Pri_line 45 = .ok (.getfield 26, 3) := by decide +kernel
theorem d_Pri_line_48 : decode b_Pri_line 48 = .ok (.aload_n 0, 1) := by decide +kernel
theorem d_Pri_line_49 : decode b_Pri_line 49 = .ok (.getfield 61, 3) := by decide +kernel
theorem d_Pri_line_52 : decode b_Pri_line 52 = .ok (.aload_n 0, 1) := by decide +kernel
theorem d_Pri_line_53 : decode b_Pri_line 53 = .ok (.getfield 19, 3) := by decide +kernel
theorem d_Pri_line_56 : decode b_Pri_line 56 = .ok (.invokevirtual 98, 3) := by decide +kernel
theorem d_Pri_line_59 : decode b_Pri_line 59 = .ok (.pop2, 1) := by decide +kernel
theorem d_Pri_line_60 : decode b_Pri_line 60 = .ok (.aload_n 0, 1) := by decide +kernel
theorem d_Pri_line_61 : decode b_Pri_line 61 = .ok (.getfield 26, 3) := by decide +kernel
theorem d_Pri_line_64 : decode b_Pri_line 64 = .ok (.iload_n 1, 1) := by decide +kernel
theorem d_Pri_line_65 : decode b_Pri_line 65 = .ok (.iload_n 2, 1) := by decide +kernel
theorem d_Pri_line_66 : decode b_Pri_line 66 = .ok (.invokevirtual 114, 3) := by decide +kernel
theorem d_Pri_line_69 : decode b_Pri_line 69 = .ok (.lreturn, 1) := by decide +kernel
theorem d_Pri_changed_0 : decode b_Pri_changed 0 = .ok (.iload_n 1, 1) := by decide +kernel
theorem d_Pri_changed_1 : decode b_Pri_changed 1 = .ok (.invokestatic 80, 3) := by decide +kernel
theorem d_Pri_changed_4 : decode b_Pri_changed 4 = .ok (.iload_n 2, 1) := by decide +kernel
theorem d_Pri_changed_5 : decode b_Pri_changed 5 = .ok (.iload_n 3, 1) := by decide +kernel
theorem d_Pri_changed_6 : decode b_Pri_changed 6 = .ok (.invokestatic 84, 3) := by decide +kernel
theorem d_Pri_changed_9 : decode b_Pri_changed 9 = .ok (.aload_n 0, 1) := by decide +kernel
theorem d_Pri_changed_10 : decode b_Pri_changed 10 = .ok (.getfield 26, 3) := by decide +kernel
theorem d_Pri_changed_13 : decode b_Pri_changed 13 = .ok (.aload_n 0, 1) := by decide +kernel
theorem d_Pri_changed_14 : decode b_Pri_changed 14 = .ok (.getfield 61, 3) := by decide +kernel
theorem d_Pri_changed_17 : decode b_Pri_changed 17 = .ok (.aload_n 0, 1) := by decide +kernel
theorem d_Pri_changed_18 : decode b_Pri_changed 18 = .ok (.getfield 19, 3) := by decide +kernel
theorem d_Pri_changed_21 : decode b_Pri_changed 21 = .ok (.invokevirtual 98, 3) := by decide +kernel
theorem d_Pri_changed_24 : decode b_Pri_changed 24 = .ok (.lstore 4, 2) := by decide +kernel
theorem d_Pri_changed_26 : decode b_Pri_changed 26 = .ok (.aload_n 0, 1) := by decide +kernel
theorem d_Pri_changed_27 : decode b_Pri_changed 27 = .ok (.getfield 19, 3) := by decide +kernel
theorem d_Pri_changed_30 : decode b_Pri_changed 30 = .ok (.iload_n 1, 1) := by decide +kernel
theorem d_Pri_changed_31 : decode b_Pri_changed 31 = .ok (.invokevirtual 92, 3) := by decide +kernel
theorem d_Pri_changed_34 : decode b_Pri_changed 34 = .ok (.istore 6, 2) := by decide +kernel
theorem d_Pri_changed_36 : decode b_Pri_changed 36 = .ok (.aload_n 0, 1) := by decide +kernel
theorem d_Pri_changed_37 : decode b_Pri_changed 37 = .ok (.getfield 19, 3) := by decide +kernel
theorem d_Pri_changed_40 : decode b_Pri_changed 40 = .ok (.iload_n 1, 1) := by decide +kernel
theorem d_Pri_changed_41 : decode b_Pri_changed 41 = .ok (.invokevirtual 118, 3) := by decide +kernel
theorem d_Pri_changed_44 : decode b_Pri_changed 44 = .ok (.istore 7, 2) := by decide +kernel
theorem d_Pri_changed_46 : decode b_Pri_changed 46 = .ok (.aload_n 0, 1) := by decide +kernel
theorem d_Pri_changed_47 : decode b_Pri_changed 47 = .ok (.getfield 19, 3) := by decide +kernel
theorem d_Pri_changed_50 : decode b_Pri_changed 50 = .ok (.iload_n 1, 1) := by decide +kernel
theorem d_Pri_changed_51 : decode b_Pri_changed 51 = .ok (.invokevirtual 122, 3) := by decide +kernel
theorem d_Pri_changed_54 : decode b_Pri_changed 54 = .ok (.istore 8, 2) := by decide +kernel
theorem d_Pri_changed_56 : decode b_Pri_changed 56 = .ok (.aload_n 0, 1) := by decide +kernel
theorem d_Pri_changed_57 : decode b_Pri_changed 57 = .ok (.getfield 19, 3) := by decide +kernel
theorem d_Pri_changed_60 : decode b_Pri_changed 60 = .ok (.iload_n 1, 1) := by decide +kernel
theorem d_Pri_changed_61 : decode b_Pri_changed 61 = .ok (.iload_n 2, 1) := by decide +kernel
theorem d_Pri_changed_62 : decode b_Pri_changed 62 = .ok (.iload_n 3, 1) := by decide +kernel
theorem d_Pri_changed_63 : decode b_Pri_changed 63 = .ok (.invokevirtual 88, 3) := by decide +kernel
theorem d_Pri_changed_66 : decode b_Pri_changed 66 = .ok (.aload_n 0, 1) := by decide +kernel
theorem d_Pri_changed_67 : decode b_Pri_changed 67 = .ok (.getfield 26, 3) := by decide +kernel
theorem d_Pri_changed_70 : decode b_Pri_changed 70 = .ok (.aload_n 0, 1) := by decide +kernel
theorem d_Pri_changed_71 : decode b_Pri_changed 71 = .ok (.getfield 61, 3) := by decide +kernel
theorem d_Pri_changed_74 : decode b_Pri_changed 74 = .ok (.aload_n 0, 1) := by decide +kernel
theorem d_Pri_changed_75 : decode b_Pri_changed 75 = .ok (.getfield 19, 3) := by decide +kernel
theorem d_Pri_changed_78 : decode b_Pri_changed 78 = .ok (.invokevirtual 98, 3) := by decide +kernel
theorem d_Pri_changed_81 : decode b_Pri_changed 81 = .ok (.lstore 9, 2) := by decide +kernel
theorem d_Pri_changed_83 : decode b_Pri_changed 83 = .ok (.iload 6, 2) := by decide +kernel
theorem d_Pri_changed_85 : decode b_Pri_changed 85 = .ok (.ifCond .eq 18, 3) := by decide +kernel
theorem d_Pri_changed_88 : decode b_Pri_changed 88 = .ok (.aload_n 0, 1) := by decide +kernel
theorem d_Pri_changed_89 : decode b_Pri_changed 89 = .ok (.getfield 19, 3) := by decide +kernel
theorem d_Pri_changed_92 : decode b_Pri_changed 92 = .ok (.iload_n 1, 1) := by decide +kernel
theorem d_Pri_changed_93 : decode b_Pri_changed 93 = .ok (.iload 7, 2) := by decide +kernel
theorem d_Pri_changed_95 : decode b_Pri_changed 95 = .ok (.iload 8, 2) := by decide +kernel
theorem d_Pri_changed_97 : decode b_Pri_changed 97 = .ok (.invokevirtual 88, 3) := by decide +kernel
theorem d_Pri_changed_100 : decode b_Pri_changed 100 = .ok (.goto 11, 3) := by decide +kernel
theorem d_Pri_changed_103 : decode b_Pri_changed 103 = .ok (.aload_n 0, 1) := by decide +kernel
theorem d_Pri_changed_104 : decode b_Pri_changed 104 = .ok (.getfield 19, 3) := by decide +kernel
theorem d_Pri_changed_107 : decode b_Pri_changed 107 = .ok (.iload_n 1, 1) := by decide +kernel
theorem d_Pri_changed_108 : decode b_Pri_changed 108 = .ok (.invokevirtual 95, 3) := by decide +kernel
theorem d_Pri_changed_111 : decode b_Pri_changed 111 = .ok (.lload 9, 2) := by decide +kernel
theorem d_Pri_changed_113 : decode b_Pri_changed 113 = .ok (.lload 4, 2) := by decide +kernel
theorem d_Pri_changed_115 : decode b_Pri_changed 115 = .ok (.lsub, 1) := by decide +kernel
theorem d_Pri_changed_116 : decode b_Pri_changed 116 = .ok (.lreturn, 1) := by decide +kernel
theorem d_Pri_currency_0 : decode b_Pri_currency 0 = .ok (.iload_n 1, 1) := by decide +kernel
theorem d_Pri_currency_1 : decode b_Pri_currency 1 = .ok (.invokestatic 125, 3) := by decide +kernel
theorem d_Pri_currency_4 : decode b_Pri_currency 4 = .ok (.aload_n 0, 1) := by decide +kernel
theorem d_Pri_currency_5 : decode b_Pri_currency 5 = .ok (.getfield 33, 3) := by decide +kernel
theorem d_Pri_currency_8 : decode b_Pri_currency 8 = .ok (.iload_n 1, 1) := by decide +kernel
theorem d_Pri_currency_9 : decode b_Pri_currency 9 = .ok (.invokevirtual 128, 3) := by decide +kernel
theorem d_Pri_currency_12 : decode b_Pri_currency 12 = .ok (.ifCond .ne 13, 3) := by decide +kernel
theorem d_Pri_currency_15 : decode b_Pri_currency 15 = .ok (.new 131, 3) := by decide +kernel
theorem d_Pri_currency_18 : decode b_Pri_currency 18 = .ok (.dup, 1) := by decide +kernel
theorem d_Pri_currency_19 : decode b_Pri_currency 19 = .ok (.ldc 133, 2) := by decide +kernel
theorem d_Pri_currency_21 : decode b_Pri_currency 21 = .ok (.invokespecial 135, 3) := by decide +kernel
theorem d_Pri_currency_24 : decode b_Pri_currency 24 = .ok (.athrow, 1) := by decide +kernel
theorem d_Pri_currency_25 : decode b_Pri_currency 25 = .ok (.iload_n 2, 1) := by decide +kernel
theorem d_Pri_currency_26 : decode b_Pri_currency 26 = .ok (.invokestatic 136, 3) := by decide +kernel
theorem d_Pri_currency_29 : decode b_Pri_currency 29 = .ok (.ifCond .eq 10, 3) := by decide +kernel
theorem d_Pri_currency_32 : decode b_Pri_currency 32 = .ok (.iload_n 3, 1) := by decide +kernel
theorem d_Pri_currency_33 : decode b_Pri_currency 33 = .ok (.invokestatic 136, 3) := by decide +kernel
theorem d_Pri_currency_36 : decode b_Pri_currency 36 = .ok (.ifCond .ne 13, 3) := by decide +kernel
theorem d_Pri_currency_39 : decode b_Pri_currency 39 = .ok (.new 131, 3) := by decide +kernel
theorem d_Pri_currency_42 : decode b_Pri_currency 42 = .ok (.dup, 1) := by decide +kernel
theorem d_Pri_currency_43 : decode b_Pri_currency 43 = .ok (.ldc 139, 2) := by decide +kernel
theorem d_Pri_currency_45 : decode b_Pri_currency 45 = .ok (.invokespecial 135, 3) := by decide +kernel
theorem d_Pri_currency_48 : decode b_Pri_currency 48 = .ok (.athrow, 1) := by decide +kernel
theorem d_Pri_currency_49 : decode b_Pri_currency 49 = .ok (.aload_n 0, 1) := by decide +kernel
theorem d_Pri_currency_50 : decode b_Pri_currency 50 = .ok (.getfield 33, 3) := by decide +kernel
theorem d_Pri_currency_53 : decode b_Pri_currency 53 = .ok (.getfield 141, 3) := by decide +kernel
theorem d_Pri_currency_56 : decode b_Pri_currency 56 = .ok (.bipush 8, 2) := by decide +kernel
theorem d_Pri_currency_58 : decode b_Pri_currency 58 = .ok (.if_icmp .lt 13, 3) := by decide +kernel
theorem d_Pri_currency_61 : decode b_Pri_currency 61 = .ok (.new 144, 3) := by decide +kernel
theorem d_Pri_currency_64 : decode b_Pri_currency 64 = .ok (.dup, 1) := by decide +kernel
theorem d_Pri_currency_65 : decode b_Pri_currency 65 = .ok (.ldc 146, 2) := by decide +kernel
theorem d_Pri_currency_67 : decode b_Pri_currency 67 = .ok (.invokespecial 148, 3) := by decide +kernel
theorem d_Pri_currency_70 : decode b_Pri_currency 70 = .ok (.athrow, 1) := by decide +kernel
theorem d_Pri_currency_71 : decode b_Pri_currency 71 = .ok (.aload_n 0, 1) := by decide +kernel
theorem d_Pri_currency_72 : decode b_Pri_currency 72 = .ok (.getfield 33, 3) := by decide +kernel
theorem d_Pri_currency_75 : decode b_Pri_currency 75 = .ok (.iload_n 1, 1) := by decide +kernel
theorem d_Pri_currency_76 : decode b_Pri_currency 76 = .ok (.iload_n 2, 1) := by decide +kernel
theorem d_Pri_currency_77 : decode b_Pri_currency 77 = .ok (.iload_n 3, 1) := by decide +kernel
theorem d_Pri_currency_78 : decode b_Pri_currency 78 = .ok (.invokevirtual 149, 3) := by decide +kernel
theorem d_Pri_currency_81 : decode b_Pri_currency 81 = .ok (.aload_n 0, 1) := by decide +kernel
theorem d_Pri_currency_82 : decode b_Pri_currency 82 = .ok (.getfield 33, 3) := by decide +kernel
theorem d_Pri_currency_85 : decode b_Pri_currency 85 = .ok (.getfield 141, 3) := by decide +kernel
theorem d_Pri_currency_88 : decode b_Pri_currency 88 = .ok (.ireturn, 1) := by decide +kernel
theorem d_Pri_requireDay_0 : decode b_Pri_requireDay 0 = .ok (.iload_n 0, 1) := by decide +kernel
theorem d_Pri_requireDay_1 : decode b_Pri_requireDay 1 = .ok (.ifCond .lt 10, 3) := by decide +kernel
theorem d_Pri_requireDay_4 : decode b_Pri_requireDay 4 = .ok (.iload_n 0, 1) := by decide +kernel
theorem d_Pri_requireDay_5 : decode b_Pri_requireDay 5 = .ok (.sipush 10000, 3) := by decide +kernel
theorem d_Pri_requireDay_8 : decode b_Pri_requireDay 8 = .ok (.if_icmp .le 13, 3) := by decide +kernel
theorem d_Pri_requireDay_11 : decode b_Pri_requireDay 11 = .ok (.new 131, 3) := by decide +kernel
theorem d_Pri_requireDay_14 : decode b_Pri_requireDay 14 = .ok (.dup, 1) := by decide +kernel
theorem d_Pri_requireDay_15 : decode b_Pri_requireDay 15 = .ok (.ldc 215, 2) := by decide +kernel
theorem d_Pri_requireDay_17 : decode b_Pri_requireDay 17 = .ok (.invokespecial 135, 3) := by decide +kernel
theorem d_Pri_requireDay_20 : decode b_Pri_requireDay 20 = .ok (.athrow, 1) := by decide +kernel
theorem d_Pri_requireDay_21 : decode b_Pri_requireDay 21 = .ok (.return_, 1) := by decide +kernel
theorem d_Pri_isRate_0 : decode b_Pri_isRate 0 = .ok (.iload_n 0, 1) := by decide +kernel
theorem d_Pri_isRate_1 : decode b_Pri_isRate 1 = .ok (.iconst 1, 1) := by decide +kernel
theorem d_Pri_isRate_2 : decode b_Pri_isRate 2 = .ok (.if_icmp .lt 14, 3) := by decide +kernel
theorem d_Pri_isRate_5 : decode b_Pri_isRate 5 = .ok (.iload_n 0, 1) := by decide +kernel
theorem d_Pri_isRate_6 : decode b_Pri_isRate 6 = .ok (.sipush 1000, 3) := by decide +kernel
theorem d_Pri_isRate_9 : decode b_Pri_isRate 9 = .ok (.if_icmp .gt 7, 3) := by decide +kernel
theorem d_Pri_isRate_12 : decode b_Pri_isRate 12 = .ok (.iconst 1, 1) := by decide +kernel
theorem d_Pri_isRate_13 : decode b_Pri_isRate 13 = .ok (.goto 4, 3) := by decide +kernel
theorem d_Pri_isRate_16 : decode b_Pri_isRate 16 = .ok (.iconst 0, 1) := by decide +kernel
theorem d_Pri_isRate_17 : decode b_Pri_isRate 17 = .ok (.ireturn, 1) := by decide +kernel
theorem d_Pri_centsAt_0 : decode b_Pri_centsAt 0 = .ok (.iload_n 1, 1) := by decide +kernel
theorem d_Pri_centsAt_1 : decode b_Pri_centsAt 1 = .ok (.invokestatic 125, 3) := by decide +kernel
theorem d_Pri_centsAt_4 : decode b_Pri_centsAt 4 = .ok (.aload_n 0, 1) := by decide +kernel
theorem d_Pri_centsAt_5 : decode b_Pri_centsAt 5 = .ok (.getfield 33, 3) := by decide +kernel
theorem d_Pri_centsAt_8 : decode b_Pri_centsAt 8 = .ok (.aload_n 0, 1) := by decide +kernel
theorem d_Pri_centsAt_9 : decode b_Pri_centsAt 9 = .ok (.getfield 26, 3) := by decide +kernel
theorem d_Pri_centsAt_12 : decode b_Pri_centsAt 12 = .ok (.aload_n 0, 1) := by decide +kernel
theorem d_Pri_centsAt_13 : decode b_Pri_centsAt 13 = .ok (.getfield 61, 3) := by decide +kernel
theorem d_Pri_centsAt_16 : decode b_Pri_centsAt 16 = .ok (.aload_n 0, 1) := by decide +kernel
theorem d_Pri_centsAt_17 : decode b_Pri_centsAt 17 = .ok (.getfield 19, 3) := by decide +kernel
theorem d_Pri_centsAt_20 : decode b_Pri_centsAt 20 = .ok (.invokevirtual 98, 3) := by decide +kernel
theorem d_Pri_centsAt_23 : decode b_Pri_centsAt 23 = .ok (.iload_n 1, 1) := by decide +kernel
theorem d_Pri_centsAt_24 : decode b_Pri_centsAt 24 = .ok (.invokevirtual 152, 3) := by decide +kernel
theorem d_Pri_centsAt_27 : decode b_Pri_centsAt 27 = .ok (.lreturn, 1) := by decide +kernel
theorem d_Pri_offer_0 : decode b_Pri_offer 0 = .ok (.iload_n 1, 1) := by decide +kernel
theorem d_Pri_offer_1 : decode b_Pri_offer 1 = .ok (.invokestatic 125, 3) := by decide +kernel
theorem d_Pri_offer_4 : decode b_Pri_offer 4 = .ok (.aload_n 0, 1) := by decide +kernel
theorem d_Pri_offer_5 : decode b_Pri_offer 5 = .ok (.getfield 40, 3) := by decide +kernel
theorem d_Pri_offer_8 : decode b_Pri_offer 8 = .ok (.getfield 156, 3) := by decide +kernel
theorem d_Pri_offer_11 : decode b_Pri_offer 11 = .ok (.bipush 8, 2) := by decide +kernel
theorem d_Pri_offer_13 : decode b_Pri_offer 13 = .ok (.if_icmp .lt 13, 3) := by decide +kernel
theorem d_Pri_offer_16 : decode b_Pri_offer 16 = .ok (.new 144, 3) := by decide +kernel
theorem d_Pri_offer_19 : decode b_Pri_offer 19 = .ok (.dup, 1) := by decide +kernel
theorem d_Pri_offer_20 : decode b_Pri_offer 20 = .ok (.ldc 157, 2) := by decide +kernel
theorem d_Pri_offer_22 : decode b_Pri_offer 22 = .ok (.invokespecial 148, 3) := by decide +kernel
theorem d_Pri_offer_25 : decode b_Pri_offer 25 = .ok (.athrow, 1) := by decide +kernel
theorem d_Pri_offer_26 : decode b_Pri_offer 26 = .ok (.aload_n 0, 1) := by decide +kernel
theorem d_Pri_offer_27 : decode b_Pri_offer 27 = .ok (.getfield 26, 3) := by decide +kernel
theorem d_Pri_offer_30 : decode b_Pri_offer 30 = .ok (.aload_n 0, 1) := by decide +kernel
theorem d_Pri_offer_31 : decode b_Pri_offer 31 = .ok (.getfield 61, 3) := by decide +kernel
theorem d_Pri_offer_34 : decode b_Pri_offer 34 = .ok (.aload_n 0, 1) := by decide +kernel
theorem d_Pri_offer_35 : decode b_Pri_offer 35 = .ok (.getfield 19, 3) := by decide +kernel
theorem d_Pri_offer_38 : decode b_Pri_offer 38 = .ok (.invokevirtual 98, 3) := by decide +kernel
theorem d_Pri_offer_41 : decode b_Pri_offer 41 = .ok (.lstore_n 2, 1) := by decide +kernel
theorem d_Pri_offer_42 : decode b_Pri_offer 42 = .ok (.aload_n 0, 1) := by decide +kernel
theorem d_Pri_offer_43 : decode b_Pri_offer 43 = .ok (.getfield 26, 3) := by decide +kernel
theorem d_Pri_offer_46 : decode b_Pri_offer 46 = .ok (.getfield 102, 3) := by decide +kernel
theorem d_Pri_offer_49 : decode b_Pri_offer 49 = .ok (.ifCond .le 13, 3) := by decide +kernel
theorem d_Pri_offer_52 : decode b_Pri_offer 52 = .ok (.new 144, 3) := by decide +kernel
theorem d_Pri_offer_55 : decode b_Pri_offer 55 = .ok (.dup, 1) := by decide +kernel
theorem d_Pri_offer_56 : decode b_Pri_offer 56 = .ok (.ldc 159, 2) := by decide +kernel
theorem d_Pri_offer_58 : decode b_Pri_offer 58 = .ok (.invokespecial 148, 3) := by decide +kernel
theorem d_Pri_offer_61 : decode b_Pri_offer 61 = .ok (.athrow, 1) := by decide +kernel
theorem d_Pri_offer_62 : decode b_Pri_offer 62 = .ok (.aload_n 0, 1) := by decide +kernel
theorem d_Pri_offer_63 : decode b_Pri_offer 63 = .ok (.getfield 40, 3) := by decide +kernel
theorem d_Pri_offer_66 : decode b_Pri_offer 66 = .ok (.lload_n 2, 1) := by decide +kernel
theorem d_Pri_offer_67 : decode b_Pri_offer 67 = .ok (.iload_n 1, 1) := by decide +kernel
theorem d_Pri_offer_68 : decode b_Pri_offer 68 = .ok (.invokevirtual 161, 3) := by decide +kernel
theorem d_Pri_offer_71 : decode b_Pri_offer 71 = .ok (.ireturn, 1) := by decide +kernel
theorem d_Pri_offered_0 : decode b_Pri_offered 0 = .ok (.aload_n 0, 1) := by decide +kernel
theorem d_Pri_offered_1 : decode b_Pri_offered 1 = .ok (.iload_n 1, 1) := by decide +kernel
theorem d_Pri_offered_2 : decode b_Pri_offered 2 = .ok (.invokevirtual 164, 3) := by decide +kernel
theorem d_Pri_offered_5 : decode b_Pri_offered 5 = .ok (.iload_n 2, 1) := by decide +kernel
theorem d_Pri_offered_6 : decode b_Pri_offered 6 = .ok (.invokestatic 125, 3) := by decide +kernel
theorem d_Pri_offered_9 : decode b_Pri_offered 9 = .ok (.aload_n 0, 1) := by decide +kernel
theorem d_Pri_offered_10 : decode b_Pri_offered 10 = .ok (.iload_n 1, 1) := by decide +kernel
theorem d_Pri_offered_11 : decode b_Pri_offered 11 = .ok (.iload_n 2, 1) := by decide +kernel
theorem d_Pri_offered_12 : decode b_Pri_offered 12 = .ok (.invokevirtual 167, 3) := by decide +kernel
theorem d_Pri_offered_15 : decode b_Pri_offered 15 = .ok (.aload_n 0, 1) := by decide +kernel
theorem d_Pri_offered_16 : decode b_Pri_offered 16 = .ok (.getfield 40, 3) := by decide +kernel
theorem d_Pri_offered_19 : decode b_Pri_offered 19 = .ok (.iload_n 1, 1) := by decide +kernel
theorem d_Pri_offered_20 : decode b_Pri_offered 20 = .ok (.invokevirtual 170, 3) := by decide +kernel
theorem d_Pri_offered_23 : decode b_Pri_offered 23 = .ok (.lreturn, 1) := by decide +kernel
theorem d_Pri_requireOffer_0 : decode b_Pri_requireOffer 0 = .ok (.iload_n 1, 1) := by decide +kernel
theorem d_Pri_requireOffer_1 : decode b_Pri_requireOffer 1 = .ok (.ifCond .lt 14, 3) := by decide +kernel
theorem d_Pri_requireOffer_4 : decode b_Pri_requireOffer 4 = .ok (.iload_n 1, 1) := by decide +kernel
theorem d_Pri_requireOffer_5 : decode b_Pri_requireOffer 5 = .ok (.aload_n 0, 1) := by decide +kernel
theorem d_Pri_requireOffer_6 : decode b_Pri_requireOffer 6 = .ok (.getfield 40, 3) := by decide +kernel
theorem d_Pri_requireOffer_9 : decode b_Pri_requireOffer 9 = .ok (.getfield 156, 3) := by decide +kernel
theorem d_Pri_requireOffer_12 : decode b_Pri_requireOffer 12 = .ok (.if_icmp .lt 13, 3) := by decide +kernel
theorem d_Pri_requireOffer_15 : decode b_Pri_requireOffer 15 = .ok (.new 105, 3) := by decide +kernel
theorem d_Pri_requireOffer_18 : decode b_Pri_requireOffer 18 = .ok (.dup, 1) := by decide +kernel
theorem d_Pri_requireOffer_19 : decode b_Pri_requireOffer 19 = .ok (.ldc 217, 2) := by decide +kernel
theorem d_Pri_requireOffer_21 : decode b_Pri_requireOffer 21 = .ok (.invokespecial 109, 3) := by decide +kernel
theorem d_Pri_requireOffer_24 : decode b_Pri_requireOffer 24 = .ok (.athrow, 1) := by decide +kernel
theorem d_Pri_requireOffer_25 : decode b_Pri_requireOffer 25 = .ok (.return_, 1) := by decide +kernel
theorem d_Pri_requireHeld_0 : decode b_Pri_requireHeld 0 = .ok (.iload_n 2, 1) := by decide +kernel
theorem d_Pri_requireHeld_1 : decode b_Pri_requireHeld 1 = .ok (.aload_n 0, 1) := by decide +kernel
theorem d_Pri_requireHeld_2 : decode b_Pri_requireHeld 2 = .ok (.getfield 40, 3) := by decide +kernel
theorem d_Pri_requireHeld_5 : decode b_Pri_requireHeld 5 = .ok (.iload_n 1, 1) := by decide +kernel
theorem d_Pri_requireHeld_6 : decode b_Pri_requireHeld 6 = .ok (.invokevirtual 219, 3) := by decide +kernel
theorem d_Pri_requireHeld_9 : decode b_Pri_requireHeld 9 = .ok (.if_icmp .le 13, 3) := by decide +kernel
theorem d_Pri_requireHeld_12 : decode b_Pri_requireHeld 12 = .ok (.new 144, 3) := by decide +kernel
theorem d_Pri_requireHeld_15 : decode b_Pri_requireHeld 15 = .ok (.dup, 1) := by decide +kernel
theorem d_Pri_requireHeld_16 : decode b_Pri_requireHeld 16 = .ok (.ldc 222, 2) := by decide +kernel
theorem d_Pri_requireHeld_18 : decode b_Pri_requireHeld 18 = .ok (.invokespecial 148, 3) := by decide +kernel
theorem d_Pri_requireHeld_21 : decode b_Pri_requireHeld 21 = .ok (.athrow, 1) := by decide +kernel
theorem d_Pri_requireHeld_22 : decode b_Pri_requireHeld 22 = .ok (.return_, 1) := by decide +kernel
theorem d_Pri_differs_0 : decode b_Pri_differs 0 = .ok (.aload_n 0, 1) := by decide +kernel
theorem d_Pri_differs_1 : decode b_Pri_differs 1 = .ok (.iload_n 1, 1) := by decide +kernel
theorem d_Pri_differs_2 : decode b_Pri_differs 2 = .ok (.invokevirtual 164, 3) := by decide +kernel
theorem d_Pri_differs_5 : decode b_Pri_differs 5 = .ok (.aload_n 0, 1) := by decide +kernel
theorem d_Pri_differs_6 : decode b_Pri_differs 6 = .ok (.iload_n 2, 1) := by decide +kernel
theorem d_Pri_differs_7 : decode b_Pri_differs 7 = .ok (.invokevirtual 164, 3) := by decide +kernel
theorem d_Pri_differs_10 : decode b_Pri_differs 10 = .ok (.aload_n 0, 1) := by decide +kernel
theorem d_Pri_differs_11 : decode b_Pri_differs 11 = .ok (.getfield 40, 3) := by decide +kernel
theorem d_Pri_differs_14 : decode b_Pri_differs 14 = .ok (.iload_n 1, 1) := by decide +kernel
theorem d_Pri_differs_15 : decode b_Pri_differs 15 = .ok (.invokevirtual 170, 3) := by decide +kernel
theorem d_Pri_differs_18 : decode b_Pri_differs 18 = .ok (.aload_n 0, 1) := by decide +kernel
theorem d_Pri_differs_19 : decode b_Pri_differs 19 = .ok (.getfield 40, 3) := by decide +kernel
theorem d_Pri_differs_22 : decode b_Pri_differs 22 = .ok (.iload_n 2, 1) := by decide +kernel
theorem d_Pri_differs_23 : decode b_Pri_differs 23 = .ok (.invokevirtual 170, 3) := by decide +kernel
theorem d_Pri_differs_26 : decode b_Pri_differs 26 = .ok (.lsub, 1) := by decide +kernel
theorem d_Pri_differs_27 : decode b_Pri_differs 27 = .ok (.lreturn, 1) := by decide +kernel
theorem d_Pri_invoice_0 : decode b_Pri_invoice 0 = .ok (.aload_n 0, 1) := by decide +kernel
theorem d_Pri_invoice_1 : decode b_Pri_invoice 1 = .ok (.iload_n 1, 1) := by decide +kernel
theorem d_Pri_invoice_2 : decode b_Pri_invoice 2 = .ok (.invokevirtual 164, 3) := by decide +kernel
theorem d_Pri_invoice_5 : decode b_Pri_invoice 5 = .ok (.iload_n 2, 1) := by decide +kernel
theorem d_Pri_invoice_6 : decode b_Pri_invoice 6 = .ok (.invokestatic 125, 3) := by decide +kernel
theorem d_Pri_invoice_9 : decode b_Pri_invoice 9 = .ok (.aload_n 0, 1) := by decide +kernel
theorem d_Pri_invoice_10 : decode b_Pri_invoice 10 = .ok (.getfield 47, 3) := by decide +kernel
theorem d_Pri_invoice_13 : decode b_Pri_invoice 13 = .ok (.getfield 174, 3) := by decide +kernel
theorem d_Pri_invoice_16 : decode b_Pri_invoice 16 = .ok (.bipush 8, 2) := by decide +kernel
theorem d_Pri_invoice_18 : decode b_Pri_invoice 18 = .ok (.if_icmp .lt 13, 3) := by decide +kernel
theorem d_Pri_invoice_21 : decode b_Pri_invoice 21 = .ok (.new 144, 3) := by decide +kernel
theorem d_Pri_invoice_24 : decode b_Pri_invoice 24 = .ok (.dup, 1) := by decide +kernel
theorem d_Pri_invoice_25 : decode b_Pri_invoice 25 = .ok (.ldc 175, 2) := by decide +kernel
theorem d_Pri_invoice_27 : decode b_Pri_invoice 27 = .ok (.invokespecial 148, 3) := by decide +kernel
theorem d_Pri_invoice_30 : decode b_Pri_invoice 30 = .ok (.athrow, 1) := by decide +kernel
theorem d_Pri_invoice_31 : decode b_Pri_invoice 31 = .ok (.aload_n 0, 1) := by decide +kernel
theorem d_Pri_invoice_32 : decode b_Pri_invoice 32 = .ok (.iload_n 1, 1) := by decide +kernel
theorem d_Pri_invoice_33 : decode b_Pri_invoice 33 = .ok (.iload_n 2, 1) := by decide +kernel
theorem d_Pri_invoice_34 : decode b_Pri_invoice 34 = .ok (.invokevirtual 167, 3) := by decide +kernel
theorem d_Pri_invoice_37 : decode b_Pri_invoice 37 = .ok (.aload_n 0, 1) := by decide +kernel
theorem d_Pri_invoice_38 : decode b_Pri_invoice 38 = .ok (.getfield 33, 3) := by decide +kernel
theorem d_Pri_invoice_41 : decode b_Pri_invoice 41 = .ok (.aload_n 0, 1) := by decide +kernel
theorem d_Pri_invoice_42 : decode b_Pri_invoice 42 = .ok (.getfield 40, 3) := by decide +kernel
theorem d_Pri_invoice_45 : decode b_Pri_invoice 45 = .ok (.iload_n 1, 1) := by decide +kernel
theorem d_Pri_invoice_46 : decode b_Pri_invoice 46 = .ok (.invokevirtual 170, 3) := by decide +kernel
theorem d_Pri_invoice_49 : decode b_Pri_invoice 49 = .ok (.iload_n 2, 1) := by decide +kernel
theorem d_Pri_invoice_50 : decode b_Pri_invoice 50 = .ok (.invokevirtual 152, 3) := by decide +kernel
theorem d_Pri_invoice_53 : decode b_Pri_invoice 53 = .ok (.lstore_n 3, 1) := by decide +kernel
theorem d_Pri_invoice_54 : decode b_Pri_invoice 54 = .ok (.lload_n 3, 1) := by decide +kernel
theorem d_Pri_invoice_55 : decode b_Pri_invoice 55 = .ok (.lconst 0, 1) := by decide +kernel
theorem d_Pri_invoice_56 : decode b_Pri_invoice 56 = .ok (.lcmp, 1) := by decide +kernel
theorem d_Pri_invoice_57 : decode b_Pri_invoice 57 = .ok (.ifCond .ge 13, 3) := by decide +kernel
theorem d_Pri_invoice_60 : decode b_Pri_invoice 60 = .ok (.new 144, 3) := by decide +kernel
theorem d_Pri_invoice_63 : decode b_Pri_invoice 63 = .ok (.dup, 1) := by decide +kernel
theorem d_Pri_invoice_64 : decode b_Pri_invoice 64 = .ok (.ldc 177, 2) := by decide +kernel
theorem d_Pri_invoice_66 : decode b_Pri_invoice 66 = .ok (.invokespecial 148, 3) := by decide +kernel
theorem d_Pri_invoice_69 : decode b_Pri_invoice 69 = .ok (.athrow, 1) := by decide +kernel
theorem d_Pri_invoice_70 : decode b_Pri_invoice 70 = .ok (.aload_n 0, 1) := by decide +kernel
theorem d_Pri_invoice_71 : decode b_Pri_invoice 71 = .ok (.getfield 47, 3) := by decide +kernel
theorem d_Pri_invoice_74 : decode b_Pri_invoice 74 = .ok (.lload_n 3, 1) := by decide +kernel
theorem d_Pri_invoice_75 : decode b_Pri_invoice 75 = .ok (.invokevirtual 179, 3) := by decide +kernel
theorem d_Pri_invoice_78 : decode b_Pri_invoice 78 = .ok (.ireturn, 1) := by decide +kernel
theorem d_Pri_left_0 : decode b_Pri_left 0 = .ok (.aload_n 0, 1) := by decide +kernel
theorem d_Pri_left_1 : decode b_Pri_left 1 = .ok (.iload_n 1, 1) := by decide +kernel
theorem d_Pri_left_2 : decode b_Pri_left 2 = .ok (.invokevirtual 182, 3) := by decide +kernel
theorem d_Pri_left_5 : decode b_Pri_left 5 = .ok (.aload_n 0, 1) := by decide +kernel
theorem d_Pri_left_6 : decode b_Pri_left 6 = .ok (.getfield 47, 3) := by decide +kernel
theorem d_Pri_left_9 : decode b_Pri_left 9 = .ok (.iload_n 1, 1) := by decide +kernel
theorem d_Pri_left_10 : decode b_Pri_left 10 = .ok (.invokevirtual 185, 3) := by decide +kernel
theorem d_Pri_left_13 : decode b_Pri_left 13 = .ok (.lreturn, 1) := by decide +kernel
theorem d_Pri_requireInvoice_0 : decode b_Pri_requireInvoice 0 = .ok (.iload_n 1, 1) := by decide +kernel
theorem d_Pri_requireInvoice_1 : decode b_Pri_requireInvoice 1 = .ok (.ifCond .lt 14, 3) := by decide +kernel
theorem d_Pri_requireInvoice_4 : decode b_Pri_requireInvoice 4 = .ok (.iload_n 1, 1) := by decide +kernel
theorem d_Pri_requireInvoice_5 : decode b_Pri_requireInvoice 5 = .ok (.aload_n 0, 1) := by decide +kernel
theorem d_Pri_requireInvoice_6 : decode b_Pri_requireInvoice 6 = .ok (.getfield 47, 3) := by decide +kernel
theorem d_Pri_requireInvoice_9 : decode b_Pri_requireInvoice 9 = .ok (.getfield 174, 3) := by decide +kernel
theorem d_Pri_requireInvoice_12 : decode b_Pri_requireInvoice 12 = .ok (.if_icmp .lt 13, 3) := by decide +kernel
theorem d_Pri_requireInvoice_15 : decode b_Pri_requireInvoice 15 = .ok (.new 105, 3) := by decide +kernel
theorem d_Pri_requireInvoice_18 : decode b_Pri_requireInvoice 18 = .ok (.dup, 1) := by decide +kernel
theorem d_Pri_requireInvoice_19 : decode b_Pri_requireInvoice 19 = .ok (.ldc 224, 2) := by decide +kernel
theorem d_Pri_requireInvoice_21 : decode b_Pri_requireInvoice 21 = .ok (.invokespecial 109, 3) := by decide +kernel
theorem d_Pri_requireInvoice_24 : decode b_Pri_requireInvoice 24 = .ok (.athrow, 1) := by decide +kernel
theorem d_Pri_requireInvoice_25 : decode b_Pri_requireInvoice 25 = .ok (.return_, 1) := by decide +kernel
theorem d_Pri_refund_0 : decode b_Pri_refund 0 = .ok (.aload_n 0, 1) := by decide +kernel
theorem d_Pri_refund_1 : decode b_Pri_refund 1 = .ok (.iload_n 1, 1) := by decide +kernel
theorem d_Pri_refund_2 : decode b_Pri_refund 2 = .ok (.invokevirtual 182, 3) := by decide +kernel
theorem d_Pri_refund_5 : decode b_Pri_refund 5 = .ok (.iload_n 2, 1) := by decide +kernel
theorem d_Pri_refund_6 : decode b_Pri_refund 6 = .ok (.ifCond .ge 13, 3) := by decide +kernel
theorem d_Pri_refund_9 : decode b_Pri_refund 9 = .ok (.new 131, 3) := by decide +kernel
theorem d_Pri_refund_12 : decode b_Pri_refund 12 = .ok (.dup, 1) := by decide +kernel
theorem d_Pri_refund_13 : decode b_Pri_refund 13 = .ok (.ldc 188, 2) := by decide +kernel
theorem d_Pri_refund_15 : decode b_Pri_refund 15 = .ok (.invokespecial 135, 3) := by decide +kernel
theorem d_Pri_refund_18 : decode b_Pri_refund 18 = .ok (.athrow, 1) := by decide +kernel
theorem d_Pri_refund_19 : decode b_Pri_refund 19 = .ok (.aload_n 0, 1) := by decide +kernel
theorem d_Pri_refund_20 : decode b_Pri_refund 20 = .ok (.getfield 47, 3) := by decide +kernel
theorem d_Pri_refund_23 : decode b_Pri_refund 23 = .ok (.iload_n 1, 1) := by decide +kernel
theorem d_Pri_refund_24 : decode b_Pri_refund 24 = .ok (.iload_n 2, 1) := by decide +kernel
theorem d_Pri_refund_25 : decode b_Pri_refund 25 = .ok (.invokevirtual 190, 3) := by decide +kernel
theorem d_Pri_refund_28 : decode b_Pri_refund 28 = .ok (.ireturn, 1) := by decide +kernel
theorem d_Pri_learn_0 : decode b_Pri_learn 0 = .ok (.iload_n 1, 1) := by decide +kernel
theorem d_Pri_learn_1 : decode b_Pri_learn 1 = .ok (.ifCond .lt 9, 3) := by decide +kernel
theorem d_Pri_learn_4 : decode b_Pri_learn 4 = .ok (.iload_n 1, 1) := by decide +kernel
theorem d_Pri_learn_5 : decode b_Pri_learn 5 = .ok (.bipush 8, 2) := by decide +kernel
theorem d_Pri_learn_7 : decode b_Pri_learn 7 = .ok (.if_icmp .lt 13, 3) := by decide +kernel
theorem d_Pri_learn_10 : decode b_Pri_learn 10 = .ok (.new 105, 3) := by decide +kernel
theorem d_Pri_learn_13 : decode b_Pri_learn 13 = .ok (.dup, 1) := by decide +kernel
theorem d_Pri_learn_14 : decode b_Pri_learn 14 = .ok (.ldc 194, 2) := by decide +kernel
theorem d_Pri_learn_16 : decode b_Pri_learn 16 = .ok (.invokespecial 109, 3) := by decide +kernel
theorem d_Pri_learn_19 : decode b_Pri_learn 19 = .ok (.athrow, 1) := by decide +kernel
theorem d_Pri_learn_20 : decode b_Pri_learn 20 = .ok (.iload_n 2, 1) := by decide +kernel
theorem d_Pri_learn_21 : decode b_Pri_learn 21 = .ok (.ifCond .lt 9, 3) := by decide +kernel
theorem d_Pri_learn_24 : decode b_Pri_learn 24 = .ok (.iload_n 2, 1) := by decide +kernel
theorem d_Pri_learn_25 : decode b_Pri_learn 25 = .ok (.ldc 196, 2) := by decide +kernel
theorem d_Pri_learn_27 : decode b_Pri_learn 27 = .ok (.if_icmp .le 13, 3) := by decide +kernel
theorem d_Pri_learn_30 : decode b_Pri_learn 30 = .ok (.new 131, 3) := by decide +kernel
theorem d_Pri_learn_33 : decode b_Pri_learn 33 = .ok (.dup, 1) := by decide +kernel
theorem d_Pri_learn_34 : decode b_Pri_learn 34 = .ok (.ldc 197, 2) := by decide +kernel
theorem d_Pri_learn_36 : decode b_Pri_learn 36 = .ok (.invokespecial 135, 3) := by decide +kernel
theorem d_Pri_learn_39 : decode b_Pri_learn 39 = .ok (.athrow, 1) := by decide +kernel
theorem d_Pri_learn_40 : decode b_Pri_learn 40 = .ok (.aload_n 0, 1) := by decide +kernel
theorem d_Pri_learn_41 : decode b_Pri_learn 41 = .ok (.getfield 54, 3) := by decide +kernel
theorem d_Pri_learn_44 : decode b_Pri_learn 44 = .ok (.iload_n 1, 1) := by decide +kernel
theorem d_Pri_learn_45 : decode b_Pri_learn 45 = .ok (.iload_n 2, 1) := by decide +kernel
theorem d_Pri_learn_46 : decode b_Pri_learn 46 = .ok (.invokevirtual 199, 3) := by decide +kernel
theorem d_Pri_learn_49 : decode b_Pri_learn 49 = .ok (.aload_n 0, 1) := by decide +kernel
theorem d_Pri_learn_50 : decode b_Pri_learn 50 = .ok (.getfield 54, 3) := by decide +kernel
theorem d_Pri_learn_53 : decode b_Pri_learn 53 = .ok (.iload_n 1, 1) := by decide +kernel
theorem d_Pri_learn_54 : decode b_Pri_learn 54 = .ok (.invokevirtual 201, 3) := by decide +kernel
theorem d_Pri_learn_57 : decode b_Pri_learn 57 = .ok (.ireturn, 1) := by decide +kernel
