theorem d_A_forget_0 : decode b_A_forget 0 = .ok (.aload_n 0, 1) := by decide +kernel
theorem d_A_forget_1 : decode b_A_forget 1 = .ok (.getfield 15, 3) := by decide +kernel
theorem d_A_forget_4 : decode b_A_forget 4 = .ok (.ifCond .ne 16, 3) := by decide +kernel
theorem d_A_forget_7 : decode b_A_forget 7 = .ok (.aload_n 0, 1) := by decide +kernel
theorem d_A_forget_8 : decode b_A_forget 8 = .ok (.getfield 9, 3) := by decide +kernel
theorem d_A_forget_11 : decode b_A_forget 11 = .ok (.iconst 0, 1) := by decide +kernel
theorem d_A_forget_12 : decode b_A_forget 12 = .ok (.invokestatic 23, 3) := by decide +kernel
theorem d_A_forget_15 : decode b_A_forget 15 = .ok (.aload_n 0, 1) := by decide +kernel
theorem d_A_forget_16 : decode b_A_forget 16 = .ok (.iconst 1, 1) := by decide +kernel
theorem d_A_forget_17 : decode b_A_forget 17 = .ok (.putfield 15, 3) := by decide +kernel
theorem d_A_forget_20 : decode b_A_forget 20 = .ok (.return_, 1) := by decide +kernel
theorem d_A_isPair_0 : decode b_A_isPair 0 = .ok (.iload_n 0, 1) := by decide +kernel
theorem d_A_isPair_1 : decode b_A_isPair 1 = .ok (.ifCond .lt 25, 3) := by decide +kernel
theorem d_A_isPair_4 : decode b_A_isPair 4 = .ok (.iload_n 0, 1) := by decide +kernel
theorem d_A_isPair_5 : decode b_A_isPair 5 = .ok (.sipush 300, 3) := by decide +kernel
theorem d_A_isPair_8 : decode b_A_isPair 8 = .ok (.if_icmp .ge 18, 3) := by decide +kernel
theorem d_A_isPair_11 : decode b_A_isPair 11 = .ok (.iload_n 1, 1) := by decide +kernel
theorem d_A_isPair_12 : decode b_A_isPair 12 = .ok (.ifCond .lt 14, 3) := by decide +kernel
theorem d_A_isPair_15 : decode b_A_isPair 15 = .ok (.iload_n 1, 1) := by decide +kernel
theorem d_A_isPair_16 : decode b_A_isPair 16 = .ok (.sipush 300, 3) := by decide +kernel
theorem d_A_isPair_19 : decode b_A_isPair 19 = .ok (.if_icmp .ge 7, 3) := by decide +kernel
theorem d_A_isPair_22 : decode b_A_isPair 22 = .ok (.iconst 1, 1) := by decide +kernel
theorem d_A_isPair_23 : decode b_A_isPair 23 = .ok (.goto 4, 3) := by decide +kernel
theorem d_A_isPair_26 : decode b_A_isPair 26 = .ok (.iconst 0, 1) := by decide +kernel
theorem d_A_isPair_27 : decode b_A_isPair 27 = .ok (.ireturn, 1) := by decide +kernel
theorem d_A_read_0 : decode b_A_read 0 = .ok (.iload_n 1, 1) := by decide +kernel
theorem d_A_read_1 : decode b_A_read 1 = .ok (.iload_n 2, 1) := by decide +kernel
theorem d_A_read_2 : decode b_A_read 2 = .ok (.invokestatic 19, 3) := by decide +kernel
theorem d_A_read_5 : decode b_A_read 5 = .ok (.ifCond .ne 5, 3) := by decide +kernel
theorem d_A_read_8 : decode b_A_read 8 = .ok (.iconst 0, 1) := by decide +kernel
theorem d_A_read_9 : decode b_A_read 9 = .ok (.ireturn, 1) := by decide +kernel
theorem d_A_read_10 : decode b_A_read 10 = .ok (.iload_n 1, 1) := by decide +kernel
theorem d_A_read_11 : decode b_A_read 11 = .ok (.sipush 300, 3) := by decide +kernel
theorem d_A_read_14 : decode b_A_read 14 = .ok (.imul, 1) := by decide +kernel
theorem d_A_read_15 : decode b_A_read 15 = .ok (.iload_n 2, 1) := by decide +kernel
theorem d_A_read_16 : decode b_A_read 16 = .ok (.iadd, 1) := by decide +kernel
theorem d_A_read_17 : decode b_A_read 17 = .ok (.istore_n 3, 1) := by decide +kernel
theorem d_A_read_18 : decode b_A_read 18 = .ok (.aload_n 0, 1) := by decide +kernel
theorem d_A_read_19 : decode b_A_read 19 = .ok (.getfield 9, 3) := by decide +kernel
theorem d_A_read_22 : decode b_A_read 22 = .ok (.iload_n 3, 1) := by decide +kernel
theorem d_A_read_23 : decode b_A_read 23 = .ok (.iconst 4, 1) := by decide +kernel
theorem d_A_read_24 : decode b_A_read 24 = .ok (.ishr, 1) := by decide +kernel
theorem d_A_read_25 : decode b_A_read 25 = .ok (.iaload, 1) := by decide +kernel
theorem d_A_read_26 : decode b_A_read 26 = .ok (.iconst 2, 1) := by decide +kernel
theorem d_A_read_27 : decode b_A_read 27 = .ok (.iload_n 3, 1) := by decide +kernel
theorem d_A_read_28 : decode b_A_read 28 = .ok (.bipush 15, 2) := by decide +kernel
theorem d_A_read_30 : decode b_A_read 30 = .ok (.iand, 1) := by decide +kernel
theorem d_A_read_31 : decode b_A_read 31 = .ok (.imul, 1) := by decide +kernel
theorem d_A_read_32 : decode b_A_read 32 = .ok (.ishr, 1) := by decide +kernel
theorem d_A_read_33 : decode b_A_read 33 = .ok (.iconst 3, 1) := by decide +kernel
theorem d_A_read_34 : decode b_A_read 34 = .ok (.iand, 1) := by decide +kernel
theorem d_A_read_35 : decode b_A_read 35 = .ok (.ireturn, 1) := by decide +kernel
theorem d_A_keep_0 : decode b_A_keep 0 = .ok (.iload_n 1, 1) := by decide +kernel
theorem d_A_keep_1 : decode b_A_keep 1 = .ok (.iload_n 2, 1) := by decide +kernel
theorem d_A_keep_2 : decode b_A_keep 2 = .ok (.invokestatic 19, 3) := by decide +kernel
theorem d_A_keep_5 : decode b_A_keep 5 = .ok (.ifCond .ne 4, 3) := by decide +kernel
theorem d_A_keep_8 : decode b_A_keep 8 = .ok (.return_, 1) := by decide +kernel
theorem d_A_keep_9 : decode b_A_keep 9 = .ok (.iload_n 1, 1) := by decide +kernel
theorem d_A_keep_10 : decode b_A_keep 10 = .ok (.sipush 300, 3) := by decide +kernel
theorem d_A_keep_13 : decode b_A_keep 13 = .ok (.imul, 1) := by decide +kernel
theorem d_A_keep_14 : decode b_A_keep 14 = .ok (.iload_n 2, 1) := by decide +kernel
theorem d_A_keep_15 : decode b_A_keep 15 = .ok (.iadd, 1) := by decide +kernel
theorem d_A_keep_16 : decode b_A_keep 16 = .ok (.istore 4, 2) := by decide +kernel
theorem d_A_keep_18 : decode b_A_keep 18 = .ok (.aload_n 0, 1) := by decide +kernel
theorem d_A_keep_19 : decode b_A_keep 19 = .ok (.getfield 9, 3) := by decide +kernel
theorem d_A_keep_22 : decode b_A_keep 22 = .ok (.iload 4, 2) := by decide +kernel
theorem d_A_keep_24 : decode b_A_keep 24 = .ok (.iconst 4, 1) := by decide +kernel
theorem d_A_keep_25 : decode b_A_keep 25 = .ok (.ishr, 1) := by decide +kernel
theorem d_A_keep_26 : decode b_A_keep 26 = .ok (.dup2, 1) := by decide +kernel
theorem d_A_keep_27 : decode b_A_keep 27 = .ok (.iaload, 1) := by decide +kernel
theorem d_A_keep_28 : decode b_A_keep 28 = .ok (.iload_n 3, 1) := by decide +kernel
theorem d_A_keep_29 : decode b_A_keep 29 = .ok (.ifCond .eq 7, 3) := by decide +kernel
theorem d_A_keep_32 : decode b_A_keep 32 = .ok (.iconst 2, 1) := by decide +kernel
theorem d_A_keep_33 : decode b_A_keep 33 = .ok (.goto 4, 3) := by decide +kernel
theorem d_A_keep_36 : decode b_A_keep 36 = .ok (.iconst 1, 1) := by decide +kernel
theorem d_A_keep_37 : decode b_A_keep 37 = .ok (.iconst 2, 1) := by decide +kernel
theorem d_A_keep_38 : decode b_A_keep 38 = .ok (.iload 4, 2) := by decide +kernel
theorem d_A_keep_40 : decode b_A_keep 40 = .ok (.bipush 15, 2) := by decide +kernel
theorem d_A_keep_42 : decode b_A_keep 42 = .ok (.iand, 1) := by decide +kernel
theorem d_A_keep_43 : decode b_A_keep 43 = .ok (.imul, 1) := by decide +kernel
theorem d_A_keep_44 : decode b_A_keep 44 = .ok (.ishl, 1) := by decide +kernel
theorem d_A_keep_45 : decode b_A_keep 45 = .ok (.ior, 1) := by decide +kernel
theorem d_A_keep_46 : decode b_A_keep 46 = .ok (.iastore, 1) := by decide +kernel
theorem d_A_keep_47 : decode b_A_keep 47 = .ok (.aload_n 0, 1) := by decide +kernel
theorem d_A_keep_48 : decode b_A_keep 48 = .ok (.iconst 0, 1) := by decide +kernel
theorem d_A_keep_49 : decode b_A_keep 49 = .ok (.putfield 15, 3) := by decide +kernel
theorem d_A_keep_52 : decode b_A_keep 52 = .ok (.return_, 1) := by decide +kernel
