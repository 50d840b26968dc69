-- part 04.decA.lean.txt
theorem d_A_forget_0 : decode b_A_forget 0 = .ok (.aload_n 0, 1) := by decide +kernel
theorem d_A_forget_1 : decode b_A_forget 1 = .ok (.getfield 15, 3) := by decide +kernel
theorem d_A_forget_4 : decode b_A_forget 4 = .ok (.ifCond .ne 16, 3) := by decide +kernel
theorem d_A_forget_7 : decode b_A_forget 7 = .ok (.aload_n 0, 1) := by decide +kernel
theorem d_A_forget_8 : decode b_A_forget 8 = .ok (.getfield 9, 3) := by decide +kernel
theorem d_A_forget_11 : decode b_A_forget 11 = .ok (.iconst 0, 1) := by decide +kernel
theorem d_A_forget_12 : decode b_A_forget 12 = .ok (.invokestatic 23, 3) := by decide +kernel
theorem d_A_forget_15 : decode b_A_forget 15 = .ok (.aload_n 0, 1) := by decide +kernel
theorem d_A_forget_16 : decode b_A_forget 16 = .ok (.iconst 1, 1) := by decide +kernel
theorem d_A_forget_17 : decode b_A_forget 17 = .ok (.putfield 15, 3) := by decide +kernel
theorem d_A_forget_20 : decode b_A_forget 20 = .ok (.return_, 1) := by decide +kernel
theorem d_A_isPair_0 : decode b_A_isPair 0 = .ok (.iload_n 0, 1) := by decide +kernel
theorem d_A_isPair_1 : decode b_A_isPair 1 = .ok (.ifCond .lt 25, 3) := by decide +kernel
theorem d_A_isPair_4 : decode b_A_isPair 4 = .ok (.iload_n 0, 1) := by decide +kernel
theorem d_A_isPair_5 : decode b_A_isPair 5 = .ok (.sipush 300, 3) := by decide +kernel
theorem d_A_isPair_8 : decode b_A_isPair 8 = .ok (.if_icmp .ge 18, 3) := by decide +kernel
theorem d_A_isPair_11 : decode b_A_isPair 11 = .ok (.iload_n 1, 1) := by decide +kernel
theorem d_A_isPair_12 : decode b_A_isPair 12 = .ok (.ifCond .lt 14, 3) := by decide +kernel
theorem d_A_isPair_15 : decode b_A_isPair 15 = .ok (.iload_n 1, 1) := by decide +kernel
theorem d_A_isPair_16 : decode b_A_isPair 16 = .ok (.sipush 300, 3) := by decide +kernel
theorem d_A_isPair_19 : decode b_A_isPair 19 = .ok (.if_icmp .ge 7, 3) := by decide +kernel
theorem d_A_isPair_22 : decode b_A_isPair 22 = .ok (.iconst 1, 1) := by decide +kernel
theorem d_A_isPair_23 : decode b_A_isPair 23 = .ok (.goto 4, 3) := by decide +kernel
theorem d_A_isPair_26 : decode b_A_isPair 26 = .ok (.iconst 0, 1) := by decide +kernel
theorem d_A_isPair_27 : decode b_A_isPair 27 = .ok (.ireturn, 1) := by decide +kernel
theorem d_A_read_0 : decode b_A_read 0 = .ok (.iload_n 1, 1) := by decide +kernel
theorem d_A_read_1 : decode b_A_read 1 = .ok (.iload_n 2, 1) := by decide +kernel
theorem d_A_read_2 : decode b_A_read 2 = .ok (.invokestatic 19, 3) := by decide +kernel
theorem d_A_read_5 : decode b_A_read 5 = .ok (.ifCond .ne 5, 3) := by decide +kernel
theorem d_A_read_8 : decode b_A_read 8 = .ok (.iconst 0, 1) := by decide +kernel
theorem d_A_read_9 : decode b_A_read 9 = .ok (.ireturn, 1) := by decide +kernel
theorem d_A_read_10 : decode b_A_read 10 = .ok (.iload_n 1, 1) := by decide +kernel
theorem d_A_read_11 : decode b_A_read 11 = .ok (.sipush 300, 3) := by decide +kernel
theorem d_A_read_14 : decode b_A_read 14 = .ok (.imul, 1) := by decide +kernel
theorem d_A_read_15 : decode b_A_read 15 = .ok (.iload_n 2, 1) := by decide +kernel
theorem d_A_read_16 : decode b_A_read 16 = .ok (.iadd, 1) := by decide +kernel
theorem d_A_read_17 : decode b_A_read 17 = .ok (.istore_n 3, 1) := by decide +kernel
theorem d_A_read_18 : decode b_A_read 18 = .ok (.aload_n 0, 1) := by decide +kernel
theorem d_A_read_19 : decode b_A_read 19 = .ok (.getfield 9, 3) := by decide +kernel
theorem d_A_read_22 : decode b_A_read 22 = .ok (.iload_n 3, 1) := by decide +kernel
theorem d_A_read_23 : decode b_A_read 23 = .ok (.iconst 4, 1) := by decide +kernel
theorem d_A_read_24 : decode b_A_read 24 = .ok (.ishr, 1) := by decide +kernel
theorem d_A_read_25 : decode b_A_read 25 = .ok (.iaload, 1) := by decide +kernel
theorem d_A_read_26 : decode b_A_read 26 = .ok (.iconst 2, 1) := by decide +kernel
theorem d_A_read_27 : decode b_A_read 27 = .ok (.iload_n 3, 1) := by decide +kernel
theorem d_A_read_28 : decode b_A_read 28 = .ok (.bipush 15, 2) := by decide +kernel
theorem d_A_read_30 : decode b_A_read 30 = .ok (.iand, 1) := by decide +kernel
theorem d_A_read_31 : decode b_A_read 31 = .ok (.imul, 1) := by decide +kernel
theorem d_A_read_32 : decode b_A_read 32 = .ok (.ishr, 1) := by decide +kernel
theorem d_A_read_33 : decode b_A_read 33 = .ok (.iconst 3, 1) := by decide +kernel
theorem d_A_read_34 : decode b_A_read 34 = .ok (.iand, 1) := by decide +kernel
theorem d_A_read_35 : decode b_A_read 35 = .ok (.ireturn, 1) := by decide +kernel
theorem d_A_keep_0 : decode b_A_keep 0 = .ok (.iload_n 1, 1) := by decide +kernel
theorem d_A_keep_1 : decode b_A_keep 1 = .ok (.iload_n 2, 1) := by decide +kernel
theorem d_A_keep_2 : decode b_A_keep 2 = .ok (.invokestatic 19, 3) := by decide +kernel
theorem d_A_keep_5 : decode b_A_keep 5 = .ok (.ifCond .ne 4, 3) := by decide +kernel
theorem d_A_keep_8 : decode b_A_keep 8 = .ok (.return_, 1) := by decide +kernel
theorem d_A_keep_9 : decode b_A_keep 9 = .ok (.iload_n 1, 1) := by decide +kernel
theorem d_A_keep_10 : decode b_A_keep 10 = .ok (.sipush 300, 3) := by decide +kernel
theorem d_A_keep_13 : decode b_A_keep 13 = .ok (.imul, 1) := by decide +kernel
theorem d_A_keep_14 : decode b_A_keep 14 = .ok (.iload_n 2, 1) := by decide +kernel
theorem d_A_keep_15 : decode b_A_keep 15 = .ok (.iadd, 1) := by decide +kernel
theorem d_A_keep_16 : decode b_A_keep 16 = .ok (.istore 4, 2) := by decide +kernel
theorem d_A_keep_18 : decode b_A_keep 18 = .ok (.aload_n 0, 1) := by decide +kernel
theorem d_A_keep_19 : decode b_A_keep 19 = .ok (.getfield 9, 3) := by decide +kernel
theorem d_A_keep_22 : decode b_A_keep 22 = .ok (.iload 4, 2) := by decide +kernel
theorem d_A_keep_24 : decode b_A_keep 24 = .ok (.iconst 4, 1) := by decide +kernel
theorem d_A_keep_25 : decode b_A_keep 25 = .ok (.ishr, 1) := by decide +kernel
theorem d_A_keep_26 : decode b_A_keep 26 = .ok (.dup2, 1) := by decide +kernel
theorem d_A_keep_27 : decode b_A_keep 27 = .ok (.iaload, 1) := by decide +kernel
theorem d_A_keep_28 : decode b_A_keep 28 = .ok (.iload_n 3, 1) := by decide +kernel
theorem d_A_keep_29 : decode b_A_keep 29 = .ok (.ifCond .eq 7, 3) := by decide +kernel
theorem d_A_keep_32 : decode b_A_keep 32 = .ok (.iconst 2, 1) := by decide +kernel
theorem d_A_keep_33 : decode b_A_keep 33 = .ok (.goto 4, 3) := by decide +kernel
theorem d_A_keep_36 : decode b_A_keep 36 = .ok (.iconst 1, 1) := by decide +kernel
theorem d_A_keep_37 : decode b_A_keep 37 = .ok (.iconst 2, 1) := by decide +kernel
theorem d_A_keep_38 : decode b_A_keep 38 = .ok (.iload 4, 2) := by decide +kernel
theorem d_A_keep_40 : decode b_A_keep 40 = .ok (.bipush 15, 2) := by decide +kernel
theorem d_A_keep_42 : decode b_A_keep 42 = .ok (.iand, 1) := by decide +kernel
theorem d_A_keep_43 : decode b_A_keep 43 = .ok (.imul, 1) := by decide +kernel
theorem d_A_keep_44 : decode b_A_keep 44 = .ok (.ishl, 1) := by decide +kernel
theorem d_A_keep_45 : decode b_A_keep 45 = .ok (.ior, 1) := by decide +kernel
theorem d_A_keep_46 : decode b_A_keep 46 = .ok (.iastore, 1) := by decide +kernel
theorem d_A_keep_47 : decode b_A_keep 47 = .ok (.aload_n 0, 1) := by decide +kernel
theorem d_A_keep_48 : decode b_A_keep 48 = .ok (.iconst 0, 1) := by decide +kernel
theorem d_A_keep_49 : decode b_A_keep 49 = .ok (.putfield 15, 3) := by decide +kernel
theorem d_A_keep_52 : decode b_A_keep 52 = .ok (.return_, 1) := by decide +kernel
-- part 04.decC.lean.txt
theorem d_C_isThere_0 : decode b_C_isThere 0 = .ok (.iload_n 1, 1) := by decide +kernel
theorem d_C_isThere_1 : decode b_C_isThere 1 = .ok (.ifCond .lt 15, 3) := by decide +kernel
theorem d_C_isThere_4 : decode b_C_isThere 4 = .ok (.iload_n 1, 1) := by decide +kernel
theorem d_C_isThere_5 : decode b_C_isThere 5 = .ok (.aload_n 0, 1) := by decide +kernel
theorem d_C_isThere_6 : decode b_C_isThere 6 = .ok (.getfield 31, 3) := by decide +kernel
theorem d_C_isThere_9 : decode b_C_isThere 9 = .ok (.if_icmp .ge 7, 3) := by decide +kernel
theorem d_C_isThere_12 : decode b_C_isThere 12 = .ok (.iconst 1, 1) := by decide +kernel
theorem d_C_isThere_13 : decode b_C_isThere 13 = .ok (.goto 4, 3) := by decide +kernel
theorem d_C_isThere_16 : decode b_C_isThere 16 = .ok (.iconst 0, 1) := by decide +kernel
theorem d_C_isThere_17 : decode b_C_isThere 17 = .ok (.ireturn, 1) := by decide +kernel
theorem d_C_withAbove_0 : decode b_C_withAbove 0 = .ok (.aload_n 0, 1) := by decide +kernel
theorem d_C_withAbove_1 : decode b_C_withAbove 1 = .ok (.iload_n 1, 1) := by decide +kernel
theorem d_C_withAbove_2 : decode b_C_withAbove 2 = .ok (.invokevirtual 50, 3) := by decide +kernel
theorem d_C_withAbove_5 : decode b_C_withAbove 5 = .ok (.ifCond .eq 16, 3) := by decide +kernel
theorem d_C_withAbove_8 : decode b_C_withAbove 8 = .ok (.aload_n 0, 1) := by decide +kernel
theorem d_C_withAbove_9 : decode b_C_withAbove 9 = .ok (.getfield 18, 3) := by decide +kernel
theorem d_C_withAbove_12 : decode b_C_withAbove 12 = .ok (.iload_n 1, 1) := by decide +kernel
theorem d_C_withAbove_13 : decode b_C_withAbove 13 = .ok (.iaload, 1) := by decide +kernel
theorem d_C_withAbove_14 : decode b_C_withAbove 14 = .ok (.iconst 1, 1) := by decide +kernel
theorem d_C_withAbove_15 : decode b_C_withAbove 15 = .ok (.iload_n 1, 1) := by decide +kernel
theorem d_C_withAbove_16 : decode b_C_withAbove 16 = .ok (.ishl, 1) := by decide +kernel
theorem d_C_withAbove_17 : decode b_C_withAbove 17 = .ok (.ior, 1) := by decide +kernel
theorem d_C_withAbove_18 : decode b_C_withAbove 18 = .ok (.goto 4, 3) := by decide +kernel
theorem d_C_withAbove_21 : decode b_C_withAbove 21 = .ok (.iconst 0, 1) := by decide +kernel
theorem d_C_withAbove_22 : decode b_C_withAbove 22 = .ok (.ireturn, 1) := by decide +kernel
theorem d_C_write_0 : decode b_C_write 0 = .ok (.aload_n 0, 1) := by decide +kernel
theorem d_C_write_1 : decode b_C_write 1 = .ok (.iload_n 1, 1) := by decide +kernel
theorem d_C_write_2 : decode b_C_write 2 = .ok (.invokevirtual 50, 3) := by decide +kernel
theorem d_C_write_5 : decode b_C_write 5 = .ok (.ifCond .eq 21, 3) := by decide +kernel
theorem d_C_write_8 : decode b_C_write 8 = .ok (.aload_n 0, 1) := by decide +kernel
theorem d_C_write_9 : decode b_C_write 9 = .ok (.iload_n 3, 1) := by decide +kernel
theorem d_C_write_10 : decode b_C_write 10 = .ok (.invokevirtual 50, 3) := by decide +kernel
theorem d_C_write_13 : decode b_C_write 13 = .ok (.ifCond .eq 13, 3) := by decide +kernel
theorem d_C_write_16 : decode b_C_write 16 = .ok (.iload_n 2, 1) := by decide +kernel
theorem d_C_write_17 : decode b_C_write 17 = .ok (.ifCond .lt 9, 3) := by decide +kernel
theorem d_C_write_20 : decode b_C_write 20 = .ok (.iload_n 2, 1) := by decide +kernel
theorem d_C_write_21 : decode b_C_write 21 = .ok (.bipush 30, 2) := by decide +kernel
theorem d_C_write_23 : decode b_C_write 23 = .ok (.if_icmp .lt 4, 3) := by decide +kernel
theorem d_C_write_26 : decode b_C_write 26 = .ok (.return_, 1) := by decide +kernel
theorem d_C_write_27 : decode b_C_write 27 = .ok (.aload_n 0, 1) := by decide +kernel
theorem d_C_write_28 : decode b_C_write 28 = .ok (.getfield 25, 3) := by decide +kernel
theorem d_C_write_31 : decode b_C_write 31 = .ok (.iload_n 1, 1) := by decide +kernel
theorem d_C_write_32 : decode b_C_write 32 = .ok (.bipush 30, 2) := by decide +kernel
theorem d_C_write_34 : decode b_C_write 34 = .ok (.imul, 1) := by decide +kernel
theorem d_C_write_35 : decode b_C_write 35 = .ok (.iload_n 2, 1) := by decide +kernel
theorem d_C_write_36 : decode b_C_write 36 = .ok (.iadd, 1) := by decide +kernel
theorem d_C_write_37 : decode b_C_write 37 = .ok (.iload_n 3, 1) := by decide +kernel
theorem d_C_write_38 : decode b_C_write 38 = .ok (.iastore, 1) := by decide +kernel
theorem d_C_write_39 : decode b_C_write 39 = .ok (.aload_n 0, 1) := by decide +kernel
theorem d_C_write_40 : decode b_C_write 40 = .ok (.getfield 28, 3) := by decide +kernel
theorem d_C_write_43 : decode b_C_write 43 = .ok (.iload_n 1, 1) := by decide +kernel
theorem d_C_write_44 : decode b_C_write 44 = .ok (.bipush 30, 2) := by decide +kernel
theorem d_C_write_46 : decode b_C_write 46 = .ok (.imul, 1) := by decide +kernel
theorem d_C_write_47 : decode b_C_write 47 = .ok (.iload_n 2, 1) := by decide +kernel
theorem d_C_write_48 : decode b_C_write 48 = .ok (.iadd, 1) := by decide +kernel
theorem d_C_write_49 : decode b_C_write 49 = .ok (.iload 4, 2) := by decide +kernel
theorem d_C_write_51 : decode b_C_write 51 = .ok (.iastore, 1) := by decide +kernel
theorem d_C_write_52 : decode b_C_write 52 = .ok (.aload_n 0, 1) := by decide +kernel
theorem d_C_write_53 : decode b_C_write 53 = .ok (.getfield 22, 3) := by decide +kernel
theorem d_C_write_56 : decode b_C_write 56 = .ok (.iload_n 1, 1) := by decide +kernel
theorem d_C_write_57 : decode b_C_write 57 = .ok (.aload_n 0, 1) := by decide +kernel
theorem d_C_write_58 : decode b_C_write 58 = .ok (.getfield 22, 3) := by decide +kernel
theorem d_C_write_61 : decode b_C_write 61 = .ok (.iload_n 1, 1) := by decide +kernel
theorem d_C_write_62 : decode b_C_write 62 = .ok (.iaload, 1) := by decide +kernel
theorem d_C_write_63 : decode b_C_write 63 = .ok (.iload_n 2, 1) := by decide +kernel
theorem d_C_write_64 : decode b_C_write 64 = .ok (.iconst 1, 1) := by decide +kernel
theorem d_C_write_65 : decode b_C_write 65 = .ok (.iadd, 1) := by decide +kernel
theorem d_C_write_66 : decode b_C_write 66 = .ok (.invokestatic 94, 3) := by decide +kernel
theorem d_C_write_69 : decode b_C_write 69 = .ok (.iastore, 1) := by decide +kernel
theorem d_C_write_70 : decode b_C_write 70 = .ok (.aload_n 0, 1) := by decide +kernel
theorem d_C_write_71 : decode b_C_write 71 = .ok (.getfield 18, 3) := by decide +kernel
theorem d_C_write_74 : decode b_C_write 74 = .ok (.iload_n 1, 1) := by decide +kernel
theorem d_C_write_75 : decode b_C_write 75 = .ok (.dup2, 1) := by decide +kernel
theorem d_C_write_76 : decode b_C_write 76 = .ok (.iaload, 1) := by decide +kernel
theorem d_C_write_77 : decode b_C_write 77 = .ok (.aload_n 0, 1) := by decide +kernel
theorem d_C_write_78 : decode b_C_write 78 = .ok (.iload_n 3, 1) := by decide +kernel
theorem d_C_write_79 : decode b_C_write 79 = .ok (.invokevirtual 78, 3) := by decide +kernel
theorem d_C_write_82 : decode b_C_write 82 = .ok (.ior, 1) := by decide +kernel
theorem d_C_write_83 : decode b_C_write 83 = .ok (.iastore, 1) := by decide +kernel
theorem d_C_write_84 : decode b_C_write 84 = .ok (.return_, 1) := by decide +kernel
theorem d_C_add_0 : decode b_C_add 0 = .ok (.aload_n 0, 1) := by decide +kernel
theorem d_C_add_1 : decode b_C_add 1 = .ok (.getfield 31, 3) := by decide +kernel
theorem d_C_add_4 : decode b_C_add 4 = .ok (.bipush 30, 2) := by decide +kernel
theorem d_C_add_6 : decode b_C_add 6 = .ok (.if_icmp .lt 5, 3) := by decide +kernel
theorem d_C_add_9 : decode b_C_add 9 = .ok (.iconst (-1), 1) := by decide +kernel
theorem d_C_add_10 : decode b_C_add 10 = .ok (.ireturn, 1) := by decide +kernel
theorem d_C_add_11 : decode b_C_add 11 = .ok (.aload_n 0, 1) := by decide +kernel
theorem d_C_add_12 : decode b_C_add 12 = .ok (.getfield 31, 3) := by decide +kernel
theorem d_C_add_15 : decode b_C_add 15 = .ok (.istore_n 3, 1) := by decide +kernel
theorem d_C_add_16 : decode b_C_add 16 = .ok (.aload_n 0, 1) := by decide +kernel
theorem d_C_add_17 : decode b_C_add 17 = .ok (.dup, 1) := by decide +kernel
theorem d_C_add_18 : decode b_C_add 18 = .ok (.getfield 31, 3) := by decide +kernel
theorem d_C_add_21 : decode b_C_add 21 = .ok (.iconst 1, 1) := by decide +kernel
theorem d_C_add_22 : decode b_C_add 22 = .ok (.iadd, 1) := by decide +kernel
theorem d_C_add_23 : decode b_C_add 23 = .ok (.putfield 31, 3) := by decide +kernel
theorem d_C_add_26 : decode b_C_add 26 = .ok (.aload_n 0, 1) := by decide +kernel
theorem d_C_add_27 : decode b_C_add 27 = .ok (.getfield 9, 3) := by decide +kernel
theorem d_C_add_30 : decode b_C_add 30 = .ok (.iload_n 3, 1) := by decide +kernel
theorem d_C_add_31 : decode b_C_add 31 = .ok (.iload_n 1, 1) := by decide +kernel
theorem d_C_add_32 : decode b_C_add 32 = .ok (.bastore, 1) := by decide +kernel
theorem d_C_add_33 : decode b_C_add 33 = .ok (.aload_n 0, 1) := by decide +kernel
theorem d_C_add_34 : decode b_C_add 34 = .ok (.getfield 15, 3) := by decide +kernel
theorem d_C_add_37 : decode b_C_add 37 = .ok (.iload_n 3, 1) := by decide +kernel
theorem d_C_add_38 : decode b_C_add 38 = .ok (.iload_n 2, 1) := by decide +kernel
theorem d_C_add_39 : decode b_C_add 39 = .ok (.bastore, 1) := by decide +kernel
theorem d_C_add_40 : decode b_C_add 40 = .ok (.iload_n 2, 1) := by decide +kernel
theorem d_C_add_41 : decode b_C_add 41 = .ok (.ifCond .eq 13, 3) := by decide +kernel
theorem d_C_add_44 : decode b_C_add 44 = .ok (.aload_n 0, 1) := by decide +kernel
theorem d_C_add_45 : decode b_C_add 45 = .ok (.dup, 1) := by decide +kernel
theorem d_C_add_46 : decode b_C_add 46 = .ok (.getfield 35, 3) := by decide +kernel
theorem d_C_add_49 : decode b_C_add 49 = .ok (.iconst 1, 1) := by decide +kernel
theorem d_C_add_50 : decode b_C_add 50 = .ok (.iadd, 1) := by decide +kernel
theorem d_C_add_51 : decode b_C_add 51 = .ok (.putfield 35, 3) := by decide +kernel
theorem d_C_add_54 : decode b_C_add 54 = .ok (.iload_n 3, 1) := by decide +kernel
theorem d_C_add_55 : decode b_C_add 55 = .ok (.ifCond .eq 11, 3) := by decide +kernel
theorem d_C_add_58 : decode b_C_add 58 = .ok (.aload_n 0, 1) := by decide +kernel
theorem d_C_add_59 : decode b_C_add 59 = .ok (.iload_n 3, 1) := by decide +kernel
theorem d_C_add_60 : decode b_C_add 60 = .ok (.iconst 0, 1) := by decide +kernel
theorem d_C_add_61 : decode b_C_add 61 = .ok (.iconst 0, 1) := by decide +kernel
theorem d_C_add_62 : decode b_C_add 62 = .ok (.iconst (-1), 1) := by decide +kernel
theorem d_C_add_63 : decode b_C_add 63 = .ok (.invokevirtual 54, 3) := by decide +kernel
theorem d_C_add_66 : decode b_C_add 66 = .ok (.iload_n 3, 1) := by decide +kernel
theorem d_C_add_67 : decode b_C_add 67 = .ok (.ireturn, 1) := by decide +kernel
theorem d_C_newest_0 : decode b_C_newest 0 = .ok (.aload_n 0, 1) := by decide +kernel
theorem d_C_newest_1 : decode b_C_newest 1 = .ok (.getfield 31, 3) := by decide +kernel
theorem d_C_newest_4 : decode b_C_newest 4 = .ok (.iconst 1, 1) := by decide +kernel
theorem d_C_newest_5 : decode b_C_newest 5 = .ok (.isub, 1) := by decide +kernel
theorem d_C_newest_6 : decode b_C_newest 6 = .ok (.ireturn, 1) := by decide +kernel
theorem d_C_isFace_0 : decode b_C_isFace 0 = .ok (.aload_n 0, 1) := by decide +kernel
theorem d_C_isFace_1 : decode b_C_isFace 1 = .ok (.iload_n 1, 1) := by decide +kernel
theorem d_C_isFace_2 : decode b_C_isFace 2 = .ok (.invokevirtual 50, 3) := by decide +kernel
theorem d_C_isFace_5 : decode b_C_isFace 5 = .ok (.ifCond .eq 16, 3) := by decide +kernel
theorem d_C_isFace_8 : decode b_C_isFace 8 = .ok (.aload_n 0, 1) := by decide +kernel
theorem d_C_isFace_9 : decode b_C_isFace 9 = .ok (.getfield 9, 3) := by decide +kernel
theorem d_C_isFace_12 : decode b_C_isFace 12 = .ok (.iload_n 1, 1) := by decide +kernel
theorem d_C_isFace_13 : decode b_C_isFace 13 = .ok (.baload, 1) := by decide +kernel
theorem d_C_isFace_14 : decode b_C_isFace 14 = .ok (.ifCond .eq 7, 3) := by decide +kernel
theorem d_C_isFace_17 : decode b_C_isFace 17 = .ok (.iconst 1, 1) := by decide +kernel
theorem d_C_isFace_18 : decode b_C_isFace 18 = .ok (.goto 4, 3) := by decide +kernel
theorem d_C_isFace_21 : decode b_C_isFace 21 = .ok (.iconst 0, 1) := by decide +kernel
theorem d_C_isFace_22 : decode b_C_isFace 22 = .ok (.ireturn, 1) := by decide +kernel
theorem d_C_countDirect_0 : decode b_C_countDirect 0 = .ok (.aload_n 0, 1) := by decide +kernel
theorem d_C_countDirect_1 : decode b_C_countDirect 1 = .ok (.iload_n 1, 1) := by decide +kernel
theorem d_C_countDirect_2 : decode b_C_countDirect 2 = .ok (.invokevirtual 50, 3) := by decide +kernel
theorem d_C_countDirect_5 : decode b_C_countDirect 5 = .ok (.ifCond .eq 12, 3) := by decide +kernel
theorem d_C_countDirect_8 : decode b_C_countDirect 8 = .ok (.aload_n 0, 1) := by decide +kernel
theorem d_C_countDirect_9 : decode b_C_countDirect 9 = .ok (.getfield 22, 3) := by decide +kernel
theorem d_C_countDirect_12 : decode b_C_countDirect 12 = .ok (.iload_n 1, 1) := by decide +kernel
theorem d_C_countDirect_13 : decode b_C_countDirect 13 = .ok (.iaload, 1) := by decide +kernel
theorem d_C_countDirect_14 : decode b_C_countDirect 14 = .ok (.goto 4, 3) := by decide +kernel
theorem d_C_countDirect_17 : decode b_C_countDirect 17 = .ok (.iconst 0, 1) := by decide +kernel
theorem d_C_countDirect_18 : decode b_C_countDirect 18 = .ok (.ireturn, 1) := by decide +kernel
theorem d_C_put_0 : decode b_C_put 0 = .ok (.aload_n 0, 1) := by decide +kernel
theorem d_C_put_1 : decode b_C_put 1 = .ok (.invokevirtual 58, 3) := by decide +kernel
theorem d_C_put_4 : decode b_C_put 4 = .ok (.istore_n 3, 1) := by decide +kernel
theorem d_C_put_5 : decode b_C_put 5 = .ok (.aload_n 0, 1) := by decide +kernel
theorem d_C_put_6 : decode b_C_put 6 = .ok (.iload_n 1, 1) := by decide +kernel
theorem d_C_put_7 : decode b_C_put 7 = .ok (.invokevirtual 62, 3) := by decide +kernel
theorem d_C_put_10 : decode b_C_put 10 = .ok (.ifCond .eq 11, 3) := by decide +kernel
theorem d_C_put_13 : decode b_C_put 13 = .ok (.aload_n 0, 1) := by decide +kernel
theorem d_C_put_14 : decode b_C_put 14 = .ok (.iload_n 3, 1) := by decide +kernel
theorem d_C_put_15 : decode b_C_put 15 = .ok (.invokevirtual 72, 3) := by decide +kernel
theorem d_C_put_18 : decode b_C_put 18 = .ok (.goto 4, 3) := by decide +kernel
theorem d_C_put_21 : decode b_C_put 21 = .ok (.iconst 0, 1) := by decide +kernel
theorem d_C_put_22 : decode b_C_put 22 = .ok (.istore 4, 2) := by decide +kernel
theorem d_C_put_24 : decode b_C_put 24 = .ok (.aload_n 0, 1) := by decide +kernel
theorem d_C_put_25 : decode b_C_put 25 = .ok (.iload_n 3, 1) := by decide +kernel
theorem d_C_put_26 : decode b_C_put 26 = .ok (.iload 4, 2) := by decide +kernel
theorem d_C_put_28 : decode b_C_put 28 = .ok (.iload_n 1, 1) := by decide +kernel
theorem d_C_put_29 : decode b_C_put 29 = .ok (.iload_n 2, 1) := by decide +kernel
theorem d_C_put_30 : decode b_C_put 30 = .ok (.invokevirtual 54, 3) := by decide +kernel
theorem d_C_put_33 : decode b_C_put 33 = .ok (.aload_n 0, 1) := by decide +kernel
theorem d_C_put_34 : decode b_C_put 34 = .ok (.iload_n 3, 1) := by decide +kernel
theorem d_C_put_35 : decode b_C_put 35 = .ok (.invokevirtual 72, 3) := by decide +kernel
theorem d_C_put_38 : decode b_C_put 38 = .ok (.ireturn, 1) := by decide +kernel
theorem d_C_count_0 : decode b_C_count 0 = .ok (.aload_n 0, 1) := by decide +kernel
theorem d_C_count_1 : decode b_C_count 1 = .ok (.getfield 31, 3) := by decide +kernel
theorem d_C_count_4 : decode b_C_count 4 = .ok (.ireturn, 1) := by decide +kernel
theorem d_C_countGeneric_0 : decode b_C_countGeneric 0 = .ok (.aload_n 0, 1) := by decide +kernel
theorem d_C_countGeneric_1 : decode b_C_countGeneric 1 = .ok (.getfield 35, 3) := by decide +kernel
theorem d_C_countGeneric_4 : decode b_C_countGeneric 4 = .ok (.ireturn, 1) := by decide +kernel
theorem d_C_directAt_0 : decode b_C_directAt 0 = .ok (.aload_n 0, 1) := by decide +kernel
theorem d_C_directAt_1 : decode b_C_directAt 1 = .ok (.iload_n 1, 1) := by decide +kernel
theorem d_C_directAt_2 : decode b_C_directAt 2 = .ok (.invokevirtual 50, 3) := by decide +kernel
theorem d_C_directAt_5 : decode b_C_directAt 5 = .ok (.ifCond .eq 31, 3) := by decide +kernel
theorem d_C_directAt_8 : decode b_C_directAt 8 = .ok (.iload_n 2, 1) := by decide +kernel
theorem d_C_directAt_9 : decode b_C_directAt 9 = .ok (.ifCond .lt 27, 3) := by decide +kernel
theorem d_C_directAt_12 : decode b_C_directAt 12 = .ok (.iload_n 2, 1) := by decide +kernel
theorem d_C_directAt_13 : decode b_C_directAt 13 = .ok (.aload_n 0, 1) := by decide +kernel
theorem d_C_directAt_14 : decode b_C_directAt 14 = .ok (.getfield 22, 3) := by decide +kernel
theorem d_C_directAt_17 : decode b_C_directAt 17 = .ok (.iload_n 1, 1) := by decide +kernel
theorem d_C_directAt_18 : decode b_C_directAt 18 = .ok (.iaload, 1) := by decide +kernel
theorem d_C_directAt_19 : decode b_C_directAt 19 = .ok (.if_icmp .ge 17, 3) := by decide +kernel
theorem d_C_directAt_22 : decode b_C_directAt 22 = .ok (.aload_n 0, 1) := by decide +kernel
theorem d_C_directAt_23 : decode b_C_directAt 23 = .ok (.getfield 25, 3) := by decide +kernel
theorem d_C_directAt_26 : decode b_C_directAt 26 = .ok (.iload_n 1, 1) := by decide +kernel
theorem d_C_directAt_27 : decode b_C_directAt 27 = .ok (.bipush 30, 2) := by decide +kernel
theorem d_C_directAt_29 : decode b_C_directAt 29 = .ok (.imul, 1) := by decide +kernel
theorem d_C_directAt_30 : decode b_C_directAt 30 = .ok (.iload_n 2, 1) := by decide +kernel
theorem d_C_directAt_31 : decode b_C_directAt 31 = .ok (.iadd, 1) := by decide +kernel
theorem d_C_directAt_32 : decode b_C_directAt 32 = .ok (.iaload, 1) := by decide +kernel
theorem d_C_directAt_33 : decode b_C_directAt 33 = .ok (.goto 4, 3) := by decide +kernel
theorem d_C_directAt_36 : decode b_C_directAt 36 = .ok (.iconst (-1), 1) := by decide +kernel
theorem d_C_directAt_37 : decode b_C_directAt 37 = .ok (.ireturn, 1) := by decide +kernel
theorem d_C_isDirectly_0 : decode b_C_isDirectly 0 = .ok (.aload_n 0, 1) := by decide +kernel
theorem d_C_isDirectly_1 : decode b_C_isDirectly 1 = .ok (.iload_n 1, 1) := by decide +kernel
theorem d_C_isDirectly_2 : decode b_C_isDirectly 2 = .ok (.invokevirtual 72, 3) := by decide +kernel
theorem d_C_isDirectly_5 : decode b_C_isDirectly 5 = .ok (.istore_n 3, 1) := by decide +kernel
theorem d_C_isDirectly_6 : decode b_C_isDirectly 6 = .ok (.iconst 0, 1) := by decide +kernel
theorem d_C_isDirectly_7 : decode b_C_isDirectly 7 = .ok (.istore 4, 2) := by decide +kernel
theorem d_C_isDirectly_9 : decode b_C_isDirectly 9 = .ok (.iload 4, 2) := by decide +kernel
theorem d_C_isDirectly_11 : decode b_C_isDirectly 11 = .ok (.iload_n 3, 1) := by decide +kernel
theorem d_C_isDirectly_12 : decode b_C_isDirectly 12 = .ok (.if_icmp .ge 22, 3) := by decide +kernel
theorem d_C_isDirectly_15 : decode b_C_isDirectly 15 = .ok (.aload_n 0, 1) := by decide +kernel
theorem d_C_isDirectly_16 : decode b_C_isDirectly 16 = .ok (.iload_n 1, 1) := by decide +kernel
theorem d_C_isDirectly_17 : decode b_C_isDirectly 17 = .ok (.iload 4, 2) := by decide +kernel
theorem d_C_isDirectly_19 : decode b_C_isDirectly 19 = .ok (.invokevirtual 65, 3) := by decide +kernel
theorem d_C_isDirectly_22 : decode b_C_isDirectly 22 = .ok (.iload_n 2, 1) := by decide +kernel
theorem d_C_isDirectly_23 : decode b_C_isDirectly 23 = .ok (.if_icmp .ne 5, 3) := by decide +kernel
theorem d_C_isDirectly_26 : decode b_C_isDirectly 26 = .ok (.iconst 1, 1) := by decide +kernel
theorem d_C_isDirectly_27 : decode b_C_isDirectly 27 = .ok (.ireturn, 1) := by decide +kernel
theorem d_C_isDirectly_28 : decode b_C_isDirectly 28 = .ok (.iinc 4 1, 3) := by decide +kernel
theorem d_C_isDirectly_31 : decode b_C_isDirectly 31 = .ok (.goto (-22), 3) := by decide +kernel
theorem d_C_isDirectly_34 : decode b_C_isDirectly 34 = .ok (.iconst 0, 1) := by decide +kernel
theorem d_C_isDirectly_35 : decode b_C_isDirectly 35 = .ok (.ireturn, 1) := by decide +kernel
theorem d_C_mayGet_0 : decode b_C_mayGet 0 = .ok (.aload_n 0, 1) := by decide +kernel
theorem d_C_mayGet_1 : decode b_C_mayGet 1 = .ok (.invokevirtual 58, 3) := by decide +kernel
theorem d_C_mayGet_4 : decode b_C_mayGet 4 = .ok (.istore_n 2, 1) := by decide +kernel
theorem d_C_mayGet_5 : decode b_C_mayGet 5 = .ok (.iload_n 2, 1) := by decide +kernel
theorem d_C_mayGet_6 : decode b_C_mayGet 6 = .ok (.bipush 13, 2) := by decide +kernel
theorem d_C_mayGet_8 : decode b_C_mayGet 8 = .ok (.if_icmp .lt 8, 3) := by decide +kernel
theorem d_C_mayGet_11 : decode b_C_mayGet 11 = .ok (.iload_n 1, 1) := by decide +kernel
theorem d_C_mayGet_12 : decode b_C_mayGet 12 = .ok (.iload_n 2, 1) := by decide +kernel
theorem d_C_mayGet_13 : decode b_C_mayGet 13 = .ok (.if_icmp .ne 5, 3) := by decide +kernel
theorem d_C_mayGet_16 : decode b_C_mayGet 16 = .ok (.iconst 0, 1) := by decide +kernel
theorem d_C_mayGet_17 : decode b_C_mayGet 17 = .ok (.ireturn, 1) := by decide +kernel
theorem d_C_mayGet_18 : decode b_C_mayGet 18 = .ok (.aload_n 0, 1) := by decide +kernel
theorem d_C_mayGet_19 : decode b_C_mayGet 19 = .ok (.iload_n 1, 1) := by decide +kernel
theorem d_C_mayGet_20 : decode b_C_mayGet 20 = .ok (.invokevirtual 62, 3) := by decide +kernel
theorem d_C_mayGet_23 : decode b_C_mayGet 23 = .ok (.ifCond .ne 7, 3) := by decide +kernel
theorem d_C_mayGet_26 : decode b_C_mayGet 26 = .ok (.iconst 1, 1) := by decide +kernel
theorem d_C_mayGet_27 : decode b_C_mayGet 27 = .ok (.goto 4, 3) := by decide +kernel
theorem d_C_mayGet_30 : decode b_C_mayGet 30 = .ok (.iconst 0, 1) := by decide +kernel
theorem d_C_mayGet_31 : decode b_C_mayGet 31 = .ok (.istore_n 3, 1) := by decide +kernel
theorem d_C_mayGet_32 : decode b_C_mayGet 32 = .ok (.iload_n 3, 1) := by decide +kernel
theorem d_C_mayGet_33 : decode b_C_mayGet 33 = .ok (.ifCond .eq 22, 3) := by decide +kernel
theorem d_C_mayGet_36 : decode b_C_mayGet 36 = .ok (.aload_n 0, 1) := by decide +kernel
theorem d_C_mayGet_37 : decode b_C_mayGet 37 = .ok (.iload_n 2, 1) := by decide +kernel
theorem d_C_mayGet_38 : decode b_C_mayGet 38 = .ok (.invokevirtual 62, 3) := by decide +kernel
theorem d_C_mayGet_41 : decode b_C_mayGet 41 = .ok (.ifCond .ne 12, 3) := by decide +kernel
theorem d_C_mayGet_44 : decode b_C_mayGet 44 = .ok (.aload_n 0, 1) := by decide +kernel
theorem d_C_mayGet_45 : decode b_C_mayGet 45 = .ok (.iload_n 2, 1) := by decide +kernel
theorem d_C_mayGet_46 : decode b_C_mayGet 46 = .ok (.iconst 0, 1) := by decide +kernel
theorem d_C_mayGet_47 : decode b_C_mayGet 47 = .ok (.invokevirtual 65, 3) := by decide +kernel
theorem d_C_mayGet_50 : decode b_C_mayGet 50 = .ok (.ifCond .eq 5, 3) := by decide +kernel
theorem d_C_mayGet_53 : decode b_C_mayGet 53 = .ok (.iconst 0, 1) := by decide +kernel
theorem d_C_mayGet_54 : decode b_C_mayGet 54 = .ok (.ireturn, 1) := by decide +kernel
theorem d_C_mayGet_55 : decode b_C_mayGet 55 = .ok (.aload_n 0, 1) := by decide +kernel
theorem d_C_mayGet_56 : decode b_C_mayGet 56 = .ok (.iload_n 2, 1) := by decide +kernel
theorem d_C_mayGet_57 : decode b_C_mayGet 57 = .ok (.iload_n 1, 1) := by decide +kernel
theorem d_C_mayGet_58 : decode b_C_mayGet 58 = .ok (.invokevirtual 68, 3) := by decide +kernel
theorem d_C_mayGet_61 : decode b_C_mayGet 61 = .ok (.ifCond .ne 7, 3) := by decide +kernel
theorem d_C_mayGet_64 : decode b_C_mayGet 64 = .ok (.iconst 1, 1) := by decide +kernel
theorem d_C_mayGet_65 : decode b_C_mayGet 65 = .ok (.goto 4, 3) := by decide +kernel
theorem d_C_mayGet_68 : decode b_C_mayGet 68 = .ok (.iconst 0, 1) := by decide +kernel
theorem d_C_mayGet_69 : decode b_C_mayGet 69 = .ok (.ireturn, 1) := by decide +kernel
theorem d_C_isGeneric_0 : decode b_C_isGeneric 0 = .ok (.aload_n 0, 1) := by decide +kernel
theorem d_C_isGeneric_1 : decode b_C_isGeneric 1 = .ok (.iload_n 1, 1) := by decide +kernel
theorem d_C_isGeneric_2 : decode b_C_isGeneric 2 = .ok (.invokevirtual 50, 3) := by decide +kernel
theorem d_C_isGeneric_5 : decode b_C_isGeneric 5 = .ok (.ifCond .eq 16, 3) := by decide +kernel
theorem d_C_isGeneric_8 : decode b_C_isGeneric 8 = .ok (.aload_n 0, 1) := by decide +kernel
theorem d_C_isGeneric_9 : decode b_C_isGeneric 9 = .ok (.getfield 15, 3) := by decide +kernel
theorem d_C_isGeneric_12 : decode b_C_isGeneric 12 = .ok (.iload_n 1, 1) := by decide +kernel
theorem d_C_isGeneric_13 : decode b_C_isGeneric 13 = .ok (.baload, 1) := by decide +kernel
theorem d_C_isGeneric_14 : decode b_C_isGeneric 14 = .ok (.ifCond .eq 7, 3) := by decide +kernel
theorem d_C_isGeneric_17 : decode b_C_isGeneric 17 = .ok (.iconst 1, 1) := by decide +kernel
theorem d_C_isGeneric_18 : decode b_C_isGeneric 18 = .ok (.goto 4, 3) := by decide +kernel
theorem d_C_isGeneric_21 : decode b_C_isGeneric 21 = .ok (.iconst 0, 1) := by decide +kernel
theorem d_C_isGeneric_22 : decode b_C_isGeneric 22 = .ok (.ireturn, 1) := by decide +kernel
theorem d_C_aboveOf_0 : decode b_C_aboveOf 0 = .ok (.aload_n 0, 1) := by decide +kernel
theorem d_C_aboveOf_1 : decode b_C_aboveOf 1 = .ok (.iload_n 1, 1) := by decide +kernel
theorem d_C_aboveOf_2 : decode b_C_aboveOf 2 = .ok (.invokevirtual 50, 3) := by decide +kernel
theorem d_C_aboveOf_5 : decode b_C_aboveOf 5 = .ok (.ifCond .eq 12, 3) := by decide +kernel
theorem d_C_aboveOf_8 : decode b_C_aboveOf 8 = .ok (.aload_n 0, 1) := by decide +kernel
theorem d_C_aboveOf_9 : decode b_C_aboveOf 9 = .ok (.getfield 18, 3) := by decide +kernel
theorem d_C_aboveOf_12 : decode b_C_aboveOf 12 = .ok (.iload_n 1, 1) := by decide +kernel
theorem d_C_aboveOf_13 : decode b_C_aboveOf 13 = .ok (.iaload, 1) := by decide +kernel
theorem d_C_aboveOf_14 : decode b_C_aboveOf 14 = .ok (.goto 4, 3) := by decide +kernel
theorem d_C_aboveOf_17 : decode b_C_aboveOf 17 = .ok (.iconst 0, 1) := by decide +kernel
theorem d_C_aboveOf_18 : decode b_C_aboveOf 18 = .ok (.ireturn, 1) := by decide +kernel
theorem d_C_firstToward_0 : decode b_C_firstToward 0 = .ok (.aload_n 0, 1) := by decide +kernel
theorem d_C_firstToward_1 : decode b_C_firstToward 1 = .ok (.iload_n 1, 1) := by decide +kernel
theorem d_C_firstToward_2 : decode b_C_firstToward 2 = .ok (.invokevirtual 50, 3) := by decide +kernel
theorem d_C_firstToward_5 : decode b_C_firstToward 5 = .ok (.ifCond .ne 5, 3) := by decide +kernel
theorem d_C_firstToward_8 : decode b_C_firstToward 8 = .ok (.iconst (-1), 1) := by decide +kernel
theorem d_C_firstToward_9 : decode b_C_firstToward 9 = .ok (.ireturn, 1) := by decide +kernel
theorem d_C_firstToward_10 : decode b_C_firstToward 10 = .ok (.iconst 0, 1) := by decide +kernel
theorem d_C_firstToward_11 : decode b_C_firstToward 11 = .ok (.istore_n 3, 1) := by decide +kernel
theorem d_C_firstToward_12 : decode b_C_firstToward 12 = .ok (.iload_n 3, 1) := by decide +kernel
theorem d_C_firstToward_13 : decode b_C_firstToward 13 = .ok (.aload_n 0, 1) := by decide +kernel
theorem d_C_firstToward_14 : decode b_C_firstToward 14 = .ok (.getfield 22, 3) := by decide +kernel
theorem d_C_firstToward_17 : decode b_C_firstToward 17 = .ok (.iload_n 1, 1) := by decide +kernel
theorem d_C_firstToward_18 : decode b_C_firstToward 18 = .ok (.iaload, 1) := by decide +kernel
theorem d_C_firstToward_19 : decode b_C_firstToward 19 = .ok (.if_icmp .ge 53, 3) := by decide +kernel
theorem d_C_firstToward_22 : decode b_C_firstToward 22 = .ok (.aload_n 0, 1) := by decide +kernel
theorem d_C_firstToward_23 : decode b_C_firstToward 23 = .ok (.getfield 25, 3) := by decide +kernel
theorem d_C_firstToward_26 : decode b_C_firstToward 26 = .ok (.iload_n 1, 1) := by decide +kernel
theorem d_C_firstToward_27 : decode b_C_firstToward 27 = .ok (.bipush 30, 2) := by decide +kernel
theorem d_C_firstToward_29 : decode b_C_firstToward 29 = .ok (.imul, 1) := by decide +kernel
theorem d_C_firstToward_30 : decode b_C_firstToward 30 = .ok (.iload_n 3, 1) := by decide +kernel
theorem d_C_firstToward_31 : decode b_C_firstToward 31 = .ok (.iadd, 1) := by decide +kernel
theorem d_C_firstToward_32 : decode b_C_firstToward 32 = .ok (.iaload, 1) := by decide +kernel
theorem d_C_firstToward_33 : decode b_C_firstToward 33 = .ok (.istore 4, 2) := by decide +kernel
theorem d_C_firstToward_35 : decode b_C_firstToward 35 = .ok (.iload 4, 2) := by decide +kernel
theorem d_C_firstToward_37 : decode b_C_firstToward 37 = .ok (.iload_n 2, 1) := by decide +kernel
theorem d_C_firstToward_38 : decode b_C_firstToward 38 = .ok (.if_icmp .eq 26, 3) := by decide +kernel
theorem d_C_firstToward_41 : decode b_C_firstToward 41 = .ok (.aload_n 0, 1) := by decide +kernel
theorem d_C_firstToward_42 : decode b_C_firstToward 42 = .ok (.iload 4, 2) := by decide +kernel
theorem d_C_firstToward_44 : decode b_C_firstToward 44 = .ok (.invokevirtual 50, 3) := by decide +kernel
theorem d_C_firstToward_47 : decode b_C_firstToward 47 = .ok (.ifCond .eq 19, 3) := by decide +kernel
theorem d_C_firstToward_50 : decode b_C_firstToward 50 = .ok (.aload_n 0, 1) := by decide +kernel
theorem d_C_firstToward_51 : decode b_C_firstToward 51 = .ok (.getfield 18, 3) := by decide +kernel
theorem d_C_firstToward_54 : decode b_C_firstToward 54 = .ok (.iload 4, 2) := by decide +kernel
theorem d_C_firstToward_56 : decode b_C_firstToward 56 = .ok (.iaload, 1) := by decide +kernel
theorem d_C_firstToward_57 : decode b_C_firstToward 57 = .ok (.iload_n 2, 1) := by decide +kernel
theorem d_C_firstToward_58 : decode b_C_firstToward 58 = .ok (.invokestatic 81, 3) := by decide +kernel
theorem d_C_firstToward_61 : decode b_C_firstToward 61 = .ok (.ifCond .eq 5, 3) := by decide +kernel
theorem d_C_firstToward_64 : decode b_C_firstToward 64 = .ok (.iload_n 3, 1) := by decide +kernel
theorem d_C_firstToward_65 : decode b_C_firstToward 65 = .ok (.ireturn, 1) := by decide +kernel
theorem d_C_firstToward_66 : decode b_C_firstToward 66 = .ok (.iinc 3 1, 3) := by decide +kernel
theorem d_C_firstToward_69 : decode b_C_firstToward 69 = .ok (.goto (-57), 3) := by decide +kernel
theorem d_C_firstToward_72 : decode b_C_firstToward 72 = .ok (.iconst (-1), 1) := by decide +kernel
theorem d_C_firstToward_73 : decode b_C_firstToward 73 = .ok (.ireturn, 1) := by decide +kernel
theorem d_C_toldAt_0 : decode b_C_toldAt 0 = .ok (.aload_n 0, 1) := by decide +kernel
theorem d_C_toldAt_1 : decode b_C_toldAt 1 = .ok (.iload_n 1, 1) := by decide +kernel
theorem d_C_toldAt_2 : decode b_C_toldAt 2 = .ok (.invokevirtual 50, 3) := by decide +kernel
theorem d_C_toldAt_5 : decode b_C_toldAt 5 = .ok (.ifCond .eq 31, 3) := by decide +kernel
theorem d_C_toldAt_8 : decode b_C_toldAt 8 = .ok (.iload_n 2, 1) := by decide +kernel
theorem d_C_toldAt_9 : decode b_C_toldAt 9 = .ok (.ifCond .lt 27, 3) := by decide +kernel
theorem d_C_toldAt_12 : decode b_C_toldAt 12 = .ok (.iload_n 2, 1) := by decide +kernel
theorem d_C_toldAt_13 : decode b_C_toldAt 13 = .ok (.aload_n 0, 1) := by decide +kernel
theorem d_C_toldAt_14 : decode b_C_toldAt 14 = .ok (.getfield 22, 3) := by decide +kernel
theorem d_C_toldAt_17 : decode b_C_toldAt 17 = .ok (.iload_n 1, 1) := by decide +kernel
theorem d_C_toldAt_18 : decode b_C_toldAt 18 = .ok (.iaload, 1) := by decide +kernel
theorem d_C_toldAt_19 : decode b_C_toldAt 19 = .ok (.if_icmp .ge 17, 3) := by decide +kernel
theorem d_C_toldAt_22 : decode b_C_toldAt 22 = .ok (.aload_n 0, 1) := by decide +kernel
theorem d_C_toldAt_23 : decode b_C_toldAt 23 = .ok (.getfield 28, 3) := by decide +kernel
theorem d_C_toldAt_26 : decode b_C_toldAt 26 = .ok (.iload_n 1, 1) := by decide +kernel
theorem d_C_toldAt_27 : decode b_C_toldAt 27 = .ok (.bipush 30, 2) := by decide +kernel
theorem d_C_toldAt_29 : decode b_C_toldAt 29 = .ok (.imul, 1) := by decide +kernel
theorem d_C_toldAt_30 : decode b_C_toldAt 30 = .ok (.iload_n 2, 1) := by decide +kernel
theorem d_C_toldAt_31 : decode b_C_toldAt 31 = .ok (.iadd, 1) := by decide +kernel
theorem d_C_toldAt_32 : decode b_C_toldAt 32 = .ok (.iaload, 1) := by decide +kernel
theorem d_C_toldAt_33 : decode b_C_toldAt 33 = .ok (.goto 4, 3) := by decide +kernel
theorem d_C_toldAt_36 : decode b_C_toldAt 36 = .ok (.iconst (-1), 1) := by decide +kernel
theorem d_C_toldAt_37 : decode b_C_toldAt 37 = .ok (.ireturn, 1) := by decide +kernel
theorem d_C_passOn_0 : decode b_C_passOn 0 = .ok (.iload_n 0, 1) := by decide +kernel
theorem d_C_passOn_1 : decode b_C_passOn 1 = .ok (.bipush (-2), 2) := by decide +kernel
theorem d_C_passOn_3 : decode b_C_passOn 3 = .ok (.if_icmp .ne 5, 3) := by decide +kernel
theorem d_C_passOn_6 : decode b_C_passOn 6 = .ok (.iload_n 1, 1) := by decide +kernel
theorem d_C_passOn_7 : decode b_C_passOn 7 = .ok (.ireturn, 1) := by decide +kernel
theorem d_C_passOn_8 : decode b_C_passOn 8 = .ok (.iload_n 0, 1) := by decide +kernel
theorem d_C_passOn_9 : decode b_C_passOn 9 = .ok (.iconst (-1), 1) := by decide +kernel
theorem d_C_passOn_10 : decode b_C_passOn 10 = .ok (.if_icmp .ne 7, 3) := by decide +kernel
theorem d_C_passOn_13 : decode b_C_passOn 13 = .ok (.iconst 0, 1) := by decide +kernel
theorem d_C_passOn_14 : decode b_C_passOn 14 = .ok (.goto 8, 3) := by decide +kernel
theorem d_C_passOn_17 : decode b_C_passOn 17 = .ok (.iconst 1, 1) := by decide +kernel
theorem d_C_passOn_18 : decode b_C_passOn 18 = .ok (.iload_n 0, 1) := by decide +kernel
theorem d_C_passOn_19 : decode b_C_passOn 19 = .ok (.invokestatic 105, 3) := by decide +kernel
theorem d_C_passOn_22 : decode b_C_passOn 22 = .ok (.ireturn, 1) := by decide +kernel
theorem d_C_climb_0 : decode b_C_climb 0 = .ok (.iload_n 1, 1) := by decide +kernel
theorem d_C_climb_1 : decode b_C_climb 1 = .ok (.istore 4, 2) := by decide +kernel
theorem d_C_climb_3 : decode b_C_climb 3 = .ok (.iload_n 2, 1) := by decide +kernel
theorem d_C_climb_4 : decode b_C_climb 4 = .ok (.istore 5, 2) := by decide +kernel
theorem d_C_climb_6 : decode b_C_climb 6 = .ok (.iconst 0, 1) := by decide +kernel
theorem d_C_climb_7 : decode b_C_climb 7 = .ok (.istore 6, 2) := by decide +kernel
theorem d_C_climb_9 : decode b_C_climb 9 = .ok (.iload 6, 2) := by decide +kernel
theorem d_C_climb_11 : decode b_C_climb 11 = .ok (.bipush 30, 2) := by decide +kernel
theorem d_C_climb_13 : decode b_C_climb 13 = .ok (.if_icmp .ge 57, 3) := by decide +kernel
theorem d_C_climb_16 : decode b_C_climb 16 = .ok (.iload 4, 2) := by decide +kernel
theorem d_C_climb_18 : decode b_C_climb 18 = .ok (.iload_n 3, 1) := by decide +kernel
theorem d_C_climb_19 : decode b_C_climb 19 = .ok (.if_icmp .eq 51, 3) := by decide +kernel
theorem d_C_climb_22 : decode b_C_climb 22 = .ok (.aload_n 0, 1) := by decide +kernel
theorem d_C_climb_23 : decode b_C_climb 23 = .ok (.iload 4, 2) := by decide +kernel
theorem d_C_climb_25 : decode b_C_climb 25 = .ok (.iload_n 3, 1) := by decide +kernel
theorem d_C_climb_26 : decode b_C_climb 26 = .ok (.invokevirtual 99, 3) := by decide +kernel
theorem d_C_climb_29 : decode b_C_climb 29 = .ok (.istore 7, 2) := by decide +kernel
theorem d_C_climb_31 : decode b_C_climb 31 = .ok (.iload 7, 2) := by decide +kernel
theorem d_C_climb_33 : decode b_C_climb 33 = .ok (.iconst (-1), 1) := by decide +kernel
theorem d_C_climb_34 : decode b_C_climb 34 = .ok (.if_icmp .ne 5, 3) := by decide +kernel
theorem d_C_climb_37 : decode b_C_climb 37 = .ok (.iconst (-1), 1) := by decide +kernel
theorem d_C_climb_38 : decode b_C_climb 38 = .ok (.ireturn, 1) := by decide +kernel
theorem d_C_climb_39 : decode b_C_climb 39 = .ok (.aload_n 0, 1) := by decide +kernel
theorem d_C_climb_40 : decode b_C_climb 40 = .ok (.iload 4, 2) := by decide +kernel
theorem d_C_climb_42 : decode b_C_climb 42 = .ok (.iload 7, 2) := by decide +kernel
theorem d_C_climb_44 : decode b_C_climb 44 = .ok (.invokevirtual 102, 3) := by decide +kernel
theorem d_C_climb_47 : decode b_C_climb 47 = .ok (.iload 5, 2) := by decide +kernel
theorem d_C_climb_49 : decode b_C_climb 49 = .ok (.invokestatic 91, 3) := by decide +kernel
theorem d_C_climb_52 : decode b_C_climb 52 = .ok (.istore 5, 2) := by decide +kernel
theorem d_C_climb_54 : decode b_C_climb 54 = .ok (.aload_n 0, 1) := by decide +kernel
theorem d_C_climb_55 : decode b_C_climb 55 = .ok (.iload 4, 2) := by decide +kernel
theorem d_C_climb_57 : decode b_C_climb 57 = .ok (.iload 7, 2) := by decide +kernel
theorem d_C_climb_59 : decode b_C_climb 59 = .ok (.invokevirtual 65, 3) := by decide +kernel
theorem d_C_climb_62 : decode b_C_climb 62 = .ok (.istore 4, 2) := by decide +kernel
theorem d_C_climb_64 : decode b_C_climb 64 = .ok (.iinc 6 1, 3) := by decide +kernel
theorem d_C_climb_67 : decode b_C_climb 67 = .ok (.goto (-58), 3) := by decide +kernel
theorem d_C_climb_70 : decode b_C_climb 70 = .ok (.iload 4, 2) := by decide +kernel
theorem d_C_climb_72 : decode b_C_climb 72 = .ok (.iload_n 3, 1) := by decide +kernel
theorem d_C_climb_73 : decode b_C_climb 73 = .ok (.if_icmp .ne 8, 3) := by decide +kernel
theorem d_C_climb_76 : decode b_C_climb 76 = .ok (.iload 5, 2) := by decide +kernel
theorem d_C_climb_78 : decode b_C_climb 78 = .ok (.goto 4, 3) := by decide +kernel
theorem d_C_climb_81 : decode b_C_climb 81 = .ok (.iconst (-1), 1) := by decide +kernel
theorem d_C_climb_82 : decode b_C_climb 82 = .ok (.ireturn, 1) := by decide +kernel
theorem d_C_clashes_0 : decode b_C_clashes 0 = .ok (.aload_n 0, 1) := by decide +kernel
theorem d_C_clashes_1 : decode b_C_clashes 1 = .ok (.invokevirtual 58, 3) := by decide +kernel
theorem d_C_clashes_4 : decode b_C_clashes 4 = .ok (.istore_n 3, 1) := by decide +kernel
theorem d_C_clashes_5 : decode b_C_clashes 5 = .ok (.aload_n 0, 1) := by decide +kernel
theorem d_C_clashes_6 : decode b_C_clashes 6 = .ok (.iload_n 3, 1) := by decide +kernel
theorem d_C_clashes_7 : decode b_C_clashes 7 = .ok (.invokevirtual 75, 3) := by decide +kernel
theorem d_C_clashes_10 : decode b_C_clashes 10 = .ok (.aload_n 0, 1) := by decide +kernel
theorem d_C_clashes_11 : decode b_C_clashes 11 = .ok (.iload_n 1, 1) := by decide +kernel
theorem d_C_clashes_12 : decode b_C_clashes 12 = .ok (.invokevirtual 78, 3) := by decide +kernel
theorem d_C_clashes_15 : decode b_C_clashes 15 = .ok (.iand, 1) := by decide +kernel
theorem d_C_clashes_16 : decode b_C_clashes 16 = .ok (.istore 4, 2) := by decide +kernel
theorem d_C_clashes_18 : decode b_C_clashes 18 = .ok (.iconst 0, 1) := by decide +kernel
theorem d_C_clashes_19 : decode b_C_clashes 19 = .ok (.istore 5, 2) := by decide +kernel
theorem d_C_clashes_21 : decode b_C_clashes 21 = .ok (.iload 5, 2) := by decide +kernel
theorem d_C_clashes_23 : decode b_C_clashes 23 = .ok (.aload_n 0, 1) := by decide +kernel
theorem d_C_clashes_24 : decode b_C_clashes 24 = .ok (.getfield 31, 3) := by decide +kernel
theorem d_C_clashes_27 : decode b_C_clashes 27 = .ok (.if_icmp .ge 55, 3) := by decide +kernel
theorem d_C_clashes_30 : decode b_C_clashes 30 = .ok (.iload 4, 2) := by decide +kernel
theorem d_C_clashes_32 : decode b_C_clashes 32 = .ok (.iload 5, 2) := by decide +kernel
theorem d_C_clashes_34 : decode b_C_clashes 34 = .ok (.invokestatic 81, 3) := by decide +kernel
theorem d_C_clashes_37 : decode b_C_clashes 37 = .ok (.ifCond .eq 39, 3) := by decide +kernel
theorem d_C_clashes_40 : decode b_C_clashes 40 = .ok (.aload_n 0, 1) := by decide +kernel
theorem d_C_clashes_41 : decode b_C_clashes 41 = .ok (.iload 5, 2) := by decide +kernel
theorem d_C_clashes_43 : decode b_C_clashes 43 = .ok (.invokevirtual 84, 3) := by decide +kernel
theorem d_C_clashes_46 : decode b_C_clashes 46 = .ok (.ifCond .eq 30, 3) := by decide +kernel
theorem d_C_clashes_49 : decode b_C_clashes 49 = .ok (.aload_n 0, 1) := by decide +kernel
theorem d_C_clashes_50 : decode b_C_clashes 50 = .ok (.iload_n 3, 1) := by decide +kernel
theorem d_C_clashes_51 : decode b_C_clashes 51 = .ok (.bipush (-2), 2) := by decide +kernel
theorem d_C_clashes_53 : decode b_C_clashes 53 = .ok (.iload 5, 2) := by decide +kernel
theorem d_C_clashes_55 : decode b_C_clashes 55 = .ok (.invokevirtual 87, 3) := by decide +kernel
theorem d_C_clashes_58 : decode b_C_clashes 58 = .ok (.aload_n 0, 1) := by decide +kernel
theorem d_C_clashes_59 : decode b_C_clashes 59 = .ok (.iload_n 1, 1) := by decide +kernel
theorem d_C_clashes_60 : decode b_C_clashes 60 = .ok (.iload_n 2, 1) := by decide +kernel
theorem d_C_clashes_61 : decode b_C_clashes 61 = .ok (.bipush (-2), 2) := by decide +kernel
theorem d_C_clashes_63 : decode b_C_clashes 63 = .ok (.invokestatic 91, 3) := by decide +kernel
theorem d_C_clashes_66 : decode b_C_clashes 66 = .ok (.iload 5, 2) := by decide +kernel
theorem d_C_clashes_68 : decode b_C_clashes 68 = .ok (.invokevirtual 87, 3) := by decide +kernel
theorem d_C_clashes_71 : decode b_C_clashes 71 = .ok (.if_icmp .eq 5, 3) := by decide +kernel
theorem d_C_clashes_74 : decode b_C_clashes 74 = .ok (.iconst 1, 1) := by decide +kernel
theorem d_C_clashes_75 : decode b_C_clashes 75 = .ok (.ireturn, 1) := by decide +kernel
theorem d_C_clashes_76 : decode b_C_clashes 76 = .ok (.iinc 5 1, 3) := by decide +kernel
theorem d_C_clashes_79 : decode b_C_clashes 79 = .ok (.goto (-58), 3) := by decide +kernel
theorem d_C_clashes_82 : decode b_C_clashes 82 = .ok (.iconst 0, 1) := by decide +kernel
theorem d_C_clashes_83 : decode b_C_clashes 83 = .ok (.ireturn, 1) := by decide +kernel
theorem d_C_leastOf_0 : decode b_C_leastOf 0 = .ok (.iconst 0, 1) := by decide +kernel
theorem d_C_leastOf_1 : decode b_C_leastOf 1 = .ok (.istore_n 2, 1) := by decide +kernel
theorem d_C_leastOf_2 : decode b_C_leastOf 2 = .ok (.iconst 0, 1) := by decide +kernel
theorem d_C_leastOf_3 : decode b_C_leastOf 3 = .ok (.istore_n 3, 1) := by decide +kernel
theorem d_C_leastOf_4 : decode b_C_leastOf 4 = .ok (.iload_n 3, 1) := by decide +kernel
theorem d_C_leastOf_5 : decode b_C_leastOf 5 = .ok (.aload_n 0, 1) := by decide +kernel
theorem d_C_leastOf_6 : decode b_C_leastOf 6 = .ok (.getfield 31, 3) := by decide +kernel
theorem d_C_leastOf_9 : decode b_C_leastOf 9 = .ok (.if_icmp .ge 26, 3) := by decide +kernel
theorem d_C_leastOf_12 : decode b_C_leastOf 12 = .ok (.iload_n 1, 1) := by decide +kernel
theorem d_C_leastOf_13 : decode b_C_leastOf 13 = .ok (.iload_n 3, 1) := by decide +kernel
theorem d_C_leastOf_14 : decode b_C_leastOf 14 = .ok (.invokestatic 81, 3) := by decide +kernel
theorem d_C_leastOf_17 : decode b_C_leastOf 17 = .ok (.ifCond .eq 12, 3) := by decide +kernel
theorem d_C_leastOf_20 : decode b_C_leastOf 20 = .ok (.iload_n 2, 1) := by decide +kernel
theorem d_C_leastOf_21 : decode b_C_leastOf 21 = .ok (.aload_n 0, 1) := by decide +kernel
theorem d_C_leastOf_22 : decode b_C_leastOf 22 = .ok (.getfield 18, 3) := by decide +kernel
theorem d_C_leastOf_25 : decode b_C_leastOf 25 = .ok (.iload_n 3, 1) := by decide +kernel
theorem d_C_leastOf_26 : decode b_C_leastOf 26 = .ok (.iaload, 1) := by decide +kernel
theorem d_C_leastOf_27 : decode b_C_leastOf 27 = .ok (.ior, 1) := by decide +kernel
theorem d_C_leastOf_28 : decode b_C_leastOf 28 = .ok (.istore_n 2, 1) := by decide +kernel
theorem d_C_leastOf_29 : decode b_C_leastOf 29 = .ok (.iinc 3 1, 3) := by decide +kernel
theorem d_C_leastOf_32 : decode b_C_leastOf 32 = .ok (.goto (-28), 3) := by decide +kernel
theorem d_C_leastOf_35 : decode b_C_leastOf 35 = .ok (.iload_n 1, 1) := by decide +kernel
theorem d_C_leastOf_36 : decode b_C_leastOf 36 = .ok (.iload_n 2, 1) := by decide +kernel
theorem d_C_leastOf_37 : decode b_C_leastOf 37 = .ok (.iconst (-1), 1) := by decide +kernel
theorem d_C_leastOf_38 : decode b_C_leastOf 38 = .ok (.ixor, 1) := by decide +kernel
theorem d_C_leastOf_39 : decode b_C_leastOf 39 = .ok (.iand, 1) := by decide +kernel
theorem d_C_leastOf_40 : decode b_C_leastOf 40 = .ok (.ireturn, 1) := by decide +kernel
-- part 04.decJ.lean.txt
theorem d_J_bitCount_0 : decode b_J_bitCount 0 = .ok (.iload_n 0, 1) := by decide +kernel
theorem d_J_bitCount_1 : decode b_J_bitCount 1 = .ok (.iload_n 0, 1) := by decide +kernel
theorem d_J_bitCount_2 : decode b_J_bitCount 2 = .ok (.iconst 1, 1) := by decide +kernel
theorem d_J_bitCount_3 : decode b_J_bitCount 3 = .ok (.iushr, 1) := by decide +kernel
theorem d_J_bitCount_4 : decode b_J_bitCount 4 = .ok (.ldc_w 265, 3) := by decide +kernel
theorem d_J_bitCount_7 : decode b_J_bitCount 7 = .ok (.iand, 1) := by decide +kernel
theorem d_J_bitCount_8 : decode b_J_bitCount 8 = .ok (.isub, 1) := by decide +kernel
theorem d_J_bitCount_9 : decode b_J_bitCount 9 = .ok (.istore_n 0, 1) := by decide +kernel
theorem d_J_bitCount_10 : decode b_J_bitCount 10 = .ok (.iload_n 0, 1) := by decide +kernel
theorem d_J_bitCount_11 : decode b_J_bitCount 11 = .ok (.ldc_w 266, 3) := by decide +kernel
theorem d_J_bitCount_14 : decode b_J_bitCount 14 = .ok (.iand, 1) := by decide +kernel
theorem d_J_bitCount_15 : decode b_J_bitCount 15 = .ok (.iload_n 0, 1) := by decide +kernel
theorem d_J_bitCount_16 : decode b_J_bitCount 16 = .ok (.iconst 2, 1) := by decide +kernel
theorem d_J_bitCount_17 : decode b_J_bitCount 17 = .ok (.iushr, 1) := by decide +kernel
theorem d_J_bitCount_18 : decode b_J_bitCount 18 = .ok (.ldc_w 266, 3) := by decide +kernel
theorem d_J_bitCount_21 : decode b_J_bitCount 21 = .ok (.iand, 1) := by decide +kernel
theorem d_J_bitCount_22 : decode b_J_bitCount 22 = .ok (.iadd, 1) := by decide +kernel
theorem d_J_bitCount_23 : decode b_J_bitCount 23 = .ok (.istore_n 0, 1) := by decide +kernel
theorem d_J_bitCount_24 : decode b_J_bitCount 24 = .ok (.iload_n 0, 1) := by decide +kernel
theorem d_J_bitCount_25 : decode b_J_bitCount 25 = .ok (.iload_n 0, 1) := by decide +kernel
theorem d_J_bitCount_26 : decode b_J_bitCount 26 = .ok (.iconst 4, 1) := by decide +kernel
theorem d_J_bitCount_27 : decode b_J_bitCount 27 = .ok (.iushr, 1) := by decide +kernel
theorem d_J_bitCount_28 : decode b_J_bitCount 28 = .ok (.iadd, 1) := by decide +kernel
theorem d_J_bitCount_29 : decode b_J_bitCount 29 = .ok (.ldc_w 267, 3) := by decide +kernel
theorem d_J_bitCount_32 : decode b_J_bitCount 32 = .ok (.iand, 1) := by decide +kernel
theorem d_J_bitCount_33 : decode b_J_bitCount 33 = .ok (.istore_n 0, 1) := by decide +kernel
theorem d_J_bitCount_34 : decode b_J_bitCount 34 = .ok (.iload_n 0, 1) := by decide +kernel
theorem d_J_bitCount_35 : decode b_J_bitCount 35 = .ok (.iload_n 0, 1) := by decide +kernel
theorem d_J_bitCount_36 : decode b_J_bitCount 36 = .ok (.bipush 8, 2) := by decide +kernel
theorem d_J_bitCount_38 : decode b_J_bitCount 38 = .ok (.iushr, 1) := by decide +kernel
theorem d_J_bitCount_39 : decode b_J_bitCount 39 = .ok (.iadd, 1) := by decide +kernel
theorem d_J_bitCount_40 : decode b_J_bitCount 40 = .ok (.istore_n 0, 1) := by decide +kernel
theorem d_J_bitCount_41 : decode b_J_bitCount 41 = .ok (.iload_n 0, 1) := by decide +kernel
theorem d_J_bitCount_42 : decode b_J_bitCount 42 = .ok (.iload_n 0, 1) := by decide +kernel
theorem d_J_bitCount_43 : decode b_J_bitCount 43 = .ok (.bipush 16, 2) := by decide +kernel
theorem d_J_bitCount_45 : decode b_J_bitCount 45 = .ok (.iushr, 1) := by decide +kernel
theorem d_J_bitCount_46 : decode b_J_bitCount 46 = .ok (.iadd, 1) := by decide +kernel
theorem d_J_bitCount_47 : decode b_J_bitCount 47 = .ok (.istore_n 0, 1) := by decide +kernel
theorem d_J_bitCount_48 : decode b_J_bitCount 48 = .ok (.iload_n 0, 1) := by decide +kernel
theorem d_J_bitCount_49 : decode b_J_bitCount 49 = .ok (.bipush 63, 2) := by decide +kernel
theorem d_J_bitCount_51 : decode b_J_bitCount 51 = .ok (.iand, 1) := by decide +kernel
theorem d_J_bitCount_52 : decode b_J_bitCount 52 = .ok (.ireturn, 1) := by decide +kernel
theorem d_J_copyOf_0 : decode b_J_copyOf 0 = .ok (.iload_n 1, 1) := by decide +kernel
theorem d_J_copyOf_1 : decode b_J_copyOf 1 = .ok (.aload_n 0, 1) := by decide +kernel
theorem d_J_copyOf_2 : decode b_J_copyOf 2 = .ok (.arraylength, 1) := by decide +kernel
theorem d_J_copyOf_3 : decode b_J_copyOf 3 = .ok (.if_icmp .ne 11, 3) := by decide +kernel
theorem d_J_copyOf_14 : decode b_J_copyOf 14 = .ok (.iload_n 1, 1) := by decide +kernel
theorem d_J_copyOf_15 : decode b_J_copyOf 15 = .ok (.newarray .int, 2) := by decide +kernel
theorem d_J_copyOf_17 : decode b_J_copyOf 17 = .ok (.astore_n 2, 1) := by decide +kernel
theorem d_J_copyOf_18 : decode b_J_copyOf 18 = .ok (.aload_n 0, 1) := by decide +kernel
theorem d_J_copyOf_19 : decode b_J_copyOf 19 = .ok (.iconst 0, 1) := by decide +kernel
theorem d_J_copyOf_20 : decode b_J_copyOf 20 = .ok (.aload_n 2, 1) := by decide +kernel
theorem d_J_copyOf_21 : decode b_J_copyOf 21 = .ok (.iconst 0, 1) := by decide +kernel
theorem d_J_copyOf_22 : decode b_J_copyOf 22 = .ok (.aload_n 0, 1) := by decide +kernel
theorem d_J_copyOf_23 : decode b_J_copyOf 23 = .ok (.arraylength, 1) := by decide +kernel
theorem d_J_copyOf_24 : decode b_J_copyOf 24 = .ok (.iload_n 1, 1) := by decide +kernel
theorem d_J_copyOf_25 : decode b_J_copyOf 25 = .ok (.invokestatic 304, 3) := by decide +kernel
theorem d_J_copyOf_28 : decode b_J_copyOf 28 = .ok (.invokestatic 150, 3) := by decide +kernel
theorem d_J_copyOf_31 : decode b_J_copyOf 31 = .ok (.aload_n 2, 1) := by decide +kernel
theorem d_J_copyOf_32 : decode b_J_copyOf 32 = .ok (.areturn, 1) := by decide +kernel
theorem d_J_fill_0 : decode b_J_fill 0 = .ok (.iconst 0, 1) := by decide +kernel
theorem d_J_fill_1 : decode b_J_fill 1 = .ok (.istore_n 2, 1) := by decide +kernel
theorem d_J_fill_2 : decode b_J_fill 2 = .ok (.aload_n 0, 1) := by decide +kernel
theorem d_J_fill_3 : decode b_J_fill 3 = .ok (.arraylength, 1) := by decide +kernel
theorem d_J_fill_4 : decode b_J_fill 4 = .ok (.istore_n 3, 1) := by decide +kernel
theorem d_J_fill_5 : decode b_J_fill 5 = .ok (.iload_n 2, 1) := by decide +kernel
theorem d_J_fill_6 : decode b_J_fill 6 = .ok (.iload_n 3, 1) := by decide +kernel
theorem d_J_fill_7 : decode b_J_fill 7 = .ok (.if_icmp .ge 13, 3) := by decide +kernel
theorem d_J_fill_10 : decode b_J_fill 10 = .ok (.aload_n 0, 1) := by decide +kernel
theorem d_J_fill_11 : decode b_J_fill 11 = .ok (.iload_n 2, 1) := by decide +kernel
theorem d_J_fill_12 : decode b_J_fill 12 = .ok (.iload_n 1, 1) := by decide +kernel
theorem d_J_fill_13 : decode b_J_fill 13 = .ok (.iastore, 1) := by decide +kernel
theorem d_J_fill_14 : decode b_J_fill 14 = .ok (.iinc 2 1, 3) := by decide +kernel
theorem d_J_fill_17 : decode b_J_fill 17 = .ok (.goto (-12), 3) := by decide +kernel
theorem d_J_fill_20 : decode b_J_fill 20 = .ok (.return_, 1) := by decide +kernel
