-- part 04.decS.lean.txt
theorem d_L_boxTypeOf_0 : decode b_L_boxTypeOf 0 = .ok (.bipush 8, 2) := by decide +kernel
theorem d_L_boxTypeOf_2 : decode b_L_boxTypeOf 2 = .ok (.iload_n 0, 1) := by decide +kernel
theorem d_L_boxTypeOf_3 : decode b_L_boxTypeOf 3 = .ok (.iadd, 1) := by decide +kernel
theorem d_L_boxTypeOf_4 : decode b_L_boxTypeOf 4 = .ok (.ireturn, 1) := by decide +kernel
theorem d_L_typeOf_0 : decode b_L_typeOf 0 = .ok (.iload_n 0, 1) := by decide +kernel
theorem d_L_typeOf_1 : decode b_L_typeOf 1 = .ok (.ifCond .gt 7, 3) := by decide +kernel
theorem d_L_typeOf_4 : decode b_L_typeOf 4 = .ok (.iconst (-1), 1) := by decide +kernel
theorem d_L_typeOf_5 : decode b_L_typeOf 5 = .ok (.goto 6, 3) := by decide +kernel
theorem d_L_typeOf_8 : decode b_L_typeOf 8 = .ok (.iload_n 0, 1) := by decide +kernel
theorem d_L_typeOf_9 : decode b_L_typeOf 9 = .ok (.iconst 2, 1) := by decide +kernel
theorem d_L_typeOf_10 : decode b_L_typeOf 10 = .ok (.ishr, 1) := by decide +kernel
theorem d_L_typeOf_11 : decode b_L_typeOf 11 = .ok (.ireturn, 1) := by decide +kernel
theorem d_L_has_0 : decode b_L_has 0 = .ok (.iload_n 0, 1) := by decide +kernel
theorem d_L_has_1 : decode b_L_has 1 = .ok (.iload_n 1, 1) := by decide +kernel
theorem d_L_has_2 : decode b_L_has 2 = .ok (.ishr, 1) := by decide +kernel
theorem d_L_has_3 : decode b_L_has 3 = .ok (.iconst 1, 1) := by decide +kernel
theorem d_L_has_4 : decode b_L_has 4 = .ok (.iand, 1) := by decide +kernel
theorem d_L_has_5 : decode b_L_has 5 = .ok (.ifCond .eq 7, 3) := by decide +kernel
theorem d_L_has_8 : decode b_L_has 8 = .ok (.iconst 1, 1) := by decide +kernel
theorem d_L_has_9 : decode b_L_has 9 = .ok (.goto 4, 3) := by decide +kernel
theorem d_L_has_12 : decode b_L_has 12 = .ok (.iconst 0, 1) := by decide +kernel
theorem d_L_has_13 : decode b_L_has 13 = .ok (.ireturn, 1) := by decide +kernel
theorem d_L_argumentOf_0 : decode b_L_argumentOf 0 = .ok (.iload_n 0, 1) := by decide +kernel
theorem d_L_argumentOf_1 : decode b_L_argumentOf 1 = .ok (.ifCond .ne 7, 3) := by decide +kernel
theorem d_L_argumentOf_4 : decode b_L_argumentOf 4 = .ok (.iconst 0, 1) := by decide +kernel
theorem d_L_argumentOf_5 : decode b_L_argumentOf 5 = .ok (.goto 8, 3) := by decide +kernel
theorem d_L_argumentOf_8 : decode b_L_argumentOf 8 = .ok (.iload_n 1, 1) := by decide +kernel
theorem d_L_argumentOf_9 : decode b_L_argumentOf 9 = .ok (.iconst 4, 1) := by decide +kernel
theorem d_L_argumentOf_10 : decode b_L_argumentOf 10 = .ok (.imul, 1) := by decide +kernel
theorem d_L_argumentOf_11 : decode b_L_argumentOf 11 = .ok (.iload_n 0, 1) := by decide +kernel
theorem d_L_argumentOf_12 : decode b_L_argumentOf 12 = .ok (.iadd, 1) := by decide +kernel
theorem d_L_argumentOf_13 : decode b_L_argumentOf 13 = .ok (.ireturn, 1) := by decide +kernel
theorem d_L_howOf_0 : decode b_L_howOf 0 = .ok (.iload_n 0, 1) := by decide +kernel
theorem d_L_howOf_1 : decode b_L_howOf 1 = .ok (.ifCond .gt 7, 3) := by decide +kernel
theorem d_L_howOf_4 : decode b_L_howOf 4 = .ok (.iconst 0, 1) := by decide +kernel
theorem d_L_howOf_5 : decode b_L_howOf 5 = .ok (.goto 6, 3) := by decide +kernel
theorem d_L_howOf_8 : decode b_L_howOf 8 = .ok (.iload_n 0, 1) := by decide +kernel
theorem d_L_howOf_9 : decode b_L_howOf 9 = .ok (.iconst 3, 1) := by decide +kernel
theorem d_L_howOf_10 : decode b_L_howOf 10 = .ok (.iand, 1) := by decide +kernel
theorem d_L_howOf_11 : decode b_L_howOf 11 = .ok (.ireturn, 1) := by decide +kernel
-- part 04.decT.lean.txt
theorem d_T_append_0 : decode b_T_append 0 = .ok (.aload_n 0, 1) := by decide +kernel
theorem d_T_append_1 : decode b_T_append 1 = .ok (.getfield 40, 3) := by decide +kernel
theorem d_T_append_4 : decode b_T_append 4 = .ok (.sipush 300, 3) := by decide +kernel
theorem d_T_append_7 : decode b_T_append 7 = .ok (.if_icmp .ge 9, 3) := by decide +kernel
theorem d_T_append_10 : decode b_T_append 10 = .ok (.iload_n 2, 1) := by decide +kernel
theorem d_T_append_11 : decode b_T_append 11 = .ok (.bipush 100, 2) := by decide +kernel
theorem d_T_append_13 : decode b_T_append 13 = .ok (.if_icmp .le 5, 3) := by decide +kernel
theorem d_T_append_16 : decode b_T_append 16 = .ok (.iconst (-1), 1) := by decide +kernel
theorem d_T_append_17 : decode b_T_append 17 = .ok (.ireturn, 1) := by decide +kernel
theorem d_T_append_18 : decode b_T_append 18 = .ok (.aload_n 0, 1) := by decide +kernel
theorem d_T_append_19 : decode b_T_append 19 = .ok (.getfield 40, 3) := by decide +kernel
theorem d_T_append_22 : decode b_T_append 22 = .ok (.istore_n 3, 1) := by decide +kernel
theorem d_T_append_23 : decode b_T_append 23 = .ok (.aload_n 0, 1) := by decide +kernel
theorem d_T_append_24 : decode b_T_append 24 = .ok (.dup, 1) := by decide +kernel
theorem d_T_append_25 : decode b_T_append 25 = .ok (.getfield 40, 3) := by decide +kernel
theorem d_T_append_28 : decode b_T_append 28 = .ok (.iconst 1, 1) := by decide +kernel
theorem d_T_append_29 : decode b_T_append 29 = .ok (.iadd, 1) := by decide +kernel
theorem d_T_append_30 : decode b_T_append 30 = .ok (.putfield 40, 3) := by decide +kernel
theorem d_T_append_33 : decode b_T_append 33 = .ok (.aload_n 0, 1) := by decide +kernel
theorem d_T_append_34 : decode b_T_append 34 = .ok (.getfield 9, 3) := by decide +kernel
theorem d_T_append_37 : decode b_T_append 37 = .ok (.iload_n 3, 1) := by decide +kernel
theorem d_T_append_38 : decode b_T_append 38 = .ok (.iload_n 1, 1) := by decide +kernel
theorem d_T_append_39 : decode b_T_append 39 = .ok (.iastore, 1) := by decide +kernel
theorem d_T_append_40 : decode b_T_append 40 = .ok (.aload_n 0, 1) := by decide +kernel
theorem d_T_append_41 : decode b_T_append 41 = .ok (.getfield 15, 3) := by decide +kernel
theorem d_T_append_44 : decode b_T_append 44 = .ok (.iload_n 3, 1) := by decide +kernel
theorem d_T_append_45 : decode b_T_append 45 = .ok (.iconst (-1), 1) := by decide +kernel
theorem d_T_append_46 : decode b_T_append 46 = .ok (.iastore, 1) := by decide +kernel
theorem d_T_append_47 : decode b_T_append 47 = .ok (.aload_n 0, 1) := by decide +kernel
theorem d_T_append_48 : decode b_T_append 48 = .ok (.getfield 18, 3) := by decide +kernel
theorem d_T_append_51 : decode b_T_append 51 = .ok (.iload_n 3, 1) := by decide +kernel
theorem d_T_append_52 : decode b_T_append 52 = .ok (.iconst 0, 1) := by decide +kernel
theorem d_T_append_53 : decode b_T_append 53 = .ok (.iastore, 1) := by decide +kernel
theorem d_T_append_54 : decode b_T_append 54 = .ok (.aload_n 0, 1) := by decide +kernel
theorem d_T_append_55 : decode b_T_append 55 = .ok (.getfield 21, 3) := by decide +kernel
theorem d_T_append_58 : decode b_T_append 58 = .ok (.iload_n 3, 1) := by decide +kernel
theorem d_T_append_59 : decode b_T_append 59 = .ok (.iconst (-1), 1) := by decide +kernel
theorem d_T_append_60 : decode b_T_append 60 = .ok (.iastore, 1) := by decide +kernel
theorem d_T_append_61 : decode b_T_append 61 = .ok (.aload_n 0, 1) := by decide +kernel
theorem d_T_append_62 : decode b_T_append 62 = .ok (.getfield 24, 3) := by decide +kernel
theorem d_T_append_65 : decode b_T_append 65 = .ok (.iload_n 3, 1) := by decide +kernel
theorem d_T_append_66 : decode b_T_append 66 = .ok (.iload_n 2, 1) := by decide +kernel
theorem d_T_append_67 : decode b_T_append 67 = .ok (.iastore, 1) := by decide +kernel
theorem d_T_append_68 : decode b_T_append 68 = .ok (.aload_n 0, 1) := by decide +kernel
theorem d_T_append_69 : decode b_T_append 69 = .ok (.getfield 27, 3) := by decide +kernel
theorem d_T_append_72 : decode b_T_append 72 = .ok (.iload_n 3, 1) := by decide +kernel
theorem d_T_append_73 : decode b_T_append 73 = .ok (.iconst 0, 1) := by decide +kernel
theorem d_T_append_74 : decode b_T_append 74 = .ok (.iastore, 1) := by decide +kernel
theorem d_T_append_75 : decode b_T_append 75 = .ok (.aload_n 0, 1) := by decide +kernel
theorem d_T_append_76 : decode b_T_append 76 = .ok (.getfield 30, 3) := by decide +kernel
theorem d_T_append_79 : decode b_T_append 79 = .ok (.iload_n 3, 1) := by decide +kernel
theorem d_T_append_80 : decode b_T_append 80 = .ok (.iconst 0, 1) := by decide +kernel
theorem d_T_append_81 : decode b_T_append 81 = .ok (.iastore, 1) := by decide +kernel
theorem d_T_append_82 : decode b_T_append 82 = .ok (.iload_n 3, 1) := by decide +kernel
theorem d_T_append_83 : decode b_T_append 83 = .ok (.ireturn, 1) := by decide +kernel
theorem d_T_isThere_0 : decode b_T_isThere 0 = .ok (.iload_n 1, 1) := by decide +kernel
theorem d_T_isThere_1 : decode b_T_isThere 1 = .ok (.ifCond .lt 15, 3) := by decide +kernel
theorem d_T_isThere_4 : decode b_T_isThere 4 = .ok (.iload_n 1, 1) := by decide +kernel
theorem d_T_isThere_5 : decode b_T_isThere 5 = .ok (.aload_n 0, 1) := by decide +kernel
theorem d_T_isThere_6 : decode b_T_isThere 6 = .ok (.getfield 40, 3) := by decide +kernel
theorem d_T_isThere_9 : decode b_T_isThere 9 = .ok (.if_icmp .ge 7, 3) := by decide +kernel
theorem d_T_isThere_12 : decode b_T_isThere 12 = .ok (.iconst 1, 1) := by decide +kernel
theorem d_T_isThere_13 : decode b_T_isThere 13 = .ok (.goto 4, 3) := by decide +kernel
theorem d_T_isThere_16 : decode b_T_isThere 16 = .ok (.iconst 0, 1) := by decide +kernel
theorem d_T_isThere_17 : decode b_T_isThere 17 = .ok (.ireturn, 1) := by decide +kernel
theorem d_T_sizeOf_0 : decode b_T_sizeOf 0 = .ok (.aload_n 0, 1) := by decide +kernel
theorem d_T_sizeOf_1 : decode b_T_sizeOf 1 = .ok (.iload_n 1, 1) := by decide +kernel
theorem d_T_sizeOf_2 : decode b_T_sizeOf 2 = .ok (.invokevirtual 59, 3) := by decide +kernel
theorem d_T_sizeOf_5 : decode b_T_sizeOf 5 = .ok (.ifCond .eq 12, 3) := by decide +kernel
theorem d_T_sizeOf_8 : decode b_T_sizeOf 8 = .ok (.aload_n 0, 1) := by decide +kernel
theorem d_T_sizeOf_9 : decode b_T_sizeOf 9 = .ok (.getfield 24, 3) := by decide +kernel
theorem d_T_sizeOf_12 : decode b_T_sizeOf 12 = .ok (.iload_n 1, 1) := by decide +kernel
theorem d_T_sizeOf_13 : decode b_T_sizeOf 13 = .ok (.iaload, 1) := by decide +kernel
theorem d_T_sizeOf_14 : decode b_T_sizeOf 14 = .ok (.goto 4, 3) := by decide +kernel
theorem d_T_sizeOf_17 : decode b_T_sizeOf 17 = .ok (.iconst 0, 1) := by decide +kernel
theorem d_T_sizeOf_18 : decode b_T_sizeOf 18 = .ok (.ireturn, 1) := by decide +kernel
theorem d_T_makeNamed_0 : decode b_T_makeNamed 0 = .ok (.iload_n 2, 1) := by decide +kernel
theorem d_T_makeNamed_1 : decode b_T_makeNamed 1 = .ok (.ifCond .ge 5, 3) := by decide +kernel
theorem d_T_makeNamed_4 : decode b_T_makeNamed 4 = .ok (.iconst (-1), 1) := by decide +kernel
theorem d_T_makeNamed_5 : decode b_T_makeNamed 5 = .ok (.ireturn, 1) := by decide +kernel
theorem d_T_makeNamed_6 : decode b_T_makeNamed 6 = .ok (.iconst 0, 1) := by decide +kernel
theorem d_T_makeNamed_7 : decode b_T_makeNamed 7 = .ok (.istore_n 3, 1) := by decide +kernel
theorem d_T_makeNamed_8 : decode b_T_makeNamed 8 = .ok (.iload_n 3, 1) := by decide +kernel
theorem d_T_makeNamed_9 : decode b_T_makeNamed 9 = .ok (.aload_n 0, 1) := by decide +kernel
theorem d_T_makeNamed_10 : decode b_T_makeNamed 10 = .ok (.getfield 40, 3) := by decide +kernel
theorem d_T_makeNamed_13 : decode b_T_makeNamed 13 = .ok (.if_icmp .ge 41, 3) := by decide +kernel
theorem d_T_makeNamed_16 : decode b_T_makeNamed 16 = .ok (.aload_n 0, 1) := by decide +kernel
theorem d_T_makeNamed_17 : decode b_T_makeNamed 17 = .ok (.getfield 9, 3) := by decide +kernel
theorem d_T_makeNamed_20 : decode b_T_makeNamed 20 = .ok (.iload_n 3, 1) := by decide +kernel
theorem d_T_makeNamed_21 : decode b_T_makeNamed 21 = .ok (.iaload, 1) := by decide +kernel
theorem d_T_makeNamed_22 : decode b_T_makeNamed 22 = .ok (.iconst 1, 1) := by decide +kernel
theorem d_T_makeNamed_23 : decode b_T_makeNamed 23 = .ok (.if_icmp .ne 25, 3) := by decide +kernel
theorem d_T_makeNamed_26 : decode b_T_makeNamed 26 = .ok (.aload_n 0, 1) := by decide +kernel
theorem d_T_makeNamed_27 : decode b_T_makeNamed 27 = .ok (.getfield 15, 3) := by decide +kernel
theorem d_T_makeNamed_30 : decode b_T_makeNamed 30 = .ok (.iload_n 3, 1) := by decide +kernel
theorem d_T_makeNamed_31 : decode b_T_makeNamed 31 = .ok (.iaload, 1) := by decide +kernel
theorem d_T_makeNamed_32 : decode b_T_makeNamed 32 = .ok (.iload_n 1, 1) := by decide +kernel
theorem d_T_makeNamed_33 : decode b_T_makeNamed 33 = .ok (.if_icmp .ne 15, 3) := by decide +kernel
theorem d_T_makeNamed_36 : decode b_T_makeNamed 36 = .ok (.aload_n 0, 1) := by decide +kernel
theorem d_T_makeNamed_37 : decode b_T_makeNamed 37 = .ok (.getfield 18, 3) := by decide +kernel
theorem d_T_makeNamed_40 : decode b_T_makeNamed 40 = .ok (.iload_n 3, 1) := by decide +kernel
theorem d_T_makeNamed_41 : decode b_T_makeNamed 41 = .ok (.iaload, 1) := by decide +kernel
theorem d_T_makeNamed_42 : decode b_T_makeNamed 42 = .ok (.iload_n 2, 1) := by decide +kernel
theorem d_T_makeNamed_43 : decode b_T_makeNamed 43 = .ok (.if_icmp .ne 5, 3) := by decide +kernel
theorem d_T_makeNamed_46 : decode b_T_makeNamed 46 = .ok (.iload_n 3, 1) := by decide +kernel
theorem d_T_makeNamed_47 : decode b_T_makeNamed 47 = .ok (.ireturn, 1) := by decide +kernel
theorem d_T_makeNamed_48 : decode b_T_makeNamed 48 = .ok (.iinc 3 1, 3) := by decide +kernel
theorem d_T_makeNamed_51 : decode b_T_makeNamed 51 = .ok (.goto (-43), 3) := by decide +kernel
theorem d_T_makeNamed_54 : decode b_T_makeNamed 54 = .ok (.aload_n 0, 1) := by decide +kernel
theorem d_T_makeNamed_55 : decode b_T_makeNamed 55 = .ok (.iconst 1, 1) := by decide +kernel
theorem d_T_makeNamed_56 : decode b_T_makeNamed 56 = .ok (.iconst 1, 1) := by decide +kernel
theorem d_T_makeNamed_57 : decode b_T_makeNamed 57 = .ok (.aload_n 0, 1) := by decide +kernel
theorem d_T_makeNamed_58 : decode b_T_makeNamed 58 = .ok (.iload_n 2, 1) := by decide +kernel
theorem d_T_makeNamed_59 : decode b_T_makeNamed 59 = .ok (.invokestatic 63, 3) := by decide +kernel
theorem d_T_makeNamed_62 : decode b_T_makeNamed 62 = .ok (.invokevirtual 67, 3) := by decide +kernel
theorem d_T_makeNamed_65 : decode b_T_makeNamed 65 = .ok (.iadd, 1) := by decide +kernel
theorem d_T_makeNamed_66 : decode b_T_makeNamed 66 = .ok (.invokevirtual 49, 3) := by decide +kernel
theorem d_T_makeNamed_69 : decode b_T_makeNamed 69 = .ok (.istore_n 3, 1) := by decide +kernel
theorem d_T_makeNamed_70 : decode b_T_makeNamed 70 = .ok (.iload_n 3, 1) := by decide +kernel
theorem d_T_makeNamed_71 : decode b_T_makeNamed 71 = .ok (.iconst (-1), 1) := by decide +kernel
theorem d_T_makeNamed_72 : decode b_T_makeNamed 72 = .ok (.if_icmp .eq 24, 3) := by decide +kernel
theorem d_T_makeNamed_75 : decode b_T_makeNamed 75 = .ok (.aload_n 0, 1) := by decide +kernel
theorem d_T_makeNamed_76 : decode b_T_makeNamed 76 = .ok (.getfield 15, 3) := by decide +kernel
theorem d_T_makeNamed_79 : decode b_T_makeNamed 79 = .ok (.iload_n 3, 1) := by decide +kernel
theorem d_T_makeNamed_80 : decode b_T_makeNamed 80 = .ok (.iload_n 1, 1) := by decide +kernel
theorem d_T_makeNamed_81 : decode b_T_makeNamed 81 = .ok (.iastore, 1) := by decide +kernel
theorem d_T_makeNamed_82 : decode b_T_makeNamed 82 = .ok (.aload_n 0, 1) := by decide +kernel
theorem d_T_makeNamed_83 : decode b_T_makeNamed 83 = .ok (.getfield 18, 3) := by decide +kernel
theorem d_T_makeNamed_86 : decode b_T_makeNamed 86 = .ok (.iload_n 3, 1) := by decide +kernel
theorem d_T_makeNamed_87 : decode b_T_makeNamed 87 = .ok (.iload_n 2, 1) := by decide +kernel
theorem d_T_makeNamed_88 : decode b_T_makeNamed 88 = .ok (.iastore, 1) := by decide +kernel
theorem d_T_makeNamed_89 : decode b_T_makeNamed 89 = .ok (.aload_n 0, 1) := by decide +kernel
theorem d_T_makeNamed_90 : decode b_T_makeNamed 90 = .ok (.getfield 30, 3) := by decide +kernel
theorem d_T_makeNamed_93 : decode b_T_makeNamed 93 = .ok (.iload_n 3, 1) := by decide +kernel
theorem d_T_makeNamed_94 : decode b_T_makeNamed 94 = .ok (.iconst 1, 1) := by decide +kernel
theorem d_T_makeNamed_95 : decode b_T_makeNamed 95 = .ok (.iastore, 1) := by decide +kernel
theorem d_T_makeNamed_96 : decode b_T_makeNamed 96 = .ok (.iload_n 3, 1) := by decide +kernel
theorem d_T_makeNamed_97 : decode b_T_makeNamed 97 = .ok (.ireturn, 1) := by decide +kernel
theorem d_T_settle_0 : decode b_T_settle 0 = .ok (.aload_n 0, 1) := by decide +kernel
theorem d_T_settle_1 : decode b_T_settle 1 = .ok (.aload_n 0, 1) := by decide +kernel
theorem d_T_settle_2 : decode b_T_settle 2 = .ok (.getfield 40, 3) := by decide +kernel
theorem d_T_settle_5 : decode b_T_settle 5 = .ok (.putfield 46, 3) := by decide +kernel
theorem d_T_settle_8 : decode b_T_settle 8 = .ok (.aload_n 0, 1) := by decide +kernel
theorem d_T_settle_9 : decode b_T_settle 9 = .ok (.aload_n 0, 1) := by decide +kernel
theorem d_T_settle_10 : decode b_T_settle 10 = .ok (.getfield 36, 3) := by decide +kernel
theorem d_T_settle_13 : decode b_T_settle 13 = .ok (.putfield 43, 3) := by decide +kernel
theorem d_T_settle_16 : decode b_T_settle 16 = .ok (.return_, 1) := by decide +kernel
theorem d_T_kindOf_0 : decode b_T_kindOf 0 = .ok (.aload_n 0, 1) := by decide +kernel
theorem d_T_kindOf_1 : decode b_T_kindOf 1 = .ok (.iload_n 1, 1) := by decide +kernel
theorem d_T_kindOf_2 : decode b_T_kindOf 2 = .ok (.invokevirtual 59, 3) := by decide +kernel
theorem d_T_kindOf_5 : decode b_T_kindOf 5 = .ok (.ifCond .eq 12, 3) := by decide +kernel
theorem d_T_kindOf_8 : decode b_T_kindOf 8 = .ok (.aload_n 0, 1) := by decide +kernel
theorem d_T_kindOf_9 : decode b_T_kindOf 9 = .ok (.getfield 9, 3) := by decide +kernel
theorem d_T_kindOf_12 : decode b_T_kindOf 12 = .ok (.iload_n 1, 1) := by decide +kernel
theorem d_T_kindOf_13 : decode b_T_kindOf 13 = .ok (.iaload, 1) := by decide +kernel
theorem d_T_kindOf_14 : decode b_T_kindOf 14 = .ok (.goto 4, 3) := by decide +kernel
theorem d_T_kindOf_17 : decode b_T_kindOf 17 = .ok (.iconst (-1), 1) := by decide +kernel
theorem d_T_kindOf_18 : decode b_T_kindOf 18 = .ok (.ireturn, 1) := by decide +kernel
theorem d_T_dropUnsettled_0 : decode b_T_dropUnsettled 0 = .ok (.aload_n 0, 1) := by decide +kernel
theorem d_T_dropUnsettled_1 : decode b_T_dropUnsettled 1 = .ok (.aload_n 0, 1) := by decide +kernel
theorem d_T_dropUnsettled_2 : decode b_T_dropUnsettled 2 = .ok (.getfield 46, 3) := by decide +kernel
theorem d_T_dropUnsettled_5 : decode b_T_dropUnsettled 5 = .ok (.putfield 40, 3) := by decide +kernel
theorem d_T_dropUnsettled_8 : decode b_T_dropUnsettled 8 = .ok (.aload_n 0, 1) := by decide +kernel
theorem d_T_dropUnsettled_9 : decode b_T_dropUnsettled 9 = .ok (.aload_n 0, 1) := by decide +kernel
theorem d_T_dropUnsettled_10 : decode b_T_dropUnsettled 10 = .ok (.getfield 43, 3) := by decide +kernel
theorem d_T_dropUnsettled_13 : decode b_T_dropUnsettled 13 = .ok (.putfield 36, 3) := by decide +kernel
theorem d_T_dropUnsettled_16 : decode b_T_dropUnsettled 16 = .ok (.return_, 1) := by decide +kernel
theorem d_T_makeArray_0 : decode b_T_makeArray 0 = .ok (.iconst 0, 1) := by decide +kernel
theorem d_T_makeArray_1 : decode b_T_makeArray 1 = .ok (.istore_n 2, 1) := by decide +kernel
theorem d_T_makeArray_2 : decode b_T_makeArray 2 = .ok (.iload_n 2, 1) := by decide +kernel
theorem d_T_makeArray_3 : decode b_T_makeArray 3 = .ok (.aload_n 0, 1) := by decide +kernel
theorem d_T_makeArray_4 : decode b_T_makeArray 4 = .ok (.getfield 40, 3) := by decide +kernel
theorem d_T_makeArray_7 : decode b_T_makeArray 7 = .ok (.if_icmp .ge 31, 3) := by decide +kernel
theorem d_T_makeArray_10 : decode b_T_makeArray 10 = .ok (.aload_n 0, 1) := by decide +kernel
theorem d_T_makeArray_11 : decode b_T_makeArray 11 = .ok (.getfield 9, 3) := by decide +kernel
theorem d_T_makeArray_14 : decode b_T_makeArray 14 = .ok (.iload_n 2, 1) := by decide +kernel
theorem d_T_makeArray_15 : decode b_T_makeArray 15 = .ok (.iaload, 1) := by decide +kernel
theorem d_T_makeArray_16 : decode b_T_makeArray 16 = .ok (.iconst 2, 1) := by decide +kernel
theorem d_T_makeArray_17 : decode b_T_makeArray 17 = .ok (.if_icmp .ne 15, 3) := by decide +kernel
theorem d_T_makeArray_20 : decode b_T_makeArray 20 = .ok (.aload_n 0, 1) := by decide +kernel
theorem d_T_makeArray_21 : decode b_T_makeArray 21 = .ok (.getfield 21, 3) := by decide +kernel
theorem d_T_makeArray_24 : decode b_T_makeArray 24 = .ok (.iload_n 2, 1) := by decide +kernel
theorem d_T_makeArray_25 : decode b_T_makeArray 25 = .ok (.iaload, 1) := by decide +kernel
theorem d_T_makeArray_26 : decode b_T_makeArray 26 = .ok (.iload_n 1, 1) := by decide +kernel
theorem d_T_makeArray_27 : decode b_T_makeArray 27 = .ok (.if_icmp .ne 5, 3) := by decide +kernel
theorem d_T_makeArray_30 : decode b_T_makeArray 30 = .ok (.iload_n 2, 1) := by decide +kernel
theorem d_T_makeArray_31 : decode b_T_makeArray 31 = .ok (.ireturn, 1) := by decide +kernel
theorem d_T_makeArray_32 : decode b_T_makeArray 32 = .ok (.iinc 2 1, 3) := by decide +kernel
theorem d_T_makeArray_35 : decode b_T_makeArray 35 = .ok (.goto (-33), 3) := by decide +kernel
theorem d_T_makeArray_38 : decode b_T_makeArray 38 = .ok (.aload_n 0, 1) := by decide +kernel
theorem d_T_makeArray_39 : decode b_T_makeArray 39 = .ok (.iconst 2, 1) := by decide +kernel
theorem d_T_makeArray_40 : decode b_T_makeArray 40 = .ok (.iconst 1, 1) := by decide +kernel
theorem d_T_makeArray_41 : decode b_T_makeArray 41 = .ok (.aload_n 0, 1) := by decide +kernel
theorem d_T_makeArray_42 : decode b_T_makeArray 42 = .ok (.iload_n 1, 1) := by decide +kernel
theorem d_T_makeArray_43 : decode b_T_makeArray 43 = .ok (.invokevirtual 67, 3) := by decide +kernel
theorem d_T_makeArray_46 : decode b_T_makeArray 46 = .ok (.iadd, 1) := by decide +kernel
theorem d_T_makeArray_47 : decode b_T_makeArray 47 = .ok (.invokevirtual 49, 3) := by decide +kernel
theorem d_T_makeArray_50 : decode b_T_makeArray 50 = .ok (.istore_n 2, 1) := by decide +kernel
theorem d_T_makeArray_51 : decode b_T_makeArray 51 = .ok (.iload_n 2, 1) := by decide +kernel
theorem d_T_makeArray_52 : decode b_T_makeArray 52 = .ok (.iconst (-1), 1) := by decide +kernel
theorem d_T_makeArray_53 : decode b_T_makeArray 53 = .ok (.if_icmp .eq 10, 3) := by decide +kernel
theorem d_T_makeArray_56 : decode b_T_makeArray 56 = .ok (.aload_n 0, 1) := by decide +kernel
theorem d_T_makeArray_57 : decode b_T_makeArray 57 = .ok (.getfield 21, 3) := by decide +kernel
theorem d_T_makeArray_60 : decode b_T_makeArray 60 = .ok (.iload_n 2, 1) := by decide +kernel
theorem d_T_makeArray_61 : decode b_T_makeArray 61 = .ok (.iload_n 1, 1) := by decide +kernel
theorem d_T_makeArray_62 : decode b_T_makeArray 62 = .ok (.iastore, 1) := by decide +kernel
theorem d_T_makeArray_63 : decode b_T_makeArray 63 = .ok (.iload_n 2, 1) := by decide +kernel
theorem d_T_makeArray_64 : decode b_T_makeArray 64 = .ok (.ireturn, 1) := by decide +kernel
theorem d_T_elementOf_0 : decode b_T_elementOf 0 = .ok (.aload_n 0, 1) := by decide +kernel
theorem d_T_elementOf_1 : decode b_T_elementOf 1 = .ok (.iload_n 1, 1) := by decide +kernel
theorem d_T_elementOf_2 : decode b_T_elementOf 2 = .ok (.invokevirtual 59, 3) := by decide +kernel
theorem d_T_elementOf_5 : decode b_T_elementOf 5 = .ok (.ifCond .eq 12, 3) := by decide +kernel
theorem d_T_elementOf_8 : decode b_T_elementOf 8 = .ok (.aload_n 0, 1) := by decide +kernel
theorem d_T_elementOf_9 : decode b_T_elementOf 9 = .ok (.getfield 21, 3) := by decide +kernel
theorem d_T_elementOf_12 : decode b_T_elementOf 12 = .ok (.iload_n 1, 1) := by decide +kernel
theorem d_T_elementOf_13 : decode b_T_elementOf 13 = .ok (.iaload, 1) := by decide +kernel
theorem d_T_elementOf_14 : decode b_T_elementOf 14 = .ok (.goto 4, 3) := by decide +kernel
theorem d_T_elementOf_17 : decode b_T_elementOf 17 = .ok (.iconst (-1), 1) := by decide +kernel
theorem d_T_elementOf_18 : decode b_T_elementOf 18 = .ok (.ireturn, 1) := by decide +kernel
theorem d_T_classOf_0 : decode b_T_classOf 0 = .ok (.aload_n 0, 1) := by decide +kernel
theorem d_T_classOf_1 : decode b_T_classOf 1 = .ok (.iload_n 1, 1) := by decide +kernel
theorem d_T_classOf_2 : decode b_T_classOf 2 = .ok (.invokevirtual 59, 3) := by decide +kernel
theorem d_T_classOf_5 : decode b_T_classOf 5 = .ok (.ifCond .eq 12, 3) := by decide +kernel
theorem d_T_classOf_8 : decode b_T_classOf 8 = .ok (.aload_n 0, 1) := by decide +kernel
theorem d_T_classOf_9 : decode b_T_classOf 9 = .ok (.getfield 15, 3) := by decide +kernel
theorem d_T_classOf_12 : decode b_T_classOf 12 = .ok (.iload_n 1, 1) := by decide +kernel
theorem d_T_classOf_13 : decode b_T_classOf 13 = .ok (.iaload, 1) := by decide +kernel
theorem d_T_classOf_14 : decode b_T_classOf 14 = .ok (.goto 4, 3) := by decide +kernel
theorem d_T_classOf_17 : decode b_T_classOf 17 = .ok (.iconst (-1), 1) := by decide +kernel
theorem d_T_classOf_18 : decode b_T_classOf 18 = .ok (.ireturn, 1) := by decide +kernel
theorem d_T_countParts_0 : decode b_T_countParts 0 = .ok (.aload_n 0, 1) := by decide +kernel
theorem d_T_countParts_1 : decode b_T_countParts 1 = .ok (.iload_n 1, 1) := by decide +kernel
theorem d_T_countParts_2 : decode b_T_countParts 2 = .ok (.invokevirtual 59, 3) := by decide +kernel
theorem d_T_countParts_5 : decode b_T_countParts 5 = .ok (.ifCond .eq 12, 3) := by decide +kernel
theorem d_T_countParts_8 : decode b_T_countParts 8 = .ok (.aload_n 0, 1) := by decide +kernel
theorem d_T_countParts_9 : decode b_T_countParts 9 = .ok (.getfield 30, 3) := by decide +kernel
theorem d_T_countParts_12 : decode b_T_countParts 12 = .ok (.iload_n 1, 1) := by decide +kernel
theorem d_T_countParts_13 : decode b_T_countParts 13 = .ok (.iaload, 1) := by decide +kernel
theorem d_T_countParts_14 : decode b_T_countParts 14 = .ok (.goto 4, 3) := by decide +kernel
theorem d_T_countParts_17 : decode b_T_countParts 17 = .ok (.iconst 0, 1) := by decide +kernel
theorem d_T_countParts_18 : decode b_T_countParts 18 = .ok (.ireturn, 1) := by decide +kernel
theorem d_T_partOf_0 : decode b_T_partOf 0 = .ok (.aload_n 0, 1) := by decide +kernel
theorem d_T_partOf_1 : decode b_T_partOf 1 = .ok (.iload_n 1, 1) := by decide +kernel
theorem d_T_partOf_2 : decode b_T_partOf 2 = .ok (.invokevirtual 59, 3) := by decide +kernel
theorem d_T_partOf_5 : decode b_T_partOf 5 = .ok (.ifCond .eq 17, 3) := by decide +kernel
theorem d_T_partOf_8 : decode b_T_partOf 8 = .ok (.iload_n 2, 1) := by decide +kernel
theorem d_T_partOf_9 : decode b_T_partOf 9 = .ok (.ifCond .lt 13, 3) := by decide +kernel
theorem d_T_partOf_12 : decode b_T_partOf 12 = .ok (.iload_n 2, 1) := by decide +kernel
theorem d_T_partOf_13 : decode b_T_partOf 13 = .ok (.aload_n 0, 1) := by decide +kernel
theorem d_T_partOf_14 : decode b_T_partOf 14 = .ok (.getfield 30, 3) := by decide +kernel
theorem d_T_partOf_17 : decode b_T_partOf 17 = .ok (.iload_n 1, 1) := by decide +kernel
theorem d_T_partOf_18 : decode b_T_partOf 18 = .ok (.iaload, 1) := by decide +kernel
theorem d_T_partOf_19 : decode b_T_partOf 19 = .ok (.if_icmp .lt 5, 3) := by decide +kernel
theorem d_T_partOf_22 : decode b_T_partOf 22 = .ok (.iconst (-1), 1) := by decide +kernel
theorem d_T_partOf_23 : decode b_T_partOf 23 = .ok (.ireturn, 1) := by decide +kernel
theorem d_T_partOf_24 : decode b_T_partOf 24 = .ok (.aload_n 0, 1) := by decide +kernel
theorem d_T_partOf_25 : decode b_T_partOf 25 = .ok (.getfield 9, 3) := by decide +kernel
theorem d_T_partOf_28 : decode b_T_partOf 28 = .ok (.iload_n 1, 1) := by decide +kernel
theorem d_T_partOf_29 : decode b_T_partOf 29 = .ok (.iaload, 1) := by decide +kernel
theorem d_T_partOf_30 : decode b_T_partOf 30 = .ok (.iconst 1, 1) := by decide +kernel
theorem d_T_partOf_31 : decode b_T_partOf 31 = .ok (.if_icmp .ne 5, 3) := by decide +kernel
theorem d_T_partOf_34 : decode b_T_partOf 34 = .ok (.iload_n 1, 1) := by decide +kernel
theorem d_T_partOf_35 : decode b_T_partOf 35 = .ok (.ireturn, 1) := by decide +kernel
theorem d_T_partOf_36 : decode b_T_partOf 36 = .ok (.aload_n 0, 1) := by decide +kernel
theorem d_T_partOf_37 : decode b_T_partOf 37 = .ok (.getfield 27, 3) := by decide +kernel
theorem d_T_partOf_40 : decode b_T_partOf 40 = .ok (.iload_n 1, 1) := by decide +kernel
theorem d_T_partOf_41 : decode b_T_partOf 41 = .ok (.iaload, 1) := by decide +kernel
theorem d_T_partOf_42 : decode b_T_partOf 42 = .ok (.iload_n 2, 1) := by decide +kernel
theorem d_T_partOf_43 : decode b_T_partOf 43 = .ok (.iadd, 1) := by decide +kernel
theorem d_T_partOf_44 : decode b_T_partOf 44 = .ok (.istore_n 3, 1) := by decide +kernel
theorem d_T_partOf_45 : decode b_T_partOf 45 = .ok (.iload_n 3, 1) := by decide +kernel
theorem d_T_partOf_46 : decode b_T_partOf 46 = .ok (.ifCond .lt 29, 3) := by decide +kernel
theorem d_T_partOf_49 : decode b_T_partOf 49 = .ok (.iload_n 3, 1) := by decide +kernel
theorem d_T_partOf_50 : decode b_T_partOf 50 = .ok (.aload_n 0, 1) := by decide +kernel
theorem d_T_partOf_51 : decode b_T_partOf 51 = .ok (.getfield 36, 3) := by decide +kernel
theorem d_T_partOf_54 : decode b_T_partOf 54 = .ok (.if_icmp .ge 21, 3) := by decide +kernel
theorem d_T_partOf_57 : decode b_T_partOf 57 = .ok (.iload_n 3, 1) := by decide +kernel
theorem d_T_partOf_58 : decode b_T_partOf 58 = .ok (.aload_n 0, 1) := by decide +kernel
theorem d_T_partOf_59 : decode b_T_partOf 59 = .ok (.getfield 33, 3) := by decide +kernel
theorem d_T_partOf_62 : decode b_T_partOf 62 = .ok (.arraylength, 1) := by decide +kernel
theorem d_T_partOf_63 : decode b_T_partOf 63 = .ok (.if_icmp .ge 12, 3) := by decide +kernel
theorem d_T_partOf_66 : decode b_T_partOf 66 = .ok (.aload_n 0, 1) := by decide +kernel
theorem d_T_partOf_67 : decode b_T_partOf 67 = .ok (.getfield 33, 3) := by decide +kernel
theorem d_T_partOf_70 : decode b_T_partOf 70 = .ok (.iload_n 3, 1) := by decide +kernel
theorem d_T_partOf_71 : decode b_T_partOf 71 = .ok (.iaload, 1) := by decide +kernel
theorem d_T_partOf_72 : decode b_T_partOf 72 = .ok (.goto 4, 3) := by decide +kernel
theorem d_T_partOf_75 : decode b_T_partOf 75 = .ok (.iconst (-1), 1) := by decide +kernel
theorem d_T_partOf_76 : decode b_T_partOf 76 = .ok (.ireturn, 1) := by decide +kernel
theorem d_T_argumentAt_0 : decode b_T_argumentAt 0 = .ok (.aload_n 0, 1) := by decide +kernel
theorem d_T_argumentAt_1 : decode b_T_argumentAt 1 = .ok (.iload_n 1, 1) := by decide +kernel
theorem d_T_argumentAt_2 : decode b_T_argumentAt 2 = .ok (.invokevirtual 59, 3) := by decide +kernel
theorem d_T_argumentAt_5 : decode b_T_argumentAt 5 = .ok (.ifCond .eq 12, 3) := by decide +kernel
theorem d_T_argumentAt_8 : decode b_T_argumentAt 8 = .ok (.aload_n 0, 1) := by decide +kernel
theorem d_T_argumentAt_9 : decode b_T_argumentAt 9 = .ok (.getfield 18, 3) := by decide +kernel
theorem d_T_argumentAt_12 : decode b_T_argumentAt 12 = .ok (.iload_n 1, 1) := by decide +kernel
theorem d_T_argumentAt_13 : decode b_T_argumentAt 13 = .ok (.iaload, 1) := by decide +kernel
theorem d_T_argumentAt_14 : decode b_T_argumentAt 14 = .ok (.goto 4, 3) := by decide +kernel
theorem d_T_argumentAt_17 : decode b_T_argumentAt 17 = .ok (.iconst 0, 1) := by decide +kernel
theorem d_T_argumentAt_18 : decode b_T_argumentAt 18 = .ok (.ireturn, 1) := by decide +kernel
theorem d_T_hasParts_0 : decode b_T_hasParts 0 = .ok (.iconst 0, 1) := by decide +kernel
theorem d_T_hasParts_1 : decode b_T_hasParts 1 = .ok (.istore 4, 2) := by decide +kernel
theorem d_T_hasParts_3 : decode b_T_hasParts 3 = .ok (.iload 4, 2) := by decide +kernel
theorem d_T_hasParts_5 : decode b_T_hasParts 5 = .ok (.aload_n 0, 1) := by decide +kernel
theorem d_T_hasParts_6 : decode b_T_hasParts 6 = .ok (.getfield 30, 3) := by decide +kernel
theorem d_T_hasParts_9 : decode b_T_hasParts 9 = .ok (.iload_n 1, 1) := by decide +kernel
theorem d_T_hasParts_10 : decode b_T_hasParts 10 = .ok (.iaload, 1) := by decide +kernel
theorem d_T_hasParts_11 : decode b_T_hasParts 11 = .ok (.if_icmp .ge 36, 3) := by decide +kernel
theorem d_T_hasParts_14 : decode b_T_hasParts 14 = .ok (.iload_n 3, 1) := by decide +kernel
theorem d_T_hasParts_15 : decode b_T_hasParts 15 = .ok (.iload 4, 2) := by decide +kernel
theorem d_T_hasParts_17 : decode b_T_hasParts 17 = .ok (.iadd, 1) := by decide +kernel
theorem d_T_hasParts_18 : decode b_T_hasParts 18 = .ok (.aload_n 2, 1) := by decide +kernel
theorem d_T_hasParts_19 : decode b_T_hasParts 19 = .ok (.arraylength, 1) := by decide +kernel
theorem d_T_hasParts_20 : decode b_T_hasParts 20 = .ok (.if_icmp .ge 27, 3) := by decide +kernel
theorem d_T_hasParts_23 : decode b_T_hasParts 23 = .ok (.aload_n 0, 1) := by decide +kernel
theorem d_T_hasParts_24 : decode b_T_hasParts 24 = .ok (.iload_n 1, 1) := by decide +kernel
theorem d_T_hasParts_25 : decode b_T_hasParts 25 = .ok (.iload 4, 2) := by decide +kernel
theorem d_T_hasParts_27 : decode b_T_hasParts 27 = .ok (.invokevirtual 82, 3) := by decide +kernel
theorem d_T_hasParts_30 : decode b_T_hasParts 30 = .ok (.aload_n 2, 1) := by decide +kernel
theorem d_T_hasParts_31 : decode b_T_hasParts 31 = .ok (.iload_n 3, 1) := by decide +kernel
theorem d_T_hasParts_32 : decode b_T_hasParts 32 = .ok (.iload 4, 2) := by decide +kernel
theorem d_T_hasParts_34 : decode b_T_hasParts 34 = .ok (.iadd, 1) := by decide +kernel
theorem d_T_hasParts_35 : decode b_T_hasParts 35 = .ok (.iaload, 1) := by decide +kernel
theorem d_T_hasParts_36 : decode b_T_hasParts 36 = .ok (.if_icmp .eq 5, 3) := by decide +kernel
theorem d_T_hasParts_39 : decode b_T_hasParts 39 = .ok (.iconst 0, 1) := by decide +kernel
theorem d_T_hasParts_40 : decode b_T_hasParts 40 = .ok (.ireturn, 1) := by decide +kernel
theorem d_T_hasParts_41 : decode b_T_hasParts 41 = .ok (.iinc 4 1, 3) := by decide +kernel
theorem d_T_hasParts_44 : decode b_T_hasParts 44 = .ok (.goto (-41), 3) := by decide +kernel
theorem d_T_hasParts_47 : decode b_T_hasParts 47 = .ok (.iconst 1, 1) := by decide +kernel
theorem d_T_hasParts_48 : decode b_T_hasParts 48 = .ok (.ireturn, 1) := by decide +kernel
theorem d_T_findIntersection_0 : decode b_T_findIntersection 0 = .ok (.iconst 0, 1) := by decide +kernel
theorem d_T_findIntersection_1 : decode b_T_findIntersection 1 = .ok (.istore 4, 2) := by decide +kernel
theorem d_T_findIntersection_3 : decode b_T_findIntersection 3 = .ok (.iload 4, 2) := by decide +kernel
theorem d_T_findIntersection_5 : decode b_T_findIntersection 5 = .ok (.aload_n 0, 1) := by decide +kernel
theorem d_T_findIntersection_6 : decode b_T_findIntersection 6 = .ok (.getfield 40, 3) := by decide +kernel
theorem d_T_findIntersection_9 : decode b_T_findIntersection 9 = .ok (.if_icmp .ge 45, 3) := by decide +kernel
theorem d_T_findIntersection_12 : decode b_T_findIntersection 12 = .ok (.aload_n 0, 1) := by decide +kernel
theorem d_T_findIntersection_13 : decode b_T_findIntersection 13 = .ok (.getfield 9, 3) := by decide +kernel
theorem d_T_findIntersection_16 : decode b_T_findIntersection 16 = .ok (.iload 4, 2) := by decide +kernel
theorem d_T_findIntersection_18 : decode b_T_findIntersection 18 = .ok (.iaload, 1) := by decide +kernel
theorem d_T_findIntersection_19 : decode b_T_findIntersection 19 = .ok (.iconst 3, 1) := by decide +kernel
theorem d_T_findIntersection_20 : decode b_T_findIntersection 20 = .ok (.if_icmp .ne 28, 3) := by decide +kernel
theorem d_T_findIntersection_23 : decode b_T_findIntersection 23 = .ok (.aload_n 0, 1) := by decide +kernel
theorem d_T_findIntersection_24 : decode b_T_findIntersection 24 = .ok (.getfield 30, 3) := by decide +kernel
theorem d_T_findIntersection_27 : decode b_T_findIntersection 27 = .ok (.iload 4, 2) := by decide +kernel
theorem d_T_findIntersection_29 : decode b_T_findIntersection 29 = .ok (.iaload, 1) := by decide +kernel
theorem d_T_findIntersection_30 : decode b_T_findIntersection 30 = .ok (.iload_n 3, 1) := by decide +kernel
theorem d_T_findIntersection_31 : decode b_T_findIntersection 31 = .ok (.if_icmp .ne 17, 3) := by decide +kernel
theorem d_T_findIntersection_34 : decode b_T_findIntersection 34 = .ok (.aload_n 0, 1) := by decide +kernel
theorem d_T_findIntersection_35 : decode b_T_findIntersection 35 = .ok (.iload 4, 2) := by decide +kernel
theorem d_T_findIntersection_37 : decode b_T_findIntersection 37 = .ok (.aload_n 1, 1) := by decide +kernel
theorem d_T_findIntersection_38 : decode b_T_findIntersection 38 = .ok (.iload_n 2, 1) := by decide +kernel
theorem d_T_findIntersection_39 : decode b_T_findIntersection 39 = .ok (.invokevirtual 78, 3) := by decide +kernel
theorem d_T_findIntersection_42 : decode b_T_findIntersection 42 = .ok (.ifCond .eq 6, 3) := by decide +kernel
theorem d_T_findIntersection_45 : decode b_T_findIntersection 45 = .ok (.iload 4, 2) := by decide +kernel
theorem d_T_findIntersection_47 : decode b_T_findIntersection 47 = .ok (.ireturn, 1) := by decide +kernel
theorem d_T_findIntersection_48 : decode b_T_findIntersection 48 = .ok (.iinc 4 1, 3) := by decide +kernel
theorem d_T_findIntersection_51 : decode b_T_findIntersection 51 = .ok (.goto (-48), 3) := by decide +kernel
theorem d_T_findIntersection_54 : decode b_T_findIntersection 54 = .ok (.iconst (-1), 1) := by decide +kernel
theorem d_T_findIntersection_55 : decode b_T_findIntersection 55 = .ok (.ireturn, 1) := by decide +kernel
theorem d_T_appendParts_0 : decode b_T_appendParts 0 = .ok (.aload_n 0, 1) := by decide +kernel
theorem d_T_appendParts_1 : decode b_T_appendParts 1 = .ok (.getfield 36, 3) := by decide +kernel
theorem d_T_appendParts_4 : decode b_T_appendParts 4 = .ok (.iload 4, 2) := by decide +kernel
theorem d_T_appendParts_6 : decode b_T_appendParts 6 = .ok (.iadd, 1) := by decide +kernel
theorem d_T_appendParts_7 : decode b_T_appendParts 7 = .ok (.aload_n 0, 1) := by decide +kernel
theorem d_T_appendParts_8 : decode b_T_appendParts 8 = .ok (.getfield 33, 3) := by decide +kernel
theorem d_T_appendParts_11 : decode b_T_appendParts 11 = .ok (.arraylength, 1) := by decide +kernel
theorem d_T_appendParts_12 : decode b_T_appendParts 12 = .ok (.if_icmp .le 23, 3) := by decide +kernel
theorem d_T_appendParts_15 : decode b_T_appendParts 15 = .ok (.aload_n 0, 1) := by decide +kernel
theorem d_T_appendParts_16 : decode b_T_appendParts 16 = .ok (.aload_n 0, 1) := by decide +kernel
theorem d_T_appendParts_17 : decode b_T_appendParts 17 = .ok (.getfield 33, 3) := by decide +kernel
theorem d_T_appendParts_20 : decode b_T_appendParts 20 = .ok (.iconst 2, 1) := by decide +kernel
theorem d_T_appendParts_21 : decode b_T_appendParts 21 = .ok (.aload_n 0, 1) := by decide +kernel
theorem d_T_appendParts_22 : decode b_T_appendParts 22 = .ok (.getfield 36, 3) := by decide +kernel
theorem d_T_appendParts_25 : decode b_T_appendParts 25 = .ok (.iload 4, 2) := by decide +kernel
theorem d_T_appendParts_27 : decode b_T_appendParts 27 = .ok (.iadd, 1) := by decide +kernel
theorem d_T_appendParts_28 : decode b_T_appendParts 28 = .ok (.imul, 1) := by decide +kernel
theorem d_T_appendParts_29 : decode b_T_appendParts 29 = .ok (.invokestatic 85, 3) := by decide +kernel
theorem d_T_appendParts_32 : decode b_T_appendParts 32 = .ok (.putfield 33, 3) := by decide +kernel
theorem d_T_appendParts_35 : decode b_T_appendParts 35 = .ok (.aload_n 2, 1) := by decide +kernel
theorem d_T_appendParts_36 : decode b_T_appendParts 36 = .ok (.iload_n 3, 1) := by decide +kernel
theorem d_T_appendParts_37 : decode b_T_appendParts 37 = .ok (.aload_n 0, 1) := by decide +kernel
theorem d_T_appendParts_38 : decode b_T_appendParts 38 = .ok (.getfield 33, 3) := by decide +kernel
theorem d_T_appendParts_41 : decode b_T_appendParts 41 = .ok (.aload_n 0, 1) := by decide +kernel
theorem d_T_appendParts_42 : decode b_T_appendParts 42 = .ok (.getfield 36, 3) := by decide +kernel
theorem d_T_appendParts_45 : decode b_T_appendParts 45 = .ok (.iload 4, 2) := by decide +kernel
theorem d_T_appendParts_47 : decode b_T_appendParts 47 = .ok (.invokestatic 91, 3) := by decide +kernel
theorem d_T_appendParts_50 : decode b_T_appendParts 50 = .ok (.aload_n 0, 1) := by decide +kernel
theorem d_T_appendParts_51 : decode b_T_appendParts 51 = .ok (.getfield 27, 3) := by decide +kernel
theorem d_T_appendParts_54 : decode b_T_appendParts 54 = .ok (.iload_n 1, 1) := by decide +kernel
theorem d_T_appendParts_55 : decode b_T_appendParts 55 = .ok (.aload_n 0, 1) := by decide +kernel
theorem d_T_appendParts_56 : decode b_T_appendParts 56 = .ok (.getfield 36, 3) := by decide +kernel
theorem d_T_appendParts_59 : decode b_T_appendParts 59 = .ok (.iastore, 1) := by decide +kernel
theorem d_T_appendParts_60 : decode b_T_appendParts 60 = .ok (.aload_n 0, 1) := by decide +kernel
theorem d_T_appendParts_61 : decode b_T_appendParts 61 = .ok (.getfield 30, 3) := by decide +kernel
theorem d_T_appendParts_64 : decode b_T_appendParts 64 = .ok (.iload_n 1, 1) := by decide +kernel
theorem d_T_appendParts_65 : decode b_T_appendParts 65 = .ok (.iload 4, 2) := by decide +kernel
theorem d_T_appendParts_67 : decode b_T_appendParts 67 = .ok (.iastore, 1) := by decide +kernel
theorem d_T_appendParts_68 : decode b_T_appendParts 68 = .ok (.aload_n 0, 1) := by decide +kernel
theorem d_T_appendParts_69 : decode b_T_appendParts 69 = .ok (.dup, 1) := by decide +kernel
theorem d_T_appendParts_70 : decode b_T_appendParts 70 = .ok (.getfield 36, 3) := by decide +kernel
theorem d_T_appendParts_73 : decode b_T_appendParts 73 = .ok (.iload 4, 2) := by decide +kernel
theorem d_T_appendParts_75 : decode b_T_appendParts 75 = .ok (.iadd, 1) := by decide +kernel
theorem d_T_appendParts_76 : decode b_T_appendParts 76 = .ok (.putfield 36, 3) := by decide +kernel
theorem d_T_appendParts_79 : decode b_T_appendParts 79 = .ok (.return_, 1) := by decide +kernel
theorem d_T_makeIntersection_0 : decode b_T_makeIntersection 0 = .ok (.aload_n 1, 1) := by decide +kernel
theorem d_T_makeIntersection_1 : decode b_T_makeIntersection 1 = .ok (.ifnull 20, 3) := by decide +kernel
theorem d_T_makeIntersection_4 : decode b_T_makeIntersection 4 = .ok (.iload_n 2, 1) := by decide +kernel
theorem d_T_makeIntersection_5 : decode b_T_makeIntersection 5 = .ok (.ifCond .lt 16, 3) := by decide +kernel
theorem d_T_makeIntersection_8 : decode b_T_makeIntersection 8 = .ok (.iload_n 3, 1) := by decide +kernel
theorem d_T_makeIntersection_9 : decode b_T_makeIntersection 9 = .ok (.iconst 1, 1) := by decide +kernel
theorem d_T_makeIntersection_10 : decode b_T_makeIntersection 10 = .ok (.if_icmp .lt 11, 3) := by decide +kernel
theorem d_T_makeIntersection_13 : decode b_T_makeIntersection 13 = .ok (.iload_n 3, 1) := by decide +kernel
theorem d_T_makeIntersection_14 : decode b_T_makeIntersection 14 = .ok (.aload_n 1, 1) := by decide +kernel
theorem d_T_makeIntersection_15 : decode b_T_makeIntersection 15 = .ok (.arraylength, 1) := by decide +kernel
theorem d_T_makeIntersection_16 : decode b_T_makeIntersection 16 = .ok (.iload_n 2, 1) := by decide +kernel
theorem d_T_makeIntersection_17 : decode b_T_makeIntersection 17 = .ok (.isub, 1) := by decide +kernel
theorem d_T_makeIntersection_18 : decode b_T_makeIntersection 18 = .ok (.if_icmp .le 5, 3) := by decide +kernel
theorem d_T_makeIntersection_21 : decode b_T_makeIntersection 21 = .ok (.iconst (-1), 1) := by decide +kernel
theorem d_T_makeIntersection_22 : decode b_T_makeIntersection 22 = .ok (.ireturn, 1) := by decide +kernel
theorem d_T_makeIntersection_23 : decode b_T_makeIntersection 23 = .ok (.iload_n 3, 1) := by decide +kernel
theorem d_T_makeIntersection_24 : decode b_T_makeIntersection 24 = .ok (.iconst 1, 1) := by decide +kernel
theorem d_T_makeIntersection_25 : decode b_T_makeIntersection 25 = .ok (.if_icmp .ne 7, 3) := by decide +kernel
theorem d_T_makeIntersection_28 : decode b_T_makeIntersection 28 = .ok (.aload_n 1, 1) := by decide +kernel
theorem d_T_makeIntersection_29 : decode b_T_makeIntersection 29 = .ok (.iload_n 2, 1) := by decide +kernel
theorem d_T_makeIntersection_30 : decode b_T_makeIntersection 30 = .ok (.iaload, 1) := by decide +kernel
theorem d_T_makeIntersection_31 : decode b_T_makeIntersection 31 = .ok (.ireturn, 1) := by decide +kernel
theorem d_T_makeIntersection_32 : decode b_T_makeIntersection 32 = .ok (.iconst 1, 1) := by decide +kernel
theorem d_T_makeIntersection_33 : decode b_T_makeIntersection 33 = .ok (.istore 4, 2) := by decide +kernel
theorem d_T_makeIntersection_35 : decode b_T_makeIntersection 35 = .ok (.iconst 0, 1) := by decide +kernel
theorem d_T_makeIntersection_36 : decode b_T_makeIntersection 36 = .ok (.istore 5, 2) := by decide +kernel
theorem d_T_makeIntersection_38 : decode b_T_makeIntersection 38 = .ok (.iload 5, 2) := by decide +kernel
theorem d_T_makeIntersection_40 : decode b_T_makeIntersection 40 = .ok (.iload_n 3, 1) := by decide +kernel
theorem d_T_makeIntersection_41 : decode b_T_makeIntersection 41 = .ok (.if_icmp .ge 24, 3) := by decide +kernel
theorem d_T_makeIntersection_44 : decode b_T_makeIntersection 44 = .ok (.iload 4, 2) := by decide +kernel
theorem d_T_makeIntersection_46 : decode b_T_makeIntersection 46 = .ok (.aload_n 0, 1) := by decide +kernel
theorem d_T_makeIntersection_47 : decode b_T_makeIntersection 47 = .ok (.aload_n 1, 1) := by decide +kernel
theorem d_T_makeIntersection_48 : decode b_T_makeIntersection 48 = .ok (.iload_n 2, 1) := by decide +kernel
theorem d_T_makeIntersection_49 : decode b_T_makeIntersection 49 = .ok (.iload 5, 2) := by decide +kernel
theorem d_T_makeIntersection_51 : decode b_T_makeIntersection 51 = .ok (.iadd, 1) := by decide +kernel
theorem d_T_makeIntersection_52 : decode b_T_makeIntersection 52 = .ok (.iaload, 1) := by decide +kernel
theorem d_T_makeIntersection_53 : decode b_T_makeIntersection 53 = .ok (.invokevirtual 67, 3) := by decide +kernel
theorem d_T_makeIntersection_56 : decode b_T_makeIntersection 56 = .ok (.iadd, 1) := by decide +kernel
theorem d_T_makeIntersection_57 : decode b_T_makeIntersection 57 = .ok (.istore 4, 2) := by decide +kernel
theorem d_T_makeIntersection_59 : decode b_T_makeIntersection 59 = .ok (.iinc 5 1, 3) := by decide +kernel
theorem d_T_makeIntersection_62 : decode b_T_makeIntersection 62 = .ok (.goto (-24), 3) := by decide +kernel
theorem d_T_makeIntersection_65 : decode b_T_makeIntersection 65 = .ok (.aload_n 0, 1) := by decide +kernel
theorem d_T_makeIntersection_66 : decode b_T_makeIntersection 66 = .ok (.aload_n 1, 1) := by decide +kernel
theorem d_T_makeIntersection_67 : decode b_T_makeIntersection 67 = .ok (.iload_n 2, 1) := by decide +kernel
theorem d_T_makeIntersection_68 : decode b_T_makeIntersection 68 = .ok (.iload_n 3, 1) := by decide +kernel
theorem d_T_makeIntersection_69 : decode b_T_makeIntersection 69 = .ok (.invokevirtual 70, 3) := by decide +kernel
theorem d_T_makeIntersection_72 : decode b_T_makeIntersection 72 = .ok (.istore 5, 2) := by decide +kernel
theorem d_T_makeIntersection_74 : decode b_T_makeIntersection 74 = .ok (.iload 5, 2) := by decide +kernel
theorem d_T_makeIntersection_76 : decode b_T_makeIntersection 76 = .ok (.iconst (-1), 1) := by decide +kernel
theorem d_T_makeIntersection_77 : decode b_T_makeIntersection 77 = .ok (.if_icmp .eq 6, 3) := by decide +kernel
theorem d_T_makeIntersection_80 : decode b_T_makeIntersection 80 = .ok (.iload 5, 2) := by decide +kernel
theorem d_T_makeIntersection_82 : decode b_T_makeIntersection 82 = .ok (.ireturn, 1) := by decide +kernel
theorem d_T_makeIntersection_83 : decode b_T_makeIntersection 83 = .ok (.aload_n 0, 1) := by decide +kernel
theorem d_T_makeIntersection_84 : decode b_T_makeIntersection 84 = .ok (.iconst 3, 1) := by decide +kernel
theorem d_T_makeIntersection_85 : decode b_T_makeIntersection 85 = .ok (.iload 4, 2) := by decide +kernel
theorem d_T_makeIntersection_87 : decode b_T_makeIntersection 87 = .ok (.invokevirtual 49, 3) := by decide +kernel
theorem d_T_makeIntersection_90 : decode b_T_makeIntersection 90 = .ok (.istore 6, 2) := by decide +kernel
theorem d_T_makeIntersection_92 : decode b_T_makeIntersection 92 = .ok (.iload 6, 2) := by decide +kernel
theorem d_T_makeIntersection_94 : decode b_T_makeIntersection 94 = .ok (.iconst (-1), 1) := by decide +kernel
theorem d_T_makeIntersection_95 : decode b_T_makeIntersection 95 = .ok (.if_icmp .eq 12, 3) := by decide +kernel
theorem d_T_makeIntersection_98 : decode b_T_makeIntersection 98 = .ok (.aload_n 0, 1) := by decide +kernel
theorem d_T_makeIntersection_99 : decode b_T_makeIntersection 99 = .ok (.iload 6, 2) := by decide +kernel
theorem d_T_makeIntersection_101 : decode b_T_makeIntersection 101 = .ok (.aload_n 1, 1) := by decide +kernel
theorem d_T_makeIntersection_102 : decode b_T_makeIntersection 102 = .ok (.iload_n 2, 1) := by decide +kernel
theorem d_T_makeIntersection_103 : decode b_T_makeIntersection 103 = .ok (.iload_n 3, 1) := by decide +kernel
theorem d_T_makeIntersection_104 : decode b_T_makeIntersection 104 = .ok (.invokevirtual 74, 3) := by decide +kernel
theorem d_T_makeIntersection_107 : decode b_T_makeIntersection 107 = .ok (.iload 6, 2) := by decide +kernel
theorem d_T_makeIntersection_109 : decode b_T_makeIntersection 109 = .ok (.ireturn, 1) := by decide +kernel
theorem d_T_count_0 : decode b_T_count 0 = .ok (.aload_n 0, 1) := by decide +kernel
theorem d_T_count_1 : decode b_T_count 1 = .ok (.getfield 40, 3) := by decide +kernel
theorem d_T_count_4 : decode b_T_count 4 = .ok (.ireturn, 1) := by decide +kernel
