theorem d_L_declare_0 : decode b_L_declare 0 = .ok (.aload_n 0, 1) := by decide +kernel
theorem d_L_declare_1 : decode b_L_declare 1 = .ok (.getfield 25, 3) := by decide +kernel
theorem d_L_declare_4 : decode b_L_declare 4 = .ok (.invokevirtual 50, 3) := by decide +kernel
theorem d_L_declare_7 : decode b_L_declare 7 = .ok (.bipush 30, 2) := by decide +kernel
theorem d_L_declare_9 : decode b_L_declare 9 = .ok (.if_icmp .lt 13, 3) := by decide +kernel
theorem d_L_declare_12 : decode b_L_declare 12 = .ok (.new 54, 3) := by decide +kernel
theorem d_L_declare_15 : decode b_L_declare 15 = .ok (.dup, 1) := by decide +kernel
theorem d_L_declare_16 : decode b_L_declare 16 = .ok (.ldc 56, 2) := by decide +kernel
theorem d_L_declare_18 : decode b_L_declare 18 = .ok (.invokespecial 58, 3) := by decide +kernel
theorem d_L_declare_21 : decode b_L_declare 21 = .ok (.athrow, 1) := by decide +kernel
theorem d_L_declare_22 : decode b_L_declare 22 = .ok (.iload_n 2, 1) := by decide +kernel
theorem d_L_declare_23 : decode b_L_declare 23 = .ok (.ifCond .eq 25, 3) := by decide +kernel
theorem d_L_declare_26 : decode b_L_declare 26 = .ok (.aload_n 0, 1) := by decide +kernel
theorem d_L_declare_27 : decode b_L_declare 27 = .ok (.getfield 25, 3) := by decide +kernel
theorem d_L_declare_30 : decode b_L_declare 30 = .ok (.invokevirtual 61, 3) := by decide +kernel
theorem d_L_declare_33 : decode b_L_declare 33 = .ok (.bipush 6, 2) := by decide +kernel
theorem d_L_declare_35 : decode b_L_declare 35 = .ok (.if_icmp .lt 13, 3) := by decide +kernel
theorem d_L_declare_38 : decode b_L_declare 38 = .ok (.new 54, 3) := by decide +kernel
theorem d_L_declare_41 : decode b_L_declare 41 = .ok (.dup, 1) := by decide +kernel
theorem d_L_declare_42 : decode b_L_declare 42 = .ok (.ldc 64, 2) := by decide +kernel
theorem d_L_declare_44 : decode b_L_declare 44 = .ok (.invokespecial 58, 3) := by decide +kernel
theorem d_L_declare_47 : decode b_L_declare 47 = .ok (.athrow, 1) := by decide +kernel
theorem d_L_declare_48 : decode b_L_declare 48 = .ok (.aload_n 0, 1) := by decide +kernel
theorem d_L_declare_49 : decode b_L_declare 49 = .ok (.getfield 25, 3) := by decide +kernel
theorem d_L_declare_52 : decode b_L_declare 52 = .ok (.iload_n 1, 1) := by decide +kernel
theorem d_L_declare_53 : decode b_L_declare 53 = .ok (.iload_n 2, 1) := by decide +kernel
theorem d_L_declare_54 : decode b_L_declare 54 = .ok (.invokevirtual 66, 3) := by decide +kernel
theorem d_L_declare_57 : decode b_L_declare 57 = .ok (.ireturn, 1) := by decide +kernel
theorem d_L_requireClass_0 : decode b_L_requireClass 0 = .ok (.aload_n 0, 1) := by decide +kernel
theorem d_L_requireClass_1 : decode b_L_requireClass 1 = .ok (.getfield 25, 3) := by decide +kernel
theorem d_L_requireClass_4 : decode b_L_requireClass 4 = .ok (.iload_n 1, 1) := by decide +kernel
theorem d_L_requireClass_5 : decode b_L_requireClass 5 = .ok (.invokevirtual 220, 3) := by decide +kernel
theorem d_L_requireClass_8 : decode b_L_requireClass 8 = .ok (.ifCond .ne 13, 3) := by decide +kernel
theorem d_L_requireClass_11 : decode b_L_requireClass 11 = .ok (.new 176, 3) := by decide +kernel
theorem d_L_requireClass_14 : decode b_L_requireClass 14 = .ok (.dup, 1) := by decide +kernel
theorem d_L_requireClass_15 : decode b_L_requireClass 15 = .ok (.ldc 223, 2) := by decide +kernel
theorem d_L_requireClass_17 : decode b_L_requireClass 17 = .ok (.invokespecial 180, 3) := by decide +kernel
theorem d_L_requireClass_20 : decode b_L_requireClass 20 = .ok (.athrow, 1) := by decide +kernel
theorem d_L_requireClass_21 : decode b_L_requireClass 21 = .ok (.return_, 1) := by decide +kernel
theorem d_L_requireType_0 : decode b_L_requireType 0 = .ok (.aload_n 0, 1) := by decide +kernel
theorem d_L_requireType_1 : decode b_L_requireType 1 = .ok (.getfield 32, 3) := by decide +kernel
theorem d_L_requireType_4 : decode b_L_requireType 4 = .ok (.iload_n 1, 1) := by decide +kernel
theorem d_L_requireType_5 : decode b_L_requireType 5 = .ok (.invokevirtual 225, 3) := by decide +kernel
theorem d_L_requireType_8 : decode b_L_requireType 8 = .ok (.ifCond .ne 13, 3) := by decide +kernel
theorem d_L_requireType_11 : decode b_L_requireType 11 = .ok (.new 176, 3) := by decide +kernel
theorem d_L_requireType_14 : decode b_L_requireType 14 = .ok (.dup, 1) := by decide +kernel
theorem d_L_requireType_15 : decode b_L_requireType 15 = .ok (.ldc 226, 2) := by decide +kernel
theorem d_L_requireType_17 : decode b_L_requireType 17 = .ok (.invokespecial 180, 3) := by decide +kernel
theorem d_L_requireType_20 : decode b_L_requireType 20 = .ok (.athrow, 1) := by decide +kernel
theorem d_L_requireType_21 : decode b_L_requireType 21 = .ok (.return_, 1) := by decide +kernel
theorem d_L_isTellable_0 : decode b_L_isTellable 0 = .ok (.aload_n 0, 1) := by decide +kernel
theorem d_L_isTellable_1 : decode b_L_isTellable 1 = .ok (.getfield 25, 3) := by decide +kernel
theorem d_L_isTellable_4 : decode b_L_isTellable 4 = .ok (.iload_n 1, 1) := by decide +kernel
theorem d_L_isTellable_5 : decode b_L_isTellable 5 = .ok (.invokevirtual 103, 3) := by decide +kernel
theorem d_L_isTellable_8 : decode b_L_isTellable 8 = .ok (.ifCond .ne 14, 3) := by decide +kernel
theorem d_L_isTellable_11 : decode b_L_isTellable 11 = .ok (.iload_n 2, 1) := by decide +kernel
theorem d_L_isTellable_12 : decode b_L_isTellable 12 = .ok (.iconst (-1), 1) := by decide +kernel
theorem d_L_isTellable_13 : decode b_L_isTellable 13 = .ok (.if_icmp .ne 7, 3) := by decide +kernel
theorem d_L_isTellable_16 : decode b_L_isTellable 16 = .ok (.iconst 1, 1) := by decide +kernel
theorem d_L_isTellable_17 : decode b_L_isTellable 17 = .ok (.goto 4, 3) := by decide +kernel
theorem d_L_isTellable_20 : decode b_L_isTellable 20 = .ok (.iconst 0, 1) := by decide +kernel
theorem d_L_isTellable_21 : decode b_L_isTellable 21 = .ok (.ireturn, 1) := by decide +kernel
theorem d_L_isTellable_22 : decode b_L_isTellable 22 = .ok (.iload_n 2, 1) := by decide +kernel
theorem d_L_isTellable_23 : decode b_L_isTellable 23 = .ok (.bipush (-2), 2) := by decide +kernel
theorem d_L_isTellable_25 : decode b_L_isTellable 25 = .ok (.if_icmp .ne 18, 3) := by decide +kernel
theorem d_L_isTellable_28 : decode b_L_isTellable 28 = .ok (.aload_n 0, 1) := by decide +kernel
theorem d_L_isTellable_29 : decode b_L_isTellable 29 = .ok (.getfield 25, 3) := by decide +kernel
theorem d_L_isTellable_32 : decode b_L_isTellable 32 = .ok (.aload_n 0, 1) := by decide +kernel
theorem d_L_isTellable_33 : decode b_L_isTellable 33 = .ok (.getfield 25, 3) := by decide +kernel
theorem d_L_isTellable_36 : decode b_L_isTellable 36 = .ok (.invokevirtual 236, 3) := by decide +kernel
theorem d_L_isTellable_39 : decode b_L_isTellable 39 = .ok (.invokevirtual 103, 3) := by decide +kernel
theorem d_L_isTellable_42 : decode b_L_isTellable 42 = .ok (.ireturn, 1) := by decide +kernel
theorem d_L_isTellable_43 : decode b_L_isTellable 43 = .ok (.iload_n 2, 1) := by decide +kernel
theorem d_L_isTellable_44 : decode b_L_isTellable 44 = .ok (.ifCond .lt 18, 3) := by decide +kernel
theorem d_L_isTellable_47 : decode b_L_isTellable 47 = .ok (.aload_n 0, 1) := by decide +kernel
theorem d_L_isTellable_48 : decode b_L_isTellable 48 = .ok (.getfield 32, 3) := by decide +kernel
theorem d_L_isTellable_51 : decode b_L_isTellable 51 = .ok (.iload_n 2, 1) := by decide +kernel
theorem d_L_isTellable_52 : decode b_L_isTellable 52 = .ok (.invokevirtual 108, 3) := by decide +kernel
theorem d_L_isTellable_55 : decode b_L_isTellable 55 = .ok (.ifCond .eq 7, 3) := by decide +kernel
theorem d_L_isTellable_58 : decode b_L_isTellable 58 = .ok (.iconst 1, 1) := by decide +kernel
theorem d_L_isTellable_59 : decode b_L_isTellable 59 = .ok (.goto 4, 3) := by decide +kernel
theorem d_L_isTellable_62 : decode b_L_isTellable 62 = .ok (.iconst 0, 1) := by decide +kernel
theorem d_L_isTellable_63 : decode b_L_isTellable 63 = .ok (.ireturn, 1) := by decide +kernel
theorem d_L_above_0 : decode b_L_above 0 = .ok (.aload_n 0, 1) := by decide +kernel
theorem d_L_above_1 : decode b_L_above 1 = .ok (.iload_n 1, 1) := by decide +kernel
theorem d_L_above_2 : decode b_L_above 2 = .ok (.invokevirtual 70, 3) := by decide +kernel
theorem d_L_above_5 : decode b_L_above 5 = .ok (.iload_n 2, 1) := by decide +kernel
theorem d_L_above_6 : decode b_L_above 6 = .ok (.ifCond .lt 8, 3) := by decide +kernel
theorem d_L_above_9 : decode b_L_above 9 = .ok (.aload_n 0, 1) := by decide +kernel
theorem d_L_above_10 : decode b_L_above 10 = .ok (.iload_n 2, 1) := by decide +kernel
theorem d_L_above_11 : decode b_L_above 11 = .ok (.invokevirtual 74, 3) := by decide +kernel
theorem d_L_above_14 : decode b_L_above 14 = .ok (.aload_n 0, 1) := by decide +kernel
theorem d_L_above_15 : decode b_L_above 15 = .ok (.getfield 25, 3) := by decide +kernel
theorem d_L_above_18 : decode b_L_above 18 = .ok (.iload_n 1, 1) := by decide +kernel
theorem d_L_above_19 : decode b_L_above 19 = .ok (.invokevirtual 77, 3) := by decide +kernel
theorem d_L_above_22 : decode b_L_above 22 = .ok (.ifCond .ne 13, 3) := by decide +kernel
theorem d_L_above_25 : decode b_L_above 25 = .ok (.new 54, 3) := by decide +kernel
theorem d_L_above_28 : decode b_L_above 28 = .ok (.dup, 1) := by decide +kernel
theorem d_L_above_29 : decode b_L_above 29 = .ok (.ldc 81, 2) := by decide +kernel
theorem d_L_above_31 : decode b_L_above 31 = .ok (.invokespecial 58, 3) := by decide +kernel
theorem d_L_above_34 : decode b_L_above 34 = .ok (.athrow, 1) := by decide +kernel
theorem d_L_above_35 : decode b_L_above 35 = .ok (.aload_n 0, 1) := by decide +kernel
theorem d_L_above_36 : decode b_L_above 36 = .ok (.iload_n 1, 1) := by decide +kernel
theorem d_L_above_37 : decode b_L_above 37 = .ok (.iload_n 2, 1) := by decide +kernel
theorem d_L_above_38 : decode b_L_above 38 = .ok (.invokevirtual 83, 3) := by decide +kernel
theorem d_L_above_41 : decode b_L_above 41 = .ok (.ifCond .ne 13, 3) := by decide +kernel
theorem d_L_above_44 : decode b_L_above 44 = .ok (.new 87, 3) := by decide +kernel
theorem d_L_above_47 : decode b_L_above 47 = .ok (.dup, 1) := by decide +kernel
theorem d_L_above_48 : decode b_L_above 48 = .ok (.ldc 89, 2) := by decide +kernel
theorem d_L_above_50 : decode b_L_above 50 = .ok (.invokespecial 91, 3) := by decide +kernel
theorem d_L_above_53 : decode b_L_above 53 = .ok (.athrow, 1) := by decide +kernel
theorem d_L_above_54 : decode b_L_above 54 = .ok (.aload_n 0, 1) := by decide +kernel
theorem d_L_above_55 : decode b_L_above 55 = .ok (.getfield 25, 3) := by decide +kernel
theorem d_L_above_58 : decode b_L_above 58 = .ok (.iload_n 1, 1) := by decide +kernel
theorem d_L_above_59 : decode b_L_above 59 = .ok (.iload_n 2, 1) := by decide +kernel
theorem d_L_above_60 : decode b_L_above 60 = .ok (.invokevirtual 92, 3) := by decide +kernel
theorem d_L_above_63 : decode b_L_above 63 = .ok (.ifCond .eq 13, 3) := by decide +kernel
theorem d_L_above_66 : decode b_L_above 66 = .ok (.new 54, 3) := by decide +kernel
theorem d_L_above_69 : decode b_L_above 69 = .ok (.dup, 1) := by decide +kernel
theorem d_L_above_70 : decode b_L_above 70 = .ok (.ldc 95, 2) := by decide +kernel
theorem d_L_above_72 : decode b_L_above 72 = .ok (.invokespecial 58, 3) := by decide +kernel
theorem d_L_above_75 : decode b_L_above 75 = .ok (.athrow, 1) := by decide +kernel
theorem d_L_above_76 : decode b_L_above 76 = .ok (.aload_n 0, 1) := by decide +kernel
theorem d_L_above_77 : decode b_L_above 77 = .ok (.getfield 39, 3) := by decide +kernel
theorem d_L_above_80 : decode b_L_above 80 = .ok (.invokevirtual 97, 3) := by decide +kernel
theorem d_L_above_83 : decode b_L_above 83 = .ok (.aload_n 0, 1) := by decide +kernel
theorem d_L_above_84 : decode b_L_above 84 = .ok (.getfield 25, 3) := by decide +kernel
theorem d_L_above_87 : decode b_L_above 87 = .ok (.iload_n 1, 1) := by decide +kernel
theorem d_L_above_88 : decode b_L_above 88 = .ok (.iload_n 2, 1) := by decide +kernel
theorem d_L_above_89 : decode b_L_above 89 = .ok (.invokevirtual 100, 3) := by decide +kernel
theorem d_L_above_92 : decode b_L_above 92 = .ok (.ireturn, 1) := by decide +kernel
theorem d_L_settled_0 : decode b_L_settled 0 = .ok (.iload_n 1, 1) := by decide +kernel
theorem d_L_settled_1 : decode b_L_settled 1 = .ok (.iconst (-1), 1) := by decide +kernel
theorem d_L_settled_2 : decode b_L_settled 2 = .ok (.if_icmp .ne 20, 3) := by decide +kernel
theorem d_L_settled_5 : decode b_L_settled 5 = .ok (.aload_n 0, 1) := by decide +kernel
theorem d_L_settled_6 : decode b_L_settled 6 = .ok (.getfield 32, 3) := by decide +kernel
theorem d_L_settled_9 : decode b_L_settled 9 = .ok (.invokevirtual 228, 3) := by decide +kernel
theorem d_L_settled_12 : decode b_L_settled 12 = .ok (.new 54, 3) := by decide +kernel
theorem d_L_settled_15 : decode b_L_settled 15 = .ok (.dup, 1) := by decide +kernel
theorem d_L_settled_16 : decode b_L_settled 16 = .ok (.ldc 231, 2) := by decide +kernel
theorem d_L_settled_18 : decode b_L_settled 18 = .ok (.invokespecial 58, 3) := by decide +kernel
theorem d_L_settled_21 : decode b_L_settled 21 = .ok (.athrow, 1) := by decide +kernel
theorem d_L_settled_22 : decode b_L_settled 22 = .ok (.aload_n 0, 1) := by decide +kernel
theorem d_L_settled_23 : decode b_L_settled 23 = .ok (.getfield 32, 3) := by decide +kernel
theorem d_L_settled_26 : decode b_L_settled 26 = .ok (.invokevirtual 233, 3) := by decide +kernel
theorem d_L_settled_29 : decode b_L_settled 29 = .ok (.iload_n 1, 1) := by decide +kernel
theorem d_L_settled_30 : decode b_L_settled 30 = .ok (.ireturn, 1) := by decide +kernel
theorem d_L_named_0 : decode b_L_named 0 = .ok (.aload_n 0, 1) := by decide +kernel
theorem d_L_named_1 : decode b_L_named 1 = .ok (.iload_n 1, 1) := by decide +kernel
theorem d_L_named_2 : decode b_L_named 2 = .ok (.invokevirtual 70, 3) := by decide +kernel
theorem d_L_named_5 : decode b_L_named 5 = .ok (.iload_n 2, 1) := by decide +kernel
theorem d_L_named_6 : decode b_L_named 6 = .ok (.ifCond .eq 8, 3) := by decide +kernel
theorem d_L_named_9 : decode b_L_named 9 = .ok (.aload_n 0, 1) := by decide +kernel
theorem d_L_named_10 : decode b_L_named 10 = .ok (.iload_n 3, 1) := by decide +kernel
theorem d_L_named_11 : decode b_L_named 11 = .ok (.invokevirtual 74, 3) := by decide +kernel
theorem d_L_named_14 : decode b_L_named 14 = .ok (.iload_n 2, 1) := by decide +kernel
theorem d_L_named_15 : decode b_L_named 15 = .ok (.iconst 1, 1) := by decide +kernel
theorem d_L_named_16 : decode b_L_named 16 = .ok (.if_icmp .eq 8, 3) := by decide +kernel
theorem d_L_named_19 : decode b_L_named 19 = .ok (.iload_n 2, 1) := by decide +kernel
theorem d_L_named_20 : decode b_L_named 20 = .ok (.iconst 2, 1) := by decide +kernel
theorem d_L_named_21 : decode b_L_named 21 = .ok (.if_icmp .ne 7, 3) := by decide +kernel
theorem d_L_named_24 : decode b_L_named 24 = .ok (.iconst 1, 1) := by decide +kernel
theorem d_L_named_25 : decode b_L_named 25 = .ok (.goto 4, 3) := by decide +kernel
theorem d_L_named_28 : decode b_L_named 28 = .ok (.iconst 0, 1) := by decide +kernel
theorem d_L_named_29 : decode b_L_named 29 = .ok (.istore 4, 2) := by decide +kernel
theorem d_L_named_31 : decode b_L_named 31 = .ok (.iload 4, 2) := by decide +kernel
theorem d_L_named_33 : decode b_L_named 33 = .ok (.ifCond .ne 7, 3) := by decide +kernel
theorem d_L_named_36 : decode b_L_named 36 = .ok (.iload_n 2, 1) := by decide +kernel
theorem d_L_named_37 : decode b_L_named 37 = .ok (.ifCond .ne 16, 3) := by decide +kernel
theorem d_L_named_40 : decode b_L_named 40 = .ok (.iload 4, 2) := by decide +kernel
theorem d_L_named_42 : decode b_L_named 42 = .ok (.aload_n 0, 1) := by decide +kernel
theorem d_L_named_43 : decode b_L_named 43 = .ok (.getfield 25, 3) := by decide +kernel
theorem d_L_named_46 : decode b_L_named 46 = .ok (.iload_n 1, 1) := by decide +kernel
theorem d_L_named_47 : decode b_L_named 47 = .ok (.invokevirtual 103, 3) := by decide +kernel
theorem d_L_named_50 : decode b_L_named 50 = .ok (.if_icmp .eq 13, 3) := by decide +kernel
theorem d_L_named_53 : decode b_L_named 53 = .ok (.new 87, 3) := by decide +kernel
theorem d_L_named_56 : decode b_L_named 56 = .ok (.dup, 1) := by decide +kernel
theorem d_L_named_57 : decode b_L_named 57 = .ok (.ldc 106, 2) := by decide +kernel
theorem d_L_named_59 : decode b_L_named 59 = .ok (.invokespecial 91, 3) := by decide +kernel
theorem d_L_named_62 : decode b_L_named 62 = .ok (.athrow, 1) := by decide +kernel
theorem d_L_named_63 : decode b_L_named 63 = .ok (.iload 4, 2) := by decide +kernel
theorem d_L_named_65 : decode b_L_named 65 = .ok (.ifCond .eq 24, 3) := by decide +kernel
theorem d_L_named_68 : decode b_L_named 68 = .ok (.aload_n 0, 1) := by decide +kernel
theorem d_L_named_69 : decode b_L_named 69 = .ok (.getfield 32, 3) := by decide +kernel
theorem d_L_named_72 : decode b_L_named 72 = .ok (.iload_n 3, 1) := by decide +kernel
theorem d_L_named_73 : decode b_L_named 73 = .ok (.invokevirtual 108, 3) := by decide +kernel
theorem d_L_named_76 : decode b_L_named 76 = .ok (.ifCond .ne 13, 3) := by decide +kernel
theorem d_L_named_79 : decode b_L_named 79 = .ok (.new 87, 3) := by decide +kernel
theorem d_L_named_82 : decode b_L_named 82 = .ok (.dup, 1) := by decide +kernel
theorem d_L_named_83 : decode b_L_named 83 = .ok (.ldc 112, 2) := by decide +kernel
theorem d_L_named_85 : decode b_L_named 85 = .ok (.invokespecial 91, 3) := by decide +kernel
theorem d_L_named_88 : decode b_L_named 88 = .ok (.athrow, 1) := by decide +kernel
theorem d_L_named_89 : decode b_L_named 89 = .ok (.aload_n 0, 1) := by decide +kernel
theorem d_L_named_90 : decode b_L_named 90 = .ok (.aload_n 0, 1) := by decide +kernel
theorem d_L_named_91 : decode b_L_named 91 = .ok (.getfield 32, 3) := by decide +kernel
theorem d_L_named_94 : decode b_L_named 94 = .ok (.iload_n 1, 1) := by decide +kernel
theorem d_L_named_95 : decode b_L_named 95 = .ok (.iload_n 2, 1) := by decide +kernel
theorem d_L_named_96 : decode b_L_named 96 = .ok (.iload_n 3, 1) := by decide +kernel
theorem d_L_named_97 : decode b_L_named 97 = .ok (.invokestatic 114, 3) := by decide +kernel
theorem d_L_named_100 : decode b_L_named 100 = .ok (.invokevirtual 117, 3) := by decide +kernel
theorem d_L_named_103 : decode b_L_named 103 = .ok (.invokevirtual 120, 3) := by decide +kernel
theorem d_L_named_106 : decode b_L_named 106 = .ok (.ireturn, 1) := by decide +kernel
theorem d_L_array_0 : decode b_L_array 0 = .ok (.aload_n 0, 1) := by decide +kernel
theorem d_L_array_1 : decode b_L_array 1 = .ok (.iload_n 1, 1) := by decide +kernel
theorem d_L_array_2 : decode b_L_array 2 = .ok (.invokevirtual 74, 3) := by decide +kernel
theorem d_L_array_5 : decode b_L_array 5 = .ok (.aload_n 0, 1) := by decide +kernel
theorem d_L_array_6 : decode b_L_array 6 = .ok (.aload_n 0, 1) := by decide +kernel
theorem d_L_array_7 : decode b_L_array 7 = .ok (.getfield 32, 3) := by decide +kernel
theorem d_L_array_10 : decode b_L_array 10 = .ok (.iload_n 1, 1) := by decide +kernel
theorem d_L_array_11 : decode b_L_array 11 = .ok (.invokevirtual 123, 3) := by decide +kernel
theorem d_L_array_14 : decode b_L_array 14 = .ok (.invokevirtual 120, 3) := by decide +kernel
theorem d_L_array_17 : decode b_L_array 17 = .ok (.ireturn, 1) := by decide +kernel
theorem d_L_isArrayOfOthers_0 : decode b_L_isArrayOfOthers 0 = .ok (.aload_n 0, 1) := by decide +kernel
theorem d_L_isArrayOfOthers_1 : decode b_L_isArrayOfOthers 1 = .ok (.getfield 32, 3) := by decide +kernel
theorem d_L_isArrayOfOthers_4 : decode b_L_isArrayOfOthers 4 = .ok (.iload_n 1, 1) := by decide +kernel
theorem d_L_isArrayOfOthers_5 : decode b_L_isArrayOfOthers 5 = .ok (.invokevirtual 108, 3) := by decide +kernel
theorem d_L_isArrayOfOthers_8 : decode b_L_isArrayOfOthers 8 = .ok (.iconst 2, 1) := by decide +kernel
theorem d_L_isArrayOfOthers_9 : decode b_L_isArrayOfOthers 9 = .ok (.if_icmp .ne 25, 3) := by decide +kernel
theorem d_L_isArrayOfOthers_12 : decode b_L_isArrayOfOthers 12 = .ok (.aload_n 0, 1) := by decide +kernel
theorem d_L_isArrayOfOthers_13 : decode b_L_isArrayOfOthers 13 = .ok (.getfield 32, 3) := by decide +kernel
theorem d_L_isArrayOfOthers_16 : decode b_L_isArrayOfOthers 16 = .ok (.aload_n 0, 1) := by decide +kernel
theorem d_L_isArrayOfOthers_17 : decode b_L_isArrayOfOthers 17 = .ok (.getfield 32, 3) := by decide +kernel
theorem d_L_isArrayOfOthers_20 : decode b_L_isArrayOfOthers 20 = .ok (.iload_n 1, 1) := by decide +kernel
theorem d_L_isArrayOfOthers_21 : decode b_L_isArrayOfOthers 21 = .ok (.invokevirtual 162, 3) := by decide +kernel
theorem d_L_isArrayOfOthers_24 : decode b_L_isArrayOfOthers 24 = .ok (.invokevirtual 108, 3) := by decide +kernel
theorem d_L_isArrayOfOthers_27 : decode b_L_isArrayOfOthers 27 = .ok (.ifCond .eq 7, 3) := by decide +kernel
theorem d_L_isArrayOfOthers_30 : decode b_L_isArrayOfOthers 30 = .ok (.iconst 1, 1) := by decide +kernel
theorem d_L_isArrayOfOthers_31 : decode b_L_isArrayOfOthers 31 = .ok (.goto 4, 3) := by decide +kernel
theorem d_L_isArrayOfOthers_34 : decode b_L_isArrayOfOthers 34 = .ok (.iconst 0, 1) := by decide +kernel
theorem d_L_isArrayOfOthers_35 : decode b_L_isArrayOfOthers 35 = .ok (.ireturn, 1) := by decide +kernel
theorem d_L_foundIn_0 : decode b_L_foundIn 0 = .ok (.aload_n 0, 1) := by decide +kernel
theorem d_L_foundIn_1 : decode b_L_foundIn 1 = .ok (.getfield 32, 3) := by decide +kernel
theorem d_L_foundIn_4 : decode b_L_foundIn 4 = .ok (.iload_n 1, 1) := by decide +kernel
theorem d_L_foundIn_5 : decode b_L_foundIn 5 = .ok (.invokevirtual 108, 3) := by decide +kernel
theorem d_L_foundIn_8 : decode b_L_foundIn 8 = .ok (.lookupswitch 50 #[(0, 28), (2, 47)], 28) := by decide +kernel
theorem d_L_foundIn_36 : decode b_L_foundIn 36 = .ok (.aload_n 0, 1) := by decide +kernel
theorem d_L_foundIn_37 : decode b_L_foundIn 37 = .ok (.getfield 25, 3) := by decide +kernel
theorem d_L_foundIn_40 : decode b_L_foundIn 40 = .ok (.aload_n 0, 1) := by decide +kernel
theorem d_L_foundIn_41 : decode b_L_foundIn 41 = .ok (.getfield 32, 3) := by decide +kernel
theorem d_L_foundIn_44 : decode b_L_foundIn 44 = .ok (.iload_n 1, 1) := by decide +kernel
theorem d_L_foundIn_45 : decode b_L_foundIn 45 = .ok (.invokestatic 150, 3) := by decide +kernel
theorem d_L_foundIn_48 : decode b_L_foundIn 48 = .ok (.invokevirtual 153, 3) := by decide +kernel
theorem d_L_foundIn_51 : decode b_L_foundIn 51 = .ok (.invokevirtual 270, 3) := by decide +kernel
theorem d_L_foundIn_54 : decode b_L_foundIn 54 = .ok (.ireturn, 1) := by decide +kernel
theorem d_L_foundIn_55 : decode b_L_foundIn 55 = .ok (.bipush 7, 2) := by decide +kernel
theorem d_L_foundIn_57 : decode b_L_foundIn 57 = .ok (.ireturn, 1) := by decide +kernel
theorem d_L_foundIn_58 : decode b_L_foundIn 58 = .ok (.iconst 0, 1) := by decide +kernel
theorem d_L_foundIn_59 : decode b_L_foundIn 59 = .ok (.istore_n 2, 1) := by decide +kernel
theorem d_L_foundIn_60 : decode b_L_foundIn 60 = .ok (.aload_n 0, 1) := by decide +kernel
theorem d_L_foundIn_61 : decode b_L_foundIn 61 = .ok (.getfield 32, 3) := by decide +kernel
theorem d_L_foundIn_64 : decode b_L_foundIn 64 = .ok (.iload_n 1, 1) := by decide +kernel
theorem d_L_foundIn_65 : decode b_L_foundIn 65 = .ok (.invokevirtual 168, 3) := by decide +kernel
theorem d_L_foundIn_68 : decode b_L_foundIn 68 = .ok (.istore_n 3, 1) := by decide +kernel
theorem d_L_foundIn_69 : decode b_L_foundIn 69 = .ok (.iconst 0, 1) := by decide +kernel
theorem d_L_foundIn_70 : decode b_L_foundIn 70 = .ok (.istore 4, 2) := by decide +kernel
theorem d_L_foundIn_72 : decode b_L_foundIn 72 = .ok (.iload 4, 2) := by decide +kernel
theorem d_L_foundIn_74 : decode b_L_foundIn 74 = .ok (.iload_n 3, 1) := by decide +kernel
theorem d_L_foundIn_75 : decode b_L_foundIn 75 = .ok (.if_icmp .ge 36, 3) := by decide +kernel
theorem d_L_foundIn_78 : decode b_L_foundIn 78 = .ok (.iload_n 2, 1) := by decide +kernel
theorem d_L_foundIn_79 : decode b_L_foundIn 79 = .ok (.aload_n 0, 1) := by decide +kernel
theorem d_L_foundIn_80 : decode b_L_foundIn 80 = .ok (.getfield 25, 3) := by decide +kernel
theorem d_L_foundIn_83 : decode b_L_foundIn 83 = .ok (.aload_n 0, 1) := by decide +kernel
theorem d_L_foundIn_84 : decode b_L_foundIn 84 = .ok (.getfield 32, 3) := by decide +kernel
theorem d_L_foundIn_87 : decode b_L_foundIn 87 = .ok (.aload_n 0, 1) := by decide +kernel
theorem d_L_foundIn_88 : decode b_L_foundIn 88 = .ok (.getfield 32, 3) := by decide +kernel
theorem d_L_foundIn_91 : decode b_L_foundIn 91 = .ok (.iload_n 1, 1) := by decide +kernel
theorem d_L_foundIn_92 : decode b_L_foundIn 92 = .ok (.iload 4, 2) := by decide +kernel
theorem d_L_foundIn_94 : decode b_L_foundIn 94 = .ok (.invokevirtual 181, 3) := by decide +kernel
theorem d_L_foundIn_97 : decode b_L_foundIn 97 = .ok (.invokevirtual 153, 3) := by decide +kernel
theorem d_L_foundIn_100 : decode b_L_foundIn 100 = .ok (.invokevirtual 270, 3) := by decide +kernel
theorem d_L_foundIn_103 : decode b_L_foundIn 103 = .ok (.ior, 1) := by decide +kernel
theorem d_L_foundIn_104 : decode b_L_foundIn 104 = .ok (.istore_n 2, 1) := by decide +kernel
theorem d_L_foundIn_105 : decode b_L_foundIn 105 = .ok (.iinc 4 1, 3) := by decide +kernel
theorem d_L_foundIn_108 : decode b_L_foundIn 108 = .ok (.goto (-36), 3) := by decide +kernel
theorem d_L_foundIn_111 : decode b_L_foundIn 111 = .ok (.iload_n 2, 1) := by decide +kernel
theorem d_L_foundIn_112 : decode b_L_foundIn 112 = .ok (.ireturn, 1) := by decide +kernel
theorem d_L_commonOf_0 : decode b_L_commonOf 0 = .ok (.aload_n 0, 1) := by decide +kernel
theorem d_L_commonOf_1 : decode b_L_commonOf 1 = .ok (.iload_n 1, 1) := by decide +kernel
theorem d_L_commonOf_2 : decode b_L_commonOf 2 = .ok (.invokevirtual 267, 3) := by decide +kernel
theorem d_L_commonOf_5 : decode b_L_commonOf 5 = .ok (.aload_n 0, 1) := by decide +kernel
theorem d_L_commonOf_6 : decode b_L_commonOf 6 = .ok (.iload_n 2, 1) := by decide +kernel
theorem d_L_commonOf_7 : decode b_L_commonOf 7 = .ok (.invokevirtual 267, 3) := by decide +kernel
theorem d_L_commonOf_10 : decode b_L_commonOf 10 = .ok (.iand, 1) := by decide +kernel
theorem d_L_commonOf_11 : decode b_L_commonOf 11 = .ok (.ireturn, 1) := by decide +kernel
theorem d_L_countHolders_0 : decode b_L_countHolders 0 = .ok (.iconst 1, 1) := by decide +kernel
theorem d_L_countHolders_1 : decode b_L_countHolders 1 = .ok (.aload_n 0, 1) := by decide +kernel
theorem d_L_countHolders_2 : decode b_L_countHolders 2 = .ok (.getfield 32, 3) := by decide +kernel
theorem d_L_countHolders_5 : decode b_L_countHolders 5 = .ok (.iload_n 1, 1) := by decide +kernel
theorem d_L_countHolders_6 : decode b_L_countHolders 6 = .ok (.invokevirtual 168, 3) := by decide +kernel
theorem d_L_countHolders_9 : decode b_L_countHolders 9 = .ok (.invokestatic 15, 3) := by decide +kernel
theorem d_L_countHolders_12 : decode b_L_countHolders 12 = .ok (.ireturn, 1) := by decide +kernel
theorem d_L_find_0 : decode b_L_find 0 = .ok (.aload_n 0, 1) := by decide +kernel
theorem d_L_find_1 : decode b_L_find 1 = .ok (.getfield 32, 3) := by decide +kernel
theorem d_L_find_4 : decode b_L_find 4 = .ok (.iload_n 1, 1) := by decide +kernel
theorem d_L_find_5 : decode b_L_find 5 = .ok (.invokevirtual 108, 3) := by decide +kernel
theorem d_L_find_8 : decode b_L_find 8 = .ok (.iconst 2, 1) := by decide +kernel
theorem d_L_find_9 : decode b_L_find 9 = .ok (.if_icmp .ne 23, 3) := by decide +kernel
theorem d_L_find_12 : decode b_L_find 12 = .ok (.iload_n 2, 1) := by decide +kernel
theorem d_L_find_13 : decode b_L_find 13 = .ok (.ifCond .eq 13, 3) := by decide +kernel
theorem d_L_find_16 : decode b_L_find 16 = .ok (.iload_n 2, 1) := by decide +kernel
theorem d_L_find_17 : decode b_L_find 17 = .ok (.iconst 1, 1) := by decide +kernel
theorem d_L_find_18 : decode b_L_find 18 = .ok (.if_icmp .eq 8, 3) := by decide +kernel
theorem d_L_find_21 : decode b_L_find 21 = .ok (.iload_n 2, 1) := by decide +kernel
theorem d_L_find_22 : decode b_L_find 22 = .ok (.iconst 2, 1) := by decide +kernel
theorem d_L_find_23 : decode b_L_find 23 = .ok (.if_icmp .ne 7, 3) := by decide +kernel
theorem d_L_find_26 : decode b_L_find 26 = .ok (.iconst 0, 1) := by decide +kernel
theorem d_L_find_27 : decode b_L_find 27 = .ok (.goto 4, 3) := by decide +kernel
theorem d_L_find_30 : decode b_L_find 30 = .ok (.iconst (-1), 1) := by decide +kernel
theorem d_L_find_31 : decode b_L_find 31 = .ok (.ireturn, 1) := by decide +kernel
theorem d_L_find_32 : decode b_L_find 32 = .ok (.aload_n 0, 1) := by decide +kernel
theorem d_L_find_33 : decode b_L_find 33 = .ok (.iload_n 1, 1) := by decide +kernel
theorem d_L_find_34 : decode b_L_find 34 = .ok (.invokevirtual 239, 3) := by decide +kernel
theorem d_L_find_37 : decode b_L_find 37 = .ok (.istore_n 3, 1) := by decide +kernel
theorem d_L_find_38 : decode b_L_find 38 = .ok (.iconst 0, 1) := by decide +kernel
theorem d_L_find_39 : decode b_L_find 39 = .ok (.istore 4, 2) := by decide +kernel
theorem d_L_find_41 : decode b_L_find 41 = .ok (.iload 4, 2) := by decide +kernel
theorem d_L_find_43 : decode b_L_find 43 = .ok (.iload_n 3, 1) := by decide +kernel
theorem d_L_find_44 : decode b_L_find 44 = .ok (.if_icmp .ge 76, 3) := by decide +kernel
theorem d_L_find_47 : decode b_L_find 47 = .ok (.aload_n 0, 1) := by decide +kernel
theorem d_L_find_48 : decode b_L_find 48 = .ok (.getfield 32, 3) := by decide +kernel
theorem d_L_find_51 : decode b_L_find 51 = .ok (.iload_n 1, 1) := by decide +kernel
theorem d_L_find_52 : decode b_L_find 52 = .ok (.invokevirtual 108, 3) := by decide +kernel
theorem d_L_find_55 : decode b_L_find 55 = .ok (.ifCond .ne 10, 3) := by decide +kernel
theorem d_L_find_58 : decode b_L_find 58 = .ok (.iload_n 1, 1) := by decide +kernel
theorem d_L_find_59 : decode b_L_find 59 = .ok (.invokestatic 150, 3) := by decide +kernel
theorem d_L_find_62 : decode b_L_find 62 = .ok (.goto 13, 3) := by decide +kernel
theorem d_L_find_65 : decode b_L_find 65 = .ok (.aload_n 0, 1) := by decide +kernel
theorem d_L_find_66 : decode b_L_find 66 = .ok (.getfield 32, 3) := by decide +kernel
theorem d_L_find_69 : decode b_L_find 69 = .ok (.iload_n 1, 1) := by decide +kernel
theorem d_L_find_70 : decode b_L_find 70 = .ok (.iload 4, 2) := by decide +kernel
theorem d_L_find_72 : decode b_L_find 72 = .ok (.invokevirtual 181, 3) := by decide +kernel
theorem d_L_find_75 : decode b_L_find 75 = .ok (.istore 5, 2) := by decide +kernel
theorem d_L_find_77 : decode b_L_find 77 = .ok (.aload_n 0, 1) := by decide +kernel
theorem d_L_find_78 : decode b_L_find 78 = .ok (.getfield 25, 3) := by decide +kernel
theorem d_L_find_81 : decode b_L_find 81 = .ok (.aload_n 0, 1) := by decide +kernel
theorem d_L_find_82 : decode b_L_find 82 = .ok (.getfield 32, 3) := by decide +kernel
theorem d_L_find_85 : decode b_L_find 85 = .ok (.iload 5, 2) := by decide +kernel
theorem d_L_find_87 : decode b_L_find 87 = .ok (.invokevirtual 153, 3) := by decide +kernel
theorem d_L_find_90 : decode b_L_find 90 = .ok (.aload_n 0, 1) := by decide +kernel
theorem d_L_find_91 : decode b_L_find 91 = .ok (.getfield 32, 3) := by decide +kernel
theorem d_L_find_94 : decode b_L_find 94 = .ok (.iload 5, 2) := by decide +kernel
theorem d_L_find_96 : decode b_L_find 96 = .ok (.invokevirtual 156, 3) := by decide +kernel
theorem d_L_find_99 : decode b_L_find 99 = .ok (.iload_n 2, 1) := by decide +kernel
theorem d_L_find_100 : decode b_L_find 100 = .ok (.invokevirtual 242, 3) := by decide +kernel
theorem d_L_find_103 : decode b_L_find 103 = .ok (.istore 6, 2) := by decide +kernel
theorem d_L_find_105 : decode b_L_find 105 = .ok (.iload 6, 2) := by decide +kernel
theorem d_L_find_107 : decode b_L_find 107 = .ok (.iconst (-1), 1) := by decide +kernel
theorem d_L_find_108 : decode b_L_find 108 = .ok (.if_icmp .eq 6, 3) := by decide +kernel
theorem d_L_find_111 : decode b_L_find 111 = .ok (.iload 6, 2) := by decide +kernel
theorem d_L_find_113 : decode b_L_find 113 = .ok (.ireturn, 1) := by decide +kernel
theorem d_L_find_114 : decode b_L_find 114 = .ok (.iinc 4 1, 3) := by decide +kernel
theorem d_L_find_117 : decode b_L_find 117 = .ok (.goto (-76), 3) := by decide +kernel
theorem d_L_find_120 : decode b_L_find 120 = .ok (.iconst (-1), 1) := by decide +kernel
theorem d_L_find_121 : decode b_L_find 121 = .ok (.ireturn, 1) := by decide +kernel
theorem d_L_boundArgument_0 : decode b_L_boundArgument 0 = .ok (.iload_n 1, 1) := by decide +kernel
theorem d_L_boundArgument_1 : decode b_L_boundArgument 1 = .ok (.iload_n 2, 1) := by decide +kernel
theorem d_L_boundArgument_2 : decode b_L_boundArgument 2 = .ok (.if_icmp .ne 13, 3) := by decide +kernel
theorem d_L_boundArgument_5 : decode b_L_boundArgument 5 = .ok (.iload_n 1, 1) := by decide +kernel
theorem d_L_boundArgument_6 : decode b_L_boundArgument 6 = .ok (.invokestatic 159, 3) := by decide +kernel
theorem d_L_boundArgument_9 : decode b_L_boundArgument 9 = .ok (.iconst 2, 1) := by decide +kernel
theorem d_L_boundArgument_10 : decode b_L_boundArgument 10 = .ok (.if_icmp .eq 5, 3) := by decide +kernel
theorem d_L_boundArgument_13 : decode b_L_boundArgument 13 = .ok (.iload_n 1, 1) := by decide +kernel
theorem d_L_boundArgument_14 : decode b_L_boundArgument 14 = .ok (.ireturn, 1) := by decide +kernel
theorem d_L_boundArgument_15 : decode b_L_boundArgument 15 = .ok (.iload_n 3, 1) := by decide +kernel
theorem d_L_boundArgument_16 : decode b_L_boundArgument 16 = .ok (.ifCond .ne 15, 3) := by decide +kernel
theorem d_L_boundArgument_19 : decode b_L_boundArgument 19 = .ok (.aload_n 0, 1) := by decide +kernel
theorem d_L_boundArgument_20 : decode b_L_boundArgument 20 = .ok (.getfield 32, 3) := by decide +kernel
theorem d_L_boundArgument_23 : decode b_L_boundArgument 23 = .ok (.iconst 0, 1) := by decide +kernel
theorem d_L_boundArgument_24 : decode b_L_boundArgument 24 = .ok (.iconst 0, 1) := by decide +kernel
theorem d_L_boundArgument_25 : decode b_L_boundArgument 25 = .ok (.invokevirtual 117, 3) := by decide +kernel
theorem d_L_boundArgument_28 : decode b_L_boundArgument 28 = .ok (.goto 18, 3) := by decide +kernel
theorem d_L_boundArgument_31 : decode b_L_boundArgument 31 = .ok (.aload_n 0, 1) := by decide +kernel
theorem d_L_boundArgument_32 : decode b_L_boundArgument 32 = .ok (.iload_n 1, 1) := by decide +kernel
theorem d_L_boundArgument_33 : decode b_L_boundArgument 33 = .ok (.invokestatic 165, 3) := by decide +kernel
theorem d_L_boundArgument_36 : decode b_L_boundArgument 36 = .ok (.iload_n 2, 1) := by decide +kernel
theorem d_L_boundArgument_37 : decode b_L_boundArgument 37 = .ok (.invokestatic 165, 3) := by decide +kernel
theorem d_L_boundArgument_40 : decode b_L_boundArgument 40 = .ok (.iload_n 3, 1) := by decide +kernel
theorem d_L_boundArgument_41 : decode b_L_boundArgument 41 = .ok (.iconst 1, 1) := by decide +kernel
theorem d_L_boundArgument_42 : decode b_L_boundArgument 42 = .ok (.isub, 1) := by decide +kernel
theorem d_L_boundArgument_43 : decode b_L_boundArgument 43 = .ok (.invokevirtual 126, 3) := by decide +kernel
theorem d_L_boundArgument_46 : decode b_L_boundArgument 46 = .ok (.istore 4, 2) := by decide +kernel
theorem d_L_boundArgument_48 : decode b_L_boundArgument 48 = .ok (.iload 4, 2) := by decide +kernel
theorem d_L_boundArgument_50 : decode b_L_boundArgument 50 = .ok (.iconst (-1), 1) := by decide +kernel
theorem d_L_boundArgument_51 : decode b_L_boundArgument 51 = .ok (.if_icmp .ne 7, 3) := by decide +kernel
theorem d_L_boundArgument_54 : decode b_L_boundArgument 54 = .ok (.iconst (-1), 1) := by decide +kernel
theorem d_L_boundArgument_55 : decode b_L_boundArgument 55 = .ok (.goto 9, 3) := by decide +kernel
theorem d_L_boundArgument_58 : decode b_L_boundArgument 58 = .ok (.iconst 2, 1) := by decide +kernel
theorem d_L_boundArgument_59 : decode b_L_boundArgument 59 = .ok (.iload 4, 2) := by decide +kernel
theorem d_L_boundArgument_61 : decode b_L_boundArgument 61 = .ok (.invokestatic 114, 3) := by decide +kernel
theorem d_L_boundArgument_64 : decode b_L_boundArgument 64 = .ok (.ireturn, 1) := by decide +kernel
theorem d_L_boundByClasses_0 : decode b_L_boundByClasses 0 = .ok (.iload_n 3, 1) := by decide +kernel
theorem d_L_boundByClasses_1 : decode b_L_boundByClasses 1 = .ok (.ifCond .lt 8, 3) := by decide +kernel
theorem d_L_boundByClasses_4 : decode b_L_boundByClasses 4 = .ok (.iload_n 3, 1) := by decide +kernel
theorem d_L_boundByClasses_5 : decode b_L_boundByClasses 5 = .ok (.iconst 2, 1) := by decide +kernel
theorem d_L_boundByClasses_6 : decode b_L_boundByClasses 6 = .ok (.if_icmp .le 5, 3) := by decide +kernel
theorem d_L_boundByClasses_9 : decode b_L_boundByClasses 9 = .ok (.iconst (-1), 1) := by decide +kernel
theorem d_L_boundByClasses_10 : decode b_L_boundByClasses 10 = .ok (.ireturn, 1) := by decide +kernel
theorem d_L_boundByClasses_11 : decode b_L_boundByClasses 11 = .ok (.aload_n 0, 1) := by decide +kernel
theorem d_L_boundByClasses_12 : decode b_L_boundByClasses 12 = .ok (.getfield 25, 3) := by decide +kernel
theorem d_L_boundByClasses_15 : decode b_L_boundByClasses 15 = .ok (.aload_n 0, 1) := by decide +kernel
theorem d_L_boundByClasses_16 : decode b_L_boundByClasses 16 = .ok (.iload_n 1, 1) := by decide +kernel
theorem d_L_boundByClasses_17 : decode b_L_boundByClasses 17 = .ok (.iload_n 2, 1) := by decide +kernel
theorem d_L_boundByClasses_18 : decode b_L_boundByClasses 18 = .ok (.invokevirtual 184, 3) := by decide +kernel
theorem d_L_boundByClasses_21 : decode b_L_boundByClasses 21 = .ok (.invokevirtual 192, 3) := by decide +kernel
theorem d_L_boundByClasses_24 : decode b_L_boundByClasses 24 = .ok (.istore 4, 2) := by decide +kernel
theorem d_L_boundByClasses_26 : decode b_L_boundByClasses 26 = .ok (.iload_n 3, 1) := by decide +kernel
theorem d_L_boundByClasses_27 : decode b_L_boundByClasses 27 = .ok (.bipush 30, 2) := by decide +kernel
theorem d_L_boundByClasses_29 : decode b_L_boundByClasses 29 = .ok (.imul, 1) := by decide +kernel
theorem d_L_boundByClasses_30 : decode b_L_boundByClasses 30 = .ok (.istore 5, 2) := by decide +kernel
theorem d_L_boundByClasses_32 : decode b_L_boundByClasses 32 = .ok (.iconst 0, 1) := by decide +kernel
theorem d_L_boundByClasses_33 : decode b_L_boundByClasses 33 = .ok (.istore 6, 2) := by decide +kernel
theorem d_L_boundByClasses_35 : decode b_L_boundByClasses 35 = .ok (.iconst 0, 1) := by decide +kernel
theorem d_L_boundByClasses_36 : decode b_L_boundByClasses 36 = .ok (.istore 7, 2) := by decide +kernel
theorem d_L_boundByClasses_38 : decode b_L_boundByClasses 38 = .ok (.iload 7, 2) := by decide +kernel
theorem d_L_boundByClasses_40 : decode b_L_boundByClasses 40 = .ok (.bipush 30, 2) := by decide +kernel
theorem d_L_boundByClasses_42 : decode b_L_boundByClasses 42 = .ok (.if_icmp .ge 72, 3) := by decide +kernel
theorem d_L_boundByClasses_45 : decode b_L_boundByClasses 45 = .ok (.iload 4, 2) := by decide +kernel
theorem d_L_boundByClasses_47 : decode b_L_boundByClasses 47 = .ok (.iload 7, 2) := by decide +kernel
theorem d_L_boundByClasses_49 : decode b_L_boundByClasses 49 = .ok (.invokestatic 200, 3) := by decide +kernel
theorem d_L_boundByClasses_52 : decode b_L_boundByClasses 52 = .ok (.ifCond .eq 56, 3) := by decide +kernel
theorem d_L_boundByClasses_55 : decode b_L_boundByClasses 55 = .ok (.aload_n 0, 1) := by decide +kernel
theorem d_L_boundByClasses_56 : decode b_L_boundByClasses 56 = .ok (.getfield 32, 3) := by decide +kernel
theorem d_L_boundByClasses_59 : decode b_L_boundByClasses 59 = .ok (.iload 7, 2) := by decide +kernel
theorem d_L_boundByClasses_61 : decode b_L_boundByClasses 61 = .ok (.aload_n 0, 1) := by decide +kernel
theorem d_L_boundByClasses_62 : decode b_L_boundByClasses 62 = .ok (.aload_n 0, 1) := by decide +kernel
theorem d_L_boundByClasses_63 : decode b_L_boundByClasses 63 = .ok (.iload_n 1, 1) := by decide +kernel
theorem d_L_boundByClasses_64 : decode b_L_boundByClasses 64 = .ok (.iload 7, 2) := by decide +kernel
theorem d_L_boundByClasses_66 : decode b_L_boundByClasses 66 = .ok (.invokevirtual 147, 3) := by decide +kernel
theorem d_L_boundByClasses_69 : decode b_L_boundByClasses 69 = .ok (.aload_n 0, 1) := by decide +kernel
theorem d_L_boundByClasses_70 : decode b_L_boundByClasses 70 = .ok (.iload_n 2, 1) := by decide +kernel
theorem d_L_boundByClasses_71 : decode b_L_boundByClasses 71 = .ok (.iload 7, 2) := by decide +kernel
theorem d_L_boundByClasses_73 : decode b_L_boundByClasses 73 = .ok (.invokevirtual 147, 3) := by decide +kernel
theorem d_L_boundByClasses_76 : decode b_L_boundByClasses 76 = .ok (.iload_n 3, 1) := by decide +kernel
theorem d_L_boundByClasses_77 : decode b_L_boundByClasses 77 = .ok (.invokevirtual 264, 3) := by decide +kernel
theorem d_L_boundByClasses_80 : decode b_L_boundByClasses 80 = .ok (.invokevirtual 117, 3) := by decide +kernel
theorem d_L_boundByClasses_83 : decode b_L_boundByClasses 83 = .ok (.istore 8, 2) := by decide +kernel
theorem d_L_boundByClasses_85 : decode b_L_boundByClasses 85 = .ok (.iload 8, 2) := by decide +kernel
theorem d_L_boundByClasses_87 : decode b_L_boundByClasses 87 = .ok (.iconst (-1), 1) := by decide +kernel
theorem d_L_boundByClasses_88 : decode b_L_boundByClasses 88 = .ok (.if_icmp .ne 5, 3) := by decide +kernel
theorem d_L_boundByClasses_91 : decode b_L_boundByClasses 91 = .ok (.iconst (-1), 1) := by decide +kernel
theorem d_L_boundByClasses_92 : decode b_L_boundByClasses 92 = .ok (.ireturn, 1) := by decide +kernel
theorem d_L_boundByClasses_93 : decode b_L_boundByClasses 93 = .ok (.aload_n 0, 1) := by decide +kernel
theorem d_L_boundByClasses_94 : decode b_L_boundByClasses 94 = .ok (.getfield 43, 3) := by decide +kernel
theorem d_L_boundByClasses_97 : decode b_L_boundByClasses 97 = .ok (.iload 5, 2) := by decide +kernel
theorem d_L_boundByClasses_99 : decode b_L_boundByClasses 99 = .ok (.iload 6, 2) := by decide +kernel
theorem d_L_boundByClasses_101 : decode b_L_boundByClasses 101 = .ok (.iadd, 1) := by decide +kernel
theorem d_L_boundByClasses_102 : decode b_L_boundByClasses 102 = .ok (.iload 8, 2) := by decide +kernel
theorem d_L_boundByClasses_104 : decode b_L_boundByClasses 104 = .ok (.iastore, 1) := by decide +kernel
theorem d_L_boundByClasses_105 : decode b_L_boundByClasses 105 = .ok (.iinc 6 1, 3) := by decide +kernel
theorem d_L_boundByClasses_108 : decode b_L_boundByClasses 108 = .ok (.iinc 7 1, 3) := by decide +kernel
theorem d_L_boundByClasses_111 : decode b_L_boundByClasses 111 = .ok (.goto (-73), 3) := by decide +kernel
theorem d_L_boundByClasses_114 : decode b_L_boundByClasses 114 = .ok (.aload_n 0, 1) := by decide +kernel
theorem d_L_boundByClasses_115 : decode b_L_boundByClasses 115 = .ok (.getfield 32, 3) := by decide +kernel
theorem d_L_boundByClasses_118 : decode b_L_boundByClasses 118 = .ok (.aload_n 0, 1) := by decide +kernel
theorem d_L_boundByClasses_119 : decode b_L_boundByClasses 119 = .ok (.getfield 43, 3) := by decide +kernel
theorem d_L_boundByClasses_122 : decode b_L_boundByClasses 122 = .ok (.iload 5, 2) := by decide +kernel
theorem d_L_boundByClasses_124 : decode b_L_boundByClasses 124 = .ok (.iload 6, 2) := by decide +kernel
theorem d_L_boundByClasses_126 : decode b_L_boundByClasses 126 = .ok (.invokevirtual 143, 3) := by decide +kernel
theorem d_L_boundByClasses_129 : decode b_L_boundByClasses 129 = .ok (.ireturn, 1) := by decide +kernel
theorem d_L_upperBound_0 : decode b_L_upperBound 0 = .ok (.iload_n 1, 1) := by decide +kernel
theorem d_L_upperBound_1 : decode b_L_upperBound 1 = .ok (.istore 4, 2) := by decide +kernel
theorem d_L_upperBound_3 : decode b_L_upperBound 3 = .ok (.iload_n 2, 1) := by decide +kernel
theorem d_L_upperBound_4 : decode b_L_upperBound 4 = .ok (.istore 5, 2) := by decide +kernel
theorem d_L_upperBound_6 : decode b_L_upperBound 6 = .ok (.iconst 0, 1) := by decide +kernel
theorem d_L_upperBound_7 : decode b_L_upperBound 7 = .ok (.istore 6, 2) := by decide +kernel
theorem d_L_upperBound_9 : decode b_L_upperBound 9 = .ok (.iload 6, 2) := by decide +kernel
theorem d_L_upperBound_11 : decode b_L_upperBound 11 = .ok (.bipush 100, 2) := by decide +kernel
theorem d_L_upperBound_13 : decode b_L_upperBound 13 = .ok (.if_icmp .ge 56, 3) := by decide +kernel
theorem d_L_upperBound_16 : decode b_L_upperBound 16 = .ok (.iload 4, 2) := by decide +kernel
theorem d_L_upperBound_18 : decode b_L_upperBound 18 = .ok (.iload 5, 2) := by decide +kernel
theorem d_L_upperBound_20 : decode b_L_upperBound 20 = .ok (.if_icmp .eq 49, 3) := by decide +kernel
theorem d_L_upperBound_23 : decode b_L_upperBound 23 = .ok (.aload_n 0, 1) := by decide +kernel
theorem d_L_upperBound_24 : decode b_L_upperBound 24 = .ok (.iload 4, 2) := by decide +kernel
theorem d_L_upperBound_26 : decode b_L_upperBound 26 = .ok (.invokevirtual 251, 3) := by decide +kernel
theorem d_L_upperBound_29 : decode b_L_upperBound 29 = .ok (.ifCond .eq 40, 3) := by decide +kernel
theorem d_L_upperBound_32 : decode b_L_upperBound 32 = .ok (.aload_n 0, 1) := by decide +kernel
theorem d_L_upperBound_33 : decode b_L_upperBound 33 = .ok (.iload 5, 2) := by decide +kernel
theorem d_L_upperBound_35 : decode b_L_upperBound 35 = .ok (.invokevirtual 251, 3) := by decide +kernel
theorem d_L_upperBound_38 : decode b_L_upperBound 38 = .ok (.ifCond .eq 31, 3) := by decide +kernel
theorem d_L_upperBound_41 : decode b_L_upperBound 41 = .ok (.aload_n 0, 1) := by decide +kernel
theorem d_L_upperBound_42 : decode b_L_upperBound 42 = .ok (.getfield 32, 3) := by decide +kernel
theorem d_L_upperBound_45 : decode b_L_upperBound 45 = .ok (.iload 4, 2) := by decide +kernel
theorem d_L_upperBound_47 : decode b_L_upperBound 47 = .ok (.invokevirtual 162, 3) := by decide +kernel
theorem d_L_upperBound_50 : decode b_L_upperBound 50 = .ok (.istore 4, 2) := by decide +kernel
theorem d_L_upperBound_52 : decode b_L_upperBound 52 = .ok (.aload_n 0, 1) := by decide +kernel
theorem d_L_upperBound_53 : decode b_L_upperBound 53 = .ok (.getfield 32, 3) := by decide +kernel
theorem d_L_upperBound_56 : decode b_L_upperBound 56 = .ok (.iload 5, 2) := by decide +kernel
theorem d_L_upperBound_58 : decode b_L_upperBound 58 = .ok (.invokevirtual 162, 3) := by decide +kernel
theorem d_L_upperBound_61 : decode b_L_upperBound 61 = .ok (.istore 5, 2) := by decide +kernel
theorem d_L_upperBound_63 : decode b_L_upperBound 63 = .ok (.iinc 6 1, 3) := by decide +kernel
theorem d_L_upperBound_66 : decode b_L_upperBound 66 = .ok (.goto (-57), 3) := by decide +kernel
theorem d_L_upperBound_69 : decode b_L_upperBound 69 = .ok (.iload 4, 2) := by decide +kernel
theorem d_L_upperBound_71 : decode b_L_upperBound 71 = .ok (.iload 5, 2) := by decide +kernel
theorem d_L_upperBound_73 : decode b_L_upperBound 73 = .ok (.if_icmp .ne 8, 3) := by decide +kernel
theorem d_L_upperBound_76 : decode b_L_upperBound 76 = .ok (.iload 4, 2) := by decide +kernel
theorem d_L_upperBound_78 : decode b_L_upperBound 78 = .ok (.goto 12, 3) := by decide +kernel
theorem d_L_upperBound_81 : decode b_L_upperBound 81 = .ok (.aload_n 0, 1) := by decide +kernel
theorem d_L_upperBound_82 : decode b_L_upperBound 82 = .ok (.iload 4, 2) := by decide +kernel
theorem d_L_upperBound_84 : decode b_L_upperBound 84 = .ok (.iload 5, 2) := by decide +kernel
theorem d_L_upperBound_86 : decode b_L_upperBound 86 = .ok (.iload_n 3, 1) := by decide +kernel
theorem d_L_upperBound_87 : decode b_L_upperBound 87 = .ok (.invokevirtual 261, 3) := by decide +kernel
theorem d_L_upperBound_90 : decode b_L_upperBound 90 = .ok (.istore 7, 2) := by decide +kernel
theorem d_L_upperBound_92 : decode b_L_upperBound 92 = .ok (.iconst 0, 1) := by decide +kernel
theorem d_L_upperBound_93 : decode b_L_upperBound 93 = .ok (.istore 8, 2) := by decide +kernel
theorem d_L_upperBound_95 : decode b_L_upperBound 95 = .ok (.iload 8, 2) := by decide +kernel
theorem d_L_upperBound_97 : decode b_L_upperBound 97 = .ok (.iload 6, 2) := by decide +kernel
theorem d_L_upperBound_99 : decode b_L_upperBound 99 = .ok (.if_icmp .ge 26, 3) := by decide +kernel
theorem d_L_upperBound_102 : decode b_L_upperBound 102 = .ok (.iload 7, 2) := by decide +kernel
theorem d_L_upperBound_104 : decode b_L_upperBound 104 = .ok (.iconst (-1), 1) := by decide +kernel
theorem d_L_upperBound_105 : decode b_L_upperBound 105 = .ok (.if_icmp .eq 20, 3) := by decide +kernel
theorem d_L_upperBound_108 : decode b_L_upperBound 108 = .ok (.aload_n 0, 1) := by decide +kernel
theorem d_L_upperBound_109 : decode b_L_upperBound 109 = .ok (.getfield 32, 3) := by decide +kernel
theorem d_L_upperBound_112 : decode b_L_upperBound 112 = .ok (.iload 7, 2) := by decide +kernel
theorem d_L_upperBound_114 : decode b_L_upperBound 114 = .ok (.invokevirtual 123, 3) := by decide +kernel
theorem d_L_upperBound_117 : decode b_L_upperBound 117 = .ok (.istore 7, 2) := by decide +kernel
theorem d_L_upperBound_119 : decode b_L_upperBound 119 = .ok (.iinc 8 1, 3) := by decide +kernel
theorem d_L_upperBound_122 : decode b_L_upperBound 122 = .ok (.goto (-27), 3) := by decide +kernel
theorem d_L_upperBound_125 : decode b_L_upperBound 125 = .ok (.iload 7, 2) := by decide +kernel
theorem d_L_upperBound_127 : decode b_L_upperBound 127 = .ok (.ireturn, 1) := by decide +kernel
theorem d_L_upper_0 : decode b_L_upper 0 = .ok (.aload_n 0, 1) := by decide +kernel
theorem d_L_upper_1 : decode b_L_upper 1 = .ok (.iload_n 1, 1) := by decide +kernel
theorem d_L_upper_2 : decode b_L_upper 2 = .ok (.invokevirtual 74, 3) := by decide +kernel
theorem d_L_upper_5 : decode b_L_upper 5 = .ok (.aload_n 0, 1) := by decide +kernel
theorem d_L_upper_6 : decode b_L_upper 6 = .ok (.iload_n 2, 1) := by decide +kernel
theorem d_L_upper_7 : decode b_L_upper 7 = .ok (.invokevirtual 74, 3) := by decide +kernel
theorem d_L_upper_10 : decode b_L_upper 10 = .ok (.aload_n 0, 1) := by decide +kernel
theorem d_L_upper_11 : decode b_L_upper 11 = .ok (.aload_n 0, 1) := by decide +kernel
theorem d_L_upper_12 : decode b_L_upper 12 = .ok (.iload_n 1, 1) := by decide +kernel
theorem d_L_upper_13 : decode b_L_upper 13 = .ok (.iload_n 2, 1) := by decide +kernel
theorem d_L_upper_14 : decode b_L_upper 14 = .ok (.aload_n 0, 1) := by decide +kernel
theorem d_L_upper_15 : decode b_L_upper 15 = .ok (.getfield 18, 3) := by decide +kernel
theorem d_L_upper_18 : decode b_L_upper 18 = .ok (.invokevirtual 126, 3) := by decide +kernel
theorem d_L_upper_21 : decode b_L_upper 21 = .ok (.invokevirtual 120, 3) := by decide +kernel
theorem d_L_upper_24 : decode b_L_upper 24 = .ok (.ireturn, 1) := by decide +kernel
theorem d_L_liesBelowParts_0 : decode b_L_liesBelowParts 0 = .ok (.aload_n 0, 1) := by decide +kernel
theorem d_L_liesBelowParts_1 : decode b_L_liesBelowParts 1 = .ok (.getfield 32, 3) := by decide +kernel
theorem d_L_liesBelowParts_4 : decode b_L_liesBelowParts 4 = .ok (.iload_n 2, 1) := by decide +kernel
theorem d_L_liesBelowParts_5 : decode b_L_liesBelowParts 5 = .ok (.invokevirtual 168, 3) := by decide +kernel
theorem d_L_liesBelowParts_8 : decode b_L_liesBelowParts 8 = .ok (.istore 4, 2) := by decide +kernel
theorem d_L_liesBelowParts_10 : decode b_L_liesBelowParts 10 = .ok (.iconst 0, 1) := by decide +kernel
theorem d_L_liesBelowParts_11 : decode b_L_liesBelowParts 11 = .ok (.istore 5, 2) := by decide +kernel
theorem d_L_liesBelowParts_13 : decode b_L_liesBelowParts 13 = .ok (.iload 5, 2) := by decide +kernel
theorem d_L_liesBelowParts_15 : decode b_L_liesBelowParts 15 = .ok (.iload 4, 2) := by decide +kernel
theorem d_L_liesBelowParts_17 : decode b_L_liesBelowParts 17 = .ok (.if_icmp .ge 30, 3) := by decide +kernel
theorem d_L_liesBelowParts_20 : decode b_L_liesBelowParts 20 = .ok (.aload_n 0, 1) := by decide +kernel
theorem d_L_liesBelowParts_21 : decode b_L_liesBelowParts 21 = .ok (.iload_n 1, 1) := by decide +kernel
theorem d_L_liesBelowParts_22 : decode b_L_liesBelowParts 22 = .ok (.aload_n 0, 1) := by decide +kernel
theorem d_L_liesBelowParts_23 : decode b_L_liesBelowParts 23 = .ok (.getfield 32, 3) := by decide +kernel
theorem d_L_liesBelowParts_26 : decode b_L_liesBelowParts 26 = .ok (.iload_n 2, 1) := by decide +kernel
theorem d_L_liesBelowParts_27 : decode b_L_liesBelowParts 27 = .ok (.iload 5, 2) := by decide +kernel
theorem d_L_liesBelowParts_29 : decode b_L_liesBelowParts 29 = .ok (.invokevirtual 181, 3) := by decide +kernel
theorem d_L_liesBelowParts_32 : decode b_L_liesBelowParts 32 = .ok (.iload_n 3, 1) := by decide +kernel
theorem d_L_liesBelowParts_33 : decode b_L_liesBelowParts 33 = .ok (.invokevirtual 130, 3) := by decide +kernel
theorem d_L_liesBelowParts_36 : decode b_L_liesBelowParts 36 = .ok (.ifCond .ne 5, 3) := by decide +kernel
theorem d_L_liesBelowParts_39 : decode b_L_liesBelowParts 39 = .ok (.iconst 0, 1) := by decide +kernel
theorem d_L_liesBelowParts_40 : decode b_L_liesBelowParts 40 = .ok (.ireturn, 1) := by decide +kernel
theorem d_L_liesBelowParts_41 : decode b_L_liesBelowParts 41 = .ok (.iinc 5 1, 3) := by decide +kernel
theorem d_L_liesBelowParts_44 : decode b_L_liesBelowParts 44 = .ok (.goto (-31), 3) := by decide +kernel
theorem d_L_liesBelowParts_47 : decode b_L_liesBelowParts 47 = .ok (.iconst 1, 1) := by decide +kernel
theorem d_L_liesBelowParts_48 : decode b_L_liesBelowParts 48 = .ok (.ireturn, 1) := by decide +kernel
theorem d_L_hasFittingPart_0 : decode b_L_hasFittingPart 0 = .ok (.aload_n 0, 1) := by decide +kernel
theorem d_L_hasFittingPart_1 : decode b_L_hasFittingPart 1 = .ok (.getfield 32, 3) := by decide +kernel
theorem d_L_hasFittingPart_4 : decode b_L_hasFittingPart 4 = .ok (.iload_n 2, 1) := by decide +kernel
theorem d_L_hasFittingPart_5 : decode b_L_hasFittingPart 5 = .ok (.invokevirtual 153, 3) := by decide +kernel
theorem d_L_hasFittingPart_8 : decode b_L_hasFittingPart 8 = .ok (.istore 4, 2) := by decide +kernel
theorem d_L_hasFittingPart_10 : decode b_L_hasFittingPart 10 = .ok (.aload_n 0, 1) := by decide +kernel
theorem d_L_hasFittingPart_11 : decode b_L_hasFittingPart 11 = .ok (.getfield 32, 3) := by decide +kernel
theorem d_L_hasFittingPart_14 : decode b_L_hasFittingPart 14 = .ok (.iload_n 2, 1) := by decide +kernel
theorem d_L_hasFittingPart_15 : decode b_L_hasFittingPart 15 = .ok (.invokevirtual 156, 3) := by decide +kernel
theorem d_L_hasFittingPart_18 : decode b_L_hasFittingPart 18 = .ok (.istore 5, 2) := by decide +kernel
theorem d_L_hasFittingPart_20 : decode b_L_hasFittingPart 20 = .ok (.aload_n 0, 1) := by decide +kernel
theorem d_L_hasFittingPart_21 : decode b_L_hasFittingPart 21 = .ok (.iload_n 1, 1) := by decide +kernel
theorem d_L_hasFittingPart_22 : decode b_L_hasFittingPart 22 = .ok (.invokevirtual 239, 3) := by decide +kernel
theorem d_L_hasFittingPart_25 : decode b_L_hasFittingPart 25 = .ok (.istore 6, 2) := by decide +kernel
theorem d_L_hasFittingPart_27 : decode b_L_hasFittingPart 27 = .ok (.iconst 0, 1) := by decide +kernel
theorem d_L_hasFittingPart_28 : decode b_L_hasFittingPart 28 = .ok (.istore 7, 2) := by decide +kernel
theorem d_L_hasFittingPart_30 : decode b_L_hasFittingPart 30 = .ok (.iload 7, 2) := by decide +kernel
theorem d_L_hasFittingPart_32 : decode b_L_hasFittingPart 32 = .ok (.iload 6, 2) := by decide +kernel
theorem d_L_hasFittingPart_34 : decode b_L_hasFittingPart 34 = .ok (.if_icmp .ge 87, 3) := by decide +kernel
theorem d_L_hasFittingPart_37 : decode b_L_hasFittingPart 37 = .ok (.aload_n 0, 1) := by decide +kernel
theorem d_L_hasFittingPart_38 : decode b_L_hasFittingPart 38 = .ok (.aload_n 0, 1) := by decide +kernel
theorem d_L_hasFittingPart_39 : decode b_L_hasFittingPart 39 = .ok (.getfield 32, 3) := by decide +kernel
theorem d_L_hasFittingPart_42 : decode b_L_hasFittingPart 42 = .ok (.iload_n 1, 1) := by decide +kernel
theorem d_L_hasFittingPart_43 : decode b_L_hasFittingPart 43 = .ok (.invokevirtual 168, 3) := by decide +kernel
theorem d_L_hasFittingPart_46 : decode b_L_hasFittingPart 46 = .ok (.ifCond .ne 7, 3) := by decide +kernel
theorem d_L_hasFittingPart_49 : decode b_L_hasFittingPart 49 = .ok (.iload_n 1, 1) := by decide +kernel
theorem d_L_hasFittingPart_50 : decode b_L_hasFittingPart 50 = .ok (.goto 13, 3) := by decide +kernel
theorem d_L_hasFittingPart_53 : decode b_L_hasFittingPart 53 = .ok (.aload_n 0, 1) := by decide +kernel
theorem d_L_hasFittingPart_54 : decode b_L_hasFittingPart 54 = .ok (.getfield 32, 3) := by decide +kernel
theorem d_L_hasFittingPart_57 : decode b_L_hasFittingPart 57 = .ok (.iload_n 1, 1) := by decide +kernel
theorem d_L_hasFittingPart_58 : decode b_L_hasFittingPart 58 = .ok (.iload 7, 2) := by decide +kernel
theorem d_L_hasFittingPart_60 : decode b_L_hasFittingPart 60 = .ok (.invokevirtual 181, 3) := by decide +kernel
theorem d_L_hasFittingPart_63 : decode b_L_hasFittingPart 63 = .ok (.iload 4, 2) := by decide +kernel
theorem d_L_hasFittingPart_65 : decode b_L_hasFittingPart 65 = .ok (.invokevirtual 147, 3) := by decide +kernel
theorem d_L_hasFittingPart_68 : decode b_L_hasFittingPart 68 = .ok (.istore 8, 2) := by decide +kernel
theorem d_L_hasFittingPart_70 : decode b_L_hasFittingPart 70 = .ok (.iload 8, 2) := by decide +kernel
theorem d_L_hasFittingPart_72 : decode b_L_hasFittingPart 72 = .ok (.iconst (-1), 1) := by decide +kernel
theorem d_L_hasFittingPart_73 : decode b_L_hasFittingPart 73 = .ok (.if_icmp .ne 6, 3) := by decide +kernel
theorem d_L_hasFittingPart_76 : decode b_L_hasFittingPart 76 = .ok (.goto 39, 3) := by decide +kernel
theorem d_L_hasFittingPart_79 : decode b_L_hasFittingPart 79 = .ok (.iload 8, 2) := by decide +kernel
theorem d_L_hasFittingPart_81 : decode b_L_hasFittingPart 81 = .ok (.iload 5, 2) := by decide +kernel
theorem d_L_hasFittingPart_83 : decode b_L_hasFittingPart 83 = .ok (.if_icmp .eq 30, 3) := by decide +kernel
theorem d_L_hasFittingPart_86 : decode b_L_hasFittingPart 86 = .ok (.iload 5, 2) := by decide +kernel
theorem d_L_hasFittingPart_88 : decode b_L_hasFittingPart 88 = .ok (.invokestatic 159, 3) := by decide +kernel
theorem d_L_hasFittingPart_91 : decode b_L_hasFittingPart 91 = .ok (.iconst 2, 1) := by decide +kernel
theorem d_L_hasFittingPart_92 : decode b_L_hasFittingPart 92 = .ok (.if_icmp .ne 23, 3) := by decide +kernel
theorem d_L_hasFittingPart_95 : decode b_L_hasFittingPart 95 = .ok (.aload_n 0, 1) := by decide +kernel
theorem d_L_hasFittingPart_96 : decode b_L_hasFittingPart 96 = .ok (.iload 8, 2) := by decide +kernel
theorem d_L_hasFittingPart_98 : decode b_L_hasFittingPart 98 = .ok (.invokestatic 165, 3) := by decide +kernel
theorem d_L_hasFittingPart_101 : decode b_L_hasFittingPart 101 = .ok (.iload 5, 2) := by decide +kernel
theorem d_L_hasFittingPart_103 : decode b_L_hasFittingPart 103 = .ok (.invokestatic 165, 3) := by decide +kernel
theorem d_L_hasFittingPart_106 : decode b_L_hasFittingPart 106 = .ok (.iload_n 3, 1) := by decide +kernel
theorem d_L_hasFittingPart_107 : decode b_L_hasFittingPart 107 = .ok (.invokevirtual 130, 3) := by decide +kernel
theorem d_L_hasFittingPart_110 : decode b_L_hasFittingPart 110 = .ok (.ifCond .eq 5, 3) := by decide +kernel
theorem d_L_hasFittingPart_113 : decode b_L_hasFittingPart 113 = .ok (.iconst 1, 1) := by decide +kernel
theorem d_L_hasFittingPart_114 : decode b_L_hasFittingPart 114 = .ok (.ireturn, 1) := by decide +kernel
theorem d_L_hasFittingPart_115 : decode b_L_hasFittingPart 115 = .ok (.iinc 7 1, 3) := by decide +kernel
theorem d_L_hasFittingPart_118 : decode b_L_hasFittingPart 118 = .ok (.goto (-88), 3) := by decide +kernel
theorem d_L_hasFittingPart_121 : decode b_L_hasFittingPart 121 = .ok (.iconst 0, 1) := by decide +kernel
theorem d_L_hasFittingPart_122 : decode b_L_hasFittingPart 122 = .ok (.ireturn, 1) := by decide +kernel
theorem d_L_liesBelow_0 : decode b_L_liesBelow 0 = .ok (.iload_n 1, 1) := by decide +kernel
theorem d_L_liesBelow_1 : decode b_L_liesBelow 1 = .ok (.iload_n 2, 1) := by decide +kernel
theorem d_L_liesBelow_2 : decode b_L_liesBelow 2 = .ok (.if_icmp .ne 5, 3) := by decide +kernel
theorem d_L_liesBelow_5 : decode b_L_liesBelow 5 = .ok (.iconst 1, 1) := by decide +kernel
theorem d_L_liesBelow_6 : decode b_L_liesBelow 6 = .ok (.ireturn, 1) := by decide +kernel
theorem d_L_liesBelow_7 : decode b_L_liesBelow 7 = .ok (.iload_n 3, 1) := by decide +kernel
theorem d_L_liesBelow_8 : decode b_L_liesBelow 8 = .ok (.ifCond .gt 5, 3) := by decide +kernel
theorem d_L_liesBelow_11 : decode b_L_liesBelow 11 = .ok (.iconst 0, 1) := by decide +kernel
theorem d_L_liesBelow_12 : decode b_L_liesBelow 12 = .ok (.ireturn, 1) := by decide +kernel
theorem d_L_liesBelow_13 : decode b_L_liesBelow 13 = .ok (.aload_n 0, 1) := by decide +kernel
theorem d_L_liesBelow_14 : decode b_L_liesBelow 14 = .ok (.getfield 39, 3) := by decide +kernel
theorem d_L_liesBelow_17 : decode b_L_liesBelow 17 = .ok (.iload_n 1, 1) := by decide +kernel
theorem d_L_liesBelow_18 : decode b_L_liesBelow 18 = .ok (.iload_n 2, 1) := by decide +kernel
theorem d_L_liesBelow_19 : decode b_L_liesBelow 19 = .ok (.invokevirtual 245, 3) := by decide +kernel
theorem d_L_liesBelow_22 : decode b_L_liesBelow 22 = .ok (.istore 4, 2) := by decide +kernel
theorem d_L_liesBelow_24 : decode b_L_liesBelow 24 = .ok (.iload 4, 2) := by decide +kernel
theorem d_L_liesBelow_26 : decode b_L_liesBelow 26 = .ok (.ifCond .eq 15, 3) := by decide +kernel
theorem d_L_liesBelow_29 : decode b_L_liesBelow 29 = .ok (.iload 4, 2) := by decide +kernel
theorem d_L_liesBelow_31 : decode b_L_liesBelow 31 = .ok (.iconst 2, 1) := by decide +kernel
theorem d_L_liesBelow_32 : decode b_L_liesBelow 32 = .ok (.if_icmp .ne 7, 3) := by decide +kernel
theorem d_L_liesBelow_35 : decode b_L_liesBelow 35 = .ok (.iconst 1, 1) := by decide +kernel
theorem d_L_liesBelow_36 : decode b_L_liesBelow 36 = .ok (.goto 4, 3) := by decide +kernel
theorem d_L_liesBelow_39 : decode b_L_liesBelow 39 = .ok (.iconst 0, 1) := by decide +kernel
theorem d_L_liesBelow_40 : decode b_L_liesBelow 40 = .ok (.ireturn, 1) := by decide +kernel
theorem d_L_liesBelow_41 : decode b_L_liesBelow 41 = .ok (.aload_n 0, 1) := by decide +kernel
theorem d_L_liesBelow_42 : decode b_L_liesBelow 42 = .ok (.getfield 32, 3) := by decide +kernel
theorem d_L_liesBelow_45 : decode b_L_liesBelow 45 = .ok (.iload_n 2, 1) := by decide +kernel
theorem d_L_liesBelow_46 : decode b_L_liesBelow 46 = .ok (.invokevirtual 108, 3) := by decide +kernel
theorem d_L_liesBelow_49 : decode b_L_liesBelow 49 = .ok (.tableswitch 107 1 3 #[27, 41, 93], 27) := by decide +kernel
theorem d_L_liesBelow_76 : decode b_L_liesBelow 76 = .ok (.aload_n 0, 1) := by decide +kernel
theorem d_L_liesBelow_77 : decode b_L_liesBelow 77 = .ok (.iload_n 1, 1) := by decide +kernel
theorem d_L_liesBelow_78 : decode b_L_liesBelow 78 = .ok (.iload_n 2, 1) := by decide +kernel
theorem d_L_liesBelow_79 : decode b_L_liesBelow 79 = .ok (.iload_n 3, 1) := by decide +kernel
theorem d_L_liesBelow_80 : decode b_L_liesBelow 80 = .ok (.iconst 1, 1) := by decide +kernel
theorem d_L_liesBelow_81 : decode b_L_liesBelow 81 = .ok (.isub, 1) := by decide +kernel
theorem d_L_liesBelow_82 : decode b_L_liesBelow 82 = .ok (.invokevirtual 248, 3) := by decide +kernel
theorem d_L_liesBelow_85 : decode b_L_liesBelow 85 = .ok (.istore 5, 2) := by decide +kernel
theorem d_L_liesBelow_87 : decode b_L_liesBelow 87 = .ok (.goto 72, 3) := by decide +kernel
theorem d_L_liesBelow_90 : decode b_L_liesBelow 90 = .ok (.aload_n 0, 1) := by decide +kernel
theorem d_L_liesBelow_91 : decode b_L_liesBelow 91 = .ok (.iload_n 1, 1) := by decide +kernel
theorem d_L_liesBelow_92 : decode b_L_liesBelow 92 = .ok (.invokevirtual 251, 3) := by decide +kernel
theorem d_L_liesBelow_95 : decode b_L_liesBelow 95 = .ok (.ifCond .eq 41, 3) := by decide +kernel
theorem d_L_liesBelow_98 : decode b_L_liesBelow 98 = .ok (.aload_n 0, 1) := by decide +kernel
theorem d_L_liesBelow_99 : decode b_L_liesBelow 99 = .ok (.iload_n 2, 1) := by decide +kernel
theorem d_L_liesBelow_100 : decode b_L_liesBelow 100 = .ok (.invokevirtual 251, 3) := by decide +kernel
theorem d_L_liesBelow_103 : decode b_L_liesBelow 103 = .ok (.ifCond .eq 33, 3) := by decide +kernel
theorem d_L_liesBelow_106 : decode b_L_liesBelow 106 = .ok (.aload_n 0, 1) := by decide +kernel
theorem d_L_liesBelow_107 : decode b_L_liesBelow 107 = .ok (.aload_n 0, 1) := by decide +kernel
theorem d_L_liesBelow_108 : decode b_L_liesBelow 108 = .ok (.getfield 32, 3) := by decide +kernel
theorem d_L_liesBelow_111 : decode b_L_liesBelow 111 = .ok (.iload_n 1, 1) := by decide +kernel
theorem d_L_liesBelow_112 : decode b_L_liesBelow 112 = .ok (.invokevirtual 162, 3) := by decide +kernel
theorem d_L_liesBelow_115 : decode b_L_liesBelow 115 = .ok (.aload_n 0, 1) := by decide +kernel
theorem d_L_liesBelow_116 : decode b_L_liesBelow 116 = .ok (.getfield 32, 3) := by decide +kernel
theorem d_L_liesBelow_119 : decode b_L_liesBelow 119 = .ok (.iload_n 2, 1) := by decide +kernel
theorem d_L_liesBelow_120 : decode b_L_liesBelow 120 = .ok (.invokevirtual 162, 3) := by decide +kernel
theorem d_L_liesBelow_123 : decode b_L_liesBelow 123 = .ok (.iload_n 3, 1) := by decide +kernel
theorem d_L_liesBelow_124 : decode b_L_liesBelow 124 = .ok (.iconst 1, 1) := by decide +kernel
theorem d_L_liesBelow_125 : decode b_L_liesBelow 125 = .ok (.isub, 1) := by decide +kernel
theorem d_L_liesBelow_126 : decode b_L_liesBelow 126 = .ok (.invokevirtual 130, 3) := by decide +kernel
theorem d_L_liesBelow_129 : decode b_L_liesBelow 129 = .ok (.ifCond .eq 7, 3) := by decide +kernel
theorem d_L_liesBelow_132 : decode b_L_liesBelow 132 = .ok (.iconst 1, 1) := by decide +kernel
theorem d_L_liesBelow_133 : decode b_L_liesBelow 133 = .ok (.goto 4, 3) := by decide +kernel
theorem d_L_liesBelow_136 : decode b_L_liesBelow 136 = .ok (.iconst 0, 1) := by decide +kernel
theorem d_L_liesBelow_137 : decode b_L_liesBelow 137 = .ok (.istore 5, 2) := by decide +kernel
theorem d_L_liesBelow_139 : decode b_L_liesBelow 139 = .ok (.goto 20, 3) := by decide +kernel
theorem d_L_liesBelow_142 : decode b_L_liesBelow 142 = .ok (.aload_n 0, 1) := by decide +kernel
theorem d_L_liesBelow_143 : decode b_L_liesBelow 143 = .ok (.iload_n 1, 1) := by decide +kernel
theorem d_L_liesBelow_144 : decode b_L_liesBelow 144 = .ok (.iload_n 2, 1) := by decide +kernel
theorem d_L_liesBelow_145 : decode b_L_liesBelow 145 = .ok (.iload_n 3, 1) := by decide +kernel
theorem d_L_liesBelow_146 : decode b_L_liesBelow 146 = .ok (.iconst 1, 1) := by decide +kernel
theorem d_L_liesBelow_147 : decode b_L_liesBelow 147 = .ok (.isub, 1) := by decide +kernel
theorem d_L_liesBelow_148 : decode b_L_liesBelow 148 = .ok (.invokevirtual 254, 3) := by decide +kernel
theorem d_L_liesBelow_151 : decode b_L_liesBelow 151 = .ok (.istore 5, 2) := by decide +kernel
theorem d_L_liesBelow_153 : decode b_L_liesBelow 153 = .ok (.goto 6, 3) := by decide +kernel
theorem d_L_liesBelow_156 : decode b_L_liesBelow 156 = .ok (.iconst 0, 1) := by decide +kernel
theorem d_L_liesBelow_157 : decode b_L_liesBelow 157 = .ok (.istore 5, 2) := by decide +kernel
theorem d_L_liesBelow_159 : decode b_L_liesBelow 159 = .ok (.aload_n 0, 1) := by decide +kernel
theorem d_L_liesBelow_160 : decode b_L_liesBelow 160 = .ok (.getfield 39, 3) := by decide +kernel
theorem d_L_liesBelow_163 : decode b_L_liesBelow 163 = .ok (.iload_n 1, 1) := by decide +kernel
theorem d_L_liesBelow_164 : decode b_L_liesBelow 164 = .ok (.iload_n 2, 1) := by decide +kernel
theorem d_L_liesBelow_165 : decode b_L_liesBelow 165 = .ok (.iload 5, 2) := by decide +kernel
theorem d_L_liesBelow_167 : decode b_L_liesBelow 167 = .ok (.invokevirtual 257, 3) := by decide +kernel
theorem d_L_liesBelow_170 : decode b_L_liesBelow 170 = .ok (.iload 5, 2) := by decide +kernel
theorem d_L_liesBelow_172 : decode b_L_liesBelow 172 = .ok (.ireturn, 1) := by decide +kernel
theorem d_L_gatherParts_0 : decode b_L_gatherParts 0 = .ok (.bipush 30, 2) := by decide +kernel
theorem d_L_gatherParts_2 : decode b_L_gatherParts 2 = .ok (.aload_n 0, 1) := by decide +kernel
theorem d_L_gatherParts_3 : decode b_L_gatherParts 3 = .ok (.getfield 32, 3) := by decide +kernel
theorem d_L_gatherParts_6 : decode b_L_gatherParts 6 = .ok (.iload_n 1, 1) := by decide +kernel
theorem d_L_gatherParts_7 : decode b_L_gatherParts 7 = .ok (.invokevirtual 168, 3) := by decide +kernel
theorem d_L_gatherParts_10 : decode b_L_gatherParts 10 = .ok (.invokestatic 9, 3) := by decide +kernel
theorem d_L_gatherParts_13 : decode b_L_gatherParts 13 = .ok (.istore_n 3, 1) := by decide +kernel
theorem d_L_gatherParts_14 : decode b_L_gatherParts 14 = .ok (.bipush 30, 2) := by decide +kernel
theorem d_L_gatherParts_16 : decode b_L_gatherParts 16 = .ok (.aload_n 0, 1) := by decide +kernel
theorem d_L_gatherParts_17 : decode b_L_gatherParts 17 = .ok (.getfield 32, 3) := by decide +kernel
theorem d_L_gatherParts_20 : decode b_L_gatherParts 20 = .ok (.iload_n 2, 1) := by decide +kernel
theorem d_L_gatherParts_21 : decode b_L_gatherParts 21 = .ok (.invokevirtual 168, 3) := by decide +kernel
theorem d_L_gatherParts_24 : decode b_L_gatherParts 24 = .ok (.invokestatic 9, 3) := by decide +kernel
theorem d_L_gatherParts_27 : decode b_L_gatherParts 27 = .ok (.istore 4, 2) := by decide +kernel
theorem d_L_gatherParts_29 : decode b_L_gatherParts 29 = .ok (.iload_n 3, 1) := by decide +kernel
theorem d_L_gatherParts_30 : decode b_L_gatherParts 30 = .ok (.ifCond .eq 8, 3) := by decide +kernel
theorem d_L_gatherParts_33 : decode b_L_gatherParts 33 = .ok (.iload 4, 2) := by decide +kernel
theorem d_L_gatherParts_35 : decode b_L_gatherParts 35 = .ok (.ifCond .ne 5, 3) := by decide +kernel
theorem d_L_gatherParts_38 : decode b_L_gatherParts 38 = .ok (.iconst 0, 1) := by decide +kernel
theorem d_L_gatherParts_39 : decode b_L_gatherParts 39 = .ok (.ireturn, 1) := by decide +kernel
theorem d_L_gatherParts_40 : decode b_L_gatherParts 40 = .ok (.iconst 0, 1) := by decide +kernel
theorem d_L_gatherParts_41 : decode b_L_gatherParts 41 = .ok (.istore 5, 2) := by decide +kernel
theorem d_L_gatherParts_43 : decode b_L_gatherParts 43 = .ok (.iload 5, 2) := by decide +kernel
theorem d_L_gatherParts_45 : decode b_L_gatherParts 45 = .ok (.iload_n 3, 1) := by decide +kernel
theorem d_L_gatherParts_46 : decode b_L_gatherParts 46 = .ok (.if_icmp .ge 26, 3) := by decide +kernel
theorem d_L_gatherParts_49 : decode b_L_gatherParts 49 = .ok (.aload_n 0, 1) := by decide +kernel
theorem d_L_gatherParts_50 : decode b_L_gatherParts 50 = .ok (.getfield 47, 3) := by decide +kernel
theorem d_L_gatherParts_53 : decode b_L_gatherParts 53 = .ok (.iload 5, 2) := by decide +kernel
theorem d_L_gatherParts_55 : decode b_L_gatherParts 55 = .ok (.aload_n 0, 1) := by decide +kernel
theorem d_L_gatherParts_56 : decode b_L_gatherParts 56 = .ok (.getfield 32, 3) := by decide +kernel
theorem d_L_gatherParts_59 : decode b_L_gatherParts 59 = .ok (.iload_n 1, 1) := by decide +kernel
theorem d_L_gatherParts_60 : decode b_L_gatherParts 60 = .ok (.iload 5, 2) := by decide +kernel
theorem d_L_gatherParts_62 : decode b_L_gatherParts 62 = .ok (.invokevirtual 181, 3) := by decide +kernel
theorem d_L_gatherParts_65 : decode b_L_gatherParts 65 = .ok (.iastore, 1) := by decide +kernel
theorem d_L_gatherParts_66 : decode b_L_gatherParts 66 = .ok (.iinc 5 1, 3) := by decide +kernel
theorem d_L_gatherParts_69 : decode b_L_gatherParts 69 = .ok (.goto (-26), 3) := by decide +kernel
theorem d_L_gatherParts_72 : decode b_L_gatherParts 72 = .ok (.iconst 0, 1) := by decide +kernel
theorem d_L_gatherParts_73 : decode b_L_gatherParts 73 = .ok (.istore 5, 2) := by decide +kernel
theorem d_L_gatherParts_75 : decode b_L_gatherParts 75 = .ok (.iload 5, 2) := by decide +kernel
theorem d_L_gatherParts_77 : decode b_L_gatherParts 77 = .ok (.iload 4, 2) := by decide +kernel
theorem d_L_gatherParts_79 : decode b_L_gatherParts 79 = .ok (.if_icmp .ge 28, 3) := by decide +kernel
theorem d_L_gatherParts_82 : decode b_L_gatherParts 82 = .ok (.aload_n 0, 1) := by decide +kernel
theorem d_L_gatherParts_83 : decode b_L_gatherParts 83 = .ok (.getfield 47, 3) := by decide +kernel
theorem d_L_gatherParts_86 : decode b_L_gatherParts 86 = .ok (.iload_n 3, 1) := by decide +kernel
theorem d_L_gatherParts_87 : decode b_L_gatherParts 87 = .ok (.iload 5, 2) := by decide +kernel
theorem d_L_gatherParts_89 : decode b_L_gatherParts 89 = .ok (.iadd, 1) := by decide +kernel
theorem d_L_gatherParts_90 : decode b_L_gatherParts 90 = .ok (.aload_n 0, 1) := by decide +kernel
theorem d_L_gatherParts_91 : decode b_L_gatherParts 91 = .ok (.getfield 32, 3) := by decide +kernel
theorem d_L_gatherParts_94 : decode b_L_gatherParts 94 = .ok (.iload_n 2, 1) := by decide +kernel
theorem d_L_gatherParts_95 : decode b_L_gatherParts 95 = .ok (.iload 5, 2) := by decide +kernel
theorem d_L_gatherParts_97 : decode b_L_gatherParts 97 = .ok (.invokevirtual 181, 3) := by decide +kernel
theorem d_L_gatherParts_100 : decode b_L_gatherParts 100 = .ok (.iastore, 1) := by decide +kernel
theorem d_L_gatherParts_101 : decode b_L_gatherParts 101 = .ok (.iinc 5 1, 3) := by decide +kernel
theorem d_L_gatherParts_104 : decode b_L_gatherParts 104 = .ok (.goto (-29), 3) := by decide +kernel
theorem d_L_gatherParts_107 : decode b_L_gatherParts 107 = .ok (.iload_n 3, 1) := by decide +kernel
theorem d_L_gatherParts_108 : decode b_L_gatherParts 108 = .ok (.iload 4, 2) := by decide +kernel
theorem d_L_gatherParts_110 : decode b_L_gatherParts 110 = .ok (.iadd, 1) := by decide +kernel
theorem d_L_gatherParts_111 : decode b_L_gatherParts 111 = .ok (.ireturn, 1) := by decide +kernel
theorem d_L_dropNeedless_0 : decode b_L_dropNeedless 0 = .ok (.iconst 0, 1) := by decide +kernel
theorem d_L_dropNeedless_1 : decode b_L_dropNeedless 1 = .ok (.istore_n 2, 1) := by decide +kernel
theorem d_L_dropNeedless_2 : decode b_L_dropNeedless 2 = .ok (.iconst 0, 1) := by decide +kernel
theorem d_L_dropNeedless_3 : decode b_L_dropNeedless 3 = .ok (.istore_n 3, 1) := by decide +kernel
theorem d_L_dropNeedless_4 : decode b_L_dropNeedless 4 = .ok (.iload_n 3, 1) := by decide +kernel
theorem d_L_dropNeedless_5 : decode b_L_dropNeedless 5 = .ok (.iload_n 1, 1) := by decide +kernel
theorem d_L_dropNeedless_6 : decode b_L_dropNeedless 6 = .ok (.if_icmp .ge 84, 3) := by decide +kernel
theorem d_L_dropNeedless_9 : decode b_L_dropNeedless 9 = .ok (.aload_n 0, 1) := by decide +kernel
theorem d_L_dropNeedless_10 : decode b_L_dropNeedless 10 = .ok (.getfield 47, 3) := by decide +kernel
theorem d_L_dropNeedless_13 : decode b_L_dropNeedless 13 = .ok (.iload_n 3, 1) := by decide +kernel
theorem d_L_dropNeedless_14 : decode b_L_dropNeedless 14 = .ok (.iaload, 1) := by decide +kernel
theorem d_L_dropNeedless_15 : decode b_L_dropNeedless 15 = .ok (.istore 4, 2) := by decide +kernel
theorem d_L_dropNeedless_17 : decode b_L_dropNeedless 17 = .ok (.iconst 0, 1) := by decide +kernel
theorem d_L_dropNeedless_18 : decode b_L_dropNeedless 18 = .ok (.istore 5, 2) := by decide +kernel
theorem d_L_dropNeedless_20 : decode b_L_dropNeedless 20 = .ok (.iload 5, 2) := by decide +kernel
theorem d_L_dropNeedless_22 : decode b_L_dropNeedless 22 = .ok (.iload_n 1, 1) := by decide +kernel
theorem d_L_dropNeedless_23 : decode b_L_dropNeedless 23 = .ok (.if_icmp .ge 50, 3) := by decide +kernel
theorem d_L_dropNeedless_26 : decode b_L_dropNeedless 26 = .ok (.aload_n 0, 1) := by decide +kernel
theorem d_L_dropNeedless_27 : decode b_L_dropNeedless 27 = .ok (.getfield 47, 3) := by decide +kernel
theorem d_L_dropNeedless_30 : decode b_L_dropNeedless 30 = .ok (.iload 5, 2) := by decide +kernel
theorem d_L_dropNeedless_32 : decode b_L_dropNeedless 32 = .ok (.iaload, 1) := by decide +kernel
theorem d_L_dropNeedless_33 : decode b_L_dropNeedless 33 = .ok (.istore 6, 2) := by decide +kernel
theorem d_L_dropNeedless_35 : decode b_L_dropNeedless 35 = .ok (.iload 6, 2) := by decide +kernel
theorem d_L_dropNeedless_37 : decode b_L_dropNeedless 37 = .ok (.iload 4, 2) := by decide +kernel
theorem d_L_dropNeedless_39 : decode b_L_dropNeedless 39 = .ok (.if_icmp .ne 12, 3) := by decide +kernel
theorem d_L_dropNeedless_42 : decode b_L_dropNeedless 42 = .ok (.iload 5, 2) := by decide +kernel
theorem d_L_dropNeedless_44 : decode b_L_dropNeedless 44 = .ok (.iload_n 3, 1) := by decide +kernel
theorem d_L_dropNeedless_45 : decode b_L_dropNeedless 45 = .ok (.if_icmp .ge 22, 3) := by decide +kernel
theorem d_L_dropNeedless_48 : decode b_L_dropNeedless 48 = .ok (.goto 36, 3) := by decide +kernel
theorem d_L_dropNeedless_51 : decode b_L_dropNeedless 51 = .ok (.aload_n 0, 1) := by decide +kernel
theorem d_L_dropNeedless_52 : decode b_L_dropNeedless 52 = .ok (.iload 6, 2) := by decide +kernel
theorem d_L_dropNeedless_54 : decode b_L_dropNeedless 54 = .ok (.iload 4, 2) := by decide +kernel
theorem d_L_dropNeedless_56 : decode b_L_dropNeedless 56 = .ok (.bipush 100, 2) := by decide +kernel
theorem d_L_dropNeedless_58 : decode b_L_dropNeedless 58 = .ok (.invokevirtual 130, 3) := by decide +kernel
theorem d_L_dropNeedless_61 : decode b_L_dropNeedless 61 = .ok (.ifCond .eq 6, 3) := by decide +kernel
theorem d_L_dropNeedless_64 : decode b_L_dropNeedless 64 = .ok (.goto 20, 3) := by decide +kernel
theorem d_L_dropNeedless_67 : decode b_L_dropNeedless 67 = .ok (.iinc 5 1, 3) := by decide +kernel
theorem d_L_dropNeedless_70 : decode b_L_dropNeedless 70 = .ok (.goto (-50), 3) := by decide +kernel
theorem d_L_dropNeedless_73 : decode b_L_dropNeedless 73 = .ok (.aload_n 0, 1) := by decide +kernel
theorem d_L_dropNeedless_74 : decode b_L_dropNeedless 74 = .ok (.getfield 43, 3) := by decide +kernel
theorem d_L_dropNeedless_77 : decode b_L_dropNeedless 77 = .ok (.iload_n 2, 1) := by decide +kernel
theorem d_L_dropNeedless_78 : decode b_L_dropNeedless 78 = .ok (.iload 4, 2) := by decide +kernel
theorem d_L_dropNeedless_80 : decode b_L_dropNeedless 80 = .ok (.iastore, 1) := by decide +kernel
theorem d_L_dropNeedless_81 : decode b_L_dropNeedless 81 = .ok (.iinc 2 1, 3) := by decide +kernel
theorem d_L_dropNeedless_84 : decode b_L_dropNeedless 84 = .ok (.iinc 3 1, 3) := by decide +kernel
theorem d_L_dropNeedless_87 : decode b_L_dropNeedless 87 = .ok (.goto (-83), 3) := by decide +kernel
theorem d_L_dropNeedless_90 : decode b_L_dropNeedless 90 = .ok (.aload_n 0, 1) := by decide +kernel
theorem d_L_dropNeedless_91 : decode b_L_dropNeedless 91 = .ok (.getfield 43, 3) := by decide +kernel
theorem d_L_dropNeedless_94 : decode b_L_dropNeedless 94 = .ok (.iconst 0, 1) := by decide +kernel
theorem d_L_dropNeedless_95 : decode b_L_dropNeedless 95 = .ok (.aload_n 0, 1) := by decide +kernel
theorem d_L_dropNeedless_96 : decode b_L_dropNeedless 96 = .ok (.getfield 47, 3) := by decide +kernel
theorem d_L_dropNeedless_99 : decode b_L_dropNeedless 99 = .ok (.iconst 0, 1) := by decide +kernel
theorem d_L_dropNeedless_100 : decode b_L_dropNeedless 100 = .ok (.iload_n 2, 1) := by decide +kernel
theorem d_L_dropNeedless_101 : decode b_L_dropNeedless 101 = .ok (.invokestatic 273, 3) := by decide +kernel
theorem d_L_dropNeedless_104 : decode b_L_dropNeedless 104 = .ok (.iload_n 2, 1) := by decide +kernel
theorem d_L_dropNeedless_105 : decode b_L_dropNeedless 105 = .ok (.ireturn, 1) := by decide +kernel
theorem d_L_closeRow_0 : decode b_L_closeRow 0 = .ok (.iconst 0, 1) := by decide +kernel
theorem d_L_closeRow_1 : decode b_L_closeRow 1 = .ok (.istore_n 1, 1) := by decide +kernel
theorem d_L_closeRow_2 : decode b_L_closeRow 2 = .ok (.iconst 0, 1) := by decide +kernel
theorem d_L_closeRow_3 : decode b_L_closeRow 3 = .ok (.istore_n 2, 1) := by decide +kernel
theorem d_L_closeRow_4 : decode b_L_closeRow 4 = .ok (.iload_n 2, 1) := by decide +kernel
theorem d_L_closeRow_5 : decode b_L_closeRow 5 = .ok (.bipush 30, 2) := by decide +kernel
theorem d_L_closeRow_7 : decode b_L_closeRow 7 = .ok (.if_icmp .ge 34, 3) := by decide +kernel
theorem d_L_closeRow_10 : decode b_L_closeRow 10 = .ok (.aload_n 0, 1) := by decide +kernel
theorem d_L_closeRow_11 : decode b_L_closeRow 11 = .ok (.getfield 43, 3) := by decide +kernel
theorem d_L_closeRow_14 : decode b_L_closeRow 14 = .ok (.iload_n 2, 1) := by decide +kernel
theorem d_L_closeRow_15 : decode b_L_closeRow 15 = .ok (.iaload, 1) := by decide +kernel
theorem d_L_closeRow_16 : decode b_L_closeRow 16 = .ok (.iconst (-1), 1) := by decide +kernel
theorem d_L_closeRow_17 : decode b_L_closeRow 17 = .ok (.if_icmp .eq 18, 3) := by decide +kernel
theorem d_L_closeRow_20 : decode b_L_closeRow 20 = .ok (.aload_n 0, 1) := by decide +kernel
theorem d_L_closeRow_21 : decode b_L_closeRow 21 = .ok (.getfield 43, 3) := by decide +kernel
theorem d_L_closeRow_24 : decode b_L_closeRow 24 = .ok (.iload_n 1, 1) := by decide +kernel
theorem d_L_closeRow_25 : decode b_L_closeRow 25 = .ok (.aload_n 0, 1) := by decide +kernel
theorem d_L_closeRow_26 : decode b_L_closeRow 26 = .ok (.getfield 43, 3) := by decide +kernel
theorem d_L_closeRow_29 : decode b_L_closeRow 29 = .ok (.iload_n 2, 1) := by decide +kernel
theorem d_L_closeRow_30 : decode b_L_closeRow 30 = .ok (.iaload, 1) := by decide +kernel
theorem d_L_closeRow_31 : decode b_L_closeRow 31 = .ok (.iastore, 1) := by decide +kernel
theorem d_L_closeRow_32 : decode b_L_closeRow 32 = .ok (.iinc 1 1, 3) := by decide +kernel
theorem d_L_closeRow_35 : decode b_L_closeRow 35 = .ok (.iinc 2 1, 3) := by decide +kernel
theorem d_L_closeRow_38 : decode b_L_closeRow 38 = .ok (.goto (-34), 3) := by decide +kernel
theorem d_L_closeRow_41 : decode b_L_closeRow 41 = .ok (.iload_n 1, 1) := by decide +kernel
theorem d_L_closeRow_42 : decode b_L_closeRow 42 = .ok (.ireturn, 1) := by decide +kernel
theorem d_L_orderByClass_0 : decode b_L_orderByClass 0 = .ok (.aload_n 0, 1) := by decide +kernel
theorem d_L_orderByClass_1 : decode b_L_orderByClass 1 = .ok (.getfield 43, 3) := by decide +kernel
theorem d_L_orderByClass_4 : decode b_L_orderByClass 4 = .ok (.iconst (-1), 1) := by decide +kernel
theorem d_L_orderByClass_5 : decode b_L_orderByClass 5 = .ok (.invokestatic 279, 3) := by decide +kernel
theorem d_L_orderByClass_8 : decode b_L_orderByClass 8 = .ok (.iconst 0, 1) := by decide +kernel
theorem d_L_orderByClass_9 : decode b_L_orderByClass 9 = .ok (.istore_n 2, 1) := by decide +kernel
theorem d_L_orderByClass_10 : decode b_L_orderByClass 10 = .ok (.iconst 0, 1) := by decide +kernel
theorem d_L_orderByClass_11 : decode b_L_orderByClass 11 = .ok (.istore_n 3, 1) := by decide +kernel
theorem d_L_orderByClass_12 : decode b_L_orderByClass 12 = .ok (.iload_n 3, 1) := by decide +kernel
theorem d_L_orderByClass_13 : decode b_L_orderByClass 13 = .ok (.iload_n 1, 1) := by decide +kernel
theorem d_L_orderByClass_14 : decode b_L_orderByClass 14 = .ok (.if_icmp .ge 77, 3) := by decide +kernel
theorem d_L_orderByClass_17 : decode b_L_orderByClass 17 = .ok (.aload_n 0, 1) := by decide +kernel
theorem d_L_orderByClass_18 : decode b_L_orderByClass 18 = .ok (.getfield 32, 3) := by decide +kernel
theorem d_L_orderByClass_21 : decode b_L_orderByClass 21 = .ok (.aload_n 0, 1) := by decide +kernel
theorem d_L_orderByClass_22 : decode b_L_orderByClass 22 = .ok (.getfield 47, 3) := by decide +kernel
theorem d_L_orderByClass_25 : decode b_L_orderByClass 25 = .ok (.iload_n 3, 1) := by decide +kernel
theorem d_L_orderByClass_26 : decode b_L_orderByClass 26 = .ok (.iaload, 1) := by decide +kernel
theorem d_L_orderByClass_27 : decode b_L_orderByClass 27 = .ok (.invokevirtual 153, 3) := by decide +kernel
theorem d_L_orderByClass_30 : decode b_L_orderByClass 30 = .ok (.istore 4, 2) := by decide +kernel
theorem d_L_orderByClass_32 : decode b_L_orderByClass 32 = .ok (.iload 4, 2) := by decide +kernel
theorem d_L_orderByClass_34 : decode b_L_orderByClass 34 = .ok (.ifCond .lt 21, 3) := by decide +kernel
theorem d_L_orderByClass_37 : decode b_L_orderByClass 37 = .ok (.iload 4, 2) := by decide +kernel
theorem d_L_orderByClass_39 : decode b_L_orderByClass 39 = .ok (.bipush 30, 2) := by decide +kernel
theorem d_L_orderByClass_41 : decode b_L_orderByClass 41 = .ok (.if_icmp .ge 14, 3) := by decide +kernel
theorem d_L_orderByClass_44 : decode b_L_orderByClass 44 = .ok (.aload_n 0, 1) := by decide +kernel
theorem d_L_orderByClass_45 : decode b_L_orderByClass 45 = .ok (.getfield 43, 3) := by decide +kernel
theorem d_L_orderByClass_48 : decode b_L_orderByClass 48 = .ok (.iload 4, 2) := by decide +kernel
theorem d_L_orderByClass_50 : decode b_L_orderByClass 50 = .ok (.iaload, 1) := by decide +kernel
theorem d_L_orderByClass_51 : decode b_L_orderByClass 51 = .ok (.iconst (-1), 1) := by decide +kernel
theorem d_L_orderByClass_52 : decode b_L_orderByClass 52 = .ok (.if_icmp .eq 5, 3) := by decide +kernel
theorem d_L_orderByClass_55 : decode b_L_orderByClass 55 = .ok (.iconst 0, 1) := by decide +kernel
theorem d_L_orderByClass_56 : decode b_L_orderByClass 56 = .ok (.ireturn, 1) := by decide +kernel
theorem d_L_orderByClass_57 : decode b_L_orderByClass 57 = .ok (.aload_n 0, 1) := by decide +kernel
theorem d_L_orderByClass_58 : decode b_L_orderByClass 58 = .ok (.getfield 25, 3) := by decide +kernel
theorem d_L_orderByClass_61 : decode b_L_orderByClass 61 = .ok (.iload 4, 2) := by decide +kernel
theorem d_L_orderByClass_63 : decode b_L_orderByClass 63 = .ok (.invokevirtual 203, 3) := by decide +kernel
theorem d_L_orderByClass_66 : decode b_L_orderByClass 66 = .ok (.ifCond .ne 6, 3) := by decide +kernel
theorem d_L_orderByClass_69 : decode b_L_orderByClass 69 = .ok (.iinc 2 1, 3) := by decide +kernel
theorem d_L_orderByClass_72 : decode b_L_orderByClass 72 = .ok (.aload_n 0, 1) := by decide +kernel
theorem d_L_orderByClass_73 : decode b_L_orderByClass 73 = .ok (.getfield 43, 3) := by decide +kernel
theorem d_L_orderByClass_76 : decode b_L_orderByClass 76 = .ok (.iload 4, 2) := by decide +kernel
theorem d_L_orderByClass_78 : decode b_L_orderByClass 78 = .ok (.aload_n 0, 1) := by decide +kernel
theorem d_L_orderByClass_79 : decode b_L_orderByClass 79 = .ok (.getfield 47, 3) := by decide +kernel
theorem d_L_orderByClass_82 : decode b_L_orderByClass 82 = .ok (.iload_n 3, 1) := by decide +kernel
theorem d_L_orderByClass_83 : decode b_L_orderByClass 83 = .ok (.iaload, 1) := by decide +kernel
theorem d_L_orderByClass_84 : decode b_L_orderByClass 84 = .ok (.iastore, 1) := by decide +kernel
theorem d_L_orderByClass_85 : decode b_L_orderByClass 85 = .ok (.iinc 3 1, 3) := by decide +kernel
theorem d_L_orderByClass_88 : decode b_L_orderByClass 88 = .ok (.goto (-76), 3) := by decide +kernel
theorem d_L_orderByClass_91 : decode b_L_orderByClass 91 = .ok (.iload_n 2, 1) := by decide +kernel
theorem d_L_orderByClass_92 : decode b_L_orderByClass 92 = .ok (.iconst 1, 1) := by decide +kernel
theorem d_L_orderByClass_93 : decode b_L_orderByClass 93 = .ok (.if_icmp .le 7, 3) := by decide +kernel
theorem d_L_orderByClass_96 : decode b_L_orderByClass 96 = .ok (.iconst 0, 1) := by decide +kernel
theorem d_L_orderByClass_97 : decode b_L_orderByClass 97 = .ok (.goto 7, 3) := by decide +kernel
theorem d_L_orderByClass_100 : decode b_L_orderByClass 100 = .ok (.aload_n 0, 1) := by decide +kernel
theorem d_L_orderByClass_101 : decode b_L_orderByClass 101 = .ok (.invokevirtual 285, 3) := by decide +kernel
theorem d_L_orderByClass_104 : decode b_L_orderByClass 104 = .ok (.ireturn, 1) := by decide +kernel
theorem d_L_lower_0 : decode b_L_lower 0 = .ok (.aload_n 0, 1) := by decide +kernel
theorem d_L_lower_1 : decode b_L_lower 1 = .ok (.iload_n 1, 1) := by decide +kernel
theorem d_L_lower_2 : decode b_L_lower 2 = .ok (.invokevirtual 74, 3) := by decide +kernel
theorem d_L_lower_5 : decode b_L_lower 5 = .ok (.aload_n 0, 1) := by decide +kernel
theorem d_L_lower_6 : decode b_L_lower 6 = .ok (.iload_n 2, 1) := by decide +kernel
theorem d_L_lower_7 : decode b_L_lower 7 = .ok (.invokevirtual 74, 3) := by decide +kernel
theorem d_L_lower_10 : decode b_L_lower 10 = .ok (.aload_n 0, 1) := by decide +kernel
theorem d_L_lower_11 : decode b_L_lower 11 = .ok (.iload_n 1, 1) := by decide +kernel
theorem d_L_lower_12 : decode b_L_lower 12 = .ok (.iload_n 2, 1) := by decide +kernel
theorem d_L_lower_13 : decode b_L_lower 13 = .ok (.bipush 100, 2) := by decide +kernel
theorem d_L_lower_15 : decode b_L_lower 15 = .ok (.invokevirtual 130, 3) := by decide +kernel
theorem d_L_lower_18 : decode b_L_lower 18 = .ok (.ifCond .eq 5, 3) := by decide +kernel
theorem d_L_lower_21 : decode b_L_lower 21 = .ok (.iload_n 1, 1) := by decide +kernel
theorem d_L_lower_22 : decode b_L_lower 22 = .ok (.ireturn, 1) := by decide +kernel
theorem d_L_lower_23 : decode b_L_lower 23 = .ok (.aload_n 0, 1) := by decide +kernel
theorem d_L_lower_24 : decode b_L_lower 24 = .ok (.iload_n 2, 1) := by decide +kernel
theorem d_L_lower_25 : decode b_L_lower 25 = .ok (.iload_n 1, 1) := by decide +kernel
theorem d_L_lower_26 : decode b_L_lower 26 = .ok (.bipush 100, 2) := by decide +kernel
theorem d_L_lower_28 : decode b_L_lower 28 = .ok (.invokevirtual 130, 3) := by decide +kernel
theorem d_L_lower_31 : decode b_L_lower 31 = .ok (.ifCond .eq 5, 3) := by decide +kernel
theorem d_L_lower_34 : decode b_L_lower 34 = .ok (.iload_n 2, 1) := by decide +kernel
theorem d_L_lower_35 : decode b_L_lower 35 = .ok (.ireturn, 1) := by decide +kernel
theorem d_L_lower_36 : decode b_L_lower 36 = .ok (.aload_n 0, 1) := by decide +kernel
theorem d_L_lower_37 : decode b_L_lower 37 = .ok (.aload_n 0, 1) := by decide +kernel
theorem d_L_lower_38 : decode b_L_lower 38 = .ok (.aload_n 0, 1) := by decide +kernel
theorem d_L_lower_39 : decode b_L_lower 39 = .ok (.iload_n 1, 1) := by decide +kernel
theorem d_L_lower_40 : decode b_L_lower 40 = .ok (.iload_n 2, 1) := by decide +kernel
theorem d_L_lower_41 : decode b_L_lower 41 = .ok (.invokevirtual 134, 3) := by decide +kernel
theorem d_L_lower_44 : decode b_L_lower 44 = .ok (.invokevirtual 137, 3) := by decide +kernel
theorem d_L_lower_47 : decode b_L_lower 47 = .ok (.invokevirtual 140, 3) := by decide +kernel
theorem d_L_lower_50 : decode b_L_lower 50 = .ok (.istore_n 3, 1) := by decide +kernel
theorem d_L_lower_51 : decode b_L_lower 51 = .ok (.iload_n 3, 1) := by decide +kernel
theorem d_L_lower_52 : decode b_L_lower 52 = .ok (.ifCond .ne 7, 3) := by decide +kernel
theorem d_L_lower_55 : decode b_L_lower 55 = .ok (.iconst (-1), 1) := by decide +kernel
theorem d_L_lower_56 : decode b_L_lower 56 = .ok (.goto 20, 3) := by decide +kernel
theorem d_L_lower_59 : decode b_L_lower 59 = .ok (.aload_n 0, 1) := by decide +kernel
theorem d_L_lower_60 : decode b_L_lower 60 = .ok (.aload_n 0, 1) := by decide +kernel
theorem d_L_lower_61 : decode b_L_lower 61 = .ok (.getfield 32, 3) := by decide +kernel
theorem d_L_lower_64 : decode b_L_lower 64 = .ok (.aload_n 0, 1) := by decide +kernel
theorem d_L_lower_65 : decode b_L_lower 65 = .ok (.getfield 43, 3) := by decide +kernel
theorem d_L_lower_68 : decode b_L_lower 68 = .ok (.iconst 0, 1) := by decide +kernel
theorem d_L_lower_69 : decode b_L_lower 69 = .ok (.iload_n 3, 1) := by decide +kernel
theorem d_L_lower_70 : decode b_L_lower 70 = .ok (.invokevirtual 143, 3) := by decide +kernel
theorem d_L_lower_73 : decode b_L_lower 73 = .ok (.invokevirtual 120, 3) := by decide +kernel
theorem d_L_lower_76 : decode b_L_lower 76 = .ok (.ireturn, 1) := by decide +kernel
theorem d_L_isBelow_0 : decode b_L_isBelow 0 = .ok (.aload_n 0, 1) := by decide +kernel
theorem d_L_isBelow_1 : decode b_L_isBelow 1 = .ok (.iload_n 1, 1) := by decide +kernel
theorem d_L_isBelow_2 : decode b_L_isBelow 2 = .ok (.invokevirtual 74, 3) := by decide +kernel
theorem d_L_isBelow_5 : decode b_L_isBelow 5 = .ok (.aload_n 0, 1) := by decide +kernel
theorem d_L_isBelow_6 : decode b_L_isBelow 6 = .ok (.iload_n 2, 1) := by decide +kernel
theorem d_L_isBelow_7 : decode b_L_isBelow 7 = .ok (.invokevirtual 74, 3) := by decide +kernel
theorem d_L_isBelow_10 : decode b_L_isBelow 10 = .ok (.aload_n 0, 1) := by decide +kernel
theorem d_L_isBelow_11 : decode b_L_isBelow 11 = .ok (.iload_n 1, 1) := by decide +kernel
theorem d_L_isBelow_12 : decode b_L_isBelow 12 = .ok (.iload_n 2, 1) := by decide +kernel
theorem d_L_isBelow_13 : decode b_L_isBelow 13 = .ok (.bipush 100, 2) := by decide +kernel
theorem d_L_isBelow_15 : decode b_L_isBelow 15 = .ok (.invokevirtual 130, 3) := by decide +kernel
theorem d_L_isBelow_18 : decode b_L_isBelow 18 = .ok (.ireturn, 1) := by decide +kernel
theorem d_L_look_0 : decode b_L_look 0 = .ok (.aload_n 0, 1) := by decide +kernel
theorem d_L_look_1 : decode b_L_look 1 = .ok (.iload_n 1, 1) := by decide +kernel
theorem d_L_look_2 : decode b_L_look 2 = .ok (.invokevirtual 74, 3) := by decide +kernel
theorem d_L_look_5 : decode b_L_look 5 = .ok (.aload_n 0, 1) := by decide +kernel
theorem d_L_look_6 : decode b_L_look 6 = .ok (.iload_n 2, 1) := by decide +kernel
theorem d_L_look_7 : decode b_L_look 7 = .ok (.invokevirtual 70, 3) := by decide +kernel
theorem d_L_look_10 : decode b_L_look 10 = .ok (.aload_n 0, 1) := by decide +kernel
theorem d_L_look_11 : decode b_L_look 11 = .ok (.iload_n 1, 1) := by decide +kernel
theorem d_L_look_12 : decode b_L_look 12 = .ok (.iload_n 2, 1) := by decide +kernel
theorem d_L_look_13 : decode b_L_look 13 = .ok (.invokevirtual 147, 3) := by decide +kernel
theorem d_L_look_16 : decode b_L_look 16 = .ok (.istore_n 3, 1) := by decide +kernel
theorem d_L_look_17 : decode b_L_look 17 = .ok (.iload_n 3, 1) := by decide +kernel
theorem d_L_look_18 : decode b_L_look 18 = .ok (.iconst (-1), 1) := by decide +kernel
theorem d_L_look_19 : decode b_L_look 19 = .ok (.if_icmp .ne 7, 3) := by decide +kernel
theorem d_L_look_22 : decode b_L_look 22 = .ok (.iconst (-1), 1) := by decide +kernel
theorem d_L_look_23 : decode b_L_look 23 = .ok (.goto 16, 3) := by decide +kernel
theorem d_L_look_26 : decode b_L_look 26 = .ok (.aload_n 0, 1) := by decide +kernel
theorem d_L_look_27 : decode b_L_look 27 = .ok (.aload_n 0, 1) := by decide +kernel
theorem d_L_look_28 : decode b_L_look 28 = .ok (.getfield 32, 3) := by decide +kernel
theorem d_L_look_31 : decode b_L_look 31 = .ok (.iload_n 2, 1) := by decide +kernel
theorem d_L_look_32 : decode b_L_look 32 = .ok (.iload_n 3, 1) := by decide +kernel
theorem d_L_look_33 : decode b_L_look 33 = .ok (.invokevirtual 117, 3) := by decide +kernel
theorem d_L_look_36 : decode b_L_look 36 = .ok (.invokevirtual 120, 3) := by decide +kernel
theorem d_L_look_39 : decode b_L_look 39 = .ok (.ireturn, 1) := by decide +kernel
theorem d_L_box_0 : decode b_L_box 0 = .ok (.aload_n 0, 1) := by decide +kernel
theorem d_L_box_1 : decode b_L_box 1 = .ok (.iload_n 1, 1) := by decide +kernel
theorem d_L_box_2 : decode b_L_box 2 = .ok (.invokevirtual 74, 3) := by decide +kernel
theorem d_L_box_5 : decode b_L_box 5 = .ok (.aload_n 0, 1) := by decide +kernel
theorem d_L_box_6 : decode b_L_box 6 = .ok (.getfield 32, 3) := by decide +kernel
theorem d_L_box_9 : decode b_L_box 9 = .ok (.iload_n 1, 1) := by decide +kernel
theorem d_L_box_10 : decode b_L_box 10 = .ok (.invokevirtual 108, 3) := by decide +kernel
theorem d_L_box_13 : decode b_L_box 13 = .ok (.ifCond .ne 10, 3) := by decide +kernel
theorem d_L_box_16 : decode b_L_box 16 = .ok (.iload_n 1, 1) := by decide +kernel
theorem d_L_box_17 : decode b_L_box 17 = .ok (.invokestatic 150, 3) := by decide +kernel
theorem d_L_box_20 : decode b_L_box 20 = .ok (.goto 4, 3) := by decide +kernel
theorem d_L_box_23 : decode b_L_box 23 = .ok (.iload_n 1, 1) := by decide +kernel
theorem d_L_box_24 : decode b_L_box 24 = .ok (.ireturn, 1) := by decide +kernel
theorem d_L_type_0 : decode b_L_type 0 = .ok (.aload_n 0, 1) := by decide +kernel
theorem d_L_type_1 : decode b_L_type 1 = .ok (.iload_n 1, 1) := by decide +kernel
theorem d_L_type_2 : decode b_L_type 2 = .ok (.invokevirtual 74, 3) := by decide +kernel
theorem d_L_type_5 : decode b_L_type 5 = .ok (.iload_n 2, 1) := by decide +kernel
theorem d_L_type_6 : decode b_L_type 6 = .ok (.tableswitch 121 0 5 #[38, 47, 56, 68, 103, 112], 38) := by decide +kernel
theorem d_L_type_44 : decode b_L_type 44 = .ok (.aload_n 0, 1) := by decide +kernel
theorem d_L_type_45 : decode b_L_type 45 = .ok (.getfield 32, 3) := by decide +kernel
theorem d_L_type_48 : decode b_L_type 48 = .ok (.iload_n 1, 1) := by decide +kernel
theorem d_L_type_49 : decode b_L_type 49 = .ok (.invokevirtual 108, 3) := by decide +kernel
theorem d_L_type_52 : decode b_L_type 52 = .ok (.ireturn, 1) := by decide +kernel
theorem d_L_type_53 : decode b_L_type 53 = .ok (.aload_n 0, 1) := by decide +kernel
theorem d_L_type_54 : decode b_L_type 54 = .ok (.getfield 32, 3) := by decide +kernel
theorem d_L_type_57 : decode b_L_type 57 = .ok (.iload_n 1, 1) := by decide +kernel
theorem d_L_type_58 : decode b_L_type 58 = .ok (.invokevirtual 153, 3) := by decide +kernel
theorem d_L_type_61 : decode b_L_type 61 = .ok (.ireturn, 1) := by decide +kernel
theorem d_L_type_62 : decode b_L_type 62 = .ok (.aload_n 0, 1) := by decide +kernel
theorem d_L_type_63 : decode b_L_type 63 = .ok (.getfield 32, 3) := by decide +kernel
theorem d_L_type_66 : decode b_L_type 66 = .ok (.iload_n 1, 1) := by decide +kernel
theorem d_L_type_67 : decode b_L_type 67 = .ok (.invokevirtual 156, 3) := by decide +kernel
theorem d_L_type_70 : decode b_L_type 70 = .ok (.invokestatic 159, 3) := by decide +kernel
theorem d_L_type_73 : decode b_L_type 73 = .ok (.ireturn, 1) := by decide +kernel
theorem d_L_type_74 : decode b_L_type 74 = .ok (.aload_n 0, 1) := by decide +kernel
theorem d_L_type_75 : decode b_L_type 75 = .ok (.getfield 32, 3) := by decide +kernel
theorem d_L_type_78 : decode b_L_type 78 = .ok (.iload_n 1, 1) := by decide +kernel
theorem d_L_type_79 : decode b_L_type 79 = .ok (.invokevirtual 108, 3) := by decide +kernel
theorem d_L_type_82 : decode b_L_type 82 = .ok (.iconst 2, 1) := by decide +kernel
theorem d_L_type_83 : decode b_L_type 83 = .ok (.if_icmp .ne 14, 3) := by decide +kernel
theorem d_L_type_86 : decode b_L_type 86 = .ok (.aload_n 0, 1) := by decide +kernel
theorem d_L_type_87 : decode b_L_type 87 = .ok (.getfield 32, 3) := by decide +kernel
theorem d_L_type_90 : decode b_L_type 90 = .ok (.iload_n 1, 1) := by decide +kernel
theorem d_L_type_91 : decode b_L_type 91 = .ok (.invokevirtual 162, 3) := by decide +kernel
theorem d_L_type_94 : decode b_L_type 94 = .ok (.goto 14, 3) := by decide +kernel
theorem d_L_type_97 : decode b_L_type 97 = .ok (.aload_n 0, 1) := by decide +kernel
theorem d_L_type_98 : decode b_L_type 98 = .ok (.getfield 32, 3) := by decide +kernel
theorem d_L_type_101 : decode b_L_type 101 = .ok (.iload_n 1, 1) := by decide +kernel
theorem d_L_type_102 : decode b_L_type 102 = .ok (.invokevirtual 156, 3) := by decide +kernel
theorem d_L_type_105 : decode b_L_type 105 = .ok (.invokestatic 165, 3) := by decide +kernel
theorem d_L_type_108 : decode b_L_type 108 = .ok (.ireturn, 1) := by decide +kernel
theorem d_L_type_109 : decode b_L_type 109 = .ok (.aload_n 0, 1) := by decide +kernel
theorem d_L_type_110 : decode b_L_type 110 = .ok (.getfield 32, 3) := by decide +kernel
theorem d_L_type_113 : decode b_L_type 113 = .ok (.iload_n 1, 1) := by decide +kernel
theorem d_L_type_114 : decode b_L_type 114 = .ok (.invokevirtual 168, 3) := by decide +kernel
theorem d_L_type_117 : decode b_L_type 117 = .ok (.ireturn, 1) := by decide +kernel
theorem d_L_type_118 : decode b_L_type 118 = .ok (.aload_n 0, 1) := by decide +kernel
theorem d_L_type_119 : decode b_L_type 119 = .ok (.getfield 32, 3) := by decide +kernel
theorem d_L_type_122 : decode b_L_type 122 = .ok (.iload_n 1, 1) := by decide +kernel
theorem d_L_type_123 : decode b_L_type 123 = .ok (.invokevirtual 171, 3) := by decide +kernel
theorem d_L_type_126 : decode b_L_type 126 = .ok (.ireturn, 1) := by decide +kernel
theorem d_L_type_127 : decode b_L_type 127 = .ok (.new 87, 3) := by decide +kernel
theorem d_L_type_130 : decode b_L_type 130 = .ok (.dup, 1) := by decide +kernel
theorem d_L_type_131 : decode b_L_type 131 = .ok (.ldc 174, 2) := by decide +kernel
theorem d_L_type_133 : decode b_L_type 133 = .ok (.invokespecial 91, 3) := by decide +kernel
theorem d_L_type_136 : decode b_L_type 136 = .ok (.athrow, 1) := by decide +kernel
theorem d_L_part_0 : decode b_L_part 0 = .ok (.aload_n 0, 1) := by decide +kernel
theorem d_L_part_1 : decode b_L_part 1 = .ok (.iload_n 1, 1) := by decide +kernel
theorem d_L_part_2 : decode b_L_part 2 = .ok (.invokevirtual 74, 3) := by decide +kernel
theorem d_L_part_5 : decode b_L_part 5 = .ok (.iload_n 2, 1) := by decide +kernel
theorem d_L_part_6 : decode b_L_part 6 = .ok (.ifCond .lt 15, 3) := by decide +kernel
theorem d_L_part_9 : decode b_L_part 9 = .ok (.iload_n 2, 1) := by decide +kernel
theorem d_L_part_10 : decode b_L_part 10 = .ok (.aload_n 0, 1) := by decide +kernel
theorem d_L_part_11 : decode b_L_part 11 = .ok (.getfield 32, 3) := by decide +kernel
theorem d_L_part_14 : decode b_L_part 14 = .ok (.iload_n 1, 1) := by decide +kernel
theorem d_L_part_15 : decode b_L_part 15 = .ok (.invokevirtual 168, 3) := by decide +kernel
theorem d_L_part_18 : decode b_L_part 18 = .ok (.if_icmp .lt 13, 3) := by decide +kernel
theorem d_L_part_21 : decode b_L_part 21 = .ok (.new 176, 3) := by decide +kernel
theorem d_L_part_24 : decode b_L_part 24 = .ok (.dup, 1) := by decide +kernel
theorem d_L_part_25 : decode b_L_part 25 = .ok (.ldc 178, 2) := by decide +kernel
theorem d_L_part_27 : decode b_L_part 27 = .ok (.invokespecial 180, 3) := by decide +kernel
theorem d_L_part_30 : decode b_L_part 30 = .ok (.athrow, 1) := by decide +kernel
theorem d_L_part_31 : decode b_L_part 31 = .ok (.aload_n 0, 1) := by decide +kernel
theorem d_L_part_32 : decode b_L_part 32 = .ok (.getfield 32, 3) := by decide +kernel
theorem d_L_part_35 : decode b_L_part 35 = .ok (.iload_n 1, 1) := by decide +kernel
theorem d_L_part_36 : decode b_L_part 36 = .ok (.iload_n 2, 1) := by decide +kernel
theorem d_L_part_37 : decode b_L_part 37 = .ok (.invokevirtual 181, 3) := by decide +kernel
theorem d_L_part_40 : decode b_L_part 40 = .ok (.ireturn, 1) := by decide +kernel
theorem d_L_common_0 : decode b_L_common 0 = .ok (.aload_n 0, 1) := by decide +kernel
theorem d_L_common_1 : decode b_L_common 1 = .ok (.iload_n 1, 1) := by decide +kernel
theorem d_L_common_2 : decode b_L_common 2 = .ok (.invokevirtual 74, 3) := by decide +kernel
theorem d_L_common_5 : decode b_L_common 5 = .ok (.aload_n 0, 1) := by decide +kernel
theorem d_L_common_6 : decode b_L_common 6 = .ok (.iload_n 2, 1) := by decide +kernel
theorem d_L_common_7 : decode b_L_common 7 = .ok (.invokevirtual 74, 3) := by decide +kernel
theorem d_L_common_10 : decode b_L_common 10 = .ok (.iload_n 3, 1) := by decide +kernel
theorem d_L_common_11 : decode b_L_common 11 = .ok (.lookupswitch 52 #[(0, 25), (1, 35)], 25) := by decide +kernel
theorem d_L_common_36 : decode b_L_common 36 = .ok (.aload_n 0, 1) := by decide +kernel
theorem d_L_common_37 : decode b_L_common 37 = .ok (.iload_n 1, 1) := by decide +kernel
theorem d_L_common_38 : decode b_L_common 38 = .ok (.iload_n 2, 1) := by decide +kernel
theorem d_L_common_39 : decode b_L_common 39 = .ok (.invokevirtual 184, 3) := by decide +kernel
theorem d_L_common_42 : decode b_L_common 42 = .ok (.invokestatic 187, 3) := by decide +kernel
theorem d_L_common_45 : decode b_L_common 45 = .ok (.ireturn, 1) := by decide +kernel
theorem d_L_common_46 : decode b_L_common 46 = .ok (.aload_n 0, 1) := by decide +kernel
theorem d_L_common_47 : decode b_L_common 47 = .ok (.getfield 25, 3) := by decide +kernel
theorem d_L_common_50 : decode b_L_common 50 = .ok (.aload_n 0, 1) := by decide +kernel
theorem d_L_common_51 : decode b_L_common 51 = .ok (.iload_n 1, 1) := by decide +kernel
theorem d_L_common_52 : decode b_L_common 52 = .ok (.iload_n 2, 1) := by decide +kernel
theorem d_L_common_53 : decode b_L_common 53 = .ok (.invokevirtual 184, 3) := by decide +kernel
theorem d_L_common_56 : decode b_L_common 56 = .ok (.invokevirtual 192, 3) := by decide +kernel
theorem d_L_common_59 : decode b_L_common 59 = .ok (.invokestatic 187, 3) := by decide +kernel
theorem d_L_common_62 : decode b_L_common 62 = .ok (.ireturn, 1) := by decide +kernel
theorem d_L_common_63 : decode b_L_common 63 = .ok (.new 87, 3) := by decide +kernel
theorem d_L_common_66 : decode b_L_common 66 = .ok (.dup, 1) := by decide +kernel
theorem d_L_common_67 : decode b_L_common 67 = .ok (.ldc 195, 2) := by decide +kernel
theorem d_L_common_69 : decode b_L_common 69 = .ok (.invokespecial 91, 3) := by decide +kernel
theorem d_L_common_72 : decode b_L_common 72 = .ok (.athrow, 1) := by decide +kernel
theorem d_L_isUnder_0 : decode b_L_isUnder 0 = .ok (.aload_n 0, 1) := by decide +kernel
theorem d_L_isUnder_1 : decode b_L_isUnder 1 = .ok (.iload_n 1, 1) := by decide +kernel
theorem d_L_isUnder_2 : decode b_L_isUnder 2 = .ok (.invokevirtual 70, 3) := by decide +kernel
theorem d_L_isUnder_5 : decode b_L_isUnder 5 = .ok (.aload_n 0, 1) := by decide +kernel
theorem d_L_isUnder_6 : decode b_L_isUnder 6 = .ok (.iload_n 2, 1) := by decide +kernel
theorem d_L_isUnder_7 : decode b_L_isUnder 7 = .ok (.invokevirtual 70, 3) := by decide +kernel
theorem d_L_isUnder_10 : decode b_L_isUnder 10 = .ok (.aload_n 0, 1) := by decide +kernel
theorem d_L_isUnder_11 : decode b_L_isUnder 11 = .ok (.getfield 25, 3) := by decide +kernel
theorem d_L_isUnder_14 : decode b_L_isUnder 14 = .ok (.iload_n 1, 1) := by decide +kernel
theorem d_L_isUnder_15 : decode b_L_isUnder 15 = .ok (.invokevirtual 197, 3) := by decide +kernel
theorem d_L_isUnder_18 : decode b_L_isUnder 18 = .ok (.iload_n 2, 1) := by decide +kernel
theorem d_L_isUnder_19 : decode b_L_isUnder 19 = .ok (.invokestatic 200, 3) := by decide +kernel
theorem d_L_isUnder_22 : decode b_L_isUnder 22 = .ok (.ireturn, 1) := by decide +kernel
theorem d_L_classed_0 : decode b_L_classed 0 = .ok (.aload_n 0, 1) := by decide +kernel
theorem d_L_classed_1 : decode b_L_classed 1 = .ok (.iload_n 1, 1) := by decide +kernel
theorem d_L_classed_2 : decode b_L_classed 2 = .ok (.invokevirtual 70, 3) := by decide +kernel
theorem d_L_classed_5 : decode b_L_classed 5 = .ok (.iload_n 2, 1) := by decide +kernel
theorem d_L_classed_6 : decode b_L_classed 6 = .ok (.tableswitch 85 0 3 #[30, 47, 64, 73], 30) := by decide +kernel
theorem d_L_classed_36 : decode b_L_classed 36 = .ok (.aload_n 0, 1) := by decide +kernel
theorem d_L_classed_37 : decode b_L_classed 37 = .ok (.getfield 25, 3) := by decide +kernel
theorem d_L_classed_40 : decode b_L_classed 40 = .ok (.iload_n 1, 1) := by decide +kernel
theorem d_L_classed_41 : decode b_L_classed 41 = .ok (.invokevirtual 203, 3) := by decide +kernel
theorem d_L_classed_44 : decode b_L_classed 44 = .ok (.ifCond .eq 7, 3) := by decide +kernel
theorem d_L_classed_47 : decode b_L_classed 47 = .ok (.iconst 1, 1) := by decide +kernel
theorem d_L_classed_48 : decode b_L_classed 48 = .ok (.goto 4, 3) := by decide +kernel
theorem d_L_classed_51 : decode b_L_classed 51 = .ok (.iconst 0, 1) := by decide +kernel
theorem d_L_classed_52 : decode b_L_classed 52 = .ok (.ireturn, 1) := by decide +kernel
theorem d_L_classed_53 : decode b_L_classed 53 = .ok (.aload_n 0, 1) := by decide +kernel
theorem d_L_classed_54 : decode b_L_classed 54 = .ok (.getfield 25, 3) := by decide +kernel
theorem d_L_classed_57 : decode b_L_classed 57 = .ok (.iload_n 1, 1) := by decide +kernel
theorem d_L_classed_58 : decode b_L_classed 58 = .ok (.invokevirtual 103, 3) := by decide +kernel
theorem d_L_classed_61 : decode b_L_classed 61 = .ok (.ifCond .eq 7, 3) := by decide +kernel
theorem d_L_classed_64 : decode b_L_classed 64 = .ok (.iconst 1, 1) := by decide +kernel
theorem d_L_classed_65 : decode b_L_classed 65 = .ok (.goto 4, 3) := by decide +kernel
theorem d_L_classed_68 : decode b_L_classed 68 = .ok (.iconst 0, 1) := by decide +kernel
theorem d_L_classed_69 : decode b_L_classed 69 = .ok (.ireturn, 1) := by decide +kernel
theorem d_L_classed_70 : decode b_L_classed 70 = .ok (.aload_n 0, 1) := by decide +kernel
theorem d_L_classed_71 : decode b_L_classed 71 = .ok (.getfield 25, 3) := by decide +kernel
theorem d_L_classed_74 : decode b_L_classed 74 = .ok (.iload_n 1, 1) := by decide +kernel
theorem d_L_classed_75 : decode b_L_classed 75 = .ok (.invokevirtual 206, 3) := by decide +kernel
theorem d_L_classed_78 : decode b_L_classed 78 = .ok (.ireturn, 1) := by decide +kernel
theorem d_L_classed_79 : decode b_L_classed 79 = .ok (.aload_n 0, 1) := by decide +kernel
theorem d_L_classed_80 : decode b_L_classed 80 = .ok (.getfield 25, 3) := by decide +kernel
theorem d_L_classed_83 : decode b_L_classed 83 = .ok (.iload_n 1, 1) := by decide +kernel
theorem d_L_classed_84 : decode b_L_classed 84 = .ok (.invokevirtual 197, 3) := by decide +kernel
theorem d_L_classed_87 : decode b_L_classed 87 = .ok (.invokestatic 187, 3) := by decide +kernel
theorem d_L_classed_90 : decode b_L_classed 90 = .ok (.ireturn, 1) := by decide +kernel
theorem d_L_classed_91 : decode b_L_classed 91 = .ok (.new 87, 3) := by decide +kernel
theorem d_L_classed_94 : decode b_L_classed 94 = .ok (.dup, 1) := by decide +kernel
theorem d_L_classed_95 : decode b_L_classed 95 = .ok (.ldc 209, 2) := by decide +kernel
theorem d_L_classed_97 : decode b_L_classed 97 = .ok (.invokespecial 91, 3) := by decide +kernel
theorem d_L_classed_100 : decode b_L_classed 100 = .ok (.athrow, 1) := by decide +kernel
theorem d_L_direct_0 : decode b_L_direct 0 = .ok (.aload_n 0, 1) := by decide +kernel
theorem d_L_direct_1 : decode b_L_direct 1 = .ok (.iload_n 1, 1) := by decide +kernel
theorem d_L_direct_2 : decode b_L_direct 2 = .ok (.invokevirtual 70, 3) := by decide +kernel
theorem d_L_direct_5 : decode b_L_direct 5 = .ok (.iload_n 2, 1) := by decide +kernel
theorem d_L_direct_6 : decode b_L_direct 6 = .ok (.ifCond .lt 15, 3) := by decide +kernel
theorem d_L_direct_9 : decode b_L_direct 9 = .ok (.iload_n 2, 1) := by decide +kernel
theorem d_L_direct_10 : decode b_L_direct 10 = .ok (.aload_n 0, 1) := by decide +kernel
theorem d_L_direct_11 : decode b_L_direct 11 = .ok (.getfield 25, 3) := by decide +kernel
theorem d_L_direct_14 : decode b_L_direct 14 = .ok (.iload_n 1, 1) := by decide +kernel
theorem d_L_direct_15 : decode b_L_direct 15 = .ok (.invokevirtual 206, 3) := by decide +kernel
theorem d_L_direct_18 : decode b_L_direct 18 = .ok (.if_icmp .lt 13, 3) := by decide +kernel
theorem d_L_direct_21 : decode b_L_direct 21 = .ok (.new 176, 3) := by decide +kernel
theorem d_L_direct_24 : decode b_L_direct 24 = .ok (.dup, 1) := by decide +kernel
theorem d_L_direct_25 : decode b_L_direct 25 = .ok (.ldc 211, 2) := by decide +kernel
theorem d_L_direct_27 : decode b_L_direct 27 = .ok (.invokespecial 180, 3) := by decide +kernel
theorem d_L_direct_30 : decode b_L_direct 30 = .ok (.athrow, 1) := by decide +kernel
theorem d_L_direct_31 : decode b_L_direct 31 = .ok (.iload_n 3, 1) := by decide +kernel
theorem d_L_direct_32 : decode b_L_direct 32 = .ok (.lookupswitch 48 #[(0, 28), (1, 38)], 28) := by decide +kernel
theorem d_L_direct_60 : decode b_L_direct 60 = .ok (.aload_n 0, 1) := by decide +kernel
theorem d_L_direct_61 : decode b_L_direct 61 = .ok (.getfield 25, 3) := by decide +kernel
theorem d_L_direct_64 : decode b_L_direct 64 = .ok (.iload_n 1, 1) := by decide +kernel
theorem d_L_direct_65 : decode b_L_direct 65 = .ok (.iload_n 2, 1) := by decide +kernel
theorem d_L_direct_66 : decode b_L_direct 66 = .ok (.invokevirtual 213, 3) := by decide +kernel
theorem d_L_direct_69 : decode b_L_direct 69 = .ok (.ireturn, 1) := by decide +kernel
theorem d_L_direct_70 : decode b_L_direct 70 = .ok (.aload_n 0, 1) := by decide +kernel
theorem d_L_direct_71 : decode b_L_direct 71 = .ok (.getfield 25, 3) := by decide +kernel
theorem d_L_direct_74 : decode b_L_direct 74 = .ok (.iload_n 1, 1) := by decide +kernel
theorem d_L_direct_75 : decode b_L_direct 75 = .ok (.iload_n 2, 1) := by decide +kernel
theorem d_L_direct_76 : decode b_L_direct 76 = .ok (.invokevirtual 216, 3) := by decide +kernel
theorem d_L_direct_79 : decode b_L_direct 79 = .ok (.ireturn, 1) := by decide +kernel
theorem d_L_direct_80 : decode b_L_direct 80 = .ok (.new 87, 3) := by decide +kernel
theorem d_L_direct_83 : decode b_L_direct 83 = .ok (.dup, 1) := by decide +kernel
theorem d_L_direct_84 : decode b_L_direct 84 = .ok (.ldc 195, 2) := by decide +kernel
theorem d_L_direct_86 : decode b_L_direct 86 = .ok (.invokespecial 91, 3) := by decide +kernel
theorem d_L_direct_89 : decode b_L_direct 89 = .ok (.athrow, 1) := by decide +kernel
theorem d_L_told_0 : decode b_L_told 0 = .ok (.iload_n 1, 1) := by decide +kernel
theorem d_L_told_1 : decode b_L_told 1 = .ok (.tableswitch 60 0 3 #[31, 39, 47, 55], 31) := by decide +kernel
theorem d_L_told_32 : decode b_L_told 32 = .ok (.aload_n 0, 1) := by decide +kernel
theorem d_L_told_33 : decode b_L_told 33 = .ok (.getfield 25, 3) := by decide +kernel
theorem d_L_told_36 : decode b_L_told 36 = .ok (.invokevirtual 50, 3) := by decide +kernel
theorem d_L_told_39 : decode b_L_told 39 = .ok (.ireturn, 1) := by decide +kernel
theorem d_L_told_40 : decode b_L_told 40 = .ok (.aload_n 0, 1) := by decide +kernel
theorem d_L_told_41 : decode b_L_told 41 = .ok (.getfield 25, 3) := by decide +kernel
theorem d_L_told_44 : decode b_L_told 44 = .ok (.invokevirtual 61, 3) := by decide +kernel
theorem d_L_told_47 : decode b_L_told 47 = .ok (.ireturn, 1) := by decide +kernel
theorem d_L_told_48 : decode b_L_told 48 = .ok (.aload_n 0, 1) := by decide +kernel
theorem d_L_told_49 : decode b_L_told 49 = .ok (.getfield 32, 3) := by decide +kernel
theorem d_L_told_52 : decode b_L_told 52 = .ok (.invokevirtual 219, 3) := by decide +kernel
theorem d_L_told_55 : decode b_L_told 55 = .ok (.ireturn, 1) := by decide +kernel
theorem d_L_told_56 : decode b_L_told 56 = .ok (.aload_n 0, 1) := by decide +kernel
theorem d_L_told_57 : decode b_L_told 57 = .ok (.getfield 18, 3) := by decide +kernel
theorem d_L_told_60 : decode b_L_told 60 = .ok (.ireturn, 1) := by decide +kernel
theorem d_L_told_61 : decode b_L_told 61 = .ok (.new 87, 3) := by decide +kernel
theorem d_L_told_64 : decode b_L_told 64 = .ok (.dup, 1) := by decide +kernel
theorem d_L_told_65 : decode b_L_told 65 = .ok (.ldc 209, 2) := by decide +kernel
theorem d_L_told_67 : decode b_L_told 67 = .ok (.invokespecial 91, 3) := by decide +kernel
theorem d_L_told_70 : decode b_L_told 70 = .ok (.athrow, 1) := by decide +kernel
