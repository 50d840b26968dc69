theorem d_M_tie_0 : decode b_M_tie 0 = .ok (.aload_n 0, 1) := by decide +kernel
theorem d_M_tie_1 : decode b_M_tie 1 = .ok (.getfield 20, 3) := by decide +kernel
theorem d_M_tie_4 : decode b_M_tie 4 = .ok (.bipush 30, 2) := by decide +kernel
theorem d_M_tie_6 : decode b_M_tie 6 = .ok (.iload_n 1, 1) := by decide +kernel
theorem d_M_tie_7 : decode b_M_tie 7 = .ok (.imul, 1) := by decide +kernel
theorem d_M_tie_8 : decode b_M_tie 8 = .ok (.aload_n 0, 1) := by decide +kernel
theorem d_M_tie_9 : decode b_M_tie 9 = .ok (.getfield 16, 3) := by decide +kernel
theorem d_M_tie_12 : decode b_M_tie 12 = .ok (.iload_n 1, 1) := by decide +kernel
theorem d_M_tie_13 : decode b_M_tie 13 = .ok (.iaload, 1) := by decide +kernel
theorem d_M_tie_14 : decode b_M_tie 14 = .ok (.iadd, 1) := by decide +kernel
theorem d_M_tie_15 : decode b_M_tie 15 = .ok (.iload_n 2, 1) := by decide +kernel
theorem d_M_tie_16 : decode b_M_tie 16 = .ok (.iastore, 1) := by decide +kernel
theorem d_M_tie_17 : decode b_M_tie 17 = .ok (.aload_n 0, 1) := by decide +kernel
theorem d_M_tie_18 : decode b_M_tie 18 = .ok (.getfield 23, 3) := by decide +kernel
theorem d_M_tie_21 : decode b_M_tie 21 = .ok (.bipush 30, 2) := by decide +kernel
theorem d_M_tie_23 : decode b_M_tie 23 = .ok (.iload_n 1, 1) := by decide +kernel
theorem d_M_tie_24 : decode b_M_tie 24 = .ok (.imul, 1) := by decide +kernel
theorem d_M_tie_25 : decode b_M_tie 25 = .ok (.aload_n 0, 1) := by decide +kernel
theorem d_M_tie_26 : decode b_M_tie 26 = .ok (.getfield 16, 3) := by decide +kernel
theorem d_M_tie_29 : decode b_M_tie 29 = .ok (.iload_n 1, 1) := by decide +kernel
theorem d_M_tie_30 : decode b_M_tie 30 = .ok (.iaload, 1) := by decide +kernel
theorem d_M_tie_31 : decode b_M_tie 31 = .ok (.iadd, 1) := by decide +kernel
theorem d_M_tie_32 : decode b_M_tie 32 = .ok (.iload_n 3, 1) := by decide +kernel
theorem d_M_tie_33 : decode b_M_tie 33 = .ok (.iastore, 1) := by decide +kernel
theorem d_M_tie_34 : decode b_M_tie 34 = .ok (.aload_n 0, 1) := by decide +kernel
theorem d_M_tie_35 : decode b_M_tie 35 = .ok (.getfield 16, 3) := by decide +kernel
theorem d_M_tie_38 : decode b_M_tie 38 = .ok (.iload_n 1, 1) := by decide +kernel
theorem d_M_tie_39 : decode b_M_tie 39 = .ok (.dup2, 1) := by decide +kernel
theorem d_M_tie_40 : decode b_M_tie 40 = .ok (.iaload, 1) := by decide +kernel
theorem d_M_tie_41 : decode b_M_tie 41 = .ok (.iconst 1, 1) := by decide +kernel
theorem d_M_tie_42 : decode b_M_tie 42 = .ok (.iadd, 1) := by decide +kernel
theorem d_M_tie_43 : decode b_M_tie 43 = .ok (.iastore, 1) := by decide +kernel
theorem d_M_tie_44 : decode b_M_tie 44 = .ok (.return_, 1) := by decide +kernel
theorem d_M_reckonOver_0 : decode b_M_reckonOver 0 = .ok (.iconst 0, 1) := by decide +kernel
theorem d_M_reckonOver_1 : decode b_M_reckonOver 1 = .ok (.istore_n 2, 1) := by decide +kernel
theorem d_M_reckonOver_2 : decode b_M_reckonOver 2 = .ok (.iconst 0, 1) := by decide +kernel
theorem d_M_reckonOver_3 : decode b_M_reckonOver 3 = .ok (.istore_n 3, 1) := by decide +kernel
theorem d_M_reckonOver_4 : decode b_M_reckonOver 4 = .ok (.iload_n 3, 1) := by decide +kernel
theorem d_M_reckonOver_5 : decode b_M_reckonOver 5 = .ok (.aload_n 0, 1) := by decide +kernel
theorem d_M_reckonOver_6 : decode b_M_reckonOver 6 = .ok (.getfield 16, 3) := by decide +kernel
theorem d_M_reckonOver_9 : decode b_M_reckonOver 9 = .ok (.iload_n 1, 1) := by decide +kernel
theorem d_M_reckonOver_10 : decode b_M_reckonOver 10 = .ok (.iaload, 1) := by decide +kernel
theorem d_M_reckonOver_11 : decode b_M_reckonOver 11 = .ok (.if_icmp .ge 37, 3) := by decide +kernel
theorem d_M_reckonOver_14 : decode b_M_reckonOver 14 = .ok (.aload_n 0, 1) := by decide +kernel
theorem d_M_reckonOver_15 : decode b_M_reckonOver 15 = .ok (.getfield 20, 3) := by decide +kernel
theorem d_M_reckonOver_18 : decode b_M_reckonOver 18 = .ok (.bipush 30, 2) := by decide +kernel
theorem d_M_reckonOver_20 : decode b_M_reckonOver 20 = .ok (.iload_n 1, 1) := by decide +kernel
theorem d_M_reckonOver_21 : decode b_M_reckonOver 21 = .ok (.imul, 1) := by decide +kernel
theorem d_M_reckonOver_22 : decode b_M_reckonOver 22 = .ok (.iload_n 3, 1) := by decide +kernel
theorem d_M_reckonOver_23 : decode b_M_reckonOver 23 = .ok (.iadd, 1) := by decide +kernel
theorem d_M_reckonOver_24 : decode b_M_reckonOver 24 = .ok (.iaload, 1) := by decide +kernel
theorem d_M_reckonOver_25 : decode b_M_reckonOver 25 = .ok (.istore 4, 2) := by decide +kernel
theorem d_M_reckonOver_27 : decode b_M_reckonOver 27 = .ok (.iload_n 2, 1) := by decide +kernel
theorem d_M_reckonOver_28 : decode b_M_reckonOver 28 = .ok (.iconst 1, 1) := by decide +kernel
theorem d_M_reckonOver_29 : decode b_M_reckonOver 29 = .ok (.iload 4, 2) := by decide +kernel
theorem d_M_reckonOver_31 : decode b_M_reckonOver 31 = .ok (.ishl, 1) := by decide +kernel
theorem d_M_reckonOver_32 : decode b_M_reckonOver 32 = .ok (.aload_n 0, 1) := by decide +kernel
theorem d_M_reckonOver_33 : decode b_M_reckonOver 33 = .ok (.getfield 26, 3) := by decide +kernel
theorem d_M_reckonOver_36 : decode b_M_reckonOver 36 = .ok (.iload 4, 2) := by decide +kernel
theorem d_M_reckonOver_38 : decode b_M_reckonOver 38 = .ok (.iaload, 1) := by decide +kernel
theorem d_M_reckonOver_39 : decode b_M_reckonOver 39 = .ok (.ior, 1) := by decide +kernel
theorem d_M_reckonOver_40 : decode b_M_reckonOver 40 = .ok (.ior, 1) := by decide +kernel
theorem d_M_reckonOver_41 : decode b_M_reckonOver 41 = .ok (.istore_n 2, 1) := by decide +kernel
theorem d_M_reckonOver_42 : decode b_M_reckonOver 42 = .ok (.iinc 3 1, 3) := by decide +kernel
theorem d_M_reckonOver_45 : decode b_M_reckonOver 45 = .ok (.goto (-41), 3) := by decide +kernel
theorem d_M_reckonOver_48 : decode b_M_reckonOver 48 = .ok (.aload_n 0, 1) := by decide +kernel
theorem d_M_reckonOver_49 : decode b_M_reckonOver 49 = .ok (.getfield 26, 3) := by decide +kernel
theorem d_M_reckonOver_52 : decode b_M_reckonOver 52 = .ok (.iload_n 1, 1) := by decide +kernel
theorem d_M_reckonOver_53 : decode b_M_reckonOver 53 = .ok (.iload_n 2, 1) := by decide +kernel
theorem d_M_reckonOver_54 : decode b_M_reckonOver 54 = .ok (.iastore, 1) := by decide +kernel
theorem d_M_reckonOver_55 : decode b_M_reckonOver 55 = .ok (.return_, 1) := by decide +kernel
theorem d_M_thrown_0 : decode b_M_thrown 0 = .ok (.aload_n 0, 1) := by decide +kernel
theorem d_M_thrown_1 : decode b_M_thrown 1 = .ok (.getfield 102, 3) := by decide +kernel
theorem d_M_thrown_4 : decode b_M_thrown 4 = .ok (.ireturn, 1) := by decide +kernel
theorem d_M_good_0 : decode b_M_good 0 = .ok (.aload_n 0, 1) := by decide +kernel
theorem d_M_good_1 : decode b_M_good 1 = .ok (.iload_n 1, 1) := by decide +kernel
theorem d_M_good_2 : decode b_M_good 2 = .ok (.putfield 102, 3) := by decide +kernel
theorem d_M_good_5 : decode b_M_good 5 = .ok (.iload_n 1, 1) := by decide +kernel
theorem d_M_good_6 : decode b_M_good 6 = .ok (.ifCond .ne 7, 3) := by decide +kernel
theorem d_M_good_9 : decode b_M_good 9 = .ok (.iconst 1, 1) := by decide +kernel
theorem d_M_good_10 : decode b_M_good 10 = .ok (.goto 4, 3) := by decide +kernel
theorem d_M_good_13 : decode b_M_good 13 = .ok (.iconst 0, 1) := by decide +kernel
theorem d_M_good_14 : decode b_M_good 14 = .ok (.ireturn, 1) := by decide +kernel
theorem d_M_under_0 : decode b_M_under 0 = .ok (.aload_n 0, 1) := by decide +kernel
theorem d_M_under_1 : decode b_M_under 1 = .ok (.getfield 26, 3) := by decide +kernel
theorem d_M_under_4 : decode b_M_under 4 = .ok (.iload_n 1, 1) := by decide +kernel
theorem d_M_under_5 : decode b_M_under 5 = .ok (.iaload, 1) := by decide +kernel
theorem d_M_under_6 : decode b_M_under 6 = .ok (.iload_n 2, 1) := by decide +kernel
theorem d_M_under_7 : decode b_M_under 7 = .ok (.ishr, 1) := by decide +kernel
theorem d_M_under_8 : decode b_M_under 8 = .ok (.iconst 1, 1) := by decide +kernel
theorem d_M_under_9 : decode b_M_under 9 = .ok (.iand, 1) := by decide +kernel
theorem d_M_under_10 : decode b_M_under 10 = .ok (.iconst 1, 1) := by decide +kernel
theorem d_M_under_11 : decode b_M_under 11 = .ok (.if_icmp .ne 7, 3) := by decide +kernel
theorem d_M_under_14 : decode b_M_under 14 = .ok (.iconst 1, 1) := by decide +kernel
theorem d_M_under_15 : decode b_M_under 15 = .ok (.goto 4, 3) := by decide +kernel
theorem d_M_under_18 : decode b_M_under 18 = .ok (.iconst 0, 1) := by decide +kernel
theorem d_M_under_19 : decode b_M_under 19 = .ok (.ireturn, 1) := by decide +kernel
theorem d_M_isClass_0 : decode b_M_isClass 0 = .ok (.iload_n 1, 1) := by decide +kernel
theorem d_M_isClass_1 : decode b_M_isClass 1 = .ok (.ifCond .lt 15, 3) := by decide +kernel
theorem d_M_isClass_4 : decode b_M_isClass 4 = .ok (.iload_n 1, 1) := by decide +kernel
theorem d_M_isClass_5 : decode b_M_isClass 5 = .ok (.aload_n 0, 1) := by decide +kernel
theorem d_M_isClass_6 : decode b_M_isClass 6 = .ok (.getfield 89, 3) := by decide +kernel
theorem d_M_isClass_9 : decode b_M_isClass 9 = .ok (.if_icmp .ge 7, 3) := by decide +kernel
theorem d_M_isClass_12 : decode b_M_isClass 12 = .ok (.iconst 1, 1) := by decide +kernel
theorem d_M_isClass_13 : decode b_M_isClass 13 = .ok (.goto 4, 3) := by decide +kernel
theorem d_M_isClass_16 : decode b_M_isClass 16 = .ok (.iconst 0, 1) := by decide +kernel
theorem d_M_isClass_17 : decode b_M_isClass 17 = .ok (.ireturn, 1) := by decide +kernel
theorem d_M_isType_0 : decode b_M_isType 0 = .ok (.iload_n 1, 1) := by decide +kernel
theorem d_M_isType_1 : decode b_M_isType 1 = .ok (.ifCond .lt 15, 3) := by decide +kernel
theorem d_M_isType_4 : decode b_M_isType 4 = .ok (.iload_n 1, 1) := by decide +kernel
theorem d_M_isType_5 : decode b_M_isType 5 = .ok (.aload_n 0, 1) := by decide +kernel
theorem d_M_isType_6 : decode b_M_isType 6 = .ok (.getfield 99, 3) := by decide +kernel
theorem d_M_isType_9 : decode b_M_isType 9 = .ok (.if_icmp .ge 7, 3) := by decide +kernel
theorem d_M_isType_12 : decode b_M_isType 12 = .ok (.iconst 1, 1) := by decide +kernel
theorem d_M_isType_13 : decode b_M_isType 13 = .ok (.goto 4, 3) := by decide +kernel
theorem d_M_isType_16 : decode b_M_isType 16 = .ok (.iconst 0, 1) := by decide +kernel
theorem d_M_isType_17 : decode b_M_isType 17 = .ok (.ireturn, 1) := by decide +kernel
theorem d_M_climb_0 : decode b_M_climb 0 = .ok (.aload_n 0, 1) := by decide +kernel
theorem d_M_climb_1 : decode b_M_climb 1 = .ok (.iload_n 1, 1) := by decide +kernel
theorem d_M_climb_2 : decode b_M_climb 2 = .ok (.iload 4, 2) := by decide +kernel
theorem d_M_climb_4 : decode b_M_climb 4 = .ok (.if_icmp .eq 13, 3) := by decide +kernel
theorem d_M_climb_7 : decode b_M_climb 7 = .ok (.aload_n 0, 1) := by decide +kernel
theorem d_M_climb_8 : decode b_M_climb 8 = .ok (.iload_n 1, 1) := by decide +kernel
theorem d_M_climb_9 : decode b_M_climb 9 = .ok (.iload 4, 2) := by decide +kernel
theorem d_M_climb_11 : decode b_M_climb 11 = .ok (.invokevirtual 105, 3) := by decide +kernel
theorem d_M_climb_14 : decode b_M_climb 14 = .ok (.ifCond .eq 7, 3) := by decide +kernel
theorem d_M_climb_17 : decode b_M_climb 17 = .ok (.iconst 1, 1) := by decide +kernel
theorem d_M_climb_18 : decode b_M_climb 18 = .ok (.goto 4, 3) := by decide +kernel
theorem d_M_climb_21 : decode b_M_climb 21 = .ok (.iconst 0, 1) := by decide +kernel
theorem d_M_climb_22 : decode b_M_climb 22 = .ok (.putfield 109, 3) := by decide +kernel
theorem d_M_climb_25 : decode b_M_climb 25 = .ok (.iload_n 1, 1) := by decide +kernel
theorem d_M_climb_26 : decode b_M_climb 26 = .ok (.istore 5, 2) := by decide +kernel
theorem d_M_climb_28 : decode b_M_climb 28 = .ok (.aload_n 0, 1) := by decide +kernel
theorem d_M_climb_29 : decode b_M_climb 29 = .ok (.iload_n 2, 1) := by decide +kernel
theorem d_M_climb_30 : decode b_M_climb 30 = .ok (.putfield 113, 3) := by decide +kernel
theorem d_M_climb_33 : decode b_M_climb 33 = .ok (.aload_n 0, 1) := by decide +kernel
theorem d_M_climb_34 : decode b_M_climb 34 = .ok (.iload_n 3, 1) := by decide +kernel
theorem d_M_climb_35 : decode b_M_climb 35 = .ok (.putfield 116, 3) := by decide +kernel
theorem d_M_climb_38 : decode b_M_climb 38 = .ok (.aload_n 0, 1) := by decide +kernel
theorem d_M_climb_39 : decode b_M_climb 39 = .ok (.getfield 109, 3) := by decide +kernel
theorem d_M_climb_42 : decode b_M_climb 42 = .ok (.ifCond .eq 120, 3) := by decide +kernel
theorem d_M_climb_45 : decode b_M_climb 45 = .ok (.iload 5, 2) := by decide +kernel
theorem d_M_climb_47 : decode b_M_climb 47 = .ok (.iload 4, 2) := by decide +kernel
theorem d_M_climb_49 : decode b_M_climb 49 = .ok (.if_icmp .eq 113, 3) := by decide +kernel
theorem d_M_climb_52 : decode b_M_climb 52 = .ok (.iconst 0, 1) := by decide +kernel
theorem d_M_climb_53 : decode b_M_climb 53 = .ok (.istore 6, 2) := by decide +kernel
theorem d_M_climb_55 : decode b_M_climb 55 = .ok (.aload_n 0, 1) := by decide +kernel
theorem d_M_climb_56 : decode b_M_climb 56 = .ok (.getfield 20, 3) := by decide +kernel
theorem d_M_climb_59 : decode b_M_climb 59 = .ok (.bipush 30, 2) := by decide +kernel
theorem d_M_climb_61 : decode b_M_climb 61 = .ok (.iload 5, 2) := by decide +kernel
theorem d_M_climb_63 : decode b_M_climb 63 = .ok (.imul, 1) := by decide +kernel
theorem d_M_climb_64 : decode b_M_climb 64 = .ok (.iload 6, 2) := by decide +kernel
theorem d_M_climb_66 : decode b_M_climb 66 = .ok (.iadd, 1) := by decide +kernel
theorem d_M_climb_67 : decode b_M_climb 67 = .ok (.iaload, 1) := by decide +kernel
theorem d_M_climb_68 : decode b_M_climb 68 = .ok (.iload 4, 2) := by decide +kernel
theorem d_M_climb_70 : decode b_M_climb 70 = .ok (.if_icmp .eq 31, 3) := by decide +kernel
theorem d_M_climb_73 : decode b_M_climb 73 = .ok (.aload_n 0, 1) := by decide +kernel
theorem d_M_climb_74 : decode b_M_climb 74 = .ok (.aload_n 0, 1) := by decide +kernel
theorem d_M_climb_75 : decode b_M_climb 75 = .ok (.getfield 20, 3) := by decide +kernel
theorem d_M_climb_78 : decode b_M_climb 78 = .ok (.bipush 30, 2) := by decide +kernel
theorem d_M_climb_80 : decode b_M_climb 80 = .ok (.iload 5, 2) := by decide +kernel
theorem d_M_climb_82 : decode b_M_climb 82 = .ok (.imul, 1) := by decide +kernel
theorem d_M_climb_83 : decode b_M_climb 83 = .ok (.iload 6, 2) := by decide +kernel
theorem d_M_climb_85 : decode b_M_climb 85 = .ok (.iadd, 1) := by decide +kernel
theorem d_M_climb_86 : decode b_M_climb 86 = .ok (.iaload, 1) := by decide +kernel
theorem d_M_climb_87 : decode b_M_climb 87 = .ok (.iload 4, 2) := by decide +kernel
theorem d_M_climb_89 : decode b_M_climb 89 = .ok (.invokevirtual 105, 3) := by decide +kernel
theorem d_M_climb_92 : decode b_M_climb 92 = .ok (.ifCond .ne 9, 3) := by decide +kernel
theorem d_M_climb_95 : decode b_M_climb 95 = .ok (.iinc 6 1, 3) := by decide +kernel
theorem d_M_climb_98 : decode b_M_climb 98 = .ok (.goto (-43), 3) := by decide +kernel
theorem d_M_climb_101 : decode b_M_climb 101 = .ok (.aload_n 0, 1) := by decide +kernel
theorem d_M_climb_102 : decode b_M_climb 102 = .ok (.getfield 23, 3) := by decide +kernel
theorem d_M_climb_105 : decode b_M_climb 105 = .ok (.bipush 30, 2) := by decide +kernel
theorem d_M_climb_107 : decode b_M_climb 107 = .ok (.iload 5, 2) := by decide +kernel
theorem d_M_climb_109 : decode b_M_climb 109 = .ok (.imul, 1) := by decide +kernel
theorem d_M_climb_110 : decode b_M_climb 110 = .ok (.iload 6, 2) := by decide +kernel
theorem d_M_climb_112 : decode b_M_climb 112 = .ok (.iadd, 1) := by decide +kernel
theorem d_M_climb_113 : decode b_M_climb 113 = .ok (.iaload, 1) := by decide +kernel
theorem d_M_climb_114 : decode b_M_climb 114 = .ok (.istore 7, 2) := by decide +kernel
theorem d_M_climb_116 : decode b_M_climb 116 = .ok (.iload 7, 2) := by decide +kernel
theorem d_M_climb_118 : decode b_M_climb 118 = .ok (.bipush (-2), 2) := by decide +kernel
theorem d_M_climb_120 : decode b_M_climb 120 = .ok (.if_icmp .eq 24, 3) := by decide +kernel
theorem d_M_climb_123 : decode b_M_climb 123 = .ok (.aload_n 0, 1) := by decide +kernel
theorem d_M_climb_124 : decode b_M_climb 124 = .ok (.iload 7, 2) := by decide +kernel
theorem d_M_climb_126 : decode b_M_climb 126 = .ok (.iconst (-1), 1) := by decide +kernel
theorem d_M_climb_127 : decode b_M_climb 127 = .ok (.if_icmp .ne 7, 3) := by decide +kernel
theorem d_M_climb_130 : decode b_M_climb 130 = .ok (.iconst 0, 1) := by decide +kernel
theorem d_M_climb_131 : decode b_M_climb 131 = .ok (.goto 4, 3) := by decide +kernel
theorem d_M_climb_134 : decode b_M_climb 134 = .ok (.iconst 1, 1) := by decide +kernel
theorem d_M_climb_135 : decode b_M_climb 135 = .ok (.putfield 113, 3) := by decide +kernel
theorem d_M_climb_138 : decode b_M_climb 138 = .ok (.aload_n 0, 1) := by decide +kernel
theorem d_M_climb_139 : decode b_M_climb 139 = .ok (.iload 7, 2) := by decide +kernel
theorem d_M_climb_141 : decode b_M_climb 141 = .ok (.putfield 116, 3) := by decide +kernel
theorem d_M_climb_144 : decode b_M_climb 144 = .ok (.aload_n 0, 1) := by decide +kernel
theorem d_M_climb_145 : decode b_M_climb 145 = .ok (.getfield 20, 3) := by decide +kernel
theorem d_M_climb_148 : decode b_M_climb 148 = .ok (.bipush 30, 2) := by decide +kernel
theorem d_M_climb_150 : decode b_M_climb 150 = .ok (.iload 5, 2) := by decide +kernel
theorem d_M_climb_152 : decode b_M_climb 152 = .ok (.imul, 1) := by decide +kernel
theorem d_M_climb_153 : decode b_M_climb 153 = .ok (.iload 6, 2) := by decide +kernel
theorem d_M_climb_155 : decode b_M_climb 155 = .ok (.iadd, 1) := by decide +kernel
theorem d_M_climb_156 : decode b_M_climb 156 = .ok (.iaload, 1) := by decide +kernel
theorem d_M_climb_157 : decode b_M_climb 157 = .ok (.istore 5, 2) := by decide +kernel
theorem d_M_climb_159 : decode b_M_climb 159 = .ok (.goto (-121), 3) := by decide +kernel
theorem d_M_climb_162 : decode b_M_climb 162 = .ok (.return_, 1) := by decide +kernel
theorem d_M_lookAt_0 : decode b_M_lookAt 0 = .ok (.iload_n 1, 1) := by decide +kernel
theorem d_M_lookAt_1 : decode b_M_lookAt 1 = .ok (.bipush 8, 2) := by decide +kernel
theorem d_M_lookAt_3 : decode b_M_lookAt 3 = .ok (.if_icmp .ge 10, 3) := by decide +kernel
theorem d_M_lookAt_6 : decode b_M_lookAt 6 = .ok (.iload_n 1, 1) := by decide +kernel
theorem d_M_lookAt_7 : decode b_M_lookAt 7 = .ok (.bipush 8, 2) := by decide +kernel
theorem d_M_lookAt_9 : decode b_M_lookAt 9 = .ok (.iadd, 1) := by decide +kernel
theorem d_M_lookAt_10 : decode b_M_lookAt 10 = .ok (.goto 4, 3) := by decide +kernel
theorem d_M_lookAt_13 : decode b_M_lookAt 13 = .ok (.iload_n 1, 1) := by decide +kernel
theorem d_M_lookAt_14 : decode b_M_lookAt 14 = .ok (.istore_n 3, 1) := by decide +kernel
theorem d_M_lookAt_15 : decode b_M_lookAt 15 = .ok (.aload_n 0, 1) := by decide +kernel
theorem d_M_lookAt_16 : decode b_M_lookAt 16 = .ok (.iconst 0, 1) := by decide +kernel
theorem d_M_lookAt_17 : decode b_M_lookAt 17 = .ok (.putfield 109, 3) := by decide +kernel
theorem d_M_lookAt_20 : decode b_M_lookAt 20 = .ok (.aload_n 0, 1) := by decide +kernel
theorem d_M_lookAt_21 : decode b_M_lookAt 21 = .ok (.getfield 29, 3) := by decide +kernel
theorem d_M_lookAt_24 : decode b_M_lookAt 24 = .ok (.iload_n 3, 1) := by decide +kernel
theorem d_M_lookAt_25 : decode b_M_lookAt 25 = .ok (.iaload, 1) := by decide +kernel
theorem d_M_lookAt_26 : decode b_M_lookAt 26 = .ok (.iconst 2, 1) := by decide +kernel
theorem d_M_lookAt_27 : decode b_M_lookAt 27 = .ok (.if_icmp .ne 27, 3) := by decide +kernel
theorem d_M_lookAt_30 : decode b_M_lookAt 30 = .ok (.aload_n 0, 1) := by decide +kernel
theorem d_M_lookAt_31 : decode b_M_lookAt 31 = .ok (.iload_n 2, 1) := by decide +kernel
theorem d_M_lookAt_32 : decode b_M_lookAt 32 = .ok (.iconst 3, 1) := by decide +kernel
theorem d_M_lookAt_33 : decode b_M_lookAt 33 = .ok (.if_icmp .ge 7, 3) := by decide +kernel
theorem d_M_lookAt_36 : decode b_M_lookAt 36 = .ok (.iconst 1, 1) := by decide +kernel
theorem d_M_lookAt_37 : decode b_M_lookAt 37 = .ok (.goto 4, 3) := by decide +kernel
theorem d_M_lookAt_40 : decode b_M_lookAt 40 = .ok (.iconst 0, 1) := by decide +kernel
theorem d_M_lookAt_41 : decode b_M_lookAt 41 = .ok (.putfield 109, 3) := by decide +kernel
theorem d_M_lookAt_44 : decode b_M_lookAt 44 = .ok (.aload_n 0, 1) := by decide +kernel
theorem d_M_lookAt_45 : decode b_M_lookAt 45 = .ok (.iconst 0, 1) := by decide +kernel
theorem d_M_lookAt_46 : decode b_M_lookAt 46 = .ok (.putfield 113, 3) := by decide +kernel
theorem d_M_lookAt_49 : decode b_M_lookAt 49 = .ok (.aload_n 0, 1) := by decide +kernel
theorem d_M_lookAt_50 : decode b_M_lookAt 50 = .ok (.iconst (-1), 1) := by decide +kernel
theorem d_M_lookAt_51 : decode b_M_lookAt 51 = .ok (.putfield 116, 3) := by decide +kernel
theorem d_M_lookAt_54 : decode b_M_lookAt 54 = .ok (.iconst 0, 1) := by decide +kernel
theorem d_M_lookAt_55 : decode b_M_lookAt 55 = .ok (.istore 4, 2) := by decide +kernel
theorem d_M_lookAt_57 : decode b_M_lookAt 57 = .ok (.iload 4, 2) := by decide +kernel
theorem d_M_lookAt_59 : decode b_M_lookAt 59 = .ok (.aload_n 0, 1) := by decide +kernel
theorem d_M_lookAt_60 : decode b_M_lookAt 60 = .ok (.getfield 44, 3) := by decide +kernel
theorem d_M_lookAt_63 : decode b_M_lookAt 63 = .ok (.iload_n 3, 1) := by decide +kernel
theorem d_M_lookAt_64 : decode b_M_lookAt 64 = .ok (.iaload, 1) := by decide +kernel
theorem d_M_lookAt_65 : decode b_M_lookAt 65 = .ok (.if_icmp .ge 56, 3) := by decide +kernel
theorem d_M_lookAt_68 : decode b_M_lookAt 68 = .ok (.aload_n 0, 1) := by decide +kernel
theorem d_M_lookAt_69 : decode b_M_lookAt 69 = .ok (.getfield 109, 3) := by decide +kernel
theorem d_M_lookAt_72 : decode b_M_lookAt 72 = .ok (.ifCond .ne 49, 3) := by decide +kernel
theorem d_M_lookAt_75 : decode b_M_lookAt 75 = .ok (.aload_n 0, 1) := by decide +kernel
theorem d_M_lookAt_76 : decode b_M_lookAt 76 = .ok (.getfield 47, 3) := by decide +kernel
theorem d_M_lookAt_79 : decode b_M_lookAt 79 = .ok (.bipush 30, 2) := by decide +kernel
theorem d_M_lookAt_81 : decode b_M_lookAt 81 = .ok (.iload_n 3, 1) := by decide +kernel
theorem d_M_lookAt_82 : decode b_M_lookAt 82 = .ok (.imul, 1) := by decide +kernel
theorem d_M_lookAt_83 : decode b_M_lookAt 83 = .ok (.iload 4, 2) := by decide +kernel
theorem d_M_lookAt_85 : decode b_M_lookAt 85 = .ok (.iadd, 1) := by decide +kernel
theorem d_M_lookAt_86 : decode b_M_lookAt 86 = .ok (.iaload, 1) := by decide +kernel
theorem d_M_lookAt_87 : decode b_M_lookAt 87 = .ok (.istore 5, 2) := by decide +kernel
theorem d_M_lookAt_89 : decode b_M_lookAt 89 = .ok (.aload_n 0, 1) := by decide +kernel
theorem d_M_lookAt_90 : decode b_M_lookAt 90 = .ok (.aload_n 0, 1) := by decide +kernel
theorem d_M_lookAt_91 : decode b_M_lookAt 91 = .ok (.getfield 32, 3) := by decide +kernel
theorem d_M_lookAt_94 : decode b_M_lookAt 94 = .ok (.iload 5, 2) := by decide +kernel
theorem d_M_lookAt_96 : decode b_M_lookAt 96 = .ok (.iaload, 1) := by decide +kernel
theorem d_M_lookAt_97 : decode b_M_lookAt 97 = .ok (.aload_n 0, 1) := by decide +kernel
theorem d_M_lookAt_98 : decode b_M_lookAt 98 = .ok (.getfield 35, 3) := by decide +kernel
theorem d_M_lookAt_101 : decode b_M_lookAt 101 = .ok (.iload 5, 2) := by decide +kernel
theorem d_M_lookAt_103 : decode b_M_lookAt 103 = .ok (.iaload, 1) := by decide +kernel
theorem d_M_lookAt_104 : decode b_M_lookAt 104 = .ok (.aload_n 0, 1) := by decide +kernel
theorem d_M_lookAt_105 : decode b_M_lookAt 105 = .ok (.getfield 38, 3) := by decide +kernel
theorem d_M_lookAt_108 : decode b_M_lookAt 108 = .ok (.iload 5, 2) := by decide +kernel
theorem d_M_lookAt_110 : decode b_M_lookAt 110 = .ok (.iaload, 1) := by decide +kernel
theorem d_M_lookAt_111 : decode b_M_lookAt 111 = .ok (.iload_n 2, 1) := by decide +kernel
theorem d_M_lookAt_112 : decode b_M_lookAt 112 = .ok (.invokevirtual 119, 3) := by decide +kernel
theorem d_M_lookAt_115 : decode b_M_lookAt 115 = .ok (.iinc 4 1, 3) := by decide +kernel
theorem d_M_lookAt_118 : decode b_M_lookAt 118 = .ok (.goto (-61), 3) := by decide +kernel
theorem d_M_lookAt_121 : decode b_M_lookAt 121 = .ok (.return_, 1) := by decide +kernel
theorem d_M_add_0 : decode b_M_add 0 = .ok (.iconst 0, 1) := by decide +kernel
theorem d_M_add_1 : decode b_M_add 1 = .ok (.istore 5, 2) := by decide +kernel
theorem d_M_add_3 : decode b_M_add 3 = .ok (.iload 5, 2) := by decide +kernel
theorem d_M_add_5 : decode b_M_add 5 = .ok (.aload_n 0, 1) := by decide +kernel
theorem d_M_add_6 : decode b_M_add 6 = .ok (.getfield 99, 3) := by decide +kernel
theorem d_M_add_9 : decode b_M_add 9 = .ok (.if_icmp .ge 57, 3) := by decide +kernel
theorem d_M_add_12 : decode b_M_add 12 = .ok (.aload_n 0, 1) := by decide +kernel
theorem d_M_add_13 : decode b_M_add 13 = .ok (.getfield 29, 3) := by decide +kernel
theorem d_M_add_16 : decode b_M_add 16 = .ok (.iload 5, 2) := by decide +kernel
theorem d_M_add_18 : decode b_M_add 18 = .ok (.iaload, 1) := by decide +kernel
theorem d_M_add_19 : decode b_M_add 19 = .ok (.iload_n 1, 1) := by decide +kernel
theorem d_M_add_20 : decode b_M_add 20 = .ok (.if_icmp .ne 40, 3) := by decide +kernel
theorem d_M_add_23 : decode b_M_add 23 = .ok (.aload_n 0, 1) := by decide +kernel
theorem d_M_add_24 : decode b_M_add 24 = .ok (.getfield 32, 3) := by decide +kernel
theorem d_M_add_27 : decode b_M_add 27 = .ok (.iload 5, 2) := by decide +kernel
theorem d_M_add_29 : decode b_M_add 29 = .ok (.iaload, 1) := by decide +kernel
theorem d_M_add_30 : decode b_M_add 30 = .ok (.iload_n 2, 1) := by decide +kernel
theorem d_M_add_31 : decode b_M_add 31 = .ok (.if_icmp .ne 29, 3) := by decide +kernel
theorem d_M_add_34 : decode b_M_add 34 = .ok (.aload_n 0, 1) := by decide +kernel
theorem d_M_add_35 : decode b_M_add 35 = .ok (.getfield 35, 3) := by decide +kernel
theorem d_M_add_38 : decode b_M_add 38 = .ok (.iload 5, 2) := by decide +kernel
theorem d_M_add_40 : decode b_M_add 40 = .ok (.iaload, 1) := by decide +kernel
theorem d_M_add_41 : decode b_M_add 41 = .ok (.iload_n 3, 1) := by decide +kernel
theorem d_M_add_42 : decode b_M_add 42 = .ok (.if_icmp .ne 18, 3) := by decide +kernel
theorem d_M_add_45 : decode b_M_add 45 = .ok (.aload_n 0, 1) := by decide +kernel
theorem d_M_add_46 : decode b_M_add 46 = .ok (.getfield 38, 3) := by decide +kernel
theorem d_M_add_49 : decode b_M_add 49 = .ok (.iload 5, 2) := by decide +kernel
theorem d_M_add_51 : decode b_M_add 51 = .ok (.iaload, 1) := by decide +kernel
theorem d_M_add_52 : decode b_M_add 52 = .ok (.iload 4, 2) := by decide +kernel
theorem d_M_add_54 : decode b_M_add 54 = .ok (.if_icmp .ne 6, 3) := by decide +kernel
theorem d_M_add_57 : decode b_M_add 57 = .ok (.iload 5, 2) := by decide +kernel
theorem d_M_add_59 : decode b_M_add 59 = .ok (.ireturn, 1) := by decide +kernel
theorem d_M_add_60 : decode b_M_add 60 = .ok (.iinc 5 1, 3) := by decide +kernel
theorem d_M_add_63 : decode b_M_add 63 = .ok (.goto (-60), 3) := by decide +kernel
theorem d_M_add_66 : decode b_M_add 66 = .ok (.iconst 1, 1) := by decide +kernel
theorem d_M_add_67 : decode b_M_add 67 = .ok (.iload 4, 2) := by decide +kernel
theorem d_M_add_69 : decode b_M_add 69 = .ok (.iconst (-1), 1) := by decide +kernel
theorem d_M_add_70 : decode b_M_add 70 = .ok (.if_icmp .ne 7, 3) := by decide +kernel
theorem d_M_add_73 : decode b_M_add 73 = .ok (.iconst 0, 1) := by decide +kernel
theorem d_M_add_74 : decode b_M_add 74 = .ok (.goto 10, 3) := by decide +kernel
theorem d_M_add_77 : decode b_M_add 77 = .ok (.aload_n 0, 1) := by decide +kernel
theorem d_M_add_78 : decode b_M_add 78 = .ok (.getfield 41, 3) := by decide +kernel
theorem d_M_add_81 : decode b_M_add 81 = .ok (.iload 4, 2) := by decide +kernel
theorem d_M_add_83 : decode b_M_add 83 = .ok (.iaload, 1) := by decide +kernel
theorem d_M_add_84 : decode b_M_add 84 = .ok (.iadd, 1) := by decide +kernel
theorem d_M_add_85 : decode b_M_add 85 = .ok (.istore 5, 2) := by decide +kernel
theorem d_M_add_87 : decode b_M_add 87 = .ok (.aload_n 0, 1) := by decide +kernel
theorem d_M_add_88 : decode b_M_add 88 = .ok (.getfield 99, 3) := by decide +kernel
theorem d_M_add_91 : decode b_M_add 91 = .ok (.sipush 300, 3) := by decide +kernel
theorem d_M_add_94 : decode b_M_add 94 = .ok (.if_icmp .eq 10, 3) := by decide +kernel
theorem d_M_add_97 : decode b_M_add 97 = .ok (.iload 5, 2) := by decide +kernel
theorem d_M_add_99 : decode b_M_add 99 = .ok (.bipush 100, 2) := by decide +kernel
theorem d_M_add_101 : decode b_M_add 101 = .ok (.if_icmp .le 10, 3) := by decide +kernel
theorem d_M_add_104 : decode b_M_add 104 = .ok (.aload_n 0, 1) := by decide +kernel
theorem d_M_add_105 : decode b_M_add 105 = .ok (.iconst 1, 1) := by decide +kernel
theorem d_M_add_106 : decode b_M_add 106 = .ok (.putfield 123, 3) := by decide +kernel
theorem d_M_add_109 : decode b_M_add 109 = .ok (.iconst 0, 1) := by decide +kernel
theorem d_M_add_110 : decode b_M_add 110 = .ok (.ireturn, 1) := by decide +kernel
theorem d_M_add_111 : decode b_M_add 111 = .ok (.aload_n 0, 1) := by decide +kernel
theorem d_M_add_112 : decode b_M_add 112 = .ok (.getfield 29, 3) := by decide +kernel
theorem d_M_add_115 : decode b_M_add 115 = .ok (.aload_n 0, 1) := by decide +kernel
theorem d_M_add_116 : decode b_M_add 116 = .ok (.getfield 99, 3) := by decide +kernel
theorem d_M_add_119 : decode b_M_add 119 = .ok (.iload_n 1, 1) := by decide +kernel
theorem d_M_add_120 : decode b_M_add 120 = .ok (.iastore, 1) := by decide +kernel
theorem d_M_add_121 : decode b_M_add 121 = .ok (.aload_n 0, 1) := by decide +kernel
theorem d_M_add_122 : decode b_M_add 122 = .ok (.getfield 32, 3) := by decide +kernel
theorem d_M_add_125 : decode b_M_add 125 = .ok (.aload_n 0, 1) := by decide +kernel
theorem d_M_add_126 : decode b_M_add 126 = .ok (.getfield 99, 3) := by decide +kernel
theorem d_M_add_129 : decode b_M_add 129 = .ok (.iload_n 2, 1) := by decide +kernel
theorem d_M_add_130 : decode b_M_add 130 = .ok (.iastore, 1) := by decide +kernel
theorem d_M_add_131 : decode b_M_add 131 = .ok (.aload_n 0, 1) := by decide +kernel
theorem d_M_add_132 : decode b_M_add 132 = .ok (.getfield 35, 3) := by decide +kernel
theorem d_M_add_135 : decode b_M_add 135 = .ok (.aload_n 0, 1) := by decide +kernel
theorem d_M_add_136 : decode b_M_add 136 = .ok (.getfield 99, 3) := by decide +kernel
theorem d_M_add_139 : decode b_M_add 139 = .ok (.iload_n 3, 1) := by decide +kernel
theorem d_M_add_140 : decode b_M_add 140 = .ok (.iastore, 1) := by decide +kernel
theorem d_M_add_141 : decode b_M_add 141 = .ok (.aload_n 0, 1) := by decide +kernel
theorem d_M_add_142 : decode b_M_add 142 = .ok (.getfield 38, 3) := by decide +kernel
theorem d_M_add_145 : decode b_M_add 145 = .ok (.aload_n 0, 1) := by decide +kernel
theorem d_M_add_146 : decode b_M_add 146 = .ok (.getfield 99, 3) := by decide +kernel
theorem d_M_add_149 : decode b_M_add 149 = .ok (.iload 4, 2) := by decide +kernel
theorem d_M_add_151 : decode b_M_add 151 = .ok (.iastore, 1) := by decide +kernel
theorem d_M_add_152 : decode b_M_add 152 = .ok (.aload_n 0, 1) := by decide +kernel
theorem d_M_add_153 : decode b_M_add 153 = .ok (.getfield 41, 3) := by decide +kernel
theorem d_M_add_156 : decode b_M_add 156 = .ok (.aload_n 0, 1) := by decide +kernel
theorem d_M_add_157 : decode b_M_add 157 = .ok (.getfield 99, 3) := by decide +kernel
theorem d_M_add_160 : decode b_M_add 160 = .ok (.iload 5, 2) := by decide +kernel
theorem d_M_add_162 : decode b_M_add 162 = .ok (.iastore, 1) := by decide +kernel
theorem d_M_add_163 : decode b_M_add 163 = .ok (.aload_n 0, 1) := by decide +kernel
theorem d_M_add_164 : decode b_M_add 164 = .ok (.getfield 44, 3) := by decide +kernel
theorem d_M_add_167 : decode b_M_add 167 = .ok (.aload_n 0, 1) := by decide +kernel
theorem d_M_add_168 : decode b_M_add 168 = .ok (.getfield 99, 3) := by decide +kernel
theorem d_M_add_171 : decode b_M_add 171 = .ok (.iload_n 1, 1) := by decide +kernel
theorem d_M_add_172 : decode b_M_add 172 = .ok (.iconst 1, 1) := by decide +kernel
theorem d_M_add_173 : decode b_M_add 173 = .ok (.if_icmp .ne 7, 3) := by decide +kernel
theorem d_M_add_176 : decode b_M_add 176 = .ok (.iconst 1, 1) := by decide +kernel
theorem d_M_add_177 : decode b_M_add 177 = .ok (.goto 4, 3) := by decide +kernel
theorem d_M_add_180 : decode b_M_add 180 = .ok (.iconst 0, 1) := by decide +kernel
theorem d_M_add_181 : decode b_M_add 181 = .ok (.iastore, 1) := by decide +kernel
theorem d_M_add_182 : decode b_M_add 182 = .ok (.aload_n 0, 1) := by decide +kernel
theorem d_M_add_183 : decode b_M_add 183 = .ok (.getfield 47, 3) := by decide +kernel
theorem d_M_add_186 : decode b_M_add 186 = .ok (.bipush 30, 2) := by decide +kernel
theorem d_M_add_188 : decode b_M_add 188 = .ok (.aload_n 0, 1) := by decide +kernel
theorem d_M_add_189 : decode b_M_add 189 = .ok (.getfield 99, 3) := by decide +kernel
theorem d_M_add_192 : decode b_M_add 192 = .ok (.imul, 1) := by decide +kernel
theorem d_M_add_193 : decode b_M_add 193 = .ok (.aload_n 0, 1) := by decide +kernel
theorem d_M_add_194 : decode b_M_add 194 = .ok (.getfield 99, 3) := by decide +kernel
theorem d_M_add_197 : decode b_M_add 197 = .ok (.iastore, 1) := by decide +kernel
theorem d_M_add_198 : decode b_M_add 198 = .ok (.aload_n 0, 1) := by decide +kernel
theorem d_M_add_199 : decode b_M_add 199 = .ok (.dup, 1) := by decide +kernel
theorem d_M_add_200 : decode b_M_add 200 = .ok (.getfield 99, 3) := by decide +kernel
theorem d_M_add_203 : decode b_M_add 203 = .ok (.iconst 1, 1) := by decide +kernel
theorem d_M_add_204 : decode b_M_add 204 = .ok (.iadd, 1) := by decide +kernel
theorem d_M_add_205 : decode b_M_add 205 = .ok (.putfield 99, 3) := by decide +kernel
theorem d_M_add_208 : decode b_M_add 208 = .ok (.aload_n 0, 1) := by decide +kernel
theorem d_M_add_209 : decode b_M_add 209 = .ok (.getfield 99, 3) := by decide +kernel
theorem d_M_add_212 : decode b_M_add 212 = .ok (.iconst 1, 1) := by decide +kernel
theorem d_M_add_213 : decode b_M_add 213 = .ok (.isub, 1) := by decide +kernel
theorem d_M_add_214 : decode b_M_add 214 = .ok (.ireturn, 1) := by decide +kernel
theorem d_M_addNamed_0 : decode b_M_addNamed 0 = .ok (.aload_n 0, 1) := by decide +kernel
theorem d_M_addNamed_1 : decode b_M_addNamed 1 = .ok (.getfield 123, 3) := by decide +kernel
theorem d_M_addNamed_4 : decode b_M_addNamed 4 = .ok (.ifCond .eq 7, 3) := by decide +kernel
theorem d_M_addNamed_7 : decode b_M_addNamed 7 = .ok (.iconst 0, 1) := by decide +kernel
theorem d_M_addNamed_8 : decode b_M_addNamed 8 = .ok (.goto 11, 3) := by decide +kernel
theorem d_M_addNamed_11 : decode b_M_addNamed 11 = .ok (.aload_n 0, 1) := by decide +kernel
theorem d_M_addNamed_12 : decode b_M_addNamed 12 = .ok (.iconst 1, 1) := by decide +kernel
theorem d_M_addNamed_13 : decode b_M_addNamed 13 = .ok (.iload_n 1, 1) := by decide +kernel
theorem d_M_addNamed_14 : decode b_M_addNamed 14 = .ok (.iload_n 2, 1) := by decide +kernel
theorem d_M_addNamed_15 : decode b_M_addNamed 15 = .ok (.iload_n 3, 1) := by decide +kernel
theorem d_M_addNamed_16 : decode b_M_addNamed 16 = .ok (.invokevirtual 126, 3) := by decide +kernel
theorem d_M_addNamed_19 : decode b_M_addNamed 19 = .ok (.ireturn, 1) := by decide +kernel
theorem d_M_addArray_0 : decode b_M_addArray 0 = .ok (.aload_n 0, 1) := by decide +kernel
theorem d_M_addArray_1 : decode b_M_addArray 1 = .ok (.getfield 123, 3) := by decide +kernel
theorem d_M_addArray_4 : decode b_M_addArray 4 = .ok (.ifCond .eq 7, 3) := by decide +kernel
theorem d_M_addArray_7 : decode b_M_addArray 7 = .ok (.iconst 0, 1) := by decide +kernel
theorem d_M_addArray_8 : decode b_M_addArray 8 = .ok (.goto 11, 3) := by decide +kernel
theorem d_M_addArray_11 : decode b_M_addArray 11 = .ok (.aload_n 0, 1) := by decide +kernel
theorem d_M_addArray_12 : decode b_M_addArray 12 = .ok (.iconst 2, 1) := by decide +kernel
theorem d_M_addArray_13 : decode b_M_addArray 13 = .ok (.iconst (-1), 1) := by decide +kernel
theorem d_M_addArray_14 : decode b_M_addArray 14 = .ok (.iconst (-1), 1) := by decide +kernel
theorem d_M_addArray_15 : decode b_M_addArray 15 = .ok (.iload_n 1, 1) := by decide +kernel
theorem d_M_addArray_16 : decode b_M_addArray 16 = .ok (.invokevirtual 126, 3) := by decide +kernel
theorem d_M_addArray_19 : decode b_M_addArray 19 = .ok (.ireturn, 1) := by decide +kernel
theorem d_M_addBoth_0 : decode b_M_addBoth 0 = .ok (.iconst 1, 1) := by decide +kernel
theorem d_M_addBoth_1 : decode b_M_addBoth 1 = .ok (.istore_n 2, 1) := by decide +kernel
theorem d_M_addBoth_2 : decode b_M_addBoth 2 = .ok (.iload_n 2, 1) := by decide +kernel
theorem d_M_addBoth_3 : decode b_M_addBoth 3 = .ok (.iload_n 1, 1) := by decide +kernel
theorem d_M_addBoth_4 : decode b_M_addBoth 4 = .ok (.if_icmp .ge 80, 3) := by decide +kernel
theorem d_M_addBoth_7 : decode b_M_addBoth 7 = .ok (.iload_n 2, 1) := by decide +kernel
theorem d_M_addBoth_8 : decode b_M_addBoth 8 = .ok (.istore_n 3, 1) := by decide +kernel
theorem d_M_addBoth_9 : decode b_M_addBoth 9 = .ok (.iload_n 3, 1) := by decide +kernel
theorem d_M_addBoth_10 : decode b_M_addBoth 10 = .ok (.ifCond .le 68, 3) := by decide +kernel
theorem d_M_addBoth_13 : decode b_M_addBoth 13 = .ok (.aload_n 0, 1) := by decide +kernel
theorem d_M_addBoth_14 : decode b_M_addBoth 14 = .ok (.getfield 32, 3) := by decide +kernel
theorem d_M_addBoth_17 : decode b_M_addBoth 17 = .ok (.aload_n 0, 1) := by decide +kernel
theorem d_M_addBoth_18 : decode b_M_addBoth 18 = .ok (.getfield 50, 3) := by decide +kernel
theorem d_M_addBoth_21 : decode b_M_addBoth 21 = .ok (.iload_n 3, 1) := by decide +kernel
theorem d_M_addBoth_22 : decode b_M_addBoth 22 = .ok (.iconst 1, 1) := by decide +kernel
theorem d_M_addBoth_23 : decode b_M_addBoth 23 = .ok (.isub, 1) := by decide +kernel
theorem d_M_addBoth_24 : decode b_M_addBoth 24 = .ok (.iaload, 1) := by decide +kernel
theorem d_M_addBoth_25 : decode b_M_addBoth 25 = .ok (.iaload, 1) := by decide +kernel
theorem d_M_addBoth_26 : decode b_M_addBoth 26 = .ok (.aload_n 0, 1) := by decide +kernel
theorem d_M_addBoth_27 : decode b_M_addBoth 27 = .ok (.getfield 32, 3) := by decide +kernel
theorem d_M_addBoth_30 : decode b_M_addBoth 30 = .ok (.aload_n 0, 1) := by decide +kernel
theorem d_M_addBoth_31 : decode b_M_addBoth 31 = .ok (.getfield 50, 3) := by decide +kernel
theorem d_M_addBoth_34 : decode b_M_addBoth 34 = .ok (.iload_n 3, 1) := by decide +kernel
theorem d_M_addBoth_35 : decode b_M_addBoth 35 = .ok (.iaload, 1) := by decide +kernel
theorem d_M_addBoth_36 : decode b_M_addBoth 36 = .ok (.iaload, 1) := by decide +kernel
theorem d_M_addBoth_37 : decode b_M_addBoth 37 = .ok (.if_icmp .le 41, 3) := by decide +kernel
theorem d_M_addBoth_40 : decode b_M_addBoth 40 = .ok (.aload_n 0, 1) := by decide +kernel
theorem d_M_addBoth_41 : decode b_M_addBoth 41 = .ok (.getfield 50, 3) := by decide +kernel
theorem d_M_addBoth_44 : decode b_M_addBoth 44 = .ok (.iload_n 3, 1) := by decide +kernel
theorem d_M_addBoth_45 : decode b_M_addBoth 45 = .ok (.iaload, 1) := by decide +kernel
theorem d_M_addBoth_46 : decode b_M_addBoth 46 = .ok (.istore 4, 2) := by decide +kernel
theorem d_M_addBoth_48 : decode b_M_addBoth 48 = .ok (.aload_n 0, 1) := by decide +kernel
theorem d_M_addBoth_49 : decode b_M_addBoth 49 = .ok (.getfield 50, 3) := by decide +kernel
theorem d_M_addBoth_52 : decode b_M_addBoth 52 = .ok (.iload_n 3, 1) := by decide +kernel
theorem d_M_addBoth_53 : decode b_M_addBoth 53 = .ok (.aload_n 0, 1) := by decide +kernel
theorem d_M_addBoth_54 : decode b_M_addBoth 54 = .ok (.getfield 50, 3) := by decide +kernel
theorem d_M_addBoth_57 : decode b_M_addBoth 57 = .ok (.iload_n 3, 1) := by decide +kernel
theorem d_M_addBoth_58 : decode b_M_addBoth 58 = .ok (.iconst 1, 1) := by decide +kernel
theorem d_M_addBoth_59 : decode b_M_addBoth 59 = .ok (.isub, 1) := by decide +kernel
theorem d_M_addBoth_60 : decode b_M_addBoth 60 = .ok (.iaload, 1) := by decide +kernel
theorem d_M_addBoth_61 : decode b_M_addBoth 61 = .ok (.iastore, 1) := by decide +kernel
theorem d_M_addBoth_62 : decode b_M_addBoth 62 = .ok (.aload_n 0, 1) := by decide +kernel
theorem d_M_addBoth_63 : decode b_M_addBoth 63 = .ok (.getfield 50, 3) := by decide +kernel
theorem d_M_addBoth_66 : decode b_M_addBoth 66 = .ok (.iload_n 3, 1) := by decide +kernel
theorem d_M_addBoth_67 : decode b_M_addBoth 67 = .ok (.iconst 1, 1) := by decide +kernel
theorem d_M_addBoth_68 : decode b_M_addBoth 68 = .ok (.isub, 1) := by decide +kernel
theorem d_M_addBoth_69 : decode b_M_addBoth 69 = .ok (.iload 4, 2) := by decide +kernel
theorem d_M_addBoth_71 : decode b_M_addBoth 71 = .ok (.iastore, 1) := by decide +kernel
theorem d_M_addBoth_72 : decode b_M_addBoth 72 = .ok (.iinc 3 (-1), 3) := by decide +kernel
theorem d_M_addBoth_75 : decode b_M_addBoth 75 = .ok (.goto (-66), 3) := by decide +kernel
theorem d_M_addBoth_78 : decode b_M_addBoth 78 = .ok (.iinc 2 1, 3) := by decide +kernel
theorem d_M_addBoth_81 : decode b_M_addBoth 81 = .ok (.goto (-79), 3) := by decide +kernel
theorem d_M_addBoth_84 : decode b_M_addBoth 84 = .ok (.iconst 1, 1) := by decide +kernel
theorem d_M_addBoth_85 : decode b_M_addBoth 85 = .ok (.istore_n 2, 1) := by decide +kernel
theorem d_M_addBoth_86 : decode b_M_addBoth 86 = .ok (.iconst 0, 1) := by decide +kernel
theorem d_M_addBoth_87 : decode b_M_addBoth 87 = .ok (.istore_n 3, 1) := by decide +kernel
theorem d_M_addBoth_88 : decode b_M_addBoth 88 = .ok (.iload_n 3, 1) := by decide +kernel
theorem d_M_addBoth_89 : decode b_M_addBoth 89 = .ok (.iload_n 1, 1) := by decide +kernel
theorem d_M_addBoth_90 : decode b_M_addBoth 90 = .ok (.if_icmp .ge 23, 3) := by decide +kernel
theorem d_M_addBoth_93 : decode b_M_addBoth 93 = .ok (.iload_n 2, 1) := by decide +kernel
theorem d_M_addBoth_94 : decode b_M_addBoth 94 = .ok (.aload_n 0, 1) := by decide +kernel
theorem d_M_addBoth_95 : decode b_M_addBoth 95 = .ok (.getfield 41, 3) := by decide +kernel
theorem d_M_addBoth_98 : decode b_M_addBoth 98 = .ok (.aload_n 0, 1) := by decide +kernel
theorem d_M_addBoth_99 : decode b_M_addBoth 99 = .ok (.getfield 50, 3) := by decide +kernel
theorem d_M_addBoth_102 : decode b_M_addBoth 102 = .ok (.iload_n 3, 1) := by decide +kernel
theorem d_M_addBoth_103 : decode b_M_addBoth 103 = .ok (.iaload, 1) := by decide +kernel
theorem d_M_addBoth_104 : decode b_M_addBoth 104 = .ok (.iaload, 1) := by decide +kernel
theorem d_M_addBoth_105 : decode b_M_addBoth 105 = .ok (.iadd, 1) := by decide +kernel
theorem d_M_addBoth_106 : decode b_M_addBoth 106 = .ok (.istore_n 2, 1) := by decide +kernel
theorem d_M_addBoth_107 : decode b_M_addBoth 107 = .ok (.iinc 3 1, 3) := by decide +kernel
theorem d_M_addBoth_110 : decode b_M_addBoth 110 = .ok (.goto (-22), 3) := by decide +kernel
theorem d_M_addBoth_113 : decode b_M_addBoth 113 = .ok (.iconst 0, 1) := by decide +kernel
theorem d_M_addBoth_114 : decode b_M_addBoth 114 = .ok (.istore_n 3, 1) := by decide +kernel
theorem d_M_addBoth_115 : decode b_M_addBoth 115 = .ok (.iload_n 3, 1) := by decide +kernel
theorem d_M_addBoth_116 : decode b_M_addBoth 116 = .ok (.aload_n 0, 1) := by decide +kernel
theorem d_M_addBoth_117 : decode b_M_addBoth 117 = .ok (.getfield 99, 3) := by decide +kernel
theorem d_M_addBoth_120 : decode b_M_addBoth 120 = .ok (.if_icmp .ge 92, 3) := by decide +kernel
theorem d_M_addBoth_123 : decode b_M_addBoth 123 = .ok (.aload_n 0, 1) := by decide +kernel
theorem d_M_addBoth_124 : decode b_M_addBoth 124 = .ok (.getfield 29, 3) := by decide +kernel
theorem d_M_addBoth_127 : decode b_M_addBoth 127 = .ok (.iload_n 3, 1) := by decide +kernel
theorem d_M_addBoth_128 : decode b_M_addBoth 128 = .ok (.iaload, 1) := by decide +kernel
theorem d_M_addBoth_129 : decode b_M_addBoth 129 = .ok (.iconst 3, 1) := by decide +kernel
theorem d_M_addBoth_130 : decode b_M_addBoth 130 = .ok (.if_icmp .ne 17, 3) := by decide +kernel
theorem d_M_addBoth_133 : decode b_M_addBoth 133 = .ok (.aload_n 0, 1) := by decide +kernel
theorem d_M_addBoth_134 : decode b_M_addBoth 134 = .ok (.getfield 44, 3) := by decide +kernel
theorem d_M_addBoth_137 : decode b_M_addBoth 137 = .ok (.iload_n 3, 1) := by decide +kernel
theorem d_M_addBoth_138 : decode b_M_addBoth 138 = .ok (.iaload, 1) := by decide +kernel
theorem d_M_addBoth_139 : decode b_M_addBoth 139 = .ok (.iload_n 1, 1) := by decide +kernel
theorem d_M_addBoth_140 : decode b_M_addBoth 140 = .ok (.if_icmp .ne 7, 3) := by decide +kernel
theorem d_M_addBoth_143 : decode b_M_addBoth 143 = .ok (.iconst 1, 1) := by decide +kernel
theorem d_M_addBoth_144 : decode b_M_addBoth 144 = .ok (.goto 4, 3) := by decide +kernel
theorem d_M_addBoth_147 : decode b_M_addBoth 147 = .ok (.iconst 0, 1) := by decide +kernel
theorem d_M_addBoth_148 : decode b_M_addBoth 148 = .ok (.istore 4, 2) := by decide +kernel
theorem d_M_addBoth_150 : decode b_M_addBoth 150 = .ok (.iconst 0, 1) := by decide +kernel
theorem d_M_addBoth_151 : decode b_M_addBoth 151 = .ok (.istore 5, 2) := by decide +kernel
theorem d_M_addBoth_153 : decode b_M_addBoth 153 = .ok (.iload 5, 2) := by decide +kernel
theorem d_M_addBoth_155 : decode b_M_addBoth 155 = .ok (.iload_n 1, 1) := by decide +kernel
theorem d_M_addBoth_156 : decode b_M_addBoth 156 = .ok (.if_icmp .ge 43, 3) := by decide +kernel
theorem d_M_addBoth_159 : decode b_M_addBoth 159 = .ok (.iload 4, 2) := by decide +kernel
theorem d_M_addBoth_161 : decode b_M_addBoth 161 = .ok (.ifCond .eq 38, 3) := by decide +kernel
theorem d_M_addBoth_164 : decode b_M_addBoth 164 = .ok (.aload_n 0, 1) := by decide +kernel
theorem d_M_addBoth_165 : decode b_M_addBoth 165 = .ok (.getfield 47, 3) := by decide +kernel
theorem d_M_addBoth_168 : decode b_M_addBoth 168 = .ok (.bipush 30, 2) := by decide +kernel
theorem d_M_addBoth_170 : decode b_M_addBoth 170 = .ok (.iload_n 3, 1) := by decide +kernel
theorem d_M_addBoth_171 : decode b_M_addBoth 171 = .ok (.imul, 1) := by decide +kernel
theorem d_M_addBoth_172 : decode b_M_addBoth 172 = .ok (.iload 5, 2) := by decide +kernel
theorem d_M_addBoth_174 : decode b_M_addBoth 174 = .ok (.iadd, 1) := by decide +kernel
theorem d_M_addBoth_175 : decode b_M_addBoth 175 = .ok (.iaload, 1) := by decide +kernel
theorem d_M_addBoth_176 : decode b_M_addBoth 176 = .ok (.aload_n 0, 1) := by decide +kernel
theorem d_M_addBoth_177 : decode b_M_addBoth 177 = .ok (.getfield 50, 3) := by decide +kernel
theorem d_M_addBoth_180 : decode b_M_addBoth 180 = .ok (.iload 5, 2) := by decide +kernel
theorem d_M_addBoth_182 : decode b_M_addBoth 182 = .ok (.iaload, 1) := by decide +kernel
theorem d_M_addBoth_183 : decode b_M_addBoth 183 = .ok (.if_icmp .ne 7, 3) := by decide +kernel
theorem d_M_addBoth_186 : decode b_M_addBoth 186 = .ok (.iconst 1, 1) := by decide +kernel
theorem d_M_addBoth_187 : decode b_M_addBoth 187 = .ok (.goto 4, 3) := by decide +kernel
theorem d_M_addBoth_190 : decode b_M_addBoth 190 = .ok (.iconst 0, 1) := by decide +kernel
theorem d_M_addBoth_191 : decode b_M_addBoth 191 = .ok (.istore 4, 2) := by decide +kernel
theorem d_M_addBoth_193 : decode b_M_addBoth 193 = .ok (.iinc 5 1, 3) := by decide +kernel
theorem d_M_addBoth_196 : decode b_M_addBoth 196 = .ok (.goto (-43), 3) := by decide +kernel
theorem d_M_addBoth_199 : decode b_M_addBoth 199 = .ok (.iload 4, 2) := by decide +kernel
theorem d_M_addBoth_201 : decode b_M_addBoth 201 = .ok (.ifCond .eq 5, 3) := by decide +kernel
theorem d_M_addBoth_204 : decode b_M_addBoth 204 = .ok (.iload_n 3, 1) := by decide +kernel
theorem d_M_addBoth_205 : decode b_M_addBoth 205 = .ok (.ireturn, 1) := by decide +kernel
theorem d_M_addBoth_206 : decode b_M_addBoth 206 = .ok (.iinc 3 1, 3) := by decide +kernel
theorem d_M_addBoth_209 : decode b_M_addBoth 209 = .ok (.goto (-94), 3) := by decide +kernel
theorem d_M_addBoth_212 : decode b_M_addBoth 212 = .ok (.aload_n 0, 1) := by decide +kernel
theorem d_M_addBoth_213 : decode b_M_addBoth 213 = .ok (.getfield 99, 3) := by decide +kernel
theorem d_M_addBoth_216 : decode b_M_addBoth 216 = .ok (.sipush 300, 3) := by decide +kernel
theorem d_M_addBoth_219 : decode b_M_addBoth 219 = .ok (.if_icmp .eq 9, 3) := by decide +kernel
theorem d_M_addBoth_222 : decode b_M_addBoth 222 = .ok (.iload_n 2, 1) := by decide +kernel
theorem d_M_addBoth_223 : decode b_M_addBoth 223 = .ok (.bipush 100, 2) := by decide +kernel
theorem d_M_addBoth_225 : decode b_M_addBoth 225 = .ok (.if_icmp .le 10, 3) := by decide +kernel
theorem d_M_addBoth_228 : decode b_M_addBoth 228 = .ok (.aload_n 0, 1) := by decide +kernel
theorem d_M_addBoth_229 : decode b_M_addBoth 229 = .ok (.iconst 1, 1) := by decide +kernel
theorem d_M_addBoth_230 : decode b_M_addBoth 230 = .ok (.putfield 123, 3) := by decide +kernel
theorem d_M_addBoth_233 : decode b_M_addBoth 233 = .ok (.iconst 0, 1) := by decide +kernel
theorem d_M_addBoth_234 : decode b_M_addBoth 234 = .ok (.ireturn, 1) := by decide +kernel
theorem d_M_addBoth_235 : decode b_M_addBoth 235 = .ok (.aload_n 0, 1) := by decide +kernel
theorem d_M_addBoth_236 : decode b_M_addBoth 236 = .ok (.getfield 29, 3) := by decide +kernel
theorem d_M_addBoth_239 : decode b_M_addBoth 239 = .ok (.aload_n 0, 1) := by decide +kernel
theorem d_M_addBoth_240 : decode b_M_addBoth 240 = .ok (.getfield 99, 3) := by decide +kernel
theorem d_M_addBoth_243 : decode b_M_addBoth 243 = .ok (.iconst 3, 1) := by decide +kernel
theorem d_M_addBoth_244 : decode b_M_addBoth 244 = .ok (.iastore, 1) := by decide +kernel
theorem d_M_addBoth_245 : decode b_M_addBoth 245 = .ok (.aload_n 0, 1) := by decide +kernel
theorem d_M_addBoth_246 : decode b_M_addBoth 246 = .ok (.getfield 32, 3) := by decide +kernel
theorem d_M_addBoth_249 : decode b_M_addBoth 249 = .ok (.aload_n 0, 1) := by decide +kernel
theorem d_M_addBoth_250 : decode b_M_addBoth 250 = .ok (.getfield 99, 3) := by decide +kernel
theorem d_M_addBoth_253 : decode b_M_addBoth 253 = .ok (.iconst (-1), 1) := by decide +kernel
theorem d_M_addBoth_254 : decode b_M_addBoth 254 = .ok (.iastore, 1) := by decide +kernel
theorem d_M_addBoth_255 : decode b_M_addBoth 255 = .ok (.aload_n 0, 1) := by decide +kernel
theorem d_M_addBoth_256 : decode b_M_addBoth 256 = .ok (.getfield 35, 3) := by decide +kernel
theorem d_M_addBoth_259 : decode b_M_addBoth 259 = .ok (.aload_n 0, 1) := by decide +kernel
theorem d_M_addBoth_260 : decode b_M_addBoth 260 = .ok (.getfield 99, 3) := by decide +kernel
theorem d_M_addBoth_263 : decode b_M_addBoth 263 = .ok (.iconst (-1), 1) := by decide +kernel
theorem d_M_addBoth_264 : decode b_M_addBoth 264 = .ok (.iastore, 1) := by decide +kernel
theorem d_M_addBoth_265 : decode b_M_addBoth 265 = .ok (.aload_n 0, 1) := by decide +kernel
theorem d_M_addBoth_266 : decode b_M_addBoth 266 = .ok (.getfield 38, 3) := by decide +kernel
theorem d_M_addBoth_269 : decode b_M_addBoth 269 = .ok (.aload_n 0, 1) := by decide +kernel
theorem d_M_addBoth_270 : decode b_M_addBoth 270 = .ok (.getfield 99, 3) := by decide +kernel
theorem d_M_addBoth_273 : decode b_M_addBoth 273 = .ok (.iconst (-1), 1) := by decide +kernel
theorem d_M_addBoth_274 : decode b_M_addBoth 274 = .ok (.iastore, 1) := by decide +kernel
theorem d_M_addBoth_275 : decode b_M_addBoth 275 = .ok (.aload_n 0, 1) := by decide +kernel
theorem d_M_addBoth_276 : decode b_M_addBoth 276 = .ok (.getfield 41, 3) := by decide +kernel
theorem d_M_addBoth_279 : decode b_M_addBoth 279 = .ok (.aload_n 0, 1) := by decide +kernel
theorem d_M_addBoth_280 : decode b_M_addBoth 280 = .ok (.getfield 99, 3) := by decide +kernel
theorem d_M_addBoth_283 : decode b_M_addBoth 283 = .ok (.iload_n 2, 1) := by decide +kernel
theorem d_M_addBoth_284 : decode b_M_addBoth 284 = .ok (.iastore, 1) := by decide +kernel
theorem d_M_addBoth_285 : decode b_M_addBoth 285 = .ok (.aload_n 0, 1) := by decide +kernel
theorem d_M_addBoth_286 : decode b_M_addBoth 286 = .ok (.getfield 44, 3) := by decide +kernel
theorem d_M_addBoth_289 : decode b_M_addBoth 289 = .ok (.aload_n 0, 1) := by decide +kernel
theorem d_M_addBoth_290 : decode b_M_addBoth 290 = .ok (.getfield 99, 3) := by decide +kernel
theorem d_M_addBoth_293 : decode b_M_addBoth 293 = .ok (.iload_n 1, 1) := by decide +kernel
theorem d_M_addBoth_294 : decode b_M_addBoth 294 = .ok (.iastore, 1) := by decide +kernel
theorem d_M_addBoth_295 : decode b_M_addBoth 295 = .ok (.iconst 0, 1) := by decide +kernel
theorem d_M_addBoth_296 : decode b_M_addBoth 296 = .ok (.istore_n 3, 1) := by decide +kernel
theorem d_M_addBoth_297 : decode b_M_addBoth 297 = .ok (.iload_n 3, 1) := by decide +kernel
theorem d_M_addBoth_298 : decode b_M_addBoth 298 = .ok (.iload_n 1, 1) := by decide +kernel
theorem d_M_addBoth_299 : decode b_M_addBoth 299 = .ok (.if_icmp .ge 29, 3) := by decide +kernel
theorem d_M_addBoth_302 : decode b_M_addBoth 302 = .ok (.aload_n 0, 1) := by decide +kernel
theorem d_M_addBoth_303 : decode b_M_addBoth 303 = .ok (.getfield 47, 3) := by decide +kernel
theorem d_M_addBoth_306 : decode b_M_addBoth 306 = .ok (.bipush 30, 2) := by decide +kernel
theorem d_M_addBoth_308 : decode b_M_addBoth 308 = .ok (.aload_n 0, 1) := by decide +kernel
theorem d_M_addBoth_309 : decode b_M_addBoth 309 = .ok (.getfield 99, 3) := by decide +kernel
theorem d_M_addBoth_312 : decode b_M_addBoth 312 = .ok (.imul, 1) := by decide +kernel
theorem d_M_addBoth_313 : decode b_M_addBoth 313 = .ok (.iload_n 3, 1) := by decide +kernel
theorem d_M_addBoth_314 : decode b_M_addBoth 314 = .ok (.iadd, 1) := by decide +kernel
theorem d_M_addBoth_315 : decode b_M_addBoth 315 = .ok (.aload_n 0, 1) := by decide +kernel
theorem d_M_addBoth_316 : decode b_M_addBoth 316 = .ok (.getfield 50, 3) := by decide +kernel
theorem d_M_addBoth_319 : decode b_M_addBoth 319 = .ok (.iload_n 3, 1) := by decide +kernel
theorem d_M_addBoth_320 : decode b_M_addBoth 320 = .ok (.iaload, 1) := by decide +kernel
theorem d_M_addBoth_321 : decode b_M_addBoth 321 = .ok (.iastore, 1) := by decide +kernel
theorem d_M_addBoth_322 : decode b_M_addBoth 322 = .ok (.iinc 3 1, 3) := by decide +kernel
theorem d_M_addBoth_325 : decode b_M_addBoth 325 = .ok (.goto (-28), 3) := by decide +kernel
theorem d_M_addBoth_328 : decode b_M_addBoth 328 = .ok (.aload_n 0, 1) := by decide +kernel
theorem d_M_addBoth_329 : decode b_M_addBoth 329 = .ok (.dup, 1) := by decide +kernel
theorem d_M_addBoth_330 : decode b_M_addBoth 330 = .ok (.getfield 99, 3) := by decide +kernel
theorem d_M_addBoth_333 : decode b_M_addBoth 333 = .ok (.iconst 1, 1) := by decide +kernel
theorem d_M_addBoth_334 : decode b_M_addBoth 334 = .ok (.iadd, 1) := by decide +kernel
theorem d_M_addBoth_335 : decode b_M_addBoth 335 = .ok (.putfield 99, 3) := by decide +kernel
theorem d_M_addBoth_338 : decode b_M_addBoth 338 = .ok (.aload_n 0, 1) := by decide +kernel
theorem d_M_addBoth_339 : decode b_M_addBoth 339 = .ok (.getfield 99, 3) := by decide +kernel
theorem d_M_addBoth_342 : decode b_M_addBoth 342 = .ok (.iconst 1, 1) := by decide +kernel
theorem d_M_addBoth_343 : decode b_M_addBoth 343 = .ok (.isub, 1) := by decide +kernel
theorem d_M_addBoth_344 : decode b_M_addBoth 344 = .ok (.ireturn, 1) := by decide +kernel
theorem d_M_isBelowAll_0 : decode b_M_isBelowAll 0 = .ok (.iconst 1, 1) := by decide +kernel
theorem d_M_isBelowAll_1 : decode b_M_isBelowAll 1 = .ok (.istore_n 3, 1) := by decide +kernel
theorem d_M_isBelowAll_2 : decode b_M_isBelowAll 2 = .ok (.iconst 0, 1) := by decide +kernel
theorem d_M_isBelowAll_3 : decode b_M_isBelowAll 3 = .ok (.istore 4, 2) := by decide +kernel
theorem d_M_isBelowAll_5 : decode b_M_isBelowAll 5 = .ok (.iload 4, 2) := by decide +kernel
theorem d_M_isBelowAll_7 : decode b_M_isBelowAll 7 = .ok (.aload_n 0, 1) := by decide +kernel
theorem d_M_isBelowAll_8 : decode b_M_isBelowAll 8 = .ok (.getfield 44, 3) := by decide +kernel
theorem d_M_isBelowAll_11 : decode b_M_isBelowAll 11 = .ok (.iload_n 2, 1) := by decide +kernel
theorem d_M_isBelowAll_12 : decode b_M_isBelowAll 12 = .ok (.iaload, 1) := by decide +kernel
theorem d_M_isBelowAll_13 : decode b_M_isBelowAll 13 = .ok (.if_icmp .ge 45, 3) := by decide +kernel
theorem d_M_isBelowAll_16 : decode b_M_isBelowAll 16 = .ok (.iload_n 3, 1) := by decide +kernel
theorem d_M_isBelowAll_17 : decode b_M_isBelowAll 17 = .ok (.ifCond .eq 33, 3) := by decide +kernel
theorem d_M_isBelowAll_20 : decode b_M_isBelowAll 20 = .ok (.aload_n 0, 1) := by decide +kernel
theorem d_M_isBelowAll_21 : decode b_M_isBelowAll 21 = .ok (.getfield 54, 3) := by decide +kernel
theorem d_M_isBelowAll_24 : decode b_M_isBelowAll 24 = .ok (.sipush 300, 3) := by decide +kernel
theorem d_M_isBelowAll_27 : decode b_M_isBelowAll 27 = .ok (.iload_n 1, 1) := by decide +kernel
theorem d_M_isBelowAll_28 : decode b_M_isBelowAll 28 = .ok (.imul, 1) := by decide +kernel
theorem d_M_isBelowAll_29 : decode b_M_isBelowAll 29 = .ok (.aload_n 0, 1) := by decide +kernel
theorem d_M_isBelowAll_30 : decode b_M_isBelowAll 30 = .ok (.getfield 47, 3) := by decide +kernel
theorem d_M_isBelowAll_33 : decode b_M_isBelowAll 33 = .ok (.bipush 30, 2) := by decide +kernel
theorem d_M_isBelowAll_35 : decode b_M_isBelowAll 35 = .ok (.iload_n 2, 1) := by decide +kernel
theorem d_M_isBelowAll_36 : decode b_M_isBelowAll 36 = .ok (.imul, 1) := by decide +kernel
theorem d_M_isBelowAll_37 : decode b_M_isBelowAll 37 = .ok (.iload 4, 2) := by decide +kernel
theorem d_M_isBelowAll_39 : decode b_M_isBelowAll 39 = .ok (.iadd, 1) := by decide +kernel
theorem d_M_isBelowAll_40 : decode b_M_isBelowAll 40 = .ok (.iaload, 1) := by decide +kernel
theorem d_M_isBelowAll_41 : decode b_M_isBelowAll 41 = .ok (.iadd, 1) := by decide +kernel
theorem d_M_isBelowAll_42 : decode b_M_isBelowAll 42 = .ok (.baload, 1) := by decide +kernel
theorem d_M_isBelowAll_43 : decode b_M_isBelowAll 43 = .ok (.ifCond .eq 7, 3) := by decide +kernel
theorem d_M_isBelowAll_46 : decode b_M_isBelowAll 46 = .ok (.iconst 1, 1) := by decide +kernel
theorem d_M_isBelowAll_47 : decode b_M_isBelowAll 47 = .ok (.goto 4, 3) := by decide +kernel
theorem d_M_isBelowAll_50 : decode b_M_isBelowAll 50 = .ok (.iconst 0, 1) := by decide +kernel
theorem d_M_isBelowAll_51 : decode b_M_isBelowAll 51 = .ok (.istore_n 3, 1) := by decide +kernel
theorem d_M_isBelowAll_52 : decode b_M_isBelowAll 52 = .ok (.iinc 4 1, 3) := by decide +kernel
theorem d_M_isBelowAll_55 : decode b_M_isBelowAll 55 = .ok (.goto (-50), 3) := by decide +kernel
theorem d_M_isBelowAll_58 : decode b_M_isBelowAll 58 = .ok (.iload_n 3, 1) := by decide +kernel
theorem d_M_isBelowAll_59 : decode b_M_isBelowAll 59 = .ok (.ireturn, 1) := by decide +kernel
theorem d_M_isBelowNamed_0 : decode b_M_isBelowNamed 0 = .ok (.iconst 0, 1) := by decide +kernel
theorem d_M_isBelowNamed_1 : decode b_M_isBelowNamed 1 = .ok (.istore_n 3, 1) := by decide +kernel
theorem d_M_isBelowNamed_2 : decode b_M_isBelowNamed 2 = .ok (.aload_n 0, 1) := by decide +kernel
theorem d_M_isBelowNamed_3 : decode b_M_isBelowNamed 3 = .ok (.getfield 29, 3) := by decide +kernel
theorem d_M_isBelowNamed_6 : decode b_M_isBelowNamed 6 = .ok (.iload_n 1, 1) := by decide +kernel
theorem d_M_isBelowNamed_7 : decode b_M_isBelowNamed 7 = .ok (.iaload, 1) := by decide +kernel
theorem d_M_isBelowNamed_8 : decode b_M_isBelowNamed 8 = .ok (.iconst 3, 1) := by decide +kernel
theorem d_M_isBelowNamed_9 : decode b_M_isBelowNamed 9 = .ok (.if_icmp .ne 12, 3) := by decide +kernel
theorem d_M_isBelowNamed_12 : decode b_M_isBelowNamed 12 = .ok (.aload_n 0, 1) := by decide +kernel
theorem d_M_isBelowNamed_13 : decode b_M_isBelowNamed 13 = .ok (.getfield 44, 3) := by decide +kernel
theorem d_M_isBelowNamed_16 : decode b_M_isBelowNamed 16 = .ok (.iload_n 1, 1) := by decide +kernel
theorem d_M_isBelowNamed_17 : decode b_M_isBelowNamed 17 = .ok (.iaload, 1) := by decide +kernel
theorem d_M_isBelowNamed_18 : decode b_M_isBelowNamed 18 = .ok (.goto 4, 3) := by decide +kernel
theorem d_M_isBelowNamed_21 : decode b_M_isBelowNamed 21 = .ok (.iconst 1, 1) := by decide +kernel
theorem d_M_isBelowNamed_22 : decode b_M_isBelowNamed 22 = .ok (.istore 4, 2) := by decide +kernel
theorem d_M_isBelowNamed_24 : decode b_M_isBelowNamed 24 = .ok (.iconst 0, 1) := by decide +kernel
theorem d_M_isBelowNamed_25 : decode b_M_isBelowNamed 25 = .ok (.istore 5, 2) := by decide +kernel
theorem d_M_isBelowNamed_27 : decode b_M_isBelowNamed 27 = .ok (.iload 5, 2) := by decide +kernel
theorem d_M_isBelowNamed_29 : decode b_M_isBelowNamed 29 = .ok (.iload 4, 2) := by decide +kernel
theorem d_M_isBelowNamed_31 : decode b_M_isBelowNamed 31 = .ok (.if_icmp .ge 139, 3) := by decide +kernel
theorem d_M_isBelowNamed_34 : decode b_M_isBelowNamed 34 = .ok (.iload_n 3, 1) := by decide +kernel
theorem d_M_isBelowNamed_35 : decode b_M_isBelowNamed 35 = .ok (.ifCond .ne 135, 3) := by decide +kernel
theorem d_M_isBelowNamed_38 : decode b_M_isBelowNamed 38 = .ok (.aload_n 0, 1) := by decide +kernel
theorem d_M_isBelowNamed_39 : decode b_M_isBelowNamed 39 = .ok (.getfield 29, 3) := by decide +kernel
theorem d_M_isBelowNamed_42 : decode b_M_isBelowNamed 42 = .ok (.iload_n 1, 1) := by decide +kernel
theorem d_M_isBelowNamed_43 : decode b_M_isBelowNamed 43 = .ok (.iaload, 1) := by decide +kernel
theorem d_M_isBelowNamed_44 : decode b_M_isBelowNamed 44 = .ok (.iconst 3, 1) := by decide +kernel
theorem d_M_isBelowNamed_45 : decode b_M_isBelowNamed 45 = .ok (.if_icmp .ne 18, 3) := by decide +kernel
theorem d_M_isBelowNamed_48 : decode b_M_isBelowNamed 48 = .ok (.aload_n 0, 1) := by decide +kernel
theorem d_M_isBelowNamed_49 : decode b_M_isBelowNamed 49 = .ok (.getfield 47, 3) := by decide +kernel
theorem d_M_isBelowNamed_52 : decode b_M_isBelowNamed 52 = .ok (.bipush 30, 2) := by decide +kernel
theorem d_M_isBelowNamed_54 : decode b_M_isBelowNamed 54 = .ok (.iload_n 1, 1) := by decide +kernel
theorem d_M_isBelowNamed_55 : decode b_M_isBelowNamed 55 = .ok (.imul, 1) := by decide +kernel
theorem d_M_isBelowNamed_56 : decode b_M_isBelowNamed 56 = .ok (.iload 5, 2) := by decide +kernel
theorem d_M_isBelowNamed_58 : decode b_M_isBelowNamed 58 = .ok (.iadd, 1) := by decide +kernel
theorem d_M_isBelowNamed_59 : decode b_M_isBelowNamed 59 = .ok (.iaload, 1) := by decide +kernel
theorem d_M_isBelowNamed_60 : decode b_M_isBelowNamed 60 = .ok (.goto 4, 3) := by decide +kernel
theorem d_M_isBelowNamed_63 : decode b_M_isBelowNamed 63 = .ok (.iload_n 1, 1) := by decide +kernel
theorem d_M_isBelowNamed_64 : decode b_M_isBelowNamed 64 = .ok (.istore 6, 2) := by decide +kernel
theorem d_M_isBelowNamed_66 : decode b_M_isBelowNamed 66 = .ok (.aload_n 0, 1) := by decide +kernel
theorem d_M_isBelowNamed_67 : decode b_M_isBelowNamed 67 = .ok (.iload 6, 2) := by decide +kernel
theorem d_M_isBelowNamed_69 : decode b_M_isBelowNamed 69 = .ok (.aload_n 0, 1) := by decide +kernel
theorem d_M_isBelowNamed_70 : decode b_M_isBelowNamed 70 = .ok (.getfield 32, 3) := by decide +kernel
theorem d_M_isBelowNamed_73 : decode b_M_isBelowNamed 73 = .ok (.iload_n 2, 1) := by decide +kernel
theorem d_M_isBelowNamed_74 : decode b_M_isBelowNamed 74 = .ok (.iaload, 1) := by decide +kernel
theorem d_M_isBelowNamed_75 : decode b_M_isBelowNamed 75 = .ok (.invokevirtual 142, 3) := by decide +kernel
theorem d_M_isBelowNamed_78 : decode b_M_isBelowNamed 78 = .ok (.aload_n 0, 1) := by decide +kernel
theorem d_M_isBelowNamed_79 : decode b_M_isBelowNamed 79 = .ok (.getfield 109, 3) := by decide +kernel
theorem d_M_isBelowNamed_82 : decode b_M_isBelowNamed 82 = .ok (.ifCond .eq 80, 3) := by decide +kernel
theorem d_M_isBelowNamed_85 : decode b_M_isBelowNamed 85 = .ok (.aload_n 0, 1) := by decide +kernel
theorem d_M_isBelowNamed_86 : decode b_M_isBelowNamed 86 = .ok (.getfield 35, 3) := by decide +kernel
theorem d_M_isBelowNamed_89 : decode b_M_isBelowNamed 89 = .ok (.iload_n 2, 1) := by decide +kernel
theorem d_M_isBelowNamed_90 : decode b_M_isBelowNamed 90 = .ok (.iaload, 1) := by decide +kernel
theorem d_M_isBelowNamed_91 : decode b_M_isBelowNamed 91 = .ok (.ifCond .eq 67, 3) := by decide +kernel
theorem d_M_isBelowNamed_94 : decode b_M_isBelowNamed 94 = .ok (.aload_n 0, 1) := by decide +kernel
theorem d_M_isBelowNamed_95 : decode b_M_isBelowNamed 95 = .ok (.getfield 35, 3) := by decide +kernel
theorem d_M_isBelowNamed_98 : decode b_M_isBelowNamed 98 = .ok (.iload_n 2, 1) := by decide +kernel
theorem d_M_isBelowNamed_99 : decode b_M_isBelowNamed 99 = .ok (.iaload, 1) := by decide +kernel
theorem d_M_isBelowNamed_100 : decode b_M_isBelowNamed 100 = .ok (.iconst 1, 1) := by decide +kernel
theorem d_M_isBelowNamed_101 : decode b_M_isBelowNamed 101 = .ok (.if_icmp .ne 24, 3) := by decide +kernel
theorem d_M_isBelowNamed_104 : decode b_M_isBelowNamed 104 = .ok (.aload_n 0, 1) := by decide +kernel
theorem d_M_isBelowNamed_105 : decode b_M_isBelowNamed 105 = .ok (.getfield 113, 3) := by decide +kernel
theorem d_M_isBelowNamed_108 : decode b_M_isBelowNamed 108 = .ok (.iconst 1, 1) := by decide +kernel
theorem d_M_isBelowNamed_109 : decode b_M_isBelowNamed 109 = .ok (.if_icmp .ne 16, 3) := by decide +kernel
theorem d_M_isBelowNamed_112 : decode b_M_isBelowNamed 112 = .ok (.aload_n 0, 1) := by decide +kernel
theorem d_M_isBelowNamed_113 : decode b_M_isBelowNamed 113 = .ok (.getfield 116, 3) := by decide +kernel
theorem d_M_isBelowNamed_116 : decode b_M_isBelowNamed 116 = .ok (.aload_n 0, 1) := by decide +kernel
theorem d_M_isBelowNamed_117 : decode b_M_isBelowNamed 117 = .ok (.getfield 38, 3) := by decide +kernel
theorem d_M_isBelowNamed_120 : decode b_M_isBelowNamed 120 = .ok (.iload_n 2, 1) := by decide +kernel
theorem d_M_isBelowNamed_121 : decode b_M_isBelowNamed 121 = .ok (.iaload, 1) := by decide +kernel
theorem d_M_isBelowNamed_122 : decode b_M_isBelowNamed 122 = .ok (.if_icmp .eq 36, 3) := by decide +kernel
theorem d_M_isBelowNamed_125 : decode b_M_isBelowNamed 125 = .ok (.aload_n 0, 1) := by decide +kernel
theorem d_M_isBelowNamed_126 : decode b_M_isBelowNamed 126 = .ok (.getfield 35, 3) := by decide +kernel
theorem d_M_isBelowNamed_129 : decode b_M_isBelowNamed 129 = .ok (.iload_n 2, 1) := by decide +kernel
theorem d_M_isBelowNamed_130 : decode b_M_isBelowNamed 130 = .ok (.iaload, 1) := by decide +kernel
theorem d_M_isBelowNamed_131 : decode b_M_isBelowNamed 131 = .ok (.iconst 2, 1) := by decide +kernel
theorem d_M_isBelowNamed_132 : decode b_M_isBelowNamed 132 = .ok (.if_icmp .ne 30, 3) := by decide +kernel
theorem d_M_isBelowNamed_135 : decode b_M_isBelowNamed 135 = .ok (.aload_n 0, 1) := by decide +kernel
theorem d_M_isBelowNamed_136 : decode b_M_isBelowNamed 136 = .ok (.getfield 54, 3) := by decide +kernel
theorem d_M_isBelowNamed_139 : decode b_M_isBelowNamed 139 = .ok (.sipush 300, 3) := by decide +kernel
theorem d_M_isBelowNamed_142 : decode b_M_isBelowNamed 142 = .ok (.aload_n 0, 1) := by decide +kernel
theorem d_M_isBelowNamed_143 : decode b_M_isBelowNamed 143 = .ok (.getfield 116, 3) := by decide +kernel
theorem d_M_isBelowNamed_146 : decode b_M_isBelowNamed 146 = .ok (.imul, 1) := by decide +kernel
theorem d_M_isBelowNamed_147 : decode b_M_isBelowNamed 147 = .ok (.aload_n 0, 1) := by decide +kernel
theorem d_M_isBelowNamed_148 : decode b_M_isBelowNamed 148 = .ok (.getfield 38, 3) := by decide +kernel
theorem d_M_isBelowNamed_151 : decode b_M_isBelowNamed 151 = .ok (.iload_n 2, 1) := by decide +kernel
theorem d_M_isBelowNamed_152 : decode b_M_isBelowNamed 152 = .ok (.iaload, 1) := by decide +kernel
theorem d_M_isBelowNamed_153 : decode b_M_isBelowNamed 153 = .ok (.iadd, 1) := by decide +kernel
theorem d_M_isBelowNamed_154 : decode b_M_isBelowNamed 154 = .ok (.baload, 1) := by decide +kernel
theorem d_M_isBelowNamed_155 : decode b_M_isBelowNamed 155 = .ok (.ifCond .eq 7, 3) := by decide +kernel
theorem d_M_isBelowNamed_158 : decode b_M_isBelowNamed 158 = .ok (.iconst 1, 1) := by decide +kernel
theorem d_M_isBelowNamed_159 : decode b_M_isBelowNamed 159 = .ok (.goto 4, 3) := by decide +kernel
theorem d_M_isBelowNamed_162 : decode b_M_isBelowNamed 162 = .ok (.iconst 0, 1) := by decide +kernel
theorem d_M_isBelowNamed_163 : decode b_M_isBelowNamed 163 = .ok (.istore_n 3, 1) := by decide +kernel
theorem d_M_isBelowNamed_164 : decode b_M_isBelowNamed 164 = .ok (.iinc 5 1, 3) := by decide +kernel
theorem d_M_isBelowNamed_167 : decode b_M_isBelowNamed 167 = .ok (.goto (-140), 3) := by decide +kernel
theorem d_M_isBelowNamed_170 : decode b_M_isBelowNamed 170 = .ok (.iload_n 3, 1) := by decide +kernel
theorem d_M_isBelowNamed_171 : decode b_M_isBelowNamed 171 = .ok (.ireturn, 1) := by decide +kernel
theorem d_M_isBelowArray_0 : decode b_M_isBelowArray 0 = .ok (.aload_n 0, 1) := by decide +kernel
theorem d_M_isBelowArray_1 : decode b_M_isBelowArray 1 = .ok (.getfield 29, 3) := by decide +kernel
theorem d_M_isBelowArray_4 : decode b_M_isBelowArray 4 = .ok (.iload_n 1, 1) := by decide +kernel
theorem d_M_isBelowArray_5 : decode b_M_isBelowArray 5 = .ok (.iaload, 1) := by decide +kernel
theorem d_M_isBelowArray_6 : decode b_M_isBelowArray 6 = .ok (.iconst 2, 1) := by decide +kernel
theorem d_M_isBelowArray_7 : decode b_M_isBelowArray 7 = .ok (.if_icmp .ne 54, 3) := by decide +kernel
theorem d_M_isBelowArray_10 : decode b_M_isBelowArray 10 = .ok (.aload_n 0, 1) := by decide +kernel
theorem d_M_isBelowArray_11 : decode b_M_isBelowArray 11 = .ok (.getfield 38, 3) := by decide +kernel
theorem d_M_isBelowArray_14 : decode b_M_isBelowArray 14 = .ok (.iload_n 1, 1) := by decide +kernel
theorem d_M_isBelowArray_15 : decode b_M_isBelowArray 15 = .ok (.iaload, 1) := by decide +kernel
theorem d_M_isBelowArray_16 : decode b_M_isBelowArray 16 = .ok (.bipush 7, 2) := by decide +kernel
theorem d_M_isBelowArray_18 : decode b_M_isBelowArray 18 = .ok (.if_icmp .le 43, 3) := by decide +kernel
theorem d_M_isBelowArray_21 : decode b_M_isBelowArray 21 = .ok (.aload_n 0, 1) := by decide +kernel
theorem d_M_isBelowArray_22 : decode b_M_isBelowArray 22 = .ok (.getfield 38, 3) := by decide +kernel
theorem d_M_isBelowArray_25 : decode b_M_isBelowArray 25 = .ok (.iload_n 2, 1) := by decide +kernel
theorem d_M_isBelowArray_26 : decode b_M_isBelowArray 26 = .ok (.iaload, 1) := by decide +kernel
theorem d_M_isBelowArray_27 : decode b_M_isBelowArray 27 = .ok (.bipush 7, 2) := by decide +kernel
theorem d_M_isBelowArray_29 : decode b_M_isBelowArray 29 = .ok (.if_icmp .le 32, 3) := by decide +kernel
theorem d_M_isBelowArray_32 : decode b_M_isBelowArray 32 = .ok (.aload_n 0, 1) := by decide +kernel
theorem d_M_isBelowArray_33 : decode b_M_isBelowArray 33 = .ok (.getfield 54, 3) := by decide +kernel
theorem d_M_isBelowArray_36 : decode b_M_isBelowArray 36 = .ok (.sipush 300, 3) := by decide +kernel
theorem d_M_isBelowArray_39 : decode b_M_isBelowArray 39 = .ok (.aload_n 0, 1) := by decide +kernel
theorem d_M_isBelowArray_40 : decode b_M_isBelowArray 40 = .ok (.getfield 38, 3) := by decide +kernel
theorem d_M_isBelowArray_43 : decode b_M_isBelowArray 43 = .ok (.iload_n 1, 1) := by decide +kernel
theorem d_M_isBelowArray_44 : decode b_M_isBelowArray 44 = .ok (.iaload, 1) := by decide +kernel
theorem d_M_isBelowArray_45 : decode b_M_isBelowArray 45 = .ok (.imul, 1) := by decide +kernel
theorem d_M_isBelowArray_46 : decode b_M_isBelowArray 46 = .ok (.aload_n 0, 1) := by decide +kernel
theorem d_M_isBelowArray_47 : decode b_M_isBelowArray 47 = .ok (.getfield 38, 3) := by decide +kernel
theorem d_M_isBelowArray_50 : decode b_M_isBelowArray 50 = .ok (.iload_n 2, 1) := by decide +kernel
theorem d_M_isBelowArray_51 : decode b_M_isBelowArray 51 = .ok (.iaload, 1) := by decide +kernel
theorem d_M_isBelowArray_52 : decode b_M_isBelowArray 52 = .ok (.iadd, 1) := by decide +kernel
theorem d_M_isBelowArray_53 : decode b_M_isBelowArray 53 = .ok (.baload, 1) := by decide +kernel
theorem d_M_isBelowArray_54 : decode b_M_isBelowArray 54 = .ok (.ifCond .eq 7, 3) := by decide +kernel
theorem d_M_isBelowArray_57 : decode b_M_isBelowArray 57 = .ok (.iconst 1, 1) := by decide +kernel
theorem d_M_isBelowArray_58 : decode b_M_isBelowArray 58 = .ok (.goto 4, 3) := by decide +kernel
theorem d_M_isBelowArray_61 : decode b_M_isBelowArray 61 = .ok (.iconst 0, 1) := by decide +kernel
theorem d_M_isBelowArray_62 : decode b_M_isBelowArray 62 = .ok (.ireturn, 1) := by decide +kernel
theorem d_M_reckonBelow_0 : decode b_M_reckonBelow 0 = .ok (.aload_n 0, 1) := by decide +kernel
theorem d_M_reckonBelow_1 : decode b_M_reckonBelow 1 = .ok (.getfield 130, 3) := by decide +kernel
theorem d_M_reckonBelow_4 : decode b_M_reckonBelow 4 = .ok (.aload_n 0, 1) := by decide +kernel
theorem d_M_reckonBelow_5 : decode b_M_reckonBelow 5 = .ok (.getfield 99, 3) := by decide +kernel
theorem d_M_reckonBelow_8 : decode b_M_reckonBelow 8 = .ok (.if_icmp .ne 4, 3) := by decide +kernel
theorem d_M_reckonBelow_11 : decode b_M_reckonBelow 11 = .ok (.return_, 1) := by decide +kernel
theorem d_M_reckonBelow_12 : decode b_M_reckonBelow 12 = .ok (.aload_n 0, 1) := by decide +kernel
theorem d_M_reckonBelow_13 : decode b_M_reckonBelow 13 = .ok (.aload_n 0, 1) := by decide +kernel
theorem d_M_reckonBelow_14 : decode b_M_reckonBelow 14 = .ok (.getfield 99, 3) := by decide +kernel
theorem d_M_reckonBelow_17 : decode b_M_reckonBelow 17 = .ok (.putfield 130, 3) := by decide +kernel
theorem d_M_reckonBelow_20 : decode b_M_reckonBelow 20 = .ok (.iconst 0, 1) := by decide +kernel
theorem d_M_reckonBelow_21 : decode b_M_reckonBelow 21 = .ok (.istore_n 1, 1) := by decide +kernel
theorem d_M_reckonBelow_22 : decode b_M_reckonBelow 22 = .ok (.iload_n 1, 1) := by decide +kernel
theorem d_M_reckonBelow_23 : decode b_M_reckonBelow 23 = .ok (.aload_n 0, 1) := by decide +kernel
theorem d_M_reckonBelow_24 : decode b_M_reckonBelow 24 = .ok (.getfield 99, 3) := by decide +kernel
theorem d_M_reckonBelow_27 : decode b_M_reckonBelow 27 = .ok (.if_icmp .ge 104, 3) := by decide +kernel
theorem d_M_reckonBelow_30 : decode b_M_reckonBelow 30 = .ok (.iconst 0, 1) := by decide +kernel
theorem d_M_reckonBelow_31 : decode b_M_reckonBelow 31 = .ok (.istore_n 2, 1) := by decide +kernel
theorem d_M_reckonBelow_32 : decode b_M_reckonBelow 32 = .ok (.iload_n 2, 1) := by decide +kernel
theorem d_M_reckonBelow_33 : decode b_M_reckonBelow 33 = .ok (.aload_n 0, 1) := by decide +kernel
theorem d_M_reckonBelow_34 : decode b_M_reckonBelow 34 = .ok (.getfield 99, 3) := by decide +kernel
theorem d_M_reckonBelow_37 : decode b_M_reckonBelow 37 = .ok (.if_icmp .ge 88, 3) := by decide +kernel
theorem d_M_reckonBelow_40 : decode b_M_reckonBelow 40 = .ok (.aload_n 0, 1) := by decide +kernel
theorem d_M_reckonBelow_41 : decode b_M_reckonBelow 41 = .ok (.getfield 54, 3) := by decide +kernel
theorem d_M_reckonBelow_44 : decode b_M_reckonBelow 44 = .ok (.sipush 300, 3) := by decide +kernel
theorem d_M_reckonBelow_47 : decode b_M_reckonBelow 47 = .ok (.iload_n 2, 1) := by decide +kernel
theorem d_M_reckonBelow_48 : decode b_M_reckonBelow 48 = .ok (.imul, 1) := by decide +kernel
theorem d_M_reckonBelow_49 : decode b_M_reckonBelow 49 = .ok (.iload_n 1, 1) := by decide +kernel
theorem d_M_reckonBelow_50 : decode b_M_reckonBelow 50 = .ok (.iadd, 1) := by decide +kernel
theorem d_M_reckonBelow_51 : decode b_M_reckonBelow 51 = .ok (.iload_n 2, 1) := by decide +kernel
theorem d_M_reckonBelow_52 : decode b_M_reckonBelow 52 = .ok (.iload_n 1, 1) := by decide +kernel
theorem d_M_reckonBelow_53 : decode b_M_reckonBelow 53 = .ok (.if_icmp .eq 60, 3) := by decide +kernel
theorem d_M_reckonBelow_56 : decode b_M_reckonBelow 56 = .ok (.aload_n 0, 1) := by decide +kernel
theorem d_M_reckonBelow_57 : decode b_M_reckonBelow 57 = .ok (.getfield 29, 3) := by decide +kernel
theorem d_M_reckonBelow_60 : decode b_M_reckonBelow 60 = .ok (.iload_n 1, 1) := by decide +kernel
theorem d_M_reckonBelow_61 : decode b_M_reckonBelow 61 = .ok (.iaload, 1) := by decide +kernel
theorem d_M_reckonBelow_62 : decode b_M_reckonBelow 62 = .ok (.iconst 3, 1) := by decide +kernel
theorem d_M_reckonBelow_63 : decode b_M_reckonBelow 63 = .ok (.if_icmp .ne 12, 3) := by decide +kernel
theorem d_M_reckonBelow_66 : decode b_M_reckonBelow 66 = .ok (.aload_n 0, 1) := by decide +kernel
theorem d_M_reckonBelow_67 : decode b_M_reckonBelow 67 = .ok (.iload_n 2, 1) := by decide +kernel
theorem d_M_reckonBelow_68 : decode b_M_reckonBelow 68 = .ok (.iload_n 1, 1) := by decide +kernel
theorem d_M_reckonBelow_69 : decode b_M_reckonBelow 69 = .ok (.invokevirtual 133, 3) := by decide +kernel
theorem d_M_reckonBelow_72 : decode b_M_reckonBelow 72 = .ok (.ifCond .ne 41, 3) := by decide +kernel
theorem d_M_reckonBelow_75 : decode b_M_reckonBelow 75 = .ok (.aload_n 0, 1) := by decide +kernel
theorem d_M_reckonBelow_76 : decode b_M_reckonBelow 76 = .ok (.getfield 29, 3) := by decide +kernel
theorem d_M_reckonBelow_79 : decode b_M_reckonBelow 79 = .ok (.iload_n 1, 1) := by decide +kernel
theorem d_M_reckonBelow_80 : decode b_M_reckonBelow 80 = .ok (.iaload, 1) := by decide +kernel
theorem d_M_reckonBelow_81 : decode b_M_reckonBelow 81 = .ok (.iconst 1, 1) := by decide +kernel
theorem d_M_reckonBelow_82 : decode b_M_reckonBelow 82 = .ok (.if_icmp .ne 12, 3) := by decide +kernel
theorem d_M_reckonBelow_85 : decode b_M_reckonBelow 85 = .ok (.aload_n 0, 1) := by decide +kernel
theorem d_M_reckonBelow_86 : decode b_M_reckonBelow 86 = .ok (.iload_n 2, 1) := by decide +kernel
theorem d_M_reckonBelow_87 : decode b_M_reckonBelow 87 = .ok (.iload_n 1, 1) := by decide +kernel
theorem d_M_reckonBelow_88 : decode b_M_reckonBelow 88 = .ok (.invokevirtual 136, 3) := by decide +kernel
theorem d_M_reckonBelow_91 : decode b_M_reckonBelow 91 = .ok (.ifCond .ne 22, 3) := by decide +kernel
theorem d_M_reckonBelow_94 : decode b_M_reckonBelow 94 = .ok (.aload_n 0, 1) := by decide +kernel
theorem d_M_reckonBelow_95 : decode b_M_reckonBelow 95 = .ok (.getfield 29, 3) := by decide +kernel
theorem d_M_reckonBelow_98 : decode b_M_reckonBelow 98 = .ok (.iload_n 1, 1) := by decide +kernel
theorem d_M_reckonBelow_99 : decode b_M_reckonBelow 99 = .ok (.iaload, 1) := by decide +kernel
theorem d_M_reckonBelow_100 : decode b_M_reckonBelow 100 = .ok (.iconst 2, 1) := by decide +kernel
theorem d_M_reckonBelow_101 : decode b_M_reckonBelow 101 = .ok (.if_icmp .ne 16, 3) := by decide +kernel
theorem d_M_reckonBelow_104 : decode b_M_reckonBelow 104 = .ok (.aload_n 0, 1) := by decide +kernel
theorem d_M_reckonBelow_105 : decode b_M_reckonBelow 105 = .ok (.iload_n 2, 1) := by decide +kernel
theorem d_M_reckonBelow_106 : decode b_M_reckonBelow 106 = .ok (.iload_n 1, 1) := by decide +kernel
theorem d_M_reckonBelow_107 : decode b_M_reckonBelow 107 = .ok (.invokevirtual 139, 3) := by decide +kernel
theorem d_M_reckonBelow_110 : decode b_M_reckonBelow 110 = .ok (.ifCond .eq 7, 3) := by decide +kernel
theorem d_M_reckonBelow_113 : decode b_M_reckonBelow 113 = .ok (.iconst 1, 1) := by decide +kernel
theorem d_M_reckonBelow_114 : decode b_M_reckonBelow 114 = .ok (.goto 4, 3) := by decide +kernel
theorem d_M_reckonBelow_117 : decode b_M_reckonBelow 117 = .ok (.iconst 0, 1) := by decide +kernel
theorem d_M_reckonBelow_118 : decode b_M_reckonBelow 118 = .ok (.bastore, 1) := by decide +kernel
theorem d_M_reckonBelow_119 : decode b_M_reckonBelow 119 = .ok (.iinc 2 1, 3) := by decide +kernel
theorem d_M_reckonBelow_122 : decode b_M_reckonBelow 122 = .ok (.goto (-90), 3) := by decide +kernel
theorem d_M_reckonBelow_125 : decode b_M_reckonBelow 125 = .ok (.iinc 1 1, 3) := by decide +kernel
theorem d_M_reckonBelow_128 : decode b_M_reckonBelow 128 = .ok (.goto (-106), 3) := by decide +kernel
theorem d_M_reckonBelow_131 : decode b_M_reckonBelow 131 = .ok (.return_, 1) := by decide +kernel
theorem d_M_declare_0 : decode b_M_declare 0 = .ok (.aload_n 0, 1) := by decide +kernel
theorem d_M_declare_1 : decode b_M_declare 1 = .ok (.aload_n 0, 1) := by decide +kernel
theorem d_M_declare_2 : decode b_M_declare 2 = .ok (.getfield 89, 3) := by decide +kernel
theorem d_M_declare_5 : decode b_M_declare 5 = .ok (.bipush 30, 2) := by decide +kernel
theorem d_M_declare_7 : decode b_M_declare 7 = .ok (.if_icmp .eq 16, 3) := by decide +kernel
theorem d_M_declare_10 : decode b_M_declare 10 = .ok (.iload_n 2, 1) := by decide +kernel
theorem d_M_declare_11 : decode b_M_declare 11 = .ok (.ifCond .eq 16, 3) := by decide +kernel
theorem d_M_declare_14 : decode b_M_declare 14 = .ok (.aload_n 0, 1) := by decide +kernel
theorem d_M_declare_15 : decode b_M_declare 15 = .ok (.getfield 92, 3) := by decide +kernel
theorem d_M_declare_18 : decode b_M_declare 18 = .ok (.bipush 6, 2) := by decide +kernel
theorem d_M_declare_20 : decode b_M_declare 20 = .ok (.if_icmp .ne 7, 3) := by decide +kernel
theorem d_M_declare_23 : decode b_M_declare 23 = .ok (.iconst 1, 1) := by decide +kernel
theorem d_M_declare_24 : decode b_M_declare 24 = .ok (.goto 4, 3) := by decide +kernel
theorem d_M_declare_27 : decode b_M_declare 27 = .ok (.iconst 0, 1) := by decide +kernel
theorem d_M_declare_28 : decode b_M_declare 28 = .ok (.invokevirtual 146, 3) := by decide +kernel
theorem d_M_declare_31 : decode b_M_declare 31 = .ok (.ifCond .ne 5, 3) := by decide +kernel
theorem d_M_declare_34 : decode b_M_declare 34 = .ok (.iconst 0, 1) := by decide +kernel
theorem d_M_declare_35 : decode b_M_declare 35 = .ok (.ireturn, 1) := by decide +kernel
theorem d_M_declare_36 : decode b_M_declare 36 = .ok (.aload_n 0, 1) := by decide +kernel
theorem d_M_declare_37 : decode b_M_declare 37 = .ok (.getfield 7, 3) := by decide +kernel
theorem d_M_declare_40 : decode b_M_declare 40 = .ok (.aload_n 0, 1) := by decide +kernel
theorem d_M_declare_41 : decode b_M_declare 41 = .ok (.getfield 89, 3) := by decide +kernel
theorem d_M_declare_44 : decode b_M_declare 44 = .ok (.iload_n 1, 1) := by decide +kernel
theorem d_M_declare_45 : decode b_M_declare 45 = .ok (.bastore, 1) := by decide +kernel
theorem d_M_declare_46 : decode b_M_declare 46 = .ok (.aload_n 0, 1) := by decide +kernel
theorem d_M_declare_47 : decode b_M_declare 47 = .ok (.getfield 13, 3) := by decide +kernel
theorem d_M_declare_50 : decode b_M_declare 50 = .ok (.aload_n 0, 1) := by decide +kernel
theorem d_M_declare_51 : decode b_M_declare 51 = .ok (.getfield 89, 3) := by decide +kernel
theorem d_M_declare_54 : decode b_M_declare 54 = .ok (.iload_n 2, 1) := by decide +kernel
theorem d_M_declare_55 : decode b_M_declare 55 = .ok (.bastore, 1) := by decide +kernel
theorem d_M_declare_56 : decode b_M_declare 56 = .ok (.aload_n 0, 1) := by decide +kernel
theorem d_M_declare_57 : decode b_M_declare 57 = .ok (.dup, 1) := by decide +kernel
theorem d_M_declare_58 : decode b_M_declare 58 = .ok (.getfield 92, 3) := by decide +kernel
theorem d_M_declare_61 : decode b_M_declare 61 = .ok (.iload_n 2, 1) := by decide +kernel
theorem d_M_declare_62 : decode b_M_declare 62 = .ok (.ifCond .eq 7, 3) := by decide +kernel
theorem d_M_declare_65 : decode b_M_declare 65 = .ok (.iconst 1, 1) := by decide +kernel
theorem d_M_declare_66 : decode b_M_declare 66 = .ok (.goto 4, 3) := by decide +kernel
theorem d_M_declare_69 : decode b_M_declare 69 = .ok (.iconst 0, 1) := by decide +kernel
theorem d_M_declare_70 : decode b_M_declare 70 = .ok (.iadd, 1) := by decide +kernel
theorem d_M_declare_71 : decode b_M_declare 71 = .ok (.putfield 92, 3) := by decide +kernel
theorem d_M_declare_74 : decode b_M_declare 74 = .ok (.aload_n 0, 1) := by decide +kernel
theorem d_M_declare_75 : decode b_M_declare 75 = .ok (.getfield 16, 3) := by decide +kernel
theorem d_M_declare_78 : decode b_M_declare 78 = .ok (.aload_n 0, 1) := by decide +kernel
theorem d_M_declare_79 : decode b_M_declare 79 = .ok (.getfield 89, 3) := by decide +kernel
theorem d_M_declare_82 : decode b_M_declare 82 = .ok (.iconst 0, 1) := by decide +kernel
theorem d_M_declare_83 : decode b_M_declare 83 = .ok (.iastore, 1) := by decide +kernel
theorem d_M_declare_84 : decode b_M_declare 84 = .ok (.aload_n 0, 1) := by decide +kernel
theorem d_M_declare_85 : decode b_M_declare 85 = .ok (.aload_n 0, 1) := by decide +kernel
theorem d_M_declare_86 : decode b_M_declare 86 = .ok (.getfield 89, 3) := by decide +kernel
theorem d_M_declare_89 : decode b_M_declare 89 = .ok (.iconst 0, 1) := by decide +kernel
theorem d_M_declare_90 : decode b_M_declare 90 = .ok (.iconst (-1), 1) := by decide +kernel
theorem d_M_declare_91 : decode b_M_declare 91 = .ok (.invokevirtual 85, 3) := by decide +kernel
theorem d_M_declare_94 : decode b_M_declare 94 = .ok (.aload_n 0, 1) := by decide +kernel
theorem d_M_declare_95 : decode b_M_declare 95 = .ok (.aload_n 0, 1) := by decide +kernel
theorem d_M_declare_96 : decode b_M_declare 96 = .ok (.getfield 89, 3) := by decide +kernel
theorem d_M_declare_99 : decode b_M_declare 99 = .ok (.invokevirtual 95, 3) := by decide +kernel
theorem d_M_declare_102 : decode b_M_declare 102 = .ok (.aload_n 0, 1) := by decide +kernel
theorem d_M_declare_103 : decode b_M_declare 103 = .ok (.dup, 1) := by decide +kernel
theorem d_M_declare_104 : decode b_M_declare 104 = .ok (.getfield 89, 3) := by decide +kernel
theorem d_M_declare_107 : decode b_M_declare 107 = .ok (.iconst 1, 1) := by decide +kernel
theorem d_M_declare_108 : decode b_M_declare 108 = .ok (.iadd, 1) := by decide +kernel
theorem d_M_declare_109 : decode b_M_declare 109 = .ok (.putfield 89, 3) := by decide +kernel
theorem d_M_declare_112 : decode b_M_declare 112 = .ok (.aload_n 0, 1) := by decide +kernel
theorem d_M_declare_113 : decode b_M_declare 113 = .ok (.getfield 89, 3) := by decide +kernel
theorem d_M_declare_116 : decode b_M_declare 116 = .ok (.iconst 1, 1) := by decide +kernel
theorem d_M_declare_117 : decode b_M_declare 117 = .ok (.isub, 1) := by decide +kernel
theorem d_M_declare_118 : decode b_M_declare 118 = .ok (.ireturn, 1) := by decide +kernel
theorem d_M_hasDirect_0 : decode b_M_hasDirect 0 = .ok (.iconst 0, 1) := by decide +kernel
theorem d_M_hasDirect_1 : decode b_M_hasDirect 1 = .ok (.istore_n 3, 1) := by decide +kernel
theorem d_M_hasDirect_2 : decode b_M_hasDirect 2 = .ok (.iconst 0, 1) := by decide +kernel
theorem d_M_hasDirect_3 : decode b_M_hasDirect 3 = .ok (.istore 4, 2) := by decide +kernel
theorem d_M_hasDirect_5 : decode b_M_hasDirect 5 = .ok (.iload 4, 2) := by decide +kernel
theorem d_M_hasDirect_7 : decode b_M_hasDirect 7 = .ok (.aload_n 0, 1) := by decide +kernel
theorem d_M_hasDirect_8 : decode b_M_hasDirect 8 = .ok (.getfield 16, 3) := by decide +kernel
theorem d_M_hasDirect_11 : decode b_M_hasDirect 11 = .ok (.iload_n 1, 1) := by decide +kernel
theorem d_M_hasDirect_12 : decode b_M_hasDirect 12 = .ok (.iaload, 1) := by decide +kernel
theorem d_M_hasDirect_13 : decode b_M_hasDirect 13 = .ok (.if_icmp .ge 35, 3) := by decide +kernel
theorem d_M_hasDirect_16 : decode b_M_hasDirect 16 = .ok (.iload_n 3, 1) := by decide +kernel
theorem d_M_hasDirect_17 : decode b_M_hasDirect 17 = .ok (.ifCond .ne 19, 3) := by decide +kernel
theorem d_M_hasDirect_20 : decode b_M_hasDirect 20 = .ok (.aload_n 0, 1) := by decide +kernel
theorem d_M_hasDirect_21 : decode b_M_hasDirect 21 = .ok (.getfield 20, 3) := by decide +kernel
theorem d_M_hasDirect_24 : decode b_M_hasDirect 24 = .ok (.bipush 30, 2) := by decide +kernel
theorem d_M_hasDirect_26 : decode b_M_hasDirect 26 = .ok (.iload_n 1, 1) := by decide +kernel
theorem d_M_hasDirect_27 : decode b_M_hasDirect 27 = .ok (.imul, 1) := by decide +kernel
theorem d_M_hasDirect_28 : decode b_M_hasDirect 28 = .ok (.iload 4, 2) := by decide +kernel
theorem d_M_hasDirect_30 : decode b_M_hasDirect 30 = .ok (.iadd, 1) := by decide +kernel
theorem d_M_hasDirect_31 : decode b_M_hasDirect 31 = .ok (.iaload, 1) := by decide +kernel
theorem d_M_hasDirect_32 : decode b_M_hasDirect 32 = .ok (.iload_n 2, 1) := by decide +kernel
theorem d_M_hasDirect_33 : decode b_M_hasDirect 33 = .ok (.if_icmp .ne 7, 3) := by decide +kernel
theorem d_M_hasDirect_36 : decode b_M_hasDirect 36 = .ok (.iconst 1, 1) := by decide +kernel
theorem d_M_hasDirect_37 : decode b_M_hasDirect 37 = .ok (.goto 4, 3) := by decide +kernel
theorem d_M_hasDirect_40 : decode b_M_hasDirect 40 = .ok (.iconst 0, 1) := by decide +kernel
theorem d_M_hasDirect_41 : decode b_M_hasDirect 41 = .ok (.istore_n 3, 1) := by decide +kernel
theorem d_M_hasDirect_42 : decode b_M_hasDirect 42 = .ok (.iinc 4 1, 3) := by decide +kernel
theorem d_M_hasDirect_45 : decode b_M_hasDirect 45 = .ok (.goto (-40), 3) := by decide +kernel
theorem d_M_hasDirect_48 : decode b_M_hasDirect 48 = .ok (.iload_n 3, 1) := by decide +kernel
theorem d_M_hasDirect_49 : decode b_M_hasDirect 49 = .ok (.ireturn, 1) := by decide +kernel
theorem d_M_partsWay_0 : decode b_M_partsWay 0 = .ok (.iconst 0, 1) := by decide +kernel
theorem d_M_partsWay_1 : decode b_M_partsWay 1 = .ok (.istore 4, 2) := by decide +kernel
theorem d_M_partsWay_3 : decode b_M_partsWay 3 = .ok (.iconst 0, 1) := by decide +kernel
theorem d_M_partsWay_4 : decode b_M_partsWay 4 = .ok (.istore 5, 2) := by decide +kernel
theorem d_M_partsWay_6 : decode b_M_partsWay 6 = .ok (.iload 5, 2) := by decide +kernel
theorem d_M_partsWay_8 : decode b_M_partsWay 8 = .ok (.aload_n 0, 1) := by decide +kernel
theorem d_M_partsWay_9 : decode b_M_partsWay 9 = .ok (.getfield 89, 3) := by decide +kernel
theorem d_M_partsWay_12 : decode b_M_partsWay 12 = .ok (.if_icmp .ge 86, 3) := by decide +kernel
theorem d_M_partsWay_15 : decode b_M_partsWay 15 = .ok (.aload_n 0, 1) := by decide +kernel
theorem d_M_partsWay_16 : decode b_M_partsWay 16 = .ok (.getfield 13, 3) := by decide +kernel
theorem d_M_partsWay_19 : decode b_M_partsWay 19 = .ok (.iload 5, 2) := by decide +kernel
theorem d_M_partsWay_21 : decode b_M_partsWay 21 = .ok (.baload, 1) := by decide +kernel
theorem d_M_partsWay_22 : decode b_M_partsWay 22 = .ok (.ifCond .ne 6, 3) := by decide +kernel
theorem d_M_partsWay_25 : decode b_M_partsWay 25 = .ok (.goto 67, 3) := by decide +kernel
theorem d_M_partsWay_28 : decode b_M_partsWay 28 = .ok (.aload_n 0, 1) := by decide +kernel
theorem d_M_partsWay_29 : decode b_M_partsWay 29 = .ok (.iload_n 1, 1) := by decide +kernel
theorem d_M_partsWay_30 : decode b_M_partsWay 30 = .ok (.iconst 1, 1) := by decide +kernel
theorem d_M_partsWay_31 : decode b_M_partsWay 31 = .ok (.bipush (-2), 2) := by decide +kernel
theorem d_M_partsWay_33 : decode b_M_partsWay 33 = .ok (.iload 5, 2) := by decide +kernel
theorem d_M_partsWay_35 : decode b_M_partsWay 35 = .ok (.invokevirtual 119, 3) := by decide +kernel
theorem d_M_partsWay_38 : decode b_M_partsWay 38 = .ok (.aload_n 0, 1) := by decide +kernel
theorem d_M_partsWay_39 : decode b_M_partsWay 39 = .ok (.getfield 109, 3) := by decide +kernel
theorem d_M_partsWay_42 : decode b_M_partsWay 42 = .ok (.istore 6, 2) := by decide +kernel
theorem d_M_partsWay_44 : decode b_M_partsWay 44 = .ok (.aload_n 0, 1) := by decide +kernel
theorem d_M_partsWay_45 : decode b_M_partsWay 45 = .ok (.getfield 116, 3) := by decide +kernel
theorem d_M_partsWay_48 : decode b_M_partsWay 48 = .ok (.istore 7, 2) := by decide +kernel
theorem d_M_partsWay_50 : decode b_M_partsWay 50 = .ok (.aload_n 0, 1) := by decide +kernel
theorem d_M_partsWay_51 : decode b_M_partsWay 51 = .ok (.iload_n 2, 1) := by decide +kernel
theorem d_M_partsWay_52 : decode b_M_partsWay 52 = .ok (.iconst 1, 1) := by decide +kernel
theorem d_M_partsWay_53 : decode b_M_partsWay 53 = .ok (.iload_n 3, 1) := by decide +kernel
theorem d_M_partsWay_54 : decode b_M_partsWay 54 = .ok (.iload 5, 2) := by decide +kernel
theorem d_M_partsWay_56 : decode b_M_partsWay 56 = .ok (.invokevirtual 119, 3) := by decide +kernel
theorem d_M_partsWay_59 : decode b_M_partsWay 59 = .ok (.iload 4, 2) := by decide +kernel
theorem d_M_partsWay_61 : decode b_M_partsWay 61 = .ok (.ifCond .ne 24, 3) := by decide +kernel
theorem d_M_partsWay_64 : decode b_M_partsWay 64 = .ok (.iload 6, 2) := by decide +kernel
theorem d_M_partsWay_66 : decode b_M_partsWay 66 = .ok (.ifCond .eq 23, 3) := by decide +kernel
theorem d_M_partsWay_69 : decode b_M_partsWay 69 = .ok (.aload_n 0, 1) := by decide +kernel
theorem d_M_partsWay_70 : decode b_M_partsWay 70 = .ok (.getfield 109, 3) := by decide +kernel
theorem d_M_partsWay_73 : decode b_M_partsWay 73 = .ok (.ifCond .eq 16, 3) := by decide +kernel
theorem d_M_partsWay_76 : decode b_M_partsWay 76 = .ok (.iload 7, 2) := by decide +kernel
theorem d_M_partsWay_78 : decode b_M_partsWay 78 = .ok (.aload_n 0, 1) := by decide +kernel
theorem d_M_partsWay_79 : decode b_M_partsWay 79 = .ok (.getfield 116, 3) := by decide +kernel
theorem d_M_partsWay_82 : decode b_M_partsWay 82 = .ok (.if_icmp .eq 7, 3) := by decide +kernel
theorem d_M_partsWay_85 : decode b_M_partsWay 85 = .ok (.iconst 1, 1) := by decide +kernel
theorem d_M_partsWay_86 : decode b_M_partsWay 86 = .ok (.goto 4, 3) := by decide +kernel
theorem d_M_partsWay_89 : decode b_M_partsWay 89 = .ok (.iconst 0, 1) := by decide +kernel
theorem d_M_partsWay_90 : decode b_M_partsWay 90 = .ok (.istore 4, 2) := by decide +kernel
theorem d_M_partsWay_92 : decode b_M_partsWay 92 = .ok (.iinc 5 1, 3) := by decide +kernel
theorem d_M_partsWay_95 : decode b_M_partsWay 95 = .ok (.goto (-89), 3) := by decide +kernel
theorem d_M_partsWay_98 : decode b_M_partsWay 98 = .ok (.iload 4, 2) := by decide +kernel
theorem d_M_partsWay_100 : decode b_M_partsWay 100 = .ok (.ireturn, 1) := by decide +kernel
theorem d_M_above_0 : decode b_M_above 0 = .ok (.aload_n 0, 1) := by decide +kernel
theorem d_M_above_1 : decode b_M_above 1 = .ok (.getfield 89, 3) := by decide +kernel
theorem d_M_above_4 : decode b_M_above 4 = .ok (.iconst 1, 1) := by decide +kernel
theorem d_M_above_5 : decode b_M_above 5 = .ok (.isub, 1) := by decide +kernel
theorem d_M_above_6 : decode b_M_above 6 = .ok (.istore_n 3, 1) := by decide +kernel
theorem d_M_above_7 : decode b_M_above 7 = .ok (.aload_n 0, 1) := by decide +kernel
theorem d_M_above_8 : decode b_M_above 8 = .ok (.iload_n 1, 1) := by decide +kernel
theorem d_M_above_9 : decode b_M_above 9 = .ok (.invokevirtual 150, 3) := by decide +kernel
theorem d_M_above_12 : decode b_M_above 12 = .ok (.ifCond .eq 15, 3) := by decide +kernel
theorem d_M_above_15 : decode b_M_above 15 = .ok (.iload_n 2, 1) := by decide +kernel
theorem d_M_above_16 : decode b_M_above 16 = .ok (.aload_n 0, 1) := by decide +kernel
theorem d_M_above_17 : decode b_M_above 17 = .ok (.getfield 99, 3) := by decide +kernel
theorem d_M_above_20 : decode b_M_above 20 = .ok (.if_icmp .ge 7, 3) := by decide +kernel
theorem d_M_above_23 : decode b_M_above 23 = .ok (.iconst 1, 1) := by decide +kernel
theorem d_M_above_24 : decode b_M_above 24 = .ok (.goto 4, 3) := by decide +kernel
theorem d_M_above_27 : decode b_M_above 27 = .ok (.iconst 0, 1) := by decide +kernel
theorem d_M_above_28 : decode b_M_above 28 = .ok (.istore 4, 2) := by decide +kernel
theorem d_M_above_30 : decode b_M_above 30 = .ok (.aload_n 0, 1) := by decide +kernel
theorem d_M_above_31 : decode b_M_above 31 = .ok (.getfield 16, 3) := by decide +kernel
theorem d_M_above_34 : decode b_M_above 34 = .ok (.iload_n 3, 1) := by decide +kernel
theorem d_M_above_35 : decode b_M_above 35 = .ok (.iaload, 1) := by decide +kernel
theorem d_M_above_36 : decode b_M_above 36 = .ok (.ifCond .le 36, 3) := by decide +kernel
theorem d_M_above_39 : decode b_M_above 39 = .ok (.aload_n 0, 1) := by decide +kernel
theorem d_M_above_40 : decode b_M_above 40 = .ok (.getfield 20, 3) := by decide +kernel
theorem d_M_above_43 : decode b_M_above 43 = .ok (.bipush 30, 2) := by decide +kernel
theorem d_M_above_45 : decode b_M_above 45 = .ok (.iload_n 3, 1) := by decide +kernel
theorem d_M_above_46 : decode b_M_above 46 = .ok (.imul, 1) := by decide +kernel
theorem d_M_above_47 : decode b_M_above 47 = .ok (.iaload, 1) := by decide +kernel
theorem d_M_above_48 : decode b_M_above 48 = .ok (.ifCond .eq 24, 3) := by decide +kernel
theorem d_M_above_51 : decode b_M_above 51 = .ok (.aload_n 0, 1) := by decide +kernel
theorem d_M_above_52 : decode b_M_above 52 = .ok (.getfield 7, 3) := by decide +kernel
theorem d_M_above_55 : decode b_M_above 55 = .ok (.aload_n 0, 1) := by decide +kernel
theorem d_M_above_56 : decode b_M_above 56 = .ok (.getfield 20, 3) := by decide +kernel
theorem d_M_above_59 : decode b_M_above 59 = .ok (.bipush 30, 2) := by decide +kernel
theorem d_M_above_61 : decode b_M_above 61 = .ok (.iload_n 3, 1) := by decide +kernel
theorem d_M_above_62 : decode b_M_above 62 = .ok (.imul, 1) := by decide +kernel
theorem d_M_above_63 : decode b_M_above 63 = .ok (.iaload, 1) := by decide +kernel
theorem d_M_above_64 : decode b_M_above 64 = .ok (.baload, 1) := by decide +kernel
theorem d_M_above_65 : decode b_M_above 65 = .ok (.ifCond .ne 7, 3) := by decide +kernel
theorem d_M_above_68 : decode b_M_above 68 = .ok (.iconst 1, 1) := by decide +kernel
theorem d_M_above_69 : decode b_M_above 69 = .ok (.goto 4, 3) := by decide +kernel
theorem d_M_above_72 : decode b_M_above 72 = .ok (.iconst 0, 1) := by decide +kernel
theorem d_M_above_73 : decode b_M_above 73 = .ok (.istore 5, 2) := by decide +kernel
theorem d_M_above_75 : decode b_M_above 75 = .ok (.iconst 0, 1) := by decide +kernel
theorem d_M_above_76 : decode b_M_above 76 = .ok (.istore 6, 2) := by decide +kernel
theorem d_M_above_78 : decode b_M_above 78 = .ok (.iload 4, 2) := by decide +kernel
theorem d_M_above_80 : decode b_M_above 80 = .ok (.ifCond .ne 9, 3) := by decide +kernel
theorem d_M_above_83 : decode b_M_above 83 = .ok (.iconst 1, 1) := by decide +kernel
theorem d_M_above_84 : decode b_M_above 84 = .ok (.istore 6, 2) := by decide +kernel
theorem d_M_above_86 : decode b_M_above 86 = .ok (.goto 130, 3) := by decide +kernel
theorem d_M_above_89 : decode b_M_above 89 = .ok (.iload_n 3, 1) := by decide +kernel
theorem d_M_above_90 : decode b_M_above 90 = .ok (.bipush 13, 2) := by decide +kernel
theorem d_M_above_92 : decode b_M_above 92 = .ok (.if_icmp .lt 49, 3) := by decide +kernel
theorem d_M_above_95 : decode b_M_above 95 = .ok (.iload_n 1, 1) := by decide +kernel
theorem d_M_above_96 : decode b_M_above 96 = .ok (.iload_n 3, 1) := by decide +kernel
theorem d_M_above_97 : decode b_M_above 97 = .ok (.if_icmp .eq 44, 3) := by decide +kernel
theorem d_M_above_100 : decode b_M_above 100 = .ok (.aload_n 0, 1) := by decide +kernel
theorem d_M_above_101 : decode b_M_above 101 = .ok (.getfield 7, 3) := by decide +kernel
theorem d_M_above_104 : decode b_M_above 104 = .ok (.iload_n 3, 1) := by decide +kernel
theorem d_M_above_105 : decode b_M_above 105 = .ok (.baload, 1) := by decide +kernel
theorem d_M_above_106 : decode b_M_above 106 = .ok (.ifCond .eq 12, 3) := by decide +kernel
theorem d_M_above_109 : decode b_M_above 109 = .ok (.aload_n 0, 1) := by decide +kernel
theorem d_M_above_110 : decode b_M_above 110 = .ok (.getfield 7, 3) := by decide +kernel
theorem d_M_above_113 : decode b_M_above 113 = .ok (.iload_n 1, 1) := by decide +kernel
theorem d_M_above_114 : decode b_M_above 114 = .ok (.baload, 1) := by decide +kernel
theorem d_M_above_115 : decode b_M_above 115 = .ok (.ifCond .eq 26, 3) := by decide +kernel
theorem d_M_above_118 : decode b_M_above 118 = .ok (.iload 5, 2) := by decide +kernel
theorem d_M_above_120 : decode b_M_above 120 = .ok (.ifCond .eq 12, 3) := by decide +kernel
theorem d_M_above_123 : decode b_M_above 123 = .ok (.aload_n 0, 1) := by decide +kernel
theorem d_M_above_124 : decode b_M_above 124 = .ok (.getfield 7, 3) := by decide +kernel
theorem d_M_above_127 : decode b_M_above 127 = .ok (.iload_n 1, 1) := by decide +kernel
theorem d_M_above_128 : decode b_M_above 128 = .ok (.baload, 1) := by decide +kernel
theorem d_M_above_129 : decode b_M_above 129 = .ok (.ifCond .eq 12, 3) := by decide +kernel
theorem d_M_above_132 : decode b_M_above 132 = .ok (.aload_n 0, 1) := by decide +kernel
theorem d_M_above_133 : decode b_M_above 133 = .ok (.iload_n 3, 1) := by decide +kernel
theorem d_M_above_134 : decode b_M_above 134 = .ok (.iload_n 1, 1) := by decide +kernel
theorem d_M_above_135 : decode b_M_above 135 = .ok (.invokevirtual 153, 3) := by decide +kernel
theorem d_M_above_138 : decode b_M_above 138 = .ok (.ifCond .eq 9, 3) := by decide +kernel
theorem d_M_above_141 : decode b_M_above 141 = .ok (.iconst 2, 1) := by decide +kernel
theorem d_M_above_142 : decode b_M_above 142 = .ok (.istore 6, 2) := by decide +kernel
theorem d_M_above_144 : decode b_M_above 144 = .ok (.goto 72, 3) := by decide +kernel
theorem d_M_above_147 : decode b_M_above 147 = .ok (.iload_n 2, 1) := by decide +kernel
theorem d_M_above_148 : decode b_M_above 148 = .ok (.bipush (-2), 2) := by decide +kernel
theorem d_M_above_150 : decode b_M_above 150 = .ok (.if_icmp .lt 47, 3) := by decide +kernel
theorem d_M_above_153 : decode b_M_above 153 = .ok (.iload_n 2, 1) := by decide +kernel
theorem d_M_above_154 : decode b_M_above 154 = .ok (.ifCond .lt 9, 3) := by decide +kernel
theorem d_M_above_157 : decode b_M_above 157 = .ok (.iload_n 2, 1) := by decide +kernel
theorem d_M_above_158 : decode b_M_above 158 = .ok (.bipush 8, 2) := by decide +kernel
theorem d_M_above_160 : decode b_M_above 160 = .ok (.if_icmp .lt 37, 3) := by decide +kernel
theorem d_M_above_163 : decode b_M_above 163 = .ok (.aload_n 0, 1) := by decide +kernel
theorem d_M_above_164 : decode b_M_above 164 = .ok (.getfield 13, 3) := by decide +kernel
theorem d_M_above_167 : decode b_M_above 167 = .ok (.iload_n 1, 1) := by decide +kernel
theorem d_M_above_168 : decode b_M_above 168 = .ok (.baload, 1) := by decide +kernel
theorem d_M_above_169 : decode b_M_above 169 = .ok (.iload_n 2, 1) := by decide +kernel
theorem d_M_above_170 : decode b_M_above 170 = .ok (.iconst (-1), 1) := by decide +kernel
theorem d_M_above_171 : decode b_M_above 171 = .ok (.if_icmp .ne 7, 3) := by decide +kernel
theorem d_M_above_174 : decode b_M_above 174 = .ok (.iconst 1, 1) := by decide +kernel
theorem d_M_above_175 : decode b_M_above 175 = .ok (.goto 4, 3) := by decide +kernel
theorem d_M_above_178 : decode b_M_above 178 = .ok (.iconst 0, 1) := by decide +kernel
theorem d_M_above_179 : decode b_M_above 179 = .ok (.if_icmp .eq 18, 3) := by decide +kernel
theorem d_M_above_182 : decode b_M_above 182 = .ok (.iload_n 2, 1) := by decide +kernel
theorem d_M_above_183 : decode b_M_above 183 = .ok (.bipush (-2), 2) := by decide +kernel
theorem d_M_above_185 : decode b_M_above 185 = .ok (.if_icmp .ne 18, 3) := by decide +kernel
theorem d_M_above_188 : decode b_M_above 188 = .ok (.aload_n 0, 1) := by decide +kernel
theorem d_M_above_189 : decode b_M_above 189 = .ok (.getfield 13, 3) := by decide +kernel
theorem d_M_above_192 : decode b_M_above 192 = .ok (.iload_n 3, 1) := by decide +kernel
theorem d_M_above_193 : decode b_M_above 193 = .ok (.baload, 1) := by decide +kernel
theorem d_M_above_194 : decode b_M_above 194 = .ok (.ifCond .ne 9, 3) := by decide +kernel
theorem d_M_above_197 : decode b_M_above 197 = .ok (.iconst 3, 1) := by decide +kernel
theorem d_M_above_198 : decode b_M_above 198 = .ok (.istore 6, 2) := by decide +kernel
theorem d_M_above_200 : decode b_M_above 200 = .ok (.goto 16, 3) := by decide +kernel
theorem d_M_above_203 : decode b_M_above 203 = .ok (.aload_n 0, 1) := by decide +kernel
theorem d_M_above_204 : decode b_M_above 204 = .ok (.iload_n 3, 1) := by decide +kernel
theorem d_M_above_205 : decode b_M_above 205 = .ok (.iload_n 1, 1) := by decide +kernel
theorem d_M_above_206 : decode b_M_above 206 = .ok (.iload_n 2, 1) := by decide +kernel
theorem d_M_above_207 : decode b_M_above 207 = .ok (.invokevirtual 156, 3) := by decide +kernel
theorem d_M_above_210 : decode b_M_above 210 = .ok (.ifCond .eq 6, 3) := by decide +kernel
theorem d_M_above_213 : decode b_M_above 213 = .ok (.iconst 2, 1) := by decide +kernel
theorem d_M_above_214 : decode b_M_above 214 = .ok (.istore 6, 2) := by decide +kernel
theorem d_M_above_216 : decode b_M_above 216 = .ok (.aload_n 0, 1) := by decide +kernel
theorem d_M_above_217 : decode b_M_above 217 = .ok (.iload 6, 2) := by decide +kernel
theorem d_M_above_219 : decode b_M_above 219 = .ok (.invokevirtual 146, 3) := by decide +kernel
theorem d_M_above_222 : decode b_M_above 222 = .ok (.ifCond .ne 5, 3) := by decide +kernel
theorem d_M_above_225 : decode b_M_above 225 = .ok (.iconst 0, 1) := by decide +kernel
theorem d_M_above_226 : decode b_M_above 226 = .ok (.ireturn, 1) := by decide +kernel
theorem d_M_above_227 : decode b_M_above 227 = .ok (.aload_n 0, 1) := by decide +kernel
theorem d_M_above_228 : decode b_M_above 228 = .ok (.getfield 7, 3) := by decide +kernel
theorem d_M_above_231 : decode b_M_above 231 = .ok (.iload_n 1, 1) := by decide +kernel
theorem d_M_above_232 : decode b_M_above 232 = .ok (.baload, 1) := by decide +kernel
theorem d_M_above_233 : decode b_M_above 233 = .ok (.ifCond .eq 13, 3) := by decide +kernel
theorem d_M_above_236 : decode b_M_above 236 = .ok (.aload_n 0, 1) := by decide +kernel
theorem d_M_above_237 : decode b_M_above 237 = .ok (.iload_n 3, 1) := by decide +kernel
theorem d_M_above_238 : decode b_M_above 238 = .ok (.iload_n 1, 1) := by decide +kernel
theorem d_M_above_239 : decode b_M_above 239 = .ok (.iload_n 2, 1) := by decide +kernel
theorem d_M_above_240 : decode b_M_above 240 = .ok (.invokevirtual 85, 3) := by decide +kernel
theorem d_M_above_243 : decode b_M_above 243 = .ok (.goto 23, 3) := by decide +kernel
theorem d_M_above_246 : decode b_M_above 246 = .ok (.aload_n 0, 1) := by decide +kernel
theorem d_M_above_247 : decode b_M_above 247 = .ok (.getfield 20, 3) := by decide +kernel
theorem d_M_above_250 : decode b_M_above 250 = .ok (.bipush 30, 2) := by decide +kernel
theorem d_M_above_252 : decode b_M_above 252 = .ok (.iload_n 3, 1) := by decide +kernel
theorem d_M_above_253 : decode b_M_above 253 = .ok (.imul, 1) := by decide +kernel
theorem d_M_above_254 : decode b_M_above 254 = .ok (.iload_n 1, 1) := by decide +kernel
theorem d_M_above_255 : decode b_M_above 255 = .ok (.iastore, 1) := by decide +kernel
theorem d_M_above_256 : decode b_M_above 256 = .ok (.aload_n 0, 1) := by decide +kernel
theorem d_M_above_257 : decode b_M_above 257 = .ok (.getfield 23, 3) := by decide +kernel
theorem d_M_above_260 : decode b_M_above 260 = .ok (.bipush 30, 2) := by decide +kernel
theorem d_M_above_262 : decode b_M_above 262 = .ok (.iload_n 3, 1) := by decide +kernel
theorem d_M_above_263 : decode b_M_above 263 = .ok (.imul, 1) := by decide +kernel
theorem d_M_above_264 : decode b_M_above 264 = .ok (.iload_n 2, 1) := by decide +kernel
theorem d_M_above_265 : decode b_M_above 265 = .ok (.iastore, 1) := by decide +kernel
theorem d_M_above_266 : decode b_M_above 266 = .ok (.aload_n 0, 1) := by decide +kernel
theorem d_M_above_267 : decode b_M_above 267 = .ok (.iload_n 3, 1) := by decide +kernel
theorem d_M_above_268 : decode b_M_above 268 = .ok (.invokevirtual 95, 3) := by decide +kernel
theorem d_M_above_271 : decode b_M_above 271 = .ok (.aload_n 0, 1) := by decide +kernel
theorem d_M_above_272 : decode b_M_above 272 = .ok (.iconst 0, 1) := by decide +kernel
theorem d_M_above_273 : decode b_M_above 273 = .ok (.putfield 130, 3) := by decide +kernel
theorem d_M_above_276 : decode b_M_above 276 = .ok (.aload_n 0, 1) := by decide +kernel
theorem d_M_above_277 : decode b_M_above 277 = .ok (.getfield 16, 3) := by decide +kernel
theorem d_M_above_280 : decode b_M_above 280 = .ok (.iload_n 3, 1) := by decide +kernel
theorem d_M_above_281 : decode b_M_above 281 = .ok (.iaload, 1) := by decide +kernel
theorem d_M_above_282 : decode b_M_above 282 = .ok (.ireturn, 1) := by decide +kernel
theorem d_M_isUnder_0 : decode b_M_isUnder 0 = .ok (.aload_n 0, 1) := by decide +kernel
theorem d_M_isUnder_1 : decode b_M_isUnder 1 = .ok (.aload_n 0, 1) := by decide +kernel
theorem d_M_isUnder_2 : decode b_M_isUnder 2 = .ok (.iload_n 1, 1) := by decide +kernel
theorem d_M_isUnder_3 : decode b_M_isUnder 3 = .ok (.invokevirtual 150, 3) := by decide +kernel
theorem d_M_isUnder_6 : decode b_M_isUnder 6 = .ok (.ifCond .eq 15, 3) := by decide +kernel
theorem d_M_isUnder_9 : decode b_M_isUnder 9 = .ok (.aload_n 0, 1) := by decide +kernel
theorem d_M_isUnder_10 : decode b_M_isUnder 10 = .ok (.iload_n 2, 1) := by decide +kernel
theorem d_M_isUnder_11 : decode b_M_isUnder 11 = .ok (.invokevirtual 150, 3) := by decide +kernel
theorem d_M_isUnder_14 : decode b_M_isUnder 14 = .ok (.ifCond .eq 7, 3) := by decide +kernel
theorem d_M_isUnder_17 : decode b_M_isUnder 17 = .ok (.iconst 0, 1) := by decide +kernel
theorem d_M_isUnder_18 : decode b_M_isUnder 18 = .ok (.goto 4, 3) := by decide +kernel
theorem d_M_isUnder_21 : decode b_M_isUnder 21 = .ok (.iconst 1, 1) := by decide +kernel
theorem d_M_isUnder_22 : decode b_M_isUnder 22 = .ok (.invokevirtual 146, 3) := by decide +kernel
theorem d_M_isUnder_25 : decode b_M_isUnder 25 = .ok (.ifCond .eq 16, 3) := by decide +kernel
theorem d_M_isUnder_28 : decode b_M_isUnder 28 = .ok (.aload_n 0, 1) := by decide +kernel
theorem d_M_isUnder_29 : decode b_M_isUnder 29 = .ok (.iload_n 1, 1) := by decide +kernel
theorem d_M_isUnder_30 : decode b_M_isUnder 30 = .ok (.iload_n 2, 1) := by decide +kernel
theorem d_M_isUnder_31 : decode b_M_isUnder 31 = .ok (.invokevirtual 105, 3) := by decide +kernel
theorem d_M_isUnder_34 : decode b_M_isUnder 34 = .ok (.ifCond .eq 7, 3) := by decide +kernel
theorem d_M_isUnder_37 : decode b_M_isUnder 37 = .ok (.iconst 1, 1) := by decide +kernel
theorem d_M_isUnder_38 : decode b_M_isUnder 38 = .ok (.goto 4, 3) := by decide +kernel
theorem d_M_isUnder_41 : decode b_M_isUnder 41 = .ok (.iconst 0, 1) := by decide +kernel
theorem d_M_isUnder_42 : decode b_M_isUnder 42 = .ok (.ireturn, 1) := by decide +kernel
theorem d_M_count_0 : decode b_M_count 0 = .ok (.iconst 0, 1) := by decide +kernel
theorem d_M_count_1 : decode b_M_count 1 = .ok (.istore_n 1, 1) := by decide +kernel
theorem d_M_count_2 : decode b_M_count 2 = .ok (.iconst 0, 1) := by decide +kernel
theorem d_M_count_3 : decode b_M_count 3 = .ok (.istore_n 2, 1) := by decide +kernel
theorem d_M_count_4 : decode b_M_count 4 = .ok (.iload_n 2, 1) := by decide +kernel
theorem d_M_count_5 : decode b_M_count 5 = .ok (.bipush 31, 2) := by decide +kernel
theorem d_M_count_7 : decode b_M_count 7 = .ok (.if_icmp .ge 17, 3) := by decide +kernel
theorem d_M_count_10 : decode b_M_count 10 = .ok (.iload_n 1, 1) := by decide +kernel
theorem d_M_count_11 : decode b_M_count 11 = .ok (.iload_n 0, 1) := by decide +kernel
theorem d_M_count_12 : decode b_M_count 12 = .ok (.iload_n 2, 1) := by decide +kernel
theorem d_M_count_13 : decode b_M_count 13 = .ok (.ishr, 1) := by decide +kernel
theorem d_M_count_14 : decode b_M_count 14 = .ok (.iconst 1, 1) := by decide +kernel
theorem d_M_count_15 : decode b_M_count 15 = .ok (.iand, 1) := by decide +kernel
theorem d_M_count_16 : decode b_M_count 16 = .ok (.iadd, 1) := by decide +kernel
theorem d_M_count_17 : decode b_M_count 17 = .ok (.istore_n 1, 1) := by decide +kernel
theorem d_M_count_18 : decode b_M_count 18 = .ok (.iinc 2 1, 3) := by decide +kernel
theorem d_M_count_21 : decode b_M_count 21 = .ok (.goto (-17), 3) := by decide +kernel
theorem d_M_count_24 : decode b_M_count 24 = .ok (.iload_n 1, 1) := by decide +kernel
theorem d_M_count_25 : decode b_M_count 25 = .ok (.ireturn, 1) := by decide +kernel
theorem d_M_classed_0 : decode b_M_classed 0 = .ok (.aload_n 0, 1) := by decide +kernel
theorem d_M_classed_1 : decode b_M_classed 1 = .ok (.aload_n 0, 1) := by decide +kernel
theorem d_M_classed_2 : decode b_M_classed 2 = .ok (.iload_n 1, 1) := by decide +kernel
theorem d_M_classed_3 : decode b_M_classed 3 = .ok (.invokevirtual 150, 3) := by decide +kernel
theorem d_M_classed_6 : decode b_M_classed 6 = .ok (.ifCond .ne 7, 3) := by decide +kernel
theorem d_M_classed_9 : decode b_M_classed 9 = .ok (.iconst 1, 1) := by decide +kernel
theorem d_M_classed_10 : decode b_M_classed 10 = .ok (.goto 17, 3) := by decide +kernel
theorem d_M_classed_13 : decode b_M_classed 13 = .ok (.iload_n 2, 1) := by decide +kernel
theorem d_M_classed_14 : decode b_M_classed 14 = .ok (.ifCond .lt 8, 3) := by decide +kernel
theorem d_M_classed_17 : decode b_M_classed 17 = .ok (.iload_n 2, 1) := by decide +kernel
theorem d_M_classed_18 : decode b_M_classed 18 = .ok (.iconst 3, 1) := by decide +kernel
theorem d_M_classed_19 : decode b_M_classed 19 = .ok (.if_icmp .le 7, 3) := by decide +kernel
theorem d_M_classed_22 : decode b_M_classed 22 = .ok (.iconst 2, 1) := by decide +kernel
theorem d_M_classed_23 : decode b_M_classed 23 = .ok (.goto 4, 3) := by decide +kernel
theorem d_M_classed_26 : decode b_M_classed 26 = .ok (.iconst 0, 1) := by decide +kernel
theorem d_M_classed_27 : decode b_M_classed 27 = .ok (.invokevirtual 146, 3) := by decide +kernel
theorem d_M_classed_30 : decode b_M_classed 30 = .ok (.ifCond .ne 5, 3) := by decide +kernel
theorem d_M_classed_33 : decode b_M_classed 33 = .ok (.iconst 0, 1) := by decide +kernel
theorem d_M_classed_34 : decode b_M_classed 34 = .ok (.ireturn, 1) := by decide +kernel
theorem d_M_classed_35 : decode b_M_classed 35 = .ok (.iload_n 2, 1) := by decide +kernel
theorem d_M_classed_36 : decode b_M_classed 36 = .ok (.tableswitch 65 0 2 #[28, 43, 58], 28) := by decide +kernel
theorem d_M_classed_64 : decode b_M_classed 64 = .ok (.aload_n 0, 1) := by decide +kernel
theorem d_M_classed_65 : decode b_M_classed 65 = .ok (.getfield 7, 3) := by decide +kernel
theorem d_M_classed_68 : decode b_M_classed 68 = .ok (.iload_n 1, 1) := by decide +kernel
theorem d_M_classed_69 : decode b_M_classed 69 = .ok (.baload, 1) := by decide +kernel
theorem d_M_classed_70 : decode b_M_classed 70 = .ok (.ifCond .eq 7, 3) := by decide +kernel
theorem d_M_classed_73 : decode b_M_classed 73 = .ok (.iconst 1, 1) := by decide +kernel
theorem d_M_classed_74 : decode b_M_classed 74 = .ok (.goto 4, 3) := by decide +kernel
theorem d_M_classed_77 : decode b_M_classed 77 = .ok (.iconst 0, 1) := by decide +kernel
theorem d_M_classed_78 : decode b_M_classed 78 = .ok (.ireturn, 1) := by decide +kernel
theorem d_M_classed_79 : decode b_M_classed 79 = .ok (.aload_n 0, 1) := by decide +kernel
theorem d_M_classed_80 : decode b_M_classed 80 = .ok (.getfield 13, 3) := by decide +kernel
theorem d_M_classed_83 : decode b_M_classed 83 = .ok (.iload_n 1, 1) := by decide +kernel
theorem d_M_classed_84 : decode b_M_classed 84 = .ok (.baload, 1) := by decide +kernel
theorem d_M_classed_85 : decode b_M_classed 85 = .ok (.ifCond .eq 7, 3) := by decide +kernel
theorem d_M_classed_88 : decode b_M_classed 88 = .ok (.iconst 1, 1) := by decide +kernel
theorem d_M_classed_89 : decode b_M_classed 89 = .ok (.goto 4, 3) := by decide +kernel
theorem d_M_classed_92 : decode b_M_classed 92 = .ok (.iconst 0, 1) := by decide +kernel
theorem d_M_classed_93 : decode b_M_classed 93 = .ok (.ireturn, 1) := by decide +kernel
theorem d_M_classed_94 : decode b_M_classed 94 = .ok (.aload_n 0, 1) := by decide +kernel
theorem d_M_classed_95 : decode b_M_classed 95 = .ok (.getfield 16, 3) := by decide +kernel
theorem d_M_classed_98 : decode b_M_classed 98 = .ok (.iload_n 1, 1) := by decide +kernel
theorem d_M_classed_99 : decode b_M_classed 99 = .ok (.iaload, 1) := by decide +kernel
theorem d_M_classed_100 : decode b_M_classed 100 = .ok (.ireturn, 1) := by decide +kernel
theorem d_M_classed_101 : decode b_M_classed 101 = .ok (.aload_n 0, 1) := by decide +kernel
theorem d_M_classed_102 : decode b_M_classed 102 = .ok (.getfield 26, 3) := by decide +kernel
theorem d_M_classed_105 : decode b_M_classed 105 = .ok (.iload_n 1, 1) := by decide +kernel
theorem d_M_classed_106 : decode b_M_classed 106 = .ok (.iaload, 1) := by decide +kernel
theorem d_M_classed_107 : decode b_M_classed 107 = .ok (.invokestatic 160, 3) := by decide +kernel
theorem d_M_classed_110 : decode b_M_classed 110 = .ok (.ireturn, 1) := by decide +kernel
theorem d_M_direct_0 : decode b_M_direct 0 = .ok (.aload_n 0, 1) := by decide +kernel
theorem d_M_direct_1 : decode b_M_direct 1 = .ok (.aload_n 0, 1) := by decide +kernel
theorem d_M_direct_2 : decode b_M_direct 2 = .ok (.iload_n 1, 1) := by decide +kernel
theorem d_M_direct_3 : decode b_M_direct 3 = .ok (.invokevirtual 150, 3) := by decide +kernel
theorem d_M_direct_6 : decode b_M_direct 6 = .ok (.ifCond .eq 17, 3) := by decide +kernel
theorem d_M_direct_9 : decode b_M_direct 9 = .ok (.iload_n 2, 1) := by decide +kernel
theorem d_M_direct_10 : decode b_M_direct 10 = .ok (.ifCond .lt 13, 3) := by decide +kernel
theorem d_M_direct_13 : decode b_M_direct 13 = .ok (.iload_n 2, 1) := by decide +kernel
theorem d_M_direct_14 : decode b_M_direct 14 = .ok (.aload_n 0, 1) := by decide +kernel
theorem d_M_direct_15 : decode b_M_direct 15 = .ok (.getfield 16, 3) := by decide +kernel
theorem d_M_direct_18 : decode b_M_direct 18 = .ok (.iload_n 1, 1) := by decide +kernel
theorem d_M_direct_19 : decode b_M_direct 19 = .ok (.iaload, 1) := by decide +kernel
theorem d_M_direct_20 : decode b_M_direct 20 = .ok (.if_icmp .lt 7, 3) := by decide +kernel
theorem d_M_direct_23 : decode b_M_direct 23 = .ok (.iconst 1, 1) := by decide +kernel
theorem d_M_direct_24 : decode b_M_direct 24 = .ok (.goto 17, 3) := by decide +kernel
theorem d_M_direct_27 : decode b_M_direct 27 = .ok (.iload_n 3, 1) := by decide +kernel
theorem d_M_direct_28 : decode b_M_direct 28 = .ok (.ifCond .lt 8, 3) := by decide +kernel
theorem d_M_direct_31 : decode b_M_direct 31 = .ok (.iload_n 3, 1) := by decide +kernel
theorem d_M_direct_32 : decode b_M_direct 32 = .ok (.iconst 1, 1) := by decide +kernel
theorem d_M_direct_33 : decode b_M_direct 33 = .ok (.if_icmp .le 7, 3) := by decide +kernel
theorem d_M_direct_36 : decode b_M_direct 36 = .ok (.iconst 2, 1) := by decide +kernel
theorem d_M_direct_37 : decode b_M_direct 37 = .ok (.goto 4, 3) := by decide +kernel
theorem d_M_direct_40 : decode b_M_direct 40 = .ok (.iconst 0, 1) := by decide +kernel
theorem d_M_direct_41 : decode b_M_direct 41 = .ok (.invokevirtual 146, 3) := by decide +kernel
theorem d_M_direct_44 : decode b_M_direct 44 = .ok (.ifCond .ne 5, 3) := by decide +kernel
theorem d_M_direct_47 : decode b_M_direct 47 = .ok (.iconst 0, 1) := by decide +kernel
theorem d_M_direct_48 : decode b_M_direct 48 = .ok (.ireturn, 1) := by decide +kernel
theorem d_M_direct_49 : decode b_M_direct 49 = .ok (.iload_n 3, 1) := by decide +kernel
theorem d_M_direct_50 : decode b_M_direct 50 = .ok (.ifCond .ne 17, 3) := by decide +kernel
theorem d_M_direct_53 : decode b_M_direct 53 = .ok (.aload_n 0, 1) := by decide +kernel
theorem d_M_direct_54 : decode b_M_direct 54 = .ok (.getfield 20, 3) := by decide +kernel
theorem d_M_direct_57 : decode b_M_direct 57 = .ok (.bipush 30, 2) := by decide +kernel
theorem d_M_direct_59 : decode b_M_direct 59 = .ok (.iload_n 1, 1) := by decide +kernel
theorem d_M_direct_60 : decode b_M_direct 60 = .ok (.imul, 1) := by decide +kernel
theorem d_M_direct_61 : decode b_M_direct 61 = .ok (.iload_n 2, 1) := by decide +kernel
theorem d_M_direct_62 : decode b_M_direct 62 = .ok (.iadd, 1) := by decide +kernel
theorem d_M_direct_63 : decode b_M_direct 63 = .ok (.iaload, 1) := by decide +kernel
theorem d_M_direct_64 : decode b_M_direct 64 = .ok (.goto 14, 3) := by decide +kernel
theorem d_M_direct_67 : decode b_M_direct 67 = .ok (.aload_n 0, 1) := by decide +kernel
theorem d_M_direct_68 : decode b_M_direct 68 = .ok (.getfield 23, 3) := by decide +kernel
theorem d_M_direct_71 : decode b_M_direct 71 = .ok (.bipush 30, 2) := by decide +kernel
theorem d_M_direct_73 : decode b_M_direct 73 = .ok (.iload_n 1, 1) := by decide +kernel
theorem d_M_direct_74 : decode b_M_direct 74 = .ok (.imul, 1) := by decide +kernel
theorem d_M_direct_75 : decode b_M_direct 75 = .ok (.iload_n 2, 1) := by decide +kernel
theorem d_M_direct_76 : decode b_M_direct 76 = .ok (.iadd, 1) := by decide +kernel
theorem d_M_direct_77 : decode b_M_direct 77 = .ok (.iaload, 1) := by decide +kernel
theorem d_M_direct_78 : decode b_M_direct 78 = .ok (.ireturn, 1) := by decide +kernel
theorem d_M_told_0 : decode b_M_told 0 = .ok (.aload_n 0, 1) := by decide +kernel
theorem d_M_told_1 : decode b_M_told 1 = .ok (.iload_n 1, 1) := by decide +kernel
theorem d_M_told_2 : decode b_M_told 2 = .ok (.ifCond .lt 8, 3) := by decide +kernel
theorem d_M_told_5 : decode b_M_told 5 = .ok (.iload_n 1, 1) := by decide +kernel
theorem d_M_told_6 : decode b_M_told 6 = .ok (.iconst 3, 1) := by decide +kernel
theorem d_M_told_7 : decode b_M_told 7 = .ok (.if_icmp .le 7, 3) := by decide +kernel
theorem d_M_told_10 : decode b_M_told 10 = .ok (.iconst 1, 1) := by decide +kernel
theorem d_M_told_11 : decode b_M_told 11 = .ok (.goto 4, 3) := by decide +kernel
theorem d_M_told_14 : decode b_M_told 14 = .ok (.iconst 0, 1) := by decide +kernel
theorem d_M_told_15 : decode b_M_told 15 = .ok (.invokevirtual 146, 3) := by decide +kernel
theorem d_M_told_18 : decode b_M_told 18 = .ok (.ifCond .ne 5, 3) := by decide +kernel
theorem d_M_told_21 : decode b_M_told 21 = .ok (.iconst 0, 1) := by decide +kernel
theorem d_M_told_22 : decode b_M_told 22 = .ok (.ireturn, 1) := by decide +kernel
theorem d_M_told_23 : decode b_M_told 23 = .ok (.iload_n 1, 1) := by decide +kernel
theorem d_M_told_24 : decode b_M_told 24 = .ok (.ifCond .ne 10, 3) := by decide +kernel
theorem d_M_told_27 : decode b_M_told 27 = .ok (.aload_n 0, 1) := by decide +kernel
theorem d_M_told_28 : decode b_M_told 28 = .ok (.getfield 89, 3) := by decide +kernel
theorem d_M_told_31 : decode b_M_told 31 = .ok (.goto 31, 3) := by decide +kernel
theorem d_M_told_34 : decode b_M_told 34 = .ok (.iload_n 1, 1) := by decide +kernel
theorem d_M_told_35 : decode b_M_told 35 = .ok (.iconst 1, 1) := by decide +kernel
theorem d_M_told_36 : decode b_M_told 36 = .ok (.if_icmp .ne 10, 3) := by decide +kernel
theorem d_M_told_39 : decode b_M_told 39 = .ok (.aload_n 0, 1) := by decide +kernel
theorem d_M_told_40 : decode b_M_told 40 = .ok (.getfield 92, 3) := by decide +kernel
theorem d_M_told_43 : decode b_M_told 43 = .ok (.goto 19, 3) := by decide +kernel
theorem d_M_told_46 : decode b_M_told 46 = .ok (.iload_n 1, 1) := by decide +kernel
theorem d_M_told_47 : decode b_M_told 47 = .ok (.iconst 2, 1) := by decide +kernel
theorem d_M_told_48 : decode b_M_told 48 = .ok (.if_icmp .ne 10, 3) := by decide +kernel
theorem d_M_told_51 : decode b_M_told 51 = .ok (.aload_n 0, 1) := by decide +kernel
theorem d_M_told_52 : decode b_M_told 52 = .ok (.getfield 99, 3) := by decide +kernel
theorem d_M_told_55 : decode b_M_told 55 = .ok (.goto 7, 3) := by decide +kernel
theorem d_M_told_58 : decode b_M_told 58 = .ok (.aload_n 0, 1) := by decide +kernel
theorem d_M_told_59 : decode b_M_told 59 = .ok (.getfield 81, 3) := by decide +kernel
theorem d_M_told_62 : decode b_M_told 62 = .ok (.ireturn, 1) := by decide +kernel
theorem d_M_end_0 : decode b_M_end 0 = .ok (.aload_n 0, 1) := by decide +kernel
theorem d_M_end_1 : decode b_M_end 1 = .ok (.getfield 123, 3) := by decide +kernel
theorem d_M_end_4 : decode b_M_end 4 = .ok (.ifCond .eq 20, 3) := by decide +kernel
theorem d_M_end_7 : decode b_M_end 7 = .ok (.aload_n 0, 1) := by decide +kernel
theorem d_M_end_8 : decode b_M_end 8 = .ok (.iload_n 1, 1) := by decide +kernel
theorem d_M_end_9 : decode b_M_end 9 = .ok (.putfield 99, 3) := by decide +kernel
theorem d_M_end_12 : decode b_M_end 12 = .ok (.aload_n 0, 1) := by decide +kernel
theorem d_M_end_13 : decode b_M_end 13 = .ok (.iconst 0, 1) := by decide +kernel
theorem d_M_end_14 : decode b_M_end 14 = .ok (.putfield 123, 3) := by decide +kernel
theorem d_M_end_17 : decode b_M_end 17 = .ok (.aload_n 0, 1) := by decide +kernel
theorem d_M_end_18 : decode b_M_end 18 = .ok (.iload_n 3, 1) := by decide +kernel
theorem d_M_end_19 : decode b_M_end 19 = .ok (.putfield 102, 3) := by decide +kernel
theorem d_M_end_22 : decode b_M_end 22 = .ok (.iconst 0, 1) := by decide +kernel
theorem d_M_end_23 : decode b_M_end 23 = .ok (.ireturn, 1) := by decide +kernel
theorem d_M_end_24 : decode b_M_end 24 = .ok (.iload_n 2, 1) := by decide +kernel
theorem d_M_end_25 : decode b_M_end 25 = .ok (.ireturn, 1) := by decide +kernel
theorem d_M_named_0 : decode b_M_named 0 = .ok (.aload_n 0, 1) := by decide +kernel
theorem d_M_named_1 : decode b_M_named 1 = .ok (.iload_n 1, 1) := by decide +kernel
theorem d_M_named_2 : decode b_M_named 2 = .ok (.invokevirtual 150, 3) := by decide +kernel
theorem d_M_named_5 : decode b_M_named 5 = .ok (.ifCond .eq 19, 3) := by decide +kernel
theorem d_M_named_8 : decode b_M_named 8 = .ok (.iload_n 2, 1) := by decide +kernel
theorem d_M_named_9 : decode b_M_named 9 = .ok (.ifCond .eq 11, 3) := by decide +kernel
theorem d_M_named_12 : decode b_M_named 12 = .ok (.aload_n 0, 1) := by decide +kernel
theorem d_M_named_13 : decode b_M_named 13 = .ok (.iload_n 3, 1) := by decide +kernel
theorem d_M_named_14 : decode b_M_named 14 = .ok (.invokevirtual 164, 3) := by decide +kernel
theorem d_M_named_17 : decode b_M_named 17 = .ok (.ifCond .eq 7, 3) := by decide +kernel
theorem d_M_named_20 : decode b_M_named 20 = .ok (.iconst 1, 1) := by decide +kernel
theorem d_M_named_21 : decode b_M_named 21 = .ok (.goto 4, 3) := by decide +kernel
theorem d_M_named_24 : decode b_M_named 24 = .ok (.iconst 0, 1) := by decide +kernel
theorem d_M_named_25 : decode b_M_named 25 = .ok (.istore 4, 2) := by decide +kernel
theorem d_M_named_27 : decode b_M_named 27 = .ok (.iload 4, 2) := by decide +kernel
theorem d_M_named_29 : decode b_M_named 29 = .ok (.ifCond .ne 7, 3) := by decide +kernel
theorem d_M_named_32 : decode b_M_named 32 = .ok (.iconst 1, 1) := by decide +kernel
theorem d_M_named_33 : decode b_M_named 33 = .ok (.goto 45, 3) := by decide +kernel
theorem d_M_named_36 : decode b_M_named 36 = .ok (.iload_n 2, 1) := by decide +kernel
theorem d_M_named_37 : decode b_M_named 37 = .ok (.ifCond .lt 36, 3) := by decide +kernel
theorem d_M_named_40 : decode b_M_named 40 = .ok (.iload_n 2, 1) := by decide +kernel
theorem d_M_named_41 : decode b_M_named 41 = .ok (.iconst 2, 1) := by decide +kernel
theorem d_M_named_42 : decode b_M_named 42 = .ok (.if_icmp .gt 31, 3) := by decide +kernel
theorem d_M_named_45 : decode b_M_named 45 = .ok (.aload_n 0, 1) := by decide +kernel
theorem d_M_named_46 : decode b_M_named 46 = .ok (.getfield 13, 3) := by decide +kernel
theorem d_M_named_49 : decode b_M_named 49 = .ok (.iload_n 1, 1) := by decide +kernel
theorem d_M_named_50 : decode b_M_named 50 = .ok (.baload, 1) := by decide +kernel
theorem d_M_named_51 : decode b_M_named 51 = .ok (.iload_n 2, 1) := by decide +kernel
theorem d_M_named_52 : decode b_M_named 52 = .ok (.ifCond .ne 7, 3) := by decide +kernel
theorem d_M_named_55 : decode b_M_named 55 = .ok (.iconst 1, 1) := by decide +kernel
theorem d_M_named_56 : decode b_M_named 56 = .ok (.goto 4, 3) := by decide +kernel
theorem d_M_named_59 : decode b_M_named 59 = .ok (.iconst 0, 1) := by decide +kernel
theorem d_M_named_60 : decode b_M_named 60 = .ok (.if_icmp .eq 13, 3) := by decide +kernel
theorem d_M_named_63 : decode b_M_named 63 = .ok (.iload_n 2, 1) := by decide +kernel
theorem d_M_named_64 : decode b_M_named 64 = .ok (.ifCond .le 13, 3) := by decide +kernel
theorem d_M_named_67 : decode b_M_named 67 = .ok (.iload_n 3, 1) := by decide +kernel
theorem d_M_named_68 : decode b_M_named 68 = .ok (.bipush 8, 2) := by decide +kernel
theorem d_M_named_70 : decode b_M_named 70 = .ok (.if_icmp .ge 7, 3) := by decide +kernel
theorem d_M_named_73 : decode b_M_named 73 = .ok (.iconst 2, 1) := by decide +kernel
theorem d_M_named_74 : decode b_M_named 74 = .ok (.goto 4, 3) := by decide +kernel
theorem d_M_named_77 : decode b_M_named 77 = .ok (.iconst 0, 1) := by decide +kernel
theorem d_M_named_78 : decode b_M_named 78 = .ok (.istore 5, 2) := by decide +kernel
theorem d_M_named_80 : decode b_M_named 80 = .ok (.aload_n 0, 1) := by decide +kernel
theorem d_M_named_81 : decode b_M_named 81 = .ok (.iload 5, 2) := by decide +kernel
theorem d_M_named_83 : decode b_M_named 83 = .ok (.invokevirtual 146, 3) := by decide +kernel
theorem d_M_named_86 : decode b_M_named 86 = .ok (.ifCond .ne 5, 3) := by decide +kernel
theorem d_M_named_89 : decode b_M_named 89 = .ok (.iconst 0, 1) := by decide +kernel
theorem d_M_named_90 : decode b_M_named 90 = .ok (.ireturn, 1) := by decide +kernel
theorem d_M_named_91 : decode b_M_named 91 = .ok (.aload_n 0, 1) := by decide +kernel
theorem d_M_named_92 : decode b_M_named 92 = .ok (.getfield 99, 3) := by decide +kernel
theorem d_M_named_95 : decode b_M_named 95 = .ok (.istore 6, 2) := by decide +kernel
theorem d_M_named_97 : decode b_M_named 97 = .ok (.aload_n 0, 1) := by decide +kernel
theorem d_M_named_98 : decode b_M_named 98 = .ok (.iload 6, 2) := by decide +kernel
theorem d_M_named_100 : decode b_M_named 100 = .ok (.aload_n 0, 1) := by decide +kernel
theorem d_M_named_101 : decode b_M_named 101 = .ok (.iload_n 1, 1) := by decide +kernel
theorem d_M_named_102 : decode b_M_named 102 = .ok (.iload_n 2, 1) := by decide +kernel
theorem d_M_named_103 : decode b_M_named 103 = .ok (.iload_n 2, 1) := by decide +kernel
theorem d_M_named_104 : decode b_M_named 104 = .ok (.ifCond .ne 7, 3) := by decide +kernel
theorem d_M_named_107 : decode b_M_named 107 = .ok (.iconst (-1), 1) := by decide +kernel
theorem d_M_named_108 : decode b_M_named 108 = .ok (.goto 4, 3) := by decide +kernel
theorem d_M_named_111 : decode b_M_named 111 = .ok (.iload_n 3, 1) := by decide +kernel
theorem d_M_named_112 : decode b_M_named 112 = .ok (.invokevirtual 167, 3) := by decide +kernel
theorem d_M_named_115 : decode b_M_named 115 = .ok (.iconst 3, 1) := by decide +kernel
theorem d_M_named_116 : decode b_M_named 116 = .ok (.invokevirtual 171, 3) := by decide +kernel
theorem d_M_named_119 : decode b_M_named 119 = .ok (.ireturn, 1) := by decide +kernel
theorem d_M_array_0 : decode b_M_array 0 = .ok (.aload_n 0, 1) := by decide +kernel
theorem d_M_array_1 : decode b_M_array 1 = .ok (.aload_n 0, 1) := by decide +kernel
theorem d_M_array_2 : decode b_M_array 2 = .ok (.iload_n 1, 1) := by decide +kernel
theorem d_M_array_3 : decode b_M_array 3 = .ok (.invokevirtual 164, 3) := by decide +kernel
theorem d_M_array_6 : decode b_M_array 6 = .ok (.ifCond .eq 7, 3) := by decide +kernel
theorem d_M_array_9 : decode b_M_array 9 = .ok (.iconst 0, 1) := by decide +kernel
theorem d_M_array_10 : decode b_M_array 10 = .ok (.goto 4, 3) := by decide +kernel
theorem d_M_array_13 : decode b_M_array 13 = .ok (.iconst 1, 1) := by decide +kernel
theorem d_M_array_14 : decode b_M_array 14 = .ok (.invokevirtual 146, 3) := by decide +kernel
theorem d_M_array_17 : decode b_M_array 17 = .ok (.ifCond .ne 5, 3) := by decide +kernel
theorem d_M_array_20 : decode b_M_array 20 = .ok (.iconst 0, 1) := by decide +kernel
theorem d_M_array_21 : decode b_M_array 21 = .ok (.ireturn, 1) := by decide +kernel
theorem d_M_array_22 : decode b_M_array 22 = .ok (.aload_n 0, 1) := by decide +kernel
theorem d_M_array_23 : decode b_M_array 23 = .ok (.getfield 99, 3) := by decide +kernel
theorem d_M_array_26 : decode b_M_array 26 = .ok (.istore_n 2, 1) := by decide +kernel
theorem d_M_array_27 : decode b_M_array 27 = .ok (.aload_n 0, 1) := by decide +kernel
theorem d_M_array_28 : decode b_M_array 28 = .ok (.iload_n 2, 1) := by decide +kernel
theorem d_M_array_29 : decode b_M_array 29 = .ok (.aload_n 0, 1) := by decide +kernel
theorem d_M_array_30 : decode b_M_array 30 = .ok (.iload_n 1, 1) := by decide +kernel
theorem d_M_array_31 : decode b_M_array 31 = .ok (.invokevirtual 174, 3) := by decide +kernel
theorem d_M_array_34 : decode b_M_array 34 = .ok (.iconst 2, 1) := by decide +kernel
theorem d_M_array_35 : decode b_M_array 35 = .ok (.invokevirtual 171, 3) := by decide +kernel
theorem d_M_array_38 : decode b_M_array 38 = .ok (.ireturn, 1) := by decide +kernel
theorem d_M_isBelow_0 : decode b_M_isBelow 0 = .ok (.aload_n 0, 1) := by decide +kernel
theorem d_M_isBelow_1 : decode b_M_isBelow 1 = .ok (.aload_n 0, 1) := by decide +kernel
theorem d_M_isBelow_2 : decode b_M_isBelow 2 = .ok (.iload_n 1, 1) := by decide +kernel
theorem d_M_isBelow_3 : decode b_M_isBelow 3 = .ok (.invokevirtual 164, 3) := by decide +kernel
theorem d_M_isBelow_6 : decode b_M_isBelow 6 = .ok (.ifCond .eq 15, 3) := by decide +kernel
theorem d_M_isBelow_9 : decode b_M_isBelow 9 = .ok (.aload_n 0, 1) := by decide +kernel
theorem d_M_isBelow_10 : decode b_M_isBelow 10 = .ok (.iload_n 2, 1) := by decide +kernel
theorem d_M_isBelow_11 : decode b_M_isBelow 11 = .ok (.invokevirtual 164, 3) := by decide +kernel
theorem d_M_isBelow_14 : decode b_M_isBelow 14 = .ok (.ifCond .eq 7, 3) := by decide +kernel
theorem d_M_isBelow_17 : decode b_M_isBelow 17 = .ok (.iconst 0, 1) := by decide +kernel
theorem d_M_isBelow_18 : decode b_M_isBelow 18 = .ok (.goto 4, 3) := by decide +kernel
theorem d_M_isBelow_21 : decode b_M_isBelow 21 = .ok (.iconst 1, 1) := by decide +kernel
theorem d_M_isBelow_22 : decode b_M_isBelow 22 = .ok (.invokevirtual 146, 3) := by decide +kernel
theorem d_M_isBelow_25 : decode b_M_isBelow 25 = .ok (.ifCond .ne 5, 3) := by decide +kernel
theorem d_M_isBelow_28 : decode b_M_isBelow 28 = .ok (.iconst 0, 1) := by decide +kernel
theorem d_M_isBelow_29 : decode b_M_isBelow 29 = .ok (.ireturn, 1) := by decide +kernel
theorem d_M_isBelow_30 : decode b_M_isBelow 30 = .ok (.aload_n 0, 1) := by decide +kernel
theorem d_M_isBelow_31 : decode b_M_isBelow 31 = .ok (.invokevirtual 177, 3) := by decide +kernel
theorem d_M_isBelow_34 : decode b_M_isBelow 34 = .ok (.aload_n 0, 1) := by decide +kernel
theorem d_M_isBelow_35 : decode b_M_isBelow 35 = .ok (.getfield 54, 3) := by decide +kernel
theorem d_M_isBelow_38 : decode b_M_isBelow 38 = .ok (.sipush 300, 3) := by decide +kernel
theorem d_M_isBelow_41 : decode b_M_isBelow 41 = .ok (.iload_n 1, 1) := by decide +kernel
theorem d_M_isBelow_42 : decode b_M_isBelow 42 = .ok (.imul, 1) := by decide +kernel
theorem d_M_isBelow_43 : decode b_M_isBelow 43 = .ok (.iload_n 2, 1) := by decide +kernel
theorem d_M_isBelow_44 : decode b_M_isBelow 44 = .ok (.iadd, 1) := by decide +kernel
theorem d_M_isBelow_45 : decode b_M_isBelow 45 = .ok (.baload, 1) := by decide +kernel
theorem d_M_isBelow_46 : decode b_M_isBelow 46 = .ok (.ireturn, 1) := by decide +kernel
theorem d_M_look_0 : decode b_M_look 0 = .ok (.aload_n 0, 1) := by decide +kernel
theorem d_M_look_1 : decode b_M_look 1 = .ok (.aload_n 0, 1) := by decide +kernel
theorem d_M_look_2 : decode b_M_look 2 = .ok (.iload_n 1, 1) := by decide +kernel
theorem d_M_look_3 : decode b_M_look 3 = .ok (.invokevirtual 164, 3) := by decide +kernel
theorem d_M_look_6 : decode b_M_look 6 = .ok (.ifCond .eq 15, 3) := by decide +kernel
theorem d_M_look_9 : decode b_M_look 9 = .ok (.aload_n 0, 1) := by decide +kernel
theorem d_M_look_10 : decode b_M_look 10 = .ok (.iload_n 2, 1) := by decide +kernel
theorem d_M_look_11 : decode b_M_look 11 = .ok (.invokevirtual 150, 3) := by decide +kernel
theorem d_M_look_14 : decode b_M_look 14 = .ok (.ifCond .eq 7, 3) := by decide +kernel
theorem d_M_look_17 : decode b_M_look 17 = .ok (.iconst 0, 1) := by decide +kernel
theorem d_M_look_18 : decode b_M_look 18 = .ok (.goto 4, 3) := by decide +kernel
theorem d_M_look_21 : decode b_M_look 21 = .ok (.iconst 1, 1) := by decide +kernel
theorem d_M_look_22 : decode b_M_look 22 = .ok (.invokevirtual 146, 3) := by decide +kernel
theorem d_M_look_25 : decode b_M_look 25 = .ok (.ifCond .ne 5, 3) := by decide +kernel
theorem d_M_look_28 : decode b_M_look 28 = .ok (.iconst 0, 1) := by decide +kernel
theorem d_M_look_29 : decode b_M_look 29 = .ok (.ireturn, 1) := by decide +kernel
theorem d_M_look_30 : decode b_M_look 30 = .ok (.aload_n 0, 1) := by decide +kernel
theorem d_M_look_31 : decode b_M_look 31 = .ok (.iload_n 1, 1) := by decide +kernel
theorem d_M_look_32 : decode b_M_look 32 = .ok (.iload_n 2, 1) := by decide +kernel
theorem d_M_look_33 : decode b_M_look 33 = .ok (.invokevirtual 142, 3) := by decide +kernel
theorem d_M_look_36 : decode b_M_look 36 = .ok (.aload_n 0, 1) := by decide +kernel
theorem d_M_look_37 : decode b_M_look 37 = .ok (.getfield 109, 3) := by decide +kernel
theorem d_M_look_40 : decode b_M_look 40 = .ok (.ifCond .ne 5, 3) := by decide +kernel
theorem d_M_look_43 : decode b_M_look 43 = .ok (.iconst (-1), 1) := by decide +kernel
theorem d_M_look_44 : decode b_M_look 44 = .ok (.ireturn, 1) := by decide +kernel
theorem d_M_look_45 : decode b_M_look 45 = .ok (.aload_n 0, 1) := by decide +kernel
theorem d_M_look_46 : decode b_M_look 46 = .ok (.getfield 99, 3) := by decide +kernel
theorem d_M_look_49 : decode b_M_look 49 = .ok (.istore_n 3, 1) := by decide +kernel
theorem d_M_look_50 : decode b_M_look 50 = .ok (.aload_n 0, 1) := by decide +kernel
theorem d_M_look_51 : decode b_M_look 51 = .ok (.iload_n 3, 1) := by decide +kernel
theorem d_M_look_52 : decode b_M_look 52 = .ok (.aload_n 0, 1) := by decide +kernel
theorem d_M_look_53 : decode b_M_look 53 = .ok (.iload_n 2, 1) := by decide +kernel
theorem d_M_look_54 : decode b_M_look 54 = .ok (.aload_n 0, 1) := by decide +kernel
theorem d_M_look_55 : decode b_M_look 55 = .ok (.getfield 113, 3) := by decide +kernel
theorem d_M_look_58 : decode b_M_look 58 = .ok (.aload_n 0, 1) := by decide +kernel
theorem d_M_look_59 : decode b_M_look 59 = .ok (.getfield 116, 3) := by decide +kernel
theorem d_M_look_62 : decode b_M_look 62 = .ok (.invokevirtual 167, 3) := by decide +kernel
theorem d_M_look_65 : decode b_M_look 65 = .ok (.iconst 2, 1) := by decide +kernel
theorem d_M_look_66 : decode b_M_look 66 = .ok (.invokevirtual 171, 3) := by decide +kernel
theorem d_M_look_69 : decode b_M_look 69 = .ok (.ireturn, 1) := by decide +kernel
theorem d_M_box_0 : decode b_M_box 0 = .ok (.aload_n 0, 1) := by decide +kernel
theorem d_M_box_1 : decode b_M_box 1 = .ok (.aload_n 0, 1) := by decide +kernel
theorem d_M_box_2 : decode b_M_box 2 = .ok (.iload_n 1, 1) := by decide +kernel
theorem d_M_box_3 : decode b_M_box 3 = .ok (.invokevirtual 164, 3) := by decide +kernel
theorem d_M_box_6 : decode b_M_box 6 = .ok (.ifCond .eq 7, 3) := by decide +kernel
theorem d_M_box_9 : decode b_M_box 9 = .ok (.iconst 0, 1) := by decide +kernel
theorem d_M_box_10 : decode b_M_box 10 = .ok (.goto 4, 3) := by decide +kernel
theorem d_M_box_13 : decode b_M_box 13 = .ok (.iconst 1, 1) := by decide +kernel
theorem d_M_box_14 : decode b_M_box 14 = .ok (.invokevirtual 146, 3) := by decide +kernel
theorem d_M_box_17 : decode b_M_box 17 = .ok (.ifCond .ne 5, 3) := by decide +kernel
theorem d_M_box_20 : decode b_M_box 20 = .ok (.iconst 0, 1) := by decide +kernel
theorem d_M_box_21 : decode b_M_box 21 = .ok (.ireturn, 1) := by decide +kernel
theorem d_M_box_22 : decode b_M_box 22 = .ok (.iload_n 1, 1) := by decide +kernel
theorem d_M_box_23 : decode b_M_box 23 = .ok (.bipush 8, 2) := by decide +kernel
theorem d_M_box_25 : decode b_M_box 25 = .ok (.if_icmp .ge 10, 3) := by decide +kernel
theorem d_M_box_28 : decode b_M_box 28 = .ok (.iload_n 1, 1) := by decide +kernel
theorem d_M_box_29 : decode b_M_box 29 = .ok (.bipush 8, 2) := by decide +kernel
theorem d_M_box_31 : decode b_M_box 31 = .ok (.iadd, 1) := by decide +kernel
theorem d_M_box_32 : decode b_M_box 32 = .ok (.goto 4, 3) := by decide +kernel
theorem d_M_box_35 : decode b_M_box 35 = .ok (.iload_n 1, 1) := by decide +kernel
theorem d_M_box_36 : decode b_M_box 36 = .ok (.ireturn, 1) := by decide +kernel
theorem d_M_type_0 : decode b_M_type 0 = .ok (.aload_n 0, 1) := by decide +kernel
theorem d_M_type_1 : decode b_M_type 1 = .ok (.aload_n 0, 1) := by decide +kernel
theorem d_M_type_2 : decode b_M_type 2 = .ok (.iload_n 1, 1) := by decide +kernel
theorem d_M_type_3 : decode b_M_type 3 = .ok (.invokevirtual 164, 3) := by decide +kernel
theorem d_M_type_6 : decode b_M_type 6 = .ok (.ifCond .ne 7, 3) := by decide +kernel
theorem d_M_type_9 : decode b_M_type 9 = .ok (.iconst 1, 1) := by decide +kernel
theorem d_M_type_10 : decode b_M_type 10 = .ok (.goto 17, 3) := by decide +kernel
theorem d_M_type_13 : decode b_M_type 13 = .ok (.iload_n 2, 1) := by decide +kernel
theorem d_M_type_14 : decode b_M_type 14 = .ok (.ifCond .lt 8, 3) := by decide +kernel
theorem d_M_type_17 : decode b_M_type 17 = .ok (.iload_n 2, 1) := by decide +kernel
theorem d_M_type_18 : decode b_M_type 18 = .ok (.iconst 5, 1) := by decide +kernel
theorem d_M_type_19 : decode b_M_type 19 = .ok (.if_icmp .le 7, 3) := by decide +kernel
theorem d_M_type_22 : decode b_M_type 22 = .ok (.iconst 2, 1) := by decide +kernel
theorem d_M_type_23 : decode b_M_type 23 = .ok (.goto 4, 3) := by decide +kernel
theorem d_M_type_26 : decode b_M_type 26 = .ok (.iconst 0, 1) := by decide +kernel
theorem d_M_type_27 : decode b_M_type 27 = .ok (.invokevirtual 146, 3) := by decide +kernel
theorem d_M_type_30 : decode b_M_type 30 = .ok (.ifCond .ne 5, 3) := by decide +kernel
theorem d_M_type_33 : decode b_M_type 33 = .ok (.iconst 0, 1) := by decide +kernel
theorem d_M_type_34 : decode b_M_type 34 = .ok (.ireturn, 1) := by decide +kernel
theorem d_M_type_35 : decode b_M_type 35 = .ok (.iload_n 2, 1) := by decide +kernel
theorem d_M_type_36 : decode b_M_type 36 = .ok (.tableswitch 71 0 4 #[36, 43, 50, 57, 64], 36) := by decide +kernel
theorem d_M_type_72 : decode b_M_type 72 = .ok (.aload_n 0, 1) := by decide +kernel
theorem d_M_type_73 : decode b_M_type 73 = .ok (.getfield 29, 3) := by decide +kernel
theorem d_M_type_76 : decode b_M_type 76 = .ok (.iload_n 1, 1) := by decide +kernel
theorem d_M_type_77 : decode b_M_type 77 = .ok (.iaload, 1) := by decide +kernel
theorem d_M_type_78 : decode b_M_type 78 = .ok (.ireturn, 1) := by decide +kernel
theorem d_M_type_79 : decode b_M_type 79 = .ok (.aload_n 0, 1) := by decide +kernel
theorem d_M_type_80 : decode b_M_type 80 = .ok (.getfield 32, 3) := by decide +kernel
theorem d_M_type_83 : decode b_M_type 83 = .ok (.iload_n 1, 1) := by decide +kernel
theorem d_M_type_84 : decode b_M_type 84 = .ok (.iaload, 1) := by decide +kernel
theorem d_M_type_85 : decode b_M_type 85 = .ok (.ireturn, 1) := by decide +kernel
theorem d_M_type_86 : decode b_M_type 86 = .ok (.aload_n 0, 1) := by decide +kernel
theorem d_M_type_87 : decode b_M_type 87 = .ok (.getfield 35, 3) := by decide +kernel
theorem d_M_type_90 : decode b_M_type 90 = .ok (.iload_n 1, 1) := by decide +kernel
theorem d_M_type_91 : decode b_M_type 91 = .ok (.iaload, 1) := by decide +kernel
theorem d_M_type_92 : decode b_M_type 92 = .ok (.ireturn, 1) := by decide +kernel
theorem d_M_type_93 : decode b_M_type 93 = .ok (.aload_n 0, 1) := by decide +kernel
theorem d_M_type_94 : decode b_M_type 94 = .ok (.getfield 38, 3) := by decide +kernel
theorem d_M_type_97 : decode b_M_type 97 = .ok (.iload_n 1, 1) := by decide +kernel
theorem d_M_type_98 : decode b_M_type 98 = .ok (.iaload, 1) := by decide +kernel
theorem d_M_type_99 : decode b_M_type 99 = .ok (.ireturn, 1) := by decide +kernel
theorem d_M_type_100 : decode b_M_type 100 = .ok (.aload_n 0, 1) := by decide +kernel
theorem d_M_type_101 : decode b_M_type 101 = .ok (.getfield 44, 3) := by decide +kernel
theorem d_M_type_104 : decode b_M_type 104 = .ok (.iload_n 1, 1) := by decide +kernel
theorem d_M_type_105 : decode b_M_type 105 = .ok (.iaload, 1) := by decide +kernel
theorem d_M_type_106 : decode b_M_type 106 = .ok (.ireturn, 1) := by decide +kernel
theorem d_M_type_107 : decode b_M_type 107 = .ok (.aload_n 0, 1) := by decide +kernel
theorem d_M_type_108 : decode b_M_type 108 = .ok (.getfield 41, 3) := by decide +kernel
theorem d_M_type_111 : decode b_M_type 111 = .ok (.iload_n 1, 1) := by decide +kernel
theorem d_M_type_112 : decode b_M_type 112 = .ok (.iaload, 1) := by decide +kernel
theorem d_M_type_113 : decode b_M_type 113 = .ok (.ireturn, 1) := by decide +kernel
theorem d_M_part_0 : decode b_M_part 0 = .ok (.aload_n 0, 1) := by decide +kernel
theorem d_M_part_1 : decode b_M_part 1 = .ok (.aload_n 0, 1) := by decide +kernel
theorem d_M_part_2 : decode b_M_part 2 = .ok (.iload_n 1, 1) := by decide +kernel
theorem d_M_part_3 : decode b_M_part 3 = .ok (.invokevirtual 164, 3) := by decide +kernel
theorem d_M_part_6 : decode b_M_part 6 = .ok (.ifCond .eq 21, 3) := by decide +kernel
theorem d_M_part_9 : decode b_M_part 9 = .ok (.iload_n 2, 1) := by decide +kernel
theorem d_M_part_10 : decode b_M_part 10 = .ok (.ifCond .lt 17, 3) := by decide +kernel
theorem d_M_part_13 : decode b_M_part 13 = .ok (.iload_n 2, 1) := by decide +kernel
theorem d_M_part_14 : decode b_M_part 14 = .ok (.aload_n 0, 1) := by decide +kernel
theorem d_M_part_15 : decode b_M_part 15 = .ok (.getfield 44, 3) := by decide +kernel
theorem d_M_part_18 : decode b_M_part 18 = .ok (.iload_n 1, 1) := by decide +kernel
theorem d_M_part_19 : decode b_M_part 19 = .ok (.iaload, 1) := by decide +kernel
theorem d_M_part_20 : decode b_M_part 20 = .ok (.if_icmp .ge 7, 3) := by decide +kernel
theorem d_M_part_23 : decode b_M_part 23 = .ok (.iconst 0, 1) := by decide +kernel
theorem d_M_part_24 : decode b_M_part 24 = .ok (.goto 4, 3) := by decide +kernel
theorem d_M_part_27 : decode b_M_part 27 = .ok (.iconst 1, 1) := by decide +kernel
theorem d_M_part_28 : decode b_M_part 28 = .ok (.invokevirtual 146, 3) := by decide +kernel
theorem d_M_part_31 : decode b_M_part 31 = .ok (.ifCond .ne 5, 3) := by decide +kernel
theorem d_M_part_34 : decode b_M_part 34 = .ok (.iconst 0, 1) := by decide +kernel
theorem d_M_part_35 : decode b_M_part 35 = .ok (.ireturn, 1) := by decide +kernel
theorem d_M_part_36 : decode b_M_part 36 = .ok (.aload_n 0, 1) := by decide +kernel
theorem d_M_part_37 : decode b_M_part 37 = .ok (.getfield 47, 3) := by decide +kernel
theorem d_M_part_40 : decode b_M_part 40 = .ok (.bipush 30, 2) := by decide +kernel
theorem d_M_part_42 : decode b_M_part 42 = .ok (.iload_n 1, 1) := by decide +kernel
theorem d_M_part_43 : decode b_M_part 43 = .ok (.imul, 1) := by decide +kernel
theorem d_M_part_44 : decode b_M_part 44 = .ok (.iload_n 2, 1) := by decide +kernel
theorem d_M_part_45 : decode b_M_part 45 = .ok (.iadd, 1) := by decide +kernel
theorem d_M_part_46 : decode b_M_part 46 = .ok (.iaload, 1) := by decide +kernel
theorem d_M_part_47 : decode b_M_part 47 = .ok (.ireturn, 1) := by decide +kernel
theorem d_M_commonOf_0 : decode b_M_commonOf 0 = .ok (.iconst 0, 1) := by decide +kernel
theorem d_M_commonOf_1 : decode b_M_commonOf 1 = .ok (.istore_n 3, 1) := by decide +kernel
theorem d_M_commonOf_2 : decode b_M_commonOf 2 = .ok (.iconst 0, 1) := by decide +kernel
theorem d_M_commonOf_3 : decode b_M_commonOf 3 = .ok (.istore 4, 2) := by decide +kernel
theorem d_M_commonOf_5 : decode b_M_commonOf 5 = .ok (.iload 4, 2) := by decide +kernel
theorem d_M_commonOf_7 : decode b_M_commonOf 7 = .ok (.aload_n 0, 1) := by decide +kernel
theorem d_M_commonOf_8 : decode b_M_commonOf 8 = .ok (.getfield 89, 3) := by decide +kernel
theorem d_M_commonOf_11 : decode b_M_commonOf 11 = .ok (.if_icmp .ge 52, 3) := by decide +kernel
theorem d_M_commonOf_14 : decode b_M_commonOf 14 = .ok (.aload_n 0, 1) := by decide +kernel
theorem d_M_commonOf_15 : decode b_M_commonOf 15 = .ok (.iload_n 1, 1) := by decide +kernel
theorem d_M_commonOf_16 : decode b_M_commonOf 16 = .ok (.iload 4, 2) := by decide +kernel
theorem d_M_commonOf_18 : decode b_M_commonOf 18 = .ok (.invokevirtual 142, 3) := by decide +kernel
theorem d_M_commonOf_21 : decode b_M_commonOf 21 = .ok (.aload_n 0, 1) := by decide +kernel
theorem d_M_commonOf_22 : decode b_M_commonOf 22 = .ok (.getfield 109, 3) := by decide +kernel
theorem d_M_commonOf_25 : decode b_M_commonOf 25 = .ok (.istore 5, 2) := by decide +kernel
theorem d_M_commonOf_27 : decode b_M_commonOf 27 = .ok (.aload_n 0, 1) := by decide +kernel
theorem d_M_commonOf_28 : decode b_M_commonOf 28 = .ok (.iload_n 2, 1) := by decide +kernel
theorem d_M_commonOf_29 : decode b_M_commonOf 29 = .ok (.iload 4, 2) := by decide +kernel
theorem d_M_commonOf_31 : decode b_M_commonOf 31 = .ok (.invokevirtual 142, 3) := by decide +kernel
theorem d_M_commonOf_34 : decode b_M_commonOf 34 = .ok (.iload_n 3, 1) := by decide +kernel
theorem d_M_commonOf_35 : decode b_M_commonOf 35 = .ok (.iload 5, 2) := by decide +kernel
theorem d_M_commonOf_37 : decode b_M_commonOf 37 = .ok (.ifCond .eq 17, 3) := by decide +kernel
theorem d_M_commonOf_40 : decode b_M_commonOf 40 = .ok (.aload_n 0, 1) := by decide +kernel
theorem d_M_commonOf_41 : decode b_M_commonOf 41 = .ok (.getfield 109, 3) := by decide +kernel
theorem d_M_commonOf_44 : decode b_M_commonOf 44 = .ok (.ifCond .eq 10, 3) := by decide +kernel
theorem d_M_commonOf_47 : decode b_M_commonOf 47 = .ok (.iconst 1, 1) := by decide +kernel
theorem d_M_commonOf_48 : decode b_M_commonOf 48 = .ok (.iload 4, 2) := by decide +kernel
theorem d_M_commonOf_50 : decode b_M_commonOf 50 = .ok (.ishl, 1) := by decide +kernel
theorem d_M_commonOf_51 : decode b_M_commonOf 51 = .ok (.goto 4, 3) := by decide +kernel
theorem d_M_commonOf_54 : decode b_M_commonOf 54 = .ok (.iconst 0, 1) := by decide +kernel
theorem d_M_commonOf_55 : decode b_M_commonOf 55 = .ok (.ior, 1) := by decide +kernel
theorem d_M_commonOf_56 : decode b_M_commonOf 56 = .ok (.istore_n 3, 1) := by decide +kernel
theorem d_M_commonOf_57 : decode b_M_commonOf 57 = .ok (.iinc 4 1, 3) := by decide +kernel
theorem d_M_commonOf_60 : decode b_M_commonOf 60 = .ok (.goto (-55), 3) := by decide +kernel
theorem d_M_commonOf_63 : decode b_M_commonOf 63 = .ok (.iload_n 3, 1) := by decide +kernel
theorem d_M_commonOf_64 : decode b_M_commonOf 64 = .ok (.ireturn, 1) := by decide +kernel
theorem d_M_leastOf_0 : decode b_M_leastOf 0 = .ok (.iload_n 1, 1) := by decide +kernel
theorem d_M_leastOf_1 : decode b_M_leastOf 1 = .ok (.istore_n 2, 1) := by decide +kernel
theorem d_M_leastOf_2 : decode b_M_leastOf 2 = .ok (.iconst 0, 1) := by decide +kernel
theorem d_M_leastOf_3 : decode b_M_leastOf 3 = .ok (.istore_n 3, 1) := by decide +kernel
theorem d_M_leastOf_4 : decode b_M_leastOf 4 = .ok (.iload_n 3, 1) := by decide +kernel
theorem d_M_leastOf_5 : decode b_M_leastOf 5 = .ok (.aload_n 0, 1) := by decide +kernel
theorem d_M_leastOf_6 : decode b_M_leastOf 6 = .ok (.getfield 89, 3) := by decide +kernel
theorem d_M_leastOf_9 : decode b_M_leastOf 9 = .ok (.if_icmp .ge 29, 3) := by decide +kernel
theorem d_M_leastOf_12 : decode b_M_leastOf 12 = .ok (.iload_n 1, 1) := by decide +kernel
theorem d_M_leastOf_13 : decode b_M_leastOf 13 = .ok (.iload_n 3, 1) := by decide +kernel
theorem d_M_leastOf_14 : decode b_M_leastOf 14 = .ok (.ishr, 1) := by decide +kernel
theorem d_M_leastOf_15 : decode b_M_leastOf 15 = .ok (.iconst 1, 1) := by decide +kernel
theorem d_M_leastOf_16 : decode b_M_leastOf 16 = .ok (.iand, 1) := by decide +kernel
theorem d_M_leastOf_17 : decode b_M_leastOf 17 = .ok (.iconst 1, 1) := by decide +kernel
theorem d_M_leastOf_18 : decode b_M_leastOf 18 = .ok (.if_icmp .ne 14, 3) := by decide +kernel
theorem d_M_leastOf_21 : decode b_M_leastOf 21 = .ok (.iload_n 2, 1) := by decide +kernel
theorem d_M_leastOf_22 : decode b_M_leastOf 22 = .ok (.aload_n 0, 1) := by decide +kernel
theorem d_M_leastOf_23 : decode b_M_leastOf 23 = .ok (.getfield 26, 3) := by decide +kernel
theorem d_M_leastOf_26 : decode b_M_leastOf 26 = .ok (.iload_n 3, 1) := by decide +kernel
theorem d_M_leastOf_27 : decode b_M_leastOf 27 = .ok (.iaload, 1) := by decide +kernel
theorem d_M_leastOf_28 : decode b_M_leastOf 28 = .ok (.iconst (-1), 1) := by decide +kernel
theorem d_M_leastOf_29 : decode b_M_leastOf 29 = .ok (.ixor, 1) := by decide +kernel
theorem d_M_leastOf_30 : decode b_M_leastOf 30 = .ok (.iand, 1) := by decide +kernel
theorem d_M_leastOf_31 : decode b_M_leastOf 31 = .ok (.istore_n 2, 1) := by decide +kernel
theorem d_M_leastOf_32 : decode b_M_leastOf 32 = .ok (.iinc 3 1, 3) := by decide +kernel
theorem d_M_leastOf_35 : decode b_M_leastOf 35 = .ok (.goto (-31), 3) := by decide +kernel
theorem d_M_leastOf_38 : decode b_M_leastOf 38 = .ok (.iload_n 2, 1) := by decide +kernel
theorem d_M_leastOf_39 : decode b_M_leastOf 39 = .ok (.ireturn, 1) := by decide +kernel
theorem d_M_common_0 : decode b_M_common 0 = .ok (.aload_n 0, 1) := by decide +kernel
theorem d_M_common_1 : decode b_M_common 1 = .ok (.aload_n 0, 1) := by decide +kernel
theorem d_M_common_2 : decode b_M_common 2 = .ok (.iload_n 1, 1) := by decide +kernel
theorem d_M_common_3 : decode b_M_common 3 = .ok (.invokevirtual 164, 3) := by decide +kernel
theorem d_M_common_6 : decode b_M_common 6 = .ok (.ifCond .eq 11, 3) := by decide +kernel
theorem d_M_common_9 : decode b_M_common 9 = .ok (.aload_n 0, 1) := by decide +kernel
theorem d_M_common_10 : decode b_M_common 10 = .ok (.iload_n 2, 1) := by decide +kernel
theorem d_M_common_11 : decode b_M_common 11 = .ok (.invokevirtual 164, 3) := by decide +kernel
theorem d_M_common_14 : decode b_M_common 14 = .ok (.ifCond .ne 7, 3) := by decide +kernel
theorem d_M_common_17 : decode b_M_common 17 = .ok (.iconst 1, 1) := by decide +kernel
theorem d_M_common_18 : decode b_M_common 18 = .ok (.goto 17, 3) := by decide +kernel
theorem d_M_common_21 : decode b_M_common 21 = .ok (.iload_n 3, 1) := by decide +kernel
theorem d_M_common_22 : decode b_M_common 22 = .ok (.ifCond .lt 8, 3) := by decide +kernel
theorem d_M_common_25 : decode b_M_common 25 = .ok (.iload_n 3, 1) := by decide +kernel
theorem d_M_common_26 : decode b_M_common 26 = .ok (.iconst 1, 1) := by decide +kernel
theorem d_M_common_27 : decode b_M_common 27 = .ok (.if_icmp .le 7, 3) := by decide +kernel
theorem d_M_common_30 : decode b_M_common 30 = .ok (.iconst 2, 1) := by decide +kernel
theorem d_M_common_31 : decode b_M_common 31 = .ok (.goto 4, 3) := by decide +kernel
theorem d_M_common_34 : decode b_M_common 34 = .ok (.iconst 0, 1) := by decide +kernel
theorem d_M_common_35 : decode b_M_common 35 = .ok (.invokevirtual 146, 3) := by decide +kernel
theorem d_M_common_38 : decode b_M_common 38 = .ok (.ifCond .ne 5, 3) := by decide +kernel
theorem d_M_common_41 : decode b_M_common 41 = .ok (.iconst 0, 1) := by decide +kernel
theorem d_M_common_42 : decode b_M_common 42 = .ok (.ireturn, 1) := by decide +kernel
theorem d_M_common_43 : decode b_M_common 43 = .ok (.aload_n 0, 1) := by decide +kernel
theorem d_M_common_44 : decode b_M_common 44 = .ok (.iload_n 1, 1) := by decide +kernel
theorem d_M_common_45 : decode b_M_common 45 = .ok (.iload_n 2, 1) := by decide +kernel
theorem d_M_common_46 : decode b_M_common 46 = .ok (.invokevirtual 180, 3) := by decide +kernel
theorem d_M_common_49 : decode b_M_common 49 = .ok (.istore 4, 2) := by decide +kernel
theorem d_M_common_51 : decode b_M_common 51 = .ok (.iload_n 3, 1) := by decide +kernel
theorem d_M_common_52 : decode b_M_common 52 = .ok (.ifCond .ne 8, 3) := by decide +kernel
theorem d_M_common_55 : decode b_M_common 55 = .ok (.iload 4, 2) := by decide +kernel
theorem d_M_common_57 : decode b_M_common 57 = .ok (.goto 9, 3) := by decide +kernel
theorem d_M_common_60 : decode b_M_common 60 = .ok (.aload_n 0, 1) := by decide +kernel
theorem d_M_common_61 : decode b_M_common 61 = .ok (.iload 4, 2) := by decide +kernel
theorem d_M_common_63 : decode b_M_common 63 = .ok (.invokevirtual 184, 3) := by decide +kernel
theorem d_M_common_66 : decode b_M_common 66 = .ok (.invokestatic 160, 3) := by decide +kernel
theorem d_M_common_69 : decode b_M_common 69 = .ok (.ireturn, 1) := by decide +kernel
theorem d_M_ask_0 : decode b_M_ask 0 = .ok (.aload_n 0, 1) := by decide +kernel
theorem d_M_ask_1 : decode b_M_ask 1 = .ok (.getfield 57, 3) := by decide +kernel
theorem d_M_ask_4 : decode b_M_ask 4 = .ok (.aload_n 0, 1) := by decide +kernel
theorem d_M_ask_5 : decode b_M_ask 5 = .ok (.getfield 187, 3) := by decide +kernel
theorem d_M_ask_8 : decode b_M_ask 8 = .ok (.iload_n 1, 1) := by decide +kernel
theorem d_M_ask_9 : decode b_M_ask 9 = .ok (.iastore, 1) := by decide +kernel
theorem d_M_ask_10 : decode b_M_ask 10 = .ok (.aload_n 0, 1) := by decide +kernel
theorem d_M_ask_11 : decode b_M_ask 11 = .ok (.getfield 60, 3) := by decide +kernel
theorem d_M_ask_14 : decode b_M_ask 14 = .ok (.aload_n 0, 1) := by decide +kernel
theorem d_M_ask_15 : decode b_M_ask 15 = .ok (.getfield 187, 3) := by decide +kernel
theorem d_M_ask_18 : decode b_M_ask 18 = .ok (.iload_n 2, 1) := by decide +kernel
theorem d_M_ask_19 : decode b_M_ask 19 = .ok (.iastore, 1) := by decide +kernel
theorem d_M_ask_20 : decode b_M_ask 20 = .ok (.aload_n 0, 1) := by decide +kernel
theorem d_M_ask_21 : decode b_M_ask 21 = .ok (.getfield 63, 3) := by decide +kernel
theorem d_M_ask_24 : decode b_M_ask 24 = .ok (.aload_n 0, 1) := by decide +kernel
theorem d_M_ask_25 : decode b_M_ask 25 = .ok (.getfield 187, 3) := by decide +kernel
theorem d_M_ask_28 : decode b_M_ask 28 = .ok (.iload_n 3, 1) := by decide +kernel
theorem d_M_ask_29 : decode b_M_ask 29 = .ok (.iastore, 1) := by decide +kernel
theorem d_M_ask_30 : decode b_M_ask 30 = .ok (.aload_n 0, 1) := by decide +kernel
theorem d_M_ask_31 : decode b_M_ask 31 = .ok (.getfield 66, 3) := by decide +kernel
theorem d_M_ask_34 : decode b_M_ask 34 = .ok (.aload_n 0, 1) := by decide +kernel
theorem d_M_ask_35 : decode b_M_ask 35 = .ok (.getfield 187, 3) := by decide +kernel
theorem d_M_ask_38 : decode b_M_ask 38 = .ok (.iconst 0, 1) := by decide +kernel
theorem d_M_ask_39 : decode b_M_ask 39 = .ok (.iastore, 1) := by decide +kernel
theorem d_M_ask_40 : decode b_M_ask 40 = .ok (.aload_n 0, 1) := by decide +kernel
theorem d_M_ask_41 : decode b_M_ask 41 = .ok (.getfield 75, 3) := by decide +kernel
theorem d_M_ask_44 : decode b_M_ask 44 = .ok (.aload_n 0, 1) := by decide +kernel
theorem d_M_ask_45 : decode b_M_ask 45 = .ok (.getfield 187, 3) := by decide +kernel
theorem d_M_ask_48 : decode b_M_ask 48 = .ok (.iconst 0, 1) := by decide +kernel
theorem d_M_ask_49 : decode b_M_ask 49 = .ok (.iastore, 1) := by decide +kernel
theorem d_M_ask_50 : decode b_M_ask 50 = .ok (.aload_n 0, 1) := by decide +kernel
theorem d_M_ask_51 : decode b_M_ask 51 = .ok (.getfield 72, 3) := by decide +kernel
theorem d_M_ask_54 : decode b_M_ask 54 = .ok (.aload_n 0, 1) := by decide +kernel
theorem d_M_ask_55 : decode b_M_ask 55 = .ok (.getfield 187, 3) := by decide +kernel
theorem d_M_ask_58 : decode b_M_ask 58 = .ok (.iconst 0, 1) := by decide +kernel
theorem d_M_ask_59 : decode b_M_ask 59 = .ok (.iastore, 1) := by decide +kernel
theorem d_M_ask_60 : decode b_M_ask 60 = .ok (.aload_n 0, 1) := by decide +kernel
theorem d_M_ask_61 : decode b_M_ask 61 = .ok (.dup, 1) := by decide +kernel
theorem d_M_ask_62 : decode b_M_ask 62 = .ok (.getfield 187, 3) := by decide +kernel
theorem d_M_ask_65 : decode b_M_ask 65 = .ok (.iconst 1, 1) := by decide +kernel
theorem d_M_ask_66 : decode b_M_ask 66 = .ok (.iadd, 1) := by decide +kernel
theorem d_M_ask_67 : decode b_M_ask 67 = .ok (.putfield 187, 3) := by decide +kernel
theorem d_M_ask_70 : decode b_M_ask 70 = .ok (.return_, 1) := by decide +kernel
theorem d_M_tell_0 : decode b_M_tell 0 = .ok (.aload_n 0, 1) := by decide +kernel
theorem d_M_tell_1 : decode b_M_tell 1 = .ok (.iload_n 1, 1) := by decide +kernel
theorem d_M_tell_2 : decode b_M_tell 2 = .ok (.putfield 190, 3) := by decide +kernel
theorem d_M_tell_5 : decode b_M_tell 5 = .ok (.aload_n 0, 1) := by decide +kernel
theorem d_M_tell_6 : decode b_M_tell 6 = .ok (.dup, 1) := by decide +kernel
theorem d_M_tell_7 : decode b_M_tell 7 = .ok (.getfield 187, 3) := by decide +kernel
theorem d_M_tell_10 : decode b_M_tell 10 = .ok (.iconst 1, 1) := by decide +kernel
theorem d_M_tell_11 : decode b_M_tell 11 = .ok (.isub, 1) := by decide +kernel
theorem d_M_tell_12 : decode b_M_tell 12 = .ok (.putfield 187, 3) := by decide +kernel
theorem d_M_tell_15 : decode b_M_tell 15 = .ok (.return_, 1) := by decide +kernel
theorem d_M_keep_0 : decode b_M_keep 0 = .ok (.aload_n 0, 1) := by decide +kernel
theorem d_M_keep_1 : decode b_M_keep 1 = .ok (.getfield 78, 3) := by decide +kernel
theorem d_M_keep_4 : decode b_M_keep 4 = .ok (.bipush 30, 2) := by decide +kernel
theorem d_M_keep_6 : decode b_M_keep 6 = .ok (.iload_n 1, 1) := by decide +kernel
theorem d_M_keep_7 : decode b_M_keep 7 = .ok (.imul, 1) := by decide +kernel
theorem d_M_keep_8 : decode b_M_keep 8 = .ok (.aload_n 0, 1) := by decide +kernel
theorem d_M_keep_9 : decode b_M_keep 9 = .ok (.getfield 75, 3) := by decide +kernel
theorem d_M_keep_12 : decode b_M_keep 12 = .ok (.iload_n 1, 1) := by decide +kernel
theorem d_M_keep_13 : decode b_M_keep 13 = .ok (.iaload, 1) := by decide +kernel
theorem d_M_keep_14 : decode b_M_keep 14 = .ok (.iadd, 1) := by decide +kernel
theorem d_M_keep_15 : decode b_M_keep 15 = .ok (.iload_n 2, 1) := by decide +kernel
theorem d_M_keep_16 : decode b_M_keep 16 = .ok (.iastore, 1) := by decide +kernel
theorem d_M_keep_17 : decode b_M_keep 17 = .ok (.aload_n 0, 1) := by decide +kernel
theorem d_M_keep_18 : decode b_M_keep 18 = .ok (.getfield 75, 3) := by decide +kernel
theorem d_M_keep_21 : decode b_M_keep 21 = .ok (.iload_n 1, 1) := by decide +kernel
theorem d_M_keep_22 : decode b_M_keep 22 = .ok (.dup2, 1) := by decide +kernel
theorem d_M_keep_23 : decode b_M_keep 23 = .ok (.iaload, 1) := by decide +kernel
theorem d_M_keep_24 : decode b_M_keep 24 = .ok (.iconst 1, 1) := by decide +kernel
theorem d_M_keep_25 : decode b_M_keep 25 = .ok (.iadd, 1) := by decide +kernel
theorem d_M_keep_26 : decode b_M_keep 26 = .ok (.iastore, 1) := by decide +kernel
theorem d_M_keep_27 : decode b_M_keep 27 = .ok (.aload_n 0, 1) := by decide +kernel
theorem d_M_keep_28 : decode b_M_keep 28 = .ok (.getfield 72, 3) := by decide +kernel
theorem d_M_keep_31 : decode b_M_keep 31 = .ok (.iload_n 1, 1) := by decide +kernel
theorem d_M_keep_32 : decode b_M_keep 32 = .ok (.dup2, 1) := by decide +kernel
theorem d_M_keep_33 : decode b_M_keep 33 = .ok (.iaload, 1) := by decide +kernel
theorem d_M_keep_34 : decode b_M_keep 34 = .ok (.iconst 1, 1) := by decide +kernel
theorem d_M_keep_35 : decode b_M_keep 35 = .ok (.iadd, 1) := by decide +kernel
theorem d_M_keep_36 : decode b_M_keep 36 = .ok (.iastore, 1) := by decide +kernel
theorem d_M_keep_37 : decode b_M_keep 37 = .ok (.return_, 1) := by decide +kernel
theorem d_M_begin_0 : decode b_M_begin 0 = .ok (.aload_n 0, 1) := by decide +kernel
theorem d_M_begin_1 : decode b_M_begin 1 = .ok (.getfield 57, 3) := by decide +kernel
theorem d_M_begin_4 : decode b_M_begin 4 = .ok (.iload_n 1, 1) := by decide +kernel
theorem d_M_begin_5 : decode b_M_begin 5 = .ok (.iaload, 1) := by decide +kernel
theorem d_M_begin_6 : decode b_M_begin 6 = .ok (.aload_n 0, 1) := by decide +kernel
theorem d_M_begin_7 : decode b_M_begin 7 = .ok (.getfield 60, 3) := by decide +kernel
theorem d_M_begin_10 : decode b_M_begin 10 = .ok (.iload_n 1, 1) := by decide +kernel
theorem d_M_begin_11 : decode b_M_begin 11 = .ok (.iaload, 1) := by decide +kernel
theorem d_M_begin_12 : decode b_M_begin 12 = .ok (.if_icmp .ne 14, 3) := by decide +kernel
theorem d_M_begin_15 : decode b_M_begin 15 = .ok (.aload_n 0, 1) := by decide +kernel
theorem d_M_begin_16 : decode b_M_begin 16 = .ok (.aload_n 0, 1) := by decide +kernel
theorem d_M_begin_17 : decode b_M_begin 17 = .ok (.getfield 57, 3) := by decide +kernel
theorem d_M_begin_20 : decode b_M_begin 20 = .ok (.iload_n 1, 1) := by decide +kernel
theorem d_M_begin_21 : decode b_M_begin 21 = .ok (.iaload, 1) := by decide +kernel
theorem d_M_begin_22 : decode b_M_begin 22 = .ok (.invokevirtual 193, 3) := by decide +kernel
theorem d_M_begin_25 : decode b_M_begin 25 = .ok (.return_, 1) := by decide +kernel
theorem d_M_begin_26 : decode b_M_begin 26 = .ok (.aload_n 0, 1) := by decide +kernel
theorem d_M_begin_27 : decode b_M_begin 27 = .ok (.getfield 57, 3) := by decide +kernel
theorem d_M_begin_30 : decode b_M_begin 30 = .ok (.iload_n 1, 1) := by decide +kernel
theorem d_M_begin_31 : decode b_M_begin 31 = .ok (.iaload, 1) := by decide +kernel
theorem d_M_begin_32 : decode b_M_begin 32 = .ok (.bipush 8, 2) := by decide +kernel
theorem d_M_begin_34 : decode b_M_begin 34 = .ok (.if_icmp .ge 15, 3) := by decide +kernel
theorem d_M_begin_37 : decode b_M_begin 37 = .ok (.aload_n 0, 1) := by decide +kernel
theorem d_M_begin_38 : decode b_M_begin 38 = .ok (.getfield 57, 3) := by decide +kernel
theorem d_M_begin_41 : decode b_M_begin 41 = .ok (.iload_n 1, 1) := by decide +kernel
theorem d_M_begin_42 : decode b_M_begin 42 = .ok (.iaload, 1) := by decide +kernel
theorem d_M_begin_43 : decode b_M_begin 43 = .ok (.bipush 8, 2) := by decide +kernel
theorem d_M_begin_45 : decode b_M_begin 45 = .ok (.iadd, 1) := by decide +kernel
theorem d_M_begin_46 : decode b_M_begin 46 = .ok (.goto 9, 3) := by decide +kernel
theorem d_M_begin_49 : decode b_M_begin 49 = .ok (.aload_n 0, 1) := by decide +kernel
theorem d_M_begin_50 : decode b_M_begin 50 = .ok (.getfield 57, 3) := by decide +kernel
theorem d_M_begin_53 : decode b_M_begin 53 = .ok (.iload_n 1, 1) := by decide +kernel
theorem d_M_begin_54 : decode b_M_begin 54 = .ok (.iaload, 1) := by decide +kernel
theorem d_M_begin_55 : decode b_M_begin 55 = .ok (.istore_n 2, 1) := by decide +kernel
theorem d_M_begin_56 : decode b_M_begin 56 = .ok (.aload_n 0, 1) := by decide +kernel
theorem d_M_begin_57 : decode b_M_begin 57 = .ok (.getfield 60, 3) := by decide +kernel
theorem d_M_begin_60 : decode b_M_begin 60 = .ok (.iload_n 1, 1) := by decide +kernel
theorem d_M_begin_61 : decode b_M_begin 61 = .ok (.iaload, 1) := by decide +kernel
theorem d_M_begin_62 : decode b_M_begin 62 = .ok (.bipush 8, 2) := by decide +kernel
theorem d_M_begin_64 : decode b_M_begin 64 = .ok (.if_icmp .ge 15, 3) := by decide +kernel
theorem d_M_begin_67 : decode b_M_begin 67 = .ok (.aload_n 0, 1) := by decide +kernel
theorem d_M_begin_68 : decode b_M_begin 68 = .ok (.getfield 60, 3) := by decide +kernel
theorem d_M_begin_71 : decode b_M_begin 71 = .ok (.iload_n 1, 1) := by decide +kernel
theorem d_M_begin_72 : decode b_M_begin 72 = .ok (.iaload, 1) := by decide +kernel
theorem d_M_begin_73 : decode b_M_begin 73 = .ok (.bipush 8, 2) := by decide +kernel
theorem d_M_begin_75 : decode b_M_begin 75 = .ok (.iadd, 1) := by decide +kernel
theorem d_M_begin_76 : decode b_M_begin 76 = .ok (.goto 9, 3) := by decide +kernel
theorem d_M_begin_79 : decode b_M_begin 79 = .ok (.aload_n 0, 1) := by decide +kernel
theorem d_M_begin_80 : decode b_M_begin 80 = .ok (.getfield 60, 3) := by decide +kernel
theorem d_M_begin_83 : decode b_M_begin 83 = .ok (.iload_n 1, 1) := by decide +kernel
theorem d_M_begin_84 : decode b_M_begin 84 = .ok (.iaload, 1) := by decide +kernel
theorem d_M_begin_85 : decode b_M_begin 85 = .ok (.istore_n 3, 1) := by decide +kernel
theorem d_M_begin_86 : decode b_M_begin 86 = .ok (.aload_n 0, 1) := by decide +kernel
theorem d_M_begin_87 : decode b_M_begin 87 = .ok (.getfield 57, 3) := by decide +kernel
theorem d_M_begin_90 : decode b_M_begin 90 = .ok (.iload_n 1, 1) := by decide +kernel
theorem d_M_begin_91 : decode b_M_begin 91 = .ok (.iload_n 2, 1) := by decide +kernel
theorem d_M_begin_92 : decode b_M_begin 92 = .ok (.iastore, 1) := by decide +kernel
theorem d_M_begin_93 : decode b_M_begin 93 = .ok (.aload_n 0, 1) := by decide +kernel
theorem d_M_begin_94 : decode b_M_begin 94 = .ok (.getfield 60, 3) := by decide +kernel
theorem d_M_begin_97 : decode b_M_begin 97 = .ok (.iload_n 1, 1) := by decide +kernel
theorem d_M_begin_98 : decode b_M_begin 98 = .ok (.iload_n 3, 1) := by decide +kernel
theorem d_M_begin_99 : decode b_M_begin 99 = .ok (.iastore, 1) := by decide +kernel
theorem d_M_begin_100 : decode b_M_begin 100 = .ok (.aload_n 0, 1) := by decide +kernel
theorem d_M_begin_101 : decode b_M_begin 101 = .ok (.getfield 29, 3) := by decide +kernel
theorem d_M_begin_104 : decode b_M_begin 104 = .ok (.iload_n 2, 1) := by decide +kernel
theorem d_M_begin_105 : decode b_M_begin 105 = .ok (.iaload, 1) := by decide +kernel
theorem d_M_begin_106 : decode b_M_begin 106 = .ok (.iconst 2, 1) := by decide +kernel
theorem d_M_begin_107 : decode b_M_begin 107 = .ok (.if_icmp .ne 67, 3) := by decide +kernel
theorem d_M_begin_110 : decode b_M_begin 110 = .ok (.aload_n 0, 1) := by decide +kernel
theorem d_M_begin_111 : decode b_M_begin 111 = .ok (.getfield 29, 3) := by decide +kernel
theorem d_M_begin_114 : decode b_M_begin 114 = .ok (.iload_n 3, 1) := by decide +kernel
theorem d_M_begin_115 : decode b_M_begin 115 = .ok (.iaload, 1) := by decide +kernel
theorem d_M_begin_116 : decode b_M_begin 116 = .ok (.iconst 2, 1) := by decide +kernel
theorem d_M_begin_117 : decode b_M_begin 117 = .ok (.if_icmp .ne 57, 3) := by decide +kernel
theorem d_M_begin_120 : decode b_M_begin 120 = .ok (.aload_n 0, 1) := by decide +kernel
theorem d_M_begin_121 : decode b_M_begin 121 = .ok (.getfield 38, 3) := by decide +kernel
theorem d_M_begin_124 : decode b_M_begin 124 = .ok (.iload_n 2, 1) := by decide +kernel
theorem d_M_begin_125 : decode b_M_begin 125 = .ok (.iaload, 1) := by decide +kernel
theorem d_M_begin_126 : decode b_M_begin 126 = .ok (.bipush 7, 2) := by decide +kernel
theorem d_M_begin_128 : decode b_M_begin 128 = .ok (.if_icmp .le 46, 3) := by decide +kernel
theorem d_M_begin_131 : decode b_M_begin 131 = .ok (.aload_n 0, 1) := by decide +kernel
theorem d_M_begin_132 : decode b_M_begin 132 = .ok (.getfield 38, 3) := by decide +kernel
theorem d_M_begin_135 : decode b_M_begin 135 = .ok (.iload_n 3, 1) := by decide +kernel
theorem d_M_begin_136 : decode b_M_begin 136 = .ok (.iaload, 1) := by decide +kernel
theorem d_M_begin_137 : decode b_M_begin 137 = .ok (.bipush 7, 2) := by decide +kernel
theorem d_M_begin_139 : decode b_M_begin 139 = .ok (.if_icmp .le 35, 3) := by decide +kernel
theorem d_M_begin_142 : decode b_M_begin 142 = .ok (.aload_n 0, 1) := by decide +kernel
theorem d_M_begin_143 : decode b_M_begin 143 = .ok (.getfield 66, 3) := by decide +kernel
theorem d_M_begin_146 : decode b_M_begin 146 = .ok (.iload_n 1, 1) := by decide +kernel
theorem d_M_begin_147 : decode b_M_begin 147 = .ok (.iconst 1, 1) := by decide +kernel
theorem d_M_begin_148 : decode b_M_begin 148 = .ok (.iastore, 1) := by decide +kernel
theorem d_M_begin_149 : decode b_M_begin 149 = .ok (.aload_n 0, 1) := by decide +kernel
theorem d_M_begin_150 : decode b_M_begin 150 = .ok (.aload_n 0, 1) := by decide +kernel
theorem d_M_begin_151 : decode b_M_begin 151 = .ok (.getfield 38, 3) := by decide +kernel
theorem d_M_begin_154 : decode b_M_begin 154 = .ok (.iload_n 2, 1) := by decide +kernel
theorem d_M_begin_155 : decode b_M_begin 155 = .ok (.iaload, 1) := by decide +kernel
theorem d_M_begin_156 : decode b_M_begin 156 = .ok (.aload_n 0, 1) := by decide +kernel
theorem d_M_begin_157 : decode b_M_begin 157 = .ok (.getfield 38, 3) := by decide +kernel
theorem d_M_begin_160 : decode b_M_begin 160 = .ok (.iload_n 3, 1) := by decide +kernel
theorem d_M_begin_161 : decode b_M_begin 161 = .ok (.iaload, 1) := by decide +kernel
theorem d_M_begin_162 : decode b_M_begin 162 = .ok (.aload_n 0, 1) := by decide +kernel
theorem d_M_begin_163 : decode b_M_begin 163 = .ok (.getfield 63, 3) := by decide +kernel
theorem d_M_begin_166 : decode b_M_begin 166 = .ok (.iload_n 1, 1) := by decide +kernel
theorem d_M_begin_167 : decode b_M_begin 167 = .ok (.iaload, 1) := by decide +kernel
theorem d_M_begin_168 : decode b_M_begin 168 = .ok (.invokevirtual 196, 3) := by decide +kernel
theorem d_M_begin_171 : decode b_M_begin 171 = .ok (.goto 26, 3) := by decide +kernel
theorem d_M_begin_174 : decode b_M_begin 174 = .ok (.aload_n 0, 1) := by decide +kernel
theorem d_M_begin_175 : decode b_M_begin 175 = .ok (.getfield 69, 3) := by decide +kernel
theorem d_M_begin_178 : decode b_M_begin 178 = .ok (.iload_n 1, 1) := by decide +kernel
theorem d_M_begin_179 : decode b_M_begin 179 = .ok (.aload_n 0, 1) := by decide +kernel
theorem d_M_begin_180 : decode b_M_begin 180 = .ok (.aload_n 0, 1) := by decide +kernel
theorem d_M_begin_181 : decode b_M_begin 181 = .ok (.iload_n 2, 1) := by decide +kernel
theorem d_M_begin_182 : decode b_M_begin 182 = .ok (.iload_n 3, 1) := by decide +kernel
theorem d_M_begin_183 : decode b_M_begin 183 = .ok (.invokevirtual 180, 3) := by decide +kernel
theorem d_M_begin_186 : decode b_M_begin 186 = .ok (.invokevirtual 184, 3) := by decide +kernel
theorem d_M_begin_189 : decode b_M_begin 189 = .ok (.iastore, 1) := by decide +kernel
theorem d_M_begin_190 : decode b_M_begin 190 = .ok (.aload_n 0, 1) := by decide +kernel
theorem d_M_begin_191 : decode b_M_begin 191 = .ok (.getfield 66, 3) := by decide +kernel
theorem d_M_begin_194 : decode b_M_begin 194 = .ok (.iload_n 1, 1) := by decide +kernel
theorem d_M_begin_195 : decode b_M_begin 195 = .ok (.iconst 2, 1) := by decide +kernel
theorem d_M_begin_196 : decode b_M_begin 196 = .ok (.iastore, 1) := by decide +kernel
theorem d_M_begin_197 : decode b_M_begin 197 = .ok (.return_, 1) := by decide +kernel
theorem d_M_goOn_0 : decode b_M_goOn 0 = .ok (.aload_n 0, 1) := by decide +kernel
theorem d_M_goOn_1 : decode b_M_goOn 1 = .ok (.getfield 72, 3) := by decide +kernel
theorem d_M_goOn_4 : decode b_M_goOn 4 = .ok (.iload_n 1, 1) := by decide +kernel
theorem d_M_goOn_5 : decode b_M_goOn 5 = .ok (.iaload, 1) := by decide +kernel
theorem d_M_goOn_6 : decode b_M_goOn 6 = .ok (.aload_n 0, 1) := by decide +kernel
theorem d_M_goOn_7 : decode b_M_goOn 7 = .ok (.getfield 89, 3) := by decide +kernel
theorem d_M_goOn_10 : decode b_M_goOn 10 = .ok (.if_icmp .ge 34, 3) := by decide +kernel
theorem d_M_goOn_13 : decode b_M_goOn 13 = .ok (.aload_n 0, 1) := by decide +kernel
theorem d_M_goOn_14 : decode b_M_goOn 14 = .ok (.getfield 69, 3) := by decide +kernel
theorem d_M_goOn_17 : decode b_M_goOn 17 = .ok (.iload_n 1, 1) := by decide +kernel
theorem d_M_goOn_18 : decode b_M_goOn 18 = .ok (.iaload, 1) := by decide +kernel
theorem d_M_goOn_19 : decode b_M_goOn 19 = .ok (.aload_n 0, 1) := by decide +kernel
theorem d_M_goOn_20 : decode b_M_goOn 20 = .ok (.getfield 72, 3) := by decide +kernel
theorem d_M_goOn_23 : decode b_M_goOn 23 = .ok (.iload_n 1, 1) := by decide +kernel
theorem d_M_goOn_24 : decode b_M_goOn 24 = .ok (.iaload, 1) := by decide +kernel
theorem d_M_goOn_25 : decode b_M_goOn 25 = .ok (.ishr, 1) := by decide +kernel
theorem d_M_goOn_26 : decode b_M_goOn 26 = .ok (.iconst 1, 1) := by decide +kernel
theorem d_M_goOn_27 : decode b_M_goOn 27 = .ok (.iand, 1) := by decide +kernel
theorem d_M_goOn_28 : decode b_M_goOn 28 = .ok (.ifCond .ne 16, 3) := by decide +kernel
theorem d_M_goOn_31 : decode b_M_goOn 31 = .ok (.aload_n 0, 1) := by decide +kernel
theorem d_M_goOn_32 : decode b_M_goOn 32 = .ok (.getfield 72, 3) := by decide +kernel
theorem d_M_goOn_35 : decode b_M_goOn 35 = .ok (.iload_n 1, 1) := by decide +kernel
theorem d_M_goOn_36 : decode b_M_goOn 36 = .ok (.dup2, 1) := by decide +kernel
theorem d_M_goOn_37 : decode b_M_goOn 37 = .ok (.iaload, 1) := by decide +kernel
theorem d_M_goOn_38 : decode b_M_goOn 38 = .ok (.iconst 1, 1) := by decide +kernel
theorem d_M_goOn_39 : decode b_M_goOn 39 = .ok (.iadd, 1) := by decide +kernel
theorem d_M_goOn_40 : decode b_M_goOn 40 = .ok (.iastore, 1) := by decide +kernel
theorem d_M_goOn_41 : decode b_M_goOn 41 = .ok (.goto (-41), 3) := by decide +kernel
theorem d_M_goOn_44 : decode b_M_goOn 44 = .ok (.aload_n 0, 1) := by decide +kernel
theorem d_M_goOn_45 : decode b_M_goOn 45 = .ok (.getfield 72, 3) := by decide +kernel
theorem d_M_goOn_48 : decode b_M_goOn 48 = .ok (.iload_n 1, 1) := by decide +kernel
theorem d_M_goOn_49 : decode b_M_goOn 49 = .ok (.iaload, 1) := by decide +kernel
theorem d_M_goOn_50 : decode b_M_goOn 50 = .ok (.aload_n 0, 1) := by decide +kernel
theorem d_M_goOn_51 : decode b_M_goOn 51 = .ok (.getfield 89, 3) := by decide +kernel
theorem d_M_goOn_54 : decode b_M_goOn 54 = .ok (.if_icmp .ne 83, 3) := by decide +kernel
theorem d_M_goOn_57 : decode b_M_goOn 57 = .ok (.iconst 0, 1) := by decide +kernel
theorem d_M_goOn_58 : decode b_M_goOn 58 = .ok (.istore_n 2, 1) := by decide +kernel
theorem d_M_goOn_59 : decode b_M_goOn 59 = .ok (.iload_n 2, 1) := by decide +kernel
theorem d_M_goOn_60 : decode b_M_goOn 60 = .ok (.aload_n 0, 1) := by decide +kernel
theorem d_M_goOn_61 : decode b_M_goOn 61 = .ok (.getfield 75, 3) := by decide +kernel
theorem d_M_goOn_64 : decode b_M_goOn 64 = .ok (.iload_n 1, 1) := by decide +kernel
theorem d_M_goOn_65 : decode b_M_goOn 65 = .ok (.iaload, 1) := by decide +kernel
theorem d_M_goOn_66 : decode b_M_goOn 66 = .ok (.if_icmp .ge 26, 3) := by decide +kernel
theorem d_M_goOn_69 : decode b_M_goOn 69 = .ok (.aload_n 0, 1) := by decide +kernel
theorem d_M_goOn_70 : decode b_M_goOn 70 = .ok (.getfield 50, 3) := by decide +kernel
theorem d_M_goOn_73 : decode b_M_goOn 73 = .ok (.iload_n 2, 1) := by decide +kernel
theorem d_M_goOn_74 : decode b_M_goOn 74 = .ok (.aload_n 0, 1) := by decide +kernel
theorem d_M_goOn_75 : decode b_M_goOn 75 = .ok (.getfield 78, 3) := by decide +kernel
theorem d_M_goOn_78 : decode b_M_goOn 78 = .ok (.bipush 30, 2) := by decide +kernel
theorem d_M_goOn_80 : decode b_M_goOn 80 = .ok (.iload_n 1, 1) := by decide +kernel
theorem d_M_goOn_81 : decode b_M_goOn 81 = .ok (.imul, 1) := by decide +kernel
theorem d_M_goOn_82 : decode b_M_goOn 82 = .ok (.iload_n 2, 1) := by decide +kernel
theorem d_M_goOn_83 : decode b_M_goOn 83 = .ok (.iadd, 1) := by decide +kernel
theorem d_M_goOn_84 : decode b_M_goOn 84 = .ok (.iaload, 1) := by decide +kernel
theorem d_M_goOn_85 : decode b_M_goOn 85 = .ok (.iastore, 1) := by decide +kernel
theorem d_M_goOn_86 : decode b_M_goOn 86 = .ok (.iinc 2 1, 3) := by decide +kernel
theorem d_M_goOn_89 : decode b_M_goOn 89 = .ok (.goto (-30), 3) := by decide +kernel
theorem d_M_goOn_92 : decode b_M_goOn 92 = .ok (.aload_n 0, 1) := by decide +kernel
theorem d_M_goOn_93 : decode b_M_goOn 93 = .ok (.aload_n 0, 1) := by decide +kernel
theorem d_M_goOn_94 : decode b_M_goOn 94 = .ok (.getfield 75, 3) := by decide +kernel
theorem d_M_goOn_97 : decode b_M_goOn 97 = .ok (.iload_n 1, 1) := by decide +kernel
theorem d_M_goOn_98 : decode b_M_goOn 98 = .ok (.iaload, 1) := by decide +kernel
theorem d_M_goOn_99 : decode b_M_goOn 99 = .ok (.iconst 1, 1) := by decide +kernel
theorem d_M_goOn_100 : decode b_M_goOn 100 = .ok (.if_icmp .ne 12, 3) := by decide +kernel
theorem d_M_goOn_103 : decode b_M_goOn 103 = .ok (.aload_n 0, 1) := by decide +kernel
theorem d_M_goOn_104 : decode b_M_goOn 104 = .ok (.getfield 50, 3) := by decide +kernel
theorem d_M_goOn_107 : decode b_M_goOn 107 = .ok (.iconst 0, 1) := by decide +kernel
theorem d_M_goOn_108 : decode b_M_goOn 108 = .ok (.iaload, 1) := by decide +kernel
theorem d_M_goOn_109 : decode b_M_goOn 109 = .ok (.goto 24, 3) := by decide +kernel
theorem d_M_goOn_112 : decode b_M_goOn 112 = .ok (.aload_n 0, 1) := by decide +kernel
theorem d_M_goOn_113 : decode b_M_goOn 113 = .ok (.getfield 123, 3) := by decide +kernel
theorem d_M_goOn_116 : decode b_M_goOn 116 = .ok (.ifCond .eq 7, 3) := by decide +kernel
theorem d_M_goOn_119 : decode b_M_goOn 119 = .ok (.iconst 0, 1) := by decide +kernel
theorem d_M_goOn_120 : decode b_M_goOn 120 = .ok (.goto 13, 3) := by decide +kernel
theorem d_M_goOn_123 : decode b_M_goOn 123 = .ok (.aload_n 0, 1) := by decide +kernel
theorem d_M_goOn_124 : decode b_M_goOn 124 = .ok (.aload_n 0, 1) := by decide +kernel
theorem d_M_goOn_125 : decode b_M_goOn 125 = .ok (.getfield 75, 3) := by decide +kernel
theorem d_M_goOn_128 : decode b_M_goOn 128 = .ok (.iload_n 1, 1) := by decide +kernel
theorem d_M_goOn_129 : decode b_M_goOn 129 = .ok (.iaload, 1) := by decide +kernel
theorem d_M_goOn_130 : decode b_M_goOn 130 = .ok (.invokevirtual 199, 3) := by decide +kernel
theorem d_M_goOn_133 : decode b_M_goOn 133 = .ok (.invokevirtual 193, 3) := by decide +kernel
theorem d_M_goOn_136 : decode b_M_goOn 136 = .ok (.return_, 1) := by decide +kernel
theorem d_M_goOn_137 : decode b_M_goOn 137 = .ok (.aload_n 0, 1) := by decide +kernel
theorem d_M_goOn_138 : decode b_M_goOn 138 = .ok (.getfield 72, 3) := by decide +kernel
theorem d_M_goOn_141 : decode b_M_goOn 141 = .ok (.iload_n 1, 1) := by decide +kernel
theorem d_M_goOn_142 : decode b_M_goOn 142 = .ok (.iaload, 1) := by decide +kernel
theorem d_M_goOn_143 : decode b_M_goOn 143 = .ok (.istore_n 2, 1) := by decide +kernel
theorem d_M_goOn_144 : decode b_M_goOn 144 = .ok (.aload_n 0, 1) := by decide +kernel
theorem d_M_goOn_145 : decode b_M_goOn 145 = .ok (.getfield 13, 3) := by decide +kernel
theorem d_M_goOn_148 : decode b_M_goOn 148 = .ok (.iload_n 2, 1) := by decide +kernel
theorem d_M_goOn_149 : decode b_M_goOn 149 = .ok (.baload, 1) := by decide +kernel
theorem d_M_goOn_150 : decode b_M_goOn 150 = .ok (.ifCond .ne 16, 3) := by decide +kernel
theorem d_M_goOn_153 : decode b_M_goOn 153 = .ok (.aload_n 0, 1) := by decide +kernel
theorem d_M_goOn_154 : decode b_M_goOn 154 = .ok (.iload_n 1, 1) := by decide +kernel
theorem d_M_goOn_155 : decode b_M_goOn 155 = .ok (.aload_n 0, 1) := by decide +kernel
theorem d_M_goOn_156 : decode b_M_goOn 156 = .ok (.iload_n 2, 1) := by decide +kernel
theorem d_M_goOn_157 : decode b_M_goOn 157 = .ok (.iconst 0, 1) := by decide +kernel
theorem d_M_goOn_158 : decode b_M_goOn 158 = .ok (.iconst (-1), 1) := by decide +kernel
theorem d_M_goOn_159 : decode b_M_goOn 159 = .ok (.invokevirtual 167, 3) := by decide +kernel
theorem d_M_goOn_162 : decode b_M_goOn 162 = .ok (.invokevirtual 202, 3) := by decide +kernel
theorem d_M_goOn_165 : decode b_M_goOn 165 = .ok (.return_, 1) := by decide +kernel
theorem d_M_goOn_166 : decode b_M_goOn 166 = .ok (.aload_n 0, 1) := by decide +kernel
theorem d_M_goOn_167 : decode b_M_goOn 167 = .ok (.aload_n 0, 1) := by decide +kernel
theorem d_M_goOn_168 : decode b_M_goOn 168 = .ok (.getfield 57, 3) := by decide +kernel
theorem d_M_goOn_171 : decode b_M_goOn 171 = .ok (.iload_n 1, 1) := by decide +kernel
theorem d_M_goOn_172 : decode b_M_goOn 172 = .ok (.iaload, 1) := by decide +kernel
theorem d_M_goOn_173 : decode b_M_goOn 173 = .ok (.iload_n 2, 1) := by decide +kernel
theorem d_M_goOn_174 : decode b_M_goOn 174 = .ok (.invokevirtual 142, 3) := by decide +kernel
theorem d_M_goOn_177 : decode b_M_goOn 177 = .ok (.aload_n 0, 1) := by decide +kernel
theorem d_M_goOn_178 : decode b_M_goOn 178 = .ok (.getfield 113, 3) := by decide +kernel
theorem d_M_goOn_181 : decode b_M_goOn 181 = .ok (.istore_n 3, 1) := by decide +kernel
theorem d_M_goOn_182 : decode b_M_goOn 182 = .ok (.aload_n 0, 1) := by decide +kernel
theorem d_M_goOn_183 : decode b_M_goOn 183 = .ok (.getfield 116, 3) := by decide +kernel
theorem d_M_goOn_186 : decode b_M_goOn 186 = .ok (.istore 4, 2) := by decide +kernel
theorem d_M_goOn_188 : decode b_M_goOn 188 = .ok (.aload_n 0, 1) := by decide +kernel
theorem d_M_goOn_189 : decode b_M_goOn 189 = .ok (.aload_n 0, 1) := by decide +kernel
theorem d_M_goOn_190 : decode b_M_goOn 190 = .ok (.getfield 60, 3) := by decide +kernel
theorem d_M_goOn_193 : decode b_M_goOn 193 = .ok (.iload_n 1, 1) := by decide +kernel
theorem d_M_goOn_194 : decode b_M_goOn 194 = .ok (.iaload, 1) := by decide +kernel
theorem d_M_goOn_195 : decode b_M_goOn 195 = .ok (.iload_n 2, 1) := by decide +kernel
theorem d_M_goOn_196 : decode b_M_goOn 196 = .ok (.invokevirtual 142, 3) := by decide +kernel
theorem d_M_goOn_199 : decode b_M_goOn 199 = .ok (.iload_n 3, 1) := by decide +kernel
theorem d_M_goOn_200 : decode b_M_goOn 200 = .ok (.iconst 1, 1) := by decide +kernel
theorem d_M_goOn_201 : decode b_M_goOn 201 = .ok (.if_icmp .ne 36, 3) := by decide +kernel
theorem d_M_goOn_204 : decode b_M_goOn 204 = .ok (.aload_n 0, 1) := by decide +kernel
theorem d_M_goOn_205 : decode b_M_goOn 205 = .ok (.getfield 113, 3) := by decide +kernel
theorem d_M_goOn_208 : decode b_M_goOn 208 = .ok (.iconst 1, 1) := by decide +kernel
theorem d_M_goOn_209 : decode b_M_goOn 209 = .ok (.if_icmp .ne 28, 3) := by decide +kernel
theorem d_M_goOn_212 : decode b_M_goOn 212 = .ok (.iload 4, 2) := by decide +kernel
theorem d_M_goOn_214 : decode b_M_goOn 214 = .ok (.aload_n 0, 1) := by decide +kernel
theorem d_M_goOn_215 : decode b_M_goOn 215 = .ok (.getfield 116, 3) := by decide +kernel
theorem d_M_goOn_218 : decode b_M_goOn 218 = .ok (.if_icmp .ne 19, 3) := by decide +kernel
theorem d_M_goOn_221 : decode b_M_goOn 221 = .ok (.aload_n 0, 1) := by decide +kernel
theorem d_M_goOn_222 : decode b_M_goOn 222 = .ok (.iload_n 1, 1) := by decide +kernel
theorem d_M_goOn_223 : decode b_M_goOn 223 = .ok (.aload_n 0, 1) := by decide +kernel
theorem d_M_goOn_224 : decode b_M_goOn 224 = .ok (.iload_n 2, 1) := by decide +kernel
theorem d_M_goOn_225 : decode b_M_goOn 225 = .ok (.iconst 1, 1) := by decide +kernel
theorem d_M_goOn_226 : decode b_M_goOn 226 = .ok (.iload 4, 2) := by decide +kernel
theorem d_M_goOn_228 : decode b_M_goOn 228 = .ok (.invokevirtual 167, 3) := by decide +kernel
theorem d_M_goOn_231 : decode b_M_goOn 231 = .ok (.invokevirtual 202, 3) := by decide +kernel
theorem d_M_goOn_234 : decode b_M_goOn 234 = .ok (.goto 62, 3) := by decide +kernel
theorem d_M_goOn_237 : decode b_M_goOn 237 = .ok (.aload_n 0, 1) := by decide +kernel
theorem d_M_goOn_238 : decode b_M_goOn 238 = .ok (.getfield 63, 3) := by decide +kernel
theorem d_M_goOn_241 : decode b_M_goOn 241 = .ok (.iload_n 1, 1) := by decide +kernel
theorem d_M_goOn_242 : decode b_M_goOn 242 = .ok (.iaload, 1) := by decide +kernel
theorem d_M_goOn_243 : decode b_M_goOn 243 = .ok (.ifCond .ne 28, 3) := by decide +kernel
theorem d_M_goOn_246 : decode b_M_goOn 246 = .ok (.aload_n 0, 1) := by decide +kernel
theorem d_M_goOn_247 : decode b_M_goOn 247 = .ok (.iconst 0, 1) := by decide +kernel
theorem d_M_goOn_248 : decode b_M_goOn 248 = .ok (.iconst 0, 1) := by decide +kernel
theorem d_M_goOn_249 : decode b_M_goOn 249 = .ok (.iconst (-1), 1) := by decide +kernel
theorem d_M_goOn_250 : decode b_M_goOn 250 = .ok (.invokevirtual 167, 3) := by decide +kernel
theorem d_M_goOn_253 : decode b_M_goOn 253 = .ok (.istore 5, 2) := by decide +kernel
theorem d_M_goOn_255 : decode b_M_goOn 255 = .ok (.aload_n 0, 1) := by decide +kernel
theorem d_M_goOn_256 : decode b_M_goOn 256 = .ok (.iload_n 1, 1) := by decide +kernel
theorem d_M_goOn_257 : decode b_M_goOn 257 = .ok (.aload_n 0, 1) := by decide +kernel
theorem d_M_goOn_258 : decode b_M_goOn 258 = .ok (.iload_n 2, 1) := by decide +kernel
theorem d_M_goOn_259 : decode b_M_goOn 259 = .ok (.iconst 2, 1) := by decide +kernel
theorem d_M_goOn_260 : decode b_M_goOn 260 = .ok (.iload 5, 2) := by decide +kernel
theorem d_M_goOn_262 : decode b_M_goOn 262 = .ok (.invokevirtual 167, 3) := by decide +kernel
theorem d_M_goOn_265 : decode b_M_goOn 265 = .ok (.invokevirtual 202, 3) := by decide +kernel
theorem d_M_goOn_268 : decode b_M_goOn 268 = .ok (.goto 28, 3) := by decide +kernel
theorem d_M_goOn_271 : decode b_M_goOn 271 = .ok (.aload_n 0, 1) := by decide +kernel
theorem d_M_goOn_272 : decode b_M_goOn 272 = .ok (.getfield 66, 3) := by decide +kernel
theorem d_M_goOn_275 : decode b_M_goOn 275 = .ok (.iload_n 1, 1) := by decide +kernel
theorem d_M_goOn_276 : decode b_M_goOn 276 = .ok (.iconst 3, 1) := by decide +kernel
theorem d_M_goOn_277 : decode b_M_goOn 277 = .ok (.iastore, 1) := by decide +kernel
theorem d_M_goOn_278 : decode b_M_goOn 278 = .ok (.aload_n 0, 1) := by decide +kernel
theorem d_M_goOn_279 : decode b_M_goOn 279 = .ok (.iload 4, 2) := by decide +kernel
theorem d_M_goOn_281 : decode b_M_goOn 281 = .ok (.aload_n 0, 1) := by decide +kernel
theorem d_M_goOn_282 : decode b_M_goOn 282 = .ok (.getfield 116, 3) := by decide +kernel
theorem d_M_goOn_285 : decode b_M_goOn 285 = .ok (.aload_n 0, 1) := by decide +kernel
theorem d_M_goOn_286 : decode b_M_goOn 286 = .ok (.getfield 63, 3) := by decide +kernel
theorem d_M_goOn_289 : decode b_M_goOn 289 = .ok (.iload_n 1, 1) := by decide +kernel
theorem d_M_goOn_290 : decode b_M_goOn 290 = .ok (.iaload, 1) := by decide +kernel
theorem d_M_goOn_291 : decode b_M_goOn 291 = .ok (.iconst 1, 1) := by decide +kernel
theorem d_M_goOn_292 : decode b_M_goOn 292 = .ok (.isub, 1) := by decide +kernel
theorem d_M_goOn_293 : decode b_M_goOn 293 = .ok (.invokevirtual 196, 3) := by decide +kernel
theorem d_M_goOn_296 : decode b_M_goOn 296 = .ok (.return_, 1) := by decide +kernel
theorem d_M_upper_0 : decode b_M_upper 0 = .ok (.aload_n 0, 1) := by decide +kernel
theorem d_M_upper_1 : decode b_M_upper 1 = .ok (.aload_n 0, 1) := by decide +kernel
theorem d_M_upper_2 : decode b_M_upper 2 = .ok (.iload_n 1, 1) := by decide +kernel
theorem d_M_upper_3 : decode b_M_upper 3 = .ok (.invokevirtual 164, 3) := by decide +kernel
theorem d_M_upper_6 : decode b_M_upper 6 = .ok (.ifCond .eq 15, 3) := by decide +kernel
theorem d_M_upper_9 : decode b_M_upper 9 = .ok (.aload_n 0, 1) := by decide +kernel
theorem d_M_upper_10 : decode b_M_upper 10 = .ok (.iload_n 2, 1) := by decide +kernel
theorem d_M_upper_11 : decode b_M_upper 11 = .ok (.invokevirtual 164, 3) := by decide +kernel
theorem d_M_upper_14 : decode b_M_upper 14 = .ok (.ifCond .eq 7, 3) := by decide +kernel
theorem d_M_upper_17 : decode b_M_upper 17 = .ok (.iconst 0, 1) := by decide +kernel
theorem d_M_upper_18 : decode b_M_upper 18 = .ok (.goto 4, 3) := by decide +kernel
theorem d_M_upper_21 : decode b_M_upper 21 = .ok (.iconst 1, 1) := by decide +kernel
theorem d_M_upper_22 : decode b_M_upper 22 = .ok (.invokevirtual 146, 3) := by decide +kernel
theorem d_M_upper_25 : decode b_M_upper 25 = .ok (.ifCond .ne 5, 3) := by decide +kernel
theorem d_M_upper_28 : decode b_M_upper 28 = .ok (.iconst 0, 1) := by decide +kernel
theorem d_M_upper_29 : decode b_M_upper 29 = .ok (.ireturn, 1) := by decide +kernel
theorem d_M_upper_30 : decode b_M_upper 30 = .ok (.aload_n 0, 1) := by decide +kernel
theorem d_M_upper_31 : decode b_M_upper 31 = .ok (.getfield 99, 3) := by decide +kernel
theorem d_M_upper_34 : decode b_M_upper 34 = .ok (.istore_n 3, 1) := by decide +kernel
theorem d_M_upper_35 : decode b_M_upper 35 = .ok (.aload_n 0, 1) := by decide +kernel
theorem d_M_upper_36 : decode b_M_upper 36 = .ok (.iconst 0, 1) := by decide +kernel
theorem d_M_upper_37 : decode b_M_upper 37 = .ok (.putfield 187, 3) := by decide +kernel
theorem d_M_upper_40 : decode b_M_upper 40 = .ok (.aload_n 0, 1) := by decide +kernel
theorem d_M_upper_41 : decode b_M_upper 41 = .ok (.iload_n 1, 1) := by decide +kernel
theorem d_M_upper_42 : decode b_M_upper 42 = .ok (.iload_n 2, 1) := by decide +kernel
theorem d_M_upper_43 : decode b_M_upper 43 = .ok (.aload_n 0, 1) := by decide +kernel
theorem d_M_upper_44 : decode b_M_upper 44 = .ok (.getfield 81, 3) := by decide +kernel
theorem d_M_upper_47 : decode b_M_upper 47 = .ok (.invokevirtual 196, 3) := by decide +kernel
theorem d_M_upper_50 : decode b_M_upper 50 = .ok (.aload_n 0, 1) := by decide +kernel
theorem d_M_upper_51 : decode b_M_upper 51 = .ok (.getfield 187, 3) := by decide +kernel
theorem d_M_upper_54 : decode b_M_upper 54 = .ok (.ifCond .le 116, 3) := by decide +kernel
theorem d_M_upper_57 : decode b_M_upper 57 = .ok (.aload_n 0, 1) := by decide +kernel
theorem d_M_upper_58 : decode b_M_upper 58 = .ok (.getfield 123, 3) := by decide +kernel
theorem d_M_upper_61 : decode b_M_upper 61 = .ok (.ifCond .ne 109, 3) := by decide +kernel
theorem d_M_upper_64 : decode b_M_upper 64 = .ok (.aload_n 0, 1) := by decide +kernel
theorem d_M_upper_65 : decode b_M_upper 65 = .ok (.getfield 187, 3) := by decide +kernel
theorem d_M_upper_68 : decode b_M_upper 68 = .ok (.iconst 1, 1) := by decide +kernel
theorem d_M_upper_69 : decode b_M_upper 69 = .ok (.isub, 1) := by decide +kernel
theorem d_M_upper_70 : decode b_M_upper 70 = .ok (.istore 4, 2) := by decide +kernel
theorem d_M_upper_72 : decode b_M_upper 72 = .ok (.aload_n 0, 1) := by decide +kernel
theorem d_M_upper_73 : decode b_M_upper 73 = .ok (.getfield 66, 3) := by decide +kernel
theorem d_M_upper_76 : decode b_M_upper 76 = .ok (.iload 4, 2) := by decide +kernel
theorem d_M_upper_78 : decode b_M_upper 78 = .ok (.iaload, 1) := by decide +kernel
theorem d_M_upper_79 : decode b_M_upper 79 = .ok (.tableswitch 58 0 2 #[25, 34, 49], 25) := by decide +kernel
theorem d_M_upper_104 : decode b_M_upper 104 = .ok (.aload_n 0, 1) := by decide +kernel
theorem d_M_upper_105 : decode b_M_upper 105 = .ok (.iload 4, 2) := by decide +kernel
theorem d_M_upper_107 : decode b_M_upper 107 = .ok (.invokevirtual 205, 3) := by decide +kernel
theorem d_M_upper_110 : decode b_M_upper 110 = .ok (.goto 57, 3) := by decide +kernel
theorem d_M_upper_113 : decode b_M_upper 113 = .ok (.aload_n 0, 1) := by decide +kernel
theorem d_M_upper_114 : decode b_M_upper 114 = .ok (.aload_n 0, 1) := by decide +kernel
theorem d_M_upper_115 : decode b_M_upper 115 = .ok (.aload_n 0, 1) := by decide +kernel
theorem d_M_upper_116 : decode b_M_upper 116 = .ok (.getfield 190, 3) := by decide +kernel
theorem d_M_upper_119 : decode b_M_upper 119 = .ok (.invokevirtual 174, 3) := by decide +kernel
theorem d_M_upper_122 : decode b_M_upper 122 = .ok (.invokevirtual 193, 3) := by decide +kernel
theorem d_M_upper_125 : decode b_M_upper 125 = .ok (.goto 42, 3) := by decide +kernel
theorem d_M_upper_128 : decode b_M_upper 128 = .ok (.aload_n 0, 1) := by decide +kernel
theorem d_M_upper_129 : decode b_M_upper 129 = .ok (.iload 4, 2) := by decide +kernel
theorem d_M_upper_131 : decode b_M_upper 131 = .ok (.invokevirtual 208, 3) := by decide +kernel
theorem d_M_upper_134 : decode b_M_upper 134 = .ok (.goto 33, 3) := by decide +kernel
theorem d_M_upper_137 : decode b_M_upper 137 = .ok (.aload_n 0, 1) := by decide +kernel
theorem d_M_upper_138 : decode b_M_upper 138 = .ok (.getfield 66, 3) := by decide +kernel
theorem d_M_upper_141 : decode b_M_upper 141 = .ok (.iload 4, 2) := by decide +kernel
theorem d_M_upper_143 : decode b_M_upper 143 = .ok (.iconst 2, 1) := by decide +kernel
theorem d_M_upper_144 : decode b_M_upper 144 = .ok (.iastore, 1) := by decide +kernel
theorem d_M_upper_145 : decode b_M_upper 145 = .ok (.aload_n 0, 1) := by decide +kernel
theorem d_M_upper_146 : decode b_M_upper 146 = .ok (.iload 4, 2) := by decide +kernel
theorem d_M_upper_148 : decode b_M_upper 148 = .ok (.aload_n 0, 1) := by decide +kernel
theorem d_M_upper_149 : decode b_M_upper 149 = .ok (.aload_n 0, 1) := by decide +kernel
theorem d_M_upper_150 : decode b_M_upper 150 = .ok (.getfield 72, 3) := by decide +kernel
theorem d_M_upper_153 : decode b_M_upper 153 = .ok (.iload 4, 2) := by decide +kernel
theorem d_M_upper_155 : decode b_M_upper 155 = .ok (.iaload, 1) := by decide +kernel
theorem d_M_upper_156 : decode b_M_upper 156 = .ok (.iconst 2, 1) := by decide +kernel
theorem d_M_upper_157 : decode b_M_upper 157 = .ok (.aload_n 0, 1) := by decide +kernel
theorem d_M_upper_158 : decode b_M_upper 158 = .ok (.getfield 190, 3) := by decide +kernel
theorem d_M_upper_161 : decode b_M_upper 161 = .ok (.invokevirtual 167, 3) := by decide +kernel
theorem d_M_upper_164 : decode b_M_upper 164 = .ok (.invokevirtual 202, 3) := by decide +kernel
theorem d_M_upper_167 : decode b_M_upper 167 = .ok (.goto (-117), 3) := by decide +kernel
theorem d_M_upper_170 : decode b_M_upper 170 = .ok (.aload_n 0, 1) := by decide +kernel
theorem d_M_upper_171 : decode b_M_upper 171 = .ok (.iload_n 3, 1) := by decide +kernel
theorem d_M_upper_172 : decode b_M_upper 172 = .ok (.aload_n 0, 1) := by decide +kernel
theorem d_M_upper_173 : decode b_M_upper 173 = .ok (.getfield 190, 3) := by decide +kernel
theorem d_M_upper_176 : decode b_M_upper 176 = .ok (.iconst 2, 1) := by decide +kernel
theorem d_M_upper_177 : decode b_M_upper 177 = .ok (.invokevirtual 171, 3) := by decide +kernel
theorem d_M_upper_180 : decode b_M_upper 180 = .ok (.ireturn, 1) := by decide +kernel
theorem d_M_partOf_0 : decode b_M_partOf 0 = .ok (.iload_n 3, 1) := by decide +kernel
theorem d_M_partOf_1 : decode b_M_partOf 1 = .ok (.aload_n 0, 1) := by decide +kernel
theorem d_M_partOf_2 : decode b_M_partOf 2 = .ok (.getfield 44, 3) := by decide +kernel
theorem d_M_partOf_5 : decode b_M_partOf 5 = .ok (.iload_n 1, 1) := by decide +kernel
theorem d_M_partOf_6 : decode b_M_partOf 6 = .ok (.iaload, 1) := by decide +kernel
theorem d_M_partOf_7 : decode b_M_partOf 7 = .ok (.if_icmp .ge 17, 3) := by decide +kernel
theorem d_M_partOf_10 : decode b_M_partOf 10 = .ok (.aload_n 0, 1) := by decide +kernel
theorem d_M_partOf_11 : decode b_M_partOf 11 = .ok (.getfield 47, 3) := by decide +kernel
theorem d_M_partOf_14 : decode b_M_partOf 14 = .ok (.bipush 30, 2) := by decide +kernel
theorem d_M_partOf_16 : decode b_M_partOf 16 = .ok (.iload_n 1, 1) := by decide +kernel
theorem d_M_partOf_17 : decode b_M_partOf 17 = .ok (.imul, 1) := by decide +kernel
theorem d_M_partOf_18 : decode b_M_partOf 18 = .ok (.iload_n 3, 1) := by decide +kernel
theorem d_M_partOf_19 : decode b_M_partOf 19 = .ok (.iadd, 1) := by decide +kernel
theorem d_M_partOf_20 : decode b_M_partOf 20 = .ok (.iaload, 1) := by decide +kernel
theorem d_M_partOf_21 : decode b_M_partOf 21 = .ok (.goto 21, 3) := by decide +kernel
theorem d_M_partOf_24 : decode b_M_partOf 24 = .ok (.aload_n 0, 1) := by decide +kernel
theorem d_M_partOf_25 : decode b_M_partOf 25 = .ok (.getfield 47, 3) := by decide +kernel
theorem d_M_partOf_28 : decode b_M_partOf 28 = .ok (.bipush 30, 2) := by decide +kernel
theorem d_M_partOf_30 : decode b_M_partOf 30 = .ok (.iload_n 2, 1) := by decide +kernel
theorem d_M_partOf_31 : decode b_M_partOf 31 = .ok (.imul, 1) := by decide +kernel
theorem d_M_partOf_32 : decode b_M_partOf 32 = .ok (.iload_n 3, 1) := by decide +kernel
theorem d_M_partOf_33 : decode b_M_partOf 33 = .ok (.iadd, 1) := by decide +kernel
theorem d_M_partOf_34 : decode b_M_partOf 34 = .ok (.aload_n 0, 1) := by decide +kernel
theorem d_M_partOf_35 : decode b_M_partOf 35 = .ok (.getfield 44, 3) := by decide +kernel
theorem d_M_partOf_38 : decode b_M_partOf 38 = .ok (.iload_n 1, 1) := by decide +kernel
theorem d_M_partOf_39 : decode b_M_partOf 39 = .ok (.iaload, 1) := by decide +kernel
theorem d_M_partOf_40 : decode b_M_partOf 40 = .ok (.isub, 1) := by decide +kernel
theorem d_M_partOf_41 : decode b_M_partOf 41 = .ok (.iaload, 1) := by decide +kernel
theorem d_M_partOf_42 : decode b_M_partOf 42 = .ok (.ireturn, 1) := by decide +kernel
theorem d_M_lower_0 : decode b_M_lower 0 = .ok (.aload_n 0, 1) := by decide +kernel
theorem d_M_lower_1 : decode b_M_lower 1 = .ok (.aload_n 0, 1) := by decide +kernel
theorem d_M_lower_2 : decode b_M_lower 2 = .ok (.iload_n 1, 1) := by decide +kernel
theorem d_M_lower_3 : decode b_M_lower 3 = .ok (.invokevirtual 164, 3) := by decide +kernel
theorem d_M_lower_6 : decode b_M_lower 6 = .ok (.ifCond .eq 15, 3) := by decide +kernel
theorem d_M_lower_9 : decode b_M_lower 9 = .ok (.aload_n 0, 1) := by decide +kernel
theorem d_M_lower_10 : decode b_M_lower 10 = .ok (.iload_n 2, 1) := by decide +kernel
theorem d_M_lower_11 : decode b_M_lower 11 = .ok (.invokevirtual 164, 3) := by decide +kernel
theorem d_M_lower_14 : decode b_M_lower 14 = .ok (.ifCond .eq 7, 3) := by decide +kernel
theorem d_M_lower_17 : decode b_M_lower 17 = .ok (.iconst 0, 1) := by decide +kernel
theorem d_M_lower_18 : decode b_M_lower 18 = .ok (.goto 4, 3) := by decide +kernel
theorem d_M_lower_21 : decode b_M_lower 21 = .ok (.iconst 1, 1) := by decide +kernel
theorem d_M_lower_22 : decode b_M_lower 22 = .ok (.invokevirtual 146, 3) := by decide +kernel
theorem d_M_lower_25 : decode b_M_lower 25 = .ok (.ifCond .ne 5, 3) := by decide +kernel
theorem d_M_lower_28 : decode b_M_lower 28 = .ok (.iconst 0, 1) := by decide +kernel
theorem d_M_lower_29 : decode b_M_lower 29 = .ok (.ireturn, 1) := by decide +kernel
theorem d_M_lower_30 : decode b_M_lower 30 = .ok (.aload_n 0, 1) := by decide +kernel
theorem d_M_lower_31 : decode b_M_lower 31 = .ok (.invokevirtual 177, 3) := by decide +kernel
theorem d_M_lower_34 : decode b_M_lower 34 = .ok (.aload_n 0, 1) := by decide +kernel
theorem d_M_lower_35 : decode b_M_lower 35 = .ok (.getfield 54, 3) := by decide +kernel
theorem d_M_lower_38 : decode b_M_lower 38 = .ok (.sipush 300, 3) := by decide +kernel
theorem d_M_lower_41 : decode b_M_lower 41 = .ok (.iload_n 1, 1) := by decide +kernel
theorem d_M_lower_42 : decode b_M_lower 42 = .ok (.imul, 1) := by decide +kernel
theorem d_M_lower_43 : decode b_M_lower 43 = .ok (.iload_n 2, 1) := by decide +kernel
theorem d_M_lower_44 : decode b_M_lower 44 = .ok (.iadd, 1) := by decide +kernel
theorem d_M_lower_45 : decode b_M_lower 45 = .ok (.baload, 1) := by decide +kernel
theorem d_M_lower_46 : decode b_M_lower 46 = .ok (.ifCond .ne 18, 3) := by decide +kernel
theorem d_M_lower_49 : decode b_M_lower 49 = .ok (.aload_n 0, 1) := by decide +kernel
theorem d_M_lower_50 : decode b_M_lower 50 = .ok (.getfield 54, 3) := by decide +kernel
theorem d_M_lower_53 : decode b_M_lower 53 = .ok (.sipush 300, 3) := by decide +kernel
theorem d_M_lower_56 : decode b_M_lower 56 = .ok (.iload_n 2, 1) := by decide +kernel
theorem d_M_lower_57 : decode b_M_lower 57 = .ok (.imul, 1) := by decide +kernel
theorem d_M_lower_58 : decode b_M_lower 58 = .ok (.iload_n 1, 1) := by decide +kernel
theorem d_M_lower_59 : decode b_M_lower 59 = .ok (.iadd, 1) := by decide +kernel
theorem d_M_lower_60 : decode b_M_lower 60 = .ok (.baload, 1) := by decide +kernel
theorem d_M_lower_61 : decode b_M_lower 61 = .ok (.ifCond .eq 24, 3) := by decide +kernel
theorem d_M_lower_64 : decode b_M_lower 64 = .ok (.aload_n 0, 1) := by decide +kernel
theorem d_M_lower_65 : decode b_M_lower 65 = .ok (.getfield 54, 3) := by decide +kernel
theorem d_M_lower_68 : decode b_M_lower 68 = .ok (.sipush 300, 3) := by decide +kernel
theorem d_M_lower_71 : decode b_M_lower 71 = .ok (.iload_n 1, 1) := by decide +kernel
theorem d_M_lower_72 : decode b_M_lower 72 = .ok (.imul, 1) := by decide +kernel
theorem d_M_lower_73 : decode b_M_lower 73 = .ok (.iload_n 2, 1) := by decide +kernel
theorem d_M_lower_74 : decode b_M_lower 74 = .ok (.iadd, 1) := by decide +kernel
theorem d_M_lower_75 : decode b_M_lower 75 = .ok (.baload, 1) := by decide +kernel
theorem d_M_lower_76 : decode b_M_lower 76 = .ok (.ifCond .eq 7, 3) := by decide +kernel
theorem d_M_lower_79 : decode b_M_lower 79 = .ok (.iload_n 1, 1) := by decide +kernel
theorem d_M_lower_80 : decode b_M_lower 80 = .ok (.goto 4, 3) := by decide +kernel
theorem d_M_lower_83 : decode b_M_lower 83 = .ok (.iload_n 2, 1) := by decide +kernel
theorem d_M_lower_84 : decode b_M_lower 84 = .ok (.ireturn, 1) := by decide +kernel
theorem d_M_lower_85 : decode b_M_lower 85 = .ok (.aload_n 0, 1) := by decide +kernel
theorem d_M_lower_86 : decode b_M_lower 86 = .ok (.getfield 44, 3) := by decide +kernel
theorem d_M_lower_89 : decode b_M_lower 89 = .ok (.iload_n 1, 1) := by decide +kernel
theorem d_M_lower_90 : decode b_M_lower 90 = .ok (.iaload, 1) := by decide +kernel
theorem d_M_lower_91 : decode b_M_lower 91 = .ok (.aload_n 0, 1) := by decide +kernel
theorem d_M_lower_92 : decode b_M_lower 92 = .ok (.getfield 44, 3) := by decide +kernel
theorem d_M_lower_95 : decode b_M_lower 95 = .ok (.iload_n 2, 1) := by decide +kernel
theorem d_M_lower_96 : decode b_M_lower 96 = .ok (.iaload, 1) := by decide +kernel
theorem d_M_lower_97 : decode b_M_lower 97 = .ok (.iadd, 1) := by decide +kernel
theorem d_M_lower_98 : decode b_M_lower 98 = .ok (.istore_n 3, 1) := by decide +kernel
theorem d_M_lower_99 : decode b_M_lower 99 = .ok (.aload_n 0, 1) := by decide +kernel
theorem d_M_lower_100 : decode b_M_lower 100 = .ok (.getfield 44, 3) := by decide +kernel
theorem d_M_lower_103 : decode b_M_lower 103 = .ok (.iload_n 1, 1) := by decide +kernel
theorem d_M_lower_104 : decode b_M_lower 104 = .ok (.iaload, 1) := by decide +kernel
theorem d_M_lower_105 : decode b_M_lower 105 = .ok (.ifCond .eq 12, 3) := by decide +kernel
theorem d_M_lower_108 : decode b_M_lower 108 = .ok (.aload_n 0, 1) := by decide +kernel
theorem d_M_lower_109 : decode b_M_lower 109 = .ok (.getfield 44, 3) := by decide +kernel
theorem d_M_lower_112 : decode b_M_lower 112 = .ok (.iload_n 2, 1) := by decide +kernel
theorem d_M_lower_113 : decode b_M_lower 113 = .ok (.iaload, 1) := by decide +kernel
theorem d_M_lower_114 : decode b_M_lower 114 = .ok (.ifCond .ne 5, 3) := by decide +kernel
theorem d_M_lower_117 : decode b_M_lower 117 = .ok (.iconst (-1), 1) := by decide +kernel
theorem d_M_lower_118 : decode b_M_lower 118 = .ok (.ireturn, 1) := by decide +kernel
theorem d_M_lower_119 : decode b_M_lower 119 = .ok (.iconst 0, 1) := by decide +kernel
theorem d_M_lower_120 : decode b_M_lower 120 = .ok (.istore 4, 2) := by decide +kernel
theorem d_M_lower_122 : decode b_M_lower 122 = .ok (.iconst 0, 1) := by decide +kernel
theorem d_M_lower_123 : decode b_M_lower 123 = .ok (.istore 5, 2) := by decide +kernel
theorem d_M_lower_125 : decode b_M_lower 125 = .ok (.iload 5, 2) := by decide +kernel
theorem d_M_lower_127 : decode b_M_lower 127 = .ok (.iload_n 3, 1) := by decide +kernel
theorem d_M_lower_128 : decode b_M_lower 128 = .ok (.if_icmp .ge 121, 3) := by decide +kernel
theorem d_M_lower_131 : decode b_M_lower 131 = .ok (.aload_n 0, 1) := by decide +kernel
theorem d_M_lower_132 : decode b_M_lower 132 = .ok (.iload_n 1, 1) := by decide +kernel
theorem d_M_lower_133 : decode b_M_lower 133 = .ok (.iload_n 2, 1) := by decide +kernel
theorem d_M_lower_134 : decode b_M_lower 134 = .ok (.iload 5, 2) := by decide +kernel
theorem d_M_lower_136 : decode b_M_lower 136 = .ok (.invokevirtual 211, 3) := by decide +kernel
theorem d_M_lower_139 : decode b_M_lower 139 = .ok (.istore 6, 2) := by decide +kernel
theorem d_M_lower_141 : decode b_M_lower 141 = .ok (.iconst 1, 1) := by decide +kernel
theorem d_M_lower_142 : decode b_M_lower 142 = .ok (.istore 7, 2) := by decide +kernel
theorem d_M_lower_144 : decode b_M_lower 144 = .ok (.iconst 0, 1) := by decide +kernel
theorem d_M_lower_145 : decode b_M_lower 145 = .ok (.istore 8, 2) := by decide +kernel
theorem d_M_lower_147 : decode b_M_lower 147 = .ok (.iload 8, 2) := by decide +kernel
theorem d_M_lower_149 : decode b_M_lower 149 = .ok (.iload_n 3, 1) := by decide +kernel
theorem d_M_lower_150 : decode b_M_lower 150 = .ok (.if_icmp .ge 76, 3) := by decide +kernel
theorem d_M_lower_153 : decode b_M_lower 153 = .ok (.aload_n 0, 1) := by decide +kernel
theorem d_M_lower_154 : decode b_M_lower 154 = .ok (.iload_n 1, 1) := by decide +kernel
theorem d_M_lower_155 : decode b_M_lower 155 = .ok (.iload_n 2, 1) := by decide +kernel
theorem d_M_lower_156 : decode b_M_lower 156 = .ok (.iload 8, 2) := by decide +kernel
theorem d_M_lower_158 : decode b_M_lower 158 = .ok (.invokevirtual 211, 3) := by decide +kernel
theorem d_M_lower_161 : decode b_M_lower 161 = .ok (.istore 9, 2) := by decide +kernel
theorem d_M_lower_163 : decode b_M_lower 163 = .ok (.iload 7, 2) := by decide +kernel
theorem d_M_lower_165 : decode b_M_lower 165 = .ok (.ifCond .eq 52, 3) := by decide +kernel
theorem d_M_lower_168 : decode b_M_lower 168 = .ok (.iload 5, 2) := by decide +kernel
theorem d_M_lower_170 : decode b_M_lower 170 = .ok (.iload 8, 2) := by decide +kernel
theorem d_M_lower_172 : decode b_M_lower 172 = .ok (.if_icmp .eq 41, 3) := by decide +kernel
theorem d_M_lower_175 : decode b_M_lower 175 = .ok (.iload 6, 2) := by decide +kernel
theorem d_M_lower_177 : decode b_M_lower 177 = .ok (.iload 9, 2) := by decide +kernel
theorem d_M_lower_179 : decode b_M_lower 179 = .ok (.if_icmp .ne 10, 3) := by decide +kernel
theorem d_M_lower_182 : decode b_M_lower 182 = .ok (.iload 5, 2) := by decide +kernel
theorem d_M_lower_184 : decode b_M_lower 184 = .ok (.iload 8, 2) := by decide +kernel
theorem d_M_lower_186 : decode b_M_lower 186 = .ok (.if_icmp .lt 27, 3) := by decide +kernel
theorem d_M_lower_189 : decode b_M_lower 189 = .ok (.iload 6, 2) := by decide +kernel
theorem d_M_lower_191 : decode b_M_lower 191 = .ok (.iload 9, 2) := by decide +kernel
theorem d_M_lower_193 : decode b_M_lower 193 = .ok (.if_icmp .eq 24, 3) := by decide +kernel
theorem d_M_lower_196 : decode b_M_lower 196 = .ok (.aload_n 0, 1) := by decide +kernel
theorem d_M_lower_197 : decode b_M_lower 197 = .ok (.getfield 54, 3) := by decide +kernel
theorem d_M_lower_200 : decode b_M_lower 200 = .ok (.sipush 300, 3) := by decide +kernel
theorem d_M_lower_203 : decode b_M_lower 203 = .ok (.iload 9, 2) := by decide +kernel
theorem d_M_lower_205 : decode b_M_lower 205 = .ok (.imul, 1) := by decide +kernel
theorem d_M_lower_206 : decode b_M_lower 206 = .ok (.iload 6, 2) := by decide +kernel
theorem d_M_lower_208 : decode b_M_lower 208 = .ok (.iadd, 1) := by decide +kernel
theorem d_M_lower_209 : decode b_M_lower 209 = .ok (.baload, 1) := by decide +kernel
theorem d_M_lower_210 : decode b_M_lower 210 = .ok (.ifCond .ne 7, 3) := by decide +kernel
theorem d_M_lower_213 : decode b_M_lower 213 = .ok (.iconst 1, 1) := by decide +kernel
theorem d_M_lower_214 : decode b_M_lower 214 = .ok (.goto 4, 3) := by decide +kernel
theorem d_M_lower_217 : decode b_M_lower 217 = .ok (.iconst 0, 1) := by decide +kernel
theorem d_M_lower_218 : decode b_M_lower 218 = .ok (.istore 7, 2) := by decide +kernel
theorem d_M_lower_220 : decode b_M_lower 220 = .ok (.iinc 8 1, 3) := by decide +kernel
theorem d_M_lower_223 : decode b_M_lower 223 = .ok (.goto (-76), 3) := by decide +kernel
theorem d_M_lower_226 : decode b_M_lower 226 = .ok (.iload 7, 2) := by decide +kernel
theorem d_M_lower_228 : decode b_M_lower 228 = .ok (.ifCond .eq 15, 3) := by decide +kernel
theorem d_M_lower_231 : decode b_M_lower 231 = .ok (.aload_n 0, 1) := by decide +kernel
theorem d_M_lower_232 : decode b_M_lower 232 = .ok (.getfield 50, 3) := by decide +kernel
theorem d_M_lower_235 : decode b_M_lower 235 = .ok (.iload 4, 2) := by decide +kernel
theorem d_M_lower_237 : decode b_M_lower 237 = .ok (.iload 6, 2) := by decide +kernel
theorem d_M_lower_239 : decode b_M_lower 239 = .ok (.iastore, 1) := by decide +kernel
theorem d_M_lower_240 : decode b_M_lower 240 = .ok (.iinc 4 1, 3) := by decide +kernel
theorem d_M_lower_243 : decode b_M_lower 243 = .ok (.iinc 5 1, 3) := by decide +kernel
theorem d_M_lower_246 : decode b_M_lower 246 = .ok (.goto (-121), 3) := by decide +kernel
theorem d_M_lower_249 : decode b_M_lower 249 = .ok (.iconst 0, 1) := by decide +kernel
theorem d_M_lower_250 : decode b_M_lower 250 = .ok (.istore 5, 2) := by decide +kernel
theorem d_M_lower_252 : decode b_M_lower 252 = .ok (.iload 5, 2) := by decide +kernel
theorem d_M_lower_254 : decode b_M_lower 254 = .ok (.iload 4, 2) := by decide +kernel
theorem d_M_lower_256 : decode b_M_lower 256 = .ok (.if_icmp .ge 82, 3) := by decide +kernel
theorem d_M_lower_259 : decode b_M_lower 259 = .ok (.iconst 0, 1) := by decide +kernel
theorem d_M_lower_260 : decode b_M_lower 260 = .ok (.istore 6, 2) := by decide +kernel
theorem d_M_lower_262 : decode b_M_lower 262 = .ok (.iload 6, 2) := by decide +kernel
theorem d_M_lower_264 : decode b_M_lower 264 = .ok (.iload 5, 2) := by decide +kernel
theorem d_M_lower_266 : decode b_M_lower 266 = .ok (.if_icmp .ge 66, 3) := by decide +kernel
theorem d_M_lower_269 : decode b_M_lower 269 = .ok (.aload_n 0, 1) := by decide +kernel
theorem d_M_lower_270 : decode b_M_lower 270 = .ok (.getfield 32, 3) := by decide +kernel
theorem d_M_lower_273 : decode b_M_lower 273 = .ok (.aload_n 0, 1) := by decide +kernel
theorem d_M_lower_274 : decode b_M_lower 274 = .ok (.getfield 50, 3) := by decide +kernel
theorem d_M_lower_277 : decode b_M_lower 277 = .ok (.iload 5, 2) := by decide +kernel
theorem d_M_lower_279 : decode b_M_lower 279 = .ok (.iaload, 1) := by decide +kernel
theorem d_M_lower_280 : decode b_M_lower 280 = .ok (.iaload, 1) := by decide +kernel
theorem d_M_lower_281 : decode b_M_lower 281 = .ok (.istore 7, 2) := by decide +kernel
theorem d_M_lower_283 : decode b_M_lower 283 = .ok (.aload_n 0, 1) := by decide +kernel
theorem d_M_lower_284 : decode b_M_lower 284 = .ok (.getfield 32, 3) := by decide +kernel
theorem d_M_lower_287 : decode b_M_lower 287 = .ok (.aload_n 0, 1) := by decide +kernel
theorem d_M_lower_288 : decode b_M_lower 288 = .ok (.getfield 50, 3) := by decide +kernel
theorem d_M_lower_291 : decode b_M_lower 291 = .ok (.iload 6, 2) := by decide +kernel
theorem d_M_lower_293 : decode b_M_lower 293 = .ok (.iaload, 1) := by decide +kernel
theorem d_M_lower_294 : decode b_M_lower 294 = .ok (.iaload, 1) := by decide +kernel
theorem d_M_lower_295 : decode b_M_lower 295 = .ok (.istore 8, 2) := by decide +kernel
theorem d_M_lower_297 : decode b_M_lower 297 = .ok (.iload 7, 2) := by decide +kernel
theorem d_M_lower_299 : decode b_M_lower 299 = .ok (.iload 8, 2) := by decide +kernel
theorem d_M_lower_301 : decode b_M_lower 301 = .ok (.if_icmp .eq 23, 3) := by decide +kernel
theorem d_M_lower_304 : decode b_M_lower 304 = .ok (.aload_n 0, 1) := by decide +kernel
theorem d_M_lower_305 : decode b_M_lower 305 = .ok (.getfield 7, 3) := by decide +kernel
theorem d_M_lower_308 : decode b_M_lower 308 = .ok (.iload 7, 2) := by decide +kernel
theorem d_M_lower_310 : decode b_M_lower 310 = .ok (.baload, 1) := by decide +kernel
theorem d_M_lower_311 : decode b_M_lower 311 = .ok (.ifCond .ne 15, 3) := by decide +kernel
theorem d_M_lower_314 : decode b_M_lower 314 = .ok (.aload_n 0, 1) := by decide +kernel
theorem d_M_lower_315 : decode b_M_lower 315 = .ok (.getfield 7, 3) := by decide +kernel
theorem d_M_lower_318 : decode b_M_lower 318 = .ok (.iload 8, 2) := by decide +kernel
theorem d_M_lower_320 : decode b_M_lower 320 = .ok (.baload, 1) := by decide +kernel
theorem d_M_lower_321 : decode b_M_lower 321 = .ok (.ifCond .ne 5, 3) := by decide +kernel
theorem d_M_lower_324 : decode b_M_lower 324 = .ok (.iconst (-1), 1) := by decide +kernel
theorem d_M_lower_325 : decode b_M_lower 325 = .ok (.ireturn, 1) := by decide +kernel
theorem d_M_lower_326 : decode b_M_lower 326 = .ok (.iinc 6 1, 3) := by decide +kernel
theorem d_M_lower_329 : decode b_M_lower 329 = .ok (.goto (-67), 3) := by decide +kernel
theorem d_M_lower_332 : decode b_M_lower 332 = .ok (.iinc 5 1, 3) := by decide +kernel
theorem d_M_lower_335 : decode b_M_lower 335 = .ok (.goto (-83), 3) := by decide +kernel
theorem d_M_lower_338 : decode b_M_lower 338 = .ok (.aload_n 0, 1) := by decide +kernel
theorem d_M_lower_339 : decode b_M_lower 339 = .ok (.getfield 99, 3) := by decide +kernel
theorem d_M_lower_342 : decode b_M_lower 342 = .ok (.istore 5, 2) := by decide +kernel
theorem d_M_lower_344 : decode b_M_lower 344 = .ok (.aload_n 0, 1) := by decide +kernel
theorem d_M_lower_345 : decode b_M_lower 345 = .ok (.iload 5, 2) := by decide +kernel
theorem d_M_lower_347 : decode b_M_lower 347 = .ok (.aload_n 0, 1) := by decide +kernel
theorem d_M_lower_348 : decode b_M_lower 348 = .ok (.iload 4, 2) := by decide +kernel
theorem d_M_lower_350 : decode b_M_lower 350 = .ok (.invokevirtual 199, 3) := by decide +kernel
theorem d_M_lower_353 : decode b_M_lower 353 = .ok (.iconst 2, 1) := by decide +kernel
theorem d_M_lower_354 : decode b_M_lower 354 = .ok (.invokevirtual 171, 3) := by decide +kernel
theorem d_M_lower_357 : decode b_M_lower 357 = .ok (.ireturn, 1) := by decide +kernel
