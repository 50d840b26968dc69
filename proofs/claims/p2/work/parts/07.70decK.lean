-- part 07.70decK.lean.txt
theorem d_C_init_0 : decode b_C_init 0 = .ok (.aload_n 0, 1) := dq_s (by decide +kernel)
theorem d_C_init_1 : decode b_C_init 1 = .ok (.invokespecial 3, 3) := dq_s (by decide +kernel)
theorem d_C_init_4 : decode b_C_init 4 = .ok (.aload_n 0, 1) := dq_s (by decide +kernel)
theorem d_C_init_5 : decode b_C_init 5 = .ok (.bipush 30, 2) := dq_s (by decide +kernel)
theorem d_C_init_7 : decode b_C_init 7 = .ok (.newarray .boolean, 2) := dq_s (by decide +kernel)
theorem d_C_init_9 : decode b_C_init 9 = .ok (.putfield 9, 3) := dq_s (by decide +kernel)
theorem d_C_init_12 : decode b_C_init 12 = .ok (.aload_n 0, 1) := dq_s (by decide +kernel)
theorem d_C_init_13 : decode b_C_init 13 = .ok (.bipush 30, 2) := dq_s (by decide +kernel)
theorem d_C_init_15 : decode b_C_init 15 = .ok (.newarray .boolean, 2) := dq_s (by decide +kernel)
theorem d_C_init_17 : decode b_C_init 17 = .ok (.putfield 15, 3) := dq_s (by decide +kernel)
theorem d_C_init_20 : decode b_C_init 20 = .ok (.aload_n 0, 1) := dq_s (by decide +kernel)
theorem d_C_init_21 : decode b_C_init 21 = .ok (.bipush 30, 2) := dq_s (by decide +kernel)
theorem d_C_init_23 : decode b_C_init 23 = .ok (.newarray .int, 2) := dq_s (by decide +kernel)
theorem d_C_init_25 : decode b_C_init 25 = .ok (.putfield 18, 3) := dq_s (by decide +kernel)
theorem d_C_init_28 : decode b_C_init 28 = .ok (.aload_n 0, 1) := dq_s (by decide +kernel)
theorem d_C_init_29 : decode b_C_init 29 = .ok (.bipush 30, 2) := dq_s (by decide +kernel)
theorem d_C_init_31 : decode b_C_init 31 = .ok (.newarray .int, 2) := dq_s (by decide +kernel)
theorem d_C_init_33 : decode b_C_init 33 = .ok (.putfield 22, 3) := dq_s (by decide +kernel)
theorem d_C_init_36 : decode b_C_init 36 = .ok (.aload_n 0, 1) := dq_s (by decide +kernel)
theorem d_C_init_37 : decode b_C_init 37 = .ok (.sipush 900, 3) := dq_s (by decide +kernel)
theorem d_C_init_40 : decode b_C_init 40 = .ok (.newarray .int, 2) := dq_s (by decide +kernel)
theorem d_C_init_42 : decode b_C_init 42 = .ok (.putfield 25, 3) := dq_s (by decide +kernel)
theorem d_C_init_45 : decode b_C_init 45 = .ok (.aload_n 0, 1) := dq_s (by decide +kernel)
theorem d_C_init_46 : decode b_C_init 46 = .ok (.sipush 900, 3) := dq_s (by decide +kernel)
theorem d_C_init_49 : decode b_C_init 49 = .ok (.newarray .int, 2) := dq_s (by decide +kernel)
theorem d_C_init_51 : decode b_C_init 51 = .ok (.putfield 28, 3) := dq_s (by decide +kernel)
theorem d_C_init_54 : decode b_C_init 54 = .ok (.aload_n 0, 1) := dq_s (by decide +kernel)
theorem d_C_init_55 : decode b_C_init 55 = .ok (.iconst 0, 1) := dq_s (by decide +kernel)
theorem d_C_init_56 : decode b_C_init 56 = .ok (.putfield 31, 3) := dq_s (by decide +kernel)
theorem d_C_init_59 : decode b_C_init 59 = .ok (.aload_n 0, 1) := dq_s (by decide +kernel)
theorem d_C_init_60 : decode b_C_init 60 = .ok (.iconst 0, 1) := dq_s (by decide +kernel)
theorem d_C_init_61 : decode b_C_init 61 = .ok (.putfield 35, 3) := dq_s (by decide +kernel)
theorem d_C_init_64 : decode b_C_init 64 = .ok (.aload_n 0, 1) := dq_s (by decide +kernel)
theorem d_C_init_65 : decode b_C_init 65 = .ok (.iconst 0, 1) := dq_s (by decide +kernel)
theorem d_C_init_66 : decode b_C_init 66 = .ok (.iconst 0, 1) := dq_s (by decide +kernel)
theorem d_C_init_67 : decode b_C_init 67 = .ok (.invokevirtual 38, 3) := dq_s (by decide +kernel)
theorem d_C_init_70 : decode b_C_init 70 = .ok (.pop, 1) := dq_s (by decide +kernel)
theorem d_C_init_71 : decode b_C_init 71 = .ok (.aload_n 0, 1) := dq_s (by decide +kernel)
theorem d_C_init_72 : decode b_C_init 72 = .ok (.iconst 1, 1) := dq_s (by decide +kernel)
theorem d_C_init_73 : decode b_C_init 73 = .ok (.iconst 0, 1) := dq_s (by decide +kernel)
theorem d_C_init_74 : decode b_C_init 74 = .ok (.invokevirtual 38, 3) := dq_s (by decide +kernel)
theorem d_C_init_77 : decode b_C_init 77 = .ok (.pop, 1) := dq_s (by decide +kernel)
theorem d_C_init_78 : decode b_C_init 78 = .ok (.aload_n 0, 1) := dq_s (by decide +kernel)
theorem d_C_init_79 : decode b_C_init 79 = .ok (.iconst 1, 1) := dq_s (by decide +kernel)
theorem d_C_init_80 : decode b_C_init 80 = .ok (.iconst 0, 1) := dq_s (by decide +kernel)
theorem d_C_init_81 : decode b_C_init 81 = .ok (.invokevirtual 38, 3) := dq_s (by decide +kernel)
theorem d_C_init_84 : decode b_C_init 84 = .ok (.pop, 1) := dq_s (by decide +kernel)
theorem d_C_init_85 : decode b_C_init 85 = .ok (.aload_n 0, 1) := dq_s (by decide +kernel)
theorem d_C_init_86 : decode b_C_init 86 = .ok (.iconst 1, 1) := dq_s (by decide +kernel)
theorem d_C_init_87 : decode b_C_init 87 = .ok (.iconst 1, 1) := dq_s (by decide +kernel)
theorem d_C_init_88 : decode b_C_init 88 = .ok (.invokevirtual 38, 3) := dq_s (by decide +kernel)
theorem d_C_init_91 : decode b_C_init 91 = .ok (.pop, 1) := dq_s (by decide +kernel)
theorem d_C_init_92 : decode b_C_init 92 = .ok (.aload_n 0, 1) := dq_s (by decide +kernel)
theorem d_C_init_93 : decode b_C_init 93 = .ok (.iconst 0, 1) := dq_s (by decide +kernel)
theorem d_C_init_94 : decode b_C_init 94 = .ok (.iconst 0, 1) := dq_s (by decide +kernel)
theorem d_C_init_95 : decode b_C_init 95 = .ok (.invokevirtual 38, 3) := dq_s (by decide +kernel)
theorem d_C_init_98 : decode b_C_init 98 = .ok (.pop, 1) := dq_s (by decide +kernel)
theorem d_C_init_99 : decode b_C_init 99 = .ok (.aload_n 0, 1) := dq_s (by decide +kernel)
theorem d_C_init_100 : decode b_C_init 100 = .ok (.iconst 2, 1) := dq_s (by decide +kernel)
theorem d_C_init_101 : decode b_C_init 101 = .ok (.iconst (-1), 1) := dq_s (by decide +kernel)
theorem d_C_init_102 : decode b_C_init 102 = .ok (.invokevirtual 42, 3) := dq_s (by decide +kernel)
theorem d_C_init_105 : decode b_C_init 105 = .ok (.pop, 1) := dq_s (by decide +kernel)
theorem d_C_init_106 : decode b_C_init 106 = .ok (.iconst 0, 1) := dq_s (by decide +kernel)
theorem d_C_init_107 : decode b_C_init 107 = .ok (.istore_n 1, 1) := dq_s (by decide +kernel)
theorem d_C_init_108 : decode b_C_init 108 = .ok (.iload_n 1, 1) := dq_s (by decide +kernel)
theorem d_C_init_109 : decode b_C_init 109 = .ok (.bipush 8, 2) := dq_s (by decide +kernel)
theorem d_C_init_111 : decode b_C_init 111 = .ok (.if_icmp .ge 49, 3) := dq_s (by decide +kernel)
theorem d_C_init_114 : decode b_C_init 114 = .ok (.aload_n 0, 1) := dq_s (by decide +kernel)
theorem d_C_init_115 : decode b_C_init 115 = .ok (.iconst 0, 1) := dq_s (by decide +kernel)
theorem d_C_init_116 : decode b_C_init 116 = .ok (.iconst 0, 1) := dq_s (by decide +kernel)
theorem d_C_init_117 : decode b_C_init 117 = .ok (.invokevirtual 38, 3) := dq_s (by decide +kernel)
theorem d_C_init_120 : decode b_C_init 120 = .ok (.pop, 1) := dq_s (by decide +kernel)
theorem d_C_init_121 : decode b_C_init 121 = .ok (.iload_n 1, 1) := dq_s (by decide +kernel)
theorem d_C_init_122 : decode b_C_init 122 = .ok (.ifCond .eq 15, 3) := dq_s (by decide +kernel)
theorem d_C_init_125 : decode b_C_init 125 = .ok (.iload_n 1, 1) := dq_s (by decide +kernel)
theorem d_C_init_126 : decode b_C_init 126 = .ok (.iconst 3, 1) := dq_s (by decide +kernel)
theorem d_C_init_127 : decode b_C_init 127 = .ok (.if_icmp .eq 10, 3) := dq_s (by decide +kernel)
theorem d_C_init_130 : decode b_C_init 130 = .ok (.aload_n 0, 1) := dq_s (by decide +kernel)
theorem d_C_init_131 : decode b_C_init 131 = .ok (.iconst 4, 1) := dq_s (by decide +kernel)
theorem d_C_init_132 : decode b_C_init 132 = .ok (.iconst (-1), 1) := dq_s (by decide +kernel)
theorem d_C_init_133 : decode b_C_init 133 = .ok (.invokevirtual 42, 3) := dq_s (by decide +kernel)
theorem d_C_init_136 : decode b_C_init 136 = .ok (.pop, 1) := dq_s (by decide +kernel)
theorem d_C_init_137 : decode b_C_init 137 = .ok (.aload_n 0, 1) := dq_s (by decide +kernel)
theorem d_C_init_138 : decode b_C_init 138 = .ok (.iconst 2, 1) := dq_s (by decide +kernel)
theorem d_C_init_139 : decode b_C_init 139 = .ok (.iconst (-1), 1) := dq_s (by decide +kernel)
theorem d_C_init_140 : decode b_C_init 140 = .ok (.invokevirtual 42, 3) := dq_s (by decide +kernel)
theorem d_C_init_143 : decode b_C_init 143 = .ok (.pop, 1) := dq_s (by decide +kernel)
theorem d_C_init_144 : decode b_C_init 144 = .ok (.aload_n 0, 1) := dq_s (by decide +kernel)
theorem d_C_init_145 : decode b_C_init 145 = .ok (.iconst 3, 1) := dq_s (by decide +kernel)
theorem d_C_init_146 : decode b_C_init 146 = .ok (.iload_n 1, 1) := dq_s (by decide +kernel)
theorem d_C_init_147 : decode b_C_init 147 = .ok (.invokestatic 46, 3) := dq_s (by decide +kernel)
theorem d_C_init_150 : decode b_C_init 150 = .ok (.invokevirtual 42, 3) := dq_s (by decide +kernel)
theorem d_C_init_153 : decode b_C_init 153 = .ok (.pop, 1) := dq_s (by decide +kernel)
theorem d_C_init_154 : decode b_C_init 154 = .ok (.iinc 1 1, 3) := dq_s (by decide +kernel)
theorem d_C_init_157 : decode b_C_init 157 = .ok (.goto (-49), 3) := dq_s (by decide +kernel)
theorem d_C_init_160 : decode b_C_init 160 = .ok (.return_, 1) := dq_s (by decide +kernel)
theorem d_T_init_0 : decode b_T_init 0 = .ok (.aload_n 0, 1) := dq_s (by decide +kernel)
theorem d_T_init_1 : decode b_T_init 1 = .ok (.invokespecial 3, 3) := dq_s (by decide +kernel)
theorem d_T_init_4 : decode b_T_init 4 = .ok (.aload_n 0, 1) := dq_s (by decide +kernel)
theorem d_T_init_5 : decode b_T_init 5 = .ok (.sipush 300, 3) := dq_s (by decide +kernel)
theorem d_T_init_8 : decode b_T_init 8 = .ok (.newarray .int, 2) := dq_s (by decide +kernel)
theorem d_T_init_10 : decode b_T_init 10 = .ok (.putfield 9, 3) := dq_s (by decide +kernel)
theorem d_T_init_13 : decode b_T_init 13 = .ok (.aload_n 0, 1) := dq_s (by decide +kernel)
theorem d_T_init_14 : decode b_T_init 14 = .ok (.sipush 300, 3) := dq_s (by decide +kernel)
theorem d_T_init_17 : decode b_T_init 17 = .ok (.newarray .int, 2) := dq_s (by decide +kernel)
theorem d_T_init_19 : decode b_T_init 19 = .ok (.putfield 15, 3) := dq_s (by decide +kernel)
theorem d_T_init_22 : decode b_T_init 22 = .ok (.aload_n 0, 1) := dq_s (by decide +kernel)
theorem d_T_init_23 : decode b_T_init 23 = .ok (.sipush 300, 3) := dq_s (by decide +kernel)
theorem d_T_init_26 : decode b_T_init 26 = .ok (.newarray .int, 2) := dq_s (by decide +kernel)
theorem d_T_init_28 : decode b_T_init 28 = .ok (.putfield 18, 3) := dq_s (by decide +kernel)
theorem d_T_init_31 : decode b_T_init 31 = .ok (.aload_n 0, 1) := dq_s (by decide +kernel)
theorem d_T_init_32 : decode b_T_init 32 = .ok (.sipush 300, 3) := dq_s (by decide +kernel)
theorem d_T_init_35 : decode b_T_init 35 = .ok (.newarray .int, 2) := dq_s (by decide +kernel)
theorem d_T_init_37 : decode b_T_init 37 = .ok (.putfield 21, 3) := dq_s (by decide +kernel)
theorem d_T_init_40 : decode b_T_init 40 = .ok (.aload_n 0, 1) := dq_s (by decide +kernel)
theorem d_T_init_41 : decode b_T_init 41 = .ok (.sipush 300, 3) := dq_s (by decide +kernel)
theorem d_T_init_44 : decode b_T_init 44 = .ok (.newarray .int, 2) := dq_s (by decide +kernel)
theorem d_T_init_46 : decode b_T_init 46 = .ok (.putfield 24, 3) := dq_s (by decide +kernel)
theorem d_T_init_49 : decode b_T_init 49 = .ok (.aload_n 0, 1) := dq_s (by decide +kernel)
theorem d_T_init_50 : decode b_T_init 50 = .ok (.sipush 300, 3) := dq_s (by decide +kernel)
theorem d_T_init_53 : decode b_T_init 53 = .ok (.newarray .int, 2) := dq_s (by decide +kernel)
theorem d_T_init_55 : decode b_T_init 55 = .ok (.putfield 27, 3) := dq_s (by decide +kernel)
theorem d_T_init_58 : decode b_T_init 58 = .ok (.aload_n 0, 1) := dq_s (by decide +kernel)
theorem d_T_init_59 : decode b_T_init 59 = .ok (.sipush 300, 3) := dq_s (by decide +kernel)
theorem d_T_init_62 : decode b_T_init 62 = .ok (.newarray .int, 2) := dq_s (by decide +kernel)
theorem d_T_init_64 : decode b_T_init 64 = .ok (.putfield 30, 3) := dq_s (by decide +kernel)
theorem d_T_init_67 : decode b_T_init 67 = .ok (.aload_n 0, 1) := dq_s (by decide +kernel)
theorem d_T_init_68 : decode b_T_init 68 = .ok (.bipush 64, 2) := dq_s (by decide +kernel)
theorem d_T_init_70 : decode b_T_init 70 = .ok (.newarray .int, 2) := dq_s (by decide +kernel)
theorem d_T_init_72 : decode b_T_init 72 = .ok (.putfield 33, 3) := dq_s (by decide +kernel)
theorem d_T_init_75 : decode b_T_init 75 = .ok (.aload_n 0, 1) := dq_s (by decide +kernel)
theorem d_T_init_76 : decode b_T_init 76 = .ok (.iconst 0, 1) := dq_s (by decide +kernel)
theorem d_T_init_77 : decode b_T_init 77 = .ok (.putfield 36, 3) := dq_s (by decide +kernel)
theorem d_T_init_80 : decode b_T_init 80 = .ok (.aload_n 0, 1) := dq_s (by decide +kernel)
theorem d_T_init_81 : decode b_T_init 81 = .ok (.iconst 0, 1) := dq_s (by decide +kernel)
theorem d_T_init_82 : decode b_T_init 82 = .ok (.putfield 40, 3) := dq_s (by decide +kernel)
theorem d_T_init_85 : decode b_T_init 85 = .ok (.aload_n 0, 1) := dq_s (by decide +kernel)
theorem d_T_init_86 : decode b_T_init 86 = .ok (.iconst 0, 1) := dq_s (by decide +kernel)
theorem d_T_init_87 : decode b_T_init 87 = .ok (.putfield 43, 3) := dq_s (by decide +kernel)
theorem d_T_init_90 : decode b_T_init 90 = .ok (.aload_n 0, 1) := dq_s (by decide +kernel)
theorem d_T_init_91 : decode b_T_init 91 = .ok (.iconst 0, 1) := dq_s (by decide +kernel)
theorem d_T_init_92 : decode b_T_init 92 = .ok (.putfield 46, 3) := dq_s (by decide +kernel)
theorem d_T_init_95 : decode b_T_init 95 = .ok (.iconst 0, 1) := dq_s (by decide +kernel)
theorem d_T_init_96 : decode b_T_init 96 = .ok (.istore_n 1, 1) := dq_s (by decide +kernel)
theorem d_T_init_97 : decode b_T_init 97 = .ok (.iload_n 1, 1) := dq_s (by decide +kernel)
theorem d_T_init_98 : decode b_T_init 98 = .ok (.bipush 8, 2) := dq_s (by decide +kernel)
theorem d_T_init_100 : decode b_T_init 100 = .ok (.if_icmp .ge 16, 3) := dq_s (by decide +kernel)
theorem d_T_init_103 : decode b_T_init 103 = .ok (.aload_n 0, 1) := dq_s (by decide +kernel)
theorem d_T_init_104 : decode b_T_init 104 = .ok (.iconst 0, 1) := dq_s (by decide +kernel)
theorem d_T_init_105 : decode b_T_init 105 = .ok (.iconst 1, 1) := dq_s (by decide +kernel)
theorem d_T_init_106 : decode b_T_init 106 = .ok (.invokevirtual 49, 3) := dq_s (by decide +kernel)
theorem d_T_init_109 : decode b_T_init 109 = .ok (.pop, 1) := dq_s (by decide +kernel)
theorem d_T_init_110 : decode b_T_init 110 = .ok (.iinc 1 1, 3) := dq_s (by decide +kernel)
theorem d_T_init_113 : decode b_T_init 113 = .ok (.goto (-16), 3) := dq_s (by decide +kernel)
theorem d_T_init_116 : decode b_T_init 116 = .ok (.iconst 0, 1) := dq_s (by decide +kernel)
theorem d_T_init_117 : decode b_T_init 117 = .ok (.istore_n 1, 1) := dq_s (by decide +kernel)
theorem d_T_init_118 : decode b_T_init 118 = .ok (.iload_n 1, 1) := dq_s (by decide +kernel)
theorem d_T_init_119 : decode b_T_init 119 = .ok (.bipush 8, 2) := dq_s (by decide +kernel)
theorem d_T_init_121 : decode b_T_init 121 = .ok (.if_icmp .ge 18, 3) := dq_s (by decide +kernel)
theorem d_T_init_124 : decode b_T_init 124 = .ok (.aload_n 0, 1) := dq_s (by decide +kernel)
theorem d_T_init_125 : decode b_T_init 125 = .ok (.iconst 5, 1) := dq_s (by decide +kernel)
theorem d_T_init_126 : decode b_T_init 126 = .ok (.iload_n 1, 1) := dq_s (by decide +kernel)
theorem d_T_init_127 : decode b_T_init 127 = .ok (.iadd, 1) := dq_s (by decide +kernel)
theorem d_T_init_128 : decode b_T_init 128 = .ok (.iconst 0, 1) := dq_s (by decide +kernel)
theorem d_T_init_129 : decode b_T_init 129 = .ok (.invokevirtual 53, 3) := dq_s (by decide +kernel)
theorem d_T_init_132 : decode b_T_init 132 = .ok (.pop, 1) := dq_s (by decide +kernel)
theorem d_T_init_133 : decode b_T_init 133 = .ok (.iinc 1 1, 3) := dq_s (by decide +kernel)
theorem d_T_init_136 : decode b_T_init 136 = .ok (.goto (-18), 3) := dq_s (by decide +kernel)
theorem d_T_init_139 : decode b_T_init 139 = .ok (.aload_n 0, 1) := dq_s (by decide +kernel)
theorem d_T_init_140 : decode b_T_init 140 = .ok (.invokevirtual 56, 3) := dq_s (by decide +kernel)
theorem d_T_init_143 : decode b_T_init 143 = .ok (.return_, 1) := dq_s (by decide +kernel)
theorem d_A_init_0 : decode b_A_init 0 = .ok (.aload_n 0, 1) := dq_s (by decide +kernel)
theorem d_A_init_1 : decode b_A_init 1 = .ok (.invokespecial 3, 3) := dq_s (by decide +kernel)
theorem d_A_init_4 : decode b_A_init 4 = .ok (.aload_n 0, 1) := dq_s (by decide +kernel)
theorem d_A_init_5 : decode b_A_init 5 = .ok (.sipush 5625, 3) := dq_s (by decide +kernel)
theorem d_A_init_8 : decode b_A_init 8 = .ok (.newarray .int, 2) := dq_s (by decide +kernel)
theorem d_A_init_10 : decode b_A_init 10 = .ok (.putfield 9, 3) := dq_s (by decide +kernel)
theorem d_A_init_13 : decode b_A_init 13 = .ok (.aload_n 0, 1) := dq_s (by decide +kernel)
theorem d_A_init_14 : decode b_A_init 14 = .ok (.iconst 1, 1) := dq_s (by decide +kernel)
theorem d_A_init_15 : decode b_A_init 15 = .ok (.putfield 15, 3) := dq_s (by decide +kernel)
theorem d_A_init_18 : decode b_A_init 18 = .ok (.return_, 1) := dq_s (by decide +kernel)
theorem d_M_init_0 : decode b_M_init 0 = .ok (.aload_n 0, 1) := dq_s (by decide +kernel)
theorem d_M_init_1 : decode b_M_init 1 = .ok (.invokespecial 1, 3) := dq_s (by decide +kernel)
theorem d_M_init_4 : decode b_M_init 4 = .ok (.aload_n 0, 1) := dq_s (by decide +kernel)
theorem d_M_init_5 : decode b_M_init 5 = .ok (.bipush 30, 2) := dq_s (by decide +kernel)
theorem d_M_init_7 : decode b_M_init 7 = .ok (.newarray .boolean, 2) := dq_s (by decide +kernel)
theorem d_M_init_9 : decode b_M_init 9 = .ok (.putfield 7, 3) := dq_s (by decide +kernel)
theorem d_M_init_12 : decode b_M_init 12 = .ok (.aload_n 0, 1) := dq_s (by decide +kernel)
theorem d_M_init_13 : decode b_M_init 13 = .ok (.bipush 30, 2) := dq_s (by decide +kernel)
theorem d_M_init_15 : decode b_M_init 15 = .ok (.newarray .boolean, 2) := dq_s (by decide +kernel)
theorem d_M_init_17 : decode b_M_init 17 = .ok (.putfield 13, 3) := dq_s (by decide +kernel)
theorem d_M_init_20 : decode b_M_init 20 = .ok (.aload_n 0, 1) := dq_s (by decide +kernel)
theorem d_M_init_21 : decode b_M_init 21 = .ok (.bipush 30, 2) := dq_s (by decide +kernel)
theorem d_M_init_23 : decode b_M_init 23 = .ok (.newarray .int, 2) := dq_s (by decide +kernel)
theorem d_M_init_25 : decode b_M_init 25 = .ok (.putfield 16, 3) := dq_s (by decide +kernel)
theorem d_M_init_28 : decode b_M_init 28 = .ok (.aload_n 0, 1) := dq_s (by decide +kernel)
theorem d_M_init_29 : decode b_M_init 29 = .ok (.sipush 900, 3) := dq_s (by decide +kernel)
theorem d_M_init_32 : decode b_M_init 32 = .ok (.newarray .int, 2) := dq_s (by decide +kernel)
theorem d_M_init_34 : decode b_M_init 34 = .ok (.putfield 20, 3) := dq_s (by decide +kernel)
theorem d_M_init_37 : decode b_M_init 37 = .ok (.aload_n 0, 1) := dq_s (by decide +kernel)
theorem d_M_init_38 : decode b_M_init 38 = .ok (.sipush 900, 3) := dq_s (by decide +kernel)
theorem d_M_init_41 : decode b_M_init 41 = .ok (.newarray .int, 2) := dq_s (by decide +kernel)
theorem d_M_init_43 : decode b_M_init 43 = .ok (.putfield 23, 3) := dq_s (by decide +kernel)
theorem d_M_init_46 : decode b_M_init 46 = .ok (.aload_n 0, 1) := dq_s (by decide +kernel)
theorem d_M_init_47 : decode b_M_init 47 = .ok (.bipush 30, 2) := dq_s (by decide +kernel)
theorem d_M_init_49 : decode b_M_init 49 = .ok (.newarray .int, 2) := dq_s (by decide +kernel)
theorem d_M_init_51 : decode b_M_init 51 = .ok (.putfield 26, 3) := dq_s (by decide +kernel)
theorem d_M_init_54 : decode b_M_init 54 = .ok (.aload_n 0, 1) := dq_s (by decide +kernel)
theorem d_M_init_55 : decode b_M_init 55 = .ok (.sipush 300, 3) := dq_s (by decide +kernel)
theorem d_M_init_58 : decode b_M_init 58 = .ok (.newarray .int, 2) := dq_s (by decide +kernel)
theorem d_M_init_60 : decode b_M_init 60 = .ok (.putfield 29, 3) := dq_s (by decide +kernel)
theorem d_M_init_63 : decode b_M_init 63 = .ok (.aload_n 0, 1) := dq_s (by decide +kernel)
theorem d_M_init_64 : decode b_M_init 64 = .ok (.sipush 300, 3) := dq_s (by decide +kernel)
theorem d_M_init_67 : decode b_M_init 67 = .ok (.newarray .int, 2) := dq_s (by decide +kernel)
theorem d_M_init_69 : decode b_M_init 69 = .ok (.putfield 32, 3) := dq_s (by decide +kernel)
theorem d_M_init_72 : decode b_M_init 72 = .ok (.aload_n 0, 1) := dq_s (by decide +kernel)
theorem d_M_init_73 : decode b_M_init 73 = .ok (.sipush 300, 3) := dq_s (by decide +kernel)
theorem d_M_init_76 : decode b_M_init 76 = .ok (.newarray .int, 2) := dq_s (by decide +kernel)
theorem d_M_init_78 : decode b_M_init 78 = .ok (.putfield 35, 3) := dq_s (by decide +kernel)
theorem d_M_init_81 : decode b_M_init 81 = .ok (.aload_n 0, 1) := dq_s (by decide +kernel)
theorem d_M_init_82 : decode b_M_init 82 = .ok (.sipush 300, 3) := dq_s (by decide +kernel)
theorem d_M_init_85 : decode b_M_init 85 = .ok (.newarray .int, 2) := dq_s (by decide +kernel)
theorem d_M_init_87 : decode b_M_init 87 = .ok (.putfield 38, 3) := dq_s (by decide +kernel)
theorem d_M_init_90 : decode b_M_init 90 = .ok (.aload_n 0, 1) := dq_s (by decide +kernel)
theorem d_M_init_91 : decode b_M_init 91 = .ok (.sipush 300, 3) := dq_s (by decide +kernel)
theorem d_M_init_94 : decode b_M_init 94 = .ok (.newarray .int, 2) := dq_s (by decide +kernel)
theorem d_M_init_96 : decode b_M_init 96 = .ok (.putfield 41, 3) := dq_s (by decide +kernel)
theorem d_M_init_99 : decode b_M_init 99 = .ok (.aload_n 0, 1) := dq_s (by decide +kernel)
theorem d_M_init_100 : decode b_M_init 100 = .ok (.sipush 300, 3) := dq_s (by decide +kernel)
theorem d_M_init_103 : decode b_M_init 103 = .ok (.newarray .int, 2) := dq_s (by decide +kernel)
theorem d_M_init_105 : decode b_M_init 105 = .ok (.putfield 44, 3) := dq_s (by decide +kernel)
theorem d_M_init_108 : decode b_M_init 108 = .ok (.aload_n 0, 1) := dq_s (by decide +kernel)
theorem d_M_init_109 : decode b_M_init 109 = .ok (.sipush 9000, 3) := dq_s (by decide +kernel)
theorem d_M_init_112 : decode b_M_init 112 = .ok (.newarray .int, 2) := dq_s (by decide +kernel)
theorem d_M_init_114 : decode b_M_init 114 = .ok (.putfield 47, 3) := dq_s (by decide +kernel)
theorem d_M_init_117 : decode b_M_init 117 = .ok (.aload_n 0, 1) := dq_s (by decide +kernel)
theorem d_M_init_118 : decode b_M_init 118 = .ok (.bipush 64, 2) := dq_s (by decide +kernel)
theorem d_M_init_120 : decode b_M_init 120 = .ok (.newarray .int, 2) := dq_s (by decide +kernel)
theorem d_M_init_122 : decode b_M_init 122 = .ok (.putfield 50, 3) := dq_s (by decide +kernel)
theorem d_M_init_125 : decode b_M_init 125 = .ok (.aload_n 0, 1) := dq_s (by decide +kernel)
theorem d_M_init_126 : decode b_M_init 126 = .ok (.ldc 53, 2) := dq_s (by decide +kernel)
theorem d_M_init_128 : decode b_M_init 128 = .ok (.newarray .boolean, 2) := dq_s (by decide +kernel)
theorem d_M_init_130 : decode b_M_init 130 = .ok (.putfield 54, 3) := dq_s (by decide +kernel)
theorem d_M_init_133 : decode b_M_init 133 = .ok (.aload_n 0, 1) := dq_s (by decide +kernel)
theorem d_M_init_134 : decode b_M_init 134 = .ok (.sipush 500, 3) := dq_s (by decide +kernel)
theorem d_M_init_137 : decode b_M_init 137 = .ok (.newarray .int, 2) := dq_s (by decide +kernel)
theorem d_M_init_139 : decode b_M_init 139 = .ok (.putfield 57, 3) := dq_s (by decide +kernel)
theorem d_M_init_142 : decode b_M_init 142 = .ok (.aload_n 0, 1) := dq_s (by decide +kernel)
theorem d_M_init_143 : decode b_M_init 143 = .ok (.sipush 500, 3) := dq_s (by decide +kernel)
theorem d_M_init_146 : decode b_M_init 146 = .ok (.newarray .int, 2) := dq_s (by decide +kernel)
theorem d_M_init_148 : decode b_M_init 148 = .ok (.putfield 60, 3) := dq_s (by decide +kernel)
theorem d_M_init_151 : decode b_M_init 151 = .ok (.aload_n 0, 1) := dq_s (by decide +kernel)
theorem d_M_init_152 : decode b_M_init 152 = .ok (.sipush 500, 3) := dq_s (by decide +kernel)
theorem d_M_init_155 : decode b_M_init 155 = .ok (.newarray .int, 2) := dq_s (by decide +kernel)
theorem d_M_init_157 : decode b_M_init 157 = .ok (.putfield 63, 3) := dq_s (by decide +kernel)
theorem d_M_init_160 : decode b_M_init 160 = .ok (.aload_n 0, 1) := dq_s (by decide +kernel)
theorem d_M_init_161 : decode b_M_init 161 = .ok (.sipush 500, 3) := dq_s (by decide +kernel)
theorem d_M_init_164 : decode b_M_init 164 = .ok (.newarray .int, 2) := dq_s (by decide +kernel)
theorem d_M_init_166 : decode b_M_init 166 = .ok (.putfield 66, 3) := dq_s (by decide +kernel)
theorem d_M_init_169 : decode b_M_init 169 = .ok (.aload_n 0, 1) := dq_s (by decide +kernel)
theorem d_M_init_170 : decode b_M_init 170 = .ok (.sipush 500, 3) := dq_s (by decide +kernel)
theorem d_M_init_173 : decode b_M_init 173 = .ok (.newarray .int, 2) := dq_s (by decide +kernel)
theorem d_M_init_175 : decode b_M_init 175 = .ok (.putfield 69, 3) := dq_s (by decide +kernel)
theorem d_M_init_178 : decode b_M_init 178 = .ok (.aload_n 0, 1) := dq_s (by decide +kernel)
theorem d_M_init_179 : decode b_M_init 179 = .ok (.sipush 500, 3) := dq_s (by decide +kernel)
theorem d_M_init_182 : decode b_M_init 182 = .ok (.newarray .int, 2) := dq_s (by decide +kernel)
theorem d_M_init_184 : decode b_M_init 184 = .ok (.putfield 72, 3) := dq_s (by decide +kernel)
theorem d_M_init_187 : decode b_M_init 187 = .ok (.aload_n 0, 1) := dq_s (by decide +kernel)
theorem d_M_init_188 : decode b_M_init 188 = .ok (.sipush 500, 3) := dq_s (by decide +kernel)
theorem d_M_init_191 : decode b_M_init 191 = .ok (.newarray .int, 2) := dq_s (by decide +kernel)
theorem d_M_init_193 : decode b_M_init 193 = .ok (.putfield 75, 3) := dq_s (by decide +kernel)
theorem d_M_init_196 : decode b_M_init 196 = .ok (.aload_n 0, 1) := dq_s (by decide +kernel)
theorem d_M_init_197 : decode b_M_init 197 = .ok (.sipush 15000, 3) := dq_s (by decide +kernel)
theorem d_M_init_200 : decode b_M_init 200 = .ok (.newarray .int, 2) := dq_s (by decide +kernel)
theorem d_M_init_202 : decode b_M_init 202 = .ok (.putfield 78, 3) := dq_s (by decide +kernel)
theorem d_M_init_205 : decode b_M_init 205 = .ok (.aload_n 0, 1) := dq_s (by decide +kernel)
theorem d_M_init_206 : decode b_M_init 206 = .ok (.iload_n 1, 1) := dq_s (by decide +kernel)
theorem d_M_init_207 : decode b_M_init 207 = .ok (.ifCond .ge 7, 3) := dq_s (by decide +kernel)
theorem d_M_init_210 : decode b_M_init 210 = .ok (.iconst 0, 1) := dq_s (by decide +kernel)
theorem d_M_init_211 : decode b_M_init 211 = .ok (.goto 13, 3) := dq_s (by decide +kernel)
theorem d_M_init_214 : decode b_M_init 214 = .ok (.iload_n 1, 1) := dq_s (by decide +kernel)
theorem d_M_init_215 : decode b_M_init 215 = .ok (.iconst 2, 1) := dq_s (by decide +kernel)
theorem d_M_init_216 : decode b_M_init 216 = .ok (.if_icmp .le 7, 3) := dq_s (by decide +kernel)
theorem d_M_init_219 : decode b_M_init 219 = .ok (.iconst 2, 1) := dq_s (by decide +kernel)
theorem d_M_init_220 : decode b_M_init 220 = .ok (.goto 4, 3) := dq_s (by decide +kernel)
theorem d_M_init_223 : decode b_M_init 223 = .ok (.iload_n 1, 1) := dq_s (by decide +kernel)
theorem d_M_init_224 : decode b_M_init 224 = .ok (.putfield 81, 3) := dq_s (by decide +kernel)
theorem d_M_init_227 : decode b_M_init 227 = .ok (.iconst 0, 1) := dq_s (by decide +kernel)
theorem d_M_init_228 : decode b_M_init 228 = .ok (.istore_n 2, 1) := dq_s (by decide +kernel)
theorem d_M_init_229 : decode b_M_init 229 = .ok (.iload_n 2, 1) := dq_s (by decide +kernel)
theorem d_M_init_230 : decode b_M_init 230 = .ok (.bipush 13, 2) := dq_s (by decide +kernel)
theorem d_M_init_232 : decode b_M_init 232 = .ok (.if_icmp .ge 98, 3) := dq_s (by decide +kernel)
theorem d_M_init_235 : decode b_M_init 235 = .ok (.aload_n 0, 1) := dq_s (by decide +kernel)
theorem d_M_init_236 : decode b_M_init 236 = .ok (.getfield 7, 3) := dq_s (by decide +kernel)
theorem d_M_init_239 : decode b_M_init 239 = .ok (.iload_n 2, 1) := dq_s (by decide +kernel)
theorem d_M_init_240 : decode b_M_init 240 = .ok (.iload_n 2, 1) := dq_s (by decide +kernel)
theorem d_M_init_241 : decode b_M_init 241 = .ok (.ifCond .le 12, 3) := dq_s (by decide +kernel)
theorem d_M_init_244 : decode b_M_init 244 = .ok (.iload_n 2, 1) := dq_s (by decide +kernel)
theorem d_M_init_245 : decode b_M_init 245 = .ok (.iconst 4, 1) := dq_s (by decide +kernel)
theorem d_M_init_246 : decode b_M_init 246 = .ok (.if_icmp .ge 7, 3) := dq_s (by decide +kernel)
theorem d_M_init_249 : decode b_M_init 249 = .ok (.iconst 1, 1) := dq_s (by decide +kernel)
theorem d_M_init_250 : decode b_M_init 250 = .ok (.goto 4, 3) := dq_s (by decide +kernel)
theorem d_M_init_253 : decode b_M_init 253 = .ok (.iconst 0, 1) := dq_s (by decide +kernel)
theorem d_M_init_254 : decode b_M_init 254 = .ok (.bastore, 1) := dq_s (by decide +kernel)
theorem d_M_init_255 : decode b_M_init 255 = .ok (.aload_n 0, 1) := dq_s (by decide +kernel)
theorem d_M_init_256 : decode b_M_init 256 = .ok (.getfield 13, 3) := dq_s (by decide +kernel)
theorem d_M_init_259 : decode b_M_init 259 = .ok (.iload_n 2, 1) := dq_s (by decide +kernel)
theorem d_M_init_260 : decode b_M_init 260 = .ok (.iload_n 2, 1) := dq_s (by decide +kernel)
theorem d_M_init_261 : decode b_M_init 261 = .ok (.iconst 3, 1) := dq_s (by decide +kernel)
theorem d_M_init_262 : decode b_M_init 262 = .ok (.if_icmp .ne 7, 3) := dq_s (by decide +kernel)
theorem d_M_init_265 : decode b_M_init 265 = .ok (.iconst 1, 1) := dq_s (by decide +kernel)
theorem d_M_init_266 : decode b_M_init 266 = .ok (.goto 4, 3) := dq_s (by decide +kernel)
theorem d_M_init_269 : decode b_M_init 269 = .ok (.iconst 0, 1) := dq_s (by decide +kernel)
theorem d_M_init_270 : decode b_M_init 270 = .ok (.bastore, 1) := dq_s (by decide +kernel)
theorem d_M_init_271 : decode b_M_init 271 = .ok (.iload_n 2, 1) := dq_s (by decide +kernel)
theorem d_M_init_272 : decode b_M_init 272 = .ok (.ifCond .le 26, 3) := dq_s (by decide +kernel)
theorem d_M_init_275 : decode b_M_init 275 = .ok (.aload_n 0, 1) := dq_s (by decide +kernel)
theorem d_M_init_276 : decode b_M_init 276 = .ok (.iload_n 2, 1) := dq_s (by decide +kernel)
theorem d_M_init_277 : decode b_M_init 277 = .ok (.iload_n 2, 1) := dq_s (by decide +kernel)
theorem d_M_init_278 : decode b_M_init 278 = .ok (.bipush 6, 2) := dq_s (by decide +kernel)
theorem d_M_init_280 : decode b_M_init 280 = .ok (.if_icmp .lt 9, 3) := dq_s (by decide +kernel)
theorem d_M_init_283 : decode b_M_init 283 = .ok (.iload_n 2, 1) := dq_s (by decide +kernel)
theorem d_M_init_284 : decode b_M_init 284 = .ok (.bipush 8, 2) := dq_s (by decide +kernel)
theorem d_M_init_286 : decode b_M_init 286 = .ok (.if_icmp .ne 7, 3) := dq_s (by decide +kernel)
theorem d_M_init_289 : decode b_M_init 289 = .ok (.iconst 0, 1) := dq_s (by decide +kernel)
theorem d_M_init_290 : decode b_M_init 290 = .ok (.goto 4, 3) := dq_s (by decide +kernel)
theorem d_M_init_293 : decode b_M_init 293 = .ok (.iconst 4, 1) := dq_s (by decide +kernel)
theorem d_M_init_294 : decode b_M_init 294 = .ok (.iconst (-1), 1) := dq_s (by decide +kernel)
theorem d_M_init_295 : decode b_M_init 295 = .ok (.invokevirtual 85, 3) := dq_s (by decide +kernel)
theorem d_M_init_298 : decode b_M_init 298 = .ok (.iload_n 2, 1) := dq_s (by decide +kernel)
theorem d_M_init_299 : decode b_M_init 299 = .ok (.iconst 3, 1) := dq_s (by decide +kernel)
theorem d_M_init_300 : decode b_M_init 300 = .ok (.if_icmp .le 10, 3) := dq_s (by decide +kernel)
theorem d_M_init_303 : decode b_M_init 303 = .ok (.aload_n 0, 1) := dq_s (by decide +kernel)
theorem d_M_init_304 : decode b_M_init 304 = .ok (.iload_n 2, 1) := dq_s (by decide +kernel)
theorem d_M_init_305 : decode b_M_init 305 = .ok (.iconst 2, 1) := dq_s (by decide +kernel)
theorem d_M_init_306 : decode b_M_init 306 = .ok (.iconst (-1), 1) := dq_s (by decide +kernel)
theorem d_M_init_307 : decode b_M_init 307 = .ok (.invokevirtual 85, 3) := dq_s (by decide +kernel)
theorem d_M_init_310 : decode b_M_init 310 = .ok (.iload_n 2, 1) := dq_s (by decide +kernel)
theorem d_M_init_311 : decode b_M_init 311 = .ok (.iconst 4, 1) := dq_s (by decide +kernel)
theorem d_M_init_312 : decode b_M_init 312 = .ok (.if_icmp .le 12, 3) := dq_s (by decide +kernel)
theorem d_M_init_315 : decode b_M_init 315 = .ok (.aload_n 0, 1) := dq_s (by decide +kernel)
theorem d_M_init_316 : decode b_M_init 316 = .ok (.iload_n 2, 1) := dq_s (by decide +kernel)
theorem d_M_init_317 : decode b_M_init 317 = .ok (.iconst 3, 1) := dq_s (by decide +kernel)
theorem d_M_init_318 : decode b_M_init 318 = .ok (.iload_n 2, 1) := dq_s (by decide +kernel)
theorem d_M_init_319 : decode b_M_init 319 = .ok (.iconst 3, 1) := dq_s (by decide +kernel)
theorem d_M_init_320 : decode b_M_init 320 = .ok (.iadd, 1) := dq_s (by decide +kernel)
theorem d_M_init_321 : decode b_M_init 321 = .ok (.invokevirtual 85, 3) := dq_s (by decide +kernel)
theorem d_M_init_324 : decode b_M_init 324 = .ok (.iinc 2 1, 3) := dq_s (by decide +kernel)
theorem d_M_init_327 : decode b_M_init 327 = .ok (.goto (-98), 3) := dq_s (by decide +kernel)
theorem d_M_init_330 : decode b_M_init 330 = .ok (.aload_n 0, 1) := dq_s (by decide +kernel)
theorem d_M_init_331 : decode b_M_init 331 = .ok (.bipush 13, 2) := dq_s (by decide +kernel)
theorem d_M_init_333 : decode b_M_init 333 = .ok (.putfield 89, 3) := dq_s (by decide +kernel)
theorem d_M_init_336 : decode b_M_init 336 = .ok (.aload_n 0, 1) := dq_s (by decide +kernel)
theorem d_M_init_337 : decode b_M_init 337 = .ok (.iconst 1, 1) := dq_s (by decide +kernel)
theorem d_M_init_338 : decode b_M_init 338 = .ok (.putfield 92, 3) := dq_s (by decide +kernel)
theorem d_M_init_341 : decode b_M_init 341 = .ok (.iconst 0, 1) := dq_s (by decide +kernel)
theorem d_M_init_342 : decode b_M_init 342 = .ok (.istore_n 2, 1) := dq_s (by decide +kernel)
theorem d_M_init_343 : decode b_M_init 343 = .ok (.iload_n 2, 1) := dq_s (by decide +kernel)
theorem d_M_init_344 : decode b_M_init 344 = .ok (.aload_n 0, 1) := dq_s (by decide +kernel)
theorem d_M_init_345 : decode b_M_init 345 = .ok (.getfield 89, 3) := dq_s (by decide +kernel)
theorem d_M_init_348 : decode b_M_init 348 = .ok (.if_icmp .ge 14, 3) := dq_s (by decide +kernel)
theorem d_M_init_351 : decode b_M_init 351 = .ok (.aload_n 0, 1) := dq_s (by decide +kernel)
theorem d_M_init_352 : decode b_M_init 352 = .ok (.iload_n 2, 1) := dq_s (by decide +kernel)
theorem d_M_init_353 : decode b_M_init 353 = .ok (.invokevirtual 95, 3) := dq_s (by decide +kernel)
theorem d_M_init_356 : decode b_M_init 356 = .ok (.iinc 2 1, 3) := dq_s (by decide +kernel)
theorem d_M_init_359 : decode b_M_init 359 = .ok (.goto (-16), 3) := dq_s (by decide +kernel)
theorem d_M_init_362 : decode b_M_init 362 = .ok (.iconst 0, 1) := dq_s (by decide +kernel)
theorem d_M_init_363 : decode b_M_init 363 = .ok (.istore_n 2, 1) := dq_s (by decide +kernel)
theorem d_M_init_364 : decode b_M_init 364 = .ok (.iload_n 2, 1) := dq_s (by decide +kernel)
theorem d_M_init_365 : decode b_M_init 365 = .ok (.bipush 16, 2) := dq_s (by decide +kernel)
theorem d_M_init_367 : decode b_M_init 367 = .ok (.if_icmp .ge 103, 3) := dq_s (by decide +kernel)
theorem d_M_init_370 : decode b_M_init 370 = .ok (.aload_n 0, 1) := dq_s (by decide +kernel)
theorem d_M_init_371 : decode b_M_init 371 = .ok (.getfield 29, 3) := dq_s (by decide +kernel)
theorem d_M_init_374 : decode b_M_init 374 = .ok (.iload_n 2, 1) := dq_s (by decide +kernel)
theorem d_M_init_375 : decode b_M_init 375 = .ok (.iload_n 2, 1) := dq_s (by decide +kernel)
theorem d_M_init_376 : decode b_M_init 376 = .ok (.bipush 8, 2) := dq_s (by decide +kernel)
theorem d_M_init_378 : decode b_M_init 378 = .ok (.if_icmp .ge 7, 3) := dq_s (by decide +kernel)
theorem d_M_init_381 : decode b_M_init 381 = .ok (.iconst 0, 1) := dq_s (by decide +kernel)
theorem d_M_init_382 : decode b_M_init 382 = .ok (.goto 4, 3) := dq_s (by decide +kernel)
theorem d_M_init_385 : decode b_M_init 385 = .ok (.iconst 1, 1) := dq_s (by decide +kernel)
theorem d_M_init_386 : decode b_M_init 386 = .ok (.iastore, 1) := dq_s (by decide +kernel)
theorem d_M_init_387 : decode b_M_init 387 = .ok (.aload_n 0, 1) := dq_s (by decide +kernel)
theorem d_M_init_388 : decode b_M_init 388 = .ok (.getfield 32, 3) := dq_s (by decide +kernel)
theorem d_M_init_391 : decode b_M_init 391 = .ok (.iload_n 2, 1) := dq_s (by decide +kernel)
theorem d_M_init_392 : decode b_M_init 392 = .ok (.iload_n 2, 1) := dq_s (by decide +kernel)
theorem d_M_init_393 : decode b_M_init 393 = .ok (.bipush 8, 2) := dq_s (by decide +kernel)
theorem d_M_init_395 : decode b_M_init 395 = .ok (.if_icmp .ge 7, 3) := dq_s (by decide +kernel)
theorem d_M_init_398 : decode b_M_init 398 = .ok (.iconst (-1), 1) := dq_s (by decide +kernel)
theorem d_M_init_399 : decode b_M_init 399 = .ok (.goto 6, 3) := dq_s (by decide +kernel)
theorem d_M_init_402 : decode b_M_init 402 = .ok (.iload_n 2, 1) := dq_s (by decide +kernel)
theorem d_M_init_403 : decode b_M_init 403 = .ok (.iconst 3, 1) := dq_s (by decide +kernel)
theorem d_M_init_404 : decode b_M_init 404 = .ok (.isub, 1) := dq_s (by decide +kernel)
theorem d_M_init_405 : decode b_M_init 405 = .ok (.iastore, 1) := dq_s (by decide +kernel)
theorem d_M_init_406 : decode b_M_init 406 = .ok (.aload_n 0, 1) := dq_s (by decide +kernel)
theorem d_M_init_407 : decode b_M_init 407 = .ok (.getfield 35, 3) := dq_s (by decide +kernel)
theorem d_M_init_410 : decode b_M_init 410 = .ok (.iload_n 2, 1) := dq_s (by decide +kernel)
theorem d_M_init_411 : decode b_M_init 411 = .ok (.iload_n 2, 1) := dq_s (by decide +kernel)
theorem d_M_init_412 : decode b_M_init 412 = .ok (.bipush 8, 2) := dq_s (by decide +kernel)
theorem d_M_init_414 : decode b_M_init 414 = .ok (.if_icmp .ge 7, 3) := dq_s (by decide +kernel)
theorem d_M_init_417 : decode b_M_init 417 = .ok (.iconst (-1), 1) := dq_s (by decide +kernel)
theorem d_M_init_418 : decode b_M_init 418 = .ok (.goto 4, 3) := dq_s (by decide +kernel)
theorem d_M_init_421 : decode b_M_init 421 = .ok (.iconst 0, 1) := dq_s (by decide +kernel)
theorem d_M_init_422 : decode b_M_init 422 = .ok (.iastore, 1) := dq_s (by decide +kernel)
theorem d_M_init_423 : decode b_M_init 423 = .ok (.aload_n 0, 1) := dq_s (by decide +kernel)
theorem d_M_init_424 : decode b_M_init 424 = .ok (.getfield 38, 3) := dq_s (by decide +kernel)
theorem d_M_init_427 : decode b_M_init 427 = .ok (.iload_n 2, 1) := dq_s (by decide +kernel)
theorem d_M_init_428 : decode b_M_init 428 = .ok (.iconst (-1), 1) := dq_s (by decide +kernel)
theorem d_M_init_429 : decode b_M_init 429 = .ok (.iastore, 1) := dq_s (by decide +kernel)
theorem d_M_init_430 : decode b_M_init 430 = .ok (.aload_n 0, 1) := dq_s (by decide +kernel)
theorem d_M_init_431 : decode b_M_init 431 = .ok (.getfield 41, 3) := dq_s (by decide +kernel)
theorem d_M_init_434 : decode b_M_init 434 = .ok (.iload_n 2, 1) := dq_s (by decide +kernel)
theorem d_M_init_435 : decode b_M_init 435 = .ok (.iconst 1, 1) := dq_s (by decide +kernel)
theorem d_M_init_436 : decode b_M_init 436 = .ok (.iastore, 1) := dq_s (by decide +kernel)
theorem d_M_init_437 : decode b_M_init 437 = .ok (.aload_n 0, 1) := dq_s (by decide +kernel)
theorem d_M_init_438 : decode b_M_init 438 = .ok (.getfield 44, 3) := dq_s (by decide +kernel)
theorem d_M_init_441 : decode b_M_init 441 = .ok (.iload_n 2, 1) := dq_s (by decide +kernel)
theorem d_M_init_442 : decode b_M_init 442 = .ok (.iload_n 2, 1) := dq_s (by decide +kernel)
theorem d_M_init_443 : decode b_M_init 443 = .ok (.bipush 8, 2) := dq_s (by decide +kernel)
theorem d_M_init_445 : decode b_M_init 445 = .ok (.if_icmp .ge 7, 3) := dq_s (by decide +kernel)
theorem d_M_init_448 : decode b_M_init 448 = .ok (.iconst 0, 1) := dq_s (by decide +kernel)
theorem d_M_init_449 : decode b_M_init 449 = .ok (.goto 4, 3) := dq_s (by decide +kernel)
theorem d_M_init_452 : decode b_M_init 452 = .ok (.iconst 1, 1) := dq_s (by decide +kernel)
theorem d_M_init_453 : decode b_M_init 453 = .ok (.iastore, 1) := dq_s (by decide +kernel)
theorem d_M_init_454 : decode b_M_init 454 = .ok (.aload_n 0, 1) := dq_s (by decide +kernel)
theorem d_M_init_455 : decode b_M_init 455 = .ok (.getfield 47, 3) := dq_s (by decide +kernel)
theorem d_M_init_458 : decode b_M_init 458 = .ok (.bipush 30, 2) := dq_s (by decide +kernel)
theorem d_M_init_460 : decode b_M_init 460 = .ok (.iload_n 2, 1) := dq_s (by decide +kernel)
theorem d_M_init_461 : decode b_M_init 461 = .ok (.imul, 1) := dq_s (by decide +kernel)
theorem d_M_init_462 : decode b_M_init 462 = .ok (.iload_n 2, 1) := dq_s (by decide +kernel)
theorem d_M_init_463 : decode b_M_init 463 = .ok (.iastore, 1) := dq_s (by decide +kernel)
theorem d_M_init_464 : decode b_M_init 464 = .ok (.iinc 2 1, 3) := dq_s (by decide +kernel)
theorem d_M_init_467 : decode b_M_init 467 = .ok (.goto (-103), 3) := dq_s (by decide +kernel)
theorem d_M_init_470 : decode b_M_init 470 = .ok (.aload_n 0, 1) := dq_s (by decide +kernel)
theorem d_M_init_471 : decode b_M_init 471 = .ok (.bipush 16, 2) := dq_s (by decide +kernel)
theorem d_M_init_473 : decode b_M_init 473 = .ok (.putfield 99, 3) := dq_s (by decide +kernel)
theorem d_M_init_476 : decode b_M_init 476 = .ok (.return_, 1) := dq_s (by decide +kernel)
theorem d_L_init_0 : decode b_L_init 0 = .ok (.aload_n 0, 1) := dq_s (by decide +kernel)
theorem d_L_init_1 : decode b_L_init 1 = .ok (.invokespecial 1, 3) := dq_s (by decide +kernel)
theorem d_L_init_4 : decode b_L_init 4 = .ok (.aload_n 0, 1) := dq_s (by decide +kernel)
theorem d_L_init_5 : decode b_L_init 5 = .ok (.iconst 0, 1) := dq_s (by decide +kernel)
theorem d_L_init_6 : decode b_L_init 6 = .ok (.iconst 2, 1) := dq_s (by decide +kernel)
theorem d_L_init_7 : decode b_L_init 7 = .ok (.iload_n 1, 1) := dq_s (by decide +kernel)
theorem d_L_init_8 : decode b_L_init 8 = .ok (.invokestatic 9, 3) := dq_s (by decide +kernel)
theorem d_L_init_11 : decode b_L_init 11 = .ok (.invokestatic 15, 3) := dq_s (by decide +kernel)
theorem d_L_init_14 : decode b_L_init 14 = .ok (.putfield 18, 3) := dq_s (by decide +kernel)
theorem d_L_init_17 : decode b_L_init 17 = .ok (.aload_n 0, 1) := dq_s (by decide +kernel)
theorem d_L_init_18 : decode b_L_init 18 = .ok (.new 22, 3) := dq_s (by decide +kernel)
theorem d_L_init_21 : decode b_L_init 21 = .ok (.dup, 1) := dq_s (by decide +kernel)
theorem d_L_init_22 : decode b_L_init 22 = .ok (.invokespecial 24, 3) := dq_s (by decide +kernel)
theorem d_L_init_25 : decode b_L_init 25 = .ok (.putfield 25, 3) := dq_s (by decide +kernel)
theorem d_L_init_28 : decode b_L_init 28 = .ok (.aload_n 0, 1) := dq_s (by decide +kernel)
theorem d_L_init_29 : decode b_L_init 29 = .ok (.new 29, 3) := dq_s (by decide +kernel)
theorem d_L_init_32 : decode b_L_init 32 = .ok (.dup, 1) := dq_s (by decide +kernel)
theorem d_L_init_33 : decode b_L_init 33 = .ok (.invokespecial 31, 3) := dq_s (by decide +kernel)
theorem d_L_init_36 : decode b_L_init 36 = .ok (.putfield 32, 3) := dq_s (by decide +kernel)
theorem d_L_init_39 : decode b_L_init 39 = .ok (.aload_n 0, 1) := dq_s (by decide +kernel)
theorem d_L_init_40 : decode b_L_init 40 = .ok (.new 36, 3) := dq_s (by decide +kernel)
theorem d_L_init_43 : decode b_L_init 43 = .ok (.dup, 1) := dq_s (by decide +kernel)
theorem d_L_init_44 : decode b_L_init 44 = .ok (.invokespecial 38, 3) := dq_s (by decide +kernel)
theorem d_L_init_47 : decode b_L_init 47 = .ok (.putfield 39, 3) := dq_s (by decide +kernel)
theorem d_L_init_50 : decode b_L_init 50 = .ok (.aload_n 0, 1) := dq_s (by decide +kernel)
theorem d_L_init_51 : decode b_L_init 51 = .ok (.bipush 90, 2) := dq_s (by decide +kernel)
theorem d_L_init_53 : decode b_L_init 53 = .ok (.newarray .int, 2) := dq_s (by decide +kernel)
theorem d_L_init_55 : decode b_L_init 55 = .ok (.putfield 43, 3) := dq_s (by decide +kernel)
theorem d_L_init_58 : decode b_L_init 58 = .ok (.aload_n 0, 1) := dq_s (by decide +kernel)
theorem d_L_init_59 : decode b_L_init 59 = .ok (.bipush 60, 2) := dq_s (by decide +kernel)
theorem d_L_init_61 : decode b_L_init 61 = .ok (.newarray .int, 2) := dq_s (by decide +kernel)
theorem d_L_init_63 : decode b_L_init 63 = .ok (.putfield 47, 3) := dq_s (by decide +kernel)
theorem d_L_init_66 : decode b_L_init 66 = .ok (.return_, 1) := dq_s (by decide +kernel)
-- part 07.71ctorA.lean.txt
def f_A_init_13 (σ : StA) : Option (Int32 × StA) :=
  some (0, (A_set_empty σ 1))
set_option maxHeartbeats 4000000 in
set_option maxRecDepth 100000 in
theorem t_A_init_13 {p : Program} {l : Launch} {e : Env} {s : State} {m : MethodId} {args : Array Value} {below : List Frame} {meth : Method} {c : Code} {D : va_G} {cI cZ : ClassId} {a : Nat → Nat} {A : Nat → Prop} (C0 : Am p s m args meth c b_A_init none 1 R_A D [(cI, .int), (cZ, .boolean)]) {kc ks : Nat} (hin2 : meth.name = "<init>") (hA : ∀ q, s.heap.size ≤ q → A q) {res : Int32 × StA}   {q : Nat} {σ : StA} (h : f_A_init_13 σ = some res) {H : Heap} {locs : List Loc} (hP : va_P D vwCl (wA cI cZ a q σ) H) (hD : va_D A (wA cI cZ a q σ)) (hS : va_S A s.heap H locs) {ls : Array Slot} (hl : lv_has ls 1 [(0, .ref (a 18))]) : W p l e (rmK 1 20 kc ks) s m args below meth c H locs kc ks (RwQv below args s D A (fun q (σ : StA) => (wA cI cZ a q σ)) res kc ks) (F0 m 13 ls []) := by
  obtain ⟨hx, hb, hr, hml, hown, hts, hlk, hK⟩ := id C0
  unfold f_A_init_13 at h
  refine lv_aload_n hx hb d_A_init_13 rfl (lv_at hl 0 rfl) ?_
  refine lv_iconst (v := 1) hx hb d_A_init_14 (by decide) ?_
  refine rw_put (v := .int 1) (fty := .boolean) (C := R_A) (T := F_A) (N := 2) C0 hP hD hS i_A ty_A tyok_A nn_A 0 rfl rfl 1 (by decide) (hts _ wd_128) rfl rfl (by decide +kernel) rfl rfl (Nat.le_of_ble_eq_true rfl) d_A_init_15 (Wn := (wA cI cZ a q (A_set_empty σ 1))) ws_A_set_empty (fun H locs hP hD hS => ?_)
  exact rw_retv C0 hP hD hS (Option.some.inj h) d_A_init_18
-- part 07.71ctorC.lean.txt
def f_C_init_137 (k108 : StC → Int32 → Option (Int32 × StC)) (σ : StC) (x1 : Int32) : Option (Int32 × StC) :=
  (f_C_put σ 2 (-1)).bind fun r8 =>
  (f_C_put r8.2 3 (f_L_boxTypeOf x1)).bind fun r9 =>
  k108 r9.2 (x1 + 1)
def f_C_init_108_s (k108 : StC → Int32 → Option (Int32 × StC)) (σ : StC) (x1 : Int32) : Option (Int32 × StC) :=
  if 8 ≤ x1 then
    some (0, σ)
  else
    (f_C_add σ 0 0).bind fun r7 =>
    if x1 = 0 then
      f_C_init_137 k108 r7.2 x1
    else
      if x1 = 3 then
        f_C_init_137 k108 r7.2 x1
      else
        (f_C_put r7.2 4 (-1)).bind fun r10 =>
        f_C_init_137 k108 r10.2 x1
def f_C_init_108 : Nat → StC → Int32 → Option (Int32 × StC)
  | 0, _, _ => none
  | n + 1, σ, x1 => f_C_init_108_s (f_C_init_108 n) σ x1
def f_C_init_54 (σ : StC) : Option (Int32 × StC) :=
  (f_C_add (C_set_countGeneric (C_set_count σ 0) 0) 0 0).bind fun r1 =>
  (f_C_add r1.2 1 0).bind fun r2 =>
  (f_C_add r2.2 1 0).bind fun r3 =>
  (f_C_add r3.2 1 1).bind fun r4 =>
  (f_C_add r4.2 0 0).bind fun r5 =>
  (f_C_put r5.2 2 (-1)).bind fun r6 =>
  f_C_init_108 1000 r6.2 0
set_option maxHeartbeats 4000000 in
set_option maxRecDepth 100000 in
theorem t_C_init_137 {p : Program} {l : Launch} {e : Env} {s : State} {m : MethodId} {args : Array Value} {below : List Frame} {meth : Method} {c : Code} {D : va_G} {cI cZ : ClassId} {a : Nat → Nat} {A : Nat → Prop} (C0 : Am p s m args meth c b_C_init none 2 R_C D [(cI, .int), (cZ, .boolean)]) {kc ks : Nat} (hin2 : meth.name = "<init>") (hA : ∀ q, s.heap.size ≤ q → A q) {res : Int32 × StC} {k108 : StC → Int32 → Option (Int32 × StC)} (hk108 : ∀ (q : Nat) (σ : StC) (x1 : Int32) (H : Heap) (locs : List Loc) (ls : Array Slot), k108 σ x1 = some res → va_P D vwCl (wC cI cZ a q σ) H → va_D A (wC cI cZ a q σ) → va_S A s.heap H locs → lv_has ls 2 [(0, .ref (a 3)), (1, .int x1)] → W p l e (rmK 4 90 kc ks) s m args below meth c H locs kc ks (RwQv below args s D A (fun q (σ : StC) => (wC cI cZ a q σ)) res kc ks) (F0 m 108 ls []))  {q : Nat} {σ : StC} {x1 : Int32} (h : f_C_init_137 k108 σ x1 = some res) {H : Heap} {locs : List Loc} (hP : va_P D vwCl (wC cI cZ a q σ) H) (hD : va_D A (wC cI cZ a q σ)) (hS : va_S A s.heap H locs) {ls : Array Slot} (hl : lv_has ls 2 [(0, .ref (a 3)), (1, .int x1)]) : W p l e (rmK 4 90 kc ks) s m args below meth c H locs kc ks (RwQv below args s D A (fun q (σ : StC) => (wC cI cZ a q σ)) res kc ks) (F0 m 137 ls []) := by
  obtain ⟨hx, hb, hr, hml, hown, hts, hlk, hK⟩ := id C0
  unfold f_C_init_137 at h
  refine lv_aload_n hx hb d_C_init_137 rfl (lv_at hl 0 rfl) ?_
  refine lv_iconst (v := 2) hx hb d_C_init_138 (by decide) ?_
  refine lv_iconst (v := (-1)) hx hb d_C_init_139 (by decide) ?_
  replace h := bd h
  obtain ⟨r8, g8, h⟩ := h
  refine rw_V (n := 2) (ci := 1) (As := [.int 2, .int (-1)]) (rest := []) (Wn := fun _ => (wC cI cZ a q r8.2)) C0 hA (c_C_put l D cI cZ a q σ 2 (-1) g8) wd_488 ⟨wd_157, wd_158, wd_159, wd_8⟩ (by decide +kernel) ⟨Nat.le_of_ble_eq_true rfl, Nat.le_of_ble_eq_true rfl⟩ hP hD hS [0, 1, 2, 3, 4, 5, 6] [] [0, 1, 2, 3, 4, 5, 6] jn_C__C (by decide) jn_C__R (by decide) (by decide) (by decide) jn_C__W rfl rfl rfl hl rfl rfl (Nat.le_of_ble_eq_true rfl) ⟨Nat.le_refl _, Nat.le_refl _⟩ d_C_init_140 (fun H locs _ hP hD hS => ?_)
  try dsimp only at h
  refine lv_pop hx hb d_C_init_143 rfl ?_
  refine lv_aload_n hx hb d_C_init_144 rfl (lv_at hl 0 rfl) ?_
  refine lv_iconst (v := 3) hx hb d_C_init_145 (by decide) ?_
  refine lv_iload_n hx hb d_C_init_146 rfl (lv_at hl 1 rfl) ?_
  refine ro_SN (n := 1) (As := [.int x1]) (rest := [.int 3, .ref (a 3)]) C0 (c_L_boxTypeOf l D cI cZ a x1 rfl) (List.mem_of_getElem? (i := 0) rfl) ⟨wd_193, wd_194, wd_55⟩ (by decide +kernel) ⟨Nat.le_of_ble_eq_true rfl, Nat.le_of_ble_eq_true rfl⟩ pnil hl rfl rfl (Nat.le_of_ble_eq_true rfl) ⟨Nat.le_refl _, Nat.le_refl _⟩ d_C_init_147 ?_
  replace h := bd h
  obtain ⟨r9, g9, h⟩ := h
  refine rw_V (n := 2) (ci := 1) (As := [.int 3, .int (f_L_boxTypeOf x1)]) (rest := []) (Wn := fun _ => (wC cI cZ a q r9.2)) C0 hA (c_C_put l D cI cZ a q r8.2 3 (f_L_boxTypeOf x1) g9) wd_488 ⟨wd_157, wd_158, wd_159, wd_8⟩ (by decide +kernel) ⟨Nat.le_of_ble_eq_true rfl, Nat.le_of_ble_eq_true rfl⟩ hP hD hS [0, 1, 2, 3, 4, 5, 6] [] [0, 1, 2, 3, 4, 5, 6] jn_C__C (by decide) jn_C__R (by decide) (by decide) (by decide) jn_C__W rfl rfl rfl hl rfl rfl (Nat.le_of_ble_eq_true rfl) ⟨Nat.le_refl _, Nat.le_refl _⟩ d_C_init_150 (fun H locs _ hP hD hS => ?_)
  try dsimp only at h
  refine lv_pop hx hb d_C_init_153 rfl ?_
  refine lv_iinc (v := (x1 + 1)) (lv' := [(1, .int (x1 + 1)), (0, .ref (a 3))]) hx hb d_C_init_154 hl (k := 1) rfl rfl (by decide) rfl (fun ls hl => ?_)
  refine lv_goto (tgt := 108) hx hb d_C_init_157 (by decide) ?_
  exact hk108 _ _ _ _ _ _ h hP hD hS (lv_sub hl [1, 0] rfl)
set_option maxHeartbeats 4000000 in
set_option maxRecDepth 100000 in
theorem t_C_init_108_s {p : Program} {l : Launch} {e : Env} {s : State} {m : MethodId} {args : Array Value} {below : List Frame} {meth : Method} {c : Code} {D : va_G} {cI cZ : ClassId} {a : Nat → Nat} {A : Nat → Prop} (C0 : Am p s m args meth c b_C_init none 2 R_C D [(cI, .int), (cZ, .boolean)]) {kc ks : Nat} (hin2 : meth.name = "<init>") (hA : ∀ q, s.heap.size ≤ q → A q) {res : Int32 × StC} {k108 : StC → Int32 → Option (Int32 × StC)}  (hk108 : ∀ (q : Nat) (σ : StC) (x1 : Int32) (H : Heap) (locs : List Loc) (ls : Array Slot), k108 σ x1 = some res → va_P D vwCl (wC cI cZ a q σ) H → va_D A (wC cI cZ a q σ) → va_S A s.heap H locs → lv_has ls 2 [(0, .ref (a 3)), (1, .int x1)] → W p l e (rmK 4 90 kc ks) s m args below meth c H locs kc ks (RwQv below args s D A (fun q (σ : StC) => (wC cI cZ a q σ)) res kc ks) (F0 m 108 ls [])) {q : Nat} {σ : StC} {x1 : Int32} (h : f_C_init_108_s k108 σ x1 = some res) {H : Heap} {locs : List Loc} (hP : va_P D vwCl (wC cI cZ a q σ) H) (hD : va_D A (wC cI cZ a q σ)) (hS : va_S A s.heap H locs) {ls : Array Slot} (hl : lv_has ls 2 [(0, .ref (a 3)), (1, .int x1)]) : W p l e (rmK 4 90 kc ks) s m args below meth c H locs kc ks (RwQv below args s D A (fun q (σ : StC) => (wC cI cZ a q σ)) res kc ks) (F0 m 108 ls []) := by
  obtain ⟨hx, hb, hr, hml, hown, hts, hlk, hK⟩ := id C0
  unfold f_C_init_108_s at h
  refine lv_iload_n hx hb d_C_init_108 rfl (lv_at hl 1 rfl) ?_
  refine lv_bipush (v := 8) hx hb d_C_init_109 (by decide) ?_
  refine lv_icmp_ge (tgt := 160) hx hb d_C_init_111 (by decide) (fun hc => ?_) (fun hc => ?_)
  · rw [if_pos hc] at h
    exact rw_retv C0 hP hD hS (Option.some.inj h) d_C_init_160
  · rw [if_neg hc] at h
    refine lv_aload_n hx hb d_C_init_114 rfl (lv_at hl 0 rfl) ?_
    refine lv_iconst (v := 0) hx hb d_C_init_115 (by decide) ?_
    refine lv_iconst (v := 0) hx hb d_C_init_116 (by decide) ?_
    replace h := bd h
    obtain ⟨r7, g7, h⟩ := h
    refine rw_V (n := 2) (ci := 1) (As := [.int 0, .int 0]) (rest := []) (Wn := fun _ => (wC cI cZ a q r7.2)) C0 hA (c_C_add l D cI cZ a q σ 0 0 g7) wd_487 ⟨wd_73, wd_74, wd_75, wd_8⟩ (by decide +kernel) ⟨Nat.le_of_ble_eq_true rfl, Nat.le_of_ble_eq_true rfl⟩ hP hD hS [0, 1, 2, 3, 4, 5, 6] [] [0, 1, 2, 3, 4, 5, 6] jn_C__C (by decide) jn_C__R (by decide) (by decide) (by decide) jn_C__W rfl rfl rfl hl rfl rfl (Nat.le_of_ble_eq_true rfl) ⟨Nat.le_refl _, Nat.le_refl _⟩ d_C_init_117 (fun H locs _ hP hD hS => ?_)
    try dsimp only at h
    refine lv_pop hx hb d_C_init_120 rfl ?_
    refine lv_iload_n hx hb d_C_init_121 rfl (lv_at hl 1 rfl) ?_
    refine lv_if_eq (tgt := 137) hx hb d_C_init_122 (by decide) (fun hc => ?_) (fun hc => ?_)
    · rw [if_pos hc] at h
      exact t_C_init_137 (a := a) C0 hin2 hA hk108 h hP hD hS (lv_sub hl [0, 1] rfl)
    · rw [if_neg hc] at h
      refine lv_iload_n hx hb d_C_init_125 rfl (lv_at hl 1 rfl) ?_
      refine lv_iconst (v := 3) hx hb d_C_init_126 (by decide) ?_
      refine lv_icmp_eq (tgt := 137) hx hb d_C_init_127 (by decide) (fun hc => ?_) (fun hc => ?_)
      · rw [if_pos hc] at h
        exact t_C_init_137 (a := a) C0 hin2 hA hk108 h hP hD hS (lv_sub hl [0, 1] rfl)
      · rw [if_neg hc] at h
        refine lv_aload_n hx hb d_C_init_130 rfl (lv_at hl 0 rfl) ?_
        refine lv_iconst (v := 4) hx hb d_C_init_131 (by decide) ?_
        refine lv_iconst (v := (-1)) hx hb d_C_init_132 (by decide) ?_
        replace h := bd h
        obtain ⟨r10, g10, h⟩ := h
        refine rw_V (n := 2) (ci := 1) (As := [.int 4, .int (-1)]) (rest := []) (Wn := fun _ => (wC cI cZ a q r10.2)) C0 hA (c_C_put l D cI cZ a q r7.2 4 (-1) g10) wd_488 ⟨wd_157, wd_158, wd_159, wd_8⟩ (by decide +kernel) ⟨Nat.le_of_ble_eq_true rfl, Nat.le_of_ble_eq_true rfl⟩ hP hD hS [0, 1, 2, 3, 4, 5, 6] [] [0, 1, 2, 3, 4, 5, 6] jn_C__C (by decide) jn_C__R (by decide) (by decide) (by decide) jn_C__W rfl rfl rfl hl rfl rfl (Nat.le_of_ble_eq_true rfl) ⟨Nat.le_refl _, Nat.le_refl _⟩ d_C_init_133 (fun H locs _ hP hD hS => ?_)
        try dsimp only at h
        refine lv_pop hx hb d_C_init_136 rfl ?_
        exact t_C_init_137 (a := a) C0 hin2 hA hk108 h hP hD hS (lv_sub hl [0, 1] rfl)
set_option maxHeartbeats 4000000 in
set_option maxRecDepth 100000 in
theorem t_C_init_108 {p : Program} {l : Launch} {e : Env} {s : State} {m : MethodId} {args : Array Value} {below : List Frame} {meth : Method} {c : Code} {D : va_G} {cI cZ : ClassId} {a : Nat → Nat} {A : Nat → Prop} (C0 : Am p s m args meth c b_C_init none 2 R_C D [(cI, .int), (cZ, .boolean)]) {kc ks : Nat} (hin2 : meth.name = "<init>") (hA : ∀ q, s.heap.size ≤ q → A q) {res : Int32 × StC}  {n : Nat} {q : Nat} {σ : StC} {x1 : Int32} (h : f_C_init_108  n σ x1 = some res) {H : Heap} {locs : List Loc} (hP : va_P D vwCl (wC cI cZ a q σ) H) (hD : va_D A (wC cI cZ a q σ)) (hS : va_S A s.heap H locs) {ls : Array Slot} (hl : lv_has ls 2 [(0, .ref (a 3)), (1, .int x1)]) : W p l e (rmK 4 90 kc ks) s m args below meth c H locs kc ks (RwQv below args s D A (fun q (σ : StC) => (wC cI cZ a q σ)) res kc ks) (F0 m 108 ls []) := by
  induction n generalizing q σ x1 H locs ls with
  | zero => cases h
  | succ n ih => exact t_C_init_108_s (a := a) C0 hin2 hA  (fun _ _ _ _ _ _ h hP hD hS hl => ih h hP hD hS hl) h hP hD hS hl
set_option maxHeartbeats 4000000 in
set_option maxRecDepth 100000 in
theorem t_C_init_54 {p : Program} {l : Launch} {e : Env} {s : State} {m : MethodId} {args : Array Value} {below : List Frame} {meth : Method} {c : Code} {D : va_G} {cI cZ : ClassId} {a : Nat → Nat} {A : Nat → Prop} (C0 : Am p s m args meth c b_C_init none 2 R_C D [(cI, .int), (cZ, .boolean)]) {kc ks : Nat} (hin2 : meth.name = "<init>") (hA : ∀ q, s.heap.size ≤ q → A q) {res : Int32 × StC}   {q : Nat} {σ : StC} (h : f_C_init_54 σ = some res) {H : Heap} {locs : List Loc} (hP : va_P D vwCl (wC cI cZ a q σ) H) (hD : va_D A (wC cI cZ a q σ)) (hS : va_S A s.heap H locs) {ls : Array Slot} (hl : lv_has ls 2 [(0, .ref (a 3))]) : W p l e (rmK 4 90 kc ks) s m args below meth c H locs kc ks (RwQv below args s D A (fun q (σ : StC) => (wC cI cZ a q σ)) res kc ks) (F0 m 54 ls []) := by
  obtain ⟨hx, hb, hr, hml, hown, hts, hlk, hK⟩ := id C0
  unfold f_C_init_54 at h
  refine lv_aload_n hx hb d_C_init_54 rfl (lv_at hl 0 rfl) ?_
  refine lv_iconst (v := 0) hx hb d_C_init_55 (by decide) ?_
  refine rw_put (v := .int 0) (fty := .int) (C := R_C) (T := F_C) (N := 8) C0 hP hD hS i_C ty_C tyok_C nn_C 0 rfl rfl 6 (by decide) (hts _ wd_3) rfl rfl (by decide +kernel) rfl rfl (Nat.le_of_ble_eq_true rfl) d_C_init_56 (Wn := (wC cI cZ a q (C_set_count σ 0))) ws_C_set_count (fun H locs hP hD hS => ?_)
  refine lv_aload_n hx hb d_C_init_59 rfl (lv_at hl 0 rfl) ?_
  refine lv_iconst (v := 0) hx hb d_C_init_60 (by decide) ?_
  refine rw_put (v := .int 0) (fty := .int) (C := R_C) (T := F_C) (N := 8) C0 hP hD hS i_C ty_C tyok_C nn_C 0 rfl rfl 7 (by decide) (hts _ wd_27) rfl rfl (by decide +kernel) rfl rfl (Nat.le_of_ble_eq_true rfl) d_C_init_61 (Wn := (wC cI cZ a q (C_set_countGeneric (C_set_count σ 0) 0))) ws_C_set_countGeneric (fun H locs hP hD hS => ?_)
  refine lv_aload_n hx hb d_C_init_64 rfl (lv_at hl 0 rfl) ?_
  refine lv_iconst (v := 0) hx hb d_C_init_65 (by decide) ?_
  refine lv_iconst (v := 0) hx hb d_C_init_66 (by decide) ?_
  replace h := bd h
  obtain ⟨r1, g1, h⟩ := h
  refine rw_V (n := 2) (ci := 1) (As := [.int 0, .int 0]) (rest := []) (Wn := fun _ => (wC cI cZ a q r1.2)) C0 hA (c_C_add l D cI cZ a q (C_set_countGeneric (C_set_count σ 0) 0) 0 0 g1) wd_487 ⟨wd_73, wd_74, wd_75, wd_8⟩ (by decide +kernel) ⟨Nat.le_of_ble_eq_true rfl, Nat.le_of_ble_eq_true rfl⟩ hP hD hS [0, 1, 2, 3, 4, 5, 6] [] [0, 1, 2, 3, 4, 5, 6] jn_C__C (by decide) jn_C__R (by decide) (by decide) (by decide) jn_C__W rfl rfl rfl hl rfl rfl (Nat.le_of_ble_eq_true rfl) ⟨Nat.le_refl _, Nat.le_refl _⟩ d_C_init_67 (fun H locs _ hP hD hS => ?_)
  try dsimp only at h
  refine lv_pop hx hb d_C_init_70 rfl ?_
  refine lv_aload_n hx hb d_C_init_71 rfl (lv_at hl 0 rfl) ?_
  refine lv_iconst (v := 1) hx hb d_C_init_72 (by decide) ?_
  refine lv_iconst (v := 0) hx hb d_C_init_73 (by decide) ?_
  replace h := bd h
  obtain ⟨r2, g2, h⟩ := h
  refine rw_V (n := 2) (ci := 1) (As := [.int 1, .int 0]) (rest := []) (Wn := fun _ => (wC cI cZ a q r2.2)) C0 hA (c_C_add l D cI cZ a q r1.2 1 0 g2) wd_487 ⟨wd_73, wd_74, wd_75, wd_8⟩ (by decide +kernel) ⟨Nat.le_of_ble_eq_true rfl, Nat.le_of_ble_eq_true rfl⟩ hP hD hS [0, 1, 2, 3, 4, 5, 6] [] [0, 1, 2, 3, 4, 5, 6] jn_C__C (by decide) jn_C__R (by decide) (by decide) (by decide) jn_C__W rfl rfl rfl hl rfl rfl (Nat.le_of_ble_eq_true rfl) ⟨Nat.le_refl _, Nat.le_refl _⟩ d_C_init_74 (fun H locs _ hP hD hS => ?_)
  try dsimp only at h
  refine lv_pop hx hb d_C_init_77 rfl ?_
  refine lv_aload_n hx hb d_C_init_78 rfl (lv_at hl 0 rfl) ?_
  refine lv_iconst (v := 1) hx hb d_C_init_79 (by decide) ?_
  refine lv_iconst (v := 0) hx hb d_C_init_80 (by decide) ?_
  replace h := bd h
  obtain ⟨r3, g3, h⟩ := h
  refine rw_V (n := 2) (ci := 1) (As := [.int 1, .int 0]) (rest := []) (Wn := fun _ => (wC cI cZ a q r3.2)) C0 hA (c_C_add l D cI cZ a q r2.2 1 0 g3) wd_487 ⟨wd_73, wd_74, wd_75, wd_8⟩ (by decide +kernel) ⟨Nat.le_of_ble_eq_true rfl, Nat.le_of_ble_eq_true rfl⟩ hP hD hS [0, 1, 2, 3, 4, 5, 6] [] [0, 1, 2, 3, 4, 5, 6] jn_C__C (by decide) jn_C__R (by decide) (by decide) (by decide) jn_C__W rfl rfl rfl hl rfl rfl (Nat.le_of_ble_eq_true rfl) ⟨Nat.le_refl _, Nat.le_refl _⟩ d_C_init_81 (fun H locs _ hP hD hS => ?_)
  try dsimp only at h
  refine lv_pop hx hb d_C_init_84 rfl ?_
  refine lv_aload_n hx hb d_C_init_85 rfl (lv_at hl 0 rfl) ?_
  refine lv_iconst (v := 1) hx hb d_C_init_86 (by decide) ?_
  refine lv_iconst (v := 1) hx hb d_C_init_87 (by decide) ?_
  replace h := bd h
  obtain ⟨r4, g4, h⟩ := h
  refine rw_V (n := 2) (ci := 1) (As := [.int 1, .int 1]) (rest := []) (Wn := fun _ => (wC cI cZ a q r4.2)) C0 hA (c_C_add l D cI cZ a q r3.2 1 1 g4) wd_487 ⟨wd_73, wd_74, wd_75, wd_8⟩ (by decide +kernel) ⟨Nat.le_of_ble_eq_true rfl, Nat.le_of_ble_eq_true rfl⟩ hP hD hS [0, 1, 2, 3, 4, 5, 6] [] [0, 1, 2, 3, 4, 5, 6] jn_C__C (by decide) jn_C__R (by decide) (by decide) (by decide) jn_C__W rfl rfl rfl hl rfl rfl (Nat.le_of_ble_eq_true rfl) ⟨Nat.le_refl _, Nat.le_refl _⟩ d_C_init_88 (fun H locs _ hP hD hS => ?_)
  try dsimp only at h
  refine lv_pop hx hb d_C_init_91 rfl ?_
  refine lv_aload_n hx hb d_C_init_92 rfl (lv_at hl 0 rfl) ?_
  refine lv_iconst (v := 0) hx hb d_C_init_93 (by decide) ?_
  refine lv_iconst (v := 0) hx hb d_C_init_94 (by decide) ?_
  replace h := bd h
  obtain ⟨r5, g5, h⟩ := h
  refine rw_V (n := 2) (ci := 1) (As := [.int 0, .int 0]) (rest := []) (Wn := fun _ => (wC cI cZ a q r5.2)) C0 hA (c_C_add l D cI cZ a q r4.2 0 0 g5) wd_487 ⟨wd_73, wd_74, wd_75, wd_8⟩ (by decide +kernel) ⟨Nat.le_of_ble_eq_true rfl, Nat.le_of_ble_eq_true rfl⟩ hP hD hS [0, 1, 2, 3, 4, 5, 6] [] [0, 1, 2, 3, 4, 5, 6] jn_C__C (by decide) jn_C__R (by decide) (by decide) (by decide) jn_C__W rfl rfl rfl hl rfl rfl (Nat.le_of_ble_eq_true rfl) ⟨Nat.le_refl _, Nat.le_refl _⟩ d_C_init_95 (fun H locs _ hP hD hS => ?_)
  try dsimp only at h
  refine lv_pop hx hb d_C_init_98 rfl ?_
  refine lv_aload_n hx hb d_C_init_99 rfl (lv_at hl 0 rfl) ?_
  refine lv_iconst (v := 2) hx hb d_C_init_100 (by decide) ?_
  refine lv_iconst (v := (-1)) hx hb d_C_init_101 (by decide) ?_
  replace h := bd h
  obtain ⟨r6, g6, h⟩ := h
  refine rw_V (n := 2) (ci := 1) (As := [.int 2, .int (-1)]) (rest := []) (Wn := fun _ => (wC cI cZ a q r6.2)) C0 hA (c_C_put l D cI cZ a q r5.2 2 (-1) g6) wd_488 ⟨wd_157, wd_158, wd_159, wd_8⟩ (by decide +kernel) ⟨Nat.le_of_ble_eq_true rfl, Nat.le_of_ble_eq_true rfl⟩ hP hD hS [0, 1, 2, 3, 4, 5, 6] [] [0, 1, 2, 3, 4, 5, 6] jn_C__C (by decide) jn_C__R (by decide) (by decide) (by decide) jn_C__W rfl rfl rfl hl rfl rfl (Nat.le_of_ble_eq_true rfl) ⟨Nat.le_refl _, Nat.le_refl _⟩ d_C_init_102 (fun H locs _ hP hD hS => ?_)
  try dsimp only at h
  refine lv_pop hx hb d_C_init_105 rfl ?_
  refine lv_iconst (v := 0) hx hb d_C_init_106 (by decide) ?_
  refine lv_istore_n (lv' := [(1, .int 0), (0, .ref (a 3))]) hx hb d_C_init_107 rfl hl (by decide) rfl (fun ls hl => ?_)
  exact t_C_init_108 (a := a) C0 hin2 hA  h hP hD hS (lv_sub hl [1, 0] rfl)
-- part 07.71ctorM.lean.txt
def f_M_init_453 (k364 : StM → Int32 → Option (Int32 × StM)) (σ : StM) (x2 t1 t2 : Int32) : Option (Int32 × StM) :=
  if t1 < 0 ∨ 300 ≤ t1.toNatClampNeg then none else
  if (30 * x2) < 0 ∨ 9000 ≤ (30 * x2).toNatClampNeg then none else
  k364 (M_put_partRow (M_put_partCount σ t1 t2) (30 * x2) x2) (x2 + 1)
def f_M_init_422 (k364 : StM → Int32 → Option (Int32 × StM)) (σ : StM) (x2 t1 t2 : Int32) : Option (Int32 × StM) :=
  if t1 < 0 ∨ 300 ≤ t1.toNatClampNeg then none else
  if x2 < 0 ∨ 300 ≤ x2.toNatClampNeg then none else
  if x2 < 0 ∨ 300 ≤ x2.toNatClampNeg then none else
  if 8 ≤ x2 then
    f_M_init_453 k364 (M_put_made (M_put_inner (M_put_how σ t1 t2) x2 (-1)) x2 1) x2 x2 1
  else
    f_M_init_453 k364 (M_put_made (M_put_inner (M_put_how σ t1 t2) x2 (-1)) x2 1) x2 x2 0
def f_M_init_405 (k364 : StM → Int32 → Option (Int32 × StM)) (σ : StM) (x2 t1 t2 : Int32) : Option (Int32 × StM) :=
  if t1 < 0 ∨ 300 ≤ t1.toNatClampNeg then none else
  if 8 ≤ x2 then
    f_M_init_422 k364 (M_put_classOf σ t1 t2) x2 x2 0
  else
    f_M_init_422 k364 (M_put_classOf σ t1 t2) x2 x2 (-1)
def f_M_init_386 (k364 : StM → Int32 → Option (Int32 × StM)) (σ : StM) (x2 t1 t2 : Int32) : Option (Int32 × StM) :=
  if t1 < 0 ∨ 300 ≤ t1.toNatClampNeg then none else
  if 8 ≤ x2 then
    f_M_init_405 k364 (M_put_kind σ t1 t2) x2 x2 (x2 - 3)
  else
    f_M_init_405 k364 (M_put_kind σ t1 t2) x2 x2 (-1)
def f_M_init_364_s (k364 : StM → Int32 → Option (Int32 × StM)) (σ : StM) (x2 : Int32) : Option (Int32 × StM) :=
  if 16 ≤ x2 then
    some (0, (M_set_types σ 16))
  else
    if 8 ≤ x2 then
      f_M_init_386 k364 σ x2 x2 1
    else
      f_M_init_386 k364 σ x2 x2 0
def f_M_init_364 : Nat → StM → Int32 → Option (Int32 × StM)
  | 0, _, _ => none
  | n + 1, σ, x2 => f_M_init_364_s (f_M_init_364 n) σ x2
def f_M_init_343_s (k343 : StM → Int32 → Option (Int32 × StM)) (σ : StM) (x2 : Int32) : Option (Int32 × StM) :=
  if (M_classes σ) ≤ x2 then
    f_M_init_364 1000 σ 0
  else
    (f_M_reckonOver σ x2).bind fun r1 =>
    k343 r1.2 (x2 + 1)
def f_M_init_343 : Nat → StM → Int32 → Option (Int32 × StM)
  | 0, _, _ => none
  | n + 1, σ, x2 => f_M_init_343_s (f_M_init_343 n) σ x2
def f_M_init_310 (k229 : StM → Int32 → Option (Int32 × StM)) (σ : StM) (x2 : Int32) : Option (Int32 × StM) :=
  if x2 ≤ 4 then
    k229 σ (x2 + 1)
  else
    (f_M_tie σ x2 3 (x2 + 3)).bind fun r2 =>
    k229 r2.2 (x2 + 1)
def f_M_init_298 (k229 : StM → Int32 → Option (Int32 × StM)) (σ : StM) (x2 : Int32) : Option (Int32 × StM) :=
  if x2 ≤ 3 then
    f_M_init_310 k229 σ x2
  else
    (f_M_tie σ x2 2 (-1)).bind fun r3 =>
    f_M_init_310 k229 r3.2 x2
def f_M_init_294 (k229 : StM → Int32 → Option (Int32 × StM)) (σ : StM) (x2 t1 t2 : Int32) : Option (Int32 × StM) :=
  (f_M_tie σ t1 t2 (-1)).bind fun r4 =>
  f_M_init_298 k229 r4.2 x2
def f_M_init_289 (k229 : StM → Int32 → Option (Int32 × StM)) (σ : StM) (x2 t1 : Int32) : Option (Int32 × StM) :=
  f_M_init_294 k229 σ x2 t1 0
def f_M_init_270 (k229 : StM → Int32 → Option (Int32 × StM)) (σ : StM) (x2 t1 t2 : Int32) : Option (Int32 × StM) :=
  if t1 < 0 ∨ 30 ≤ t1.toNatClampNeg then none else
  if x2 ≤ 0 then
    f_M_init_298 k229 (M_put_generic σ t1 (vp_nar .boolean t2)) x2
  else
    if x2 < 6 then
      f_M_init_289 k229 (M_put_generic σ t1 (vp_nar .boolean t2)) x2 x2
    else
      if x2 = 8 then
        f_M_init_289 k229 (M_put_generic σ t1 (vp_nar .boolean t2)) x2 x2
      else
        f_M_init_294 k229 (M_put_generic σ t1 (vp_nar .boolean t2)) x2 x2 4
def f_M_init_254 (k229 : StM → Int32 → Option (Int32 × StM)) (σ : StM) (x2 t1 t2 : Int32) : Option (Int32 × StM) :=
  if t1 < 0 ∨ 30 ≤ t1.toNatClampNeg then none else
  if x2 = 3 then
    f_M_init_270 k229 (M_put_face σ t1 (vp_nar .boolean t2)) x2 x2 1
  else
    f_M_init_270 k229 (M_put_face σ t1 (vp_nar .boolean t2)) x2 x2 0
def f_M_init_253 (k229 : StM → Int32 → Option (Int32 × StM)) (σ : StM) (x2 t1 : Int32) : Option (Int32 × StM) :=
  f_M_init_254 k229 σ x2 t1 0
def f_M_init_229_s (k229 : StM → Int32 → Option (Int32 × StM)) (σ : StM) (x2 : Int32) : Option (Int32 × StM) :=
  if 13 ≤ x2 then
    f_M_init_343 1000 (M_set_generics (M_set_classes σ 13) 1) 0
  else
    if x2 ≤ 0 then
      f_M_init_253 k229 σ x2 x2
    else
      if 4 ≤ x2 then
        f_M_init_253 k229 σ x2 x2
      else
        f_M_init_254 k229 σ x2 x2 1
def f_M_init_229 : Nat → StM → Int32 → Option (Int32 × StM)
  | 0, _, _ => none
  | n + 1, σ, x2 => f_M_init_229_s (f_M_init_229 n) σ x2
def f_M_init_205 (σ : StM) (x1 : Int32) : Option (Int32 × StM) :=
  if 0 ≤ x1 then
    if x1 ≤ 2 then
      f_M_init_229 1000 (M_set_depth σ x1) 0
    else
      f_M_init_229 1000 (M_set_depth σ 2) 0
  else
    f_M_init_229 1000 (M_set_depth σ 0) 0
set_option maxHeartbeats 4000000 in
set_option maxRecDepth 100000 in
theorem t_M_init_453 {p : Program} {l : Launch} {e : Env} {s : State} {m : MethodId} {args : Array Value} {below : List Frame} {meth : Method} {c : Code} {D : va_G} {cI cZ : ClassId} {a : Nat → Nat} {A : Nat → Prop} (C0 : Am p s m args meth c b_M_init none 3 R_M D [(cI, .int), (cZ, .boolean)]) {kc ks : Nat} (hin2 : meth.name = "<init>") (hA : ∀ q, s.heap.size ≤ q → A q) {res : Int32 × StM} {k364 : StM → Int32 → Option (Int32 × StM)} (hk364 : ∀ (q : Nat) (σ : StM) (x2 : Int32) (H : Heap) (locs : List Loc) (ls : Array Slot), k364 σ x2 = some res → va_P D vwCl (wM cI cZ a q σ) H → va_D A (wM cI cZ a q σ) → va_S A s.heap H locs → lv_has ls 3 [(0, .ref (a 20)), (2, .int x2)] → W p l e (rmK 1 24 kc ks) s m args below meth c H locs kc ks (RwQv below args s D A (fun q (σ : StM) => (wM cI cZ a q σ)) res kc ks) (F0 m 364 ls []))  {q : Nat} {σ : StM} {x2 t1 t2 : Int32} (h : f_M_init_453 k364 σ x2 t1 t2 = some res) {H : Heap} {locs : List Loc} (hP : va_P D vwCl (wM cI cZ a q σ) H) (hD : va_D A (wM cI cZ a q σ)) (hS : va_S A s.heap H locs) {ls : Array Slot} (hl : lv_has ls 3 [(0, .ref (a 20)), (2, .int x2)]) : W p l e (rmK 1 24 kc ks) s m args below meth c H locs kc ks (RwQv below args s D A (fun q (σ : StM) => (wM cI cZ a q σ)) res kc ks) (F0 m 453 ls [.int t2, .int t1, .ref (a 32)]) := by
  obtain ⟨hx, hb, hr, hml, hown, hts, hlk, hK⟩ := id C0
  unfold f_M_init_453 at h
  replace h := gd h
  obtain ⟨hi, h⟩ := h
  refine rw_iast C0 hP hD hS 12 0 rfl rfl hi d_M_init_453 (Wn := (wM cI cZ a q (M_put_partCount σ t1 t2))) ws_M_put_partCount (fun H locs hP hD hS => ?_)
  refine lv_aload_n hx hb d_M_init_454 rfl (lv_at hl 0 rfl) ?_
  refine va_get (ci := 4) (v := .ref (a 33)) (C := R_M) (T := F_M) (N := 35) hx hb hts i_M hown hK.1 hP 0 rfl rfl 17 (by decide) (hts _ wd_355) (fun _ h9 => h9) rfl d_M_init_455 ?_
  refine lv_bipush (v := 30) hx hb d_M_init_458 (by decide) ?_
  refine lv_iload_n hx hb d_M_init_460 rfl (lv_at hl 1 rfl) ?_
  refine lv_imul hx hb d_M_init_461 ?_
  refine lv_iload_n hx hb d_M_init_462 rfl (lv_at hl 1 rfl) ?_
  replace h := gd h
  obtain ⟨hi, h⟩ := h
  refine rw_iast C0 hP hD hS 13 0 rfl rfl hi d_M_init_463 (Wn := (wM cI cZ a q (M_put_partRow (M_put_partCount σ t1 t2) (30 * x2) x2))) ws_M_put_partRow (fun H locs hP hD hS => ?_)
  refine lv_iinc (v := (x2 + 1)) (lv' := [(2, .int (x2 + 1)), (0, .ref (a 20))]) hx hb d_M_init_464 hl (k := 1) rfl rfl (by decide) rfl (fun ls hl => ?_)
  refine lv_goto (tgt := 364) hx hb d_M_init_467 (by decide) ?_
  exact hk364 _ _ _ _ _ _ h hP hD hS (lv_sub hl [1, 0] rfl)
set_option maxHeartbeats 4000000 in
set_option maxRecDepth 100000 in
theorem t_M_init_422 {p : Program} {l : Launch} {e : Env} {s : State} {m : MethodId} {args : Array Value} {below : List Frame} {meth : Method} {c : Code} {D : va_G} {cI cZ : ClassId} {a : Nat → Nat} {A : Nat → Prop} (C0 : Am p s m args meth c b_M_init none 3 R_M D [(cI, .int), (cZ, .boolean)]) {kc ks : Nat} (hin2 : meth.name = "<init>") (hA : ∀ q, s.heap.size ≤ q → A q) {res : Int32 × StM} {k364 : StM → Int32 → Option (Int32 × StM)} (hk364 : ∀ (q : Nat) (σ : StM) (x2 : Int32) (H : Heap) (locs : List Loc) (ls : Array Slot), k364 σ x2 = some res → va_P D vwCl (wM cI cZ a q σ) H → va_D A (wM cI cZ a q σ) → va_S A s.heap H locs → lv_has ls 3 [(0, .ref (a 20)), (2, .int x2)] → W p l e (rmK 1 24 kc ks) s m args below meth c H locs kc ks (RwQv below args s D A (fun q (σ : StM) => (wM cI cZ a q σ)) res kc ks) (F0 m 364 ls []))  {q : Nat} {σ : StM} {x2 t1 t2 : Int32} (h : f_M_init_422 k364 σ x2 t1 t2 = some res) {H : Heap} {locs : List Loc} (hP : va_P D vwCl (wM cI cZ a q σ) H) (hD : va_D A (wM cI cZ a q σ)) (hS : va_S A s.heap H locs) {ls : Array Slot} (hl : lv_has ls 3 [(0, .ref (a 20)), (2, .int x2)]) : W p l e (rmK 1 24 kc ks) s m args below meth c H locs kc ks (RwQv below args s D A (fun q (σ : StM) => (wM cI cZ a q σ)) res kc ks) (F0 m 422 ls [.int t2, .int t1, .ref (a 29)]) := by
  obtain ⟨hx, hb, hr, hml, hown, hts, hlk, hK⟩ := id C0
  unfold f_M_init_422 at h
  replace h := gd h
  obtain ⟨hi, h⟩ := h
  refine rw_iast C0 hP hD hS 9 0 rfl rfl hi d_M_init_422 (Wn := (wM cI cZ a q (M_put_how σ t1 t2))) ws_M_put_how (fun H locs hP hD hS => ?_)
  refine lv_aload_n hx hb d_M_init_423 rfl (lv_at hl 0 rfl) ?_
  refine va_get (ci := 4) (v := .ref (a 30)) (C := R_M) (T := F_M) (N := 35) hx hb hts i_M hown hK.1 hP 0 rfl rfl 14 (by decide) (hts _ wd_358) (fun _ h9 => h9) rfl d_M_init_424 ?_
  refine lv_iload_n hx hb d_M_init_427 rfl (lv_at hl 1 rfl) ?_
  refine lv_iconst (v := (-1)) hx hb d_M_init_428 (by decide) ?_
  replace h := gd h
  obtain ⟨hi, h⟩ := h
  refine rw_iast C0 hP hD hS 10 0 rfl rfl hi d_M_init_429 (Wn := (wM cI cZ a q (M_put_inner (M_put_how σ t1 t2) x2 (-1)))) ws_M_put_inner (fun H locs hP hD hS => ?_)
  refine lv_aload_n hx hb d_M_init_430 rfl (lv_at hl 0 rfl) ?_
  refine va_get (ci := 4) (v := .ref (a 31)) (C := R_M) (T := F_M) (N := 35) hx hb hts i_M hown hK.1 hP 0 rfl rfl 15 (by decide) (hts _ wd_363) (fun _ h9 => h9) rfl d_M_init_431 ?_
  refine lv_iload_n hx hb d_M_init_434 rfl (lv_at hl 1 rfl) ?_
  refine lv_iconst (v := 1) hx hb d_M_init_435 (by decide) ?_
  replace h := gd h
  obtain ⟨hi, h⟩ := h
  refine rw_iast C0 hP hD hS 11 0 rfl rfl hi d_M_init_436 (Wn := (wM cI cZ a q (M_put_made (M_put_inner (M_put_how σ t1 t2) x2 (-1)) x2 1))) ws_M_put_made (fun H locs hP hD hS => ?_)
  refine lv_aload_n hx hb d_M_init_437 rfl (lv_at hl 0 rfl) ?_
  refine va_get (ci := 4) (v := .ref (a 32)) (C := R_M) (T := F_M) (N := 35) hx hb hts i_M hown hK.1 hP 0 rfl rfl 16 (by decide) (hts _ wd_354) (fun _ h9 => h9) rfl d_M_init_438 ?_
  refine lv_iload_n hx hb d_M_init_441 rfl (lv_at hl 1 rfl) ?_
  refine lv_iload_n hx hb d_M_init_442 rfl (lv_at hl 1 rfl) ?_
  refine lv_bipush (v := 8) hx hb d_M_init_443 (by decide) ?_
  refine lv_icmp_ge (tgt := 452) hx hb d_M_init_445 (by decide) (fun hc => ?_) (fun hc => ?_)
  · rw [if_pos hc] at h
    refine lv_iconst (v := 1) hx hb d_M_init_452 (by decide) ?_
    exact t_M_init_453 (a := a) C0 hin2 hA hk364 h hP hD hS (lv_sub hl [0, 1] rfl)
  · rw [if_neg hc] at h
    refine lv_iconst (v := 0) hx hb d_M_init_448 (by decide) ?_
    refine lv_goto (tgt := 453) hx hb d_M_init_449 (by decide) ?_
    exact t_M_init_453 (a := a) C0 hin2 hA hk364 h hP hD hS (lv_sub hl [0, 1] rfl)
set_option maxHeartbeats 4000000 in
set_option maxRecDepth 100000 in
theorem t_M_init_405 {p : Program} {l : Launch} {e : Env} {s : State} {m : MethodId} {args : Array Value} {below : List Frame} {meth : Method} {c : Code} {D : va_G} {cI cZ : ClassId} {a : Nat → Nat} {A : Nat → Prop} (C0 : Am p s m args meth c b_M_init none 3 R_M D [(cI, .int), (cZ, .boolean)]) {kc ks : Nat} (hin2 : meth.name = "<init>") (hA : ∀ q, s.heap.size ≤ q → A q) {res : Int32 × StM} {k364 : StM → Int32 → Option (Int32 × StM)} (hk364 : ∀ (q : Nat) (σ : StM) (x2 : Int32) (H : Heap) (locs : List Loc) (ls : Array Slot), k364 σ x2 = some res → va_P D vwCl (wM cI cZ a q σ) H → va_D A (wM cI cZ a q σ) → va_S A s.heap H locs → lv_has ls 3 [(0, .ref (a 20)), (2, .int x2)] → W p l e (rmK 1 24 kc ks) s m args below meth c H locs kc ks (RwQv below args s D A (fun q (σ : StM) => (wM cI cZ a q σ)) res kc ks) (F0 m 364 ls []))  {q : Nat} {σ : StM} {x2 t1 t2 : Int32} (h : f_M_init_405 k364 σ x2 t1 t2 = some res) {H : Heap} {locs : List Loc} (hP : va_P D vwCl (wM cI cZ a q σ) H) (hD : va_D A (wM cI cZ a q σ)) (hS : va_S A s.heap H locs) {ls : Array Slot} (hl : lv_has ls 3 [(0, .ref (a 20)), (2, .int x2)]) : W p l e (rmK 1 24 kc ks) s m args below meth c H locs kc ks (RwQv below args s D A (fun q (σ : StM) => (wM cI cZ a q σ)) res kc ks) (F0 m 405 ls [.int t2, .int t1, .ref (a 28)]) := by
  obtain ⟨hx, hb, hr, hml, hown, hts, hlk, hK⟩ := id C0
  unfold f_M_init_405 at h
  replace h := gd h
  obtain ⟨hi, h⟩ := h
  refine rw_iast C0 hP hD hS 8 0 rfl rfl hi d_M_init_405 (Wn := (wM cI cZ a q (M_put_classOf σ t1 t2))) ws_M_put_classOf (fun H locs hP hD hS => ?_)
  refine lv_aload_n hx hb d_M_init_406 rfl (lv_at hl 0 rfl) ?_
  refine va_get (ci := 4) (v := .ref (a 29)) (C := R_M) (T := F_M) (N := 35) hx hb hts i_M hown hK.1 hP 0 rfl rfl 13 (by decide) (hts _ wd_357) (fun _ h9 => h9) rfl d_M_init_407 ?_
  refine lv_iload_n hx hb d_M_init_410 rfl (lv_at hl 1 rfl) ?_
  refine lv_iload_n hx hb d_M_init_411 rfl (lv_at hl 1 rfl) ?_
  refine lv_bipush (v := 8) hx hb d_M_init_412 (by decide) ?_
  refine lv_icmp_ge (tgt := 421) hx hb d_M_init_414 (by decide) (fun hc => ?_) (fun hc => ?_)
  · rw [if_pos hc] at h
    refine lv_iconst (v := 0) hx hb d_M_init_421 (by decide) ?_
    exact t_M_init_422 (a := a) C0 hin2 hA hk364 h hP hD hS (lv_sub hl [0, 1] rfl)
  · rw [if_neg hc] at h
    refine lv_iconst (v := (-1)) hx hb d_M_init_417 (by decide) ?_
    refine lv_goto (tgt := 422) hx hb d_M_init_418 (by decide) ?_
    exact t_M_init_422 (a := a) C0 hin2 hA hk364 h hP hD hS (lv_sub hl [0, 1] rfl)
set_option maxHeartbeats 4000000 in
set_option maxRecDepth 100000 in
theorem t_M_init_386 {p : Program} {l : Launch} {e : Env} {s : State} {m : MethodId} {args : Array Value} {below : List Frame} {meth : Method} {c : Code} {D : va_G} {cI cZ : ClassId} {a : Nat → Nat} {A : Nat → Prop} (C0 : Am p s m args meth c b_M_init none 3 R_M D [(cI, .int), (cZ, .boolean)]) {kc ks : Nat} (hin2 : meth.name = "<init>") (hA : ∀ q, s.heap.size ≤ q → A q) {res : Int32 × StM} {k364 : StM → Int32 → Option (Int32 × StM)} (hk364 : ∀ (q : Nat) (σ : StM) (x2 : Int32) (H : Heap) (locs : List Loc) (ls : Array Slot), k364 σ x2 = some res → va_P D vwCl (wM cI cZ a q σ) H → va_D A (wM cI cZ a q σ) → va_S A s.heap H locs → lv_has ls 3 [(0, .ref (a 20)), (2, .int x2)] → W p l e (rmK 1 24 kc ks) s m args below meth c H locs kc ks (RwQv below args s D A (fun q (σ : StM) => (wM cI cZ a q σ)) res kc ks) (F0 m 364 ls []))  {q : Nat} {σ : StM} {x2 t1 t2 : Int32} (h : f_M_init_386 k364 σ x2 t1 t2 = some res) {H : Heap} {locs : List Loc} (hP : va_P D vwCl (wM cI cZ a q σ) H) (hD : va_D A (wM cI cZ a q σ)) (hS : va_S A s.heap H locs) {ls : Array Slot} (hl : lv_has ls 3 [(0, .ref (a 20)), (2, .int x2)]) : W p l e (rmK 1 24 kc ks) s m args below meth c H locs kc ks (RwQv below args s D A (fun q (σ : StM) => (wM cI cZ a q σ)) res kc ks) (F0 m 386 ls [.int t2, .int t1, .ref (a 27)]) := by
  obtain ⟨hx, hb, hr, hml, hown, hts, hlk, hK⟩ := id C0
  unfold f_M_init_386 at h
  replace h := gd h
  obtain ⟨hi, h⟩ := h
  refine rw_iast C0 hP hD hS 7 0 rfl rfl hi d_M_init_386 (Wn := (wM cI cZ a q (M_put_kind σ t1 t2))) ws_M_put_kind (fun H locs hP hD hS => ?_)
  refine lv_aload_n hx hb d_M_init_387 rfl (lv_at hl 0 rfl) ?_
  refine va_get (ci := 4) (v := .ref (a 28)) (C := R_M) (T := F_M) (N := 35) hx hb hts i_M hown hK.1 hP 0 rfl rfl 12 (by decide) (hts _ wd_356) (fun _ h9 => h9) rfl d_M_init_388 ?_
  refine lv_iload_n hx hb d_M_init_391 rfl (lv_at hl 1 rfl) ?_
  refine lv_iload_n hx hb d_M_init_392 rfl (lv_at hl 1 rfl) ?_
  refine lv_bipush (v := 8) hx hb d_M_init_393 (by decide) ?_
  refine lv_icmp_ge (tgt := 402) hx hb d_M_init_395 (by decide) (fun hc => ?_) (fun hc => ?_)
  · rw [if_pos hc] at h
    refine lv_iload_n hx hb d_M_init_402 rfl (lv_at hl 1 rfl) ?_
    refine lv_iconst (v := 3) hx hb d_M_init_403 (by decide) ?_
    refine lv_isub hx hb d_M_init_404 ?_
    exact t_M_init_405 (a := a) C0 hin2 hA hk364 h hP hD hS (lv_sub hl [0, 1] rfl)
  · rw [if_neg hc] at h
    refine lv_iconst (v := (-1)) hx hb d_M_init_398 (by decide) ?_
    refine lv_goto (tgt := 405) hx hb d_M_init_399 (by decide) ?_
    exact t_M_init_405 (a := a) C0 hin2 hA hk364 h hP hD hS (lv_sub hl [0, 1] rfl)
set_option maxHeartbeats 4000000 in
set_option maxRecDepth 100000 in
theorem t_M_init_364_s {p : Program} {l : Launch} {e : Env} {s : State} {m : MethodId} {args : Array Value} {below : List Frame} {meth : Method} {c : Code} {D : va_G} {cI cZ : ClassId} {a : Nat → Nat} {A : Nat → Prop} (C0 : Am p s m args meth c b_M_init none 3 R_M D [(cI, .int), (cZ, .boolean)]) {kc ks : Nat} (hin2 : meth.name = "<init>") (hA : ∀ q, s.heap.size ≤ q → A q) {res : Int32 × StM} {k364 : StM → Int32 → Option (Int32 × StM)}  (hk364 : ∀ (q : Nat) (σ : StM) (x2 : Int32) (H : Heap) (locs : List Loc) (ls : Array Slot), k364 σ x2 = some res → va_P D vwCl (wM cI cZ a q σ) H → va_D A (wM cI cZ a q σ) → va_S A s.heap H locs → lv_has ls 3 [(0, .ref (a 20)), (2, .int x2)] → W p l e (rmK 1 24 kc ks) s m args below meth c H locs kc ks (RwQv below args s D A (fun q (σ : StM) => (wM cI cZ a q σ)) res kc ks) (F0 m 364 ls [])) {q : Nat} {σ : StM} {x2 : Int32} (h : f_M_init_364_s k364 σ x2 = some res) {H : Heap} {locs : List Loc} (hP : va_P D vwCl (wM cI cZ a q σ) H) (hD : va_D A (wM cI cZ a q σ)) (hS : va_S A s.heap H locs) {ls : Array Slot} (hl : lv_has ls 3 [(0, .ref (a 20)), (2, .int x2)]) : W p l e (rmK 1 24 kc ks) s m args below meth c H locs kc ks (RwQv below args s D A (fun q (σ : StM) => (wM cI cZ a q σ)) res kc ks) (F0 m 364 ls []) := by
  obtain ⟨hx, hb, hr, hml, hown, hts, hlk, hK⟩ := id C0
  unfold f_M_init_364_s at h
  refine lv_iload_n hx hb d_M_init_364 rfl (lv_at hl 1 rfl) ?_
  refine lv_bipush (v := 16) hx hb d_M_init_365 (by decide) ?_
  refine lv_icmp_ge (tgt := 470) hx hb d_M_init_367 (by decide) (fun hc => ?_) (fun hc => ?_)
  · rw [if_pos hc] at h
    refine lv_aload_n hx hb d_M_init_470 rfl (lv_at hl 0 rfl) ?_
    refine lv_bipush (v := 16) hx hb d_M_init_471 (by decide) ?_
    refine rw_put (v := .int 16) (fty := .int) (C := R_M) (T := F_M) (N := 35) C0 hP hD hS i_M ty_M tyok_M nn_M 0 rfl rfl 10 (by decide) (hts _ wd_344) rfl rfl (by decide +kernel) rfl rfl (Nat.le_of_ble_eq_true rfl) d_M_init_473 (Wn := (wM cI cZ a q (M_set_types σ 16))) ws_M_set_types (fun H locs hP hD hS => ?_)
    exact rw_retv C0 hP hD hS (Option.some.inj h) d_M_init_476
  · rw [if_neg hc] at h
    refine lv_aload_n hx hb d_M_init_370 rfl (lv_at hl 0 rfl) ?_
    refine va_get (ci := 4) (v := .ref (a 27)) (C := R_M) (T := F_M) (N := 35) hx hb hts i_M hown hK.1 hP 0 rfl rfl 11 (by decide) (hts _ wd_353) (fun _ h9 => h9) rfl d_M_init_371 ?_
    refine lv_iload_n hx hb d_M_init_374 rfl (lv_at hl 1 rfl) ?_
    refine lv_iload_n hx hb d_M_init_375 rfl (lv_at hl 1 rfl) ?_
    refine lv_bipush (v := 8) hx hb d_M_init_376 (by decide) ?_
    refine lv_icmp_ge (tgt := 385) hx hb d_M_init_378 (by decide) (fun hc => ?_) (fun hc => ?_)
    · rw [if_pos hc] at h
      refine lv_iconst (v := 1) hx hb d_M_init_385 (by decide) ?_
      exact t_M_init_386 (a := a) C0 hin2 hA hk364 h hP hD hS (lv_sub hl [0, 1] rfl)
    · rw [if_neg hc] at h
      refine lv_iconst (v := 0) hx hb d_M_init_381 (by decide) ?_
      refine lv_goto (tgt := 386) hx hb d_M_init_382 (by decide) ?_
      exact t_M_init_386 (a := a) C0 hin2 hA hk364 h hP hD hS (lv_sub hl [0, 1] rfl)
set_option maxHeartbeats 4000000 in
set_option maxRecDepth 100000 in
theorem t_M_init_364 {p : Program} {l : Launch} {e : Env} {s : State} {m : MethodId} {args : Array Value} {below : List Frame} {meth : Method} {c : Code} {D : va_G} {cI cZ : ClassId} {a : Nat → Nat} {A : Nat → Prop} (C0 : Am p s m args meth c b_M_init none 3 R_M D [(cI, .int), (cZ, .boolean)]) {kc ks : Nat} (hin2 : meth.name = "<init>") (hA : ∀ q, s.heap.size ≤ q → A q) {res : Int32 × StM}  {n : Nat} {q : Nat} {σ : StM} {x2 : Int32} (h : f_M_init_364  n σ x2 = some res) {H : Heap} {locs : List Loc} (hP : va_P D vwCl (wM cI cZ a q σ) H) (hD : va_D A (wM cI cZ a q σ)) (hS : va_S A s.heap H locs) {ls : Array Slot} (hl : lv_has ls 3 [(0, .ref (a 20)), (2, .int x2)]) : W p l e (rmK 1 24 kc ks) s m args below meth c H locs kc ks (RwQv below args s D A (fun q (σ : StM) => (wM cI cZ a q σ)) res kc ks) (F0 m 364 ls []) := by
  induction n generalizing q σ x2 H locs ls with
  | zero => cases h
  | succ n ih => exact t_M_init_364_s (a := a) C0 hin2 hA  (fun _ _ _ _ _ _ h hP hD hS hl => ih h hP hD hS hl) h hP hD hS hl
set_option maxHeartbeats 4000000 in
set_option maxRecDepth 100000 in
theorem t_M_init_343_s {p : Program} {l : Launch} {e : Env} {s : State} {m : MethodId} {args : Array Value} {below : List Frame} {meth : Method} {c : Code} {D : va_G} {cI cZ : ClassId} {a : Nat → Nat} {A : Nat → Prop} (C0 : Am p s m args meth c b_M_init none 3 R_M D [(cI, .int), (cZ, .boolean)]) {kc ks : Nat} (hin2 : meth.name = "<init>") (hA : ∀ q, s.heap.size ≤ q → A q) {res : Int32 × StM} {k343 : StM → Int32 → Option (Int32 × StM)}  (hk343 : ∀ (q : Nat) (σ : StM) (x2 : Int32) (H : Heap) (locs : List Loc) (ls : Array Slot), k343 σ x2 = some res → va_P D vwCl (wM cI cZ a q σ) H → va_D A (wM cI cZ a q σ) → va_S A s.heap H locs → lv_has ls 3 [(0, .ref (a 20)), (2, .int x2)] → W p l e (rmK 1 24 kc ks) s m args below meth c H locs kc ks (RwQv below args s D A (fun q (σ : StM) => (wM cI cZ a q σ)) res kc ks) (F0 m 343 ls [])) {q : Nat} {σ : StM} {x2 : Int32} (h : f_M_init_343_s k343 σ x2 = some res) {H : Heap} {locs : List Loc} (hP : va_P D vwCl (wM cI cZ a q σ) H) (hD : va_D A (wM cI cZ a q σ)) (hS : va_S A s.heap H locs) {ls : Array Slot} (hl : lv_has ls 3 [(0, .ref (a 20)), (2, .int x2)]) : W p l e (rmK 1 24 kc ks) s m args below meth c H locs kc ks (RwQv below args s D A (fun q (σ : StM) => (wM cI cZ a q σ)) res kc ks) (F0 m 343 ls []) := by
  obtain ⟨hx, hb, hr, hml, hown, hts, hlk, hK⟩ := id C0
  unfold f_M_init_343_s at h
  refine lv_iload_n hx hb d_M_init_343 rfl (lv_at hl 1 rfl) ?_
  refine lv_aload_n hx hb d_M_init_344 rfl (lv_at hl 0 rfl) ?_
  refine va_get (ci := 4) (v := .int (M_classes σ)) (C := R_M) (T := F_M) (N := 35) hx hb hts i_M hown hK.1 hP 0 rfl rfl 2 (by decide) (hts _ wd_343) (fun _ h9 => h9) rfl d_M_init_345 ?_
  refine lv_icmp_ge (tgt := 362) hx hb d_M_init_348 (by decide) (fun hc => ?_) (fun hc => ?_)
  · rw [if_pos hc] at h
    refine lv_iconst (v := 0) hx hb d_M_init_362 (by decide) ?_
    refine lv_istore_n (lv' := [(2, .int 0), (0, .ref (a 20))]) hx hb d_M_init_363 rfl hl (by decide) rfl (fun ls hl => ?_)
    exact t_M_init_364 (a := a) C0 hin2 hA  h hP hD hS (lv_sub hl [1, 0] rfl)
  · rw [if_neg hc] at h
    refine lv_aload_n hx hb d_M_init_351 rfl (lv_at hl 0 rfl) ?_
    refine lv_iload_n hx hb d_M_init_352 rfl (lv_at hl 1 rfl) ?_
    replace h := bd h
    obtain ⟨r1, g1, h⟩ := h
    refine rw_Vv (n := 1) (ci := 4) (As := [.int x2]) (rest := []) (Wn := fun _ => (wM cI cZ a q r1.2)) C0 hA (c_M_reckonOver l D cI cZ a q σ x2 g1) wd_399 ⟨wd_400, wd_401, wd_402, wd_352⟩ (by decide +kernel) ⟨Nat.le_of_ble_eq_true rfl, Nat.le_of_ble_eq_true rfl⟩ hP hD hS [0, 1, 2, 3, 4, 5, 6, 7, 8, 9, 10, 11, 12, 13, 14, 15, 16, 17, 18, 19, 20, 21, 22, 23] [] [0, 1, 2, 3, 4, 5, 6, 7, 8, 9, 10, 11, 12, 13, 14, 15, 16, 17, 18, 19, 20, 21, 22, 23] jn_M__C (by decide) jn_M__R (by decide) (by decide) (by decide) jn_M__W rfl rfl rfl hl rfl rfl (Nat.le_of_ble_eq_true rfl) ⟨Nat.le_refl _, Nat.le_refl _⟩ d_M_init_353 (fun H locs _ hP hD hS => ?_)
    try dsimp only at h
    refine lv_iinc (v := (x2 + 1)) (lv' := [(2, .int (x2 + 1)), (0, .ref (a 20))]) hx hb d_M_init_356 hl (k := 1) rfl rfl (by decide) rfl (fun ls hl => ?_)
    refine lv_goto (tgt := 343) hx hb d_M_init_359 (by decide) ?_
    exact hk343 _ _ _ _ _ _ h hP hD hS (lv_sub hl [1, 0] rfl)
set_option maxHeartbeats 4000000 in
set_option maxRecDepth 100000 in
theorem t_M_init_343 {p : Program} {l : Launch} {e : Env} {s : State} {m : MethodId} {args : Array Value} {below : List Frame} {meth : Method} {c : Code} {D : va_G} {cI cZ : ClassId} {a : Nat → Nat} {A : Nat → Prop} (C0 : Am p s m args meth c b_M_init none 3 R_M D [(cI, .int), (cZ, .boolean)]) {kc ks : Nat} (hin2 : meth.name = "<init>") (hA : ∀ q, s.heap.size ≤ q → A q) {res : Int32 × StM}  {n : Nat} {q : Nat} {σ : StM} {x2 : Int32} (h : f_M_init_343  n σ x2 = some res) {H : Heap} {locs : List Loc} (hP : va_P D vwCl (wM cI cZ a q σ) H) (hD : va_D A (wM cI cZ a q σ)) (hS : va_S A s.heap H locs) {ls : Array Slot} (hl : lv_has ls 3 [(0, .ref (a 20)), (2, .int x2)]) : W p l e (rmK 1 24 kc ks) s m args below meth c H locs kc ks (RwQv below args s D A (fun q (σ : StM) => (wM cI cZ a q σ)) res kc ks) (F0 m 343 ls []) := by
  induction n generalizing q σ x2 H locs ls with
  | zero => cases h
  | succ n ih => exact t_M_init_343_s (a := a) C0 hin2 hA  (fun _ _ _ _ _ _ h hP hD hS hl => ih h hP hD hS hl) h hP hD hS hl
set_option maxHeartbeats 4000000 in
set_option maxRecDepth 100000 in
theorem t_M_init_310 {p : Program} {l : Launch} {e : Env} {s : State} {m : MethodId} {args : Array Value} {below : List Frame} {meth : Method} {c : Code} {D : va_G} {cI cZ : ClassId} {a : Nat → Nat} {A : Nat → Prop} (C0 : Am p s m args meth c b_M_init none 3 R_M D [(cI, .int), (cZ, .boolean)]) {kc ks : Nat} (hin2 : meth.name = "<init>") (hA : ∀ q, s.heap.size ≤ q → A q) {res : Int32 × StM} {k229 : StM → Int32 → Option (Int32 × StM)} (hk229 : ∀ (q : Nat) (σ : StM) (x2 : Int32) (H : Heap) (locs : List Loc) (ls : Array Slot), k229 σ x2 = some res → va_P D vwCl (wM cI cZ a q σ) H → va_D A (wM cI cZ a q σ) → va_S A s.heap H locs → lv_has ls 3 [(0, .ref (a 20)), (2, .int x2)] → W p l e (rmK 1 24 kc ks) s m args below meth c H locs kc ks (RwQv below args s D A (fun q (σ : StM) => (wM cI cZ a q σ)) res kc ks) (F0 m 229 ls []))  {q : Nat} {σ : StM} {x2 : Int32} (h : f_M_init_310 k229 σ x2 = some res) {H : Heap} {locs : List Loc} (hP : va_P D vwCl (wM cI cZ a q σ) H) (hD : va_D A (wM cI cZ a q σ)) (hS : va_S A s.heap H locs) {ls : Array Slot} (hl : lv_has ls 3 [(0, .ref (a 20)), (2, .int x2)]) : W p l e (rmK 1 24 kc ks) s m args below meth c H locs kc ks (RwQv below args s D A (fun q (σ : StM) => (wM cI cZ a q σ)) res kc ks) (F0 m 310 ls []) := by
  obtain ⟨hx, hb, hr, hml, hown, hts, hlk, hK⟩ := id C0
  unfold f_M_init_310 at h
  refine lv_iload_n hx hb d_M_init_310 rfl (lv_at hl 1 rfl) ?_
  refine lv_iconst (v := 4) hx hb d_M_init_311 (by decide) ?_
  refine lv_icmp_le (tgt := 324) hx hb d_M_init_312 (by decide) (fun hc => ?_) (fun hc => ?_)
  · rw [if_pos hc] at h
    refine lv_iinc (v := (x2 + 1)) (lv' := [(2, .int (x2 + 1)), (0, .ref (a 20))]) hx hb d_M_init_324 hl (k := 1) rfl rfl (by decide) rfl (fun ls hl => ?_)
    refine lv_goto (tgt := 229) hx hb d_M_init_327 (by decide) ?_
    exact hk229 _ _ _ _ _ _ h hP hD hS (lv_sub hl [1, 0] rfl)
  · rw [if_neg hc] at h
    refine lv_aload_n hx hb d_M_init_315 rfl (lv_at hl 0 rfl) ?_
    refine lv_iload_n hx hb d_M_init_316 rfl (lv_at hl 1 rfl) ?_
    refine lv_iconst (v := 3) hx hb d_M_init_317 (by decide) ?_
    refine lv_iload_n hx hb d_M_init_318 rfl (lv_at hl 1 rfl) ?_
    refine lv_iconst (v := 3) hx hb d_M_init_319 (by decide) ?_
    refine lv_iadd hx hb d_M_init_320 ?_
    replace h := bd h
    obtain ⟨r2, g2, h⟩ := h
    refine rw_Vv (n := 3) (ci := 4) (As := [.int x2, .int 3, .int (x2 + 3)]) (rest := []) (Wn := fun _ => (wM cI cZ a q r2.2)) C0 hA (c_M_tie l D cI cZ a q σ x2 3 (x2 + 3) g2) wd_395 ⟨wd_396, wd_397, wd_398, wd_352⟩ (by decide +kernel) ⟨Nat.le_of_ble_eq_true rfl, Nat.le_of_ble_eq_true rfl⟩ hP hD hS [0, 1, 2, 3, 4, 5, 6, 7, 8, 9, 10, 11, 12, 13, 14, 15, 16, 17, 18, 19, 20, 21, 22, 23] [] [0, 1, 2, 3, 4, 5, 6, 7, 8, 9, 10, 11, 12, 13, 14, 15, 16, 17, 18, 19, 20, 21, 22, 23] jn_M__C (by decide) jn_M__R (by decide) (by decide) (by decide) jn_M__W rfl rfl rfl hl rfl rfl (Nat.le_of_ble_eq_true rfl) ⟨Nat.le_refl _, Nat.le_refl _⟩ d_M_init_321 (fun H locs _ hP hD hS => ?_)
    try dsimp only at h
    refine lv_iinc (v := (x2 + 1)) (lv' := [(2, .int (x2 + 1)), (0, .ref (a 20))]) hx hb d_M_init_324 hl (k := 1) rfl rfl (by decide) rfl (fun ls hl => ?_)
    refine lv_goto (tgt := 229) hx hb d_M_init_327 (by decide) ?_
    exact hk229 _ _ _ _ _ _ h hP hD hS (lv_sub hl [1, 0] rfl)
set_option maxHeartbeats 4000000 in
set_option maxRecDepth 100000 in
theorem t_M_init_298 {p : Program} {l : Launch} {e : Env} {s : State} {m : MethodId} {args : Array Value} {below : List Frame} {meth : Method} {c : Code} {D : va_G} {cI cZ : ClassId} {a : Nat → Nat} {A : Nat → Prop} (C0 : Am p s m args meth c b_M_init none 3 R_M D [(cI, .int), (cZ, .boolean)]) {kc ks : Nat} (hin2 : meth.name = "<init>") (hA : ∀ q, s.heap.size ≤ q → A q) {res : Int32 × StM} {k229 : StM → Int32 → Option (Int32 × StM)} (hk229 : ∀ (q : Nat) (σ : StM) (x2 : Int32) (H : Heap) (locs : List Loc) (ls : Array Slot), k229 σ x2 = some res → va_P D vwCl (wM cI cZ a q σ) H → va_D A (wM cI cZ a q σ) → va_S A s.heap H locs → lv_has ls 3 [(0, .ref (a 20)), (2, .int x2)] → W p l e (rmK 1 24 kc ks) s m args below meth c H locs kc ks (RwQv below args s D A (fun q (σ : StM) => (wM cI cZ a q σ)) res kc ks) (F0 m 229 ls []))  {q : Nat} {σ : StM} {x2 : Int32} (h : f_M_init_298 k229 σ x2 = some res) {H : Heap} {locs : List Loc} (hP : va_P D vwCl (wM cI cZ a q σ) H) (hD : va_D A (wM cI cZ a q σ)) (hS : va_S A s.heap H locs) {ls : Array Slot} (hl : lv_has ls 3 [(0, .ref (a 20)), (2, .int x2)]) : W p l e (rmK 1 24 kc ks) s m args below meth c H locs kc ks (RwQv below args s D A (fun q (σ : StM) => (wM cI cZ a q σ)) res kc ks) (F0 m 298 ls []) := by
  obtain ⟨hx, hb, hr, hml, hown, hts, hlk, hK⟩ := id C0
  unfold f_M_init_298 at h
  refine lv_iload_n hx hb d_M_init_298 rfl (lv_at hl 1 rfl) ?_
  refine lv_iconst (v := 3) hx hb d_M_init_299 (by decide) ?_
  refine lv_icmp_le (tgt := 310) hx hb d_M_init_300 (by decide) (fun hc => ?_) (fun hc => ?_)
  · rw [if_pos hc] at h
    exact t_M_init_310 (a := a) C0 hin2 hA hk229 h hP hD hS (lv_sub hl [0, 1] rfl)
  · rw [if_neg hc] at h
    refine lv_aload_n hx hb d_M_init_303 rfl (lv_at hl 0 rfl) ?_
    refine lv_iload_n hx hb d_M_init_304 rfl (lv_at hl 1 rfl) ?_
    refine lv_iconst (v := 2) hx hb d_M_init_305 (by decide) ?_
    refine lv_iconst (v := (-1)) hx hb d_M_init_306 (by decide) ?_
    replace h := bd h
    obtain ⟨r3, g3, h⟩ := h
    refine rw_Vv (n := 3) (ci := 4) (As := [.int x2, .int 2, .int (-1)]) (rest := []) (Wn := fun _ => (wM cI cZ a q r3.2)) C0 hA (c_M_tie l D cI cZ a q σ x2 2 (-1) g3) wd_395 ⟨wd_396, wd_397, wd_398, wd_352⟩ (by decide +kernel) ⟨Nat.le_of_ble_eq_true rfl, Nat.le_of_ble_eq_true rfl⟩ hP hD hS [0, 1, 2, 3, 4, 5, 6, 7, 8, 9, 10, 11, 12, 13, 14, 15, 16, 17, 18, 19, 20, 21, 22, 23] [] [0, 1, 2, 3, 4, 5, 6, 7, 8, 9, 10, 11, 12, 13, 14, 15, 16, 17, 18, 19, 20, 21, 22, 23] jn_M__C (by decide) jn_M__R (by decide) (by decide) (by decide) jn_M__W rfl rfl rfl hl rfl rfl (Nat.le_of_ble_eq_true rfl) ⟨Nat.le_refl _, Nat.le_refl _⟩ d_M_init_307 (fun H locs _ hP hD hS => ?_)
    try dsimp only at h
    exact t_M_init_310 (a := a) C0 hin2 hA hk229 h hP hD hS (lv_sub hl [0, 1] rfl)
set_option maxHeartbeats 4000000 in
set_option maxRecDepth 100000 in
theorem t_M_init_294 {p : Program} {l : Launch} {e : Env} {s : State} {m : MethodId} {args : Array Value} {below : List Frame} {meth : Method} {c : Code} {D : va_G} {cI cZ : ClassId} {a : Nat → Nat} {A : Nat → Prop} (C0 : Am p s m args meth c b_M_init none 3 R_M D [(cI, .int), (cZ, .boolean)]) {kc ks : Nat} (hin2 : meth.name = "<init>") (hA : ∀ q, s.heap.size ≤ q → A q) {res : Int32 × StM} {k229 : StM → Int32 → Option (Int32 × StM)} (hk229 : ∀ (q : Nat) (σ : StM) (x2 : Int32) (H : Heap) (locs : List Loc) (ls : Array Slot), k229 σ x2 = some res → va_P D vwCl (wM cI cZ a q σ) H → va_D A (wM cI cZ a q σ) → va_S A s.heap H locs → lv_has ls 3 [(0, .ref (a 20)), (2, .int x2)] → W p l e (rmK 1 24 kc ks) s m args below meth c H locs kc ks (RwQv below args s D A (fun q (σ : StM) => (wM cI cZ a q σ)) res kc ks) (F0 m 229 ls []))  {q : Nat} {σ : StM} {x2 t1 t2 : Int32} (h : f_M_init_294 k229 σ x2 t1 t2 = some res) {H : Heap} {locs : List Loc} (hP : va_P D vwCl (wM cI cZ a q σ) H) (hD : va_D A (wM cI cZ a q σ)) (hS : va_S A s.heap H locs) {ls : Array Slot} (hl : lv_has ls 3 [(0, .ref (a 20)), (2, .int x2)]) : W p l e (rmK 1 24 kc ks) s m args below meth c H locs kc ks (RwQv below args s D A (fun q (σ : StM) => (wM cI cZ a q σ)) res kc ks) (F0 m 294 ls [.int t2, .int t1, .ref (a 20)]) := by
  obtain ⟨hx, hb, hr, hml, hown, hts, hlk, hK⟩ := id C0
  unfold f_M_init_294 at h
  refine lv_iconst (v := (-1)) hx hb d_M_init_294 (by decide) ?_
  replace h := bd h
  obtain ⟨r4, g4, h⟩ := h
  refine rw_Vv (n := 3) (ci := 4) (As := [.int t1, .int t2, .int (-1)]) (rest := []) (Wn := fun _ => (wM cI cZ a q r4.2)) C0 hA (c_M_tie l D cI cZ a q σ t1 t2 (-1) g4) wd_395 ⟨wd_396, wd_397, wd_398, wd_352⟩ (by decide +kernel) ⟨Nat.le_of_ble_eq_true rfl, Nat.le_of_ble_eq_true rfl⟩ hP hD hS [0, 1, 2, 3, 4, 5, 6, 7, 8, 9, 10, 11, 12, 13, 14, 15, 16, 17, 18, 19, 20, 21, 22, 23] [] [0, 1, 2, 3, 4, 5, 6, 7, 8, 9, 10, 11, 12, 13, 14, 15, 16, 17, 18, 19, 20, 21, 22, 23] jn_M__C (by decide) jn_M__R (by decide) (by decide) (by decide) jn_M__W rfl rfl rfl hl rfl rfl (Nat.le_of_ble_eq_true rfl) ⟨Nat.le_refl _, Nat.le_refl _⟩ d_M_init_295 (fun H locs _ hP hD hS => ?_)
  try dsimp only at h
  exact t_M_init_298 (a := a) C0 hin2 hA hk229 h hP hD hS (lv_sub hl [0, 1] rfl)
set_option maxHeartbeats 4000000 in
set_option maxRecDepth 100000 in
theorem t_M_init_289 {p : Program} {l : Launch} {e : Env} {s : State} {m : MethodId} {args : Array Value} {below : List Frame} {meth : Method} {c : Code} {D : va_G} {cI cZ : ClassId} {a : Nat → Nat} {A : Nat → Prop} (C0 : Am p s m args meth c b_M_init none 3 R_M D [(cI, .int), (cZ, .boolean)]) {kc ks : Nat} (hin2 : meth.name = "<init>") (hA : ∀ q, s.heap.size ≤ q → A q) {res : Int32 × StM} {k229 : StM → Int32 → Option (Int32 × StM)} (hk229 : ∀ (q : Nat) (σ : StM) (x2 : Int32) (H : Heap) (locs : List Loc) (ls : Array Slot), k229 σ x2 = some res → va_P D vwCl (wM cI cZ a q σ) H → va_D A (wM cI cZ a q σ) → va_S A s.heap H locs → lv_has ls 3 [(0, .ref (a 20)), (2, .int x2)] → W p l e (rmK 1 24 kc ks) s m args below meth c H locs kc ks (RwQv below args s D A (fun q (σ : StM) => (wM cI cZ a q σ)) res kc ks) (F0 m 229 ls []))  {q : Nat} {σ : StM} {x2 t1 : Int32} (h : f_M_init_289 k229 σ x2 t1 = some res) {H : Heap} {locs : List Loc} (hP : va_P D vwCl (wM cI cZ a q σ) H) (hD : va_D A (wM cI cZ a q σ)) (hS : va_S A s.heap H locs) {ls : Array Slot} (hl : lv_has ls 3 [(0, .ref (a 20)), (2, .int x2)]) : W p l e (rmK 1 24 kc ks) s m args below meth c H locs kc ks (RwQv below args s D A (fun q (σ : StM) => (wM cI cZ a q σ)) res kc ks) (F0 m 289 ls [.int t1, .ref (a 20)]) := by
  obtain ⟨hx, hb, hr, hml, hown, hts, hlk, hK⟩ := id C0
  unfold f_M_init_289 at h
  refine lv_iconst (v := 0) hx hb d_M_init_289 (by decide) ?_
  refine lv_goto (tgt := 294) hx hb d_M_init_290 (by decide) ?_
  exact t_M_init_294 (a := a) C0 hin2 hA hk229 h hP hD hS (lv_sub hl [0, 1] rfl)
set_option maxHeartbeats 4000000 in
set_option maxRecDepth 100000 in
theorem t_M_init_270 {p : Program} {l : Launch} {e : Env} {s : State} {m : MethodId} {args : Array Value} {below : List Frame} {meth : Method} {c : Code} {D : va_G} {cI cZ : ClassId} {a : Nat → Nat} {A : Nat → Prop} (C0 : Am p s m args meth c b_M_init none 3 R_M D [(cI, .int), (cZ, .boolean)]) {kc ks : Nat} (hin2 : meth.name = "<init>") (hA : ∀ q, s.heap.size ≤ q → A q) {res : Int32 × StM} {k229 : StM → Int32 → Option (Int32 × StM)} (hk229 : ∀ (q : Nat) (σ : StM) (x2 : Int32) (H : Heap) (locs : List Loc) (ls : Array Slot), k229 σ x2 = some res → va_P D vwCl (wM cI cZ a q σ) H → va_D A (wM cI cZ a q σ) → va_S A s.heap H locs → lv_has ls 3 [(0, .ref (a 20)), (2, .int x2)] → W p l e (rmK 1 24 kc ks) s m args below meth c H locs kc ks (RwQv below args s D A (fun q (σ : StM) => (wM cI cZ a q σ)) res kc ks) (F0 m 229 ls []))  {q : Nat} {σ : StM} {x2 t1 t2 : Int32} (h : f_M_init_270 k229 σ x2 t1 t2 = some res) {H : Heap} {locs : List Loc} (hP : va_P D vwCl (wM cI cZ a q σ) H) (hD : va_D A (wM cI cZ a q σ)) (hS : va_S A s.heap H locs) {ls : Array Slot} (hl : lv_has ls 3 [(0, .ref (a 20)), (2, .int x2)]) : W p l e (rmK 1 24 kc ks) s m args below meth c H locs kc ks (RwQv below args s D A (fun q (σ : StM) => (wM cI cZ a q σ)) res kc ks) (F0 m 270 ls [.int t2, .int t1, .ref (a 22)]) := by
  obtain ⟨hx, hb, hr, hml, hown, hts, hlk, hK⟩ := id C0
  unfold f_M_init_270 at h
  replace h := gd h
  obtain ⟨hi, h⟩ := h
  refine rw_zast C0 hP hD hS 2 1 rfl rfl hi d_M_init_270 (Wn := (wM cI cZ a q (M_put_generic σ t1 (vp_nar .boolean t2)))) ws_M_put_generic (fun H locs hP hD hS => ?_)
  refine lv_iload_n hx hb d_M_init_271 rfl (lv_at hl 1 rfl) ?_
  refine lv_if_le (tgt := 298) hx hb d_M_init_272 (by decide) (fun hc => ?_) (fun hc => ?_)
  · rw [if_pos hc] at h
    exact t_M_init_298 (a := a) C0 hin2 hA hk229 h hP hD hS (lv_sub hl [0, 1] rfl)
  · rw [if_neg hc] at h
    refine lv_aload_n hx hb d_M_init_275 rfl (lv_at hl 0 rfl) ?_
    refine lv_iload_n hx hb d_M_init_276 rfl (lv_at hl 1 rfl) ?_
    refine lv_iload_n hx hb d_M_init_277 rfl (lv_at hl 1 rfl) ?_
    refine lv_bipush (v := 6) hx hb d_M_init_278 (by decide) ?_
    refine lv_icmp_lt (tgt := 289) hx hb d_M_init_280 (by decide) (fun hc => ?_) (fun hc => ?_)
    · rw [if_pos hc] at h
      exact t_M_init_289 (a := a) C0 hin2 hA hk229 h hP hD hS (lv_sub hl [0, 1] rfl)
    · rw [if_neg hc] at h
      refine lv_iload_n hx hb d_M_init_283 rfl (lv_at hl 1 rfl) ?_
      refine lv_bipush (v := 8) hx hb d_M_init_284 (by decide) ?_
      refine lv_icmp_ne (tgt := 293) hx hb d_M_init_286 (by decide) (fun hc => ?_) (fun hc => ?_)
      · rw [if_neg hc] at h
        refine lv_iconst (v := 4) hx hb d_M_init_293 (by decide) ?_
        exact t_M_init_294 (a := a) C0 hin2 hA hk229 h hP hD hS (lv_sub hl [0, 1] rfl)
      · rw [if_pos hc] at h
        exact t_M_init_289 (a := a) C0 hin2 hA hk229 h hP hD hS (lv_sub hl [0, 1] rfl)
set_option maxHeartbeats 4000000 in
set_option maxRecDepth 100000 in
theorem t_M_init_254 {p : Program} {l : Launch} {e : Env} {s : State} {m : MethodId} {args : Array Value} {below : List Frame} {meth : Method} {c : Code} {D : va_G} {cI cZ : ClassId} {a : Nat → Nat} {A : Nat → Prop} (C0 : Am p s m args meth c b_M_init none 3 R_M D [(cI, .int), (cZ, .boolean)]) {kc ks : Nat} (hin2 : meth.name = "<init>") (hA : ∀ q, s.heap.size ≤ q → A q) {res : Int32 × StM} {k229 : StM → Int32 → Option (Int32 × StM)} (hk229 : ∀ (q : Nat) (σ : StM) (x2 : Int32) (H : Heap) (locs : List Loc) (ls : Array Slot), k229 σ x2 = some res → va_P D vwCl (wM cI cZ a q σ) H → va_D A (wM cI cZ a q σ) → va_S A s.heap H locs → lv_has ls 3 [(0, .ref (a 20)), (2, .int x2)] → W p l e (rmK 1 24 kc ks) s m args below meth c H locs kc ks (RwQv below args s D A (fun q (σ : StM) => (wM cI cZ a q σ)) res kc ks) (F0 m 229 ls []))  {q : Nat} {σ : StM} {x2 t1 t2 : Int32} (h : f_M_init_254 k229 σ x2 t1 t2 = some res) {H : Heap} {locs : List Loc} (hP : va_P D vwCl (wM cI cZ a q σ) H) (hD : va_D A (wM cI cZ a q σ)) (hS : va_S A s.heap H locs) {ls : Array Slot} (hl : lv_has ls 3 [(0, .ref (a 20)), (2, .int x2)]) : W p l e (rmK 1 24 kc ks) s m args below meth c H locs kc ks (RwQv below args s D A (fun q (σ : StM) => (wM cI cZ a q σ)) res kc ks) (F0 m 254 ls [.int t2, .int t1, .ref (a 21)]) := by
  obtain ⟨hx, hb, hr, hml, hown, hts, hlk, hK⟩ := id C0
  unfold f_M_init_254 at h
  replace h := gd h
  obtain ⟨hi, h⟩ := h
  refine rw_zast C0 hP hD hS 1 1 rfl rfl hi d_M_init_254 (Wn := (wM cI cZ a q (M_put_face σ t1 (vp_nar .boolean t2)))) ws_M_put_face (fun H locs hP hD hS => ?_)
  refine lv_aload_n hx hb d_M_init_255 rfl (lv_at hl 0 rfl) ?_
  refine va_get (ci := 4) (v := .ref (a 22)) (C := R_M) (T := F_M) (N := 35) hx hb hts i_M hown hK.1 hP 0 rfl rfl 5 (by decide) (hts _ wd_393) (fun _ h9 => h9) rfl d_M_init_256 ?_
  refine lv_iload_n hx hb d_M_init_259 rfl (lv_at hl 1 rfl) ?_
  refine lv_iload_n hx hb d_M_init_260 rfl (lv_at hl 1 rfl) ?_
  refine lv_iconst (v := 3) hx hb d_M_init_261 (by decide) ?_
  refine lv_icmp_ne (tgt := 269) hx hb d_M_init_262 (by decide) (fun hc => ?_) (fun hc => ?_)
  · rw [if_neg hc] at h
    refine lv_iconst (v := 0) hx hb d_M_init_269 (by decide) ?_
    exact t_M_init_270 (a := a) C0 hin2 hA hk229 h hP hD hS (lv_sub hl [0, 1] rfl)
  · rw [if_pos hc] at h
    refine lv_iconst (v := 1) hx hb d_M_init_265 (by decide) ?_
    refine lv_goto (tgt := 270) hx hb d_M_init_266 (by decide) ?_
    exact t_M_init_270 (a := a) C0 hin2 hA hk229 h hP hD hS (lv_sub hl [0, 1] rfl)
set_option maxHeartbeats 4000000 in
set_option maxRecDepth 100000 in
theorem t_M_init_253 {p : Program} {l : Launch} {e : Env} {s : State} {m : MethodId} {args : Array Value} {below : List Frame} {meth : Method} {c : Code} {D : va_G} {cI cZ : ClassId} {a : Nat → Nat} {A : Nat → Prop} (C0 : Am p s m args meth c b_M_init none 3 R_M D [(cI, .int), (cZ, .boolean)]) {kc ks : Nat} (hin2 : meth.name = "<init>") (hA : ∀ q, s.heap.size ≤ q → A q) {res : Int32 × StM} {k229 : StM → Int32 → Option (Int32 × StM)} (hk229 : ∀ (q : Nat) (σ : StM) (x2 : Int32) (H : Heap) (locs : List Loc) (ls : Array Slot), k229 σ x2 = some res → va_P D vwCl (wM cI cZ a q σ) H → va_D A (wM cI cZ a q σ) → va_S A s.heap H locs → lv_has ls 3 [(0, .ref (a 20)), (2, .int x2)] → W p l e (rmK 1 24 kc ks) s m args below meth c H locs kc ks (RwQv below args s D A (fun q (σ : StM) => (wM cI cZ a q σ)) res kc ks) (F0 m 229 ls []))  {q : Nat} {σ : StM} {x2 t1 : Int32} (h : f_M_init_253 k229 σ x2 t1 = some res) {H : Heap} {locs : List Loc} (hP : va_P D vwCl (wM cI cZ a q σ) H) (hD : va_D A (wM cI cZ a q σ)) (hS : va_S A s.heap H locs) {ls : Array Slot} (hl : lv_has ls 3 [(0, .ref (a 20)), (2, .int x2)]) : W p l e (rmK 1 24 kc ks) s m args below meth c H locs kc ks (RwQv below args s D A (fun q (σ : StM) => (wM cI cZ a q σ)) res kc ks) (F0 m 253 ls [.int t1, .ref (a 21)]) := by
  obtain ⟨hx, hb, hr, hml, hown, hts, hlk, hK⟩ := id C0
  unfold f_M_init_253 at h
  refine lv_iconst (v := 0) hx hb d_M_init_253 (by decide) ?_
  exact t_M_init_254 (a := a) C0 hin2 hA hk229 h hP hD hS (lv_sub hl [0, 1] rfl)
set_option maxHeartbeats 4000000 in
set_option maxRecDepth 100000 in
theorem t_M_init_229_s {p : Program} {l : Launch} {e : Env} {s : State} {m : MethodId} {args : Array Value} {below : List Frame} {meth : Method} {c : Code} {D : va_G} {cI cZ : ClassId} {a : Nat → Nat} {A : Nat → Prop} (C0 : Am p s m args meth c b_M_init none 3 R_M D [(cI, .int), (cZ, .boolean)]) {kc ks : Nat} (hin2 : meth.name = "<init>") (hA : ∀ q, s.heap.size ≤ q → A q) {res : Int32 × StM} {k229 : StM → Int32 → Option (Int32 × StM)}  (hk229 : ∀ (q : Nat) (σ : StM) (x2 : Int32) (H : Heap) (locs : List Loc) (ls : Array Slot), k229 σ x2 = some res → va_P D vwCl (wM cI cZ a q σ) H → va_D A (wM cI cZ a q σ) → va_S A s.heap H locs → lv_has ls 3 [(0, .ref (a 20)), (2, .int x2)] → W p l e (rmK 1 24 kc ks) s m args below meth c H locs kc ks (RwQv below args s D A (fun q (σ : StM) => (wM cI cZ a q σ)) res kc ks) (F0 m 229 ls [])) {q : Nat} {σ : StM} {x2 : Int32} (h : f_M_init_229_s k229 σ x2 = some res) {H : Heap} {locs : List Loc} (hP : va_P D vwCl (wM cI cZ a q σ) H) (hD : va_D A (wM cI cZ a q σ)) (hS : va_S A s.heap H locs) {ls : Array Slot} (hl : lv_has ls 3 [(0, .ref (a 20)), (2, .int x2)]) : W p l e (rmK 1 24 kc ks) s m args below meth c H locs kc ks (RwQv below args s D A (fun q (σ : StM) => (wM cI cZ a q σ)) res kc ks) (F0 m 229 ls []) := by
  obtain ⟨hx, hb, hr, hml, hown, hts, hlk, hK⟩ := id C0
  unfold f_M_init_229_s at h
  refine lv_iload_n hx hb d_M_init_229 rfl (lv_at hl 1 rfl) ?_
  refine lv_bipush (v := 13) hx hb d_M_init_230 (by decide) ?_
  refine lv_icmp_ge (tgt := 330) hx hb d_M_init_232 (by decide) (fun hc => ?_) (fun hc => ?_)
  · rw [if_pos hc] at h
    refine lv_aload_n hx hb d_M_init_330 rfl (lv_at hl 0 rfl) ?_
    refine lv_bipush (v := 13) hx hb d_M_init_331 (by decide) ?_
    refine rw_put (v := .int 13) (fty := .int) (C := R_M) (T := F_M) (N := 35) C0 hP hD hS i_M ty_M tyok_M nn_M 0 rfl rfl 2 (by decide) (hts _ wd_343) rfl rfl (by decide +kernel) rfl rfl (Nat.le_of_ble_eq_true rfl) d_M_init_333 (Wn := (wM cI cZ a q (M_set_classes σ 13))) ws_M_set_classes (fun H locs hP hD hS => ?_)
    refine lv_aload_n hx hb d_M_init_336 rfl (lv_at hl 0 rfl) ?_
    refine lv_iconst (v := 1) hx hb d_M_init_337 (by decide) ?_
    refine rw_put (v := .int 1) (fty := .int) (C := R_M) (T := F_M) (N := 35) C0 hP hD hS i_M ty_M tyok_M nn_M 0 rfl rfl 3 (by decide) (hts _ wd_394) rfl rfl (by decide +kernel) rfl rfl (Nat.le_of_ble_eq_true rfl) d_M_init_338 (Wn := (wM cI cZ a q (M_set_generics (M_set_classes σ 13) 1))) ws_M_set_generics (fun H locs hP hD hS => ?_)
    refine lv_iconst (v := 0) hx hb d_M_init_341 (by decide) ?_
    refine lv_istore_n (lv' := [(2, .int 0), (0, .ref (a 20))]) hx hb d_M_init_342 rfl hl (by decide) rfl (fun ls hl => ?_)
    exact t_M_init_343 (a := a) C0 hin2 hA  h hP hD hS (lv_sub hl [1, 0] rfl)
  · rw [if_neg hc] at h
    refine lv_aload_n hx hb d_M_init_235 rfl (lv_at hl 0 rfl) ?_
    refine va_get (ci := 4) (v := .ref (a 21)) (C := R_M) (T := F_M) (N := 35) hx hb hts i_M hown hK.1 hP 0 rfl rfl 4 (by decide) (hts _ wd_392) (fun _ h9 => h9) rfl d_M_init_236 ?_
    refine lv_iload_n hx hb d_M_init_239 rfl (lv_at hl 1 rfl) ?_
    refine lv_iload_n hx hb d_M_init_240 rfl (lv_at hl 1 rfl) ?_
    refine lv_if_le (tgt := 253) hx hb d_M_init_241 (by decide) (fun hc => ?_) (fun hc => ?_)
    · rw [if_pos hc] at h
      exact t_M_init_253 (a := a) C0 hin2 hA hk229 h hP hD hS (lv_sub hl [0, 1] rfl)
    · rw [if_neg hc] at h
      refine lv_iload_n hx hb d_M_init_244 rfl (lv_at hl 1 rfl) ?_
      refine lv_iconst (v := 4) hx hb d_M_init_245 (by decide) ?_
      refine lv_icmp_ge (tgt := 253) hx hb d_M_init_246 (by decide) (fun hc => ?_) (fun hc => ?_)
      · rw [if_pos hc] at h
        exact t_M_init_253 (a := a) C0 hin2 hA hk229 h hP hD hS (lv_sub hl [0, 1] rfl)
      · rw [if_neg hc] at h
        refine lv_iconst (v := 1) hx hb d_M_init_249 (by decide) ?_
        refine lv_goto (tgt := 254) hx hb d_M_init_250 (by decide) ?_
        exact t_M_init_254 (a := a) C0 hin2 hA hk229 h hP hD hS (lv_sub hl [0, 1] rfl)
set_option maxHeartbeats 4000000 in
set_option maxRecDepth 100000 in
theorem t_M_init_229 {p : Program} {l : Launch} {e : Env} {s : State} {m : MethodId} {args : Array Value} {below : List Frame} {meth : Method} {c : Code} {D : va_G} {cI cZ : ClassId} {a : Nat → Nat} {A : Nat → Prop} (C0 : Am p s m args meth c b_M_init none 3 R_M D [(cI, .int), (cZ, .boolean)]) {kc ks : Nat} (hin2 : meth.name = "<init>") (hA : ∀ q, s.heap.size ≤ q → A q) {res : Int32 × StM}  {n : Nat} {q : Nat} {σ : StM} {x2 : Int32} (h : f_M_init_229  n σ x2 = some res) {H : Heap} {locs : List Loc} (hP : va_P D vwCl (wM cI cZ a q σ) H) (hD : va_D A (wM cI cZ a q σ)) (hS : va_S A s.heap H locs) {ls : Array Slot} (hl : lv_has ls 3 [(0, .ref (a 20)), (2, .int x2)]) : W p l e (rmK 1 24 kc ks) s m args below meth c H locs kc ks (RwQv below args s D A (fun q (σ : StM) => (wM cI cZ a q σ)) res kc ks) (F0 m 229 ls []) := by
  induction n generalizing q σ x2 H locs ls with
  | zero => cases h
  | succ n ih => exact t_M_init_229_s (a := a) C0 hin2 hA  (fun _ _ _ _ _ _ h hP hD hS hl => ih h hP hD hS hl) h hP hD hS hl
set_option maxHeartbeats 4000000 in
set_option maxRecDepth 100000 in
theorem t_M_init_205 {p : Program} {l : Launch} {e : Env} {s : State} {m : MethodId} {args : Array Value} {below : List Frame} {meth : Method} {c : Code} {D : va_G} {cI cZ : ClassId} {a : Nat → Nat} {A : Nat → Prop} (C0 : Am p s m args meth c b_M_init none 3 R_M D [(cI, .int), (cZ, .boolean)]) {kc ks : Nat} (hin2 : meth.name = "<init>") (hA : ∀ q, s.heap.size ≤ q → A q) {res : Int32 × StM}   {q : Nat} {σ : StM} {x1 : Int32} (h : f_M_init_205 σ x1 = some res) {H : Heap} {locs : List Loc} (hP : va_P D vwCl (wM cI cZ a q σ) H) (hD : va_D A (wM cI cZ a q σ)) (hS : va_S A s.heap H locs) {ls : Array Slot} (hl : lv_has ls 3 [(0, .ref (a 20)), (1, .int x1)]) : W p l e (rmK 1 24 kc ks) s m args below meth c H locs kc ks (RwQv below args s D A (fun q (σ : StM) => (wM cI cZ a q σ)) res kc ks) (F0 m 205 ls []) := by
  obtain ⟨hx, hb, hr, hml, hown, hts, hlk, hK⟩ := id C0
  unfold f_M_init_205 at h
  refine lv_aload_n hx hb d_M_init_205 rfl (lv_at hl 0 rfl) ?_
  refine lv_iload_n hx hb d_M_init_206 rfl (lv_at hl 1 rfl) ?_
  refine lv_if_ge (tgt := 214) hx hb d_M_init_207 (by decide) (fun hc => ?_) (fun hc => ?_)
  · rw [if_pos hc] at h
    refine lv_iload_n hx hb d_M_init_214 rfl (lv_at hl 1 rfl) ?_
    refine lv_iconst (v := 2) hx hb d_M_init_215 (by decide) ?_
    refine lv_icmp_le (tgt := 223) hx hb d_M_init_216 (by decide) (fun hc => ?_) (fun hc => ?_)
    · rw [if_pos hc] at h
      refine lv_iload_n hx hb d_M_init_223 rfl (lv_at hl 1 rfl) ?_
      refine rw_putF (v := .int x1) (fty := .int) (C := R_M) (T := F_M) (N := 35) C0 hin2 hP hD hS i_M ty_M tyok_M nn_M 0 rfl rfl 1 (by decide) (hts _ wd_418) rfl rfl rfl (by decide +kernel) rfl rfl (Nat.le_of_ble_eq_true rfl) d_M_init_224 (Wn := (wM cI cZ a q (M_set_depth σ x1))) ws_M_set_depth (fun H locs hP hD hS => ?_)
      refine lv_iconst (v := 0) hx hb d_M_init_227 (by decide) ?_
      refine lv_istore_n (lv' := [(2, .int 0), (0, .ref (a 20)), (1, .int x1)]) hx hb d_M_init_228 rfl hl (by decide) rfl (fun ls hl => ?_)
      exact t_M_init_229 (a := a) C0 hin2 hA  h hP hD hS (lv_sub hl [1, 0] rfl)
    · rw [if_neg hc] at h
      refine lv_iconst (v := 2) hx hb d_M_init_219 (by decide) ?_
      refine lv_goto (tgt := 224) hx hb d_M_init_220 (by decide) ?_
      refine rw_putF (v := .int 2) (fty := .int) (C := R_M) (T := F_M) (N := 35) C0 hin2 hP hD hS i_M ty_M tyok_M nn_M 0 rfl rfl 1 (by decide) (hts _ wd_418) rfl rfl rfl (by decide +kernel) rfl rfl (Nat.le_of_ble_eq_true rfl) d_M_init_224 (Wn := (wM cI cZ a q (M_set_depth σ 2))) ws_M_set_depth (fun H locs hP hD hS => ?_)
      refine lv_iconst (v := 0) hx hb d_M_init_227 (by decide) ?_
      refine lv_istore_n (lv' := [(2, .int 0), (0, .ref (a 20)), (1, .int x1)]) hx hb d_M_init_228 rfl hl (by decide) rfl (fun ls hl => ?_)
      exact t_M_init_229 (a := a) C0 hin2 hA  h hP hD hS (lv_sub hl [1, 0] rfl)
  · rw [if_neg hc] at h
    refine lv_iconst (v := 0) hx hb d_M_init_210 (by decide) ?_
    refine lv_goto (tgt := 224) hx hb d_M_init_211 (by decide) ?_
    refine rw_putF (v := .int 0) (fty := .int) (C := R_M) (T := F_M) (N := 35) C0 hin2 hP hD hS i_M ty_M tyok_M nn_M 0 rfl rfl 1 (by decide) (hts _ wd_418) rfl rfl rfl (by decide +kernel) rfl rfl (Nat.le_of_ble_eq_true rfl) d_M_init_224 (Wn := (wM cI cZ a q (M_set_depth σ 0))) ws_M_set_depth (fun H locs hP hD hS => ?_)
    refine lv_iconst (v := 0) hx hb d_M_init_227 (by decide) ?_
    refine lv_istore_n (lv' := [(2, .int 0), (0, .ref (a 20)), (1, .int x1)]) hx hb d_M_init_228 rfl hl (by decide) rfl (fun ls hl => ?_)
    exact t_M_init_229 (a := a) C0 hin2 hA  h hP hD hS (lv_sub hl [1, 0] rfl)
-- part 07.71ctorT.lean.txt
def f_T_init_118_s (k118 : StT → Int32 → Option (Int32 × StT)) (σ : StT) (x1 : Int32) : Option (Int32 × StT) :=
  if 8 ≤ x1 then
    (f_T_settle σ).bind fun r1 =>
    some (0, r1.2)
  else
    (f_T_makeNamed σ (5 + x1) 0).bind fun r2 =>
    k118 r2.2 (x1 + 1)
def f_T_init_118 : Nat → StT → Int32 → Option (Int32 × StT)
  | 0, _, _ => none
  | n + 1, σ, x1 => f_T_init_118_s (f_T_init_118 n) σ x1
def f_T_init_97_s (k97 : StT → Int32 → Option (Int32 × StT)) (σ : StT) (x1 : Int32) : Option (Int32 × StT) :=
  if 8 ≤ x1 then
    f_T_init_118 1000 σ 0
  else
    (f_T_append σ 0 1).bind fun r3 =>
    k97 r3.2 (x1 + 1)
def f_T_init_97 : Nat → StT → Int32 → Option (Int32 × StT)
  | 0, _, _ => none
  | n + 1, σ, x1 => f_T_init_97_s (f_T_init_97 n) σ x1
def f_T_init_75 (σ : StT) : Option (Int32 × StT) :=
  f_T_init_97 1000 (T_set_settledCount (T_set_settledParts (T_set_count (T_set_partsUsed σ 0) 0) 0) 0) 0
set_option maxHeartbeats 4000000 in
set_option maxRecDepth 100000 in
theorem t_T_init_118_s {p : Program} {l : Launch} {e : Env} {s : State} {m : MethodId} {args : Array Value} {below : List Frame} {meth : Method} {c : Code} {D : va_G} {cI cZ : ClassId} {a : Nat → Nat} {A : Nat → Prop} (C0 : Am p s m args meth c b_T_init none 2 R_T D [(cI, .int), (cZ, .boolean)]) {kc ks : Nat} (hin2 : meth.name = "<init>") (hA : ∀ q, s.heap.size ≤ q → A q) {res : Int32 × StT} {k118 : StT → Int32 → Option (Int32 × StT)}  (hk118 : ∀ (q : Nat) (σ : StT) (x1 : Int32) (H : Heap) (locs : List Loc) (ls : Array Slot), k118 σ x1 = some res → va_P D vwCl (wT cI cZ a q σ) H → va_D A (wT cI cZ a q σ) → va_S A s.heap H locs → lv_has ls 2 [(0, .ref (a 10)), (1, .int x1)] → W p l e (rmK 3 65 kc ks) s m args below meth c H locs kc ks (RwQv below args s D A (fun q (σ : StT) => (wT cI cZ a q σ)) res kc ks) (F0 m 118 ls [])) {q : Nat} {σ : StT} {x1 : Int32} (h : f_T_init_118_s k118 σ x1 = some res) {H : Heap} {locs : List Loc} (hP : va_P D vwCl (wT cI cZ a q σ) H) (hD : va_D A (wT cI cZ a q σ)) (hS : va_S A s.heap H locs) {ls : Array Slot} (hl : lv_has ls 2 [(0, .ref (a 10)), (1, .int x1)]) : W p l e (rmK 3 65 kc ks) s m args below meth c H locs kc ks (RwQv below args s D A (fun q (σ : StT) => (wT cI cZ a q σ)) res kc ks) (F0 m 118 ls []) := by
  obtain ⟨hx, hb, hr, hml, hown, hts, hlk, hK⟩ := id C0
  unfold f_T_init_118_s at h
  refine lv_iload_n hx hb d_T_init_118 rfl (lv_at hl 1 rfl) ?_
  refine lv_bipush (v := 8) hx hb d_T_init_119 (by decide) ?_
  refine lv_icmp_ge (tgt := 139) hx hb d_T_init_121 (by decide) (fun hc => ?_) (fun hc => ?_)
  · rw [if_pos hc] at h
    refine lv_aload_n hx hb d_T_init_139 rfl (lv_at hl 0 rfl) ?_
    replace h := bd h
    obtain ⟨r1, g1, h⟩ := h
    refine rw_Vv (n := 0) (ci := 2) (As := []) (rest := []) (Wn := fun q => (wT cI cZ a q r1.2)) C0 hA (c_T_settle l D cI cZ a q σ g1) wd_492 ⟨wd_167, wd_168, wd_169, wd_52⟩ (by decide +kernel) ⟨Nat.le_of_ble_eq_true rfl, Nat.le_of_ble_eq_true rfl⟩ hP hD hS [0, 1, 2, 3, 4, 5, 6, 7, 8] [] [0, 1, 2, 3, 4, 5, 6, 7, 8] jn_T__C (by decide) jn_T__R (by decide) (by decide) (by decide) jn_T__W rfl rfl rfl hl rfl rfl (Nat.le_of_ble_eq_true rfl) ⟨Nat.le_refl _, Nat.le_refl _⟩ d_T_init_140 (fun H locs q hP hD hS => ?_)
    try dsimp only at h
    exact rw_retv C0 hP hD hS (Option.some.inj h) d_T_init_143
  · rw [if_neg hc] at h
    refine lv_aload_n hx hb d_T_init_124 rfl (lv_at hl 0 rfl) ?_
    refine lv_iconst (v := 5) hx hb d_T_init_125 (by decide) ?_
    refine lv_iload_n hx hb d_T_init_126 rfl (lv_at hl 1 rfl) ?_
    refine lv_iadd hx hb d_T_init_127 ?_
    refine lv_iconst (v := 0) hx hb d_T_init_128 (by decide) ?_
    replace h := bd h
    obtain ⟨r2, g2, h⟩ := h
    refine rw_V (n := 2) (ci := 2) (As := [.int (5 + x1), .int 0]) (rest := []) (Wn := fun q => (wT cI cZ a q r2.2)) C0 hA (c_T_makeNamed l D cI cZ a q σ (5 + x1) 0 g2) wd_493 ⟨wd_176, wd_177, wd_178, wd_52⟩ (by decide +kernel) ⟨Nat.le_of_ble_eq_true rfl, Nat.le_of_ble_eq_true rfl⟩ hP hD hS [0, 1, 2, 3, 4, 5, 6, 7, 8] [] [0, 1, 2, 3, 4, 5, 6, 7, 8] jn_T__C (by decide) jn_T__R (by decide) (by decide) (by decide) jn_T__W rfl rfl rfl hl rfl rfl (Nat.le_of_ble_eq_true rfl) ⟨Nat.le_refl _, Nat.le_refl _⟩ d_T_init_129 (fun H locs q hP hD hS => ?_)
    try dsimp only at h
    refine lv_pop hx hb d_T_init_132 rfl ?_
    refine lv_iinc (v := (x1 + 1)) (lv' := [(1, .int (x1 + 1)), (0, .ref (a 10))]) hx hb d_T_init_133 hl (k := 1) rfl rfl (by decide) rfl (fun ls hl => ?_)
    refine lv_goto (tgt := 118) hx hb d_T_init_136 (by decide) ?_
    exact hk118 _ _ _ _ _ _ h hP hD hS (lv_sub hl [1, 0] rfl)
set_option maxHeartbeats 4000000 in
set_option maxRecDepth 100000 in
theorem t_T_init_118 {p : Program} {l : Launch} {e : Env} {s : State} {m : MethodId} {args : Array Value} {below : List Frame} {meth : Method} {c : Code} {D : va_G} {cI cZ : ClassId} {a : Nat → Nat} {A : Nat → Prop} (C0 : Am p s m args meth c b_T_init none 2 R_T D [(cI, .int), (cZ, .boolean)]) {kc ks : Nat} (hin2 : meth.name = "<init>") (hA : ∀ q, s.heap.size ≤ q → A q) {res : Int32 × StT}  {n : Nat} {q : Nat} {σ : StT} {x1 : Int32} (h : f_T_init_118  n σ x1 = some res) {H : Heap} {locs : List Loc} (hP : va_P D vwCl (wT cI cZ a q σ) H) (hD : va_D A (wT cI cZ a q σ)) (hS : va_S A s.heap H locs) {ls : Array Slot} (hl : lv_has ls 2 [(0, .ref (a 10)), (1, .int x1)]) : W p l e (rmK 3 65 kc ks) s m args below meth c H locs kc ks (RwQv below args s D A (fun q (σ : StT) => (wT cI cZ a q σ)) res kc ks) (F0 m 118 ls []) := by
  induction n generalizing q σ x1 H locs ls with
  | zero => cases h
  | succ n ih => exact t_T_init_118_s (a := a) C0 hin2 hA  (fun _ _ _ _ _ _ h hP hD hS hl => ih h hP hD hS hl) h hP hD hS hl
set_option maxHeartbeats 4000000 in
set_option maxRecDepth 100000 in
theorem t_T_init_97_s {p : Program} {l : Launch} {e : Env} {s : State} {m : MethodId} {args : Array Value} {below : List Frame} {meth : Method} {c : Code} {D : va_G} {cI cZ : ClassId} {a : Nat → Nat} {A : Nat → Prop} (C0 : Am p s m args meth c b_T_init none 2 R_T D [(cI, .int), (cZ, .boolean)]) {kc ks : Nat} (hin2 : meth.name = "<init>") (hA : ∀ q, s.heap.size ≤ q → A q) {res : Int32 × StT} {k97 : StT → Int32 → Option (Int32 × StT)}  (hk97 : ∀ (q : Nat) (σ : StT) (x1 : Int32) (H : Heap) (locs : List Loc) (ls : Array Slot), k97 σ x1 = some res → va_P D vwCl (wT cI cZ a q σ) H → va_D A (wT cI cZ a q σ) → va_S A s.heap H locs → lv_has ls 2 [(0, .ref (a 10)), (1, .int x1)] → W p l e (rmK 3 65 kc ks) s m args below meth c H locs kc ks (RwQv below args s D A (fun q (σ : StT) => (wT cI cZ a q σ)) res kc ks) (F0 m 97 ls [])) {q : Nat} {σ : StT} {x1 : Int32} (h : f_T_init_97_s k97 σ x1 = some res) {H : Heap} {locs : List Loc} (hP : va_P D vwCl (wT cI cZ a q σ) H) (hD : va_D A (wT cI cZ a q σ)) (hS : va_S A s.heap H locs) {ls : Array Slot} (hl : lv_has ls 2 [(0, .ref (a 10)), (1, .int x1)]) : W p l e (rmK 3 65 kc ks) s m args below meth c H locs kc ks (RwQv below args s D A (fun q (σ : StT) => (wT cI cZ a q σ)) res kc ks) (F0 m 97 ls []) := by
  obtain ⟨hx, hb, hr, hml, hown, hts, hlk, hK⟩ := id C0
  unfold f_T_init_97_s at h
  refine lv_iload_n hx hb d_T_init_97 rfl (lv_at hl 1 rfl) ?_
  refine lv_bipush (v := 8) hx hb d_T_init_98 (by decide) ?_
  refine lv_icmp_ge (tgt := 116) hx hb d_T_init_100 (by decide) (fun hc => ?_) (fun hc => ?_)
  · rw [if_pos hc] at h
    refine lv_iconst (v := 0) hx hb d_T_init_116 (by decide) ?_
    refine lv_istore_n (lv' := [(1, .int 0), (0, .ref (a 10))]) hx hb d_T_init_117 rfl hl (by decide) rfl (fun ls hl => ?_)
    exact t_T_init_118 (a := a) C0 hin2 hA  h hP hD hS (lv_sub hl [1, 0] rfl)
  · rw [if_neg hc] at h
    refine lv_aload_n hx hb d_T_init_103 rfl (lv_at hl 0 rfl) ?_
    refine lv_iconst (v := 0) hx hb d_T_init_104 (by decide) ?_
    refine lv_iconst (v := 1) hx hb d_T_init_105 (by decide) ?_
    replace h := bd h
    obtain ⟨r3, g3, h⟩ := h
    refine rw_V (n := 2) (ci := 2) (As := [.int 0, .int 1]) (rest := []) (Wn := fun q => (wT cI cZ a q r3.2)) C0 hA (c_T_append l D cI cZ a q σ 0 1 g3) wd_60 ⟨wd_61, wd_62, wd_63, wd_52⟩ (by decide +kernel) ⟨Nat.le_of_ble_eq_true rfl, Nat.le_of_ble_eq_true rfl⟩ hP hD hS [0, 1, 2, 3, 4, 5, 6, 7, 8] [] [0, 1, 2, 3, 4, 5, 6, 7, 8] jn_T__C (by decide) jn_T__R (by decide) (by decide) (by decide) jn_T__W rfl rfl rfl hl rfl rfl (Nat.le_of_ble_eq_true rfl) ⟨Nat.le_refl _, Nat.le_refl _⟩ d_T_init_106 (fun H locs q hP hD hS => ?_)
    try dsimp only at h
    refine lv_pop hx hb d_T_init_109 rfl ?_
    refine lv_iinc (v := (x1 + 1)) (lv' := [(1, .int (x1 + 1)), (0, .ref (a 10))]) hx hb d_T_init_110 hl (k := 1) rfl rfl (by decide) rfl (fun ls hl => ?_)
    refine lv_goto (tgt := 97) hx hb d_T_init_113 (by decide) ?_
    exact hk97 _ _ _ _ _ _ h hP hD hS (lv_sub hl [1, 0] rfl)
set_option maxHeartbeats 4000000 in
set_option maxRecDepth 100000 in
theorem t_T_init_97 {p : Program} {l : Launch} {e : Env} {s : State} {m : MethodId} {args : Array Value} {below : List Frame} {meth : Method} {c : Code} {D : va_G} {cI cZ : ClassId} {a : Nat → Nat} {A : Nat → Prop} (C0 : Am p s m args meth c b_T_init none 2 R_T D [(cI, .int), (cZ, .boolean)]) {kc ks : Nat} (hin2 : meth.name = "<init>") (hA : ∀ q, s.heap.size ≤ q → A q) {res : Int32 × StT}  {n : Nat} {q : Nat} {σ : StT} {x1 : Int32} (h : f_T_init_97  n σ x1 = some res) {H : Heap} {locs : List Loc} (hP : va_P D vwCl (wT cI cZ a q σ) H) (hD : va_D A (wT cI cZ a q σ)) (hS : va_S A s.heap H locs) {ls : Array Slot} (hl : lv_has ls 2 [(0, .ref (a 10)), (1, .int x1)]) : W p l e (rmK 3 65 kc ks) s m args below meth c H locs kc ks (RwQv below args s D A (fun q (σ : StT) => (wT cI cZ a q σ)) res kc ks) (F0 m 97 ls []) := by
  induction n generalizing q σ x1 H locs ls with
  | zero => cases h
  | succ n ih => exact t_T_init_97_s (a := a) C0 hin2 hA  (fun _ _ _ _ _ _ h hP hD hS hl => ih h hP hD hS hl) h hP hD hS hl
set_option maxHeartbeats 4000000 in
set_option maxRecDepth 100000 in
theorem t_T_init_75 {p : Program} {l : Launch} {e : Env} {s : State} {m : MethodId} {args : Array Value} {below : List Frame} {meth : Method} {c : Code} {D : va_G} {cI cZ : ClassId} {a : Nat → Nat} {A : Nat → Prop} (C0 : Am p s m args meth c b_T_init none 2 R_T D [(cI, .int), (cZ, .boolean)]) {kc ks : Nat} (hin2 : meth.name = "<init>") (hA : ∀ q, s.heap.size ≤ q → A q) {res : Int32 × StT}   {q : Nat} {σ : StT} (h : f_T_init_75 σ = some res) {H : Heap} {locs : List Loc} (hP : va_P D vwCl (wT cI cZ a q σ) H) (hD : va_D A (wT cI cZ a q σ)) (hS : va_S A s.heap H locs) {ls : Array Slot} (hl : lv_has ls 2 [(0, .ref (a 10))]) : W p l e (rmK 3 65 kc ks) s m args below meth c H locs kc ks (RwQv below args s D A (fun q (σ : StT) => (wT cI cZ a q σ)) res kc ks) (F0 m 75 ls []) := by
  obtain ⟨hx, hb, hr, hml, hown, hts, hlk, hK⟩ := id C0
  unfold f_T_init_75 at h
  refine lv_aload_n hx hb d_T_init_75 rfl (lv_at hl 0 rfl) ?_
  refine lv_iconst (v := 0) hx hb d_T_init_76 (by decide) ?_
  refine rw_put (v := .int 0) (fty := .int) (C := R_T) (T := F_T) (N := 12) C0 hP hD hS i_T ty_T tyok_T nn_T 0 rfl rfl 8 (by decide) (hts _ wd_65) rfl rfl (by decide +kernel) rfl rfl (Nat.le_of_ble_eq_true rfl) d_T_init_77 (Wn := (wT cI cZ a q (T_set_partsUsed σ 0))) ws_T_set_partsUsed (fun H locs hP hD hS => ?_)
  refine lv_aload_n hx hb d_T_init_80 rfl (lv_at hl 0 rfl) ?_
  refine lv_iconst (v := 0) hx hb d_T_init_81 (by decide) ?_
  refine rw_put (v := .int 0) (fty := .int) (C := R_T) (T := F_T) (N := 12) C0 hP hD hS i_T ty_T tyok_T nn_T 0 rfl rfl 9 (by decide) (hts _ wd_40) rfl rfl (by decide +kernel) rfl rfl (Nat.le_of_ble_eq_true rfl) d_T_init_82 (Wn := (wT cI cZ a q (T_set_count (T_set_partsUsed σ 0) 0))) ws_T_set_count (fun H locs hP hD hS => ?_)
  refine lv_aload_n hx hb d_T_init_85 rfl (lv_at hl 0 rfl) ?_
  refine lv_iconst (v := 0) hx hb d_T_init_86 (by decide) ?_
  refine rw_put (v := .int 0) (fty := .int) (C := R_T) (T := F_T) (N := 12) C0 hP hD hS i_T ty_T tyok_T nn_T 0 rfl rfl 10 (by decide) (hts _ wd_66) rfl rfl (by decide +kernel) rfl rfl (Nat.le_of_ble_eq_true rfl) d_T_init_87 (Wn := (wT cI cZ a q (T_set_settledParts (T_set_count (T_set_partsUsed σ 0) 0) 0))) ws_T_set_settledParts (fun H locs hP hD hS => ?_)
  refine lv_aload_n hx hb d_T_init_90 rfl (lv_at hl 0 rfl) ?_
  refine lv_iconst (v := 0) hx hb d_T_init_91 (by decide) ?_
  refine rw_put (v := .int 0) (fty := .int) (C := R_T) (T := F_T) (N := 12) C0 hP hD hS i_T ty_T tyok_T nn_T 0 rfl rfl 11 (by decide) (hts _ wd_64) rfl rfl (by decide +kernel) rfl rfl (Nat.le_of_ble_eq_true rfl) d_T_init_92 (Wn := (wT cI cZ a q (T_set_settledCount (T_set_settledParts (T_set_count (T_set_partsUsed σ 0) 0) 0) 0))) ws_T_set_settledCount (fun H locs hP hD hS => ?_)
  refine lv_iconst (v := 0) hx hb d_T_init_95 (by decide) ?_
  refine lv_istore_n (lv' := [(1, .int 0), (0, .ref (a 10))]) hx hb d_T_init_96 rfl hl (by decide) rfl (fun ls hl => ?_)
  exact t_T_init_97 (a := a) C0 hin2 hA  h hP hD hS (lv_sub hl [1, 0] rfl)
-- part 07.72initA.lean.txt
set_option maxHeartbeats 4000000 in
set_option maxRecDepth 100000 in
theorem c_A_init (l : Launch) (D : va_G) (cI cZ : ClassId) (h : Nat) {res : Int32 × StA} (hf : f_A_init_13 ((fun _ => 0), 0) = some res) : ∀ sz, Met l y_A_init (Cond.code y_A_init b_A_init 1 none :: tb) (rmK 1 20 1 5625) (va_Pc [.ref h] (fun U => U.heap.size = sz ∧ va_P D vwCl [(h, .inr (3, [.null, .int 0]))] U.heap ∧ KN D [(cI, .int), (cZ, .boolean)] U ∧ va_D (fun _ => True) [(h, .inr (3, [.null, .int 0]))])) (va_Qv (fun u => u = res.2) (fun u t => ∃ a q, a 18 = h ∧ va_P D vwCl (wA cI cZ a q u) t.heap ∧ va_D (va_A [(h, .inr (3, [.null, .int 0]))] sz) (wA cI cZ a q u)) (va_A [(h, .inr (3, [.null, .int 0]))] sz)) 1 5625 (va_A [(h, .inr (3, [.null, .int 0]))] sz) := by
  intro sz
  refine Met.ofW (cc := b_A_init) (maxL := 1) (ret := none) (by decide) rfl ?_
  intro p e s m args below meth c s₁ B hml hv
  obtain ⟨rfl, hsz, hP, hK, hD0⟩ := hv
  subst hsz
  have hin2 : meth.name = "<init>" := (name_of_methodNamed B.named B.method).1
  have hts0 := atoms_spec (ws := Cond.code y_A_init b_A_init 1 none :: tb) B.pre
  have hl := lv_entry [.ref h] (n := 1) (Nat.le_of_ble_eq_true rfl)
  rw [lg_entry_eq]
  generalize (lg_sl [.ref h] ++ List.replicate (1 - (lg_sl [.ref h]).length) Slot.unset).toArray = ls at hl ⊢
  have hl : lv_has ls 1 [(0, .ref h)] := hl
  have C0 : Am p s m ([.ref h] : List Value).toArray meth c b_A_init none 1 R_A D [(cI, .int), (cZ, .boolean)] := ⟨B.exec, B.bytes, B.returns, hml, findClass_of_methodNamed B.named, fun w h => hts0 w (List.mem_cons_of_mem _ h), B.notSynchronized, hK⟩
  obtain ⟨hx, hb, hr, hml, hown, hts, hlk, hK⟩ := id C0
  have hD := hD0.self (sz := s.heap.size)
  generalize hAe : va_A [(h, .inr (3, [.null, .int 0]))] s.heap.size = A at hD ⊢
  have hA : ∀ q, s.heap.size ≤ q → A q := fun q h => by rw [← hAe]; exact Or.inr h
  have hS : va_S A s.heap s.heap [] := va_S.rf
  refine lv_aload_n hx hb d_A_init_0 rfl (lv_at hl 0 rfl) ?_
  refine W.objInit hx hb hown (hts _ wd_495) (hts _ wd_490) (hts _ wd_491) rfl (by rw [hml]; exact hl.1) rfl d_A_init_1 (Nat.le_of_ble_eq_true rfl) (Nat.le_of_ble_eq_true rfl) ?_
  refine W.eq (g2 := F0 m 4 ls []) rfl ?_
  refine lv_aload_n hx hb d_A_init_4 rfl (lv_at hl 0 rfl) ?_
  refine lv_sipush (v := 5625) hx hb d_A_init_5 (by decide) ?_
  refine mk_int (N := 5625) C0 0 rfl wd_arrI hP hD hS hA (by decide) rfl (by decide) (Nat.le_of_ble_eq_true rfl) (Nat.le_of_ble_eq_true rfl) d_A_init_8 (fun q0 H hP hD hS => ?_)
  refine rw_putF (v := .ref q0) (fty := (.array .int)) (C := R_A) (T := F_A) (N := 2) C0 hin2 hP hD hS i_A ty_A tyok_A nn_A 0 rfl rfl 0 (by decide) (hts _ wd_129) rfl rfl rfl (by decide +kernel) rfl rfl (Nat.le_of_ble_eq_true rfl) d_A_init_10 (Wn := [(h, .inr (3, [.ref q0, .int 0])), (q0, .inl (cI, 5625, .inl (fun _ => 0)))]) rfl (fun H locs hP hD hS => ?_)
  have hP : va_P D vwCl (wA cI cZ (fun k => if k = 18 then h else if k = 19 then q0 else 0) 0 ((fun _ => 0), 0)) H := hP.pick [0, 1] rfl
  have hD : va_D A (wA cI cZ (fun k => if k = 18 then h else if k = 19 then q0 else 0) 0 ((fun _ => 0), 0)) := hD.sub [0, 1] (by decide) rfl
  refine W.widen (k := 1) (n := 5625) (Nat.le_of_ble_eq_true rfl) (Nat.le_of_ble_eq_true rfl) ?_
  refine W.imp (fun t ht => ?_) (t_A_init_13 (a := (fun k => if k = 18 then h else if k = 19 then q0 else 0)) (kc := 1) (ks := 5625) C0 hin2 hA hf hP hD hS (lv_sub hl [0] rfl))
  obtain ⟨o, g1, g2, ⟨⟨u, g3, g4, q9, g5, g6⟩, g7⟩, g8⟩ := ht
  exact ⟨o, g1, g2, ⟨⟨u, g3, by rw [← g4], _, q9, rfl, g5, g6⟩, g7⟩, g8⟩
-- part 07.72initC.lean.txt
set_option maxHeartbeats 4000000 in
set_option maxRecDepth 100000 in
theorem c_C_init (l : Launch) (D : va_G) (cI cZ : ClassId) (h : Nat) {res : Int32 × StC} (hf : f_C_init_54 ((fun _ => 0), (fun _ => 0), (fun _ => 0), (fun _ => 0), (fun _ => 0), (fun _ => 0), 0, 0) = some res) : ∀ sz, Met l y_C_init (Cond.code y_C_init b_C_init 2 none :: tb) (rmK 4 90 6 1920) (va_Pc [.ref h] (fun U => U.heap.size = sz ∧ va_P D vwCl [(h, .inr (1, [.null, .null, .null, .null, .null, .null, .int 0, .int 0]))] U.heap ∧ KN D [(cI, .int), (cZ, .boolean)] U ∧ va_D (fun _ => True) [(h, .inr (1, [.null, .null, .null, .null, .null, .null, .int 0, .int 0]))])) (va_Qv (fun u => u = res.2) (fun u t => ∃ a q, a 3 = h ∧ va_P D vwCl (wC cI cZ a q u) t.heap ∧ va_D (va_A [(h, .inr (1, [.null, .null, .null, .null, .null, .null, .int 0, .int 0]))] sz) (wC cI cZ a q u)) (va_A [(h, .inr (1, [.null, .null, .null, .null, .null, .null, .int 0, .int 0]))] sz)) 6 1920 (va_A [(h, .inr (1, [.null, .null, .null, .null, .null, .null, .int 0, .int 0]))] sz) := by
  intro sz
  refine Met.ofW (cc := b_C_init) (maxL := 2) (ret := none) (by decide) rfl ?_
  intro p e s m args below meth c s₁ B hml hv
  obtain ⟨rfl, hsz, hP, hK, hD0⟩ := hv
  subst hsz
  have hin2 : meth.name = "<init>" := (name_of_methodNamed B.named B.method).1
  have hts0 := atoms_spec (ws := Cond.code y_C_init b_C_init 2 none :: tb) B.pre
  have hl := lv_entry [.ref h] (n := 2) (Nat.le_of_ble_eq_true rfl)
  rw [lg_entry_eq]
  generalize (lg_sl [.ref h] ++ List.replicate (2 - (lg_sl [.ref h]).length) Slot.unset).toArray = ls at hl ⊢
  have hl : lv_has ls 2 [(0, .ref h)] := hl
  have C0 : Am p s m ([.ref h] : List Value).toArray meth c b_C_init none 2 R_C D [(cI, .int), (cZ, .boolean)] := ⟨B.exec, B.bytes, B.returns, hml, findClass_of_methodNamed B.named, fun w h => hts0 w (List.mem_cons_of_mem _ h), B.notSynchronized, hK⟩
  obtain ⟨hx, hb, hr, hml, hown, hts, hlk, hK⟩ := id C0
  have hD := hD0.self (sz := s.heap.size)
  generalize hAe : va_A [(h, .inr (1, [.null, .null, .null, .null, .null, .null, .int 0, .int 0]))] s.heap.size = A at hD ⊢
  have hA : ∀ q, s.heap.size ≤ q → A q := fun q h => by rw [← hAe]; exact Or.inr h
  have hS : va_S A s.heap s.heap [] := va_S.rf
  refine lv_aload_n hx hb d_C_init_0 rfl (lv_at hl 0 rfl) ?_
  refine W.objInit hx hb hown (hts _ wd_489) (hts _ wd_490) (hts _ wd_491) rfl (by rw [hml]; exact hl.1) rfl d_C_init_1 (Nat.le_of_ble_eq_true rfl) (Nat.le_of_ble_eq_true rfl) ?_
  refine W.eq (g2 := F0 m 4 ls []) rfl ?_
  refine lv_aload_n hx hb d_C_init_4 rfl (lv_at hl 0 rfl) ?_
  refine lv_bipush (v := 30) hx hb d_C_init_5 (by decide) ?_
  refine mk_bool (N := 30) C0 1 rfl wd_arrZ hP hD hS hA (by decide) rfl (by decide) (Nat.le_of_ble_eq_true rfl) (Nat.le_of_ble_eq_true rfl) d_C_init_7 (fun q0 H hP hD hS => ?_)
  refine rw_putF (v := .ref q0) (fty := (.array .boolean)) (C := R_C) (T := F_C) (N := 8) C0 hin2 hP hD hS i_C ty_C tyok_C nn_C 0 rfl rfl 0 (by decide) (hts _ wd_21) rfl rfl rfl (by decide +kernel) rfl rfl (Nat.le_of_ble_eq_true rfl) d_C_init_9 (Wn := [(h, .inr (1, [.ref q0, .null, .null, .null, .null, .null, .int 0, .int 0])), (q0, .inl (cZ, 30, .inl (fun _ => 0)))]) rfl (fun H locs hP hD hS => ?_)
  refine lv_aload_n hx hb d_C_init_12 rfl (lv_at hl 0 rfl) ?_
  refine lv_bipush (v := 30) hx hb d_C_init_13 (by decide) ?_
  refine mk_bool (N := 30) C0 1 rfl wd_arrZ hP hD hS hA (by decide) rfl (by decide) (Nat.le_of_ble_eq_true rfl) (Nat.le_of_ble_eq_true rfl) d_C_init_15 (fun q1 H hP hD hS => ?_)
  refine rw_putF (v := .ref q1) (fty := (.array .boolean)) (C := R_C) (T := F_C) (N := 8) C0 hin2 hP hD hS i_C ty_C tyok_C nn_C 0 rfl rfl 1 (by decide) (hts _ wd_22) rfl rfl rfl (by decide +kernel) rfl rfl (Nat.le_of_ble_eq_true rfl) d_C_init_17 (Wn := [(h, .inr (1, [.ref q0, .ref q1, .null, .null, .null, .null, .int 0, .int 0])), (q0, .inl (cZ, 30, .inl (fun _ => 0))), (q1, .inl (cZ, 30, .inl (fun _ => 0)))]) rfl (fun H locs hP hD hS => ?_)
  refine lv_aload_n hx hb d_C_init_20 rfl (lv_at hl 0 rfl) ?_
  refine lv_bipush (v := 30) hx hb d_C_init_21 (by decide) ?_
  refine mk_int (N := 30) C0 0 rfl wd_arrI hP hD hS hA (by decide) rfl (by decide) (Nat.le_of_ble_eq_true rfl) (Nat.le_of_ble_eq_true rfl) d_C_init_23 (fun q2 H hP hD hS => ?_)
  refine rw_putF (v := .ref q2) (fty := (.array .int)) (C := R_C) (T := F_C) (N := 8) C0 hin2 hP hD hS i_C ty_C tyok_C nn_C 0 rfl rfl 2 (by decide) (hts _ wd_9) rfl rfl rfl (by decide +kernel) rfl rfl (Nat.le_of_ble_eq_true rfl) d_C_init_25 (Wn := [(h, .inr (1, [.ref q0, .ref q1, .ref q2, .null, .null, .null, .int 0, .int 0])), (q0, .inl (cZ, 30, .inl (fun _ => 0))), (q1, .inl (cZ, 30, .inl (fun _ => 0))), (q2, .inl (cI, 30, .inl (fun _ => 0)))]) rfl (fun H locs hP hD hS => ?_)
  refine lv_aload_n hx hb d_C_init_28 rfl (lv_at hl 0 rfl) ?_
  refine lv_bipush (v := 30) hx hb d_C_init_29 (by decide) ?_
  refine mk_int (N := 30) C0 0 rfl wd_arrI hP hD hS hA (by decide) rfl (by decide) (Nat.le_of_ble_eq_true rfl) (Nat.le_of_ble_eq_true rfl) d_C_init_31 (fun q3 H hP hD hS => ?_)
  refine rw_putF (v := .ref q3) (fty := (.array .int)) (C := R_C) (T := F_C) (N := 8) C0 hin2 hP hD hS i_C ty_C tyok_C nn_C 0 rfl rfl 3 (by decide) (hts _ wd_12) rfl rfl rfl (by decide +kernel) rfl rfl (Nat.le_of_ble_eq_true rfl) d_C_init_33 (Wn := [(h, .inr (1, [.ref q0, .ref q1, .ref q2, .ref q3, .null, .null, .int 0, .int 0])), (q0, .inl (cZ, 30, .inl (fun _ => 0))), (q1, .inl (cZ, 30, .inl (fun _ => 0))), (q2, .inl (cI, 30, .inl (fun _ => 0))), (q3, .inl (cI, 30, .inl (fun _ => 0)))]) rfl (fun H locs hP hD hS => ?_)
  refine lv_aload_n hx hb d_C_init_36 rfl (lv_at hl 0 rfl) ?_
  refine lv_sipush (v := 900) hx hb d_C_init_37 (by decide) ?_
  refine mk_int (N := 900) C0 0 rfl wd_arrI hP hD hS hA (by decide) rfl (by decide) (Nat.le_of_ble_eq_true rfl) (Nat.le_of_ble_eq_true rfl) d_C_init_40 (fun q4 H hP hD hS => ?_)
  refine rw_putF (v := .ref q4) (fty := (.array .int)) (C := R_C) (T := F_C) (N := 8) C0 hin2 hP hD hS i_C ty_C tyok_C nn_C 0 rfl rfl 4 (by decide) (hts _ wd_10) rfl rfl rfl (by decide +kernel) rfl rfl (Nat.le_of_ble_eq_true rfl) d_C_init_42 (Wn := [(h, .inr (1, [.ref q0, .ref q1, .ref q2, .ref q3, .ref q4, .null, .int 0, .int 0])), (q0, .inl (cZ, 30, .inl (fun _ => 0))), (q1, .inl (cZ, 30, .inl (fun _ => 0))), (q2, .inl (cI, 30, .inl (fun _ => 0))), (q3, .inl (cI, 30, .inl (fun _ => 0))), (q4, .inl (cI, 900, .inl (fun _ => 0)))]) rfl (fun H locs hP hD hS => ?_)
  refine lv_aload_n hx hb d_C_init_45 rfl (lv_at hl 0 rfl) ?_
  refine lv_sipush (v := 900) hx hb d_C_init_46 (by decide) ?_
  refine mk_int (N := 900) C0 0 rfl wd_arrI hP hD hS hA (by decide) rfl (by decide) (Nat.le_of_ble_eq_true rfl) (Nat.le_of_ble_eq_true rfl) d_C_init_49 (fun q5 H hP hD hS => ?_)
  refine rw_putF (v := .ref q5) (fty := (.array .int)) (C := R_C) (T := F_C) (N := 8) C0 hin2 hP hD hS i_C ty_C tyok_C nn_C 0 rfl rfl 5 (by decide) (hts _ wd_11) rfl rfl rfl (by decide +kernel) rfl rfl (Nat.le_of_ble_eq_true rfl) d_C_init_51 (Wn := [(h, .inr (1, [.ref q0, .ref q1, .ref q2, .ref q3, .ref q4, .ref q5, .int 0, .int 0])), (q0, .inl (cZ, 30, .inl (fun _ => 0))), (q1, .inl (cZ, 30, .inl (fun _ => 0))), (q2, .inl (cI, 30, .inl (fun _ => 0))), (q3, .inl (cI, 30, .inl (fun _ => 0))), (q4, .inl (cI, 900, .inl (fun _ => 0))), (q5, .inl (cI, 900, .inl (fun _ => 0)))]) rfl (fun H locs hP hD hS => ?_)
  have hP : va_P D vwCl (wC cI cZ (fun k => if k = 3 then h else if k = 4 then q0 else if k = 5 then q1 else if k = 6 then q2 else if k = 7 then q3 else if k = 8 then q4 else if k = 9 then q5 else 0) 0 ((fun _ => 0), (fun _ => 0), (fun _ => 0), (fun _ => 0), (fun _ => 0), (fun _ => 0), 0, 0)) H := hP.pick [0, 1, 2, 3, 4, 5, 6] rfl
  have hD : va_D A (wC cI cZ (fun k => if k = 3 then h else if k = 4 then q0 else if k = 5 then q1 else if k = 6 then q2 else if k = 7 then q3 else if k = 8 then q4 else if k = 9 then q5 else 0) 0 ((fun _ => 0), (fun _ => 0), (fun _ => 0), (fun _ => 0), (fun _ => 0), (fun _ => 0), 0, 0)) := hD.sub [0, 1, 2, 3, 4, 5, 6] (by decide) rfl
  refine W.widen (k := 6) (n := 1920) (Nat.le_of_ble_eq_true rfl) (Nat.le_of_ble_eq_true rfl) ?_
  refine W.imp (fun t ht => ?_) (t_C_init_54 (a := (fun k => if k = 3 then h else if k = 4 then q0 else if k = 5 then q1 else if k = 6 then q2 else if k = 7 then q3 else if k = 8 then q4 else if k = 9 then q5 else 0)) (kc := 6) (ks := 1920) C0 hin2 hA hf hP hD hS (lv_sub hl [0] rfl))
  obtain ⟨o, g1, g2, ⟨⟨u, g3, g4, q9, g5, g6⟩, g7⟩, g8⟩ := ht
  exact ⟨o, g1, g2, ⟨⟨u, g3, by rw [← g4], _, q9, rfl, g5, g6⟩, g7⟩, g8⟩
-- part 07.72initM.lean.txt
set_option maxHeartbeats 4000000 in
set_option maxRecDepth 100000 in
theorem c_M_init (l : Launch) (D : va_G) (cI cZ : ClassId) (h : Nat) (x1 : Int32) {res : Int32 × StM} (hf : f_M_init_205 (0, 0, 0, 0, (fun _ => 0), (fun _ => 0), (fun _ => 0), (fun _ => 0), (fun _ => 0), (fun _ => 0), 0, (fun _ => 0), (fun _ => 0), (fun _ => 0), (fun _ => 0), (fun _ => 0), (fun _ => 0), (fun _ => 0), 0, 0, 0, 0, (fun _ => 0), (fun _ => 0), 0, 0, (fun _ => 0), (fun _ => 0), (fun _ => 0), (fun _ => 0), (fun _ => 0), (fun _ => 0), (fun _ => 0), (fun _ => 0), 0) x1 = some res) : ∀ sz, Met l y_M_init (Cond.code y_M_init b_M_init 3 none :: tb) (rmK 1 24 23 121284) (va_Pc [.ref h, .int x1] (fun U => U.heap.size = sz ∧ va_P D vwCl [(h, .inr (4, [.int 0, .int 0, .int 0, .int 0, .null, .null, .null, .null, .null, .null, .int 0, .null, .null, .null, .null, .null, .null, .null, .int 0, .int 0, .int 0, .int 0, .null, .null, .int 0, .int 0, .null, .null, .null, .null, .null, .null, .null, .null, .int 0]))] U.heap ∧ KN D [(cI, .int), (cZ, .boolean)] U ∧ va_D (fun _ => True) [(h, .inr (4, [.int 0, .int 0, .int 0, .int 0, .null, .null, .null, .null, .null, .null, .int 0, .null, .null, .null, .null, .null, .null, .null, .int 0, .int 0, .int 0, .int 0, .null, .null, .int 0, .int 0, .null, .null, .null, .null, .null, .null, .null, .null, .int 0]))])) (va_Qv (fun u => u = res.2) (fun u t => ∃ a q, a 20 = h ∧ va_P D vwCl (wM cI cZ a q u) t.heap ∧ va_D (va_A [(h, .inr (4, [.int 0, .int 0, .int 0, .int 0, .null, .null, .null, .null, .null, .null, .int 0, .null, .null, .null, .null, .null, .null, .null, .int 0, .int 0, .int 0, .int 0, .null, .null, .int 0, .int 0, .null, .null, .null, .null, .null, .null, .null, .null, .int 0]))] sz) (wM cI cZ a q u)) (va_A [(h, .inr (4, [.int 0, .int 0, .int 0, .int 0, .null, .null, .null, .null, .null, .null, .int 0, .null, .null, .null, .null, .null, .null, .null, .int 0, .int 0, .int 0, .int 0, .null, .null, .int 0, .int 0, .null, .null, .null, .null, .null, .null, .null, .null, .int 0]))] sz)) 23 121284 (va_A [(h, .inr (4, [.int 0, .int 0, .int 0, .int 0, .null, .null, .null, .null, .null, .null, .int 0, .null, .null, .null, .null, .null, .null, .null, .int 0, .int 0, .int 0, .int 0, .null, .null, .int 0, .int 0, .null, .null, .null, .null, .null, .null, .null, .null, .int 0]))] sz) := by
  intro sz
  refine Met.ofW (cc := b_M_init) (maxL := 3) (ret := none) (by decide) rfl ?_
  intro p e s m args below meth c s₁ B hml hv
  obtain ⟨rfl, hsz, hP, hK, hD0⟩ := hv
  subst hsz
  have hin2 : meth.name = "<init>" := (name_of_methodNamed B.named B.method).1
  have hts0 := atoms_spec (ws := Cond.code y_M_init b_M_init 3 none :: tb) B.pre
  have hl := lv_entry [.ref h, .int x1] (n := 3) (Nat.le_of_ble_eq_true rfl)
  rw [lg_entry_eq]
  generalize (lg_sl [.ref h, .int x1] ++ List.replicate (3 - (lg_sl [.ref h, .int x1]).length) Slot.unset).toArray = ls at hl ⊢
  have hl : lv_has ls 3 [(0, .ref h), (1, .int x1)] := hl
  have C0 : Am p s m ([.ref h, .int x1] : List Value).toArray meth c b_M_init none 3 R_M D [(cI, .int), (cZ, .boolean)] := ⟨B.exec, B.bytes, B.returns, hml, findClass_of_methodNamed B.named, fun w h => hts0 w (List.mem_cons_of_mem _ h), B.notSynchronized, hK⟩
  obtain ⟨hx, hb, hr, hml, hown, hts, hlk, hK⟩ := id C0
  have hD := hD0.self (sz := s.heap.size)
  generalize hAe : va_A [(h, .inr (4, [.int 0, .int 0, .int 0, .int 0, .null, .null, .null, .null, .null, .null, .int 0, .null, .null, .null, .null, .null, .null, .null, .int 0, .int 0, .int 0, .int 0, .null, .null, .int 0, .int 0, .null, .null, .null, .null, .null, .null, .null, .null, .int 0]))] s.heap.size = A at hD ⊢
  have hA : ∀ q, s.heap.size ≤ q → A q := fun q h => by rw [← hAe]; exact Or.inr h
  have hS : va_S A s.heap s.heap [] := va_S.rf
  refine lv_aload_n hx hb d_M_init_0 rfl (lv_at hl 0 rfl) ?_
  refine W.objInit hx hb hown (hts _ wd_496) (hts _ wd_490) (hts _ wd_491) rfl (by rw [hml]; exact hl.1) rfl d_M_init_1 (Nat.le_of_ble_eq_true rfl) (Nat.le_of_ble_eq_true rfl) ?_
  refine W.eq (g2 := F0 m 4 ls []) rfl ?_
  refine lv_aload_n hx hb d_M_init_4 rfl (lv_at hl 0 rfl) ?_
  refine lv_bipush (v := 30) hx hb d_M_init_5 (by decide) ?_
  refine mk_bool (N := 30) C0 1 rfl wd_arrZ hP hD hS hA (by decide) rfl (by decide) (Nat.le_of_ble_eq_true rfl) (Nat.le_of_ble_eq_true rfl) d_M_init_7 (fun q0 H hP hD hS => ?_)
  refine rw_putF (v := .ref q0) (fty := (.array .boolean)) (C := R_M) (T := F_M) (N := 35) C0 hin2 hP hD hS i_M ty_M tyok_M nn_M 0 rfl rfl 4 (by decide) (hts _ wd_392) rfl rfl rfl (by decide +kernel) rfl rfl (Nat.le_of_ble_eq_true rfl) d_M_init_9 (Wn := [(h, .inr (4, [.int 0, .int 0, .int 0, .int 0, .ref q0, .null, .null, .null, .null, .null, .int 0, .null, .null, .null, .null, .null, .null, .null, .int 0, .int 0, .int 0, .int 0, .null, .null, .int 0, .int 0, .null, .null, .null, .null, .null, .null, .null, .null, .int 0])), (q0, .inl (cZ, 30, .inl (fun _ => 0)))]) rfl (fun H locs hP hD hS => ?_)
  refine lv_aload_n hx hb d_M_init_12 rfl (lv_at hl 0 rfl) ?_
  refine lv_bipush (v := 30) hx hb d_M_init_13 (by decide) ?_
  refine mk_bool (N := 30) C0 1 rfl wd_arrZ hP hD hS hA (by decide) rfl (by decide) (Nat.le_of_ble_eq_true rfl) (Nat.le_of_ble_eq_true rfl) d_M_init_15 (fun q1 H hP hD hS => ?_)
  refine rw_putF (v := .ref q1) (fty := (.array .boolean)) (C := R_M) (T := F_M) (N := 35) C0 hin2 hP hD hS i_M ty_M tyok_M nn_M 0 rfl rfl 5 (by decide) (hts _ wd_393) rfl rfl rfl (by decide +kernel) rfl rfl (Nat.le_of_ble_eq_true rfl) d_M_init_17 (Wn := [(h, .inr (4, [.int 0, .int 0, .int 0, .int 0, .ref q0, .ref q1, .null, .null, .null, .null, .int 0, .null, .null, .null, .null, .null, .null, .null, .int 0, .int 0, .int 0, .int 0, .null, .null, .int 0, .int 0, .null, .null, .null, .null, .null, .null, .null, .null, .int 0])), (q0, .inl (cZ, 30, .inl (fun _ => 0))), (q1, .inl (cZ, 30, .inl (fun _ => 0)))]) rfl (fun H locs hP hD hS => ?_)
  refine lv_aload_n hx hb d_M_init_20 rfl (lv_at hl 0 rfl) ?_
  refine lv_bipush (v := 30) hx hb d_M_init_21 (by decide) ?_
  refine mk_int (N := 30) C0 0 rfl wd_arrI hP hD hS hA (by decide) rfl (by decide) (Nat.le_of_ble_eq_true rfl) (Nat.le_of_ble_eq_true rfl) d_M_init_23 (fun q2 H hP hD hS => ?_)
  refine rw_putF (v := .ref q2) (fty := (.array .int)) (C := R_M) (T := F_M) (N := 35) C0 hin2 hP hD hS i_M ty_M tyok_M nn_M 0 rfl rfl 6 (by decide) (hts _ wd_339) rfl rfl rfl (by decide +kernel) rfl rfl (Nat.le_of_ble_eq_true rfl) d_M_init_25 (Wn := [(h, .inr (4, [.int 0, .int 0, .int 0, .int 0, .ref q0, .ref q1, .ref q2, .null, .null, .null, .int 0, .null, .null, .null, .null, .null, .null, .null, .int 0, .int 0, .int 0, .int 0, .null, .null, .int 0, .int 0, .null, .null, .null, .null, .null, .null, .null, .null, .int 0])), (q0, .inl (cZ, 30, .inl (fun _ => 0))), (q1, .inl (cZ, 30, .inl (fun _ => 0))), (q2, .inl (cI, 30, .inl (fun _ => 0)))]) rfl (fun H locs hP hD hS => ?_)
  refine lv_aload_n hx hb d_M_init_28 rfl (lv_at hl 0 rfl) ?_
  refine lv_sipush (v := 900) hx hb d_M_init_29 (by decide) ?_
  refine mk_int (N := 900) C0 0 rfl wd_arrI hP hD hS hA (by decide) rfl (by decide) (Nat.le_of_ble_eq_true rfl) (Nat.le_of_ble_eq_true rfl) d_M_init_32 (fun q3 H hP hD hS => ?_)
  refine rw_putF (v := .ref q3) (fty := (.array .int)) (C := R_M) (T := F_M) (N := 35) C0 hin2 hP hD hS i_M ty_M tyok_M nn_M 0 rfl rfl 7 (by decide) (hts _ wd_338) rfl rfl rfl (by decide +kernel) rfl rfl (Nat.le_of_ble_eq_true rfl) d_M_init_34 (Wn := [(h, .inr (4, [.int 0, .int 0, .int 0, .int 0, .ref q0, .ref q1, .ref q2, .ref q3, .null, .null, .int 0, .null, .null, .null, .null, .null, .null, .null, .int 0, .int 0, .int 0, .int 0, .null, .null, .int 0, .int 0, .null, .null, .null, .null, .null, .null, .null, .null, .int 0])), (q0, .inl (cZ, 30, .inl (fun _ => 0))), (q1, .inl (cZ, 30, .inl (fun _ => 0))), (q2, .inl (cI, 30, .inl (fun _ => 0))), (q3, .inl (cI, 900, .inl (fun _ => 0)))]) rfl (fun H locs hP hD hS => ?_)
  refine lv_aload_n hx hb d_M_init_37 rfl (lv_at hl 0 rfl) ?_
  refine lv_sipush (v := 900) hx hb d_M_init_38 (by decide) ?_
  refine mk_int (N := 900) C0 0 rfl wd_arrI hP hD hS hA (by decide) rfl (by decide) (Nat.le_of_ble_eq_true rfl) (Nat.le_of_ble_eq_true rfl) d_M_init_41 (fun q4 H hP hD hS => ?_)
  refine rw_putF (v := .ref q4) (fty := (.array .int)) (C := R_M) (T := F_M) (N := 35) C0 hin2 hP hD hS i_M ty_M tyok_M nn_M 0 rfl rfl 8 (by decide) (hts _ wd_340) rfl rfl rfl (by decide +kernel) rfl rfl (Nat.le_of_ble_eq_true rfl) d_M_init_43 (Wn := [(h, .inr (4, [.int 0, .int 0, .int 0, .int 0, .ref q0, .ref q1, .ref q2, .ref q3, .ref q4, .null, .int 0, .null, .null, .null, .null, .null, .null, .null, .int 0, .int 0, .int 0, .int 0, .null, .null, .int 0, .int 0, .null, .null, .null, .null, .null, .null, .null, .null, .int 0])), (q0, .inl (cZ, 30, .inl (fun _ => 0))), (q1, .inl (cZ, 30, .inl (fun _ => 0))), (q2, .inl (cI, 30, .inl (fun _ => 0))), (q3, .inl (cI, 900, .inl (fun _ => 0))), (q4, .inl (cI, 900, .inl (fun _ => 0)))]) rfl (fun H locs hP hD hS => ?_)
  refine lv_aload_n hx hb d_M_init_46 rfl (lv_at hl 0 rfl) ?_
  refine lv_bipush (v := 30) hx hb d_M_init_47 (by decide) ?_
  refine mk_int (N := 30) C0 0 rfl wd_arrI hP hD hS hA (by decide) rfl (by decide) (Nat.le_of_ble_eq_true rfl) (Nat.le_of_ble_eq_true rfl) d_M_init_49 (fun q5 H hP hD hS => ?_)
  refine rw_putF (v := .ref q5) (fty := (.array .int)) (C := R_M) (T := F_M) (N := 35) C0 hin2 hP hD hS i_M ty_M tyok_M nn_M 0 rfl rfl 9 (by decide) (hts _ wd_341) rfl rfl rfl (by decide +kernel) rfl rfl (Nat.le_of_ble_eq_true rfl) d_M_init_51 (Wn := [(h, .inr (4, [.int 0, .int 0, .int 0, .int 0, .ref q0, .ref q1, .ref q2, .ref q3, .ref q4, .ref q5, .int 0, .null, .null, .null, .null, .null, .null, .null, .int 0, .int 0, .int 0, .int 0, .null, .null, .int 0, .int 0, .null, .null, .null, .null, .null, .null, .null, .null, .int 0])), (q0, .inl (cZ, 30, .inl (fun _ => 0))), (q1, .inl (cZ, 30, .inl (fun _ => 0))), (q2, .inl (cI, 30, .inl (fun _ => 0))), (q3, .inl (cI, 900, .inl (fun _ => 0))), (q4, .inl (cI, 900, .inl (fun _ => 0))), (q5, .inl (cI, 30, .inl (fun _ => 0)))]) rfl (fun H locs hP hD hS => ?_)
  refine lv_aload_n hx hb d_M_init_54 rfl (lv_at hl 0 rfl) ?_
  refine lv_sipush (v := 300) hx hb d_M_init_55 (by decide) ?_
  refine mk_int (N := 300) C0 0 rfl wd_arrI hP hD hS hA (by decide) rfl (by decide) (Nat.le_of_ble_eq_true rfl) (Nat.le_of_ble_eq_true rfl) d_M_init_58 (fun q6 H hP hD hS => ?_)
  refine rw_putF (v := .ref q6) (fty := (.array .int)) (C := R_M) (T := F_M) (N := 35) C0 hin2 hP hD hS i_M ty_M tyok_M nn_M 0 rfl rfl 11 (by decide) (hts _ wd_353) rfl rfl rfl (by decide +kernel) rfl rfl (Nat.le_of_ble_eq_true rfl) d_M_init_60 (Wn := [(h, .inr (4, [.int 0, .int 0, .int 0, .int 0, .ref q0, .ref q1, .ref q2, .ref q3, .ref q4, .ref q5, .int 0, .ref q6, .null, .null, .null, .null, .null, .null, .int 0, .int 0, .int 0, .int 0, .null, .null, .int 0, .int 0, .null, .null, .null, .null, .null, .null, .null, .null, .int 0])), (q0, .inl (cZ, 30, .inl (fun _ => 0))), (q1, .inl (cZ, 30, .inl (fun _ => 0))), (q2, .inl (cI, 30, .inl (fun _ => 0))), (q3, .inl (cI, 900, .inl (fun _ => 0))), (q4, .inl (cI, 900, .inl (fun _ => 0))), (q5, .inl (cI, 30, .inl (fun _ => 0))), (q6, .inl (cI, 300, .inl (fun _ => 0)))]) rfl (fun H locs hP hD hS => ?_)
  refine lv_aload_n hx hb d_M_init_63 rfl (lv_at hl 0 rfl) ?_
  refine lv_sipush (v := 300) hx hb d_M_init_64 (by decide) ?_
  refine mk_int (N := 300) C0 0 rfl wd_arrI hP hD hS hA (by decide) rfl (by decide) (Nat.le_of_ble_eq_true rfl) (Nat.le_of_ble_eq_true rfl) d_M_init_67 (fun q7 H hP hD hS => ?_)
  refine rw_putF (v := .ref q7) (fty := (.array .int)) (C := R_M) (T := F_M) (N := 35) C0 hin2 hP hD hS i_M ty_M tyok_M nn_M 0 rfl rfl 12 (by decide) (hts _ wd_356) rfl rfl rfl (by decide +kernel) rfl rfl (Nat.le_of_ble_eq_true rfl) d_M_init_69 (Wn := [(h, .inr (4, [.int 0, .int 0, .int 0, .int 0, .ref q0, .ref q1, .ref q2, .ref q3, .ref q4, .ref q5, .int 0, .ref q6, .ref q7, .null, .null, .null, .null, .null, .int 0, .int 0, .int 0, .int 0, .null, .null, .int 0, .int 0, .null, .null, .null, .null, .null, .null, .null, .null, .int 0])), (q0, .inl (cZ, 30, .inl (fun _ => 0))), (q1, .inl (cZ, 30, .inl (fun _ => 0))), (q2, .inl (cI, 30, .inl (fun _ => 0))), (q3, .inl (cI, 900, .inl (fun _ => 0))), (q4, .inl (cI, 900, .inl (fun _ => 0))), (q5, .inl (cI, 30, .inl (fun _ => 0))), (q6, .inl (cI, 300, .inl (fun _ => 0))), (q7, .inl (cI, 300, .inl (fun _ => 0)))]) rfl (fun H locs hP hD hS => ?_)
  refine lv_aload_n hx hb d_M_init_72 rfl (lv_at hl 0 rfl) ?_
  refine lv_sipush (v := 300) hx hb d_M_init_73 (by decide) ?_
  refine mk_int (N := 300) C0 0 rfl wd_arrI hP hD hS hA (by decide) rfl (by decide) (Nat.le_of_ble_eq_true rfl) (Nat.le_of_ble_eq_true rfl) d_M_init_76 (fun q8 H hP hD hS => ?_)
  refine rw_putF (v := .ref q8) (fty := (.array .int)) (C := R_M) (T := F_M) (N := 35) C0 hin2 hP hD hS i_M ty_M tyok_M nn_M 0 rfl rfl 13 (by decide) (hts _ wd_357) rfl rfl rfl (by decide +kernel) rfl rfl (Nat.le_of_ble_eq_true rfl) d_M_init_78 (Wn := [(h, .inr (4, [.int 0, .int 0, .int 0, .int 0, .ref q0, .ref q1, .ref q2, .ref q3, .ref q4, .ref q5, .int 0, .ref q6, .ref q7, .ref q8, .null, .null, .null, .null, .int 0, .int 0, .int 0, .int 0, .null, .null, .int 0, .int 0, .null, .null, .null, .null, .null, .null, .null, .null, .int 0])), (q0, .inl (cZ, 30, .inl (fun _ => 0))), (q1, .inl (cZ, 30, .inl (fun _ => 0))), (q2, .inl (cI, 30, .inl (fun _ => 0))), (q3, .inl (cI, 900, .inl (fun _ => 0))), (q4, .inl (cI, 900, .inl (fun _ => 0))), (q5, .inl (cI, 30, .inl (fun _ => 0))), (q6, .inl (cI, 300, .inl (fun _ => 0))), (q7, .inl (cI, 300, .inl (fun _ => 0))), (q8, .inl (cI, 300, .inl (fun _ => 0)))]) rfl (fun H locs hP hD hS => ?_)
  refine lv_aload_n hx hb d_M_init_81 rfl (lv_at hl 0 rfl) ?_
  refine lv_sipush (v := 300) hx hb d_M_init_82 (by decide) ?_
  refine mk_int (N := 300) C0 0 rfl wd_arrI hP hD hS hA (by decide) rfl (by decide) (Nat.le_of_ble_eq_true rfl) (Nat.le_of_ble_eq_true rfl) d_M_init_85 (fun q9 H hP hD hS => ?_)
  refine rw_putF (v := .ref q9) (fty := (.array .int)) (C := R_M) (T := F_M) (N := 35) C0 hin2 hP hD hS i_M ty_M tyok_M nn_M 0 rfl rfl 14 (by decide) (hts _ wd_358) rfl rfl rfl (by decide +kernel) rfl rfl (Nat.le_of_ble_eq_true rfl) d_M_init_87 (Wn := [(h, .inr (4, [.int 0, .int 0, .int 0, .int 0, .ref q0, .ref q1, .ref q2, .ref q3, .ref q4, .ref q5, .int 0, .ref q6, .ref q7, .ref q8, .ref q9, .null, .null, .null, .int 0, .int 0, .int 0, .int 0, .null, .null, .int 0, .int 0, .null, .null, .null, .null, .null, .null, .null, .null, .int 0])), (q0, .inl (cZ, 30, .inl (fun _ => 0))), (q1, .inl (cZ, 30, .inl (fun _ => 0))), (q2, .inl (cI, 30, .inl (fun _ => 0))), (q3, .inl (cI, 900, .inl (fun _ => 0))), (q4, .inl (cI, 900, .inl (fun _ => 0))), (q5, .inl (cI, 30, .inl (fun _ => 0))), (q6, .inl (cI, 300, .inl (fun _ => 0))), (q7, .inl (cI, 300, .inl (fun _ => 0))), (q8, .inl (cI, 300, .inl (fun _ => 0))), (q9, .inl (cI, 300, .inl (fun _ => 0)))]) rfl (fun H locs hP hD hS => ?_)
  refine lv_aload_n hx hb d_M_init_90 rfl (lv_at hl 0 rfl) ?_
  refine lv_sipush (v := 300) hx hb d_M_init_91 (by decide) ?_
  refine mk_int (N := 300) C0 0 rfl wd_arrI hP hD hS hA (by decide) rfl (by decide) (Nat.le_of_ble_eq_true rfl) (Nat.le_of_ble_eq_true rfl) d_M_init_94 (fun q10 H hP hD hS => ?_)
  refine rw_putF (v := .ref q10) (fty := (.array .int)) (C := R_M) (T := F_M) (N := 35) C0 hin2 hP hD hS i_M ty_M tyok_M nn_M 0 rfl rfl 15 (by decide) (hts _ wd_363) rfl rfl rfl (by decide +kernel) rfl rfl (Nat.le_of_ble_eq_true rfl) d_M_init_96 (Wn := [(h, .inr (4, [.int 0, .int 0, .int 0, .int 0, .ref q0, .ref q1, .ref q2, .ref q3, .ref q4, .ref q5, .int 0, .ref q6, .ref q7, .ref q8, .ref q9, .ref q10, .null, .null, .int 0, .int 0, .int 0, .int 0, .null, .null, .int 0, .int 0, .null, .null, .null, .null, .null, .null, .null, .null, .int 0])), (q0, .inl (cZ, 30, .inl (fun _ => 0))), (q1, .inl (cZ, 30, .inl (fun _ => 0))), (q2, .inl (cI, 30, .inl (fun _ => 0))), (q3, .inl (cI, 900, .inl (fun _ => 0))), (q4, .inl (cI, 900, .inl (fun _ => 0))), (q5, .inl (cI, 30, .inl (fun _ => 0))), (q6, .inl (cI, 300, .inl (fun _ => 0))), (q7, .inl (cI, 300, .inl (fun _ => 0))), (q8, .inl (cI, 300, .inl (fun _ => 0))), (q9, .inl (cI, 300, .inl (fun _ => 0))), (q10, .inl (cI, 300, .inl (fun _ => 0)))]) rfl (fun H locs hP hD hS => ?_)
  refine lv_aload_n hx hb d_M_init_99 rfl (lv_at hl 0 rfl) ?_
  refine lv_sipush (v := 300) hx hb d_M_init_100 (by decide) ?_
  refine mk_int (N := 300) C0 0 rfl wd_arrI hP hD hS hA (by decide) rfl (by decide) (Nat.le_of_ble_eq_true rfl) (Nat.le_of_ble_eq_true rfl) d_M_init_103 (fun q11 H hP hD hS => ?_)
  refine rw_putF (v := .ref q11) (fty := (.array .int)) (C := R_M) (T := F_M) (N := 35) C0 hin2 hP hD hS i_M ty_M tyok_M nn_M 0 rfl rfl 16 (by decide) (hts _ wd_354) rfl rfl rfl (by decide +kernel) rfl rfl (Nat.le_of_ble_eq_true rfl) d_M_init_105 (Wn := [(h, .inr (4, [.int 0, .int 0, .int 0, .int 0, .ref q0, .ref q1, .ref q2, .ref q3, .ref q4, .ref q5, .int 0, .ref q6, .ref q7, .ref q8, .ref q9, .ref q10, .ref q11, .null, .int 0, .int 0, .int 0, .int 0, .null, .null, .int 0, .int 0, .null, .null, .null, .null, .null, .null, .null, .null, .int 0])), (q0, .inl (cZ, 30, .inl (fun _ => 0))), (q1, .inl (cZ, 30, .inl (fun _ => 0))), (q2, .inl (cI, 30, .inl (fun _ => 0))), (q3, .inl (cI, 900, .inl (fun _ => 0))), (q4, .inl (cI, 900, .inl (fun _ => 0))), (q5, .inl (cI, 30, .inl (fun _ => 0))), (q6, .inl (cI, 300, .inl (fun _ => 0))), (q7, .inl (cI, 300, .inl (fun _ => 0))), (q8, .inl (cI, 300, .inl (fun _ => 0))), (q9, .inl (cI, 300, .inl (fun _ => 0))), (q10, .inl (cI, 300, .inl (fun _ => 0))), (q11, .inl (cI, 300, .inl (fun _ => 0)))]) rfl (fun H locs hP hD hS => ?_)
  refine lv_aload_n hx hb d_M_init_108 rfl (lv_at hl 0 rfl) ?_
  refine lv_sipush (v := 9000) hx hb d_M_init_109 (by decide) ?_
  refine mk_int (N := 9000) C0 0 rfl wd_arrI hP hD hS hA (by decide) rfl (by decide) (Nat.le_of_ble_eq_true rfl) (Nat.le_of_ble_eq_true rfl) d_M_init_112 (fun q12 H hP hD hS => ?_)
  refine rw_putF (v := .ref q12) (fty := (.array .int)) (C := R_M) (T := F_M) (N := 35) C0 hin2 hP hD hS i_M ty_M tyok_M nn_M 0 rfl rfl 17 (by decide) (hts _ wd_355) rfl rfl rfl (by decide +kernel) rfl rfl (Nat.le_of_ble_eq_true rfl) d_M_init_114 (Wn := [(h, .inr (4, [.int 0, .int 0, .int 0, .int 0, .ref q0, .ref q1, .ref q2, .ref q3, .ref q4, .ref q5, .int 0, .ref q6, .ref q7, .ref q8, .ref q9, .ref q10, .ref q11, .ref q12, .int 0, .int 0, .int 0, .int 0, .null, .null, .int 0, .int 0, .null, .null, .null, .null, .null, .null, .null, .null, .int 0])), (q0, .inl (cZ, 30, .inl (fun _ => 0))), (q1, .inl (cZ, 30, .inl (fun _ => 0))), (q2, .inl (cI, 30, .inl (fun _ => 0))), (q3, .inl (cI, 900, .inl (fun _ => 0))), (q4, .inl (cI, 900, .inl (fun _ => 0))), (q5, .inl (cI, 30, .inl (fun _ => 0))), (q6, .inl (cI, 300, .inl (fun _ => 0))), (q7, .inl (cI, 300, .inl (fun _ => 0))), (q8, .inl (cI, 300, .inl (fun _ => 0))), (q9, .inl (cI, 300, .inl (fun _ => 0))), (q10, .inl (cI, 300, .inl (fun _ => 0))), (q11, .inl (cI, 300, .inl (fun _ => 0))), (q12, .inl (cI, 9000, .inl (fun _ => 0)))]) rfl (fun H locs hP hD hS => ?_)
  refine lv_aload_n hx hb d_M_init_117 rfl (lv_at hl 0 rfl) ?_
  refine lv_bipush (v := 64) hx hb d_M_init_118 (by decide) ?_
  refine mk_int (N := 64) C0 0 rfl wd_arrI hP hD hS hA (by decide) rfl (by decide) (Nat.le_of_ble_eq_true rfl) (Nat.le_of_ble_eq_true rfl) d_M_init_120 (fun q13 H hP hD hS => ?_)
  refine rw_putF (v := .ref q13) (fty := (.array .int)) (C := R_M) (T := F_M) (N := 35) C0 hin2 hP hD hS i_M ty_M tyok_M nn_M 0 rfl rfl 22 (by decide) (hts _ wd_369) rfl rfl rfl (by decide +kernel) rfl rfl (Nat.le_of_ble_eq_true rfl) d_M_init_122 (Wn := [(h, .inr (4, [.int 0, .int 0, .int 0, .int 0, .ref q0, .ref q1, .ref q2, .ref q3, .ref q4, .ref q5, .int 0, .ref q6, .ref q7, .ref q8, .ref q9, .ref q10, .ref q11, .ref q12, .int 0, .int 0, .int 0, .int 0, .ref q13, .null, .int 0, .int 0, .null, .null, .null, .null, .null, .null, .null, .null, .int 0])), (q0, .inl (cZ, 30, .inl (fun _ => 0))), (q1, .inl (cZ, 30, .inl (fun _ => 0))), (q2, .inl (cI, 30, .inl (fun _ => 0))), (q3, .inl (cI, 900, .inl (fun _ => 0))), (q4, .inl (cI, 900, .inl (fun _ => 0))), (q5, .inl (cI, 30, .inl (fun _ => 0))), (q6, .inl (cI, 300, .inl (fun _ => 0))), (q7, .inl (cI, 300, .inl (fun _ => 0))), (q8, .inl (cI, 300, .inl (fun _ => 0))), (q9, .inl (cI, 300, .inl (fun _ => 0))), (q10, .inl (cI, 300, .inl (fun _ => 0))), (q11, .inl (cI, 300, .inl (fun _ => 0))), (q12, .inl (cI, 9000, .inl (fun _ => 0))), (q13, .inl (cI, 64, .inl (fun _ => 0)))]) rfl (fun H locs hP hD hS => ?_)
  refine lv_aload_n hx hb d_M_init_125 rfl (lv_at hl 0 rfl) ?_
  refine lv_ldc (v := 90000) hx hb hown (hts _ wd_497) d_M_init_126 ?_
  refine mk_bool (N := 90000) C0 1 rfl wd_arrZ hP hD hS hA (by decide) rfl (by decide) (Nat.le_of_ble_eq_true rfl) (Nat.le_of_ble_eq_true rfl) d_M_init_128 (fun q14 H hP hD hS => ?_)
  refine rw_putF (v := .ref q14) (fty := (.array .boolean)) (C := R_M) (T := F_M) (N := 35) C0 hin2 hP hD hS i_M ty_M tyok_M nn_M 0 rfl rfl 23 (by decide) (hts _ wd_370) rfl rfl rfl (by decide +kernel) rfl rfl (Nat.le_of_ble_eq_true rfl) d_M_init_130 (Wn := [(h, .inr (4, [.int 0, .int 0, .int 0, .int 0, .ref q0, .ref q1, .ref q2, .ref q3, .ref q4, .ref q5, .int 0, .ref q6, .ref q7, .ref q8, .ref q9, .ref q10, .ref q11, .ref q12, .int 0, .int 0, .int 0, .int 0, .ref q13, .ref q14, .int 0, .int 0, .null, .null, .null, .null, .null, .null, .null, .null, .int 0])), (q0, .inl (cZ, 30, .inl (fun _ => 0))), (q1, .inl (cZ, 30, .inl (fun _ => 0))), (q2, .inl (cI, 30, .inl (fun _ => 0))), (q3, .inl (cI, 900, .inl (fun _ => 0))), (q4, .inl (cI, 900, .inl (fun _ => 0))), (q5, .inl (cI, 30, .inl (fun _ => 0))), (q6, .inl (cI, 300, .inl (fun _ => 0))), (q7, .inl (cI, 300, .inl (fun _ => 0))), (q8, .inl (cI, 300, .inl (fun _ => 0))), (q9, .inl (cI, 300, .inl (fun _ => 0))), (q10, .inl (cI, 300, .inl (fun _ => 0))), (q11, .inl (cI, 300, .inl (fun _ => 0))), (q12, .inl (cI, 9000, .inl (fun _ => 0))), (q13, .inl (cI, 64, .inl (fun _ => 0))), (q14, .inl (cZ, 90000, .inl (fun _ => 0)))]) rfl (fun H locs hP hD hS => ?_)
  refine lv_aload_n hx hb d_M_init_133 rfl (lv_at hl 0 rfl) ?_
  refine lv_sipush (v := 500) hx hb d_M_init_134 (by decide) ?_
  refine mk_int (N := 500) C0 0 rfl wd_arrI hP hD hS hA (by decide) rfl (by decide) (Nat.le_of_ble_eq_true rfl) (Nat.le_of_ble_eq_true rfl) d_M_init_137 (fun q15 H hP hD hS => ?_)
  refine rw_putF (v := .ref q15) (fty := (.array .int)) (C := R_M) (T := F_M) (N := 35) C0 hin2 hP hD hS i_M ty_M tyok_M nn_M 0 rfl rfl 26 (by decide) (hts _ wd_447) rfl rfl rfl (by decide +kernel) rfl rfl (Nat.le_of_ble_eq_true rfl) d_M_init_139 (Wn := [(h, .inr (4, [.int 0, .int 0, .int 0, .int 0, .ref q0, .ref q1, .ref q2, .ref q3, .ref q4, .ref q5, .int 0, .ref q6, .ref q7, .ref q8, .ref q9, .ref q10, .ref q11, .ref q12, .int 0, .int 0, .int 0, .int 0, .ref q13, .ref q14, .int 0, .int 0, .ref q15, .null, .null, .null, .null, .null, .null, .null, .int 0])), (q0, .inl (cZ, 30, .inl (fun _ => 0))), (q1, .inl (cZ, 30, .inl (fun _ => 0))), (q2, .inl (cI, 30, .inl (fun _ => 0))), (q3, .inl (cI, 900, .inl (fun _ => 0))), (q4, .inl (cI, 900, .inl (fun _ => 0))), (q5, .inl (cI, 30, .inl (fun _ => 0))), (q6, .inl (cI, 300, .inl (fun _ => 0))), (q7, .inl (cI, 300, .inl (fun _ => 0))), (q8, .inl (cI, 300, .inl (fun _ => 0))), (q9, .inl (cI, 300, .inl (fun _ => 0))), (q10, .inl (cI, 300, .inl (fun _ => 0))), (q11, .inl (cI, 300, .inl (fun _ => 0))), (q12, .inl (cI, 9000, .inl (fun _ => 0))), (q13, .inl (cI, 64, .inl (fun _ => 0))), (q14, .inl (cZ, 90000, .inl (fun _ => 0))), (q15, .inl (cI, 500, .inl (fun _ => 0)))]) rfl (fun H locs hP hD hS => ?_)
  refine lv_aload_n hx hb d_M_init_142 rfl (lv_at hl 0 rfl) ?_
  refine lv_sipush (v := 500) hx hb d_M_init_143 (by decide) ?_
  refine mk_int (N := 500) C0 0 rfl wd_arrI hP hD hS hA (by decide) rfl (by decide) (Nat.le_of_ble_eq_true rfl) (Nat.le_of_ble_eq_true rfl) d_M_init_146 (fun q16 H hP hD hS => ?_)
  refine rw_putF (v := .ref q16) (fty := (.array .int)) (C := R_M) (T := F_M) (N := 35) C0 hin2 hP hD hS i_M ty_M tyok_M nn_M 0 rfl rfl 27 (by decide) (hts _ wd_449) rfl rfl rfl (by decide +kernel) rfl rfl (Nat.le_of_ble_eq_true rfl) d_M_init_148 (Wn := [(h, .inr (4, [.int 0, .int 0, .int 0, .int 0, .ref q0, .ref q1, .ref q2, .ref q3, .ref q4, .ref q5, .int 0, .ref q6, .ref q7, .ref q8, .ref q9, .ref q10, .ref q11, .ref q12, .int 0, .int 0, .int 0, .int 0, .ref q13, .ref q14, .int 0, .int 0, .ref q15, .ref q16, .null, .null, .null, .null, .null, .null, .int 0])), (q0, .inl (cZ, 30, .inl (fun _ => 0))), (q1, .inl (cZ, 30, .inl (fun _ => 0))), (q2, .inl (cI, 30, .inl (fun _ => 0))), (q3, .inl (cI, 900, .inl (fun _ => 0))), (q4, .inl (cI, 900, .inl (fun _ => 0))), (q5, .inl (cI, 30, .inl (fun _ => 0))), (q6, .inl (cI, 300, .inl (fun _ => 0))), (q7, .inl (cI, 300, .inl (fun _ => 0))), (q8, .inl (cI, 300, .inl (fun _ => 0))), (q9, .inl (cI, 300, .inl (fun _ => 0))), (q10, .inl (cI, 300, .inl (fun _ => 0))), (q11, .inl (cI, 300, .inl (fun _ => 0))), (q12, .inl (cI, 9000, .inl (fun _ => 0))), (q13, .inl (cI, 64, .inl (fun _ => 0))), (q14, .inl (cZ, 90000, .inl (fun _ => 0))), (q15, .inl (cI, 500, .inl (fun _ => 0))), (q16, .inl (cI, 500, .inl (fun _ => 0)))]) rfl (fun H locs hP hD hS => ?_)
  refine lv_aload_n hx hb d_M_init_151 rfl (lv_at hl 0 rfl) ?_
  refine lv_sipush (v := 500) hx hb d_M_init_152 (by decide) ?_
  refine mk_int (N := 500) C0 0 rfl wd_arrI hP hD hS hA (by decide) rfl (by decide) (Nat.le_of_ble_eq_true rfl) (Nat.le_of_ble_eq_true rfl) d_M_init_155 (fun q17 H hP hD hS => ?_)
  refine rw_putF (v := .ref q17) (fty := (.array .int)) (C := R_M) (T := F_M) (N := 35) C0 hin2 hP hD hS i_M ty_M tyok_M nn_M 0 rfl rfl 28 (by decide) (hts _ wd_450) rfl rfl rfl (by decide +kernel) rfl rfl (Nat.le_of_ble_eq_true rfl) d_M_init_157 (Wn := [(h, .inr (4, [.int 0, .int 0, .int 0, .int 0, .ref q0, .ref q1, .ref q2, .ref q3, .ref q4, .ref q5, .int 0, .ref q6, .ref q7, .ref q8, .ref q9, .ref q10, .ref q11, .ref q12, .int 0, .int 0, .int 0, .int 0, .ref q13, .ref q14, .int 0, .int 0, .ref q15, .ref q16, .ref q17, .null, .null, .null, .null, .null, .int 0])), (q0, .inl (cZ, 30, .inl (fun _ => 0))), (q1, .inl (cZ, 30, .inl (fun _ => 0))), (q2, .inl (cI, 30, .inl (fun _ => 0))), (q3, .inl (cI, 900, .inl (fun _ => 0))), (q4, .inl (cI, 900, .inl (fun _ => 0))), (q5, .inl (cI, 30, .inl (fun _ => 0))), (q6, .inl (cI, 300, .inl (fun _ => 0))), (q7, .inl (cI, 300, .inl (fun _ => 0))), (q8, .inl (cI, 300, .inl (fun _ => 0))), (q9, .inl (cI, 300, .inl (fun _ => 0))), (q10, .inl (cI, 300, .inl (fun _ => 0))), (q11, .inl (cI, 300, .inl (fun _ => 0))), (q12, .inl (cI, 9000, .inl (fun _ => 0))), (q13, .inl (cI, 64, .inl (fun _ => 0))), (q14, .inl (cZ, 90000, .inl (fun _ => 0))), (q15, .inl (cI, 500, .inl (fun _ => 0))), (q16, .inl (cI, 500, .inl (fun _ => 0))), (q17, .inl (cI, 500, .inl (fun _ => 0)))]) rfl (fun H locs hP hD hS => ?_)
  refine lv_aload_n hx hb d_M_init_160 rfl (lv_at hl 0 rfl) ?_
  refine lv_sipush (v := 500) hx hb d_M_init_161 (by decide) ?_
  refine mk_int (N := 500) C0 0 rfl wd_arrI hP hD hS hA (by decide) rfl (by decide) (Nat.le_of_ble_eq_true rfl) (Nat.le_of_ble_eq_true rfl) d_M_init_164 (fun q18 H hP hD hS => ?_)
  refine rw_putF (v := .ref q18) (fty := (.array .int)) (C := R_M) (T := F_M) (N := 35) C0 hin2 hP hD hS i_M ty_M tyok_M nn_M 0 rfl rfl 29 (by decide) (hts _ wd_451) rfl rfl rfl (by decide +kernel) rfl rfl (Nat.le_of_ble_eq_true rfl) d_M_init_166 (Wn := [(h, .inr (4, [.int 0, .int 0, .int 0, .int 0, .ref q0, .ref q1, .ref q2, .ref q3, .ref q4, .ref q5, .int 0, .ref q6, .ref q7, .ref q8, .ref q9, .ref q10, .ref q11, .ref q12, .int 0, .int 0, .int 0, .int 0, .ref q13, .ref q14, .int 0, .int 0, .ref q15, .ref q16, .ref q17, .ref q18, .null, .null, .null, .null, .int 0])), (q0, .inl (cZ, 30, .inl (fun _ => 0))), (q1, .inl (cZ, 30, .inl (fun _ => 0))), (q2, .inl (cI, 30, .inl (fun _ => 0))), (q3, .inl (cI, 900, .inl (fun _ => 0))), (q4, .inl (cI, 900, .inl (fun _ => 0))), (q5, .inl (cI, 30, .inl (fun _ => 0))), (q6, .inl (cI, 300, .inl (fun _ => 0))), (q7, .inl (cI, 300, .inl (fun _ => 0))), (q8, .inl (cI, 300, .inl (fun _ => 0))), (q9, .inl (cI, 300, .inl (fun _ => 0))), (q10, .inl (cI, 300, .inl (fun _ => 0))), (q11, .inl (cI, 300, .inl (fun _ => 0))), (q12, .inl (cI, 9000, .inl (fun _ => 0))), (q13, .inl (cI, 64, .inl (fun _ => 0))), (q14, .inl (cZ, 90000, .inl (fun _ => 0))), (q15, .inl (cI, 500, .inl (fun _ => 0))), (q16, .inl (cI, 500, .inl (fun _ => 0))), (q17, .inl (cI, 500, .inl (fun _ => 0))), (q18, .inl (cI, 500, .inl (fun _ => 0)))]) rfl (fun H locs hP hD hS => ?_)
  refine lv_aload_n hx hb d_M_init_169 rfl (lv_at hl 0 rfl) ?_
  refine lv_sipush (v := 500) hx hb d_M_init_170 (by decide) ?_
  refine mk_int (N := 500) C0 0 rfl wd_arrI hP hD hS hA (by decide) rfl (by decide) (Nat.le_of_ble_eq_true rfl) (Nat.le_of_ble_eq_true rfl) d_M_init_173 (fun q19 H hP hD hS => ?_)
  refine rw_putF (v := .ref q19) (fty := (.array .int)) (C := R_M) (T := F_M) (N := 35) C0 hin2 hP hD hS i_M ty_M tyok_M nn_M 0 rfl rfl 30 (by decide) (hts _ wd_456) rfl rfl rfl (by decide +kernel) rfl rfl (Nat.le_of_ble_eq_true rfl) d_M_init_175 (Wn := [(h, .inr (4, [.int 0, .int 0, .int 0, .int 0, .ref q0, .ref q1, .ref q2, .ref q3, .ref q4, .ref q5, .int 0, .ref q6, .ref q7, .ref q8, .ref q9, .ref q10, .ref q11, .ref q12, .int 0, .int 0, .int 0, .int 0, .ref q13, .ref q14, .int 0, .int 0, .ref q15, .ref q16, .ref q17, .ref q18, .ref q19, .null, .null, .null, .int 0])), (q0, .inl (cZ, 30, .inl (fun _ => 0))), (q1, .inl (cZ, 30, .inl (fun _ => 0))), (q2, .inl (cI, 30, .inl (fun _ => 0))), (q3, .inl (cI, 900, .inl (fun _ => 0))), (q4, .inl (cI, 900, .inl (fun _ => 0))), (q5, .inl (cI, 30, .inl (fun _ => 0))), (q6, .inl (cI, 300, .inl (fun _ => 0))), (q7, .inl (cI, 300, .inl (fun _ => 0))), (q8, .inl (cI, 300, .inl (fun _ => 0))), (q9, .inl (cI, 300, .inl (fun _ => 0))), (q10, .inl (cI, 300, .inl (fun _ => 0))), (q11, .inl (cI, 300, .inl (fun _ => 0))), (q12, .inl (cI, 9000, .inl (fun _ => 0))), (q13, .inl (cI, 64, .inl (fun _ => 0))), (q14, .inl (cZ, 90000, .inl (fun _ => 0))), (q15, .inl (cI, 500, .inl (fun _ => 0))), (q16, .inl (cI, 500, .inl (fun _ => 0))), (q17, .inl (cI, 500, .inl (fun _ => 0))), (q18, .inl (cI, 500, .inl (fun _ => 0))), (q19, .inl (cI, 500, .inl (fun _ => 0)))]) rfl (fun H locs hP hD hS => ?_)
  refine lv_aload_n hx hb d_M_init_178 rfl (lv_at hl 0 rfl) ?_
  refine lv_sipush (v := 500) hx hb d_M_init_179 (by decide) ?_
  refine mk_int (N := 500) C0 0 rfl wd_arrI hP hD hS hA (by decide) rfl (by decide) (Nat.le_of_ble_eq_true rfl) (Nat.le_of_ble_eq_true rfl) d_M_init_182 (fun q20 H hP hD hS => ?_)
  refine rw_putF (v := .ref q20) (fty := (.array .int)) (C := R_M) (T := F_M) (N := 35) C0 hin2 hP hD hS i_M ty_M tyok_M nn_M 0 rfl rfl 31 (by decide) (hts _ wd_453) rfl rfl rfl (by decide +kernel) rfl rfl (Nat.le_of_ble_eq_true rfl) d_M_init_184 (Wn := [(h, .inr (4, [.int 0, .int 0, .int 0, .int 0, .ref q0, .ref q1, .ref q2, .ref q3, .ref q4, .ref q5, .int 0, .ref q6, .ref q7, .ref q8, .ref q9, .ref q10, .ref q11, .ref q12, .int 0, .int 0, .int 0, .int 0, .ref q13, .ref q14, .int 0, .int 0, .ref q15, .ref q16, .ref q17, .ref q18, .ref q19, .ref q20, .null, .null, .int 0])), (q0, .inl (cZ, 30, .inl (fun _ => 0))), (q1, .inl (cZ, 30, .inl (fun _ => 0))), (q2, .inl (cI, 30, .inl (fun _ => 0))), (q3, .inl (cI, 900, .inl (fun _ => 0))), (q4, .inl (cI, 900, .inl (fun _ => 0))), (q5, .inl (cI, 30, .inl (fun _ => 0))), (q6, .inl (cI, 300, .inl (fun _ => 0))), (q7, .inl (cI, 300, .inl (fun _ => 0))), (q8, .inl (cI, 300, .inl (fun _ => 0))), (q9, .inl (cI, 300, .inl (fun _ => 0))), (q10, .inl (cI, 300, .inl (fun _ => 0))), (q11, .inl (cI, 300, .inl (fun _ => 0))), (q12, .inl (cI, 9000, .inl (fun _ => 0))), (q13, .inl (cI, 64, .inl (fun _ => 0))), (q14, .inl (cZ, 90000, .inl (fun _ => 0))), (q15, .inl (cI, 500, .inl (fun _ => 0))), (q16, .inl (cI, 500, .inl (fun _ => 0))), (q17, .inl (cI, 500, .inl (fun _ => 0))), (q18, .inl (cI, 500, .inl (fun _ => 0))), (q19, .inl (cI, 500, .inl (fun _ => 0))), (q20, .inl (cI, 500, .inl (fun _ => 0)))]) rfl (fun H locs hP hD hS => ?_)
  refine lv_aload_n hx hb d_M_init_187 rfl (lv_at hl 0 rfl) ?_
  refine lv_sipush (v := 500) hx hb d_M_init_188 (by decide) ?_
  refine mk_int (N := 500) C0 0 rfl wd_arrI hP hD hS hA (by decide) rfl (by decide) (Nat.le_of_ble_eq_true rfl) (Nat.le_of_ble_eq_true rfl) d_M_init_191 (fun q21 H hP hD hS => ?_)
  refine rw_putF (v := .ref q21) (fty := (.array .int)) (C := R_M) (T := F_M) (N := 35) C0 hin2 hP hD hS i_M ty_M tyok_M nn_M 0 rfl rfl 32 (by decide) (hts _ wd_452) rfl rfl rfl (by decide +kernel) rfl rfl (Nat.le_of_ble_eq_true rfl) d_M_init_193 (Wn := [(h, .inr (4, [.int 0, .int 0, .int 0, .int 0, .ref q0, .ref q1, .ref q2, .ref q3, .ref q4, .ref q5, .int 0, .ref q6, .ref q7, .ref q8, .ref q9, .ref q10, .ref q11, .ref q12, .int 0, .int 0, .int 0, .int 0, .ref q13, .ref q14, .int 0, .int 0, .ref q15, .ref q16, .ref q17, .ref q18, .ref q19, .ref q20, .ref q21, .null, .int 0])), (q0, .inl (cZ, 30, .inl (fun _ => 0))), (q1, .inl (cZ, 30, .inl (fun _ => 0))), (q2, .inl (cI, 30, .inl (fun _ => 0))), (q3, .inl (cI, 900, .inl (fun _ => 0))), (q4, .inl (cI, 900, .inl (fun _ => 0))), (q5, .inl (cI, 30, .inl (fun _ => 0))), (q6, .inl (cI, 300, .inl (fun _ => 0))), (q7, .inl (cI, 300, .inl (fun _ => 0))), (q8, .inl (cI, 300, .inl (fun _ => 0))), (q9, .inl (cI, 300, .inl (fun _ => 0))), (q10, .inl (cI, 300, .inl (fun _ => 0))), (q11, .inl (cI, 300, .inl (fun _ => 0))), (q12, .inl (cI, 9000, .inl (fun _ => 0))), (q13, .inl (cI, 64, .inl (fun _ => 0))), (q14, .inl (cZ, 90000, .inl (fun _ => 0))), (q15, .inl (cI, 500, .inl (fun _ => 0))), (q16, .inl (cI, 500, .inl (fun _ => 0))), (q17, .inl (cI, 500, .inl (fun _ => 0))), (q18, .inl (cI, 500, .inl (fun _ => 0))), (q19, .inl (cI, 500, .inl (fun _ => 0))), (q20, .inl (cI, 500, .inl (fun _ => 0))), (q21, .inl (cI, 500, .inl (fun _ => 0)))]) rfl (fun H locs hP hD hS => ?_)
  refine lv_aload_n hx hb d_M_init_196 rfl (lv_at hl 0 rfl) ?_
  refine lv_sipush (v := 15000) hx hb d_M_init_197 (by decide) ?_
  refine mk_int (N := 15000) C0 0 rfl wd_arrI hP hD hS hA (by decide) rfl (by decide) (Nat.le_of_ble_eq_true rfl) (Nat.le_of_ble_eq_true rfl) d_M_init_200 (fun q22 H hP hD hS => ?_)
  refine rw_putF (v := .ref q22) (fty := (.array .int)) (C := R_M) (T := F_M) (N := 35) C0 hin2 hP hD hS i_M ty_M tyok_M nn_M 0 rfl rfl 33 (by decide) (hts _ wd_455) rfl rfl rfl (by decide +kernel) rfl rfl (Nat.le_of_ble_eq_true rfl) d_M_init_202 (Wn := [(h, .inr (4, [.int 0, .int 0, .int 0, .int 0, .ref q0, .ref q1, .ref q2, .ref q3, .ref q4, .ref q5, .int 0, .ref q6, .ref q7, .ref q8, .ref q9, .ref q10, .ref q11, .ref q12, .int 0, .int 0, .int 0, .int 0, .ref q13, .ref q14, .int 0, .int 0, .ref q15, .ref q16, .ref q17, .ref q18, .ref q19, .ref q20, .ref q21, .ref q22, .int 0])), (q0, .inl (cZ, 30, .inl (fun _ => 0))), (q1, .inl (cZ, 30, .inl (fun _ => 0))), (q2, .inl (cI, 30, .inl (fun _ => 0))), (q3, .inl (cI, 900, .inl (fun _ => 0))), (q4, .inl (cI, 900, .inl (fun _ => 0))), (q5, .inl (cI, 30, .inl (fun _ => 0))), (q6, .inl (cI, 300, .inl (fun _ => 0))), (q7, .inl (cI, 300, .inl (fun _ => 0))), (q8, .inl (cI, 300, .inl (fun _ => 0))), (q9, .inl (cI, 300, .inl (fun _ => 0))), (q10, .inl (cI, 300, .inl (fun _ => 0))), (q11, .inl (cI, 300, .inl (fun _ => 0))), (q12, .inl (cI, 9000, .inl (fun _ => 0))), (q13, .inl (cI, 64, .inl (fun _ => 0))), (q14, .inl (cZ, 90000, .inl (fun _ => 0))), (q15, .inl (cI, 500, .inl (fun _ => 0))), (q16, .inl (cI, 500, .inl (fun _ => 0))), (q17, .inl (cI, 500, .inl (fun _ => 0))), (q18, .inl (cI, 500, .inl (fun _ => 0))), (q19, .inl (cI, 500, .inl (fun _ => 0))), (q20, .inl (cI, 500, .inl (fun _ => 0))), (q21, .inl (cI, 500, .inl (fun _ => 0))), (q22, .inl (cI, 15000, .inl (fun _ => 0)))]) rfl (fun H locs hP hD hS => ?_)
  have hP : va_P D vwCl (wM cI cZ (fun k => if k = 20 then h else if k = 21 then q0 else if k = 22 then q1 else if k = 23 then q2 else if k = 24 then q3 else if k = 25 then q4 else if k = 26 then q5 else if k = 27 then q6 else if k = 28 then q7 else if k = 29 then q8 else if k = 30 then q9 else if k = 31 then q10 else if k = 32 then q11 else if k = 33 then q12 else if k = 34 then q13 else if k = 35 then q14 else if k = 36 then q15 else if k = 37 then q16 else if k = 38 then q17 else if k = 39 then q18 else if k = 40 then q19 else if k = 41 then q20 else if k = 42 then q21 else if k = 43 then q22 else 0) 0 (0, 0, 0, 0, (fun _ => 0), (fun _ => 0), (fun _ => 0), (fun _ => 0), (fun _ => 0), (fun _ => 0), 0, (fun _ => 0), (fun _ => 0), (fun _ => 0), (fun _ => 0), (fun _ => 0), (fun _ => 0), (fun _ => 0), 0, 0, 0, 0, (fun _ => 0), (fun _ => 0), 0, 0, (fun _ => 0), (fun _ => 0), (fun _ => 0), (fun _ => 0), (fun _ => 0), (fun _ => 0), (fun _ => 0), (fun _ => 0), 0)) H := hP.pick [0, 1, 2, 3, 4, 5, 6, 7, 8, 9, 10, 11, 12, 13, 14, 15, 16, 17, 18, 19, 20, 21, 22, 23] rfl
  have hD : va_D A (wM cI cZ (fun k => if k = 20 then h else if k = 21 then q0 else if k = 22 then q1 else if k = 23 then q2 else if k = 24 then q3 else if k = 25 then q4 else if k = 26 then q5 else if k = 27 then q6 else if k = 28 then q7 else if k = 29 then q8 else if k = 30 then q9 else if k = 31 then q10 else if k = 32 then q11 else if k = 33 then q12 else if k = 34 then q13 else if k = 35 then q14 else if k = 36 then q15 else if k = 37 then q16 else if k = 38 then q17 else if k = 39 then q18 else if k = 40 then q19 else if k = 41 then q20 else if k = 42 then q21 else if k = 43 then q22 else 0) 0 (0, 0, 0, 0, (fun _ => 0), (fun _ => 0), (fun _ => 0), (fun _ => 0), (fun _ => 0), (fun _ => 0), 0, (fun _ => 0), (fun _ => 0), (fun _ => 0), (fun _ => 0), (fun _ => 0), (fun _ => 0), (fun _ => 0), 0, 0, 0, 0, (fun _ => 0), (fun _ => 0), 0, 0, (fun _ => 0), (fun _ => 0), (fun _ => 0), (fun _ => 0), (fun _ => 0), (fun _ => 0), (fun _ => 0), (fun _ => 0), 0)) := hD.sub [0, 1, 2, 3, 4, 5, 6, 7, 8, 9, 10, 11, 12, 13, 14, 15, 16, 17, 18, 19, 20, 21, 22, 23] (by decide) rfl
  refine W.widen (k := 23) (n := 121284) (Nat.le_of_ble_eq_true rfl) (Nat.le_of_ble_eq_true rfl) ?_
  refine W.imp (fun t ht => ?_) (t_M_init_205 (a := (fun k => if k = 20 then h else if k = 21 then q0 else if k = 22 then q1 else if k = 23 then q2 else if k = 24 then q3 else if k = 25 then q4 else if k = 26 then q5 else if k = 27 then q6 else if k = 28 then q7 else if k = 29 then q8 else if k = 30 then q9 else if k = 31 then q10 else if k = 32 then q11 else if k = 33 then q12 else if k = 34 then q13 else if k = 35 then q14 else if k = 36 then q15 else if k = 37 then q16 else if k = 38 then q17 else if k = 39 then q18 else if k = 40 then q19 else if k = 41 then q20 else if k = 42 then q21 else if k = 43 then q22 else 0)) (kc := 23) (ks := 121284) C0 hin2 hA hf hP hD hS (lv_sub hl [0, 1] rfl))
  obtain ⟨o, g1, g2, ⟨⟨u, g3, g4, q9, g5, g6⟩, g7⟩, g8⟩ := ht
  exact ⟨o, g1, g2, ⟨⟨u, g3, by rw [← g4], _, q9, rfl, g5, g6⟩, g7⟩, g8⟩
-- part 07.72initT.lean.txt
set_option maxHeartbeats 4000000 in
set_option maxRecDepth 100000 in
theorem c_T_init (l : Launch) (D : va_G) (cI cZ : ClassId) (h : Nat) {res : Int32 × StT} (hf : f_T_init_75 ((fun _ => 0), (fun _ => 0), (fun _ => 0), (fun _ => 0), (fun _ => 0), (fun _ => 0), (fun _ => 0), (64, (fun _ => 0)), 0, 0, 0, 0) = some res) : ∀ sz, Met l y_T_init (Cond.code y_T_init b_T_init 2 none :: tb) (rmK 3 65 8 2164) (va_Pc [.ref h] (fun U => U.heap.size = sz ∧ va_P D vwCl [(h, .inr (2, [.null, .null, .null, .null, .null, .null, .null, .null, .int 0, .int 0, .int 0, .int 0]))] U.heap ∧ KN D [(cI, .int), (cZ, .boolean)] U ∧ va_D (fun _ => True) [(h, .inr (2, [.null, .null, .null, .null, .null, .null, .null, .null, .int 0, .int 0, .int 0, .int 0]))])) (va_Qv (fun u => u = res.2) (fun u t => ∃ a q, a 10 = h ∧ va_P D vwCl (wT cI cZ a q u) t.heap ∧ va_D (va_A [(h, .inr (2, [.null, .null, .null, .null, .null, .null, .null, .null, .int 0, .int 0, .int 0, .int 0]))] sz) (wT cI cZ a q u)) (va_A [(h, .inr (2, [.null, .null, .null, .null, .null, .null, .null, .null, .int 0, .int 0, .int 0, .int 0]))] sz)) 8 2164 (va_A [(h, .inr (2, [.null, .null, .null, .null, .null, .null, .null, .null, .int 0, .int 0, .int 0, .int 0]))] sz) := by
  intro sz
  refine Met.ofW (cc := b_T_init) (maxL := 2) (ret := none) (by decide) rfl ?_
  intro p e s m args below meth c s₁ B hml hv
  obtain ⟨rfl, hsz, hP, hK, hD0⟩ := hv
  subst hsz
  have hin2 : meth.name = "<init>" := (name_of_methodNamed B.named B.method).1
  have hts0 := atoms_spec (ws := Cond.code y_T_init b_T_init 2 none :: tb) B.pre
  have hl := lv_entry [.ref h] (n := 2) (Nat.le_of_ble_eq_true rfl)
  rw [lg_entry_eq]
  generalize (lg_sl [.ref h] ++ List.replicate (2 - (lg_sl [.ref h]).length) Slot.unset).toArray = ls at hl ⊢
  have hl : lv_has ls 2 [(0, .ref h)] := hl
  have C0 : Am p s m ([.ref h] : List Value).toArray meth c b_T_init none 2 R_T D [(cI, .int), (cZ, .boolean)] := ⟨B.exec, B.bytes, B.returns, hml, findClass_of_methodNamed B.named, fun w h => hts0 w (List.mem_cons_of_mem _ h), B.notSynchronized, hK⟩
  obtain ⟨hx, hb, hr, hml, hown, hts, hlk, hK⟩ := id C0
  have hD := hD0.self (sz := s.heap.size)
  generalize hAe : va_A [(h, .inr (2, [.null, .null, .null, .null, .null, .null, .null, .null, .int 0, .int 0, .int 0, .int 0]))] s.heap.size = A at hD ⊢
  have hA : ∀ q, s.heap.size ≤ q → A q := fun q h => by rw [← hAe]; exact Or.inr h
  have hS : va_S A s.heap s.heap [] := va_S.rf
  refine lv_aload_n hx hb d_T_init_0 rfl (lv_at hl 0 rfl) ?_
  refine W.objInit hx hb hown (hts _ wd_494) (hts _ wd_490) (hts _ wd_491) rfl (by rw [hml]; exact hl.1) rfl d_T_init_1 (Nat.le_of_ble_eq_true rfl) (Nat.le_of_ble_eq_true rfl) ?_
  refine W.eq (g2 := F0 m 4 ls []) rfl ?_
  refine lv_aload_n hx hb d_T_init_4 rfl (lv_at hl 0 rfl) ?_
  refine lv_sipush (v := 300) hx hb d_T_init_5 (by decide) ?_
  refine mk_int (N := 300) C0 0 rfl wd_arrI hP hD hS hA (by decide) rfl (by decide) (Nat.le_of_ble_eq_true rfl) (Nat.le_of_ble_eq_true rfl) d_T_init_8 (fun q0 H hP hD hS => ?_)
  refine rw_putF (v := .ref q0) (fty := (.array .int)) (C := R_T) (T := F_T) (N := 12) C0 hin2 hP hD hS i_T ty_T tyok_T nn_T 0 rfl rfl 0 (by decide) (hts _ wd_41) rfl rfl rfl (by decide +kernel) rfl rfl (Nat.le_of_ble_eq_true rfl) d_T_init_10 (Wn := [(h, .inr (2, [.ref q0, .null, .null, .null, .null, .null, .null, .null, .int 0, .int 0, .int 0, .int 0])), (q0, .inl (cI, 300, .inl (fun _ => 0)))]) rfl (fun H locs hP hD hS => ?_)
  refine lv_aload_n hx hb d_T_init_13 rfl (lv_at hl 0 rfl) ?_
  refine lv_sipush (v := 300) hx hb d_T_init_14 (by decide) ?_
  refine mk_int (N := 300) C0 0 rfl wd_arrI hP hD hS hA (by decide) rfl (by decide) (Nat.le_of_ble_eq_true rfl) (Nat.le_of_ble_eq_true rfl) d_T_init_17 (fun q1 H hP hD hS => ?_)
  refine rw_putF (v := .ref q1) (fty := (.array .int)) (C := R_T) (T := F_T) (N := 12) C0 hin2 hP hD hS i_T ty_T tyok_T nn_T 0 rfl rfl 1 (by decide) (hts _ wd_42) rfl rfl rfl (by decide +kernel) rfl rfl (Nat.le_of_ble_eq_true rfl) d_T_init_19 (Wn := [(h, .inr (2, [.ref q0, .ref q1, .null, .null, .null, .null, .null, .null, .int 0, .int 0, .int 0, .int 0])), (q0, .inl (cI, 300, .inl (fun _ => 0))), (q1, .inl (cI, 300, .inl (fun _ => 0)))]) rfl (fun H locs hP hD hS => ?_)
  refine lv_aload_n hx hb d_T_init_22 rfl (lv_at hl 0 rfl) ?_
  refine lv_sipush (v := 300) hx hb d_T_init_23 (by decide) ?_
  refine mk_int (N := 300) C0 0 rfl wd_arrI hP hD hS hA (by decide) rfl (by decide) (Nat.le_of_ble_eq_true rfl) (Nat.le_of_ble_eq_true rfl) d_T_init_26 (fun q2 H hP hD hS => ?_)
  refine rw_putF (v := .ref q2) (fty := (.array .int)) (C := R_T) (T := F_T) (N := 12) C0 hin2 hP hD hS i_T ty_T tyok_T nn_T 0 rfl rfl 2 (by decide) (hts _ wd_43) rfl rfl rfl (by decide +kernel) rfl rfl (Nat.le_of_ble_eq_true rfl) d_T_init_28 (Wn := [(h, .inr (2, [.ref q0, .ref q1, .ref q2, .null, .null, .null, .null, .null, .int 0, .int 0, .int 0, .int 0])), (q0, .inl (cI, 300, .inl (fun _ => 0))), (q1, .inl (cI, 300, .inl (fun _ => 0))), (q2, .inl (cI, 300, .inl (fun _ => 0)))]) rfl (fun H locs hP hD hS => ?_)
  refine lv_aload_n hx hb d_T_init_31 rfl (lv_at hl 0 rfl) ?_
  refine lv_sipush (v := 300) hx hb d_T_init_32 (by decide) ?_
  refine mk_int (N := 300) C0 0 rfl wd_arrI hP hD hS hA (by decide) rfl (by decide) (Nat.le_of_ble_eq_true rfl) (Nat.le_of_ble_eq_true rfl) d_T_init_35 (fun q3 H hP hD hS => ?_)
  refine rw_putF (v := .ref q3) (fty := (.array .int)) (C := R_T) (T := F_T) (N := 12) C0 hin2 hP hD hS i_T ty_T tyok_T nn_T 0 rfl rfl 3 (by decide) (hts _ wd_44) rfl rfl rfl (by decide +kernel) rfl rfl (Nat.le_of_ble_eq_true rfl) d_T_init_37 (Wn := [(h, .inr (2, [.ref q0, .ref q1, .ref q2, .ref q3, .null, .null, .null, .null, .int 0, .int 0, .int 0, .int 0])), (q0, .inl (cI, 300, .inl (fun _ => 0))), (q1, .inl (cI, 300, .inl (fun _ => 0))), (q2, .inl (cI, 300, .inl (fun _ => 0))), (q3, .inl (cI, 300, .inl (fun _ => 0)))]) rfl (fun H locs hP hD hS => ?_)
  refine lv_aload_n hx hb d_T_init_40 rfl (lv_at hl 0 rfl) ?_
  refine lv_sipush (v := 300) hx hb d_T_init_41 (by decide) ?_
  refine mk_int (N := 300) C0 0 rfl wd_arrI hP hD hS hA (by decide) rfl (by decide) (Nat.le_of_ble_eq_true rfl) (Nat.le_of_ble_eq_true rfl) d_T_init_44 (fun q4 H hP hD hS => ?_)
  refine rw_putF (v := .ref q4) (fty := (.array .int)) (C := R_T) (T := F_T) (N := 12) C0 hin2 hP hD hS i_T ty_T tyok_T nn_T 0 rfl rfl 4 (by decide) (hts _ wd_45) rfl rfl rfl (by decide +kernel) rfl rfl (Nat.le_of_ble_eq_true rfl) d_T_init_46 (Wn := [(h, .inr (2, [.ref q0, .ref q1, .ref q2, .ref q3, .ref q4, .null, .null, .null, .int 0, .int 0, .int 0, .int 0])), (q0, .inl (cI, 300, .inl (fun _ => 0))), (q1, .inl (cI, 300, .inl (fun _ => 0))), (q2, .inl (cI, 300, .inl (fun _ => 0))), (q3, .inl (cI, 300, .inl (fun _ => 0))), (q4, .inl (cI, 300, .inl (fun _ => 0)))]) rfl (fun H locs hP hD hS => ?_)
  refine lv_aload_n hx hb d_T_init_49 rfl (lv_at hl 0 rfl) ?_
  refine lv_sipush (v := 300) hx hb d_T_init_50 (by decide) ?_
  refine mk_int (N := 300) C0 0 rfl wd_arrI hP hD hS hA (by decide) rfl (by decide) (Nat.le_of_ble_eq_true rfl) (Nat.le_of_ble_eq_true rfl) d_T_init_53 (fun q5 H hP hD hS => ?_)
  refine rw_putF (v := .ref q5) (fty := (.array .int)) (C := R_T) (T := F_T) (N := 12) C0 hin2 hP hD hS i_T ty_T tyok_T nn_T 0 rfl rfl 5 (by decide) (hts _ wd_46) rfl rfl rfl (by decide +kernel) rfl rfl (Nat.le_of_ble_eq_true rfl) d_T_init_55 (Wn := [(h, .inr (2, [.ref q0, .ref q1, .ref q2, .ref q3, .ref q4, .ref q5, .null, .null, .int 0, .int 0, .int 0, .int 0])), (q0, .inl (cI, 300, .inl (fun _ => 0))), (q1, .inl (cI, 300, .inl (fun _ => 0))), (q2, .inl (cI, 300, .inl (fun _ => 0))), (q3, .inl (cI, 300, .inl (fun _ => 0))), (q4, .inl (cI, 300, .inl (fun _ => 0))), (q5, .inl (cI, 300, .inl (fun _ => 0)))]) rfl (fun H locs hP hD hS => ?_)
  refine lv_aload_n hx hb d_T_init_58 rfl (lv_at hl 0 rfl) ?_
  refine lv_sipush (v := 300) hx hb d_T_init_59 (by decide) ?_
  refine mk_int (N := 300) C0 0 rfl wd_arrI hP hD hS hA (by decide) rfl (by decide) (Nat.le_of_ble_eq_true rfl) (Nat.le_of_ble_eq_true rfl) d_T_init_62 (fun q6 H hP hD hS => ?_)
  refine rw_putF (v := .ref q6) (fty := (.array .int)) (C := R_T) (T := F_T) (N := 12) C0 hin2 hP hD hS i_T ty_T tyok_T nn_T 0 rfl rfl 6 (by decide) (hts _ wd_47) rfl rfl rfl (by decide +kernel) rfl rfl (Nat.le_of_ble_eq_true rfl) d_T_init_64 (Wn := [(h, .inr (2, [.ref q0, .ref q1, .ref q2, .ref q3, .ref q4, .ref q5, .ref q6, .null, .int 0, .int 0, .int 0, .int 0])), (q0, .inl (cI, 300, .inl (fun _ => 0))), (q1, .inl (cI, 300, .inl (fun _ => 0))), (q2, .inl (cI, 300, .inl (fun _ => 0))), (q3, .inl (cI, 300, .inl (fun _ => 0))), (q4, .inl (cI, 300, .inl (fun _ => 0))), (q5, .inl (cI, 300, .inl (fun _ => 0))), (q6, .inl (cI, 300, .inl (fun _ => 0)))]) rfl (fun H locs hP hD hS => ?_)
  refine lv_aload_n hx hb d_T_init_67 rfl (lv_at hl 0 rfl) ?_
  refine lv_bipush (v := 64) hx hb d_T_init_68 (by decide) ?_
  refine mk_int (N := 64) C0 0 rfl wd_arrI hP hD hS hA (by decide) rfl (by decide) (Nat.le_of_ble_eq_true rfl) (Nat.le_of_ble_eq_true rfl) d_T_init_70 (fun q7 H hP hD hS => ?_)
  refine rw_put (v := .ref q7) (fty := (.array .int)) (C := R_T) (T := F_T) (N := 12) C0 hP hD hS i_T ty_T tyok_T nn_T 0 rfl rfl 7 (by decide) (hts _ wd_191) rfl rfl (by decide +kernel) rfl rfl (Nat.le_of_ble_eq_true rfl) d_T_init_72 (Wn := [(h, .inr (2, [.ref q0, .ref q1, .ref q2, .ref q3, .ref q4, .ref q5, .ref q6, .ref q7, .int 0, .int 0, .int 0, .int 0])), (q0, .inl (cI, 300, .inl (fun _ => 0))), (q1, .inl (cI, 300, .inl (fun _ => 0))), (q2, .inl (cI, 300, .inl (fun _ => 0))), (q3, .inl (cI, 300, .inl (fun _ => 0))), (q4, .inl (cI, 300, .inl (fun _ => 0))), (q5, .inl (cI, 300, .inl (fun _ => 0))), (q6, .inl (cI, 300, .inl (fun _ => 0))), (q7, .inl (cI, 64, .inl (fun _ => 0)))]) rfl (fun H locs hP hD hS => ?_)
  have hP : va_P D vwCl (wT cI cZ (fun k => if k = 10 then h else if k = 11 then q0 else if k = 12 then q1 else if k = 13 then q2 else if k = 14 then q3 else if k = 15 then q4 else if k = 16 then q5 else if k = 17 then q6 else 0) q7 ((fun _ => 0), (fun _ => 0), (fun _ => 0), (fun _ => 0), (fun _ => 0), (fun _ => 0), (fun _ => 0), (64, (fun _ => 0)), 0, 0, 0, 0)) H := hP.pick [0, 1, 2, 3, 4, 5, 6, 7, 8] rfl
  have hD : va_D A (wT cI cZ (fun k => if k = 10 then h else if k = 11 then q0 else if k = 12 then q1 else if k = 13 then q2 else if k = 14 then q3 else if k = 15 then q4 else if k = 16 then q5 else if k = 17 then q6 else 0) q7 ((fun _ => 0), (fun _ => 0), (fun _ => 0), (fun _ => 0), (fun _ => 0), (fun _ => 0), (fun _ => 0), (64, (fun _ => 0)), 0, 0, 0, 0)) := hD.sub [0, 1, 2, 3, 4, 5, 6, 7, 8] (by decide) rfl
  refine W.widen (k := 8) (n := 2164) (Nat.le_of_ble_eq_true rfl) (Nat.le_of_ble_eq_true rfl) ?_
  refine W.imp (fun t ht => ?_) (t_T_init_75 (a := (fun k => if k = 10 then h else if k = 11 then q0 else if k = 12 then q1 else if k = 13 then q2 else if k = 14 then q3 else if k = 15 then q4 else if k = 16 then q5 else if k = 17 then q6 else 0)) (kc := 8) (ks := 2164) C0 hin2 hA hf hP hD hS (lv_sub hl [0] rfl))
  obtain ⟨o, g1, g2, ⟨⟨u, g3, g4, q9, g5, g6⟩, g7⟩, g8⟩ := ht
  exact ⟨o, g1, g2, ⟨⟨u, g3, by rw [← g4], _, q9, rfl, g5, g6⟩, g7⟩, g8⟩
-- part 07.730ct.lean.txt
/-! Own rows: calls of constructors. -/
abbrev CtM {S : Type} (l : Launch) (y : MethodName) (cc : ByteArray) (nL fr lc mc ms : Nat) (D : va_G) (ty : List (ClassId × FieldType)) (b : Nat) (As : List Value) (e0 : va_E) (k0 : Nat) (w : (Nat → Nat) → Nat → S → va_W) (u0 : S) : Prop :=
  ∀ sz, Met l y (Cond.code y cc nL none :: tb) (rmK fr lc mc ms) (va_Pc (.ref b :: As) (fun U => U.heap.size = sz ∧ va_P D vwCl [(b, e0)] U.heap ∧ KN D ty U ∧ va_D (fun _ => True) [(b, e0)]))
    (va_Qv (fun u => u = u0) (fun u t => ∃ a q, a k0 = b ∧ va_P D vwCl (w a q u) t.heap ∧ va_D (va_A [(b, e0)] sz) (w a q u)) (va_A [(b, e0)] sz)) mc ms (va_A [(b, e0)] sz)
section CL
variable {p : Program} {l : Launch} {e : Env} {R : Room} {s : State} {m : MethodId} {args : Array Value} {below : List Frame} {meth : Method} {c : Code} {H : Heap} {locs : List Loc} {cells slots : Nat} {Q : State → Prop}
variable {cc : ByteArray} {pc : Nat} {ls : Array Slot} {rest st : List Value} {D : va_G} {ty : List (ClassId × FieldType)} {ret0 : Option FieldType} {nL : Nat} {own : String} {lv : List (Nat × Value)} {A : Nat → Prop} {ws wr : va_W} {b : Addr}
theorem ct_I {S : Type} {w : (Nat → Nat) → Nat → S → va_W} {u0 : S} {e0 : va_E} {y : MethodName} {ccy : ByteArray} {nLy fr lc mc ms idx n k0 : Nat} {As : List Value}
    (C0 : Am p s m args meth c cc ret0 nL own D ty) (hA : ∀ q, s.heap.size ≤ q → A q) (hM : CtM l y ccy nLy fr lc mc ms D ty b As e0 k0 w u0) (hlk : Cond.methodLink own idx y ∈ tb) (wd : Cond.code y ccy nLy none ∈ tb ∧ Cond.instanceMethod y ∈ tb ∧ Cond.initialized y.cls ∈ tb) (hy : plainY y n) (hy1 : y.name = "<init>")
    (hR : fr + 1 ≤ R.frames ∧ 8 + (nLy + 11) + lc ≤ R.locals) (hP : va_P D vwCl ws H) (hD : va_D A ws) (hS : va_S A s.heap H locs)
    (isC isR : List Nat) (hC : isC.map (fun i => ws[i]?) = [(b, e0)].map some) (hCd : va_nd isC = true) (hRr : isR.map (fun i => ws[i]?) = wr.map some) (hnd : va_nd isR = true) (hdis : ∀ i ∈ isR, i ∉ isC)
    (hl : lv_has ls nL lv) (hn : As.length = n) (hst : st = As.reverse ++ .ref b :: rest) (hr : (rest.map fun v => v.category).sum ≤ 8) (hcs : cells + mc ≤ R.cells ∧ slots + ms ≤ R.slots) (hdg : decode cc pc = .ok (.invokespecial idx, 3))
    (kk : ∀ (H1 : Heap) (locs1 : List Loc) (a : Nat → Nat) (q : Nat), a k0 = b → va_P D vwCl (wr ++ w a q u0) H1 → va_D A (wr ++ w a q u0) → va_S A s.heap H1 locs1 → W p l e R s m args below meth c H1 locs1 (cells + mc) (slots + ms) Q (F0 m (pc + 3) ls rest)) : W p l e R s m args below meth c H locs cells slots Q (F0 m pc ls st) := by
  obtain ⟨hx, hb, hr0, hml, hown, hts, hlk0, hK⟩ := C0
  obtain ⟨w1, w2, w3⟩ := wd
  have hPc := hP.pick isC hC
  have hDc := hD.sub isC hCd hC
  have hFc := va_free hD hS hA isC hC
  refine va_callv (va_runI (As := As) (rest := rest) ⟨hx, hb, hml, hown, hts⟩ (hM H.size) (cwI n hts (gdIn w1) rfl rfl rfl (hts _ w3) (hts _ hlk) (hts _ w2) hy1 hy hR) ⟨fun a U g mk h => ⟨h.1, h.2.1, h.2.2.1, KN.calling g mk a h.2.2.2.1, h.2.2.2.2⟩, fun U hU hW => ⟨rfl, by rw [hU], by rw [hU]; exact hPc, KN.warm hW hK, hDc.weaken (fun _ _ _ _ => trivial)⟩⟩ rfl hn hl.1 hst (lv_room hr) hdg hcs) hS (fun q _ h => hFc q h) hFc (fun u t H1 locs1 ht hvm hw hB hz1 hk1 hS1 => ?_)
  obtain ⟨a, q, ha, hP1, hD1⟩ := hB
  rw [ht] at hP1
  subst hw
  obtain ⟨hP2, hD2⟩ := va_join hP hD isC isR hC hRr hnd hdis hk1 hFc hP1 hD1
  exact kk H1 locs1 a q ha hP2 hD2 hS1
/-- a private constructor of a nest mate -/
theorem ct_IN {S : Type} {w : (Nat → Nat) → Nat → S → va_W} {u0 : S} {e0 : va_E} {y : MethodName} {ccy : ByteArray} {nLy fr lc mc ms idx n k0 : Nat} {As : List Value} {host : String}
    (C0 : Am p s m args meth c cc ret0 nL own D ty) (hA : ∀ q, s.heap.size ≤ q → A q) (hM : CtM l y ccy nLy fr lc mc ms D ty b As e0 k0 w u0) (hlk : Cond.methodLinkNest own idx y host ∈ nwL) (wd : Cond.code y ccy nLy none ∈ tb ∧ Cond.instanceMethod y ∈ tb ∧ Cond.initialized y.cls ∈ tb) (hy : plainY y n) (hy1 : y.name = "<init>")
    (hR : fr + 1 ≤ R.frames ∧ 8 + (nLy + 11) + lc ≤ R.locals) (hP : va_P D vwCl ws H) (hD : va_D A ws) (hS : va_S A s.heap H locs)
    (isC isR : List Nat) (hC : isC.map (fun i => ws[i]?) = [(b, e0)].map some) (hCd : va_nd isC = true) (hRr : isR.map (fun i => ws[i]?) = wr.map some) (hnd : va_nd isR = true) (hdis : ∀ i ∈ isR, i ∉ isC)
    (hl : lv_has ls nL lv) (hn : As.length = n) (hst : st = As.reverse ++ .ref b :: rest) (hr : (rest.map fun v => v.category).sum ≤ 8) (hcs : cells + mc ≤ R.cells ∧ slots + ms ≤ R.slots) (hdg : decode cc pc = .ok (.invokespecial idx, 3))
    (kk : ∀ (H1 : Heap) (locs1 : List Loc) (a : Nat → Nat) (q : Nat), a k0 = b → va_P D vwCl (wr ++ w a q u0) H1 → va_D A (wr ++ w a q u0) → va_S A s.heap H1 locs1 → W p l e R s m args below meth c H1 locs1 (cells + mc) (slots + ms) Q (F0 m (pc + 3) ls rest)) : W p l e R s m args below meth c H locs cells slots Q (F0 m pc ls st) := by
  obtain ⟨hx, hb, hr0, hml, hown, hts, hlk0, hK⟩ := C0
  obtain ⟨w1, w2, w3⟩ := wd
  have hPc := hP.pick isC hC
  have hDc := hD.sub isC hCd hC
  have hFc := va_free hD hS hA isC hC
  have cw := va_cnB (R := R) (args := args) (rm := rmK fr lc mc ms) (mc := mc) (ms := ms) n hts (gdIn w1) rfl rfl rfl (hK.2.1 _ hlk) (hts _ w3) hy hR
  refine va_callv (va_runIN (As := As) (rest := rest) ⟨hx, hb, hml, hown, hts⟩ (hM H.size) ⟨cw, hy1, hts _ w2⟩ ⟨fun a U g mk h => ⟨h.1, h.2.1, h.2.2.1, KN.calling g mk a h.2.2.2.1, h.2.2.2.2⟩, fun U hU hW => ⟨rfl, by rw [hU], by rw [hU]; exact hPc, KN.warm hW hK, hDc.weaken (fun _ _ _ _ => trivial)⟩⟩ rfl hn hl.1 hst (lv_room hr) hdg hcs) hS (fun q _ h => hFc q h) hFc (fun u t H1 locs1 ht hvm hw hB hz1 hk1 hS1 => ?_)
  obtain ⟨a, q, ha, hP1, hD1⟩ := hB
  rw [ht] at hP1
  subst hw
  obtain ⟨hP2, hD2⟩ := va_join hP hD isC isR hC hRr hnd hdis hk1 hFc hP1 hD1
  exact kk H1 locs1 a q ha hP2 hD2 hS1
end CL
-- part 07.731initL.lean.txt
set_option maxHeartbeats 4000000 in
set_option maxRecDepth 100000 in
theorem c_L_init (l : Launch) (D : va_G) (cI cZ : ClassId) (h : Nat) (x1 dp : Int32) (hdp : (if (0 : Int32) < (if x1 < 2 then x1 else 2) then (if x1 < 2 then x1 else 2) else 0) = dp) {rC : Int32 × StC} (hfC : f_C_init_54 ((fun _ => 0), (fun _ => 0), (fun _ => 0), (fun _ => 0), (fun _ => 0), (fun _ => 0), 0, 0) = some rC) {rT : Int32 × StT} (hfT : f_T_init_75 ((fun _ => 0), (fun _ => 0), (fun _ => 0), (fun _ => 0), (fun _ => 0), (fun _ => 0), (fun _ => 0), (64, (fun _ => 0)), 0, 0, 0, 0) = some rT) {rA : Int32 × StA} (hfA : f_A_init_13 ((fun _ => 0), 0) = some rA) : CtM l y_L_init b_L_init 2 5 111 20 9881 D [(cI, .int), (cZ, .boolean)] h [.int x1] (.inr (0, [.int 0, .null, .null, .null, .null, .null])) 0 (fun a q u => wL cI cZ a q u) (dp, rC.2, rT.2, rA.2, (fun _ => 0), (fun _ => 0)) := by
  intro sz
  refine Met.ofW (cc := b_L_init) (maxL := 2) (ret := none) (by decide) rfl ?_
  intro p e s m args below meth c s₁ B hml hv
  obtain ⟨rfl, hsz, hP, hK, hD0⟩ := hv
  subst hsz
  have hin2 : meth.name = "<init>" := (name_of_methodNamed B.named B.method).1
  have hts0 := atoms_spec (ws := Cond.code y_L_init b_L_init 2 none :: tb) B.pre
  have hl := lv_entry [.ref h, .int x1] (n := 2) (Nat.le_of_ble_eq_true rfl)
  rw [lg_entry_eq]
  generalize (lg_sl [.ref h, .int x1] ++ List.replicate (2 - (lg_sl [.ref h, .int x1]).length) Slot.unset).toArray = ls at hl ⊢
  have hl : lv_has ls 2 [(0, .ref h), (1, .int x1)] := hl
  have C0 : Am p s m ([.ref h, .int x1] : List Value).toArray meth c b_L_init none 2 R_L D [(cI, .int), (cZ, .boolean)] := ⟨B.exec, B.bytes, B.returns, hml, findClass_of_methodNamed B.named, fun w h => hts0 w (List.mem_cons_of_mem _ h), B.notSynchronized, hK⟩
  obtain ⟨hx, hb, hr, hml, hown, hts, hlk, hK⟩ := id C0
  have hD := hD0.self (sz := s.heap.size)
  generalize hAe : va_A [(h, .inr (0, [.int 0, .null, .null, .null, .null, .null]))] s.heap.size = A at hD ⊢
  have hA : ∀ q, s.heap.size ≤ q → A q := fun q h => by rw [← hAe]; exact Or.inr h
  have hS : va_S A s.heap s.heap [] := va_S.rf
  refine lv_aload_n hx hb d_L_init_0 rfl (lv_at hl 0 rfl) ?_
  refine W.objInit hx hb hown (hts _ wd_498) (hts _ wd_490) (hts _ wd_491) rfl (by rw [hml]; exact hl.1) rfl d_L_init_1 (Nat.le_of_ble_eq_true rfl) (Nat.le_of_ble_eq_true rfl) ?_
  refine W.eq (g2 := F0 m 4 ls []) rfl ?_
  refine lv_aload_n hx hb d_L_init_4 rfl (lv_at hl 0 rfl) ?_
  refine lv_iconst (v := 0) hx hb d_L_init_5 (by decide) ?_
  refine lv_iconst (v := 2) hx hb d_L_init_6 (by decide) ?_
  refine lv_iload_n hx hb d_L_init_7 rfl (lv_at hl 1 rfl) ?_
  refine va_mmin hx hb (by rw [hml]; exact hl.1.symm) hown (hts _ wd_302) (hts _ wd_303) (hts _ wd_15) (hts _ wd_304) (Nat.le_of_ble_eq_true rfl) (Nat.le_of_ble_eq_true rfl) (Nat.zero_le _) (Nat.zero_le _) d_L_init_8 ?_
  refine va_mmax hx hb (by rw [hml]; exact hl.1.symm) hown (hts _ wd_212) (hts _ wd_14) (hts _ wd_15) (hts _ wd_16) (Nat.le_of_ble_eq_true rfl) (Nat.le_of_ble_eq_true rfl) (Nat.zero_le _) (Nat.zero_le _) d_L_init_11 ?_
  rw [hdp]
  refine rw_putF (v := .int dp) (fty := .int) (C := R_L) (T := F_L) (N := 6) C0 hin2 hP hD hS i_L ty_L tyok_L nn_L 0 rfl rfl 0 (by decide) (hts _ wd_278) rfl rfl rfl (by decide +kernel) rfl rfl (Nat.le_of_ble_eq_true rfl) d_L_init_14 (Wn := ((h, .inr (0, [.int dp, .null, .null, .null, .null, .null])) :: (([] : va_W)))) rfl (fun H locs hP hD hS => ?_)
  try dsimp only [List.nil_append] at hP hD
  refine lv_aload_n hx hb d_L_init_17 rfl (lv_at hl 0 rfl) ?_
  refine va_new (ci := 1) (fs := [.null, .null, .null, .null, .null, .null, .int 0, .int 0]) (C := R_C) (T := F_C) (N := 8) hx hb hts i_C ty_C tyok_C hown (hts _ wd_500) (hts _ wd_499) (hts _ wd_8) hK.1 hP hD hS hA rfl (by decide +kernel) (Nat.le_of_ble_eq_true rfl) (Nat.le_of_ble_eq_true rfl) d_L_init_18 (fun qC H hP hD hS => ?_)
  refine lv_dup hx hb d_L_init_21 rfl ?_
  refine ct_I (n := 0) (As := []) (rest := [.ref qC, .ref h]) (wr := ((h, .inr (0, [.int dp, .null, .null, .null, .null, .null])) :: (([] : va_W)))) (w := fun a q (u : StC) => wC cI cZ a q u) (u0 := rC.2) (k0 := 3) C0 hA (c_C_init l D cI cZ qC hfC) wd_503 ⟨wd_501, wd_502, wd_8⟩ (by decide +kernel) rfl ⟨Nat.le_of_ble_eq_true rfl, Nat.le_of_ble_eq_true rfl⟩ hP hD hS [1] [0] rfl (by decide) rfl (by decide) (by decide) hl rfl rfl (Nat.le_of_ble_eq_true rfl) ⟨Nat.le_of_ble_eq_true rfl, Nat.le_of_ble_eq_true rfl⟩ d_L_init_22 (fun H locs aC pC eC hP hD hS => ?_)
  refine rw_putF (v := .ref qC) (fty := (.object "LeastBounds$Classes")) (C := R_L) (T := F_L) (N := 6) C0 hin2 hP hD hS i_L ty_L tyok_L nn_L 0 rfl rfl 1 (by decide) (hts _ wd_67) rfl rfl rfl (by decide +kernel) rfl rfl (Nat.le_of_ble_eq_true rfl) d_L_init_25 (Wn := ((h, .inr (0, [.int dp, .ref qC, .null, .null, .null, .null])) :: (wC cI cZ aC pC rC.2))) rfl (fun H locs hP hD hS => ?_)
  refine lv_aload_n hx hb d_L_init_28 rfl (lv_at hl 0 rfl) ?_
  refine va_new (ci := 2) (fs := [.null, .null, .null, .null, .null, .null, .null, .null, .int 0, .int 0, .int 0, .int 0]) (C := R_T) (T := F_T) (N := 12) hx hb hts i_T ty_T tyok_T hown (hts _ wd_505) (hts _ wd_504) (hts _ wd_52) hK.1 hP hD hS hA rfl (by decide +kernel) (Nat.le_of_ble_eq_true rfl) (Nat.le_of_ble_eq_true rfl) d_L_init_29 (fun qT H hP hD hS => ?_)
  refine lv_dup hx hb d_L_init_32 rfl ?_
  refine ct_I (n := 0) (As := []) (rest := [.ref qT, .ref h]) (wr := ((h, .inr (0, [.int dp, .ref qC, .null, .null, .null, .null])) :: (wC cI cZ aC pC rC.2))) (w := fun a q (u : StT) => wT cI cZ a q u) (u0 := rT.2) (k0 := 10) C0 hA (c_T_init l D cI cZ qT hfT) wd_508 ⟨wd_506, wd_507, wd_52⟩ (by decide +kernel) rfl ⟨Nat.le_of_ble_eq_true rfl, Nat.le_of_ble_eq_true rfl⟩ hP hD hS [8] [0, 1, 2, 3, 4, 5, 6, 7] rfl (by decide) rfl (by decide) (by decide) hl rfl rfl (Nat.le_of_ble_eq_true rfl) ⟨Nat.le_of_ble_eq_true rfl, Nat.le_of_ble_eq_true rfl⟩ d_L_init_33 (fun H locs aT pT eT hP hD hS => ?_)
  refine rw_putF (v := .ref qT) (fty := (.object "LeastBounds$Types")) (C := R_L) (T := F_L) (N := 6) C0 hin2 hP hD hS i_L ty_L tyok_L nn_L 0 rfl rfl 2 (by decide) (hts _ wd_85) rfl rfl rfl (by decide +kernel) rfl rfl (Nat.le_of_ble_eq_true rfl) d_L_init_36 (Wn := ((h, .inr (0, [.int dp, .ref qC, .ref qT, .null, .null, .null])) :: (wC cI cZ aC pC rC.2 ++ wT cI cZ aT pT rT.2))) rfl (fun H locs hP hD hS => ?_)
  refine lv_aload_n hx hb d_L_init_39 rfl (lv_at hl 0 rfl) ?_
  refine va_new (ci := 3) (fs := [.null, .int 0]) (C := R_A) (T := F_A) (N := 2) hx hb hts i_A ty_A tyok_A hown (hts _ wd_510) (hts _ wd_509) (hts _ wd_155) hK.1 hP hD hS hA rfl (by decide +kernel) (Nat.le_of_ble_eq_true rfl) (Nat.le_of_ble_eq_true rfl) d_L_init_40 (fun qA H hP hD hS => ?_)
  refine lv_dup hx hb d_L_init_43 rfl ?_
  refine ct_IN (n := 0) (As := []) (rest := [.ref qA, .ref h]) (wr := ((h, .inr (0, [.int dp, .ref qC, .ref qT, .null, .null, .null])) :: (wC cI cZ aC pC rC.2 ++ wT cI cZ aT pT rT.2))) (w := fun a q (u : StA) => wA cI cZ a q u) (u0 := rA.2) (k0 := 18) C0 hA (c_A_init l D cI cZ qA hfA) (List.mem_of_getElem? (i := 2) rfl) ⟨wd_511, wd_512, wd_155⟩ (by decide +kernel) rfl ⟨Nat.le_of_ble_eq_true rfl, Nat.le_of_ble_eq_true rfl⟩ hP hD hS [17] [0, 1, 2, 3, 4, 5, 6, 7, 8, 9, 10, 11, 12, 13, 14, 15, 16] rfl (by decide) rfl (by decide) (by decide) hl rfl rfl (Nat.le_of_ble_eq_true rfl) ⟨Nat.le_of_ble_eq_true rfl, Nat.le_of_ble_eq_true rfl⟩ d_L_init_44 (fun H locs aA pA eA hP hD hS => ?_)
  refine rw_putF (v := .ref qA) (fty := (.object "LeastBounds$Answers")) (C := R_L) (T := F_L) (N := 6) C0 hin2 hP hD hS i_L ty_L tyok_L nn_L 0 rfl rfl 3 (by decide) (hts _ wd_150) rfl rfl rfl (by decide +kernel) rfl rfl (Nat.le_of_ble_eq_true rfl) d_L_init_47 (Wn := ((h, .inr (0, [.int dp, .ref qC, .ref qT, .ref qA, .null, .null])) :: (wC cI cZ aC pC rC.2 ++ wT cI cZ aT pT rT.2 ++ wA cI cZ aA pA rA.2))) rfl (fun H locs hP hD hS => ?_)
  refine lv_aload_n hx hb d_L_init_50 rfl (lv_at hl 0 rfl) ?_
  refine lv_bipush (v := 90) hx hb d_L_init_51 (by decide) ?_
  refine mk_int (N := 90) C0 0 rfl wd_arrI hP hD hS hA (by decide) rfl (by decide) (Nat.le_of_ble_eq_true rfl) (Nat.le_of_ble_eq_true rfl) d_L_init_53 (fun q_row H hP hD hS => ?_)
  refine rw_putF (v := .ref q_row) (fty := (.array .int)) (C := R_L) (T := F_L) (N := 6) C0 hin2 hP hD hS i_L ty_L tyok_L nn_L 0 rfl rfl 4 (by decide) (hts _ wd_256) rfl rfl rfl (by decide +kernel) rfl rfl (Nat.le_of_ble_eq_true rfl) d_L_init_55 (Wn := ((h, .inr (0, [.int dp, .ref qC, .ref qT, .ref qA, .ref q_row, .null])) :: (wC cI cZ aC pC rC.2 ++ wT cI cZ aT pT rT.2 ++ wA cI cZ aA pA rA.2 ++ [(q_row, .inl (cI, 90, .inl (fun _ => 0)))]))) rfl (fun H locs hP hD hS => ?_)
  refine lv_aload_n hx hb d_L_init_58 rfl (lv_at hl 0 rfl) ?_
  refine lv_bipush (v := 60) hx hb d_L_init_59 (by decide) ?_
  refine mk_int (N := 60) C0 0 rfl wd_arrI hP hD hS hA (by decide) rfl (by decide) (Nat.le_of_ble_eq_true rfl) (Nat.le_of_ble_eq_true rfl) d_L_init_61 (fun q_gathered H hP hD hS => ?_)
  refine rw_putF (v := .ref q_gathered) (fty := (.array .int)) (C := R_L) (T := F_L) (N := 6) C0 hin2 hP hD hS i_L ty_L tyok_L nn_L 0 rfl rfl 5 (by decide) (hts _ wd_305) rfl rfl rfl (by decide +kernel) rfl rfl (Nat.le_of_ble_eq_true rfl) d_L_init_63 (Wn := ((h, .inr (0, [.int dp, .ref qC, .ref qT, .ref qA, .ref q_row, .ref q_gathered])) :: (wC cI cZ aC pC rC.2 ++ wT cI cZ aT pT rT.2 ++ wA cI cZ aA pA rA.2 ++ [(q_row, .inl (cI, 90, .inl (fun _ => 0)))] ++ [(q_gathered, .inl (cI, 60, .inl (fun _ => 0)))]))) rfl (fun H locs hP hD hS => ?_)
  subst eC eT eA
  have hP : va_P D vwCl (wL cI cZ (fun k => if k = 0 then h else if k = 1 then q_row else if k = 2 then q_gathered else if k < 10 then aC k else if k < 18 then aT k else aA k) pT (dp, rC.2, rT.2, rA.2, (fun _ => 0), (fun _ => 0))) H := hP.pick [0, 19, 20, 1, 2, 3, 4, 5, 6, 7, 8, 9, 10, 11, 12, 13, 14, 15, 16, 17, 18] rfl
  have hD : va_D A (wL cI cZ (fun k => if k = 0 then h else if k = 1 then q_row else if k = 2 then q_gathered else if k < 10 then aC k else if k < 18 then aT k else aA k) pT (dp, rC.2, rT.2, rA.2, (fun _ => 0), (fun _ => 0))) := hD.sub [0, 19, 20, 1, 2, 3, 4, 5, 6, 7, 8, 9, 10, 11, 12, 13, 14, 15, 16, 17, 18] (by decide) rfl
  refine W.widen (k := 20) (n := 9881) (Nat.le_of_ble_eq_true rfl) (Nat.le_of_ble_eq_true rfl) ?_
  exact W.vret hx hb hr (fun t ht _ => ⟨⟨(dp, rC.2, rT.2, rA.2, (fun _ => 0), (fun _ => 0)), rfl, rfl, (fun k => if k = 0 then h else if k = 1 then q_row else if k = 2 then q_gathered else if k < 10 then aC k else if k < 18 then aT k else aA k), pT, rfl, by rw [ht]; exact hP, hD⟩, hS.F ht⟩) hS.2.2 d_L_init_66 hlk
