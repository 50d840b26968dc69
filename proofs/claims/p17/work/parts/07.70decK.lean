theorem d_C_init_0 : decode b_C_init 0 = .ok (.aload_n 0, 1) := by decide +kernel
theorem d_C_init_1 : decode b_C_init 1 = .ok (.invokespecial 3, 3) := by decide +kernel
theorem d_C_init_4 : decode b_C_init 4 = .ok (.aload_n 0, 1) := by decide +kernel
theorem d_C_init_5 : decode b_C_init 5 = .ok (.bipush 30, 2) := by decide +kernel
theorem d_C_init_7 : decode b_C_init 7 = .ok (.newarray .boolean, 2) := by decide +kernel
theorem d_C_init_9 : decode b_C_init 9 = .ok (.putfield 9, 3) := by decide +kernel
theorem d_C_init_12 : decode b_C_init 12 = .ok (.aload_n 0, 1) := by decide +kernel
theorem d_C_init_13 : decode b_C_init 13 = .ok (.bipush 30, 2) := by decide +kernel
theorem d_C_init_15 : decode b_C_init 15 = .ok (.newarray .boolean, 2) := by decide +kernel
theorem d_C_init_17 : decode b_C_init 17 = .ok (.putfield 15, 3) := by decide +kernel
theorem d_C_init_20 : decode b_C_init 20 = .ok (.aload_n 0, 1) := by decide +kernel
theorem d_C_init_21 : decode b_C_init 21 = .ok (.bipush 30, 2) := by decide +kernel
theorem d_C_init_23 : decode b_C_init 23 = .ok (.newarray .int, 2) := by decide +kernel
theorem d_C_init_25 : decode b_C_init 25 = .ok (.putfield 18, 3) := by decide +kernel
theorem d_C_init_28 : decode b_C_init 28 = .ok (.aload_n 0, 1) := by decide +kernel
theorem d_C_init_29 : decode b_C_init 29 = .ok (.bipush 30, 2) := by decide +kernel
theorem d_C_init_31 : decode b_C_init 31 = .ok (.newarray .int, 2) := by decide +kernel
theorem d_C_init_33 : decode b_C_init 33 = .ok (.putfield 22, 3) := by decide +kernel
theorem d_C_init_36 : decode b_C_init 36 = .ok (.aload_n 0, 1) := by decide +kernel
theorem d_C_init_37 : decode b_C_init 37 = .ok (.sipush 900, 3) := by decide +kernel
theorem d_C_init_40 : decode b_C_init 40 = .ok (.newarray .int, 2) := by decide +kernel
theorem d_C_init_42 : decode b_C_init 42 = .ok (.putfield 25, 3) := by decide +kernel
theorem d_C_init_45 : decode b_C_init 45 = .ok (.aload_n 0, 1) := by decide +kernel
theorem d_C_init_46 : decode b_C_init 46 = .ok (.sipush 900, 3) := by decide +kernel
theorem d_C_init_49 : decode b_C_init 49 = .ok (.newarray .int, 2) := by decide +kernel
theorem d_C_init_51 : decode b_C_init 51 = .ok (.putfield 28, 3) := by decide +kernel
theorem d_C_init_54 : decode b_C_init 54 = .ok (.aload_n 0, 1) := by decide +kernel
theorem d_C_init_55 : decode b_C_init 55 = .ok (.iconst 0, 1) := by decide +kernel
theorem d_C_init_56 : decode b_C_init 56 = .ok (.putfield 31, 3) := by decide +kernel
theorem d_C_init_59 : decode b_C_init 59 = .ok (.aload_n 0, 1) := by decide +kernel
theorem d_C_init_60 : decode b_C_init 60 = .ok (.iconst 0, 1) := by decide +kernel
theorem d_C_init_61 : decode b_C_init 61 = .ok (.putfield 35, 3) := by decide +kernel
theorem d_C_init_64 : decode b_C_init 64 = .ok (.aload_n 0, 1) := by decide +kernel
theorem d_C_init_65 : decode b_C_init 65 = .ok (.iconst 0, 1) := by decide +kernel
theorem d_C_init_66 : decode b_C_init 66 = .ok (.iconst 0, 1) := by decide +kernel
theorem d_C_init_67 : decode b_C_init 67 = .ok (.invokevirtual 38, 3) := by decide +kernel
theorem d_C_init_70 : decode b_C_init 70 = .ok (.pop, 1) := by decide +kernel
theorem d_C_init_71 : decode b_C_init 71 = .ok (.aload_n 0, 1) := by decide +kernel
theorem d_C_init_72 : decode b_C_init 72 = .ok (.iconst 1, 1) := by decide +kernel
theorem d_C_init_73 : decode b_C_init 73 = .ok (.iconst 0, 1) := by decide +kernel
theorem d_C_init_74 : decode b_C_init 74 = .ok (.invokevirtual 38, 3) := by decide +kernel
theorem d_C_init_77 : decode b_C_init 77 = .ok (.pop, 1) := by decide +kernel
theorem d_C_init_78 : decode b_C_init 78 = .ok (.aload_n 0, 1) := by decide +kernel
theorem d_C_init_79 : decode b_C_init 79 = .ok (.iconst 1, 1) := by decide +kernel
theorem d_C_init_80 : decode b_C_init 80 = .ok (.iconst 0, 1) := by decide +kernel
theorem d_C_init_81 : decode b_C_init 81 = .ok (.invokevirtual 38, 3) := by decide +kernel
theorem d_C_init_84 : decode b_C_init 84 = .ok (.pop, 1) := by decide +kernel
theorem d_C_init_85 : decode b_C_init 85 = .ok (.aload_n 0, 1) := by decide +kernel
theorem d_C_init_86 : decode b_C_init 86 = .ok (.iconst 1, 1) := by decide +kernel
theorem d_C_init_87 : decode b_C_init 87 = .ok (.iconst 1, 1) := by decide +kernel
theorem d_C_init_88 : decode b_C_init 88 = .ok (.invokevirtual 38, 3) := by decide +kernel
theorem d_C_init_91 : decode b_C_init 91 = .ok (.pop, 1) := by decide +kernel
theorem d_C_init_92 : decode b_C_init 92 = .ok (.aload_n 0, 1) := by decide +kernel
theorem d_C_init_93 : decode b_C_init 93 = .ok (.iconst 0, 1) := by decide +kernel
theorem d_C_init_94 : decode b_C_init 94 = .ok (.iconst 0, 1) := by decide +kernel
theorem d_C_init_95 : decode b_C_init 95 = .ok (.invokevirtual 38, 3) := by decide +kernel
theorem d_C_init_98 : decode b_C_init 98 = .ok (.pop, 1) := by decide +kernel
theorem d_C_init_99 : decode b_C_init 99 = .ok (.aload_n 0, 1) := by decide +kernel
theorem d_C_init_100 : decode b_C_init 100 = .ok (.iconst 2, 1) := by decide +kernel
theorem d_C_init_101 : decode b_C_init 101 = .ok (.iconst (-1), 1) := by decide +kernel
theorem d_C_init_102 : decode b_C_init 102 = .ok (.invokevirtual 42, 3) := by decide +kernel
theorem d_C_init_105 : decode b_C_init 105 = .ok (.pop, 1) := by decide +kernel
theorem d_C_init_106 : decode b_C_init 106 = .ok (.iconst 0, 1) := by decide +kernel
theorem d_C_init_107 : decode b_C_init 107 = .ok (.istore_n 1, 1) := by decide +kernel
theorem d_C_init_108 : decode b_C_init 108 = .ok (.iload_n 1, 1) := by decide +kernel
theorem d_C_init_109 : decode b_C_init 109 = .ok (.bipush 8, 2) := by decide +kernel
theorem d_C_init_111 : decode b_C_init 111 = .ok (.if_icmp .ge 49, 3) := by decide +kernel
theorem d_C_init_114 : decode b_C_init 114 = .ok (.aload_n 0, 1) := by decide +kernel
theorem d_C_init_115 : decode b_C_init 115 = .ok (.iconst 0, 1) := by decide +kernel
theorem d_C_init_116 : decode b_C_init 116 = .ok (.iconst 0, 1) := by decide +kernel
theorem d_C_init_117 : decode b_C_init 117 = .ok (.invokevirtual 38, 3) := by decide +kernel
theorem d_C_init_120 : decode b_C_init 120 = .ok (.pop, 1) := by decide +kernel
theorem d_C_init_121 : decode b_C_init 121 = .ok (.iload_n 1, 1) := by decide +kernel
theorem d_C_init_122 : decode b_C_init 122 = .ok (.ifCond .eq 15, 3) := by decide +kernel
theorem d_C_init_125 : decode b_C_init 125 = .ok (.iload_n 1, 1) := by decide +kernel
theorem d_C_init_126 : decode b_C_init 126 = .ok (.iconst 3, 1) := by decide +kernel
theorem d_C_init_127 : decode b_C_init 127 = .ok (.if_icmp .eq 10, 3) := by decide +kernel
theorem d_C_init_130 : decode b_C_init 130 = .ok (.aload_n 0, 1) := by decide +kernel
theorem d_C_init_131 : decode b_C_init 131 = .ok (.iconst 4, 1) := by decide +kernel
theorem d_C_init_132 : decode b_C_init 132 = .ok (.iconst (-1), 1) := by decide +kernel
theorem d_C_init_133 : decode b_C_init 133 = .ok (.invokevirtual 42, 3) := by decide +kernel
theorem d_C_init_136 : decode b_C_init 136 = .ok (.pop, 1) := by decide +kernel
theorem d_C_init_137 : decode b_C_init 137 = .ok (.aload_n 0, 1) := by decide +kernel
theorem d_C_init_138 : decode b_C_init 138 = .ok (.iconst 2, 1) := by decide +kernel
theorem d_C_init_139 : decode b_C_init 139 = .ok (.iconst (-1), 1) := by decide +kernel
theorem d_C_init_140 : decode b_C_init 140 = .ok (.invokevirtual 42, 3) := by decide +kernel
theorem d_C_init_143 : decode b_C_init 143 = .ok (.pop, 1) := by decide +kernel
theorem d_C_init_144 : decode b_C_init 144 = .ok (.aload_n 0, 1) := by decide +kernel
theorem d_C_init_145 : decode b_C_init 145 = .ok (.iconst 3, 1) := by decide +kernel
theorem d_C_init_146 : decode b_C_init 146 = .ok (.iload_n 1, 1) := by decide +kernel
theorem d_C_init_147 : decode b_C_init 147 = .ok (.invokestatic 46, 3) := by decide +kernel
theorem d_C_init_150 : decode b_C_init 150 = .ok (.invokevirtual 42, 3) := by decide +kernel
theorem d_C_init_153 : decode b_C_init 153 = .ok (.pop, 1) := by decide +kernel
theorem d_C_init_154 : decode b_C_init 154 = .ok (.iinc 1 1, 3) := by decide +kernel
theorem d_C_init_157 : decode b_C_init 157 = .ok (.goto (-49), 3) := by decide +kernel
theorem d_C_init_160 : decode b_C_init 160 = .ok (.return_, 1) := by decide +kernel
theorem d_T_init_0 : decode b_T_init 0 = .ok (.aload_n 0, 1) := by decide +kernel
theorem d_T_init_1 : decode b_T_init 1 = .ok (.invokespecial 3, 3) := by decide +kernel
theorem d_T_init_4 : decode b_T_init 4 = .ok (.aload_n 0, 1) := by decide +kernel
theorem d_T_init_5 : decode b_T_init 5 = .ok (.sipush 300, 3) := by decide +kernel
theorem d_T_init_8 : decode b_T_init 8 = .ok (.newarray .int, 2) := by decide +kernel
theorem d_T_init_10 : decode b_T_init 10 = .ok (.putfield 9, 3) := by decide +kernel
theorem d_T_init_13 : decode b_T_init 13 = .ok (.aload_n 0, 1) := by decide +kernel
theorem d_T_init_14 : decode b_T_init 14 = .ok (.sipush 300, 3) := by decide +kernel
theorem d_T_init_17 : decode b_T_init 17 = .ok (.newarray .int, 2) := by decide +kernel
theorem d_T_init_19 : decode b_T_init 19 = .ok (.putfield 15, 3) := by decide +kernel
theorem d_T_init_22 : decode b_T_init 22 = .ok (.aload_n 0, 1) := by decide +kernel
theorem d_T_init_23 : decode b_T_init 23 = .ok (.sipush 300, 3) := by decide +kernel
theorem d_T_init_26 : decode b_T_init 26 = .ok (.newarray .int, 2) := by decide +kernel
theorem d_T_init_28 : decode b_T_init 28 = .ok (.putfield 18, 3) := by decide +kernel
theorem d_T_init_31 : decode b_T_init 31 = .ok (.aload_n 0, 1) := by decide +kernel
theorem d_T_init_32 : decode b_T_init 32 = .ok (.sipush 300, 3) := by decide +kernel
theorem d_T_init_35 : decode b_T_init 35 = .ok (.newarray .int, 2) := by decide +kernel
theorem d_T_init_37 : decode b_T_init 37 = .ok (.putfield 21, 3) := by decide +kernel
theorem d_T_init_40 : decode b_T_init 40 = .ok (.aload_n 0, 1) := by decide +kernel
theorem d_T_init_41 : decode b_T_init 41 = .ok (.sipush 300, 3) := by decide +kernel
theorem d_T_init_44 : decode b_T_init 44 = .ok (.newarray .int, 2) := by decide +kernel
theorem d_T_init_46 : decode b_T_init 46 = .ok (.putfield 24, 3) := by decide +kernel
theorem d_T_init_49 : decode b_T_init 49 = .ok (.aload_n 0, 1) := by decide +kernel
theorem d_T_init_50 : decode b_T_init 50 = .ok (.sipush 300, 3) := by decide +kernel
theorem d_T_init_53 : decode b_T_init 53 = .ok (.newarray .int, 2) := by decide +kernel
theorem d_T_init_55 : decode b_T_init 55 = .ok (.putfield 27, 3) := by decide +kernel
theorem d_T_init_58 : decode b_T_init 58 = .ok (.aload_n 0, 1) := by decide +kernel
theorem d_T_init_59 : decode b_T_init 59 = .ok (.sipush 300, 3) := by decide +kernel
theorem d_T_init_62 : decode b_T_init 62 = .ok (.newarray .int, 2) := by decide +kernel
theorem d_T_init_64 : decode b_T_init 64 = .ok (.putfield 30, 3) := by decide +kernel
theorem d_T_init_67 : decode b_T_init 67 = .ok (.aload_n 0, 1) := by decide +kernel
theorem d_T_init_68 : decode b_T_init 68 = .ok (.bipush 64, 2) := by decide +kernel
theorem d_T_init_70 : decode b_T_init 70 = .ok (.newarray .int, 2) := by decide +kernel
theorem d_T_init_72 : decode b_T_init 72 = .ok (.putfield 33, 3) := by decide +kernel
theorem d_T_init_75 : decode b_T_init 75 = .ok (.aload_n 0, 1) := by decide +kernel
theorem d_T_init_76 : decode b_T_init 76 = .ok (.iconst 0, 1) := by decide +kernel
theorem d_T_init_77 : decode b_T_init 77 = .ok (.putfield 36, 3) := by decide +kernel
theorem d_T_init_80 : decode b_T_init 80 = .ok (.aload_n 0, 1) := by decide +kernel
theorem d_T_init_81 : decode b_T_init 81 = .ok (.iconst 0, 1) := by decide +kernel
theorem d_T_init_82 : decode b_T_init 82 = .ok (.putfield 40, 3) := by decide +kernel
theorem d_T_init_85 : decode b_T_init 85 = .ok (.aload_n 0, 1) := by decide +kernel
theorem d_T_init_86 : decode b_T_init 86 = .ok (.iconst 0, 1) := by decide +kernel
theorem d_T_init_87 : decode b_T_init 87 = .ok (.putfield 43, 3) := by decide +kernel
theorem d_T_init_90 : decode b_T_init 90 = .ok (.aload_n 0, 1) := by decide +kernel
theorem d_T_init_91 : decode b_T_init 91 = .ok (.iconst 0, 1) := by decide +kernel
theorem d_T_init_92 : decode b_T_init 92 = .ok (.putfield 46, 3) := by decide +kernel
theorem d_T_init_95 : decode b_T_init 95 = .ok (.iconst 0, 1) := by decide +kernel
theorem d_T_init_96 : decode b_T_init 96 = .ok (.istore_n 1, 1) := by decide +kernel
theorem d_T_init_97 : decode b_T_init 97 = .ok (.iload_n 1, 1) := by decide +kernel
theorem d_T_init_98 : decode b_T_init 98 = .ok (.bipush 8, 2) := by decide +kernel
theorem d_T_init_100 : decode b_T_init 100 = .ok (.if_icmp .ge 16, 3) := by decide +kernel
theorem d_T_init_103 : decode b_T_init 103 = .ok (.aload_n 0, 1) := by decide +kernel
theorem d_T_init_104 : decode b_T_init 104 = .ok (.iconst 0, 1) := by decide +kernel
theorem d_T_init_105 : decode b_T_init 105 = .ok (.iconst 1, 1) := by decide +kernel
theorem d_T_init_106 : decode b_T_init 106 = .ok (.invokevirtual 49, 3) := by decide +kernel
theorem d_T_init_109 : decode b_T_init 109 = .ok (.pop, 1) := by decide +kernel
theorem d_T_init_110 : decode b_T_init 110 = .ok (.iinc 1 1, 3) := by decide +kernel
theorem d_T_init_113 : decode b_T_init 113 = .ok (.goto (-16), 3) := by decide +kernel
theorem d_T_init_116 : decode b_T_init 116 = .ok (.iconst 0, 1) := by decide +kernel
theorem d_T_init_117 : decode b_T_init 117 = .ok (.istore_n 1, 1) := by decide +kernel
theorem d_T_init_118 : decode b_T_init 118 = .ok (.iload_n 1, 1) := by decide +kernel
theorem d_T_init_119 : decode b_T_init 119 = .ok (.bipush 8, 2) := by decide +kernel
theorem d_T_init_121 : decode b_T_init 121 = .ok (.if_icmp .ge 18, 3) := by decide +kernel
theorem d_T_init_124 : decode b_T_init 124 = .ok (.aload_n 0, 1) := by decide +kernel
theorem d_T_init_125 : decode b_T_init 125 = .ok (.iconst 5, 1) := by decide +kernel
theorem d_T_init_126 : decode b_T_init 126 = .ok (.iload_n 1, 1) := by decide +kernel
theorem d_T_init_127 : decode b_T_init 127 = .ok (.iadd, 1) := by decide +kernel
theorem d_T_init_128 : decode b_T_init 128 = .ok (.iconst 0, 1) := by decide +kernel
theorem d_T_init_129 : decode b_T_init 129 = .ok (.invokevirtual 53, 3) := by decide +kernel
theorem d_T_init_132 : decode b_T_init 132 = .ok (.pop, 1) := by decide +kernel
theorem d_T_init_133 : decode b_T_init 133 = .ok (.iinc 1 1, 3) := by decide +kernel
theorem d_T_init_136 : decode b_T_init 136 = .ok (.goto (-18), 3) := by decide +kernel
theorem d_T_init_139 : decode b_T_init 139 = .ok (.aload_n 0, 1) := by decide +kernel
theorem d_T_init_140 : decode b_T_init 140 = .ok (.invokevirtual 56, 3) := by decide +kernel
theorem d_T_init_143 : decode b_T_init 143 = .ok (.return_, 1) := by decide +kernel
theorem d_A_init_0 : decode b_A_init 0 = .ok (.aload_n 0, 1) := by decide +kernel
theorem d_A_init_1 : decode b_A_init 1 = .ok (.invokespecial 3, 3) := by decide +kernel
theorem d_A_init_4 : decode b_A_init 4 = .ok (.aload_n 0, 1) := by decide +kernel
theorem d_A_init_5 : decode b_A_init 5 = .ok (.sipush 5625, 3) := by decide +kernel
theorem d_A_init_8 : decode b_A_init 8 = .ok (.newarray .int, 2) := by decide +kernel
theorem d_A_init_10 : decode b_A_init 10 = .ok (.putfield 9, 3) := by decide +kernel
theorem d_A_init_13 : decode b_A_init 13 = .ok (.aload_n 0, 1) := by decide +kernel
theorem d_A_init_14 : decode b_A_init 14 = .ok (.iconst 1, 1) := by decide +kernel
theorem d_A_init_15 : decode b_A_init 15 = .ok (.putfield 15, 3) := by decide +kernel
theorem d_A_init_18 : decode b_A_init 18 = .ok (.return_, 1) := by decide +kernel
theorem d_M_init_0 : decode b_M_init 0 = .ok (.aload_n 0, 1) := by decide +kernel
theorem d_M_init_1 : decode b_M_init 1 = .ok (.invokespecial 1, 3) := by decide +kernel
theorem d_M_init_4 : decode b_M_init 4 = .ok (.aload_n 0, 1) := by decide +kernel
theorem d_M_init_5 : decode b_M_init 5 = .ok (.bipush 30, 2) := by decide +kernel
theorem d_M_init_7 : decode b_M_init 7 = .ok (.newarray .boolean, 2) := by decide +kernel
theorem d_M_init_9 : decode b_M_init 9 = .ok (.putfield 7, 3) := by decide +kernel
theorem d_M_init_12 : decode b_M_init 12 = .ok (.aload_n 0, 1) := by decide +kernel
theorem d_M_init_13 : decode b_M_init 13 = .ok (.bipush 30, 2) := by decide +kernel
theorem d_M_init_15 : decode b_M_init 15 = .ok (.newarray .boolean, 2) := by decide +kernel
theorem d_M_init_17 : decode b_M_init 17 = .ok (.putfield 13, 3) := by decide +kernel
theorem d_M_init_20 : decode b_M_init 20 = .ok (.aload_n 0, 1) := by decide +kernel
theorem d_M_init_21 : decode b_M_init 21 = .ok (.bipush 30, 2) := by decide +kernel
theorem d_M_init_23 : decode b_M_init 23 = .ok (.newarray .int, 2) := by decide +kernel
theorem d_M_init_25 : decode b_M_init 25 = .ok (.putfield 16, 3) := by decide +kernel
theorem d_M_init_28 : decode b_M_init 28 = .ok (.aload_n 0, 1) := by decide +kernel
theorem d_M_init_29 : decode b_M_init 29 = .ok (.sipush 900, 3) := by decide +kernel
theorem d_M_init_32 : decode b_M_init 32 = .ok (.newarray .int, 2) := by decide +kernel
theorem d_M_init_34 : decode b_M_init 34 = .ok (.putfield 20, 3) := by decide +kernel
theorem d_M_init_37 : decode b_M_init 37 = .ok (.aload_n 0, 1) := by decide +kernel
theorem d_M_init_38 : decode b_M_init 38 = .ok (.sipush 900, 3) := by decide +kernel
theorem d_M_init_41 : decode b_M_init 41 = .ok (.newarray .int, 2) := by decide +kernel
theorem d_M_init_43 : decode b_M_init 43 = .ok (.putfield 23, 3) := by decide +kernel
theorem d_M_init_46 : decode b_M_init 46 = .ok (.aload_n 0, 1) := by decide +kernel
theorem d_M_init_47 : decode b_M_init 47 = .ok (.bipush 30, 2) := by decide +kernel
theorem d_M_init_49 : decode b_M_init 49 = .ok (.newarray .int, 2) := by decide +kernel
theorem d_M_init_51 : decode b_M_init 51 = .ok (.putfield 26, 3) := by decide +kernel
theorem d_M_init_54 : decode b_M_init 54 = .ok (.aload_n 0, 1) := by decide +kernel
theorem d_M_init_55 : decode b_M_init 55 = .ok (.sipush 300, 3) := by decide +kernel
theorem d_M_init_58 : decode b_M_init 58 = .ok (.newarray .int, 2) := by decide +kernel
theorem d_M_init_60 : decode b_M_init 60 = .ok (.putfield 29, 3) := by decide +kernel
theorem d_M_init_63 : decode b_M_init 63 = .ok (.aload_n 0, 1) := by decide +kernel
theorem d_M_init_64 : decode b_M_init 64 = .ok (.sipush 300, 3) := by decide +kernel
theorem d_M_init_67 : decode b_M_init 67 = .ok (.newarray .int, 2) := by decide +kernel
theorem d_M_init_69 : decode b_M_init 69 = .ok (.putfield 32, 3) := by decide +kernel
theorem d_M_init_72 : decode b_M_init 72 = .ok (.aload_n 0, 1) := by decide +kernel
theorem d_M_init_73 : decode b_M_init 73 = .ok (.sipush 300, 3) := by decide +kernel
theorem d_M_init_76 : decode b_M_init 76 = .ok (.newarray .int, 2) := by decide +kernel
theorem d_M_init_78 : decode b_M_init 78 = .ok (.putfield 35, 3) := by decide +kernel
theorem d_M_init_81 : decode b_M_init 81 = .ok (.aload_n 0, 1) := by decide +kernel
theorem d_M_init_82 : decode b_M_init 82 = .ok (.sipush 300, 3) := by decide +kernel
theorem d_M_init_85 : decode b_M_init 85 = .ok (.newarray .int, 2) := by decide +kernel
theorem d_M_init_87 : decode b_M_init 87 = .ok (.putfield 38, 3) := by decide +kernel
theorem d_M_init_90 : decode b_M_init 90 = .ok (.aload_n 0, 1) := by decide +kernel
theorem d_M_init_91 : decode b_M_init 91 = .ok (.sipush 300, 3) := by decide +kernel
theorem d_M_init_94 : decode b_M_init 94 = .ok (.newarray .int, 2) := by decide +kernel
theorem d_M_init_96 : decode b_M_init 96 = .ok (.putfield 41, 3) := by decide +kernel
theorem d_M_init_99 : decode b_M_init 99 = .ok (.aload_n 0, 1) := by decide +kernel
theorem d_M_init_100 : decode b_M_init 100 = .ok (.sipush 300, 3) := by decide +kernel
theorem d_M_init_103 : decode b_M_init 103 = .ok (.newarray .int, 2) := by decide +kernel
theorem d_M_init_105 : decode b_M_init 105 = .ok (.putfield 44, 3) := by decide +kernel
theorem d_M_init_108 : decode b_M_init 108 = .ok (.aload_n 0, 1) := by decide +kernel
theorem d_M_init_109 : decode b_M_init 109 = .ok (.sipush 9000, 3) := by decide +kernel
theorem d_M_init_112 : decode b_M_init 112 = .ok (.newarray .int, 2) := by decide +kernel
theorem d_M_init_114 : decode b_M_init 114 = .ok (.putfield 47, 3) := by decide +kernel
theorem d_M_init_117 : decode b_M_init 117 = .ok (.aload_n 0, 1) := by decide +kernel
theorem d_M_init_118 : decode b_M_init 118 = .ok (.bipush 64, 2) := by decide +kernel
theorem d_M_init_120 : decode b_M_init 120 = .ok (.newarray .int, 2) := by decide +kernel
theorem d_M_init_122 : decode b_M_init 122 = .ok (.putfield 50, 3) := by decide +kernel
theorem d_M_init_125 : decode b_M_init 125 = .ok (.aload_n 0, 1) := by decide +kernel
theorem d_M_init_126 : decode b_M_init 126 = .ok (.ldc 53, 2) := by decide +kernel
theorem d_M_init_128 : decode b_M_init 128 = .ok (.newarray .boolean, 2) := by decide +kernel
theorem d_M_init_130 : decode b_M_init 130 = .ok (.putfield 54, 3) := by decide +kernel
theorem d_M_init_133 : decode b_M_init 133 = .ok (.aload_n 0, 1) := by decide +kernel
theorem d_M_init_134 : decode b_M_init 134 = .ok (.sipush 500, 3) := by decide +kernel
theorem d_M_init_137 : decode b_M_init 137 = .ok (.newarray .int, 2) := by decide +kernel
theorem d_M_init_139 : decode b_M_init 139 = .ok (.putfield 57, 3) := by decide +kernel
theorem d_M_init_142 : decode b_M_init 142 = .ok (.aload_n 0, 1) := by decide +kernel
theorem d_M_init_143 : decode b_M_init 143 = .ok (.sipush 500, 3) := by decide +kernel
theorem d_M_init_146 : decode b_M_init 146 = .ok (.newarray .int, 2) := by decide +kernel
theorem d_M_init_148 : decode b_M_init 148 = .ok (.putfield 60, 3) := by decide +kernel
theorem d_M_init_151 : decode b_M_init 151 = .ok (.aload_n 0, 1) := by decide +kernel
theorem d_M_init_152 : decode b_M_init 152 = .ok (.sipush 500, 3) := by decide +kernel
theorem d_M_init_155 : decode b_M_init 155 = .ok (.newarray .int, 2) := by decide +kernel
theorem d_M_init_157 : decode b_M_init 157 = .ok (.putfield 63, 3) := by decide +kernel
theorem d_M_init_160 : decode b_M_init 160 = .ok (.aload_n 0, 1) := by decide +kernel
theorem d_M_init_161 : decode b_M_init 161 = .ok (.sipush 500, 3) := by decide +kernel
theorem d_M_init_164 : decode b_M_init 164 = .ok (.newarray .int, 2) := by decide +kernel
theorem d_M_init_166 : decode b_M_init 166 = .ok (.putfield 66, 3) := by decide +kernel
theorem d_M_init_169 : decode b_M_init 169 = .ok (.aload_n 0, 1) := by decide +kernel
theorem d_M_init_170 : decode b_M_init 170 = .ok (.sipush 500, 3) := by decide +kernel
theorem d_M_init_173 : decode b_M_init 173 = .ok (.newarray .int, 2) := by decide +kernel
theorem d_M_init_175 : decode b_M_init 175 = .ok (.putfield 69, 3) := by decide +kernel
theorem d_M_init_178 : decode b_M_init 178 = .ok (.aload_n 0, 1) := by decide +kernel
theorem d_M_init_179 : decode b_M_init 179 = .ok (.sipush 500, 3) := by decide +kernel
theorem d_M_init_182 : decode b_M_init 182 = .ok (.newarray .int, 2) := by decide +kernel
theorem d_M_init_184 : decode b_M_init 184 = .ok (.putfield 72, 3) := by decide +kernel
theorem d_M_init_187 : decode b_M_init 187 = .ok (.aload_n 0, 1) := by decide +kernel
theorem d_M_init_188 : decode b_M_init 188 = .ok (.sipush 500, 3) := by decide +kernel
theorem d_M_init_191 : decode b_M_init 191 = .ok (.newarray .int, 2) := by decide +kernel
theorem d_M_init_193 : decode b_M_init 193 = .ok (.putfield 75, 3) := by decide +kernel
theorem d_M_init_196 : decode b_M_init 196 = .ok (.aload_n 0, 1) := by decide +kernel
theorem d_M_init_197 : decode b_M_init 197 = .ok (.sipush 15000, 3) := by decide +kernel
theorem d_M_init_200 : decode b_M_init 200 = .ok (.newarray .int, 2) := by decide +kernel
theorem d_M_init_202 : decode b_M_init 202 = .ok (.putfield 78, 3) := by decide +kernel
theorem d_M_init_205 : decode b_M_init 205 = .ok (.aload_n 0, 1) := by decide +kernel
theorem d_M_init_206 : decode b_M_init 206 = .ok (.iload_n 1, 1) := by decide +kernel
theorem d_M_init_207 : decode b_M_init 207 = .ok (.ifCond .ge 7, 3) := by decide +kernel
theorem d_M_init_210 : decode b_M_init 210 = .ok (.iconst 0, 1) := by decide +kernel
theorem d_M_init_211 : decode b_M_init 211 = .ok (.goto 13, 3) := by decide +kernel
theorem d_M_init_214 : decode b_M_init 214 = .ok (.iload_n 1, 1) := by decide +kernel
theorem d_M_init_215 : decode b_M_init 215 = .ok (.iconst 2, 1) := by decide +kernel
theorem d_M_init_216 : decode b_M_init 216 = .ok (.if_icmp .le 7, 3) := by decide +kernel
theorem d_M_init_219 : decode b_M_init 219 = .ok (.iconst 2, 1) := by decide +kernel
theorem d_M_init_220 : decode b_M_init 220 = .ok (.goto 4, 3) := by decide +kernel
theorem d_M_init_223 : decode b_M_init 223 = .ok (.iload_n 1, 1) := by decide +kernel
theorem d_M_init_224 : decode b_M_init 224 = .ok (.putfield 81, 3) := by decide +kernel
theorem d_M_init_227 : decode b_M_init 227 = .ok (.iconst 0, 1) := by decide +kernel
theorem d_M_init_228 : decode b_M_init 228 = .ok (.istore_n 2, 1) := by decide +kernel
theorem d_M_init_229 : decode b_M_init 229 = .ok (.iload_n 2, 1) := by decide +kernel
theorem d_M_init_230 : decode b_M_init 230 = .ok (.bipush 13, 2) := by decide +kernel
theorem d_M_init_232 : decode b_M_init 232 = .ok (.if_icmp .ge 98, 3) := by decide +kernel
theorem d_M_init_235 : decode b_M_init 235 = .ok (.aload_n 0, 1) := by decide +kernel
theorem d_M_init_236 : decode b_M_init 236 = .ok (.getfield 7, 3) := by decide +kernel
theorem d_M_init_239 : decode b_M_init 239 = .ok (.iload_n 2, 1) := by decide +kernel
theorem d_M_init_240 : decode b_M_init 240 = .ok (.iload_n 2, 1) := by decide +kernel
theorem d_M_init_241 : decode b_M_init 241 = .ok (.ifCond .le 12, 3) := by decide +kernel
theorem d_M_init_244 : decode b_M_init 244 = .ok (.iload_n 2, 1) := by decide +kernel
theorem d_M_init_245 : decode b_M_init 245 = .ok (.iconst 4, 1) := by decide +kernel
theorem d_M_init_246 : decode b_M_init 246 = .ok (.if_icmp .ge 7, 3) := by decide +kernel
theorem d_M_init_249 : decode b_M_init 249 = .ok (.iconst 1, 1) := by decide +kernel
theorem d_M_init_250 : decode b_M_init 250 = .ok (.goto 4, 3) := by decide +kernel
theorem d_M_init_253 : decode b_M_init 253 = .ok (.iconst 0, 1) := by decide +kernel
theorem d_M_init_254 : decode b_M_init 254 = .ok (.bastore, 1) := by decide +kernel
theorem d_M_init_255 : decode b_M_init 255 = .ok (.aload_n 0, 1) := by decide +kernel
theorem d_M_init_256 : decode b_M_init 256 = .ok (.getfield 13, 3) := by decide +kernel
theorem d_M_init_259 : decode b_M_init 259 = .ok (.iload_n 2, 1) := by decide +kernel
theorem d_M_init_260 : decode b_M_init 260 = .ok (.iload_n 2, 1) := by decide +kernel
theorem d_M_init_261 : decode b_M_init 261 = .ok (.iconst 3, 1) := by decide +kernel
theorem d_M_init_262 : decode b_M_init 262 = .ok (.if_icmp .ne 7, 3) := by decide +kernel
theorem d_M_init_265 : decode b_M_init 265 = .ok (.iconst 1, 1) := by decide +kernel
theorem d_M_init_266 : decode b_M_init 266 = .ok (.goto 4, 3) := by decide +kernel
theorem d_M_init_269 : decode b_M_init 269 = .ok (.iconst 0, 1) := by decide +kernel
theorem d_M_init_270 : decode b_M_init 270 = .ok (.bastore, 1) := by decide +kernel
theorem d_M_init_271 : decode b_M_init 271 = .ok (.iload_n 2, 1) := by decide +kernel
theorem d_M_init_272 : decode b_M_init 272 = .ok (.ifCond .le 26, 3) := by decide +kernel
theorem d_M_init_275 : decode b_M_init 275 = .ok (.aload_n 0, 1) := by decide +kernel
theorem d_M_init_276 : decode b_M_init 276 = .ok (.iload_n 2, 1) := by decide +kernel
theorem d_M_init_277 : decode b_M_init 277 = .ok (.iload_n 2, 1) := by decide +kernel
theorem d_M_init_278 : decode b_M_init 278 = .ok (.bipush 6, 2) := by decide +kernel
theorem d_M_init_280 : decode b_M_init 280 = .ok (.if_icmp .lt 9, 3) := by decide +kernel
theorem d_M_init_283 : decode b_M_init 283 = .ok (.iload_n 2, 1) := by decide +kernel
theorem d_M_init_284 : decode b_M_init 284 = .ok (.bipush 8, 2) := by decide +kernel
theorem d_M_init_286 : decode b_M_init 286 = .ok (.if_icmp .ne 7, 3) := by decide +kernel
theorem d_M_init_289 : decode b_M_init 289 = .ok (.iconst 0, 1) := by decide +kernel
theorem d_M_init_290 : decode b_M_init 290 = .ok (.goto 4, 3) := by decide +kernel
theorem d_M_init_293 : decode b_M_init 293 = .ok (.iconst 4, 1) := by decide +kernel
theorem d_M_init_294 : decode b_M_init 294 = .ok (.iconst (-1), 1) := by decide +kernel
theorem d_M_init_295 : decode b_M_init 295 = .ok (.invokevirtual 85, 3) := by decide +kernel
theorem d_M_init_298 : decode b_M_init 298 = .ok (.iload_n 2, 1) := by decide +kernel
theorem d_M_init_299 : decode b_M_init 299 = .ok (.iconst 3, 1) := by decide +kernel
theorem d_M_init_300 : decode b_M_init 300 = .ok (.if_icmp .le 10, 3) := by decide +kernel
theorem d_M_init_303 : decode b_M_init 303 = .ok (.aload_n 0, 1) := by decide +kernel
theorem d_M_init_304 : decode b_M_init 304 = .ok (.iload_n 2, 1) := by decide +kernel
theorem d_M_init_305 : decode b_M_init 305 = .ok (.iconst 2, 1) := by decide +kernel
theorem d_M_init_306 : decode b_M_init 306 = .ok (.iconst (-1), 1) := by decide +kernel
theorem d_M_init_307 : decode b_M_init 307 = .ok (.invokevirtual 85, 3) := by decide +kernel
theorem d_M_init_310 : decode b_M_init 310 = .ok (.iload_n 2, 1) := by decide +kernel
theorem d_M_init_311 : decode b_M_init 311 = .ok (.iconst 4, 1) := by decide +kernel
theorem d_M_init_312 : decode b_M_init 312 = .ok (.if_icmp .le 12, 3) := by decide +kernel
theorem d_M_init_315 : decode b_M_init 315 = .ok (.aload_n 0, 1) := by decide +kernel
theorem d_M_init_316 : decode b_M_init 316 = .ok (.iload_n 2, 1) := by decide +kernel
theorem d_M_init_317 : decode b_M_init 317 = .ok (.iconst 3, 1) := by decide +kernel
theorem d_M_init_318 : decode b_M_init 318 = .ok (.iload_n 2, 1) := by decide +kernel
theorem d_M_init_319 : decode b_M_init 319 = .ok (.iconst 3, 1) := by decide +kernel
theorem d_M_init_320 : decode b_M_init 320 = .ok (.iadd, 1) := by decide +kernel
theorem d_M_init_321 : decode b_M_init 321 = .ok (.invokevirtual 85, 3) := by decide +kernel
theorem d_M_init_324 : decode b_M_init 324 = .ok (.iinc 2 1, 3) := by decide +kernel
theorem d_M_init_327 : decode b_M_init 327 = .ok (.goto (-98), 3) := by decide +kernel
theorem d_M_init_330 : decode b_M_init 330 = .ok (.aload_n 0, 1) := by decide +kernel
theorem d_M_init_331 : decode b_M_init 331 = .ok (.bipush 13, 2) := by decide +kernel
theorem d_M_init_333 : decode b_M_init 333 = .ok (.putfield 89, 3) := by decide +kernel
theorem d_M_init_336 : decode b_M_init 336 = .ok (.aload_n 0, 1) := by decide +kernel
theorem d_M_init_337 : decode b_M_init 337 = .ok (.iconst 1, 1) := by decide +kernel
theorem d_M_init_338 : decode b_M_init 338 = .ok (.putfield 92, 3) := by decide +kernel
theorem d_M_init_341 : decode b_M_init 341 = .ok (.iconst 0, 1) := by decide +kernel
theorem d_M_init_342 : decode b_M_init 342 = .ok (.istore_n 2, 1) := by decide +kernel
theorem d_M_init_343 : decode b_M_init 343 = .ok (.iload_n 2, 1) := by decide +kernel
theorem d_M_init_344 : decode b_M_init 344 = .ok (.aload_n 0, 1) := by decide +kernel
theorem d_M_init_345 : decode b_M_init 345 = .ok (.getfield 89, 3) := by decide +kernel
theorem d_M_init_348 : decode b_M_init 348 = .ok (.if_icmp .ge 14, 3) := by decide +kernel
theorem d_M_init_351 : decode b_M_init 351 = .ok (.aload_n 0, 1) := by decide +kernel
theorem d_M_init_352 : decode b_M_init 352 = .ok (.iload_n 2, 1) := by decide +kernel
theorem d_M_init_353 : decode b_M_init 353 = .ok (.invokevirtual 95, 3) := by decide +kernel
theorem d_M_init_356 : decode b_M_init 356 = .ok (.iinc 2 1, 3) := by decide +kernel
theorem d_M_init_359 : decode b_M_init 359 = .ok (.goto (-16), 3) := by decide +kernel
theorem d_M_init_362 : decode b_M_init 362 = .ok (.iconst 0, 1) := by decide +kernel
theorem d_M_init_363 : decode b_M_init 363 = .ok (.istore_n 2, 1) := by decide +kernel
theorem d_M_init_364 : decode b_M_init 364 = .ok (.iload_n 2, 1) := by decide +kernel
theorem d_M_init_365 : decode b_M_init 365 = .ok (.bipush 16, 2) := by decide +kernel
theorem d_M_init_367 : decode b_M_init 367 = .ok (.if_icmp .ge 103, 3) := by decide +kernel
theorem d_M_init_370 : decode b_M_init 370 = .ok (.aload_n 0, 1) := by decide +kernel
theorem d_M_init_371 : decode b_M_init 371 = .ok (.getfield 29, 3) := by decide +kernel
theorem d_M_init_374 : decode b_M_init 374 = .ok (.iload_n 2, 1) := by decide +kernel
theorem d_M_init_375 : decode b_M_init 375 = .ok (.iload_n 2, 1) := by decide +kernel
theorem d_M_init_376 : decode b_M_init 376 = .ok (.bipush 8, 2) := by decide +kernel
theorem d_M_init_378 : decode b_M_init 378 = .ok (.if_icmp .ge 7, 3) := by decide +kernel
theorem d_M_init_381 : decode b_M_init 381 = .ok (.iconst 0, 1) := by decide +kernel
theorem d_M_init_382 : decode b_M_init 382 = .ok (.goto 4, 3) := by decide +kernel
theorem d_M_init_385 : decode b_M_init 385 = .ok (.iconst 1, 1) := by decide +kernel
theorem d_M_init_386 : decode b_M_init 386 = .ok (.iastore, 1) := by decide +kernel
theorem d_M_init_387 : decode b_M_init 387 = .ok (.aload_n 0, 1) := by decide +kernel
theorem d_M_init_388 : decode b_M_init 388 = .ok (.getfield 32, 3) := by decide +kernel
theorem d_M_init_391 : decode b_M_init 391 = .ok (.iload_n 2, 1) := by decide +kernel
theorem d_M_init_392 : decode b_M_init 392 = .ok (.iload_n 2, 1) := by decide +kernel
theorem d_M_init_393 : decode b_M_init 393 = .ok (.bipush 8, 2) := by decide +kernel
theorem d_M_init_395 : decode b_M_init 395 = .ok (.if_icmp .ge 7, 3) := by decide +kernel
theorem d_M_init_398 : decode b_M_init 398 = .ok (.iconst (-1), 1) := by decide +kernel
theorem d_M_init_399 : decode b_M_init 399 = .ok (.goto 6, 3) := by decide +kernel
theorem d_M_init_402 : decode b_M_init 402 = .ok (.iload_n 2, 1) := by decide +kernel
theorem d_M_init_403 : decode b_M_init 403 = .ok (.iconst 3, 1) := by decide +kernel
theorem d_M_init_404 : decode b_M_init 404 = .ok (.isub, 1) := by decide +kernel
theorem d_M_init_405 : decode b_M_init 405 = .ok (.iastore, 1) := by decide +kernel
theorem d_M_init_406 : decode b_M_init 406 = .ok (.aload_n 0, 1) := by decide +kernel
theorem d_M_init_407 : decode b_M_init 407 = .ok (.getfield 35, 3) := by decide +kernel
theorem d_M_init_410 : decode b_M_init 410 = .ok (.iload_n 2, 1) := by decide +kernel
theorem d_M_init_411 : decode b_M_init 411 = .ok (.iload_n 2, 1) := by decide +kernel
theorem d_M_init_412 : decode b_M_init 412 = .ok (.bipush 8, 2) := by decide +kernel
theorem d_M_init_414 : decode b_M_init 414 = .ok (.if_icmp .ge 7, 3) := by decide +kernel
theorem d_M_init_417 : decode b_M_init 417 = .ok (.iconst (-1), 1) := by decide +kernel
theorem d_M_init_418 : decode b_M_init 418 = .ok (.goto 4, 3) := by decide +kernel
theorem d_M_init_421 : decode b_M_init 421 = .ok (.iconst 0, 1) := by decide +kernel
theorem d_M_init_422 : decode b_M_init 422 = .ok (.iastore, 1) := by decide +kernel
theorem d_M_init_423 : decode b_M_init 423 = .ok (.aload_n 0, 1) := by decide +kernel
theorem d_M_init_424 : decode b_M_init 424 = .ok (.getfield 38, 3) := by decide +kernel
theorem d_M_init_427 : decode b_M_init 427 = .ok (.iload_n 2, 1) := by decide +kernel
theorem d_M_init_428 : decode b_M_init 428 = .ok (.iconst (-1), 1) := by decide +kernel
theorem d_M_init_429 : decode b_M_init 429 = .ok (.iastore, 1) := by decide +kernel
theorem d_M_init_430 : decode b_M_init 430 = .ok (.aload_n 0, 1) := by decide +kernel
theorem d_M_init_431 : decode b_M_init 431 = .ok (.getfield 41, 3) := by decide +kernel
theorem d_M_init_434 : decode b_M_init 434 = .ok (.iload_n 2, 1) := by decide +kernel
theorem d_M_init_435 : decode b_M_init 435 = .ok (.iconst 1, 1) := by decide +kernel
theorem d_M_init_436 : decode b_M_init 436 = .ok (.iastore, 1) := by decide +kernel
theorem d_M_init_437 : decode b_M_init 437 = .ok (.aload_n 0, 1) := by decide +kernel
theorem d_M_init_438 : decode b_M_init 438 = .ok (.getfield 44, 3) := by decide +kernel
theorem d_M_init_441 : decode b_M_init 441 = .ok (.iload_n 2, 1) := by decide +kernel
theorem d_M_init_442 : decode b_M_init 442 = .ok (.iload_n 2, 1) := by decide +kernel
theorem d_M_init_443 : decode b_M_init 443 = .ok (.bipush 8, 2) := by decide +kernel
theorem d_M_init_445 : decode b_M_init 445 = .ok (.if_icmp .ge 7, 3) := by decide +kernel
theorem d_M_init_448 : decode b_M_init 448 = .ok (.iconst 0, 1) := by decide +kernel
theorem d_M_init_449 : decode b_M_init 449 = .ok (.goto 4, 3) := by decide +kernel
theorem d_M_init_452 : decode b_M_init 452 = .ok (.iconst 1, 1) := by decide +kernel
theorem d_M_init_453 : decode b_M_init 453 = .ok (.iastore, 1) := by decide +kernel
theorem d_M_init_454 : decode b_M_init 454 = .ok (.aload_n 0, 1) := by decide +kernel
theorem d_M_init_455 : decode b_M_init 455 = .ok (.getfield 47, 3) := by decide +kernel
theorem d_M_init_458 : decode b_M_init 458 = .ok (.bipush 30, 2) := by decide +kernel
theorem d_M_init_460 : decode b_M_init 460 = .ok (.iload_n 2, 1) := by decide +kernel
theorem d_M_init_461 : decode b_M_init 461 = .ok (.imul, 1) := by decide +kernel
theorem d_M_init_462 : decode b_M_init 462 = .ok (.iload_n 2, 1) := by decide +kernel
theorem d_M_init_463 : decode b_M_init 463 = .ok (.iastore, 1) := by decide +kernel
theorem d_M_init_464 : decode b_M_init 464 = .ok (.iinc 2 1, 3) := by decide +kernel
theorem d_M_init_467 : decode b_M_init 467 = .ok (.goto (-103), 3) := by decide +kernel
theorem d_M_init_470 : decode b_M_init 470 = .ok (.aload_n 0, 1) := by decide +kernel
theorem d_M_init_471 : decode b_M_init 471 = .ok (.bipush 16, 2) := by decide +kernel
theorem d_M_init_473 : decode b_M_init 473 = .ok (.putfield 99, 3) := by decide +kernel
theorem d_M_init_476 : decode b_M_init 476 = .ok (.return_, 1) := by decide +kernel
theorem d_L_init_0 : decode b_L_init 0 = .ok (.aload_n 0, 1) := by decide +kernel
theorem d_L_init_1 : decode b_L_init 1 = .ok (.invokespecial 1, 3) := by decide +kernel
theorem d_L_init_4 : decode b_L_init 4 = .ok (.aload_n 0, 1) := by decide +kernel
theorem d_L_init_5 : decode b_L_init 5 = .ok (.iconst 0, 1) := by decide +kernel
theorem d_L_init_6 : decode b_L_init 6 = .ok (.iconst 2, 1) := by decide +kernel
theorem d_L_init_7 : decode b_L_init 7 = .ok (.iload_n 1, 1) := by decide +kernel
theorem d_L_init_8 : decode b_L_init 8 = .ok (.invokestatic 9, 3) := by decide +kernel
theorem d_L_init_11 : decode b_L_init 11 = .ok (.invokestatic 15, 3) := by decide +kernel
theorem d_L_init_14 : decode b_L_init 14 = .ok (.putfield 18, 3) := by decide +kernel
theorem d_L_init_17 : decode b_L_init 17 = .ok (.aload_n 0, 1) := by decide +kernel
theorem d_L_init_18 : decode b_L_init 18 = .ok (.new 22, 3) := by decide +kernel
theorem d_L_init_21 : decode b_L_init 21 = .ok (.dup, 1) := by decide +kernel
theorem d_L_init_22 : decode b_L_init 22 = .ok (.invokespecial 24, 3) := by decide +kernel
theorem d_L_init_25 : decode b_L_init 25 = .ok (.putfield 25, 3) := by decide +kernel
theorem d_L_init_28 : decode b_L_init 28 = .ok (.aload_n 0, 1) := by decide +kernel
theorem d_L_init_29 : decode b_L_init 29 = .ok (.new 29, 3) := by decide +kernel
theorem d_L_init_32 : decode b_L_init 32 = .ok (.dup, 1) := by decide +kernel
theorem d_L_init_33 : decode b_L_init 33 = .ok (.invokespecial 31, 3) := by decide +kernel
theorem d_L_init_36 : decode b_L_init 36 = .ok (.putfield 32, 3) := by decide +kernel
theorem d_L_init_39 : decode b_L_init 39 = .ok (.aload_n 0, 1) := by decide +kernel
theorem d_L_init_40 : decode b_L_init 40 = .ok (.new 36, 3) := by decide +kernel
theorem d_L_init_43 : decode b_L_init 43 = .ok (.dup, 1) := by decide +kernel
theorem d_L_init_44 : decode b_L_init 44 = .ok (.invokespecial 38, 3) := by decide +kernel
theorem d_L_init_47 : decode b_L_init 47 = .ok (.putfield 39, 3) := by decide +kernel
theorem d_L_init_50 : decode b_L_init 50 = .ok (.aload_n 0, 1) := by decide +kernel
theorem d_L_init_51 : decode b_L_init 51 = .ok (.bipush 90, 2) := by decide +kernel
theorem d_L_init_53 : decode b_L_init 53 = .ok (.newarray .int, 2) := by decide +kernel
theorem d_L_init_55 : decode b_L_init 55 = .ok (.putfield 43, 3) := by decide +kernel
theorem d_L_init_58 : decode b_L_init 58 = .ok (.aload_n 0, 1) := by decide +kernel
theorem d_L_init_59 : decode b_L_init 59 = .ok (.bipush 60, 2) := by decide +kernel
theorem d_L_init_61 : decode b_L_init 61 = .ok (.newarray .int, 2) := by decide +kernel
theorem d_L_init_63 : decode b_L_init 63 = .ok (.putfield 47, 3) := by decide +kernel
theorem d_L_init_66 : decode b_L_init 66 = .ok (.return_, 1) := by decide +kernel
