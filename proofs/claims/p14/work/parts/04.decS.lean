theorem d_L_boxTypeOf_0 : decode b_L_boxTypeOf 0 = .ok (.bipush 8, 2) := by decide +kernel
theorem d_L_boxTypeOf_2 : decode b_L_boxTypeOf 2 = .ok (.iload_n 0, 1) := by decide +kernel
theorem d_L_boxTypeOf_3 : decode b_L_boxTypeOf 3 = .ok (.iadd, 1) := by decide +kernel
theorem d_L_boxTypeOf_4 : decode b_L_boxTypeOf 4 = .ok (.ireturn, 1) := by decide +kernel
theorem d_L_typeOf_0 : decode b_L_typeOf 0 = .ok (.iload_n 0, 1) := by decide +kernel
theorem d_L_typeOf_1 : decode b_L_typeOf 1 = .ok (.ifCond .gt 7, 3) := by decide +kernel
theorem d_L_typeOf_4 : decode b_L_typeOf 4 = .ok (.iconst (-1), 1) := by decide +kernel
theorem d_L_typeOf_5 : decode b_L_typeOf 5 = .ok (.goto 6, 3) := by decide +kernel
theorem d_L_typeOf_8 : decode b_L_typeOf 8 = .ok (.iload_n 0, 1) := by decide +kernel
theorem d_L_typeOf_9 : decode b_L_typeOf 9 = .ok (.iconst 2, 1) := by decide +kernel
theorem d_L_typeOf_10 : decode b_L_typeOf 10 = .ok (.ishr, 1) := by decide +kernel
theorem d_L_typeOf_11 : decode b_L_typeOf 11 = .ok (.ireturn, 1) := by decide +kernel
theorem d_L_has_0 : decode b_L_has 0 = .ok (.iload_n 0, 1) := by decide +kernel
theorem d_L_has_1 : decode b_L_has 1 = .ok (.iload_n 1, 1) := by decide +kernel
theorem d_L_has_2 : decode b_L_has 2 = .ok (.ishr, 1) := by decide +kernel
theorem d_L_has_3 : decode b_L_has 3 = .ok (.iconst 1, 1) := by decide +kernel
theorem d_L_has_4 : decode b_L_has 4 = .ok (.iand, 1) := by decide +kernel
theorem d_L_has_5 : decode b_L_has 5 = .ok (.ifCond .eq 7, 3) := by decide +kernel
theorem d_L_has_8 : decode b_L_has 8 = .ok (.iconst 1, 1) := by decide +kernel
theorem d_L_has_9 : decode b_L_has 9 = .ok (.goto 4, 3) := by decide +kernel
theorem d_L_has_12 : decode b_L_has 12 = .ok (.iconst 0, 1) := by decide +kernel
theorem d_L_has_13 : decode b_L_has 13 = .ok (.ireturn, 1) := by decide +kernel
theorem d_L_argumentOf_0 : decode b_L_argumentOf 0 = .ok (.iload_n 0, 1) := by decide +kernel
theorem d_L_argumentOf_1 : decode b_L_argumentOf 1 = .ok (.ifCond .ne 7, 3) := by decide +kernel
theorem d_L_argumentOf_4 : decode b_L_argumentOf 4 = .ok (.iconst 0, 1) := by decide +kernel
theorem d_L_argumentOf_5 : decode b_L_argumentOf 5 = .ok (.goto 8, 3) := by decide +kernel
theorem d_L_argumentOf_8 : decode b_L_argumentOf 8 = .ok (.iload_n 1, 1) := by decide +kernel
theorem d_L_argumentOf_9 : decode b_L_argumentOf 9 = .ok (.iconst 4, 1) := by decide +kernel
theorem d_L_argumentOf_10 : decode b_L_argumentOf 10 = .ok (.imul, 1) := by decide +kernel
theorem d_L_argumentOf_11 : decode b_L_argumentOf 11 = .ok (.iload_n 0, 1) := by decide +kernel
theorem d_L_argumentOf_12 : decode b_L_argumentOf 12 = .ok (.iadd, 1) := by decide +kernel
theorem d_L_argumentOf_13 : decode b_L_argumentOf 13 = .ok (.ireturn, 1) := by decide +kernel
theorem d_L_howOf_0 : decode b_L_howOf 0 = .ok (.iload_n 0, 1) := by decide +kernel
theorem d_L_howOf_1 : decode b_L_howOf 1 = .ok (.ifCond .gt 7, 3) := by decide +kernel
theorem d_L_howOf_4 : decode b_L_howOf 4 = .ok (.iconst 0, 1) := by decide +kernel
theorem d_L_howOf_5 : decode b_L_howOf 5 = .ok (.goto 6, 3) := by decide +kernel
theorem d_L_howOf_8 : decode b_L_howOf 8 = .ok (.iload_n 0, 1) := by decide +kernel
theorem d_L_howOf_9 : decode b_L_howOf 9 = .ok (.iconst 3, 1) := by decide +kernel
theorem d_L_howOf_10 : decode b_L_howOf 10 = .ok (.iand, 1) := by decide +kernel
theorem d_L_howOf_11 : decode b_L_howOf 11 = .ok (.ireturn, 1) := by decide +kernel
