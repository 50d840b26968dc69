-- part 07.80decW.lean.txt
theorem d_W_declare_0 : decode b_W_declare 0 = .ok (.aload_n 3, 1) := dq_s (by decide +kernel)
theorem d_W_declare_1 : decode b_W_declare 1 = .ok (.iconst 0, 1) := dq_s (by decide +kernel)
theorem d_W_declare_2 : decode b_W_declare 2 = .ok (.aload_n 0, 1) := dq_s (by decide +kernel)
theorem d_W_declare_3 : decode b_W_declare 3 = .ok (.iload_n 1, 1) := dq_s (by decide +kernel)
theorem d_W_declare_4 : decode b_W_declare 4 = .ok (.iload_n 2, 1) := dq_s (by decide +kernel)
theorem d_W_declare_5 : decode b_W_declare 5 = .ok (.invokevirtual 7, 3) := dq_s (by decide +kernel)
theorem d_W_declare_8 : decode b_W_declare 8 = .ok (.i2l, 1) := dq_s (by decide +kernel)
theorem d_W_declare_9 : decode b_W_declare 9 = .ok (.lastore, 1) := dq_s (by decide +kernel)
theorem d_W_declare_10 : decode b_W_declare 10 = .ok (.goto 7, 3) := dq_s (by decide +kernel)
theorem d_W_declare_13 : decode b_W_declare 13 = .ok (.astore 4, 2) := dq_s (by decide +kernel)
theorem d_W_declare_15 : decode b_W_declare 15 = .ok (.iconst 1, 1) := dq_s (by decide +kernel)
theorem d_W_declare_16 : decode b_W_declare 16 = .ok (.ireturn, 1) := dq_s (by decide +kernel)
theorem d_W_declare_17 : decode b_W_declare 17 = .ok (.iconst 0, 1) := dq_s (by decide +kernel)
theorem d_W_declare_18 : decode b_W_declare 18 = .ok (.ireturn, 1) := dq_s (by decide +kernel)
theorem d_W_above_0 : decode b_W_above 0 = .ok (.aload_n 3, 1) := dq_s (by decide +kernel)
theorem d_W_above_1 : decode b_W_above 1 = .ok (.iconst 0, 1) := dq_s (by decide +kernel)
theorem d_W_above_2 : decode b_W_above 2 = .ok (.aload_n 0, 1) := dq_s (by decide +kernel)
theorem d_W_above_3 : decode b_W_above 3 = .ok (.iload_n 1, 1) := dq_s (by decide +kernel)
theorem d_W_above_4 : decode b_W_above 4 = .ok (.iload_n 2, 1) := dq_s (by decide +kernel)
theorem d_W_above_5 : decode b_W_above 5 = .ok (.invokevirtual 15, 3) := dq_s (by decide +kernel)
theorem d_W_above_8 : decode b_W_above 8 = .ok (.i2l, 1) := dq_s (by decide +kernel)
theorem d_W_above_9 : decode b_W_above 9 = .ok (.lastore, 1) := dq_s (by decide +kernel)
theorem d_W_above_10 : decode b_W_above 10 = .ok (.goto 15, 3) := dq_s (by decide +kernel)
theorem d_W_above_13 : decode b_W_above 13 = .ok (.astore 4, 2) := dq_s (by decide +kernel)
theorem d_W_above_15 : decode b_W_above 15 = .ok (.iconst 1, 1) := dq_s (by decide +kernel)
theorem d_W_above_16 : decode b_W_above 16 = .ok (.ireturn, 1) := dq_s (by decide +kernel)
theorem d_W_above_17 : decode b_W_above 17 = .ok (.astore 4, 2) := dq_s (by decide +kernel)
theorem d_W_above_19 : decode b_W_above 19 = .ok (.iconst 2, 1) := dq_s (by decide +kernel)
theorem d_W_above_20 : decode b_W_above 20 = .ok (.ireturn, 1) := dq_s (by decide +kernel)
theorem d_W_above_21 : decode b_W_above 21 = .ok (.astore 4, 2) := dq_s (by decide +kernel)
theorem d_W_above_23 : decode b_W_above 23 = .ok (.iconst 3, 1) := dq_s (by decide +kernel)
theorem d_W_above_24 : decode b_W_above 24 = .ok (.ireturn, 1) := dq_s (by decide +kernel)
theorem d_W_above_25 : decode b_W_above 25 = .ok (.iconst 0, 1) := dq_s (by decide +kernel)
theorem d_W_above_26 : decode b_W_above 26 = .ok (.ireturn, 1) := dq_s (by decide +kernel)
theorem d_W_named_0 : decode b_W_named 0 = .ok (.aload 4, 2) := dq_s (by decide +kernel)
theorem d_W_named_2 : decode b_W_named 2 = .ok (.iconst 0, 1) := dq_s (by decide +kernel)
theorem d_W_named_3 : decode b_W_named 3 = .ok (.aload_n 0, 1) := dq_s (by decide +kernel)
theorem d_W_named_4 : decode b_W_named 4 = .ok (.iload_n 1, 1) := dq_s (by decide +kernel)
theorem d_W_named_5 : decode b_W_named 5 = .ok (.iload_n 2, 1) := dq_s (by decide +kernel)
theorem d_W_named_6 : decode b_W_named 6 = .ok (.iload_n 3, 1) := dq_s (by decide +kernel)
theorem d_W_named_7 : decode b_W_named 7 = .ok (.invokevirtual 23, 3) := dq_s (by decide +kernel)
theorem d_W_named_10 : decode b_W_named 10 = .ok (.i2l, 1) := dq_s (by decide +kernel)
theorem d_W_named_11 : decode b_W_named 11 = .ok (.lastore, 1) := dq_s (by decide +kernel)
theorem d_W_named_12 : decode b_W_named 12 = .ok (.goto 15, 3) := dq_s (by decide +kernel)
theorem d_W_named_15 : decode b_W_named 15 = .ok (.astore 5, 2) := dq_s (by decide +kernel)
theorem d_W_named_17 : decode b_W_named 17 = .ok (.iconst 1, 1) := dq_s (by decide +kernel)
theorem d_W_named_18 : decode b_W_named 18 = .ok (.ireturn, 1) := dq_s (by decide +kernel)
theorem d_W_named_19 : decode b_W_named 19 = .ok (.astore 5, 2) := dq_s (by decide +kernel)
theorem d_W_named_21 : decode b_W_named 21 = .ok (.iconst 2, 1) := dq_s (by decide +kernel)
theorem d_W_named_22 : decode b_W_named 22 = .ok (.ireturn, 1) := dq_s (by decide +kernel)
theorem d_W_named_23 : decode b_W_named 23 = .ok (.astore 5, 2) := dq_s (by decide +kernel)
theorem d_W_named_25 : decode b_W_named 25 = .ok (.iconst 3, 1) := dq_s (by decide +kernel)
theorem d_W_named_26 : decode b_W_named 26 = .ok (.ireturn, 1) := dq_s (by decide +kernel)
theorem d_W_named_27 : decode b_W_named 27 = .ok (.iconst 0, 1) := dq_s (by decide +kernel)
theorem d_W_named_28 : decode b_W_named 28 = .ok (.ireturn, 1) := dq_s (by decide +kernel)
theorem d_W_array_0 : decode b_W_array 0 = .ok (.aload_n 2, 1) := dq_s (by decide +kernel)
theorem d_W_array_1 : decode b_W_array 1 = .ok (.iconst 0, 1) := dq_s (by decide +kernel)
theorem d_W_array_2 : decode b_W_array 2 = .ok (.aload_n 0, 1) := dq_s (by decide +kernel)
theorem d_W_array_3 : decode b_W_array 3 = .ok (.iload_n 1, 1) := dq_s (by decide +kernel)
theorem d_W_array_4 : decode b_W_array 4 = .ok (.invokevirtual 27, 3) := dq_s (by decide +kernel)
theorem d_W_array_7 : decode b_W_array 7 = .ok (.i2l, 1) := dq_s (by decide +kernel)
theorem d_W_array_8 : decode b_W_array 8 = .ok (.lastore, 1) := dq_s (by decide +kernel)
theorem d_W_array_9 : decode b_W_array 9 = .ok (.goto 9, 3) := dq_s (by decide +kernel)
theorem d_W_array_12 : decode b_W_array 12 = .ok (.astore_n 3, 1) := dq_s (by decide +kernel)
theorem d_W_array_13 : decode b_W_array 13 = .ok (.iconst 1, 1) := dq_s (by decide +kernel)
theorem d_W_array_14 : decode b_W_array 14 = .ok (.ireturn, 1) := dq_s (by decide +kernel)
theorem d_W_array_15 : decode b_W_array 15 = .ok (.astore_n 3, 1) := dq_s (by decide +kernel)
theorem d_W_array_16 : decode b_W_array 16 = .ok (.iconst 2, 1) := dq_s (by decide +kernel)
theorem d_W_array_17 : decode b_W_array 17 = .ok (.ireturn, 1) := dq_s (by decide +kernel)
theorem d_W_array_18 : decode b_W_array 18 = .ok (.iconst 0, 1) := dq_s (by decide +kernel)
theorem d_W_array_19 : decode b_W_array 19 = .ok (.ireturn, 1) := dq_s (by decide +kernel)
theorem d_W_upper_0 : decode b_W_upper 0 = .ok (.aload_n 3, 1) := dq_s (by decide +kernel)
theorem d_W_upper_1 : decode b_W_upper 1 = .ok (.iconst 0, 1) := dq_s (by decide +kernel)
theorem d_W_upper_2 : decode b_W_upper 2 = .ok (.aload_n 0, 1) := dq_s (by decide +kernel)
theorem d_W_upper_3 : decode b_W_upper 3 = .ok (.iload_n 1, 1) := dq_s (by decide +kernel)
theorem d_W_upper_4 : decode b_W_upper 4 = .ok (.iload_n 2, 1) := dq_s (by decide +kernel)
theorem d_W_upper_5 : decode b_W_upper 5 = .ok (.invokevirtual 31, 3) := dq_s (by decide +kernel)
theorem d_W_upper_8 : decode b_W_upper 8 = .ok (.i2l, 1) := dq_s (by decide +kernel)
theorem d_W_upper_9 : decode b_W_upper 9 = .ok (.lastore, 1) := dq_s (by decide +kernel)
theorem d_W_upper_10 : decode b_W_upper 10 = .ok (.goto 11, 3) := dq_s (by decide +kernel)
theorem d_W_upper_13 : decode b_W_upper 13 = .ok (.astore 4, 2) := dq_s (by decide +kernel)
theorem d_W_upper_15 : decode b_W_upper 15 = .ok (.iconst 1, 1) := dq_s (by decide +kernel)
theorem d_W_upper_16 : decode b_W_upper 16 = .ok (.ireturn, 1) := dq_s (by decide +kernel)
theorem d_W_upper_17 : decode b_W_upper 17 = .ok (.astore 4, 2) := dq_s (by decide +kernel)
theorem d_W_upper_19 : decode b_W_upper 19 = .ok (.iconst 2, 1) := dq_s (by decide +kernel)
theorem d_W_upper_20 : decode b_W_upper 20 = .ok (.ireturn, 1) := dq_s (by decide +kernel)
theorem d_W_upper_21 : decode b_W_upper 21 = .ok (.iconst 0, 1) := dq_s (by decide +kernel)
theorem d_W_upper_22 : decode b_W_upper 22 = .ok (.ireturn, 1) := dq_s (by decide +kernel)
theorem d_W_lower_0 : decode b_W_lower 0 = .ok (.aload_n 3, 1) := dq_s (by decide +kernel)
theorem d_W_lower_1 : decode b_W_lower 1 = .ok (.iconst 0, 1) := dq_s (by decide +kernel)
theorem d_W_lower_2 : decode b_W_lower 2 = .ok (.aload_n 0, 1) := dq_s (by decide +kernel)
theorem d_W_lower_3 : decode b_W_lower 3 = .ok (.iload_n 1, 1) := dq_s (by decide +kernel)
theorem d_W_lower_4 : decode b_W_lower 4 = .ok (.iload_n 2, 1) := dq_s (by decide +kernel)
theorem d_W_lower_5 : decode b_W_lower 5 = .ok (.invokevirtual 34, 3) := dq_s (by decide +kernel)
theorem d_W_lower_8 : decode b_W_lower 8 = .ok (.i2l, 1) := dq_s (by decide +kernel)
theorem d_W_lower_9 : decode b_W_lower 9 = .ok (.lastore, 1) := dq_s (by decide +kernel)
theorem d_W_lower_10 : decode b_W_lower 10 = .ok (.goto 11, 3) := dq_s (by decide +kernel)
theorem d_W_lower_13 : decode b_W_lower 13 = .ok (.astore 4, 2) := dq_s (by decide +kernel)
theorem d_W_lower_15 : decode b_W_lower 15 = .ok (.iconst 1, 1) := dq_s (by decide +kernel)
theorem d_W_lower_16 : decode b_W_lower 16 = .ok (.ireturn, 1) := dq_s (by decide +kernel)
theorem d_W_lower_17 : decode b_W_lower 17 = .ok (.astore 4, 2) := dq_s (by decide +kernel)
theorem d_W_lower_19 : decode b_W_lower 19 = .ok (.iconst 2, 1) := dq_s (by decide +kernel)
theorem d_W_lower_20 : decode b_W_lower 20 = .ok (.ireturn, 1) := dq_s (by decide +kernel)
theorem d_W_lower_21 : decode b_W_lower 21 = .ok (.iconst 0, 1) := dq_s (by decide +kernel)
theorem d_W_lower_22 : decode b_W_lower 22 = .ok (.ireturn, 1) := dq_s (by decide +kernel)
theorem d_W_isBelow_0 : decode b_W_isBelow 0 = .ok (.aload_n 3, 1) := dq_s (by decide +kernel)
theorem d_W_isBelow_1 : decode b_W_isBelow 1 = .ok (.iconst 0, 1) := dq_s (by decide +kernel)
theorem d_W_isBelow_2 : decode b_W_isBelow 2 = .ok (.aload_n 0, 1) := dq_s (by decide +kernel)
theorem d_W_isBelow_3 : decode b_W_isBelow 3 = .ok (.iload_n 1, 1) := dq_s (by decide +kernel)
theorem d_W_isBelow_4 : decode b_W_isBelow 4 = .ok (.iload_n 2, 1) := dq_s (by decide +kernel)
theorem d_W_isBelow_5 : decode b_W_isBelow 5 = .ok (.invokevirtual 37, 3) := dq_s (by decide +kernel)
theorem d_W_isBelow_8 : decode b_W_isBelow 8 = .ok (.ifCond .eq 7, 3) := dq_s (by decide +kernel)
theorem d_W_isBelow_11 : decode b_W_isBelow 11 = .ok (.lconst 1, 1) := dq_s (by decide +kernel)
theorem d_W_isBelow_12 : decode b_W_isBelow 12 = .ok (.goto 4, 3) := dq_s (by decide +kernel)
theorem d_W_isBelow_15 : decode b_W_isBelow 15 = .ok (.lconst 0, 1) := dq_s (by decide +kernel)
theorem d_W_isBelow_16 : decode b_W_isBelow 16 = .ok (.lastore, 1) := dq_s (by decide +kernel)
theorem d_W_isBelow_17 : decode b_W_isBelow 17 = .ok (.goto 7, 3) := dq_s (by decide +kernel)
theorem d_W_isBelow_20 : decode b_W_isBelow 20 = .ok (.astore 4, 2) := dq_s (by decide +kernel)
theorem d_W_isBelow_22 : decode b_W_isBelow 22 = .ok (.iconst 1, 1) := dq_s (by decide +kernel)
theorem d_W_isBelow_23 : decode b_W_isBelow 23 = .ok (.ireturn, 1) := dq_s (by decide +kernel)
theorem d_W_isBelow_24 : decode b_W_isBelow 24 = .ok (.iconst 0, 1) := dq_s (by decide +kernel)
theorem d_W_isBelow_25 : decode b_W_isBelow 25 = .ok (.ireturn, 1) := dq_s (by decide +kernel)
theorem d_W_look_0 : decode b_W_look 0 = .ok (.aload_n 3, 1) := dq_s (by decide +kernel)
theorem d_W_look_1 : decode b_W_look 1 = .ok (.iconst 0, 1) := dq_s (by decide +kernel)
theorem d_W_look_2 : decode b_W_look 2 = .ok (.aload_n 0, 1) := dq_s (by decide +kernel)
theorem d_W_look_3 : decode b_W_look 3 = .ok (.iload_n 1, 1) := dq_s (by decide +kernel)
theorem d_W_look_4 : decode b_W_look 4 = .ok (.iload_n 2, 1) := dq_s (by decide +kernel)
theorem d_W_look_5 : decode b_W_look 5 = .ok (.invokevirtual 41, 3) := dq_s (by decide +kernel)
theorem d_W_look_8 : decode b_W_look 8 = .ok (.i2l, 1) := dq_s (by decide +kernel)
theorem d_W_look_9 : decode b_W_look 9 = .ok (.lastore, 1) := dq_s (by decide +kernel)
theorem d_W_look_10 : decode b_W_look 10 = .ok (.goto 11, 3) := dq_s (by decide +kernel)
theorem d_W_look_13 : decode b_W_look 13 = .ok (.astore 4, 2) := dq_s (by decide +kernel)
theorem d_W_look_15 : decode b_W_look 15 = .ok (.iconst 1, 1) := dq_s (by decide +kernel)
theorem d_W_look_16 : decode b_W_look 16 = .ok (.ireturn, 1) := dq_s (by decide +kernel)
theorem d_W_look_17 : decode b_W_look 17 = .ok (.astore 4, 2) := dq_s (by decide +kernel)
theorem d_W_look_19 : decode b_W_look 19 = .ok (.iconst 2, 1) := dq_s (by decide +kernel)
theorem d_W_look_20 : decode b_W_look 20 = .ok (.ireturn, 1) := dq_s (by decide +kernel)
theorem d_W_look_21 : decode b_W_look 21 = .ok (.iconst 0, 1) := dq_s (by decide +kernel)
theorem d_W_look_22 : decode b_W_look 22 = .ok (.ireturn, 1) := dq_s (by decide +kernel)
theorem d_W_box_0 : decode b_W_box 0 = .ok (.aload_n 2, 1) := dq_s (by decide +kernel)
theorem d_W_box_1 : decode b_W_box 1 = .ok (.iconst 0, 1) := dq_s (by decide +kernel)
theorem d_W_box_2 : decode b_W_box 2 = .ok (.aload_n 0, 1) := dq_s (by decide +kernel)
theorem d_W_box_3 : decode b_W_box 3 = .ok (.iload_n 1, 1) := dq_s (by decide +kernel)
theorem d_W_box_4 : decode b_W_box 4 = .ok (.invokevirtual 44, 3) := dq_s (by decide +kernel)
theorem d_W_box_7 : decode b_W_box 7 = .ok (.i2l, 1) := dq_s (by decide +kernel)
theorem d_W_box_8 : decode b_W_box 8 = .ok (.lastore, 1) := dq_s (by decide +kernel)
theorem d_W_box_9 : decode b_W_box 9 = .ok (.goto 9, 3) := dq_s (by decide +kernel)
theorem d_W_box_12 : decode b_W_box 12 = .ok (.astore_n 3, 1) := dq_s (by decide +kernel)
theorem d_W_box_13 : decode b_W_box 13 = .ok (.iconst 1, 1) := dq_s (by decide +kernel)
theorem d_W_box_14 : decode b_W_box 14 = .ok (.ireturn, 1) := dq_s (by decide +kernel)
theorem d_W_box_15 : decode b_W_box 15 = .ok (.astore_n 3, 1) := dq_s (by decide +kernel)
theorem d_W_box_16 : decode b_W_box 16 = .ok (.iconst 2, 1) := dq_s (by decide +kernel)
theorem d_W_box_17 : decode b_W_box 17 = .ok (.ireturn, 1) := dq_s (by decide +kernel)
theorem d_W_box_18 : decode b_W_box 18 = .ok (.iconst 0, 1) := dq_s (by decide +kernel)
theorem d_W_box_19 : decode b_W_box 19 = .ok (.ireturn, 1) := dq_s (by decide +kernel)
theorem d_W_type_0 : decode b_W_type 0 = .ok (.aload_n 3, 1) := dq_s (by decide +kernel)
theorem d_W_type_1 : decode b_W_type 1 = .ok (.iconst 0, 1) := dq_s (by decide +kernel)
theorem d_W_type_2 : decode b_W_type 2 = .ok (.aload_n 0, 1) := dq_s (by decide +kernel)
theorem d_W_type_3 : decode b_W_type 3 = .ok (.iload_n 1, 1) := dq_s (by decide +kernel)
theorem d_W_type_4 : decode b_W_type 4 = .ok (.iload_n 2, 1) := dq_s (by decide +kernel)
theorem d_W_type_5 : decode b_W_type 5 = .ok (.invokevirtual 47, 3) := dq_s (by decide +kernel)
theorem d_W_type_8 : decode b_W_type 8 = .ok (.i2l, 1) := dq_s (by decide +kernel)
theorem d_W_type_9 : decode b_W_type 9 = .ok (.lastore, 1) := dq_s (by decide +kernel)
theorem d_W_type_10 : decode b_W_type 10 = .ok (.goto 11, 3) := dq_s (by decide +kernel)
theorem d_W_type_13 : decode b_W_type 13 = .ok (.astore 4, 2) := dq_s (by decide +kernel)
theorem d_W_type_15 : decode b_W_type 15 = .ok (.iconst 1, 1) := dq_s (by decide +kernel)
theorem d_W_type_16 : decode b_W_type 16 = .ok (.ireturn, 1) := dq_s (by decide +kernel)
theorem d_W_type_17 : decode b_W_type 17 = .ok (.astore 4, 2) := dq_s (by decide +kernel)
theorem d_W_type_19 : decode b_W_type 19 = .ok (.iconst 2, 1) := dq_s (by decide +kernel)
theorem d_W_type_20 : decode b_W_type 20 = .ok (.ireturn, 1) := dq_s (by decide +kernel)
theorem d_W_type_21 : decode b_W_type 21 = .ok (.iconst 0, 1) := dq_s (by decide +kernel)
theorem d_W_type_22 : decode b_W_type 22 = .ok (.ireturn, 1) := dq_s (by decide +kernel)
theorem d_W_part_0 : decode b_W_part 0 = .ok (.aload_n 3, 1) := dq_s (by decide +kernel)
theorem d_W_part_1 : decode b_W_part 1 = .ok (.iconst 0, 1) := dq_s (by decide +kernel)
theorem d_W_part_2 : decode b_W_part 2 = .ok (.aload_n 0, 1) := dq_s (by decide +kernel)
theorem d_W_part_3 : decode b_W_part 3 = .ok (.iload_n 1, 1) := dq_s (by decide +kernel)
theorem d_W_part_4 : decode b_W_part 4 = .ok (.iload_n 2, 1) := dq_s (by decide +kernel)
theorem d_W_part_5 : decode b_W_part 5 = .ok (.invokevirtual 50, 3) := dq_s (by decide +kernel)
theorem d_W_part_8 : decode b_W_part 8 = .ok (.i2l, 1) := dq_s (by decide +kernel)
theorem d_W_part_9 : decode b_W_part 9 = .ok (.lastore, 1) := dq_s (by decide +kernel)
theorem d_W_part_10 : decode b_W_part 10 = .ok (.goto 7, 3) := dq_s (by decide +kernel)
theorem d_W_part_13 : decode b_W_part 13 = .ok (.astore 4, 2) := dq_s (by decide +kernel)
theorem d_W_part_15 : decode b_W_part 15 = .ok (.iconst 1, 1) := dq_s (by decide +kernel)
theorem d_W_part_16 : decode b_W_part 16 = .ok (.ireturn, 1) := dq_s (by decide +kernel)
theorem d_W_part_17 : decode b_W_part 17 = .ok (.iconst 0, 1) := dq_s (by decide +kernel)
theorem d_W_part_18 : decode b_W_part 18 = .ok (.ireturn, 1) := dq_s (by decide +kernel)
theorem d_W_common_0 : decode b_W_common 0 = .ok (.aload 4, 2) := dq_s (by decide +kernel)
theorem d_W_common_2 : decode b_W_common 2 = .ok (.iconst 0, 1) := dq_s (by decide +kernel)
theorem d_W_common_3 : decode b_W_common 3 = .ok (.aload_n 0, 1) := dq_s (by decide +kernel)
theorem d_W_common_4 : decode b_W_common 4 = .ok (.iload_n 1, 1) := dq_s (by decide +kernel)
theorem d_W_common_5 : decode b_W_common 5 = .ok (.iload_n 2, 1) := dq_s (by decide +kernel)
theorem d_W_common_6 : decode b_W_common 6 = .ok (.iload_n 3, 1) := dq_s (by decide +kernel)
theorem d_W_common_7 : decode b_W_common 7 = .ok (.invokevirtual 53, 3) := dq_s (by decide +kernel)
theorem d_W_common_10 : decode b_W_common 10 = .ok (.i2l, 1) := dq_s (by decide +kernel)
theorem d_W_common_11 : decode b_W_common 11 = .ok (.lastore, 1) := dq_s (by decide +kernel)
theorem d_W_common_12 : decode b_W_common 12 = .ok (.goto 11, 3) := dq_s (by decide +kernel)
theorem d_W_common_15 : decode b_W_common 15 = .ok (.astore 5, 2) := dq_s (by decide +kernel)
theorem d_W_common_17 : decode b_W_common 17 = .ok (.iconst 1, 1) := dq_s (by decide +kernel)
theorem d_W_common_18 : decode b_W_common 18 = .ok (.ireturn, 1) := dq_s (by decide +kernel)
theorem d_W_common_19 : decode b_W_common 19 = .ok (.astore 5, 2) := dq_s (by decide +kernel)
theorem d_W_common_21 : decode b_W_common 21 = .ok (.iconst 2, 1) := dq_s (by decide +kernel)
theorem d_W_common_22 : decode b_W_common 22 = .ok (.ireturn, 1) := dq_s (by decide +kernel)
theorem d_W_common_23 : decode b_W_common 23 = .ok (.iconst 0, 1) := dq_s (by decide +kernel)
theorem d_W_common_24 : decode b_W_common 24 = .ok (.ireturn, 1) := dq_s (by decide +kernel)
theorem d_W_isUnder_0 : decode b_W_isUnder 0 = .ok (.aload_n 3, 1) := dq_s (by decide +kernel)
theorem d_W_isUnder_1 : decode b_W_isUnder 1 = .ok (.iconst 0, 1) := dq_s (by decide +kernel)
theorem d_W_isUnder_2 : decode b_W_isUnder 2 = .ok (.aload_n 0, 1) := dq_s (by decide +kernel)
theorem d_W_isUnder_3 : decode b_W_isUnder 3 = .ok (.iload_n 1, 1) := dq_s (by decide +kernel)
theorem d_W_isUnder_4 : decode b_W_isUnder 4 = .ok (.iload_n 2, 1) := dq_s (by decide +kernel)
theorem d_W_isUnder_5 : decode b_W_isUnder 5 = .ok (.invokevirtual 56, 3) := dq_s (by decide +kernel)
theorem d_W_isUnder_8 : decode b_W_isUnder 8 = .ok (.ifCond .eq 7, 3) := dq_s (by decide +kernel)
theorem d_W_isUnder_11 : decode b_W_isUnder 11 = .ok (.lconst 1, 1) := dq_s (by decide +kernel)
theorem d_W_isUnder_12 : decode b_W_isUnder 12 = .ok (.goto 4, 3) := dq_s (by decide +kernel)
theorem d_W_isUnder_15 : decode b_W_isUnder 15 = .ok (.lconst 0, 1) := dq_s (by decide +kernel)
theorem d_W_isUnder_16 : decode b_W_isUnder 16 = .ok (.lastore, 1) := dq_s (by decide +kernel)
theorem d_W_isUnder_17 : decode b_W_isUnder 17 = .ok (.goto 7, 3) := dq_s (by decide +kernel)
theorem d_W_isUnder_20 : decode b_W_isUnder 20 = .ok (.astore 4, 2) := dq_s (by decide +kernel)
theorem d_W_isUnder_22 : decode b_W_isUnder 22 = .ok (.iconst 1, 1) := dq_s (by decide +kernel)
theorem d_W_isUnder_23 : decode b_W_isUnder 23 = .ok (.ireturn, 1) := dq_s (by decide +kernel)
theorem d_W_isUnder_24 : decode b_W_isUnder 24 = .ok (.iconst 0, 1) := dq_s (by decide +kernel)
theorem d_W_isUnder_25 : decode b_W_isUnder 25 = .ok (.ireturn, 1) := dq_s (by decide +kernel)
theorem d_W_classed_0 : decode b_W_classed 0 = .ok (.aload_n 3, 1) := dq_s (by decide +kernel)
theorem d_W_classed_1 : decode b_W_classed 1 = .ok (.iconst 0, 1) := dq_s (by decide +kernel)
theorem d_W_classed_2 : decode b_W_classed 2 = .ok (.aload_n 0, 1) := dq_s (by decide +kernel)
theorem d_W_classed_3 : decode b_W_classed 3 = .ok (.iload_n 1, 1) := dq_s (by decide +kernel)
theorem d_W_classed_4 : decode b_W_classed 4 = .ok (.iload_n 2, 1) := dq_s (by decide +kernel)
theorem d_W_classed_5 : decode b_W_classed 5 = .ok (.invokevirtual 59, 3) := dq_s (by decide +kernel)
theorem d_W_classed_8 : decode b_W_classed 8 = .ok (.i2l, 1) := dq_s (by decide +kernel)
theorem d_W_classed_9 : decode b_W_classed 9 = .ok (.lastore, 1) := dq_s (by decide +kernel)
theorem d_W_classed_10 : decode b_W_classed 10 = .ok (.goto 11, 3) := dq_s (by decide +kernel)
theorem d_W_classed_13 : decode b_W_classed 13 = .ok (.astore 4, 2) := dq_s (by decide +kernel)
theorem d_W_classed_15 : decode b_W_classed 15 = .ok (.iconst 1, 1) := dq_s (by decide +kernel)
theorem d_W_classed_16 : decode b_W_classed 16 = .ok (.ireturn, 1) := dq_s (by decide +kernel)
theorem d_W_classed_17 : decode b_W_classed 17 = .ok (.astore 4, 2) := dq_s (by decide +kernel)
theorem d_W_classed_19 : decode b_W_classed 19 = .ok (.iconst 2, 1) := dq_s (by decide +kernel)
theorem d_W_classed_20 : decode b_W_classed 20 = .ok (.ireturn, 1) := dq_s (by decide +kernel)
theorem d_W_classed_21 : decode b_W_classed 21 = .ok (.iconst 0, 1) := dq_s (by decide +kernel)
theorem d_W_classed_22 : decode b_W_classed 22 = .ok (.ireturn, 1) := dq_s (by decide +kernel)
theorem d_W_direct_0 : decode b_W_direct 0 = .ok (.aload 4, 2) := dq_s (by decide +kernel)
theorem d_W_direct_2 : decode b_W_direct 2 = .ok (.iconst 0, 1) := dq_s (by decide +kernel)
theorem d_W_direct_3 : decode b_W_direct 3 = .ok (.aload_n 0, 1) := dq_s (by decide +kernel)
theorem d_W_direct_4 : decode b_W_direct 4 = .ok (.iload_n 1, 1) := dq_s (by decide +kernel)
theorem d_W_direct_5 : decode b_W_direct 5 = .ok (.iload_n 2, 1) := dq_s (by decide +kernel)
theorem d_W_direct_6 : decode b_W_direct 6 = .ok (.iload_n 3, 1) := dq_s (by decide +kernel)
theorem d_W_direct_7 : decode b_W_direct 7 = .ok (.invokevirtual 62, 3) := dq_s (by decide +kernel)
theorem d_W_direct_10 : decode b_W_direct 10 = .ok (.i2l, 1) := dq_s (by decide +kernel)
theorem d_W_direct_11 : decode b_W_direct 11 = .ok (.lastore, 1) := dq_s (by decide +kernel)
theorem d_W_direct_12 : decode b_W_direct 12 = .ok (.goto 11, 3) := dq_s (by decide +kernel)
theorem d_W_direct_15 : decode b_W_direct 15 = .ok (.astore 5, 2) := dq_s (by decide +kernel)
theorem d_W_direct_17 : decode b_W_direct 17 = .ok (.iconst 1, 1) := dq_s (by decide +kernel)
theorem d_W_direct_18 : decode b_W_direct 18 = .ok (.ireturn, 1) := dq_s (by decide +kernel)
theorem d_W_direct_19 : decode b_W_direct 19 = .ok (.astore 5, 2) := dq_s (by decide +kernel)
theorem d_W_direct_21 : decode b_W_direct 21 = .ok (.iconst 2, 1) := dq_s (by decide +kernel)
theorem d_W_direct_22 : decode b_W_direct 22 = .ok (.ireturn, 1) := dq_s (by decide +kernel)
theorem d_W_direct_23 : decode b_W_direct 23 = .ok (.iconst 0, 1) := dq_s (by decide +kernel)
theorem d_W_direct_24 : decode b_W_direct 24 = .ok (.ireturn, 1) := dq_s (by decide +kernel)
theorem d_W_told_0 : decode b_W_told 0 = .ok (.aload_n 2, 1) := dq_s (by decide +kernel)
theorem d_W_told_1 : decode b_W_told 1 = .ok (.iconst 0, 1) := dq_s (by decide +kernel)
theorem d_W_told_2 : decode b_W_told 2 = .ok (.aload_n 0, 1) := dq_s (by decide +kernel)
theorem d_W_told_3 : decode b_W_told 3 = .ok (.iload_n 1, 1) := dq_s (by decide +kernel)
theorem d_W_told_4 : decode b_W_told 4 = .ok (.invokevirtual 65, 3) := dq_s (by decide +kernel)
theorem d_W_told_7 : decode b_W_told 7 = .ok (.i2l, 1) := dq_s (by decide +kernel)
theorem d_W_told_8 : decode b_W_told 8 = .ok (.lastore, 1) := dq_s (by decide +kernel)
theorem d_W_told_9 : decode b_W_told 9 = .ok (.goto 6, 3) := dq_s (by decide +kernel)
theorem d_W_told_12 : decode b_W_told 12 = .ok (.astore_n 3, 1) := dq_s (by decide +kernel)
theorem d_W_told_13 : decode b_W_told 13 = .ok (.iconst 1, 1) := dq_s (by decide +kernel)
theorem d_W_told_14 : decode b_W_told 14 = .ok (.ireturn, 1) := dq_s (by decide +kernel)
theorem d_W_told_15 : decode b_W_told 15 = .ok (.iconst 0, 1) := dq_s (by decide +kernel)
theorem d_W_told_16 : decode b_W_told 16 = .ok (.ireturn, 1) := dq_s (by decide +kernel)
-- part 07.81law.lean.txt
/-! Own rows: the law's own methods. -/
abbrev StO : Type := StL × (Nat → Int64)
def wO (cI cZ cJ : ClassId) (a : Nat → Nat) (b : Nat) (q : Nat) (u : StO) : va_W := wL cI cZ a q u.1 ++ [(b, .inl (cJ, 1, .inr (.inl u.2)))]
def ncL : List (String × String) := [(exN 1, exN 2), (exN 1, exN 3), (exN 2, exN 1), (exN 2, exN 3), (exN 3, exN 1), (exN 3, exN 2)]
abbrev KO (D : va_G) (cI cZ cJ : ClassId) (U : State) : Prop := KN D [(cI, .int), (cZ, .boolean)] U ∧ va_K D vwCl [(cJ, .long)] U ∧ ∀ q ∈ ncL, va_Nc q.1 q.2 U
abbrev HpM (l : Launch) (y : MethodName) (cc : ByteArray) (nL : Nat) (hh : List (Nat × Nat × Nat × Nat)) (fr lc : Nat) (D : va_G) (cI cZ cJ : ClassId) (av : List Value) (a : Nat → Nat) (b q : Nat) (u : StO) (res : Int32 × StO × Nat × Nat) : Prop :=
  ∀ sz, Met l y (Cond.codeWith y cc nL (some .int) hh :: tb) (rmK fr lc res.2.2.1 res.2.2.2) (va_Pc av (fun U => U.heap.size = sz ∧ va_P D vwCl (wO cI cZ cJ a b q u) U.heap ∧ KO D cI cZ cJ U ∧ va_D (fun _ => True) (wO cI cZ cJ a b q u) ∧ Zs (va_A (wO cI cZ cJ a b q u) sz) U U.heap))
    (va_Qi (fun r u' => r = res.1 ∧ u' = res.2.1) (fun u' t => ∃ q', va_P D vwCl (wO cI cZ cJ a b q' u') t.heap ∧ va_D (va_A (wO cI cZ cJ a b q u) sz) (wO cI cZ cJ a b q' u')) (va_A (wO cI cZ cJ a b q u) sz)) res.2.2.1 res.2.2.2 (va_A (wO cI cZ cJ a b q u) sz)
theorem jo_C {cI cZ cJ : ClassId} {a : Nat → Nat} {b q : Nat} {u : StO} : [0, 1, 2, 3, 4, 5, 6, 7, 8, 9, 10, 11, 12, 13, 14, 15, 16, 17, 18, 19, 20].map (fun (i : Nat) => (wO cI cZ cJ a b q u)[i]?) = (wL cI cZ a q u.1).map some := rfl
theorem jo_R {cI cZ cJ : ClassId} {a : Nat → Nat} {b q : Nat} {u : StO} : [21].map (fun (i : Nat) => (wO cI cZ cJ a b q u)[i]?) = ([21].filterMap (fun (i : Nat) => (wO cI cZ cJ a b q u)[i]?)).map some := rfl
theorem jo_W {cI cZ cJ : ClassId} {a : Nat → Nat} {b q : Nat} {u : StO} {v : StL} (q1 : Nat) : [1, 2, 3, 4, 5, 6, 7, 8, 9, 10, 11, 12, 13, 14, 15, 16, 17, 18, 19, 20, 21, 0].map (fun (i : Nat) => ([21].filterMap (fun (i : Nat) => (wO cI cZ cJ a b q u)[i]?) ++ wL cI cZ a q1 v)[i]?) = (wO cI cZ cJ a b q1 (v, u.2)).map some := rfl
theorem jo_S {cI cZ cJ : ClassId} {a : Nat → Nat} {b q : Nat} {u : StO} {x : Int64} : (wO cI cZ cJ a b q u).set 21 (b, .inl (cJ, 1, .inr (.inl (vp_updL u.2 (0 : Int32).toNatClampNeg x)))) = wO cI cZ cJ a b q (u.1, vp_updL u.2 0 x) := rfl
theorem in01 : vp_in 0 1 := by
  unfold vp_in
  decide
-- part 07.82W00.lean.txt
def f_W_declare (u : StO) (x1 x2 : Int32) : Option (Int32 × StO × Nat × Nat) :=
  (f_L_declare u.1 x1 x2).bind fun r => match r.1 with
  | .inl v => some (0, (r.2.1, vp_updL u.2 0 v.toInt64), r.2.2.1, r.2.2.2)
  | .inr k => if k = 2 then some (1, (r.2.1, u.2), r.2.2.1, r.2.2.2) else none
set_option maxHeartbeats 4000000 in
set_option maxRecDepth 100000 in
theorem c_W_declare (l : Launch) (D : va_G) (cI cZ cJ : ClassId) (a : Nat → Nat) (hl0 : l.stackTraces = false) (b q : Nat) (u : StO) (x1 x2 : Int32) {res : Int32 × StO × Nat × Nat} (h : f_W_declare u x1 x2 = some res) : HpM l y_W_declare b_W_declare 5 [(0, 10, 13, 13)] 9 142 D cI cZ cJ [.ref (a 0), .int x1, .int x2, .ref b] a b q u res := by
  intro sz
  refine va_MetW (hh := [(0, 10, 13, 13)]) (cc := b_W_declare) (maxL := 5) (ret := some .int) (by decide) rfl ?_
  intro p e s m args below meth c s₁ B hml hv
  obtain ⟨rfl, hsz, hP, hK3, hD0, hZ⟩ := hv
  subst hsz
  have hts0 := atoms_spec (ws := Cond.codeWith y_W_declare b_W_declare 5 (some .int) [(0, 10, 13, 13)] :: tb) B.pre
  have hTb := vx_table (x := y_W_declare) B (hts0 _ List.mem_cons_self)
  have hl := lv_entry [.ref (a 0), .int x1, .int x2, .ref b] (n := 5) (Nat.le_of_ble_eq_true rfl)
  rw [lg_entry_eq]
  generalize (lg_sl [.ref (a 0), .int x1, .int x2, .ref b] ++ List.replicate (5 - (lg_sl [.ref (a 0), .int x1, .int x2, .ref b]).length) Slot.unset).toArray = ls at hl ⊢
  have hl : lv_has ls 5 [(0, .ref (a 0)), (1, .int x1), (2, .int x2), (3, .ref b)] := hl
  have C0 : Am p s m ([.ref (a 0), .int x1, .int x2, .ref b] : List Value).toArray meth c b_W_declare (some .int) 5 R_W D [(cI, .int), (cZ, .boolean)] := ⟨B.exec, B.bytes, B.returns, hml, findClass_of_methodNamed B.named, fun w h => hts0 w (List.mem_cons_of_mem _ h), B.notSynchronized, hK3.1⟩
  obtain ⟨hx, hb, hr, hml, hown, hts, hlk, hK⟩ := id C0
  have hD := hD0.self (sz := s.heap.size)
  generalize hAe : va_A (wO cI cZ cJ a b q u) s.heap.size = A at hD hZ ⊢
  have hA : ∀ q, s.heap.size ≤ q → A q := fun q h => by rw [← hAe]; exact Or.inr h
  have hS : va_S A s.heap s.heap [] := va_S.rf
  unfold f_W_declare at h
  replace h := bd h
  obtain ⟨r, g, h⟩ := h
  try dsimp only at h
  have hcnt : res.2.2.1 = r.2.2.1 ∧ res.2.2.2 = r.2.2.2 := by
    rcases hv : r.1 with v | k
    · rw [hv] at h; cases h; exact ⟨rfl, rfl⟩
    · rw [hv] at h; try dsimp only at h
      by_cases z0 : k = 2
      · rw [if_pos z0] at h; cases h; exact ⟨rfl, rfl⟩
      · rw [if_neg z0] at h
        cases h
  refine lv_aload_n hx hb d_W_declare_0 rfl (lv_at hl 3 rfl) ?_
  refine lv_iconst (v := 0) hx hb d_W_declare_1 (by decide) ?_
  refine lv_aload_n hx hb d_W_declare_2 rfl (lv_at hl 0 rfl) ?_
  refine lv_iload_n hx hb d_W_declare_3 rfl (lv_at hl 1 rfl) ?_
  refine lv_iload_n hx hb d_W_declare_4 rfl (lv_at hl 2 rfl) ?_
  refine tx_V (n := 2) (ci := 0) (As := [.int x1, .int x2]) (rest := [.int 0, .ref b]) (Wn := fun q => wO cI cZ cJ a b q (r.2.1, u.2)) C0 hA hZ (c_L_declare l D cI cZ a hl0 q u.1 x1 x2 g) wd_513 ⟨wd_514, wd_515, wd_516, wd_55⟩ (by decide +kernel) ⟨Nat.le_of_ble_eq_true rfl, Nat.le_of_ble_eq_true rfl⟩ hP hD hS [0, 1, 2, 3, 4, 5, 6, 7, 8, 9, 10, 11, 12, 13, 14, 15, 16, 17, 18, 19, 20] [21] [1, 2, 3, 4, 5, 6, 7, 8, 9, 10, 11, 12, 13, 14, 15, 16, 17, 18, 19, 20, 21, 0] jo_C (by decide) jo_R (by decide) (by decide) (by decide) jo_W rfl rfl rfl hl rfl rfl (Nat.le_of_ble_eq_true rfl) ⟨by show 0 + r.2.2.1 ≤ _; exact Nat.le_of_eq (by rw [Nat.zero_add]; exact hcnt.1.symm), by show 0 + r.2.2.2 ≤ _; exact Nat.le_of_eq (by rw [Nat.zero_add]; exact hcnt.2.symm)⟩ d_W_declare_5 (fun k H locs q q9 ce hv hP hD hS h1 h2 h3 => ?_) (fun v H locs q hv hP hD hS => ?_)
  · rw [hv] at h
    try dsimp only at h
    by_cases e0 : k = 2
    · subst e0
      rw [if_pos rfl] at h
      cases h
      refine vx_catch (own := R_W) (name := exN 2) hown [] ⟨0, 10, 13, 13⟩ [] (by rw [hTb]; rfl) (fun z hz => nomatch hz) (by decide) (by decide) (hts _ wd_517) (hK.word (List.mem_of_getElem? (i := 5) rfl)) h1 h2 h3 ?_
      refine lv_astore (lv' := [(4, .ref q9), (0, .ref (a 0)), (1, .int x1), (2, .int x2), (3, .ref b)]) hx hb d_W_declare_13 hl (by decide) rfl (fun ls hl => ?_)
      refine lv_iconst (v := 1) hx hb d_W_declare_15 (by decide) ?_
      refine W.widen (k := r.2.2.1) (n := r.2.2.2) (by omega) (by omega) ?_
      exact W.iret (v := 1) hx hb hr (fun t ht _ => ⟨⟨1, _, rfl, ⟨rfl, rfl⟩, q, by rw [ht]; exact hP, hD⟩, hS.F ht⟩) hS.2.2 d_W_declare_16 hlk
    · rw [if_neg e0] at h
      cases h
  · rw [hv] at h
    try dsimp only at h
    cases h
    refine lv_i2l hx hb d_W_declare_8 rfl ?_
    refine va_last hx hb hK3.2.1 hP hD hS 21 0 rfl rfl in01 d_W_declare_9 (fun H locs hP hD hS => ?_)
    refine lv_goto (tgt := 17) hx hb d_W_declare_10 (by decide) ?_
    refine lv_iconst (v := 0) hx hb d_W_declare_17 (by decide) ?_
    refine W.widen (k := r.2.2.1) (n := r.2.2.2) (by omega) (by omega) ?_
    exact W.iret (v := 0) hx hb hr (fun t ht _ => ⟨⟨0, _, rfl, ⟨rfl, rfl⟩, q, by rw [ht]; exact hP, hD⟩, hS.F ht⟩) hS.2.2 d_W_declare_18 hlk
-- part 07.82W01.lean.txt
def f_W_above (u : StO) (x1 x2 : Int32) : Option (Int32 × StO × Nat × Nat) :=
  (f_L_above u.1 x1 x2).bind fun r => match r.1 with
  | .inl v => some (0, (r.2.1, vp_updL u.2 0 v.toInt64), r.2.2.1, r.2.2.2)
  | .inr k => if k = 1 then some (1, (r.2.1, u.2), r.2.2.1, r.2.2.2) else if k = 2 then some (2, (r.2.1, u.2), r.2.2.1, r.2.2.2) else if k = 3 then some (3, (r.2.1, u.2), r.2.2.1, r.2.2.2) else none
set_option maxHeartbeats 4000000 in
set_option maxRecDepth 100000 in
theorem c_W_above (l : Launch) (D : va_G) (cI cZ cJ : ClassId) (a : Nat → Nat) (hl0 : l.stackTraces = false) (b q : Nat) (u : StO) (x1 x2 : Int32) {res : Int32 × StO × Nat × Nat} (h : f_W_above u x1 x2 = some res) : HpM l y_W_above b_W_above 5 [(0, 10, 13, 19), (0, 10, 17, 13), (0, 10, 21, 21)] 10 163 D cI cZ cJ [.ref (a 0), .int x1, .int x2, .ref b] a b q u res := by
  intro sz
  refine va_MetW (hh := [(0, 10, 13, 19), (0, 10, 17, 13), (0, 10, 21, 21)]) (cc := b_W_above) (maxL := 5) (ret := some .int) (by decide) rfl ?_
  intro p e s m args below meth c s₁ B hml hv
  obtain ⟨rfl, hsz, hP, hK3, hD0, hZ⟩ := hv
  subst hsz
  have hts0 := atoms_spec (ws := Cond.codeWith y_W_above b_W_above 5 (some .int) [(0, 10, 13, 19), (0, 10, 17, 13), (0, 10, 21, 21)] :: tb) B.pre
  have hTb := vx_table (x := y_W_above) B (hts0 _ List.mem_cons_self)
  have hl := lv_entry [.ref (a 0), .int x1, .int x2, .ref b] (n := 5) (Nat.le_of_ble_eq_true rfl)
  rw [lg_entry_eq]
  generalize (lg_sl [.ref (a 0), .int x1, .int x2, .ref b] ++ List.replicate (5 - (lg_sl [.ref (a 0), .int x1, .int x2, .ref b]).length) Slot.unset).toArray = ls at hl ⊢
  have hl : lv_has ls 5 [(0, .ref (a 0)), (1, .int x1), (2, .int x2), (3, .ref b)] := hl
  have C0 : Am p s m ([.ref (a 0), .int x1, .int x2, .ref b] : List Value).toArray meth c b_W_above (some .int) 5 R_W D [(cI, .int), (cZ, .boolean)] := ⟨B.exec, B.bytes, B.returns, hml, findClass_of_methodNamed B.named, fun w h => hts0 w (List.mem_cons_of_mem _ h), B.notSynchronized, hK3.1⟩
  obtain ⟨hx, hb, hr, hml, hown, hts, hlk, hK⟩ := id C0
  have hD := hD0.self (sz := s.heap.size)
  generalize hAe : va_A (wO cI cZ cJ a b q u) s.heap.size = A at hD hZ ⊢
  have hA : ∀ q, s.heap.size ≤ q → A q := fun q h => by rw [← hAe]; exact Or.inr h
  have hS : va_S A s.heap s.heap [] := va_S.rf
  unfold f_W_above at h
  replace h := bd h
  obtain ⟨r, g, h⟩ := h
  try dsimp only at h
  have hcnt : res.2.2.1 = r.2.2.1 ∧ res.2.2.2 = r.2.2.2 := by
    rcases hv : r.1 with v | k
    · rw [hv] at h; cases h; exact ⟨rfl, rfl⟩
    · rw [hv] at h; try dsimp only at h
      by_cases z0 : k = 1
      · rw [if_pos z0] at h; cases h; exact ⟨rfl, rfl⟩
      · rw [if_neg z0] at h
        by_cases z1 : k = 2
        · rw [if_pos z1] at h; cases h; exact ⟨rfl, rfl⟩
        · rw [if_neg z1] at h
          by_cases z2 : k = 3
          · rw [if_pos z2] at h; cases h; exact ⟨rfl, rfl⟩
          · rw [if_neg z2] at h
            cases h
  refine lv_aload_n hx hb d_W_above_0 rfl (lv_at hl 3 rfl) ?_
  refine lv_iconst (v := 0) hx hb d_W_above_1 (by decide) ?_
  refine lv_aload_n hx hb d_W_above_2 rfl (lv_at hl 0 rfl) ?_
  refine lv_iload_n hx hb d_W_above_3 rfl (lv_at hl 1 rfl) ?_
  refine lv_iload_n hx hb d_W_above_4 rfl (lv_at hl 2 rfl) ?_
  refine tx_V (n := 2) (ci := 0) (As := [.int x1, .int x2]) (rest := [.int 0, .ref b]) (Wn := fun q => wO cI cZ cJ a b q (r.2.1, u.2)) C0 hA hZ (c_L_above l D cI cZ a hl0 q u.1 x1 x2 g) wd_518 ⟨wd_519, wd_520, wd_521, wd_55⟩ (by decide +kernel) ⟨Nat.le_of_ble_eq_true rfl, Nat.le_of_ble_eq_true rfl⟩ hP hD hS [0, 1, 2, 3, 4, 5, 6, 7, 8, 9, 10, 11, 12, 13, 14, 15, 16, 17, 18, 19, 20] [21] [1, 2, 3, 4, 5, 6, 7, 8, 9, 10, 11, 12, 13, 14, 15, 16, 17, 18, 19, 20, 21, 0] jo_C (by decide) jo_R (by decide) (by decide) (by decide) jo_W rfl rfl rfl hl rfl rfl (Nat.le_of_ble_eq_true rfl) ⟨by show 0 + r.2.2.1 ≤ _; exact Nat.le_of_eq (by rw [Nat.zero_add]; exact hcnt.1.symm), by show 0 + r.2.2.2 ≤ _; exact Nat.le_of_eq (by rw [Nat.zero_add]; exact hcnt.2.symm)⟩ d_W_above_5 (fun k H locs q q9 ce hv hP hD hS h1 h2 h3 => ?_) (fun v H locs q hv hP hD hS => ?_)
  · rw [hv] at h
    try dsimp only at h
    by_cases e0 : k = 1
    · subst e0
      rw [if_pos rfl] at h
      cases h
      refine vx_catch (own := R_W) (name := exN 1) hown [] ⟨0, 10, 13, 19⟩ [⟨0, 10, 17, 13⟩, ⟨0, 10, 21, 21⟩] (by rw [hTb]; rfl) (fun z hz => nomatch hz) (by decide) (by decide) (hts _ wd_522) (hK.word (List.mem_of_getElem? (i := 12) rfl)) h1 h2 h3 ?_
      refine lv_astore (lv' := [(4, .ref q9), (0, .ref (a 0)), (1, .int x1), (2, .int x2), (3, .ref b)]) hx hb d_W_above_13 hl (by decide) rfl (fun ls hl => ?_)
      refine lv_iconst (v := 1) hx hb d_W_above_15 (by decide) ?_
      refine W.widen (k := r.2.2.1) (n := r.2.2.2) (by omega) (by omega) ?_
      exact W.iret (v := 1) hx hb hr (fun t ht _ => ⟨⟨1, _, rfl, ⟨rfl, rfl⟩, q, by rw [ht]; exact hP, hD⟩, hS.F ht⟩) hS.2.2 d_W_above_16 hlk
    · rw [if_neg e0] at h
      by_cases e1 : k = 2
      · subst e1
        rw [if_pos rfl] at h
        cases h
        refine vx_catch (own := R_W) (name := exN 2) hown [⟨0, 10, 13, 19⟩] ⟨0, 10, 17, 13⟩ [⟨0, 10, 21, 21⟩] (by rw [hTb]; rfl) (fun z hz => by rw [List.mem_singleton] at hz; subst hz; exact Or.inr ⟨by decide, exN 1, hts _ wd_522, hK3.2.2 _ (List.mem_of_getElem? (i := 2) rfl)⟩) (by decide) (by decide) (hts _ wd_517) (hK.word (List.mem_of_getElem? (i := 5) rfl)) h1 h2 h3 ?_
        refine lv_astore (lv' := [(4, .ref q9), (0, .ref (a 0)), (1, .int x1), (2, .int x2), (3, .ref b)]) hx hb d_W_above_17 hl (by decide) rfl (fun ls hl => ?_)
        refine lv_iconst (v := 2) hx hb d_W_above_19 (by decide) ?_
        refine W.widen (k := r.2.2.1) (n := r.2.2.2) (by omega) (by omega) ?_
        exact W.iret (v := 2) hx hb hr (fun t ht _ => ⟨⟨2, _, rfl, ⟨rfl, rfl⟩, q, by rw [ht]; exact hP, hD⟩, hS.F ht⟩) hS.2.2 d_W_above_20 hlk
      · rw [if_neg e1] at h
        by_cases e2 : k = 3
        · subst e2
          rw [if_pos rfl] at h
          cases h
          refine vx_catch (own := R_W) (name := exN 3) hown [⟨0, 10, 13, 19⟩, ⟨0, 10, 17, 13⟩] ⟨0, 10, 21, 21⟩ [] (by rw [hTb]; rfl) (fun z hz => by
              simp only [List.mem_cons, List.not_mem_nil, or_false] at hz
              rcases hz with rfl | rfl
              · exact Or.inr ⟨by decide, exN 1, hts _ wd_522, hK3.2.2 _ (List.mem_of_getElem? (i := 4) rfl)⟩
              · exact Or.inr ⟨by decide, exN 2, hts _ wd_517, hK3.2.2 _ (List.mem_of_getElem? (i := 5) rfl)⟩) (by decide) (by decide) (hts _ wd_523) (hK.word (List.mem_of_getElem? (i := 13) rfl)) h1 h2 h3 ?_
          refine lv_astore (lv' := [(4, .ref q9), (0, .ref (a 0)), (1, .int x1), (2, .int x2), (3, .ref b)]) hx hb d_W_above_21 hl (by decide) rfl (fun ls hl => ?_)
          refine lv_iconst (v := 3) hx hb d_W_above_23 (by decide) ?_
          refine W.widen (k := r.2.2.1) (n := r.2.2.2) (by omega) (by omega) ?_
          exact W.iret (v := 3) hx hb hr (fun t ht _ => ⟨⟨3, _, rfl, ⟨rfl, rfl⟩, q, by rw [ht]; exact hP, hD⟩, hS.F ht⟩) hS.2.2 d_W_above_24 hlk
        · rw [if_neg e2] at h
          cases h
  · rw [hv] at h
    try dsimp only at h
    cases h
    refine lv_i2l hx hb d_W_above_8 rfl ?_
    refine va_last hx hb hK3.2.1 hP hD hS 21 0 rfl rfl in01 d_W_above_9 (fun H locs hP hD hS => ?_)
    refine lv_goto (tgt := 25) hx hb d_W_above_10 (by decide) ?_
    refine lv_iconst (v := 0) hx hb d_W_above_25 (by decide) ?_
    refine W.widen (k := r.2.2.1) (n := r.2.2.2) (by omega) (by omega) ?_
    exact W.iret (v := 0) hx hb hr (fun t ht _ => ⟨⟨0, _, rfl, ⟨rfl, rfl⟩, q, by rw [ht]; exact hP, hD⟩, hS.F ht⟩) hS.2.2 d_W_above_26 hlk
-- part 07.82W02.lean.txt
def f_W_named (u : StO) (x1 x2 x3 : Int32) : Option (Int32 × StO × Nat × Nat) :=
  (f_L_named u.1 x1 x2 x3).bind fun r => match r.1 with
  | .inl v => some (0, (r.2.1, vp_updL u.2 0 v.toInt64), r.2.2.1, r.2.2.2)
  | .inr k => if k = 1 then some (1, (r.2.1, u.2), r.2.2.1, r.2.2.2) else if k = 3 then some (2, (r.2.1, u.2), r.2.2.1, r.2.2.2) else if k = 2 then some (3, (r.2.1, u.2), r.2.2.1, r.2.2.2) else none
set_option maxHeartbeats 4000000 in
set_option maxRecDepth 100000 in
theorem c_W_named (l : Launch) (D : va_G) (cI cZ cJ : ClassId) (a : Nat → Nat) (hl0 : l.stackTraces = false) (b q : Nat) (u : StO) (x1 x2 x3 : Int32) {res : Int32 × StO × Nat × Nat} (h : f_W_named u x1 x2 x3 = some res) : HpM l y_W_named b_W_named 6 [(0, 12, 15, 19), (0, 12, 19, 21), (0, 12, 23, 13)] 10 165 D cI cZ cJ [.ref (a 0), .int x1, .int x2, .int x3, .ref b] a b q u res := by
  intro sz
  refine va_MetW (hh := [(0, 12, 15, 19), (0, 12, 19, 21), (0, 12, 23, 13)]) (cc := b_W_named) (maxL := 6) (ret := some .int) (by decide) rfl ?_
  intro p e s m args below meth c s₁ B hml hv
  obtain ⟨rfl, hsz, hP, hK3, hD0, hZ⟩ := hv
  subst hsz
  have hts0 := atoms_spec (ws := Cond.codeWith y_W_named b_W_named 6 (some .int) [(0, 12, 15, 19), (0, 12, 19, 21), (0, 12, 23, 13)] :: tb) B.pre
  have hTb := vx_table (x := y_W_named) B (hts0 _ List.mem_cons_self)
  have hl := lv_entry [.ref (a 0), .int x1, .int x2, .int x3, .ref b] (n := 6) (Nat.le_of_ble_eq_true rfl)
  rw [lg_entry_eq]
  generalize (lg_sl [.ref (a 0), .int x1, .int x2, .int x3, .ref b] ++ List.replicate (6 - (lg_sl [.ref (a 0), .int x1, .int x2, .int x3, .ref b]).length) Slot.unset).toArray = ls at hl ⊢
  have hl : lv_has ls 6 [(0, .ref (a 0)), (1, .int x1), (2, .int x2), (3, .int x3), (4, .ref b)] := hl
  have C0 : Am p s m ([.ref (a 0), .int x1, .int x2, .int x3, .ref b] : List Value).toArray meth c b_W_named (some .int) 6 R_W D [(cI, .int), (cZ, .boolean)] := ⟨B.exec, B.bytes, B.returns, hml, findClass_of_methodNamed B.named, fun w h => hts0 w (List.mem_cons_of_mem _ h), B.notSynchronized, hK3.1⟩
  obtain ⟨hx, hb, hr, hml, hown, hts, hlk, hK⟩ := id C0
  have hD := hD0.self (sz := s.heap.size)
  generalize hAe : va_A (wO cI cZ cJ a b q u) s.heap.size = A at hD hZ ⊢
  have hA : ∀ q, s.heap.size ≤ q → A q := fun q h => by rw [← hAe]; exact Or.inr h
  have hS : va_S A s.heap s.heap [] := va_S.rf
  unfold f_W_named at h
  replace h := bd h
  obtain ⟨r, g, h⟩ := h
  try dsimp only at h
  have hcnt : res.2.2.1 = r.2.2.1 ∧ res.2.2.2 = r.2.2.2 := by
    rcases hv : r.1 with v | k
    · rw [hv] at h; cases h; exact ⟨rfl, rfl⟩
    · rw [hv] at h; try dsimp only at h
      by_cases z0 : k = 1
      · rw [if_pos z0] at h; cases h; exact ⟨rfl, rfl⟩
      · rw [if_neg z0] at h
        by_cases z1 : k = 3
        · rw [if_pos z1] at h; cases h; exact ⟨rfl, rfl⟩
        · rw [if_neg z1] at h
          by_cases z2 : k = 2
          · rw [if_pos z2] at h; cases h; exact ⟨rfl, rfl⟩
          · rw [if_neg z2] at h
            cases h
  refine lv_aload hx hb d_W_named_0 (lv_at hl 4 rfl) ?_
  refine lv_iconst (v := 0) hx hb d_W_named_2 (by decide) ?_
  refine lv_aload_n hx hb d_W_named_3 rfl (lv_at hl 0 rfl) ?_
  refine lv_iload_n hx hb d_W_named_4 rfl (lv_at hl 1 rfl) ?_
  refine lv_iload_n hx hb d_W_named_5 rfl (lv_at hl 2 rfl) ?_
  refine lv_iload_n hx hb d_W_named_6 rfl (lv_at hl 3 rfl) ?_
  refine tx_V (n := 3) (ci := 0) (As := [.int x1, .int x2, .int x3]) (rest := [.int 0, .ref b]) (Wn := fun q => wO cI cZ cJ a b q (r.2.1, u.2)) C0 hA hZ (c_L_named l D cI cZ a hl0 q u.1 x1 x2 x3 g) wd_524 ⟨wd_525, wd_526, wd_527, wd_55⟩ (by decide +kernel) ⟨Nat.le_of_ble_eq_true rfl, Nat.le_of_ble_eq_true rfl⟩ hP hD hS [0, 1, 2, 3, 4, 5, 6, 7, 8, 9, 10, 11, 12, 13, 14, 15, 16, 17, 18, 19, 20] [21] [1, 2, 3, 4, 5, 6, 7, 8, 9, 10, 11, 12, 13, 14, 15, 16, 17, 18, 19, 20, 21, 0] jo_C (by decide) jo_R (by decide) (by decide) (by decide) jo_W rfl rfl rfl hl rfl rfl (Nat.le_of_ble_eq_true rfl) ⟨by show 0 + r.2.2.1 ≤ _; exact Nat.le_of_eq (by rw [Nat.zero_add]; exact hcnt.1.symm), by show 0 + r.2.2.2 ≤ _; exact Nat.le_of_eq (by rw [Nat.zero_add]; exact hcnt.2.symm)⟩ d_W_named_7 (fun k H locs q q9 ce hv hP hD hS h1 h2 h3 => ?_) (fun v H locs q hv hP hD hS => ?_)
  · rw [hv] at h
    try dsimp only at h
    by_cases e0 : k = 1
    · subst e0
      rw [if_pos rfl] at h
      cases h
      refine vx_catch (own := R_W) (name := exN 1) hown [] ⟨0, 12, 15, 19⟩ [⟨0, 12, 19, 21⟩, ⟨0, 12, 23, 13⟩] (by rw [hTb]; rfl) (fun z hz => nomatch hz) (by decide) (by decide) (hts _ wd_522) (hK.word (List.mem_of_getElem? (i := 12) rfl)) h1 h2 h3 ?_
      refine lv_astore (lv' := [(5, .ref q9), (0, .ref (a 0)), (1, .int x1), (2, .int x2), (3, .int x3), (4, .ref b)]) hx hb d_W_named_15 hl (by decide) rfl (fun ls hl => ?_)
      refine lv_iconst (v := 1) hx hb d_W_named_17 (by decide) ?_
      refine W.widen (k := r.2.2.1) (n := r.2.2.2) (by omega) (by omega) ?_
      exact W.iret (v := 1) hx hb hr (fun t ht _ => ⟨⟨1, _, rfl, ⟨rfl, rfl⟩, q, by rw [ht]; exact hP, hD⟩, hS.F ht⟩) hS.2.2 d_W_named_18 hlk
    · rw [if_neg e0] at h
      by_cases e1 : k = 3
      · subst e1
        rw [if_pos rfl] at h
        cases h
        refine vx_catch (own := R_W) (name := exN 3) hown [⟨0, 12, 15, 19⟩] ⟨0, 12, 19, 21⟩ [⟨0, 12, 23, 13⟩] (by rw [hTb]; rfl) (fun z hz => by rw [List.mem_singleton] at hz; subst hz; exact Or.inr ⟨by decide, exN 1, hts _ wd_522, hK3.2.2 _ (List.mem_of_getElem? (i := 4) rfl)⟩) (by decide) (by decide) (hts _ wd_523) (hK.word (List.mem_of_getElem? (i := 13) rfl)) h1 h2 h3 ?_
        refine lv_astore (lv' := [(5, .ref q9), (0, .ref (a 0)), (1, .int x1), (2, .int x2), (3, .int x3), (4, .ref b)]) hx hb d_W_named_19 hl (by decide) rfl (fun ls hl => ?_)
        refine lv_iconst (v := 2) hx hb d_W_named_21 (by decide) ?_
        refine W.widen (k := r.2.2.1) (n := r.2.2.2) (by omega) (by omega) ?_
        exact W.iret (v := 2) hx hb hr (fun t ht _ => ⟨⟨2, _, rfl, ⟨rfl, rfl⟩, q, by rw [ht]; exact hP, hD⟩, hS.F ht⟩) hS.2.2 d_W_named_22 hlk
      · rw [if_neg e1] at h
        by_cases e2 : k = 2
        · subst e2
          rw [if_pos rfl] at h
          cases h
          refine vx_catch (own := R_W) (name := exN 2) hown [⟨0, 12, 15, 19⟩, ⟨0, 12, 19, 21⟩] ⟨0, 12, 23, 13⟩ [] (by rw [hTb]; rfl) (fun z hz => by
              simp only [List.mem_cons, List.not_mem_nil, or_false] at hz
              rcases hz with rfl | rfl
              · exact Or.inr ⟨by decide, exN 1, hts _ wd_522, hK3.2.2 _ (List.mem_of_getElem? (i := 2) rfl)⟩
              · exact Or.inr ⟨by decide, exN 3, hts _ wd_523, hK3.2.2 _ (List.mem_of_getElem? (i := 3) rfl)⟩) (by decide) (by decide) (hts _ wd_517) (hK.word (List.mem_of_getElem? (i := 5) rfl)) h1 h2 h3 ?_
          refine lv_astore (lv' := [(5, .ref q9), (0, .ref (a 0)), (1, .int x1), (2, .int x2), (3, .int x3), (4, .ref b)]) hx hb d_W_named_23 hl (by decide) rfl (fun ls hl => ?_)
          refine lv_iconst (v := 3) hx hb d_W_named_25 (by decide) ?_
          refine W.widen (k := r.2.2.1) (n := r.2.2.2) (by omega) (by omega) ?_
          exact W.iret (v := 3) hx hb hr (fun t ht _ => ⟨⟨3, _, rfl, ⟨rfl, rfl⟩, q, by rw [ht]; exact hP, hD⟩, hS.F ht⟩) hS.2.2 d_W_named_26 hlk
        · rw [if_neg e2] at h
          cases h
  · rw [hv] at h
    try dsimp only at h
    cases h
    refine lv_i2l hx hb d_W_named_10 rfl ?_
    refine va_last hx hb hK3.2.1 hP hD hS 21 0 rfl rfl in01 d_W_named_11 (fun H locs hP hD hS => ?_)
    refine lv_goto (tgt := 27) hx hb d_W_named_12 (by decide) ?_
    refine lv_iconst (v := 0) hx hb d_W_named_27 (by decide) ?_
    refine W.widen (k := r.2.2.1) (n := r.2.2.2) (by omega) (by omega) ?_
    exact W.iret (v := 0) hx hb hr (fun t ht _ => ⟨⟨0, _, rfl, ⟨rfl, rfl⟩, q, by rw [ht]; exact hP, hD⟩, hS.F ht⟩) hS.2.2 d_W_named_28 hlk
-- part 07.82W03.lean.txt
def f_W_array (u : StO) (x1 : Int32) : Option (Int32 × StO × Nat × Nat) :=
  (f_L_array u.1 x1).bind fun r => match r.1 with
  | .inl v => some (0, (r.2.1, vp_updL u.2 0 v.toInt64), r.2.2.1, r.2.2.2)
  | .inr k => if k = 1 then some (1, (r.2.1, u.2), r.2.2.1, r.2.2.2) else if k = 2 then some (2, (r.2.1, u.2), r.2.2.1, r.2.2.2) else none
set_option maxHeartbeats 4000000 in
set_option maxRecDepth 100000 in
theorem c_W_array (l : Launch) (D : va_G) (cI cZ cJ : ClassId) (a : Nat → Nat) (hl0 : l.stackTraces = false) (b q : Nat) (u : StO) (x1 : Int32) {res : Int32 × StO × Nat × Nat} (h : f_W_array u x1 = some res) : HpM l y_W_array b_W_array 4 [(0, 9, 12, 19), (0, 9, 15, 13)] 10 162 D cI cZ cJ [.ref (a 0), .int x1, .ref b] a b q u res := by
  intro sz
  refine va_MetW (hh := [(0, 9, 12, 19), (0, 9, 15, 13)]) (cc := b_W_array) (maxL := 4) (ret := some .int) (by decide) rfl ?_
  intro p e s m args below meth c s₁ B hml hv
  obtain ⟨rfl, hsz, hP, hK3, hD0, hZ⟩ := hv
  subst hsz
  have hts0 := atoms_spec (ws := Cond.codeWith y_W_array b_W_array 4 (some .int) [(0, 9, 12, 19), (0, 9, 15, 13)] :: tb) B.pre
  have hTb := vx_table (x := y_W_array) B (hts0 _ List.mem_cons_self)
  have hl := lv_entry [.ref (a 0), .int x1, .ref b] (n := 4) (Nat.le_of_ble_eq_true rfl)
  rw [lg_entry_eq]
  generalize (lg_sl [.ref (a 0), .int x1, .ref b] ++ List.replicate (4 - (lg_sl [.ref (a 0), .int x1, .ref b]).length) Slot.unset).toArray = ls at hl ⊢
  have hl : lv_has ls 4 [(0, .ref (a 0)), (1, .int x1), (2, .ref b)] := hl
  have C0 : Am p s m ([.ref (a 0), .int x1, .ref b] : List Value).toArray meth c b_W_array (some .int) 4 R_W D [(cI, .int), (cZ, .boolean)] := ⟨B.exec, B.bytes, B.returns, hml, findClass_of_methodNamed B.named, fun w h => hts0 w (List.mem_cons_of_mem _ h), B.notSynchronized, hK3.1⟩
  obtain ⟨hx, hb, hr, hml, hown, hts, hlk, hK⟩ := id C0
  have hD := hD0.self (sz := s.heap.size)
  generalize hAe : va_A (wO cI cZ cJ a b q u) s.heap.size = A at hD hZ ⊢
  have hA : ∀ q, s.heap.size ≤ q → A q := fun q h => by rw [← hAe]; exact Or.inr h
  have hS : va_S A s.heap s.heap [] := va_S.rf
  unfold f_W_array at h
  replace h := bd h
  obtain ⟨r, g, h⟩ := h
  try dsimp only at h
  have hcnt : res.2.2.1 = r.2.2.1 ∧ res.2.2.2 = r.2.2.2 := by
    rcases hv : r.1 with v | k
    · rw [hv] at h; cases h; exact ⟨rfl, rfl⟩
    · rw [hv] at h; try dsimp only at h
      by_cases z0 : k = 1
      · rw [if_pos z0] at h; cases h; exact ⟨rfl, rfl⟩
      · rw [if_neg z0] at h
        by_cases z1 : k = 2
        · rw [if_pos z1] at h; cases h; exact ⟨rfl, rfl⟩
        · rw [if_neg z1] at h
          cases h
  refine lv_aload_n hx hb d_W_array_0 rfl (lv_at hl 2 rfl) ?_
  refine lv_iconst (v := 0) hx hb d_W_array_1 (by decide) ?_
  refine lv_aload_n hx hb d_W_array_2 rfl (lv_at hl 0 rfl) ?_
  refine lv_iload_n hx hb d_W_array_3 rfl (lv_at hl 1 rfl) ?_
  refine tx_V (n := 1) (ci := 0) (As := [.int x1]) (rest := [.int 0, .ref b]) (Wn := fun q => wO cI cZ cJ a b q (r.2.1, u.2)) C0 hA hZ (c_L_array l D cI cZ a hl0 q u.1 x1 g) wd_528 ⟨wd_529, wd_530, wd_531, wd_55⟩ (by decide +kernel) ⟨Nat.le_of_ble_eq_true rfl, Nat.le_of_ble_eq_true rfl⟩ hP hD hS [0, 1, 2, 3, 4, 5, 6, 7, 8, 9, 10, 11, 12, 13, 14, 15, 16, 17, 18, 19, 20] [21] [1, 2, 3, 4, 5, 6, 7, 8, 9, 10, 11, 12, 13, 14, 15, 16, 17, 18, 19, 20, 21, 0] jo_C (by decide) jo_R (by decide) (by decide) (by decide) jo_W rfl rfl rfl hl rfl rfl (Nat.le_of_ble_eq_true rfl) ⟨by show 0 + r.2.2.1 ≤ _; exact Nat.le_of_eq (by rw [Nat.zero_add]; exact hcnt.1.symm), by show 0 + r.2.2.2 ≤ _; exact Nat.le_of_eq (by rw [Nat.zero_add]; exact hcnt.2.symm)⟩ d_W_array_4 (fun k H locs q q9 ce hv hP hD hS h1 h2 h3 => ?_) (fun v H locs q hv hP hD hS => ?_)
  · rw [hv] at h
    try dsimp only at h
    by_cases e0 : k = 1
    · subst e0
      rw [if_pos rfl] at h
      cases h
      refine vx_catch (own := R_W) (name := exN 1) hown [] ⟨0, 9, 12, 19⟩ [⟨0, 9, 15, 13⟩] (by rw [hTb]; rfl) (fun z hz => nomatch hz) (by decide) (by decide) (hts _ wd_522) (hK.word (List.mem_of_getElem? (i := 12) rfl)) h1 h2 h3 ?_
      refine lv_astore_n (lv' := [(3, .ref q9), (0, .ref (a 0)), (1, .int x1), (2, .ref b)]) hx hb d_W_array_12 rfl hl (by decide) rfl (fun ls hl => ?_)
      refine lv_iconst (v := 1) hx hb d_W_array_13 (by decide) ?_
      refine W.widen (k := r.2.2.1) (n := r.2.2.2) (by omega) (by omega) ?_
      exact W.iret (v := 1) hx hb hr (fun t ht _ => ⟨⟨1, _, rfl, ⟨rfl, rfl⟩, q, by rw [ht]; exact hP, hD⟩, hS.F ht⟩) hS.2.2 d_W_array_14 hlk
    · rw [if_neg e0] at h
      by_cases e1 : k = 2
      · subst e1
        rw [if_pos rfl] at h
        cases h
        refine vx_catch (own := R_W) (name := exN 2) hown [⟨0, 9, 12, 19⟩] ⟨0, 9, 15, 13⟩ [] (by rw [hTb]; rfl) (fun z hz => by rw [List.mem_singleton] at hz; subst hz; exact Or.inr ⟨by decide, exN 1, hts _ wd_522, hK3.2.2 _ (List.mem_of_getElem? (i := 2) rfl)⟩) (by decide) (by decide) (hts _ wd_517) (hK.word (List.mem_of_getElem? (i := 5) rfl)) h1 h2 h3 ?_
        refine lv_astore_n (lv' := [(3, .ref q9), (0, .ref (a 0)), (1, .int x1), (2, .ref b)]) hx hb d_W_array_15 rfl hl (by decide) rfl (fun ls hl => ?_)
        refine lv_iconst (v := 2) hx hb d_W_array_16 (by decide) ?_
        refine W.widen (k := r.2.2.1) (n := r.2.2.2) (by omega) (by omega) ?_
        exact W.iret (v := 2) hx hb hr (fun t ht _ => ⟨⟨2, _, rfl, ⟨rfl, rfl⟩, q, by rw [ht]; exact hP, hD⟩, hS.F ht⟩) hS.2.2 d_W_array_17 hlk
      · rw [if_neg e1] at h
        cases h
  · rw [hv] at h
    try dsimp only at h
    cases h
    refine lv_i2l hx hb d_W_array_7 rfl ?_
    refine va_last hx hb hK3.2.1 hP hD hS 21 0 rfl rfl in01 d_W_array_8 (fun H locs hP hD hS => ?_)
    refine lv_goto (tgt := 18) hx hb d_W_array_9 (by decide) ?_
    refine lv_iconst (v := 0) hx hb d_W_array_18 (by decide) ?_
    refine W.widen (k := r.2.2.1) (n := r.2.2.2) (by omega) (by omega) ?_
    exact W.iret (v := 0) hx hb hr (fun t ht _ => ⟨⟨0, _, rfl, ⟨rfl, rfl⟩, q, by rw [ht]; exact hP, hD⟩, hS.F ht⟩) hS.2.2 d_W_array_19 hlk
-- part 07.82W04.lean.txt
def f_W_upper (u : StO) (x1 x2 : Int32) : Option (Int32 × StO × Nat × Nat) :=
  (f_L_upper u.1 x1 x2).bind fun r => match r.1 with
  | .inl v => some (0, (r.2.1, vp_updL u.2 0 v.toInt64), r.2.2.1, r.2.2.2)
  | .inr k => if k = 1 then some (1, (r.2.1, u.2), r.2.2.1, r.2.2.2) else if k = 2 then some (2, (r.2.1, u.2), r.2.2.1, r.2.2.2) else none
set_option maxHeartbeats 4000000 in
set_option maxRecDepth 100000 in
theorem c_W_upper (l : Launch) (D : va_G) (cI cZ cJ : ClassId) (a : Nat → Nat) (hl0 : l.stackTraces = false) (b q : Nat) (u : StO) (x1 x2 : Int32) {res : Int32 × StO × Nat × Nat} (h : f_W_upper u x1 x2 = some res) : HpM l y_W_upper b_W_upper 5 [(0, 10, 13, 19), (0, 10, 17, 13)] 16 422 D cI cZ cJ [.ref (a 0), .int x1, .int x2, .ref b] a b q u res := by
  intro sz
  refine va_MetW (hh := [(0, 10, 13, 19), (0, 10, 17, 13)]) (cc := b_W_upper) (maxL := 5) (ret := some .int) (by decide) rfl ?_
  intro p e s m args below meth c s₁ B hml hv
  obtain ⟨rfl, hsz, hP, hK3, hD0, hZ⟩ := hv
  subst hsz
  have hts0 := atoms_spec (ws := Cond.codeWith y_W_upper b_W_upper 5 (some .int) [(0, 10, 13, 19), (0, 10, 17, 13)] :: tb) B.pre
  have hTb := vx_table (x := y_W_upper) B (hts0 _ List.mem_cons_self)
  have hl := lv_entry [.ref (a 0), .int x1, .int x2, .ref b] (n := 5) (Nat.le_of_ble_eq_true rfl)
  rw [lg_entry_eq]
  generalize (lg_sl [.ref (a 0), .int x1, .int x2, .ref b] ++ List.replicate (5 - (lg_sl [.ref (a 0), .int x1, .int x2, .ref b]).length) Slot.unset).toArray = ls at hl ⊢
  have hl : lv_has ls 5 [(0, .ref (a 0)), (1, .int x1), (2, .int x2), (3, .ref b)] := hl
  have C0 : Am p s m ([.ref (a 0), .int x1, .int x2, .ref b] : List Value).toArray meth c b_W_upper (some .int) 5 R_W D [(cI, .int), (cZ, .boolean)] := ⟨B.exec, B.bytes, B.returns, hml, findClass_of_methodNamed B.named, fun w h => hts0 w (List.mem_cons_of_mem _ h), B.notSynchronized, hK3.1⟩
  obtain ⟨hx, hb, hr, hml, hown, hts, hlk, hK⟩ := id C0
  have hD := hD0.self (sz := s.heap.size)
  generalize hAe : va_A (wO cI cZ cJ a b q u) s.heap.size = A at hD hZ ⊢
  have hA : ∀ q, s.heap.size ≤ q → A q := fun q h => by rw [← hAe]; exact Or.inr h
  have hS : va_S A s.heap s.heap [] := va_S.rf
  unfold f_W_upper at h
  replace h := bd h
  obtain ⟨r, g, h⟩ := h
  try dsimp only at h
  have hcnt : res.2.2.1 = r.2.2.1 ∧ res.2.2.2 = r.2.2.2 := by
    rcases hv : r.1 with v | k
    · rw [hv] at h; cases h; exact ⟨rfl, rfl⟩
    · rw [hv] at h; try dsimp only at h
      by_cases z0 : k = 1
      · rw [if_pos z0] at h; cases h; exact ⟨rfl, rfl⟩
      · rw [if_neg z0] at h
        by_cases z1 : k = 2
        · rw [if_pos z1] at h; cases h; exact ⟨rfl, rfl⟩
        · rw [if_neg z1] at h
          cases h
  refine lv_aload_n hx hb d_W_upper_0 rfl (lv_at hl 3 rfl) ?_
  refine lv_iconst (v := 0) hx hb d_W_upper_1 (by decide) ?_
  refine lv_aload_n hx hb d_W_upper_2 rfl (lv_at hl 0 rfl) ?_
  refine lv_iload_n hx hb d_W_upper_3 rfl (lv_at hl 1 rfl) ?_
  refine lv_iload_n hx hb d_W_upper_4 rfl (lv_at hl 2 rfl) ?_
  refine tx_V (n := 2) (ci := 0) (As := [.int x1, .int x2]) (rest := [.int 0, .ref b]) (Wn := fun q => wO cI cZ cJ a b q (r.2.1, u.2)) C0 hA hZ (c_L_upper l D cI cZ a hl0 q u.1 x1 x2 g) wd_532 ⟨wd_533, wd_534, wd_535, wd_55⟩ (by decide +kernel) ⟨Nat.le_of_ble_eq_true rfl, Nat.le_of_ble_eq_true rfl⟩ hP hD hS [0, 1, 2, 3, 4, 5, 6, 7, 8, 9, 10, 11, 12, 13, 14, 15, 16, 17, 18, 19, 20] [21] [1, 2, 3, 4, 5, 6, 7, 8, 9, 10, 11, 12, 13, 14, 15, 16, 17, 18, 19, 20, 21, 0] jo_C (by decide) jo_R (by decide) (by decide) (by decide) jo_W rfl rfl rfl hl rfl rfl (Nat.le_of_ble_eq_true rfl) ⟨by show 0 + r.2.2.1 ≤ _; exact Nat.le_of_eq (by rw [Nat.zero_add]; exact hcnt.1.symm), by show 0 + r.2.2.2 ≤ _; exact Nat.le_of_eq (by rw [Nat.zero_add]; exact hcnt.2.symm)⟩ d_W_upper_5 (fun k H locs q q9 ce hv hP hD hS h1 h2 h3 => ?_) (fun v H locs q hv hP hD hS => ?_)
  · rw [hv] at h
    try dsimp only at h
    by_cases e0 : k = 1
    · subst e0
      rw [if_pos rfl] at h
      cases h
      refine vx_catch (own := R_W) (name := exN 1) hown [] ⟨0, 10, 13, 19⟩ [⟨0, 10, 17, 13⟩] (by rw [hTb]; rfl) (fun z hz => nomatch hz) (by decide) (by decide) (hts _ wd_522) (hK.word (List.mem_of_getElem? (i := 12) rfl)) h1 h2 h3 ?_
      refine lv_astore (lv' := [(4, .ref q9), (0, .ref (a 0)), (1, .int x1), (2, .int x2), (3, .ref b)]) hx hb d_W_upper_13 hl (by decide) rfl (fun ls hl => ?_)
      refine lv_iconst (v := 1) hx hb d_W_upper_15 (by decide) ?_
      refine W.widen (k := r.2.2.1) (n := r.2.2.2) (by omega) (by omega) ?_
      exact W.iret (v := 1) hx hb hr (fun t ht _ => ⟨⟨1, _, rfl, ⟨rfl, rfl⟩, q, by rw [ht]; exact hP, hD⟩, hS.F ht⟩) hS.2.2 d_W_upper_16 hlk
    · rw [if_neg e0] at h
      by_cases e1 : k = 2
      · subst e1
        rw [if_pos rfl] at h
        cases h
        refine vx_catch (own := R_W) (name := exN 2) hown [⟨0, 10, 13, 19⟩] ⟨0, 10, 17, 13⟩ [] (by rw [hTb]; rfl) (fun z hz => by rw [List.mem_singleton] at hz; subst hz; exact Or.inr ⟨by decide, exN 1, hts _ wd_522, hK3.2.2 _ (List.mem_of_getElem? (i := 2) rfl)⟩) (by decide) (by decide) (hts _ wd_517) (hK.word (List.mem_of_getElem? (i := 5) rfl)) h1 h2 h3 ?_
        refine lv_astore (lv' := [(4, .ref q9), (0, .ref (a 0)), (1, .int x1), (2, .int x2), (3, .ref b)]) hx hb d_W_upper_17 hl (by decide) rfl (fun ls hl => ?_)
        refine lv_iconst (v := 2) hx hb d_W_upper_19 (by decide) ?_
        refine W.widen (k := r.2.2.1) (n := r.2.2.2) (by omega) (by omega) ?_
        exact W.iret (v := 2) hx hb hr (fun t ht _ => ⟨⟨2, _, rfl, ⟨rfl, rfl⟩, q, by rw [ht]; exact hP, hD⟩, hS.F ht⟩) hS.2.2 d_W_upper_20 hlk
      · rw [if_neg e1] at h
        cases h
  · rw [hv] at h
    try dsimp only at h
    cases h
    refine lv_i2l hx hb d_W_upper_8 rfl ?_
    refine va_last hx hb hK3.2.1 hP hD hS 21 0 rfl rfl in01 d_W_upper_9 (fun H locs hP hD hS => ?_)
    refine lv_goto (tgt := 21) hx hb d_W_upper_10 (by decide) ?_
    refine lv_iconst (v := 0) hx hb d_W_upper_21 (by decide) ?_
    refine W.widen (k := r.2.2.1) (n := r.2.2.2) (by omega) (by omega) ?_
    exact W.iret (v := 0) hx hb hr (fun t ht _ => ⟨⟨0, _, rfl, ⟨rfl, rfl⟩, q, by rw [ht]; exact hP, hD⟩, hS.F ht⟩) hS.2.2 d_W_upper_22 hlk
-- part 07.82W05.lean.txt
def f_W_lower (u : StO) (x1 x2 : Int32) : Option (Int32 × StO × Nat × Nat) :=
  (f_L_lower u.1 x1 x2).bind fun r => match r.1 with
  | .inl v => some (0, (r.2.1, vp_updL u.2 0 v.toInt64), r.2.2.1, r.2.2.2)
  | .inr k => if k = 1 then some (1, (r.2.1, u.2), r.2.2.1, r.2.2.2) else if k = 2 then some (2, (r.2.1, u.2), r.2.2.1, r.2.2.2) else none
set_option maxHeartbeats 4000000 in
set_option maxRecDepth 100000 in
theorem c_W_lower (l : Launch) (D : va_G) (cI cZ cJ : ClassId) (a : Nat → Nat) (hl0 : l.stackTraces = false) (b q : Nat) (u : StO) (x1 x2 : Int32) {res : Int32 × StO × Nat × Nat} (h : f_W_lower u x1 x2 = some res) : HpM l y_W_lower b_W_lower 5 [(0, 10, 13, 19), (0, 10, 17, 13)] 209 5525 D cI cZ cJ [.ref (a 0), .int x1, .int x2, .ref b] a b q u res := by
  intro sz
  refine va_MetW (hh := [(0, 10, 13, 19), (0, 10, 17, 13)]) (cc := b_W_lower) (maxL := 5) (ret := some .int) (by decide) rfl ?_
  intro p e s m args below meth c s₁ B hml hv
  obtain ⟨rfl, hsz, hP, hK3, hD0, hZ⟩ := hv
  subst hsz
  have hts0 := atoms_spec (ws := Cond.codeWith y_W_lower b_W_lower 5 (some .int) [(0, 10, 13, 19), (0, 10, 17, 13)] :: tb) B.pre
  have hTb := vx_table (x := y_W_lower) B (hts0 _ List.mem_cons_self)
  have hl := lv_entry [.ref (a 0), .int x1, .int x2, .ref b] (n := 5) (Nat.le_of_ble_eq_true rfl)
  rw [lg_entry_eq]
  generalize (lg_sl [.ref (a 0), .int x1, .int x2, .ref b] ++ List.replicate (5 - (lg_sl [.ref (a 0), .int x1, .int x2, .ref b]).length) Slot.unset).toArray = ls at hl ⊢
  have hl : lv_has ls 5 [(0, .ref (a 0)), (1, .int x1), (2, .int x2), (3, .ref b)] := hl
  have C0 : Am p s m ([.ref (a 0), .int x1, .int x2, .ref b] : List Value).toArray meth c b_W_lower (some .int) 5 R_W D [(cI, .int), (cZ, .boolean)] := ⟨B.exec, B.bytes, B.returns, hml, findClass_of_methodNamed B.named, fun w h => hts0 w (List.mem_cons_of_mem _ h), B.notSynchronized, hK3.1⟩
  obtain ⟨hx, hb, hr, hml, hown, hts, hlk, hK⟩ := id C0
  have hD := hD0.self (sz := s.heap.size)
  generalize hAe : va_A (wO cI cZ cJ a b q u) s.heap.size = A at hD hZ ⊢
  have hA : ∀ q, s.heap.size ≤ q → A q := fun q h => by rw [← hAe]; exact Or.inr h
  have hS : va_S A s.heap s.heap [] := va_S.rf
  unfold f_W_lower at h
  replace h := bd h
  obtain ⟨r, g, h⟩ := h
  try dsimp only at h
  have hcnt : res.2.2.1 = r.2.2.1 ∧ res.2.2.2 = r.2.2.2 := by
    rcases hv : r.1 with v | k
    · rw [hv] at h; cases h; exact ⟨rfl, rfl⟩
    · rw [hv] at h; try dsimp only at h
      by_cases z0 : k = 1
      · rw [if_pos z0] at h; cases h; exact ⟨rfl, rfl⟩
      · rw [if_neg z0] at h
        by_cases z1 : k = 2
        · rw [if_pos z1] at h; cases h; exact ⟨rfl, rfl⟩
        · rw [if_neg z1] at h
          cases h
  refine lv_aload_n hx hb d_W_lower_0 rfl (lv_at hl 3 rfl) ?_
  refine lv_iconst (v := 0) hx hb d_W_lower_1 (by decide) ?_
  refine lv_aload_n hx hb d_W_lower_2 rfl (lv_at hl 0 rfl) ?_
  refine lv_iload_n hx hb d_W_lower_3 rfl (lv_at hl 1 rfl) ?_
  refine lv_iload_n hx hb d_W_lower_4 rfl (lv_at hl 2 rfl) ?_
  refine tx_V (n := 2) (ci := 0) (As := [.int x1, .int x2]) (rest := [.int 0, .ref b]) (Wn := fun q => wO cI cZ cJ a b q (r.2.1, u.2)) C0 hA hZ (c_L_lower l D cI cZ a hl0 q u.1 x1 x2 g) wd_536 ⟨wd_537, wd_538, wd_539, wd_55⟩ (by decide +kernel) ⟨Nat.le_of_ble_eq_true rfl, Nat.le_of_ble_eq_true rfl⟩ hP hD hS [0, 1, 2, 3, 4, 5, 6, 7, 8, 9, 10, 11, 12, 13, 14, 15, 16, 17, 18, 19, 20] [21] [1, 2, 3, 4, 5, 6, 7, 8, 9, 10, 11, 12, 13, 14, 15, 16, 17, 18, 19, 20, 21, 0] jo_C (by decide) jo_R (by decide) (by decide) (by decide) jo_W rfl rfl rfl hl rfl rfl (Nat.le_of_ble_eq_true rfl) ⟨by show 0 + r.2.2.1 ≤ _; exact Nat.le_of_eq (by rw [Nat.zero_add]; exact hcnt.1.symm), by show 0 + r.2.2.2 ≤ _; exact Nat.le_of_eq (by rw [Nat.zero_add]; exact hcnt.2.symm)⟩ d_W_lower_5 (fun k H locs q q9 ce hv hP hD hS h1 h2 h3 => ?_) (fun v H locs q hv hP hD hS => ?_)
  · rw [hv] at h
    try dsimp only at h
    by_cases e0 : k = 1
    · subst e0
      rw [if_pos rfl] at h
      cases h
      refine vx_catch (own := R_W) (name := exN 1) hown [] ⟨0, 10, 13, 19⟩ [⟨0, 10, 17, 13⟩] (by rw [hTb]; rfl) (fun z hz => nomatch hz) (by decide) (by decide) (hts _ wd_522) (hK.word (List.mem_of_getElem? (i := 12) rfl)) h1 h2 h3 ?_
      refine lv_astore (lv' := [(4, .ref q9), (0, .ref (a 0)), (1, .int x1), (2, .int x2), (3, .ref b)]) hx hb d_W_lower_13 hl (by decide) rfl (fun ls hl => ?_)
      refine lv_iconst (v := 1) hx hb d_W_lower_15 (by decide) ?_
      refine W.widen (k := r.2.2.1) (n := r.2.2.2) (by omega) (by omega) ?_
      exact W.iret (v := 1) hx hb hr (fun t ht _ => ⟨⟨1, _, rfl, ⟨rfl, rfl⟩, q, by rw [ht]; exact hP, hD⟩, hS.F ht⟩) hS.2.2 d_W_lower_16 hlk
    · rw [if_neg e0] at h
      by_cases e1 : k = 2
      · subst e1
        rw [if_pos rfl] at h
        cases h
        refine vx_catch (own := R_W) (name := exN 2) hown [⟨0, 10, 13, 19⟩] ⟨0, 10, 17, 13⟩ [] (by rw [hTb]; rfl) (fun z hz => by rw [List.mem_singleton] at hz; subst hz; exact Or.inr ⟨by decide, exN 1, hts _ wd_522, hK3.2.2 _ (List.mem_of_getElem? (i := 2) rfl)⟩) (by decide) (by decide) (hts _ wd_517) (hK.word (List.mem_of_getElem? (i := 5) rfl)) h1 h2 h3 ?_
        refine lv_astore (lv' := [(4, .ref q9), (0, .ref (a 0)), (1, .int x1), (2, .int x2), (3, .ref b)]) hx hb d_W_lower_17 hl (by decide) rfl (fun ls hl => ?_)
        refine lv_iconst (v := 2) hx hb d_W_lower_19 (by decide) ?_
        refine W.widen (k := r.2.2.1) (n := r.2.2.2) (by omega) (by omega) ?_
        exact W.iret (v := 2) hx hb hr (fun t ht _ => ⟨⟨2, _, rfl, ⟨rfl, rfl⟩, q, by rw [ht]; exact hP, hD⟩, hS.F ht⟩) hS.2.2 d_W_lower_20 hlk
      · rw [if_neg e1] at h
        cases h
  · rw [hv] at h
    try dsimp only at h
    cases h
    refine lv_i2l hx hb d_W_lower_8 rfl ?_
    refine va_last hx hb hK3.2.1 hP hD hS 21 0 rfl rfl in01 d_W_lower_9 (fun H locs hP hD hS => ?_)
    refine lv_goto (tgt := 21) hx hb d_W_lower_10 (by decide) ?_
    refine lv_iconst (v := 0) hx hb d_W_lower_21 (by decide) ?_
    refine W.widen (k := r.2.2.1) (n := r.2.2.2) (by omega) (by omega) ?_
    exact W.iret (v := 0) hx hb hr (fun t ht _ => ⟨⟨0, _, rfl, ⟨rfl, rfl⟩, q, by rw [ht]; exact hP, hD⟩, hS.F ht⟩) hS.2.2 d_W_lower_22 hlk
-- part 07.82W06.lean.txt
def f_W_isBelow (u : StO) (x1 x2 : Int32) : Option (Int32 × StO × Nat × Nat) :=
  (f_L_isBelow u.1 x1 x2).bind fun r => match r.1 with
  | .inl v => some (0, (r.2.1, vp_updL u.2 0 (if v = 0 then 0 else 1)), r.2.2.1, r.2.2.2)
  | .inr k => if k = 1 then some (1, (r.2.1, u.2), r.2.2.1, r.2.2.2) else none
set_option maxHeartbeats 4000000 in
set_option maxRecDepth 100000 in
theorem c_W_isBelow (l : Launch) (D : va_G) (cI cZ cJ : ClassId) (a : Nat → Nat) (hl0 : l.stackTraces = false) (b q : Nat) (u : StO) (x1 x2 : Int32) {res : Int32 × StO × Nat × Nat} (h : f_W_isBelow u x1 x2 = some res) : HpM l y_W_isBelow b_W_isBelow 5 [(0, 17, 20, 19)] 208 5498 D cI cZ cJ [.ref (a 0), .int x1, .int x2, .ref b] a b q u res := by
  intro sz
  refine va_MetW (hh := [(0, 17, 20, 19)]) (cc := b_W_isBelow) (maxL := 5) (ret := some .int) (by decide) rfl ?_
  intro p e s m args below meth c s₁ B hml hv
  obtain ⟨rfl, hsz, hP, hK3, hD0, hZ⟩ := hv
  subst hsz
  have hts0 := atoms_spec (ws := Cond.codeWith y_W_isBelow b_W_isBelow 5 (some .int) [(0, 17, 20, 19)] :: tb) B.pre
  have hTb := vx_table (x := y_W_isBelow) B (hts0 _ List.mem_cons_self)
  have hl := lv_entry [.ref (a 0), .int x1, .int x2, .ref b] (n := 5) (Nat.le_of_ble_eq_true rfl)
  rw [lg_entry_eq]
  generalize (lg_sl [.ref (a 0), .int x1, .int x2, .ref b] ++ List.replicate (5 - (lg_sl [.ref (a 0), .int x1, .int x2, .ref b]).length) Slot.unset).toArray = ls at hl ⊢
  have hl : lv_has ls 5 [(0, .ref (a 0)), (1, .int x1), (2, .int x2), (3, .ref b)] := hl
  have C0 : Am p s m ([.ref (a 0), .int x1, .int x2, .ref b] : List Value).toArray meth c b_W_isBelow (some .int) 5 R_W D [(cI, .int), (cZ, .boolean)] := ⟨B.exec, B.bytes, B.returns, hml, findClass_of_methodNamed B.named, fun w h => hts0 w (List.mem_cons_of_mem _ h), B.notSynchronized, hK3.1⟩
  obtain ⟨hx, hb, hr, hml, hown, hts, hlk, hK⟩ := id C0
  have hD := hD0.self (sz := s.heap.size)
  generalize hAe : va_A (wO cI cZ cJ a b q u) s.heap.size = A at hD hZ ⊢
  have hA : ∀ q, s.heap.size ≤ q → A q := fun q h => by rw [← hAe]; exact Or.inr h
  have hS : va_S A s.heap s.heap [] := va_S.rf
  unfold f_W_isBelow at h
  replace h := bd h
  obtain ⟨r, g, h⟩ := h
  try dsimp only at h
  have hcnt : res.2.2.1 = r.2.2.1 ∧ res.2.2.2 = r.2.2.2 := by
    rcases hv : r.1 with v | k
    · rw [hv] at h; cases h; exact ⟨rfl, rfl⟩
    · rw [hv] at h; try dsimp only at h
      by_cases z0 : k = 1
      · rw [if_pos z0] at h; cases h; exact ⟨rfl, rfl⟩
      · rw [if_neg z0] at h
        cases h
  refine lv_aload_n hx hb d_W_isBelow_0 rfl (lv_at hl 3 rfl) ?_
  refine lv_iconst (v := 0) hx hb d_W_isBelow_1 (by decide) ?_
  refine lv_aload_n hx hb d_W_isBelow_2 rfl (lv_at hl 0 rfl) ?_
  refine lv_iload_n hx hb d_W_isBelow_3 rfl (lv_at hl 1 rfl) ?_
  refine lv_iload_n hx hb d_W_isBelow_4 rfl (lv_at hl 2 rfl) ?_
  refine tx_V (n := 2) (ci := 0) (As := [.int x1, .int x2]) (rest := [.int 0, .ref b]) (Wn := fun q => wO cI cZ cJ a b q (r.2.1, u.2)) C0 hA hZ (c_L_isBelow l D cI cZ a hl0 q u.1 x1 x2 g) wd_540 ⟨wd_541, wd_542, wd_543, wd_55⟩ (by decide +kernel) ⟨Nat.le_of_ble_eq_true rfl, Nat.le_of_ble_eq_true rfl⟩ hP hD hS [0, 1, 2, 3, 4, 5, 6, 7, 8, 9, 10, 11, 12, 13, 14, 15, 16, 17, 18, 19, 20] [21] [1, 2, 3, 4, 5, 6, 7, 8, 9, 10, 11, 12, 13, 14, 15, 16, 17, 18, 19, 20, 21, 0] jo_C (by decide) jo_R (by decide) (by decide) (by decide) jo_W rfl rfl rfl hl rfl rfl (Nat.le_of_ble_eq_true rfl) ⟨by show 0 + r.2.2.1 ≤ _; exact Nat.le_of_eq (by rw [Nat.zero_add]; exact hcnt.1.symm), by show 0 + r.2.2.2 ≤ _; exact Nat.le_of_eq (by rw [Nat.zero_add]; exact hcnt.2.symm)⟩ d_W_isBelow_5 (fun k H locs q q9 ce hv hP hD hS h1 h2 h3 => ?_) (fun v H locs q hv hP hD hS => ?_)
  · rw [hv] at h
    try dsimp only at h
    by_cases e0 : k = 1
    · subst e0
      rw [if_pos rfl] at h
      cases h
      refine vx_catch (own := R_W) (name := exN 1) hown [] ⟨0, 17, 20, 19⟩ [] (by rw [hTb]; rfl) (fun z hz => nomatch hz) (by decide) (by decide) (hts _ wd_522) (hK.word (List.mem_of_getElem? (i := 12) rfl)) h1 h2 h3 ?_
      refine lv_astore (lv' := [(4, .ref q9), (0, .ref (a 0)), (1, .int x1), (2, .int x2), (3, .ref b)]) hx hb d_W_isBelow_20 hl (by decide) rfl (fun ls hl => ?_)
      refine lv_iconst (v := 1) hx hb d_W_isBelow_22 (by decide) ?_
      refine W.widen (k := r.2.2.1) (n := r.2.2.2) (by omega) (by omega) ?_
      exact W.iret (v := 1) hx hb hr (fun t ht _ => ⟨⟨1, _, rfl, ⟨rfl, rfl⟩, q, by rw [ht]; exact hP, hD⟩, hS.F ht⟩) hS.2.2 d_W_isBelow_23 hlk
    · rw [if_neg e0] at h
      cases h
  · rw [hv] at h
    try dsimp only at h
    cases h
    refine lv_if_eq (tgt := 15) hx hb d_W_isBelow_8 (by decide) (fun hc => ?_) (fun hc => ?_)
    · refine lv_lconst (v := 0) hx hb d_W_isBelow_15 (by decide) ?_
      refine va_last hx hb hK3.2.1 hP hD hS 21 0 rfl rfl in01 d_W_isBelow_16 (fun H locs hP hD hS => ?_)
      refine lv_goto (tgt := 24) hx hb d_W_isBelow_17 (by decide) ?_
      refine lv_iconst (v := 0) hx hb d_W_isBelow_24 (by decide) ?_
      rw [if_pos hc]
      refine W.widen (k := r.2.2.1) (n := r.2.2.2) (by omega) (by omega) ?_
      exact W.iret (v := 0) hx hb hr (fun t ht _ => ⟨⟨0, _, rfl, ⟨rfl, rfl⟩, q, by rw [ht]; exact hP, hD⟩, hS.F ht⟩) hS.2.2 d_W_isBelow_25 hlk
    · refine lv_lconst (v := 1) hx hb d_W_isBelow_11 (by decide) ?_
      refine lv_goto (tgt := 16) hx hb d_W_isBelow_12 (by decide) ?_
      refine va_last hx hb hK3.2.1 hP hD hS 21 0 rfl rfl in01 d_W_isBelow_16 (fun H locs hP hD hS => ?_)
      refine lv_goto (tgt := 24) hx hb d_W_isBelow_17 (by decide) ?_
      refine lv_iconst (v := 0) hx hb d_W_isBelow_24 (by decide) ?_
      rw [if_neg hc]
      refine W.widen (k := r.2.2.1) (n := r.2.2.2) (by omega) (by omega) ?_
      exact W.iret (v := 0) hx hb hr (fun t ht _ => ⟨⟨0, _, rfl, ⟨rfl, rfl⟩, q, by rw [ht]; exact hP, hD⟩, hS.F ht⟩) hS.2.2 d_W_isBelow_25 hlk
-- part 07.82W07.lean.txt
def f_W_look (u : StO) (x1 x2 : Int32) : Option (Int32 × StO × Nat × Nat) :=
  (f_L_look u.1 x1 x2).bind fun r => match r.1 with
  | .inl v => some (0, (r.2.1, vp_updL u.2 0 v.toInt64), r.2.2.1, r.2.2.2)
  | .inr k => if k = 1 then some (1, (r.2.1, u.2), r.2.2.1, r.2.2.2) else if k = 2 then some (2, (r.2.1, u.2), r.2.2.1, r.2.2.2) else none
set_option maxHeartbeats 4000000 in
set_option maxRecDepth 100000 in
theorem c_W_look (l : Launch) (D : va_G) (cI cZ cJ : ClassId) (a : Nat → Nat) (hl0 : l.stackTraces = false) (b q : Nat) (u : StO) (x1 x2 : Int32) {res : Int32 × StO × Nat × Nat} (h : f_W_look u x1 x2 = some res) : HpM l y_W_look b_W_look 5 [(0, 10, 13, 19), (0, 10, 17, 13)] 10 164 D cI cZ cJ [.ref (a 0), .int x1, .int x2, .ref b] a b q u res := by
  intro sz
  refine va_MetW (hh := [(0, 10, 13, 19), (0, 10, 17, 13)]) (cc := b_W_look) (maxL := 5) (ret := some .int) (by decide) rfl ?_
  intro p e s m args below meth c s₁ B hml hv
  obtain ⟨rfl, hsz, hP, hK3, hD0, hZ⟩ := hv
  subst hsz
  have hts0 := atoms_spec (ws := Cond.codeWith y_W_look b_W_look 5 (some .int) [(0, 10, 13, 19), (0, 10, 17, 13)] :: tb) B.pre
  have hTb := vx_table (x := y_W_look) B (hts0 _ List.mem_cons_self)
  have hl := lv_entry [.ref (a 0), .int x1, .int x2, .ref b] (n := 5) (Nat.le_of_ble_eq_true rfl)
  rw [lg_entry_eq]
  generalize (lg_sl [.ref (a 0), .int x1, .int x2, .ref b] ++ List.replicate (5 - (lg_sl [.ref (a 0), .int x1, .int x2, .ref b]).length) Slot.unset).toArray = ls at hl ⊢
  have hl : lv_has ls 5 [(0, .ref (a 0)), (1, .int x1), (2, .int x2), (3, .ref b)] := hl
  have C0 : Am p s m ([.ref (a 0), .int x1, .int x2, .ref b] : List Value).toArray meth c b_W_look (some .int) 5 R_W D [(cI, .int), (cZ, .boolean)] := ⟨B.exec, B.bytes, B.returns, hml, findClass_of_methodNamed B.named, fun w h => hts0 w (List.mem_cons_of_mem _ h), B.notSynchronized, hK3.1⟩
  obtain ⟨hx, hb, hr, hml, hown, hts, hlk, hK⟩ := id C0
  have hD := hD0.self (sz := s.heap.size)
  generalize hAe : va_A (wO cI cZ cJ a b q u) s.heap.size = A at hD hZ ⊢
  have hA : ∀ q, s.heap.size ≤ q → A q := fun q h => by rw [← hAe]; exact Or.inr h
  have hS : va_S A s.heap s.heap [] := va_S.rf
  unfold f_W_look at h
  replace h := bd h
  obtain ⟨r, g, h⟩ := h
  try dsimp only at h
  have hcnt : res.2.2.1 = r.2.2.1 ∧ res.2.2.2 = r.2.2.2 := by
    rcases hv : r.1 with v | k
    · rw [hv] at h; cases h; exact ⟨rfl, rfl⟩
    · rw [hv] at h; try dsimp only at h
      by_cases z0 : k = 1
      · rw [if_pos z0] at h; cases h; exact ⟨rfl, rfl⟩
      · rw [if_neg z0] at h
        by_cases z1 : k = 2
        · rw [if_pos z1] at h; cases h; exact ⟨rfl, rfl⟩
        · rw [if_neg z1] at h
          cases h
  refine lv_aload_n hx hb d_W_look_0 rfl (lv_at hl 3 rfl) ?_
  refine lv_iconst (v := 0) hx hb d_W_look_1 (by decide) ?_
  refine lv_aload_n hx hb d_W_look_2 rfl (lv_at hl 0 rfl) ?_
  refine lv_iload_n hx hb d_W_look_3 rfl (lv_at hl 1 rfl) ?_
  refine lv_iload_n hx hb d_W_look_4 rfl (lv_at hl 2 rfl) ?_
  refine tx_V (n := 2) (ci := 0) (As := [.int x1, .int x2]) (rest := [.int 0, .ref b]) (Wn := fun q => wO cI cZ cJ a b q (r.2.1, u.2)) C0 hA hZ (c_L_look l D cI cZ a hl0 q u.1 x1 x2 g) wd_544 ⟨wd_545, wd_546, wd_547, wd_55⟩ (by decide +kernel) ⟨Nat.le_of_ble_eq_true rfl, Nat.le_of_ble_eq_true rfl⟩ hP hD hS [0, 1, 2, 3, 4, 5, 6, 7, 8, 9, 10, 11, 12, 13, 14, 15, 16, 17, 18, 19, 20] [21] [1, 2, 3, 4, 5, 6, 7, 8, 9, 10, 11, 12, 13, 14, 15, 16, 17, 18, 19, 20, 21, 0] jo_C (by decide) jo_R (by decide) (by decide) (by decide) jo_W rfl rfl rfl hl rfl rfl (Nat.le_of_ble_eq_true rfl) ⟨by show 0 + r.2.2.1 ≤ _; exact Nat.le_of_eq (by rw [Nat.zero_add]; exact hcnt.1.symm), by show 0 + r.2.2.2 ≤ _; exact Nat.le_of_eq (by rw [Nat.zero_add]; exact hcnt.2.symm)⟩ d_W_look_5 (fun k H locs q q9 ce hv hP hD hS h1 h2 h3 => ?_) (fun v H locs q hv hP hD hS => ?_)
  · rw [hv] at h
    try dsimp only at h
    by_cases e0 : k = 1
    · subst e0
      rw [if_pos rfl] at h
      cases h
      refine vx_catch (own := R_W) (name := exN 1) hown [] ⟨0, 10, 13, 19⟩ [⟨0, 10, 17, 13⟩] (by rw [hTb]; rfl) (fun z hz => nomatch hz) (by decide) (by decide) (hts _ wd_522) (hK.word (List.mem_of_getElem? (i := 12) rfl)) h1 h2 h3 ?_
      refine lv_astore (lv' := [(4, .ref q9), (0, .ref (a 0)), (1, .int x1), (2, .int x2), (3, .ref b)]) hx hb d_W_look_13 hl (by decide) rfl (fun ls hl => ?_)
      refine lv_iconst (v := 1) hx hb d_W_look_15 (by decide) ?_
      refine W.widen (k := r.2.2.1) (n := r.2.2.2) (by omega) (by omega) ?_
      exact W.iret (v := 1) hx hb hr (fun t ht _ => ⟨⟨1, _, rfl, ⟨rfl, rfl⟩, q, by rw [ht]; exact hP, hD⟩, hS.F ht⟩) hS.2.2 d_W_look_16 hlk
    · rw [if_neg e0] at h
      by_cases e1 : k = 2
      · subst e1
        rw [if_pos rfl] at h
        cases h
        refine vx_catch (own := R_W) (name := exN 2) hown [⟨0, 10, 13, 19⟩] ⟨0, 10, 17, 13⟩ [] (by rw [hTb]; rfl) (fun z hz => by rw [List.mem_singleton] at hz; subst hz; exact Or.inr ⟨by decide, exN 1, hts _ wd_522, hK3.2.2 _ (List.mem_of_getElem? (i := 2) rfl)⟩) (by decide) (by decide) (hts _ wd_517) (hK.word (List.mem_of_getElem? (i := 5) rfl)) h1 h2 h3 ?_
        refine lv_astore (lv' := [(4, .ref q9), (0, .ref (a 0)), (1, .int x1), (2, .int x2), (3, .ref b)]) hx hb d_W_look_17 hl (by decide) rfl (fun ls hl => ?_)
        refine lv_iconst (v := 2) hx hb d_W_look_19 (by decide) ?_
        refine W.widen (k := r.2.2.1) (n := r.2.2.2) (by omega) (by omega) ?_
        exact W.iret (v := 2) hx hb hr (fun t ht _ => ⟨⟨2, _, rfl, ⟨rfl, rfl⟩, q, by rw [ht]; exact hP, hD⟩, hS.F ht⟩) hS.2.2 d_W_look_20 hlk
      · rw [if_neg e1] at h
        cases h
  · rw [hv] at h
    try dsimp only at h
    cases h
    refine lv_i2l hx hb d_W_look_8 rfl ?_
    refine va_last hx hb hK3.2.1 hP hD hS 21 0 rfl rfl in01 d_W_look_9 (fun H locs hP hD hS => ?_)
    refine lv_goto (tgt := 21) hx hb d_W_look_10 (by decide) ?_
    refine lv_iconst (v := 0) hx hb d_W_look_21 (by decide) ?_
    refine W.widen (k := r.2.2.1) (n := r.2.2.2) (by omega) (by omega) ?_
    exact W.iret (v := 0) hx hb hr (fun t ht _ => ⟨⟨0, _, rfl, ⟨rfl, rfl⟩, q, by rw [ht]; exact hP, hD⟩, hS.F ht⟩) hS.2.2 d_W_look_22 hlk
-- part 07.82W08.lean.txt
def f_W_box (u : StO) (x1 : Int32) : Option (Int32 × StO × Nat × Nat) :=
  (f_L_box u.1 x1).bind fun r => match r.1 with
  | .inl v => some (0, (r.2.1, vp_updL u.2 0 v.toInt64), r.2.2.1, r.2.2.2)
  | .inr k => if k = 1 then some (1, (r.2.1, u.2), r.2.2.1, r.2.2.2) else if k = 2 then some (2, (r.2.1, u.2), r.2.2.1, r.2.2.2) else none
set_option maxHeartbeats 4000000 in
set_option maxRecDepth 100000 in
theorem c_W_box (l : Launch) (D : va_G) (cI cZ cJ : ClassId) (a : Nat → Nat) (hl0 : l.stackTraces = false) (b q : Nat) (u : StO) (x1 : Int32) {res : Int32 × StO × Nat × Nat} (h : f_W_box u x1 = some res) : HpM l y_W_box b_W_box 4 [(0, 9, 12, 19), (0, 9, 15, 13)] 10 162 D cI cZ cJ [.ref (a 0), .int x1, .ref b] a b q u res := by
  intro sz
  refine va_MetW (hh := [(0, 9, 12, 19), (0, 9, 15, 13)]) (cc := b_W_box) (maxL := 4) (ret := some .int) (by decide) rfl ?_
  intro p e s m args below meth c s₁ B hml hv
  obtain ⟨rfl, hsz, hP, hK3, hD0, hZ⟩ := hv
  subst hsz
  have hts0 := atoms_spec (ws := Cond.codeWith y_W_box b_W_box 4 (some .int) [(0, 9, 12, 19), (0, 9, 15, 13)] :: tb) B.pre
  have hTb := vx_table (x := y_W_box) B (hts0 _ List.mem_cons_self)
  have hl := lv_entry [.ref (a 0), .int x1, .ref b] (n := 4) (Nat.le_of_ble_eq_true rfl)
  rw [lg_entry_eq]
  generalize (lg_sl [.ref (a 0), .int x1, .ref b] ++ List.replicate (4 - (lg_sl [.ref (a 0), .int x1, .ref b]).length) Slot.unset).toArray = ls at hl ⊢
  have hl : lv_has ls 4 [(0, .ref (a 0)), (1, .int x1), (2, .ref b)] := hl
  have C0 : Am p s m ([.ref (a 0), .int x1, .ref b] : List Value).toArray meth c b_W_box (some .int) 4 R_W D [(cI, .int), (cZ, .boolean)] := ⟨B.exec, B.bytes, B.returns, hml, findClass_of_methodNamed B.named, fun w h => hts0 w (List.mem_cons_of_mem _ h), B.notSynchronized, hK3.1⟩
  obtain ⟨hx, hb, hr, hml, hown, hts, hlk, hK⟩ := id C0
  have hD := hD0.self (sz := s.heap.size)
  generalize hAe : va_A (wO cI cZ cJ a b q u) s.heap.size = A at hD hZ ⊢
  have hA : ∀ q, s.heap.size ≤ q → A q := fun q h => by rw [← hAe]; exact Or.inr h
  have hS : va_S A s.heap s.heap [] := va_S.rf
  unfold f_W_box at h
  replace h := bd h
  obtain ⟨r, g, h⟩ := h
  try dsimp only at h
  have hcnt : res.2.2.1 = r.2.2.1 ∧ res.2.2.2 = r.2.2.2 := by
    rcases hv : r.1 with v | k
    · rw [hv] at h; cases h; exact ⟨rfl, rfl⟩
    · rw [hv] at h; try dsimp only at h
      by_cases z0 : k = 1
      · rw [if_pos z0] at h; cases h; exact ⟨rfl, rfl⟩
      · rw [if_neg z0] at h
        by_cases z1 : k = 2
        · rw [if_pos z1] at h; cases h; exact ⟨rfl, rfl⟩
        · rw [if_neg z1] at h
          cases h
  refine lv_aload_n hx hb d_W_box_0 rfl (lv_at hl 2 rfl) ?_
  refine lv_iconst (v := 0) hx hb d_W_box_1 (by decide) ?_
  refine lv_aload_n hx hb d_W_box_2 rfl (lv_at hl 0 rfl) ?_
  refine lv_iload_n hx hb d_W_box_3 rfl (lv_at hl 1 rfl) ?_
  refine tx_V (n := 1) (ci := 0) (As := [.int x1]) (rest := [.int 0, .ref b]) (Wn := fun q => wO cI cZ cJ a b q (r.2.1, u.2)) C0 hA hZ (c_L_box l D cI cZ a hl0 q u.1 x1 g) wd_548 ⟨wd_549, wd_550, wd_551, wd_55⟩ (by decide +kernel) ⟨Nat.le_of_ble_eq_true rfl, Nat.le_of_ble_eq_true rfl⟩ hP hD hS [0, 1, 2, 3, 4, 5, 6, 7, 8, 9, 10, 11, 12, 13, 14, 15, 16, 17, 18, 19, 20] [21] [1, 2, 3, 4, 5, 6, 7, 8, 9, 10, 11, 12, 13, 14, 15, 16, 17, 18, 19, 20, 21, 0] jo_C (by decide) jo_R (by decide) (by decide) (by decide) jo_W rfl rfl rfl hl rfl rfl (Nat.le_of_ble_eq_true rfl) ⟨by show 0 + r.2.2.1 ≤ _; exact Nat.le_of_eq (by rw [Nat.zero_add]; exact hcnt.1.symm), by show 0 + r.2.2.2 ≤ _; exact Nat.le_of_eq (by rw [Nat.zero_add]; exact hcnt.2.symm)⟩ d_W_box_4 (fun k H locs q q9 ce hv hP hD hS h1 h2 h3 => ?_) (fun v H locs q hv hP hD hS => ?_)
  · rw [hv] at h
    try dsimp only at h
    by_cases e0 : k = 1
    · subst e0
      rw [if_pos rfl] at h
      cases h
      refine vx_catch (own := R_W) (name := exN 1) hown [] ⟨0, 9, 12, 19⟩ [⟨0, 9, 15, 13⟩] (by rw [hTb]; rfl) (fun z hz => nomatch hz) (by decide) (by decide) (hts _ wd_522) (hK.word (List.mem_of_getElem? (i := 12) rfl)) h1 h2 h3 ?_
      refine lv_astore_n (lv' := [(3, .ref q9), (0, .ref (a 0)), (1, .int x1), (2, .ref b)]) hx hb d_W_box_12 rfl hl (by decide) rfl (fun ls hl => ?_)
      refine lv_iconst (v := 1) hx hb d_W_box_13 (by decide) ?_
      refine W.widen (k := r.2.2.1) (n := r.2.2.2) (by omega) (by omega) ?_
      exact W.iret (v := 1) hx hb hr (fun t ht _ => ⟨⟨1, _, rfl, ⟨rfl, rfl⟩, q, by rw [ht]; exact hP, hD⟩, hS.F ht⟩) hS.2.2 d_W_box_14 hlk
    · rw [if_neg e0] at h
      by_cases e1 : k = 2
      · subst e1
        rw [if_pos rfl] at h
        cases h
        refine vx_catch (own := R_W) (name := exN 2) hown [⟨0, 9, 12, 19⟩] ⟨0, 9, 15, 13⟩ [] (by rw [hTb]; rfl) (fun z hz => by rw [List.mem_singleton] at hz; subst hz; exact Or.inr ⟨by decide, exN 1, hts _ wd_522, hK3.2.2 _ (List.mem_of_getElem? (i := 2) rfl)⟩) (by decide) (by decide) (hts _ wd_517) (hK.word (List.mem_of_getElem? (i := 5) rfl)) h1 h2 h3 ?_
        refine lv_astore_n (lv' := [(3, .ref q9), (0, .ref (a 0)), (1, .int x1), (2, .ref b)]) hx hb d_W_box_15 rfl hl (by decide) rfl (fun ls hl => ?_)
        refine lv_iconst (v := 2) hx hb d_W_box_16 (by decide) ?_
        refine W.widen (k := r.2.2.1) (n := r.2.2.2) (by omega) (by omega) ?_
        exact W.iret (v := 2) hx hb hr (fun t ht _ => ⟨⟨2, _, rfl, ⟨rfl, rfl⟩, q, by rw [ht]; exact hP, hD⟩, hS.F ht⟩) hS.2.2 d_W_box_17 hlk
      · rw [if_neg e1] at h
        cases h
  · rw [hv] at h
    try dsimp only at h
    cases h
    refine lv_i2l hx hb d_W_box_7 rfl ?_
    refine va_last hx hb hK3.2.1 hP hD hS 21 0 rfl rfl in01 d_W_box_8 (fun H locs hP hD hS => ?_)
    refine lv_goto (tgt := 18) hx hb d_W_box_9 (by decide) ?_
    refine lv_iconst (v := 0) hx hb d_W_box_18 (by decide) ?_
    refine W.widen (k := r.2.2.1) (n := r.2.2.2) (by omega) (by omega) ?_
    exact W.iret (v := 0) hx hb hr (fun t ht _ => ⟨⟨0, _, rfl, ⟨rfl, rfl⟩, q, by rw [ht]; exact hP, hD⟩, hS.F ht⟩) hS.2.2 d_W_box_19 hlk
-- part 07.82W09.lean.txt
def f_W_type (u : StO) (x1 x2 : Int32) : Option (Int32 × StO × Nat × Nat) :=
  (f_L_type u.1 x1 x2).bind fun r => match r.1 with
  | .inl v => some (0, (r.2.1, vp_updL u.2 0 v.toInt64), r.2.2.1, r.2.2.2)
  | .inr k => if k = 1 then some (1, (r.2.1, u.2), r.2.2.1, r.2.2.2) else if k = 3 then some (2, (r.2.1, u.2), r.2.2.1, r.2.2.2) else none
set_option maxHeartbeats 4000000 in
set_option maxRecDepth 100000 in
theorem c_W_type (l : Launch) (D : va_G) (cI cZ cJ : ClassId) (a : Nat → Nat) (hl0 : l.stackTraces = false) (b q : Nat) (u : StO) (x1 x2 : Int32) {res : Int32 × StO × Nat × Nat} (h : f_W_type u x1 x2 = some res) : HpM l y_W_type b_W_type 5 [(0, 10, 13, 19), (0, 10, 17, 21)] 10 163 D cI cZ cJ [.ref (a 0), .int x1, .int x2, .ref b] a b q u res := by
  intro sz
  refine va_MetW (hh := [(0, 10, 13, 19), (0, 10, 17, 21)]) (cc := b_W_type) (maxL := 5) (ret := some .int) (by decide) rfl ?_
  intro p e s m args below meth c s₁ B hml hv
  obtain ⟨rfl, hsz, hP, hK3, hD0, hZ⟩ := hv
  subst hsz
  have hts0 := atoms_spec (ws := Cond.codeWith y_W_type b_W_type 5 (some .int) [(0, 10, 13, 19), (0, 10, 17, 21)] :: tb) B.pre
  have hTb := vx_table (x := y_W_type) B (hts0 _ List.mem_cons_self)
  have hl := lv_entry [.ref (a 0), .int x1, .int x2, .ref b] (n := 5) (Nat.le_of_ble_eq_true rfl)
  rw [lg_entry_eq]
  generalize (lg_sl [.ref (a 0), .int x1, .int x2, .ref b] ++ List.replicate (5 - (lg_sl [.ref (a 0), .int x1, .int x2, .ref b]).length) Slot.unset).toArray = ls at hl ⊢
  have hl : lv_has ls 5 [(0, .ref (a 0)), (1, .int x1), (2, .int x2), (3, .ref b)] := hl
  have C0 : Am p s m ([.ref (a 0), .int x1, .int x2, .ref b] : List Value).toArray meth c b_W_type (some .int) 5 R_W D [(cI, .int), (cZ, .boolean)] := ⟨B.exec, B.bytes, B.returns, hml, findClass_of_methodNamed B.named, fun w h => hts0 w (List.mem_cons_of_mem _ h), B.notSynchronized, hK3.1⟩
  obtain ⟨hx, hb, hr, hml, hown, hts, hlk, hK⟩ := id C0
  have hD := hD0.self (sz := s.heap.size)
  generalize hAe : va_A (wO cI cZ cJ a b q u) s.heap.size = A at hD hZ ⊢
  have hA : ∀ q, s.heap.size ≤ q → A q := fun q h => by rw [← hAe]; exact Or.inr h
  have hS : va_S A s.heap s.heap [] := va_S.rf
  unfold f_W_type at h
  replace h := bd h
  obtain ⟨r, g, h⟩ := h
  try dsimp only at h
  have hcnt : res.2.2.1 = r.2.2.1 ∧ res.2.2.2 = r.2.2.2 := by
    rcases hv : r.1 with v | k
    · rw [hv] at h; cases h; exact ⟨rfl, rfl⟩
    · rw [hv] at h; try dsimp only at h
      by_cases z0 : k = 1
      · rw [if_pos z0] at h; cases h; exact ⟨rfl, rfl⟩
      · rw [if_neg z0] at h
        by_cases z1 : k = 3
        · rw [if_pos z1] at h; cases h; exact ⟨rfl, rfl⟩
        · rw [if_neg z1] at h
          cases h
  refine lv_aload_n hx hb d_W_type_0 rfl (lv_at hl 3 rfl) ?_
  refine lv_iconst (v := 0) hx hb d_W_type_1 (by decide) ?_
  refine lv_aload_n hx hb d_W_type_2 rfl (lv_at hl 0 rfl) ?_
  refine lv_iload_n hx hb d_W_type_3 rfl (lv_at hl 1 rfl) ?_
  refine lv_iload_n hx hb d_W_type_4 rfl (lv_at hl 2 rfl) ?_
  refine tx_V (n := 2) (ci := 0) (As := [.int x1, .int x2]) (rest := [.int 0, .ref b]) (Wn := fun q => wO cI cZ cJ a b q (r.2.1, u.2)) C0 hA hZ (c_L_type l D cI cZ a hl0 q u.1 x1 x2 g) wd_552 ⟨wd_553, wd_554, wd_555, wd_55⟩ (by decide +kernel) ⟨Nat.le_of_ble_eq_true rfl, Nat.le_of_ble_eq_true rfl⟩ hP hD hS [0, 1, 2, 3, 4, 5, 6, 7, 8, 9, 10, 11, 12, 13, 14, 15, 16, 17, 18, 19, 20] [21] [1, 2, 3, 4, 5, 6, 7, 8, 9, 10, 11, 12, 13, 14, 15, 16, 17, 18, 19, 20, 21, 0] jo_C (by decide) jo_R (by decide) (by decide) (by decide) jo_W rfl rfl rfl hl rfl rfl (Nat.le_of_ble_eq_true rfl) ⟨by show 0 + r.2.2.1 ≤ _; exact Nat.le_of_eq (by rw [Nat.zero_add]; exact hcnt.1.symm), by show 0 + r.2.2.2 ≤ _; exact Nat.le_of_eq (by rw [Nat.zero_add]; exact hcnt.2.symm)⟩ d_W_type_5 (fun k H locs q q9 ce hv hP hD hS h1 h2 h3 => ?_) (fun v H locs q hv hP hD hS => ?_)
  · rw [hv] at h
    try dsimp only at h
    by_cases e0 : k = 1
    · subst e0
      rw [if_pos rfl] at h
      cases h
      refine vx_catch (own := R_W) (name := exN 1) hown [] ⟨0, 10, 13, 19⟩ [⟨0, 10, 17, 21⟩] (by rw [hTb]; rfl) (fun z hz => nomatch hz) (by decide) (by decide) (hts _ wd_522) (hK.word (List.mem_of_getElem? (i := 12) rfl)) h1 h2 h3 ?_
      refine lv_astore (lv' := [(4, .ref q9), (0, .ref (a 0)), (1, .int x1), (2, .int x2), (3, .ref b)]) hx hb d_W_type_13 hl (by decide) rfl (fun ls hl => ?_)
      refine lv_iconst (v := 1) hx hb d_W_type_15 (by decide) ?_
      refine W.widen (k := r.2.2.1) (n := r.2.2.2) (by omega) (by omega) ?_
      exact W.iret (v := 1) hx hb hr (fun t ht _ => ⟨⟨1, _, rfl, ⟨rfl, rfl⟩, q, by rw [ht]; exact hP, hD⟩, hS.F ht⟩) hS.2.2 d_W_type_16 hlk
    · rw [if_neg e0] at h
      by_cases e1 : k = 3
      · subst e1
        rw [if_pos rfl] at h
        cases h
        refine vx_catch (own := R_W) (name := exN 3) hown [⟨0, 10, 13, 19⟩] ⟨0, 10, 17, 21⟩ [] (by rw [hTb]; rfl) (fun z hz => by rw [List.mem_singleton] at hz; subst hz; exact Or.inr ⟨by decide, exN 1, hts _ wd_522, hK3.2.2 _ (List.mem_of_getElem? (i := 4) rfl)⟩) (by decide) (by decide) (hts _ wd_523) (hK.word (List.mem_of_getElem? (i := 13) rfl)) h1 h2 h3 ?_
        refine lv_astore (lv' := [(4, .ref q9), (0, .ref (a 0)), (1, .int x1), (2, .int x2), (3, .ref b)]) hx hb d_W_type_17 hl (by decide) rfl (fun ls hl => ?_)
        refine lv_iconst (v := 2) hx hb d_W_type_19 (by decide) ?_
        refine W.widen (k := r.2.2.1) (n := r.2.2.2) (by omega) (by omega) ?_
        exact W.iret (v := 2) hx hb hr (fun t ht _ => ⟨⟨2, _, rfl, ⟨rfl, rfl⟩, q, by rw [ht]; exact hP, hD⟩, hS.F ht⟩) hS.2.2 d_W_type_20 hlk
      · rw [if_neg e1] at h
        cases h
  · rw [hv] at h
    try dsimp only at h
    cases h
    refine lv_i2l hx hb d_W_type_8 rfl ?_
    refine va_last hx hb hK3.2.1 hP hD hS 21 0 rfl rfl in01 d_W_type_9 (fun H locs hP hD hS => ?_)
    refine lv_goto (tgt := 21) hx hb d_W_type_10 (by decide) ?_
    refine lv_iconst (v := 0) hx hb d_W_type_21 (by decide) ?_
    refine W.widen (k := r.2.2.1) (n := r.2.2.2) (by omega) (by omega) ?_
    exact W.iret (v := 0) hx hb hr (fun t ht _ => ⟨⟨0, _, rfl, ⟨rfl, rfl⟩, q, by rw [ht]; exact hP, hD⟩, hS.F ht⟩) hS.2.2 d_W_type_22 hlk
-- part 07.82W10.lean.txt
def f_W_part (u : StO) (x1 x2 : Int32) : Option (Int32 × StO × Nat × Nat) :=
  (f_L_part u.1 x1 x2).bind fun r => match r.1 with
  | .inl v => some (0, (r.2.1, vp_updL u.2 0 v.toInt64), r.2.2.1, r.2.2.2)
  | .inr k => if k = 1 then some (1, (r.2.1, u.2), r.2.2.1, r.2.2.2) else none
set_option maxHeartbeats 4000000 in
set_option maxRecDepth 100000 in
theorem c_W_part (l : Launch) (D : va_G) (cI cZ cJ : ClassId) (a : Nat → Nat) (hl0 : l.stackTraces = false) (b q : Nat) (u : StO) (x1 x2 : Int32) {res : Int32 × StO × Nat × Nat} (h : f_W_part u x1 x2 = some res) : HpM l y_W_part b_W_part 5 [(0, 10, 13, 19)] 10 163 D cI cZ cJ [.ref (a 0), .int x1, .int x2, .ref b] a b q u res := by
  intro sz
  refine va_MetW (hh := [(0, 10, 13, 19)]) (cc := b_W_part) (maxL := 5) (ret := some .int) (by decide) rfl ?_
  intro p e s m args below meth c s₁ B hml hv
  obtain ⟨rfl, hsz, hP, hK3, hD0, hZ⟩ := hv
  subst hsz
  have hts0 := atoms_spec (ws := Cond.codeWith y_W_part b_W_part 5 (some .int) [(0, 10, 13, 19)] :: tb) B.pre
  have hTb := vx_table (x := y_W_part) B (hts0 _ List.mem_cons_self)
  have hl := lv_entry [.ref (a 0), .int x1, .int x2, .ref b] (n := 5) (Nat.le_of_ble_eq_true rfl)
  rw [lg_entry_eq]
  generalize (lg_sl [.ref (a 0), .int x1, .int x2, .ref b] ++ List.replicate (5 - (lg_sl [.ref (a 0), .int x1, .int x2, .ref b]).length) Slot.unset).toArray = ls at hl ⊢
  have hl : lv_has ls 5 [(0, .ref (a 0)), (1, .int x1), (2, .int x2), (3, .ref b)] := hl
  have C0 : Am p s m ([.ref (a 0), .int x1, .int x2, .ref b] : List Value).toArray meth c b_W_part (some .int) 5 R_W D [(cI, .int), (cZ, .boolean)] := ⟨B.exec, B.bytes, B.returns, hml, findClass_of_methodNamed B.named, fun w h => hts0 w (List.mem_cons_of_mem _ h), B.notSynchronized, hK3.1⟩
  obtain ⟨hx, hb, hr, hml, hown, hts, hlk, hK⟩ := id C0
  have hD := hD0.self (sz := s.heap.size)
  generalize hAe : va_A (wO cI cZ cJ a b q u) s.heap.size = A at hD hZ ⊢
  have hA : ∀ q, s.heap.size ≤ q → A q := fun q h => by rw [← hAe]; exact Or.inr h
  have hS : va_S A s.heap s.heap [] := va_S.rf
  unfold f_W_part at h
  replace h := bd h
  obtain ⟨r, g, h⟩ := h
  try dsimp only at h
  have hcnt : res.2.2.1 = r.2.2.1 ∧ res.2.2.2 = r.2.2.2 := by
    rcases hv : r.1 with v | k
    · rw [hv] at h; cases h; exact ⟨rfl, rfl⟩
    · rw [hv] at h; try dsimp only at h
      by_cases z0 : k = 1
      · rw [if_pos z0] at h; cases h; exact ⟨rfl, rfl⟩
      · rw [if_neg z0] at h
        cases h
  refine lv_aload_n hx hb d_W_part_0 rfl (lv_at hl 3 rfl) ?_
  refine lv_iconst (v := 0) hx hb d_W_part_1 (by decide) ?_
  refine lv_aload_n hx hb d_W_part_2 rfl (lv_at hl 0 rfl) ?_
  refine lv_iload_n hx hb d_W_part_3 rfl (lv_at hl 1 rfl) ?_
  refine lv_iload_n hx hb d_W_part_4 rfl (lv_at hl 2 rfl) ?_
  refine tx_V (n := 2) (ci := 0) (As := [.int x1, .int x2]) (rest := [.int 0, .ref b]) (Wn := fun q => wO cI cZ cJ a b q (r.2.1, u.2)) C0 hA hZ (c_L_part l D cI cZ a hl0 q u.1 x1 x2 g) wd_556 ⟨wd_557, wd_558, wd_559, wd_55⟩ (by decide +kernel) ⟨Nat.le_of_ble_eq_true rfl, Nat.le_of_ble_eq_true rfl⟩ hP hD hS [0, 1, 2, 3, 4, 5, 6, 7, 8, 9, 10, 11, 12, 13, 14, 15, 16, 17, 18, 19, 20] [21] [1, 2, 3, 4, 5, 6, 7, 8, 9, 10, 11, 12, 13, 14, 15, 16, 17, 18, 19, 20, 21, 0] jo_C (by decide) jo_R (by decide) (by decide) (by decide) jo_W rfl rfl rfl hl rfl rfl (Nat.le_of_ble_eq_true rfl) ⟨by show 0 + r.2.2.1 ≤ _; exact Nat.le_of_eq (by rw [Nat.zero_add]; exact hcnt.1.symm), by show 0 + r.2.2.2 ≤ _; exact Nat.le_of_eq (by rw [Nat.zero_add]; exact hcnt.2.symm)⟩ d_W_part_5 (fun k H locs q q9 ce hv hP hD hS h1 h2 h3 => ?_) (fun v H locs q hv hP hD hS => ?_)
  · rw [hv] at h
    try dsimp only at h
    by_cases e0 : k = 1
    · subst e0
      rw [if_pos rfl] at h
      cases h
      refine vx_catch (own := R_W) (name := exN 1) hown [] ⟨0, 10, 13, 19⟩ [] (by rw [hTb]; rfl) (fun z hz => nomatch hz) (by decide) (by decide) (hts _ wd_522) (hK.word (List.mem_of_getElem? (i := 12) rfl)) h1 h2 h3 ?_
      refine lv_astore (lv' := [(4, .ref q9), (0, .ref (a 0)), (1, .int x1), (2, .int x2), (3, .ref b)]) hx hb d_W_part_13 hl (by decide) rfl (fun ls hl => ?_)
      refine lv_iconst (v := 1) hx hb d_W_part_15 (by decide) ?_
      refine W.widen (k := r.2.2.1) (n := r.2.2.2) (by omega) (by omega) ?_
      exact W.iret (v := 1) hx hb hr (fun t ht _ => ⟨⟨1, _, rfl, ⟨rfl, rfl⟩, q, by rw [ht]; exact hP, hD⟩, hS.F ht⟩) hS.2.2 d_W_part_16 hlk
    · rw [if_neg e0] at h
      cases h
  · rw [hv] at h
    try dsimp only at h
    cases h
    refine lv_i2l hx hb d_W_part_8 rfl ?_
    refine va_last hx hb hK3.2.1 hP hD hS 21 0 rfl rfl in01 d_W_part_9 (fun H locs hP hD hS => ?_)
    refine lv_goto (tgt := 17) hx hb d_W_part_10 (by decide) ?_
    refine lv_iconst (v := 0) hx hb d_W_part_17 (by decide) ?_
    refine W.widen (k := r.2.2.1) (n := r.2.2.2) (by omega) (by omega) ?_
    exact W.iret (v := 0) hx hb hr (fun t ht _ => ⟨⟨0, _, rfl, ⟨rfl, rfl⟩, q, by rw [ht]; exact hP, hD⟩, hS.F ht⟩) hS.2.2 d_W_part_18 hlk
-- part 07.82W11.lean.txt
def f_W_common (u : StO) (x1 x2 x3 : Int32) : Option (Int32 × StO × Nat × Nat) :=
  (f_L_common u.1 x1 x2 x3).bind fun r => match r.1 with
  | .inl v => some (0, (r.2.1, vp_updL u.2 0 v.toInt64), r.2.2.1, r.2.2.2)
  | .inr k => if k = 1 then some (1, (r.2.1, u.2), r.2.2.1, r.2.2.2) else if k = 3 then some (2, (r.2.1, u.2), r.2.2.1, r.2.2.2) else none
set_option maxHeartbeats 4000000 in
set_option maxRecDepth 100000 in
theorem c_W_common (l : Launch) (D : va_G) (cI cZ cJ : ClassId) (a : Nat → Nat) (hl0 : l.stackTraces = false) (b q : Nat) (u : StO) (x1 x2 x3 : Int32) {res : Int32 × StO × Nat × Nat} (h : f_W_common u x1 x2 x3 = some res) : HpM l y_W_common b_W_common 6 [(0, 12, 15, 19), (0, 12, 19, 21)] 10 164 D cI cZ cJ [.ref (a 0), .int x1, .int x2, .int x3, .ref b] a b q u res := by
  intro sz
  refine va_MetW (hh := [(0, 12, 15, 19), (0, 12, 19, 21)]) (cc := b_W_common) (maxL := 6) (ret := some .int) (by decide) rfl ?_
  intro p e s m args below meth c s₁ B hml hv
  obtain ⟨rfl, hsz, hP, hK3, hD0, hZ⟩ := hv
  subst hsz
  have hts0 := atoms_spec (ws := Cond.codeWith y_W_common b_W_common 6 (some .int) [(0, 12, 15, 19), (0, 12, 19, 21)] :: tb) B.pre
  have hTb := vx_table (x := y_W_common) B (hts0 _ List.mem_cons_self)
  have hl := lv_entry [.ref (a 0), .int x1, .int x2, .int x3, .ref b] (n := 6) (Nat.le_of_ble_eq_true rfl)
  rw [lg_entry_eq]
  generalize (lg_sl [.ref (a 0), .int x1, .int x2, .int x3, .ref b] ++ List.replicate (6 - (lg_sl [.ref (a 0), .int x1, .int x2, .int x3, .ref b]).length) Slot.unset).toArray = ls at hl ⊢
  have hl : lv_has ls 6 [(0, .ref (a 0)), (1, .int x1), (2, .int x2), (3, .int x3), (4, .ref b)] := hl
  have C0 : Am p s m ([.ref (a 0), .int x1, .int x2, .int x3, .ref b] : List Value).toArray meth c b_W_common (some .int) 6 R_W D [(cI, .int), (cZ, .boolean)] := ⟨B.exec, B.bytes, B.returns, hml, findClass_of_methodNamed B.named, fun w h => hts0 w (List.mem_cons_of_mem _ h), B.notSynchronized, hK3.1⟩
  obtain ⟨hx, hb, hr, hml, hown, hts, hlk, hK⟩ := id C0
  have hD := hD0.self (sz := s.heap.size)
  generalize hAe : va_A (wO cI cZ cJ a b q u) s.heap.size = A at hD hZ ⊢
  have hA : ∀ q, s.heap.size ≤ q → A q := fun q h => by rw [← hAe]; exact Or.inr h
  have hS : va_S A s.heap s.heap [] := va_S.rf
  unfold f_W_common at h
  replace h := bd h
  obtain ⟨r, g, h⟩ := h
  try dsimp only at h
  have hcnt : res.2.2.1 = r.2.2.1 ∧ res.2.2.2 = r.2.2.2 := by
    rcases hv : r.1 with v | k
    · rw [hv] at h; cases h; exact ⟨rfl, rfl⟩
    · rw [hv] at h; try dsimp only at h
      by_cases z0 : k = 1
      · rw [if_pos z0] at h; cases h; exact ⟨rfl, rfl⟩
      · rw [if_neg z0] at h
        by_cases z1 : k = 3
        · rw [if_pos z1] at h; cases h; exact ⟨rfl, rfl⟩
        · rw [if_neg z1] at h
          cases h
  refine lv_aload hx hb d_W_common_0 (lv_at hl 4 rfl) ?_
  refine lv_iconst (v := 0) hx hb d_W_common_2 (by decide) ?_
  refine lv_aload_n hx hb d_W_common_3 rfl (lv_at hl 0 rfl) ?_
  refine lv_iload_n hx hb d_W_common_4 rfl (lv_at hl 1 rfl) ?_
  refine lv_iload_n hx hb d_W_common_5 rfl (lv_at hl 2 rfl) ?_
  refine lv_iload_n hx hb d_W_common_6 rfl (lv_at hl 3 rfl) ?_
  refine tx_V (n := 3) (ci := 0) (As := [.int x1, .int x2, .int x3]) (rest := [.int 0, .ref b]) (Wn := fun q => wO cI cZ cJ a b q (r.2.1, u.2)) C0 hA hZ (c_L_common l D cI cZ a hl0 q u.1 x1 x2 x3 g) wd_560 ⟨wd_561, wd_562, wd_563, wd_55⟩ (by decide +kernel) ⟨Nat.le_of_ble_eq_true rfl, Nat.le_of_ble_eq_true rfl⟩ hP hD hS [0, 1, 2, 3, 4, 5, 6, 7, 8, 9, 10, 11, 12, 13, 14, 15, 16, 17, 18, 19, 20] [21] [1, 2, 3, 4, 5, 6, 7, 8, 9, 10, 11, 12, 13, 14, 15, 16, 17, 18, 19, 20, 21, 0] jo_C (by decide) jo_R (by decide) (by decide) (by decide) jo_W rfl rfl rfl hl rfl rfl (Nat.le_of_ble_eq_true rfl) ⟨by show 0 + r.2.2.1 ≤ _; exact Nat.le_of_eq (by rw [Nat.zero_add]; exact hcnt.1.symm), by show 0 + r.2.2.2 ≤ _; exact Nat.le_of_eq (by rw [Nat.zero_add]; exact hcnt.2.symm)⟩ d_W_common_7 (fun k H locs q q9 ce hv hP hD hS h1 h2 h3 => ?_) (fun v H locs q hv hP hD hS => ?_)
  · rw [hv] at h
    try dsimp only at h
    by_cases e0 : k = 1
    · subst e0
      rw [if_pos rfl] at h
      cases h
      refine vx_catch (own := R_W) (name := exN 1) hown [] ⟨0, 12, 15, 19⟩ [⟨0, 12, 19, 21⟩] (by rw [hTb]; rfl) (fun z hz => nomatch hz) (by decide) (by decide) (hts _ wd_522) (hK.word (List.mem_of_getElem? (i := 12) rfl)) h1 h2 h3 ?_
      refine lv_astore (lv' := [(5, .ref q9), (0, .ref (a 0)), (1, .int x1), (2, .int x2), (3, .int x3), (4, .ref b)]) hx hb d_W_common_15 hl (by decide) rfl (fun ls hl => ?_)
      refine lv_iconst (v := 1) hx hb d_W_common_17 (by decide) ?_
      refine W.widen (k := r.2.2.1) (n := r.2.2.2) (by omega) (by omega) ?_
      exact W.iret (v := 1) hx hb hr (fun t ht _ => ⟨⟨1, _, rfl, ⟨rfl, rfl⟩, q, by rw [ht]; exact hP, hD⟩, hS.F ht⟩) hS.2.2 d_W_common_18 hlk
    · rw [if_neg e0] at h
      by_cases e1 : k = 3
      · subst e1
        rw [if_pos rfl] at h
        cases h
        refine vx_catch (own := R_W) (name := exN 3) hown [⟨0, 12, 15, 19⟩] ⟨0, 12, 19, 21⟩ [] (by rw [hTb]; rfl) (fun z hz => by rw [List.mem_singleton] at hz; subst hz; exact Or.inr ⟨by decide, exN 1, hts _ wd_522, hK3.2.2 _ (List.mem_of_getElem? (i := 4) rfl)⟩) (by decide) (by decide) (hts _ wd_523) (hK.word (List.mem_of_getElem? (i := 13) rfl)) h1 h2 h3 ?_
        refine lv_astore (lv' := [(5, .ref q9), (0, .ref (a 0)), (1, .int x1), (2, .int x2), (3, .int x3), (4, .ref b)]) hx hb d_W_common_19 hl (by decide) rfl (fun ls hl => ?_)
        refine lv_iconst (v := 2) hx hb d_W_common_21 (by decide) ?_
        refine W.widen (k := r.2.2.1) (n := r.2.2.2) (by omega) (by omega) ?_
        exact W.iret (v := 2) hx hb hr (fun t ht _ => ⟨⟨2, _, rfl, ⟨rfl, rfl⟩, q, by rw [ht]; exact hP, hD⟩, hS.F ht⟩) hS.2.2 d_W_common_22 hlk
      · rw [if_neg e1] at h
        cases h
  · rw [hv] at h
    try dsimp only at h
    cases h
    refine lv_i2l hx hb d_W_common_10 rfl ?_
    refine va_last hx hb hK3.2.1 hP hD hS 21 0 rfl rfl in01 d_W_common_11 (fun H locs hP hD hS => ?_)
    refine lv_goto (tgt := 23) hx hb d_W_common_12 (by decide) ?_
    refine lv_iconst (v := 0) hx hb d_W_common_23 (by decide) ?_
    refine W.widen (k := r.2.2.1) (n := r.2.2.2) (by omega) (by omega) ?_
    exact W.iret (v := 0) hx hb hr (fun t ht _ => ⟨⟨0, _, rfl, ⟨rfl, rfl⟩, q, by rw [ht]; exact hP, hD⟩, hS.F ht⟩) hS.2.2 d_W_common_24 hlk
-- part 07.82W12.lean.txt
def f_W_isUnder (u : StO) (x1 x2 : Int32) : Option (Int32 × StO × Nat × Nat) :=
  (f_L_isUnder u.1 x1 x2).bind fun r => match r.1 with
  | .inl v => some (0, (r.2.1, vp_updL u.2 0 (if v = 0 then 0 else 1)), r.2.2.1, r.2.2.2)
  | .inr k => if k = 1 then some (1, (r.2.1, u.2), r.2.2.1, r.2.2.2) else none
set_option maxHeartbeats 4000000 in
set_option maxRecDepth 100000 in
theorem c_W_isUnder (l : Launch) (D : va_G) (cI cZ cJ : ClassId) (a : Nat → Nat) (hl0 : l.stackTraces = false) (b q : Nat) (u : StO) (x1 x2 : Int32) {res : Int32 × StO × Nat × Nat} (h : f_W_isUnder u x1 x2 = some res) : HpM l y_W_isUnder b_W_isUnder 5 [(0, 17, 20, 19)] 10 163 D cI cZ cJ [.ref (a 0), .int x1, .int x2, .ref b] a b q u res := by
  intro sz
  refine va_MetW (hh := [(0, 17, 20, 19)]) (cc := b_W_isUnder) (maxL := 5) (ret := some .int) (by decide) rfl ?_
  intro p e s m args below meth c s₁ B hml hv
  obtain ⟨rfl, hsz, hP, hK3, hD0, hZ⟩ := hv
  subst hsz
  have hts0 := atoms_spec (ws := Cond.codeWith y_W_isUnder b_W_isUnder 5 (some .int) [(0, 17, 20, 19)] :: tb) B.pre
  have hTb := vx_table (x := y_W_isUnder) B (hts0 _ List.mem_cons_self)
  have hl := lv_entry [.ref (a 0), .int x1, .int x2, .ref b] (n := 5) (Nat.le_of_ble_eq_true rfl)
  rw [lg_entry_eq]
  generalize (lg_sl [.ref (a 0), .int x1, .int x2, .ref b] ++ List.replicate (5 - (lg_sl [.ref (a 0), .int x1, .int x2, .ref b]).length) Slot.unset).toArray = ls at hl ⊢
  have hl : lv_has ls 5 [(0, .ref (a 0)), (1, .int x1), (2, .int x2), (3, .ref b)] := hl
  have C0 : Am p s m ([.ref (a 0), .int x1, .int x2, .ref b] : List Value).toArray meth c b_W_isUnder (some .int) 5 R_W D [(cI, .int), (cZ, .boolean)] := ⟨B.exec, B.bytes, B.returns, hml, findClass_of_methodNamed B.named, fun w h => hts0 w (List.mem_cons_of_mem _ h), B.notSynchronized, hK3.1⟩
  obtain ⟨hx, hb, hr, hml, hown, hts, hlk, hK⟩ := id C0
  have hD := hD0.self (sz := s.heap.size)
  generalize hAe : va_A (wO cI cZ cJ a b q u) s.heap.size = A at hD hZ ⊢
  have hA : ∀ q, s.heap.size ≤ q → A q := fun q h => by rw [← hAe]; exact Or.inr h
  have hS : va_S A s.heap s.heap [] := va_S.rf
  unfold f_W_isUnder at h
  replace h := bd h
  obtain ⟨r, g, h⟩ := h
  try dsimp only at h
  have hcnt : res.2.2.1 = r.2.2.1 ∧ res.2.2.2 = r.2.2.2 := by
    rcases hv : r.1 with v | k
    · rw [hv] at h; cases h; exact ⟨rfl, rfl⟩
    · rw [hv] at h; try dsimp only at h
      by_cases z0 : k = 1
      · rw [if_pos z0] at h; cases h; exact ⟨rfl, rfl⟩
      · rw [if_neg z0] at h
        cases h
  refine lv_aload_n hx hb d_W_isUnder_0 rfl (lv_at hl 3 rfl) ?_
  refine lv_iconst (v := 0) hx hb d_W_isUnder_1 (by decide) ?_
  refine lv_aload_n hx hb d_W_isUnder_2 rfl (lv_at hl 0 rfl) ?_
  refine lv_iload_n hx hb d_W_isUnder_3 rfl (lv_at hl 1 rfl) ?_
  refine lv_iload_n hx hb d_W_isUnder_4 rfl (lv_at hl 2 rfl) ?_
  refine tx_V (n := 2) (ci := 0) (As := [.int x1, .int x2]) (rest := [.int 0, .ref b]) (Wn := fun q => wO cI cZ cJ a b q (r.2.1, u.2)) C0 hA hZ (c_L_isUnder l D cI cZ a hl0 q u.1 x1 x2 g) wd_564 ⟨wd_565, wd_566, wd_567, wd_55⟩ (by decide +kernel) ⟨Nat.le_of_ble_eq_true rfl, Nat.le_of_ble_eq_true rfl⟩ hP hD hS [0, 1, 2, 3, 4, 5, 6, 7, 8, 9, 10, 11, 12, 13, 14, 15, 16, 17, 18, 19, 20] [21] [1, 2, 3, 4, 5, 6, 7, 8, 9, 10, 11, 12, 13, 14, 15, 16, 17, 18, 19, 20, 21, 0] jo_C (by decide) jo_R (by decide) (by decide) (by decide) jo_W rfl rfl rfl hl rfl rfl (Nat.le_of_ble_eq_true rfl) ⟨by show 0 + r.2.2.1 ≤ _; exact Nat.le_of_eq (by rw [Nat.zero_add]; exact hcnt.1.symm), by show 0 + r.2.2.2 ≤ _; exact Nat.le_of_eq (by rw [Nat.zero_add]; exact hcnt.2.symm)⟩ d_W_isUnder_5 (fun k H locs q q9 ce hv hP hD hS h1 h2 h3 => ?_) (fun v H locs q hv hP hD hS => ?_)
  · rw [hv] at h
    try dsimp only at h
    by_cases e0 : k = 1
    · subst e0
      rw [if_pos rfl] at h
      cases h
      refine vx_catch (own := R_W) (name := exN 1) hown [] ⟨0, 17, 20, 19⟩ [] (by rw [hTb]; rfl) (fun z hz => nomatch hz) (by decide) (by decide) (hts _ wd_522) (hK.word (List.mem_of_getElem? (i := 12) rfl)) h1 h2 h3 ?_
      refine lv_astore (lv' := [(4, .ref q9), (0, .ref (a 0)), (1, .int x1), (2, .int x2), (3, .ref b)]) hx hb d_W_isUnder_20 hl (by decide) rfl (fun ls hl => ?_)
      refine lv_iconst (v := 1) hx hb d_W_isUnder_22 (by decide) ?_
      refine W.widen (k := r.2.2.1) (n := r.2.2.2) (by omega) (by omega) ?_
      exact W.iret (v := 1) hx hb hr (fun t ht _ => ⟨⟨1, _, rfl, ⟨rfl, rfl⟩, q, by rw [ht]; exact hP, hD⟩, hS.F ht⟩) hS.2.2 d_W_isUnder_23 hlk
    · rw [if_neg e0] at h
      cases h
  · rw [hv] at h
    try dsimp only at h
    cases h
    refine lv_if_eq (tgt := 15) hx hb d_W_isUnder_8 (by decide) (fun hc => ?_) (fun hc => ?_)
    · refine lv_lconst (v := 0) hx hb d_W_isUnder_15 (by decide) ?_
      refine va_last hx hb hK3.2.1 hP hD hS 21 0 rfl rfl in01 d_W_isUnder_16 (fun H locs hP hD hS => ?_)
      refine lv_goto (tgt := 24) hx hb d_W_isUnder_17 (by decide) ?_
      refine lv_iconst (v := 0) hx hb d_W_isUnder_24 (by decide) ?_
      rw [if_pos hc]
      refine W.widen (k := r.2.2.1) (n := r.2.2.2) (by omega) (by omega) ?_
      exact W.iret (v := 0) hx hb hr (fun t ht _ => ⟨⟨0, _, rfl, ⟨rfl, rfl⟩, q, by rw [ht]; exact hP, hD⟩, hS.F ht⟩) hS.2.2 d_W_isUnder_25 hlk
    · refine lv_lconst (v := 1) hx hb d_W_isUnder_11 (by decide) ?_
      refine lv_goto (tgt := 16) hx hb d_W_isUnder_12 (by decide) ?_
      refine va_last hx hb hK3.2.1 hP hD hS 21 0 rfl rfl in01 d_W_isUnder_16 (fun H locs hP hD hS => ?_)
      refine lv_goto (tgt := 24) hx hb d_W_isUnder_17 (by decide) ?_
      refine lv_iconst (v := 0) hx hb d_W_isUnder_24 (by decide) ?_
      rw [if_neg hc]
      refine W.widen (k := r.2.2.1) (n := r.2.2.2) (by omega) (by omega) ?_
      exact W.iret (v := 0) hx hb hr (fun t ht _ => ⟨⟨0, _, rfl, ⟨rfl, rfl⟩, q, by rw [ht]; exact hP, hD⟩, hS.F ht⟩) hS.2.2 d_W_isUnder_25 hlk
-- part 07.82W13.lean.txt
def f_W_classed (u : StO) (x1 x2 : Int32) : Option (Int32 × StO × Nat × Nat) :=
  (f_L_classed u.1 x1 x2).bind fun r => match r.1 with
  | .inl v => some (0, (r.2.1, vp_updL u.2 0 v.toInt64), r.2.2.1, r.2.2.2)
  | .inr k => if k = 1 then some (1, (r.2.1, u.2), r.2.2.1, r.2.2.2) else if k = 3 then some (2, (r.2.1, u.2), r.2.2.1, r.2.2.2) else none
set_option maxHeartbeats 4000000 in
set_option maxRecDepth 100000 in
theorem c_W_classed (l : Launch) (D : va_G) (cI cZ cJ : ClassId) (a : Nat → Nat) (hl0 : l.stackTraces = false) (b q : Nat) (u : StO) (x1 x2 : Int32) {res : Int32 × StO × Nat × Nat} (h : f_W_classed u x1 x2 = some res) : HpM l y_W_classed b_W_classed 5 [(0, 10, 13, 19), (0, 10, 17, 21)] 10 163 D cI cZ cJ [.ref (a 0), .int x1, .int x2, .ref b] a b q u res := by
  intro sz
  refine va_MetW (hh := [(0, 10, 13, 19), (0, 10, 17, 21)]) (cc := b_W_classed) (maxL := 5) (ret := some .int) (by decide) rfl ?_
  intro p e s m args below meth c s₁ B hml hv
  obtain ⟨rfl, hsz, hP, hK3, hD0, hZ⟩ := hv
  subst hsz
  have hts0 := atoms_spec (ws := Cond.codeWith y_W_classed b_W_classed 5 (some .int) [(0, 10, 13, 19), (0, 10, 17, 21)] :: tb) B.pre
  have hTb := vx_table (x := y_W_classed) B (hts0 _ List.mem_cons_self)
  have hl := lv_entry [.ref (a 0), .int x1, .int x2, .ref b] (n := 5) (Nat.le_of_ble_eq_true rfl)
  rw [lg_entry_eq]
  generalize (lg_sl [.ref (a 0), .int x1, .int x2, .ref b] ++ List.replicate (5 - (lg_sl [.ref (a 0), .int x1, .int x2, .ref b]).length) Slot.unset).toArray = ls at hl ⊢
  have hl : lv_has ls 5 [(0, .ref (a 0)), (1, .int x1), (2, .int x2), (3, .ref b)] := hl
  have C0 : Am p s m ([.ref (a 0), .int x1, .int x2, .ref b] : List Value).toArray meth c b_W_classed (some .int) 5 R_W D [(cI, .int), (cZ, .boolean)] := ⟨B.exec, B.bytes, B.returns, hml, findClass_of_methodNamed B.named, fun w h => hts0 w (List.mem_cons_of_mem _ h), B.notSynchronized, hK3.1⟩
  obtain ⟨hx, hb, hr, hml, hown, hts, hlk, hK⟩ := id C0
  have hD := hD0.self (sz := s.heap.size)
  generalize hAe : va_A (wO cI cZ cJ a b q u) s.heap.size = A at hD hZ ⊢
  have hA : ∀ q, s.heap.size ≤ q → A q := fun q h => by rw [← hAe]; exact Or.inr h
  have hS : va_S A s.heap s.heap [] := va_S.rf
  unfold f_W_classed at h
  replace h := bd h
  obtain ⟨r, g, h⟩ := h
  try dsimp only at h
  have hcnt : res.2.2.1 = r.2.2.1 ∧ res.2.2.2 = r.2.2.2 := by
    rcases hv : r.1 with v | k
    · rw [hv] at h; cases h; exact ⟨rfl, rfl⟩
    · rw [hv] at h; try dsimp only at h
      by_cases z0 : k = 1
      · rw [if_pos z0] at h; cases h; exact ⟨rfl, rfl⟩
      · rw [if_neg z0] at h
        by_cases z1 : k = 3
        · rw [if_pos z1] at h; cases h; exact ⟨rfl, rfl⟩
        · rw [if_neg z1] at h
          cases h
  refine lv_aload_n hx hb d_W_classed_0 rfl (lv_at hl 3 rfl) ?_
  refine lv_iconst (v := 0) hx hb d_W_classed_1 (by decide) ?_
  refine lv_aload_n hx hb d_W_classed_2 rfl (lv_at hl 0 rfl) ?_
  refine lv_iload_n hx hb d_W_classed_3 rfl (lv_at hl 1 rfl) ?_
  refine lv_iload_n hx hb d_W_classed_4 rfl (lv_at hl 2 rfl) ?_
  refine tx_V (n := 2) (ci := 0) (As := [.int x1, .int x2]) (rest := [.int 0, .ref b]) (Wn := fun q => wO cI cZ cJ a b q (r.2.1, u.2)) C0 hA hZ (c_L_classed l D cI cZ a hl0 q u.1 x1 x2 g) wd_568 ⟨wd_569, wd_570, wd_571, wd_55⟩ (by decide +kernel) ⟨Nat.le_of_ble_eq_true rfl, Nat.le_of_ble_eq_true rfl⟩ hP hD hS [0, 1, 2, 3, 4, 5, 6, 7, 8, 9, 10, 11, 12, 13, 14, 15, 16, 17, 18, 19, 20] [21] [1, 2, 3, 4, 5, 6, 7, 8, 9, 10, 11, 12, 13, 14, 15, 16, 17, 18, 19, 20, 21, 0] jo_C (by decide) jo_R (by decide) (by decide) (by decide) jo_W rfl rfl rfl hl rfl rfl (Nat.le_of_ble_eq_true rfl) ⟨by show 0 + r.2.2.1 ≤ _; exact Nat.le_of_eq (by rw [Nat.zero_add]; exact hcnt.1.symm), by show 0 + r.2.2.2 ≤ _; exact Nat.le_of_eq (by rw [Nat.zero_add]; exact hcnt.2.symm)⟩ d_W_classed_5 (fun k H locs q q9 ce hv hP hD hS h1 h2 h3 => ?_) (fun v H locs q hv hP hD hS => ?_)
  · rw [hv] at h
    try dsimp only at h
    by_cases e0 : k = 1
    · subst e0
      rw [if_pos rfl] at h
      cases h
      refine vx_catch (own := R_W) (name := exN 1) hown [] ⟨0, 10, 13, 19⟩ [⟨0, 10, 17, 21⟩] (by rw [hTb]; rfl) (fun z hz => nomatch hz) (by decide) (by decide) (hts _ wd_522) (hK.word (List.mem_of_getElem? (i := 12) rfl)) h1 h2 h3 ?_
      refine lv_astore (lv' := [(4, .ref q9), (0, .ref (a 0)), (1, .int x1), (2, .int x2), (3, .ref b)]) hx hb d_W_classed_13 hl (by decide) rfl (fun ls hl => ?_)
      refine lv_iconst (v := 1) hx hb d_W_classed_15 (by decide) ?_
      refine W.widen (k := r.2.2.1) (n := r.2.2.2) (by omega) (by omega) ?_
      exact W.iret (v := 1) hx hb hr (fun t ht _ => ⟨⟨1, _, rfl, ⟨rfl, rfl⟩, q, by rw [ht]; exact hP, hD⟩, hS.F ht⟩) hS.2.2 d_W_classed_16 hlk
    · rw [if_neg e0] at h
      by_cases e1 : k = 3
      · subst e1
        rw [if_pos rfl] at h
        cases h
        refine vx_catch (own := R_W) (name := exN 3) hown [⟨0, 10, 13, 19⟩] ⟨0, 10, 17, 21⟩ [] (by rw [hTb]; rfl) (fun z hz => by rw [List.mem_singleton] at hz; subst hz; exact Or.inr ⟨by decide, exN 1, hts _ wd_522, hK3.2.2 _ (List.mem_of_getElem? (i := 4) rfl)⟩) (by decide) (by decide) (hts _ wd_523) (hK.word (List.mem_of_getElem? (i := 13) rfl)) h1 h2 h3 ?_
        refine lv_astore (lv' := [(4, .ref q9), (0, .ref (a 0)), (1, .int x1), (2, .int x2), (3, .ref b)]) hx hb d_W_classed_17 hl (by decide) rfl (fun ls hl => ?_)
        refine lv_iconst (v := 2) hx hb d_W_classed_19 (by decide) ?_
        refine W.widen (k := r.2.2.1) (n := r.2.2.2) (by omega) (by omega) ?_
        exact W.iret (v := 2) hx hb hr (fun t ht _ => ⟨⟨2, _, rfl, ⟨rfl, rfl⟩, q, by rw [ht]; exact hP, hD⟩, hS.F ht⟩) hS.2.2 d_W_classed_20 hlk
      · rw [if_neg e1] at h
        cases h
  · rw [hv] at h
    try dsimp only at h
    cases h
    refine lv_i2l hx hb d_W_classed_8 rfl ?_
    refine va_last hx hb hK3.2.1 hP hD hS 21 0 rfl rfl in01 d_W_classed_9 (fun H locs hP hD hS => ?_)
    refine lv_goto (tgt := 21) hx hb d_W_classed_10 (by decide) ?_
    refine lv_iconst (v := 0) hx hb d_W_classed_21 (by decide) ?_
    refine W.widen (k := r.2.2.1) (n := r.2.2.2) (by omega) (by omega) ?_
    exact W.iret (v := 0) hx hb hr (fun t ht _ => ⟨⟨0, _, rfl, ⟨rfl, rfl⟩, q, by rw [ht]; exact hP, hD⟩, hS.F ht⟩) hS.2.2 d_W_classed_22 hlk
-- part 07.82W14.lean.txt
def f_W_direct (u : StO) (x1 x2 x3 : Int32) : Option (Int32 × StO × Nat × Nat) :=
  (f_L_direct u.1 x1 x2 x3).bind fun r => match r.1 with
  | .inl v => some (0, (r.2.1, vp_updL u.2 0 v.toInt64), r.2.2.1, r.2.2.2)
  | .inr k => if k = 1 then some (1, (r.2.1, u.2), r.2.2.1, r.2.2.2) else if k = 3 then some (2, (r.2.1, u.2), r.2.2.1, r.2.2.2) else none
set_option maxHeartbeats 4000000 in
set_option maxRecDepth 100000 in
theorem c_W_direct (l : Launch) (D : va_G) (cI cZ cJ : ClassId) (a : Nat → Nat) (hl0 : l.stackTraces = false) (b q : Nat) (u : StO) (x1 x2 x3 : Int32) {res : Int32 × StO × Nat × Nat} (h : f_W_direct u x1 x2 x3 = some res) : HpM l y_W_direct b_W_direct 6 [(0, 12, 15, 19), (0, 12, 19, 21)] 10 164 D cI cZ cJ [.ref (a 0), .int x1, .int x2, .int x3, .ref b] a b q u res := by
  intro sz
  refine va_MetW (hh := [(0, 12, 15, 19), (0, 12, 19, 21)]) (cc := b_W_direct) (maxL := 6) (ret := some .int) (by decide) rfl ?_
  intro p e s m args below meth c s₁ B hml hv
  obtain ⟨rfl, hsz, hP, hK3, hD0, hZ⟩ := hv
  subst hsz
  have hts0 := atoms_spec (ws := Cond.codeWith y_W_direct b_W_direct 6 (some .int) [(0, 12, 15, 19), (0, 12, 19, 21)] :: tb) B.pre
  have hTb := vx_table (x := y_W_direct) B (hts0 _ List.mem_cons_self)
  have hl := lv_entry [.ref (a 0), .int x1, .int x2, .int x3, .ref b] (n := 6) (Nat.le_of_ble_eq_true rfl)
  rw [lg_entry_eq]
  generalize (lg_sl [.ref (a 0), .int x1, .int x2, .int x3, .ref b] ++ List.replicate (6 - (lg_sl [.ref (a 0), .int x1, .int x2, .int x3, .ref b]).length) Slot.unset).toArray = ls at hl ⊢
  have hl : lv_has ls 6 [(0, .ref (a 0)), (1, .int x1), (2, .int x2), (3, .int x3), (4, .ref b)] := hl
  have C0 : Am p s m ([.ref (a 0), .int x1, .int x2, .int x3, .ref b] : List Value).toArray meth c b_W_direct (some .int) 6 R_W D [(cI, .int), (cZ, .boolean)] := ⟨B.exec, B.bytes, B.returns, hml, findClass_of_methodNamed B.named, fun w h => hts0 w (List.mem_cons_of_mem _ h), B.notSynchronized, hK3.1⟩
  obtain ⟨hx, hb, hr, hml, hown, hts, hlk, hK⟩ := id C0
  have hD := hD0.self (sz := s.heap.size)
  generalize hAe : va_A (wO cI cZ cJ a b q u) s.heap.size = A at hD hZ ⊢
  have hA : ∀ q, s.heap.size ≤ q → A q := fun q h => by rw [← hAe]; exact Or.inr h
  have hS : va_S A s.heap s.heap [] := va_S.rf
  unfold f_W_direct at h
  replace h := bd h
  obtain ⟨r, g, h⟩ := h
  try dsimp only at h
  have hcnt : res.2.2.1 = r.2.2.1 ∧ res.2.2.2 = r.2.2.2 := by
    rcases hv : r.1 with v | k
    · rw [hv] at h; cases h; exact ⟨rfl, rfl⟩
    · rw [hv] at h; try dsimp only at h
      by_cases z0 : k = 1
      · rw [if_pos z0] at h; cases h; exact ⟨rfl, rfl⟩
      · rw [if_neg z0] at h
        by_cases z1 : k = 3
        · rw [if_pos z1] at h; cases h; exact ⟨rfl, rfl⟩
        · rw [if_neg z1] at h
          cases h
  refine lv_aload hx hb d_W_direct_0 (lv_at hl 4 rfl) ?_
  refine lv_iconst (v := 0) hx hb d_W_direct_2 (by decide) ?_
  refine lv_aload_n hx hb d_W_direct_3 rfl (lv_at hl 0 rfl) ?_
  refine lv_iload_n hx hb d_W_direct_4 rfl (lv_at hl 1 rfl) ?_
  refine lv_iload_n hx hb d_W_direct_5 rfl (lv_at hl 2 rfl) ?_
  refine lv_iload_n hx hb d_W_direct_6 rfl (lv_at hl 3 rfl) ?_
  refine tx_V (n := 3) (ci := 0) (As := [.int x1, .int x2, .int x3]) (rest := [.int 0, .ref b]) (Wn := fun q => wO cI cZ cJ a b q (r.2.1, u.2)) C0 hA hZ (c_L_direct l D cI cZ a hl0 q u.1 x1 x2 x3 g) wd_572 ⟨wd_573, wd_574, wd_575, wd_55⟩ (by decide +kernel) ⟨Nat.le_of_ble_eq_true rfl, Nat.le_of_ble_eq_true rfl⟩ hP hD hS [0, 1, 2, 3, 4, 5, 6, 7, 8, 9, 10, 11, 12, 13, 14, 15, 16, 17, 18, 19, 20] [21] [1, 2, 3, 4, 5, 6, 7, 8, 9, 10, 11, 12, 13, 14, 15, 16, 17, 18, 19, 20, 21, 0] jo_C (by decide) jo_R (by decide) (by decide) (by decide) jo_W rfl rfl rfl hl rfl rfl (Nat.le_of_ble_eq_true rfl) ⟨by show 0 + r.2.2.1 ≤ _; exact Nat.le_of_eq (by rw [Nat.zero_add]; exact hcnt.1.symm), by show 0 + r.2.2.2 ≤ _; exact Nat.le_of_eq (by rw [Nat.zero_add]; exact hcnt.2.symm)⟩ d_W_direct_7 (fun k H locs q q9 ce hv hP hD hS h1 h2 h3 => ?_) (fun v H locs q hv hP hD hS => ?_)
  · rw [hv] at h
    try dsimp only at h
    by_cases e0 : k = 1
    · subst e0
      rw [if_pos rfl] at h
      cases h
      refine vx_catch (own := R_W) (name := exN 1) hown [] ⟨0, 12, 15, 19⟩ [⟨0, 12, 19, 21⟩] (by rw [hTb]; rfl) (fun z hz => nomatch hz) (by decide) (by decide) (hts _ wd_522) (hK.word (List.mem_of_getElem? (i := 12) rfl)) h1 h2 h3 ?_
      refine lv_astore (lv' := [(5, .ref q9), (0, .ref (a 0)), (1, .int x1), (2, .int x2), (3, .int x3), (4, .ref b)]) hx hb d_W_direct_15 hl (by decide) rfl (fun ls hl => ?_)
      refine lv_iconst (v := 1) hx hb d_W_direct_17 (by decide) ?_
      refine W.widen (k := r.2.2.1) (n := r.2.2.2) (by omega) (by omega) ?_
      exact W.iret (v := 1) hx hb hr (fun t ht _ => ⟨⟨1, _, rfl, ⟨rfl, rfl⟩, q, by rw [ht]; exact hP, hD⟩, hS.F ht⟩) hS.2.2 d_W_direct_18 hlk
    · rw [if_neg e0] at h
      by_cases e1 : k = 3
      · subst e1
        rw [if_pos rfl] at h
        cases h
        refine vx_catch (own := R_W) (name := exN 3) hown [⟨0, 12, 15, 19⟩] ⟨0, 12, 19, 21⟩ [] (by rw [hTb]; rfl) (fun z hz => by rw [List.mem_singleton] at hz; subst hz; exact Or.inr ⟨by decide, exN 1, hts _ wd_522, hK3.2.2 _ (List.mem_of_getElem? (i := 4) rfl)⟩) (by decide) (by decide) (hts _ wd_523) (hK.word (List.mem_of_getElem? (i := 13) rfl)) h1 h2 h3 ?_
        refine lv_astore (lv' := [(5, .ref q9), (0, .ref (a 0)), (1, .int x1), (2, .int x2), (3, .int x3), (4, .ref b)]) hx hb d_W_direct_19 hl (by decide) rfl (fun ls hl => ?_)
        refine lv_iconst (v := 2) hx hb d_W_direct_21 (by decide) ?_
        refine W.widen (k := r.2.2.1) (n := r.2.2.2) (by omega) (by omega) ?_
        exact W.iret (v := 2) hx hb hr (fun t ht _ => ⟨⟨2, _, rfl, ⟨rfl, rfl⟩, q, by rw [ht]; exact hP, hD⟩, hS.F ht⟩) hS.2.2 d_W_direct_22 hlk
      · rw [if_neg e1] at h
        cases h
  · rw [hv] at h
    try dsimp only at h
    cases h
    refine lv_i2l hx hb d_W_direct_10 rfl ?_
    refine va_last hx hb hK3.2.1 hP hD hS 21 0 rfl rfl in01 d_W_direct_11 (fun H locs hP hD hS => ?_)
    refine lv_goto (tgt := 23) hx hb d_W_direct_12 (by decide) ?_
    refine lv_iconst (v := 0) hx hb d_W_direct_23 (by decide) ?_
    refine W.widen (k := r.2.2.1) (n := r.2.2.2) (by omega) (by omega) ?_
    exact W.iret (v := 0) hx hb hr (fun t ht _ => ⟨⟨0, _, rfl, ⟨rfl, rfl⟩, q, by rw [ht]; exact hP, hD⟩, hS.F ht⟩) hS.2.2 d_W_direct_24 hlk
-- part 07.82W15.lean.txt
def f_W_told (u : StO) (x1 : Int32) : Option (Int32 × StO × Nat × Nat) :=
  (f_L_told u.1 x1).bind fun r => match r.1 with
  | .inl v => some (0, (r.2.1, vp_updL u.2 0 v.toInt64), r.2.2.1, r.2.2.2)
  | .inr k => if k = 3 then some (1, (r.2.1, u.2), r.2.2.1, r.2.2.2) else none
set_option maxHeartbeats 4000000 in
set_option maxRecDepth 100000 in
theorem c_W_told (l : Launch) (D : va_G) (cI cZ cJ : ClassId) (a : Nat → Nat) (hl0 : l.stackTraces = false) (b q : Nat) (u : StO) (x1 : Int32) {res : Int32 × StO × Nat × Nat} (h : f_W_told u x1 = some res) : HpM l y_W_told b_W_told 4 [(0, 9, 12, 21)] 9 141 D cI cZ cJ [.ref (a 0), .int x1, .ref b] a b q u res := by
  intro sz
  refine va_MetW (hh := [(0, 9, 12, 21)]) (cc := b_W_told) (maxL := 4) (ret := some .int) (by decide) rfl ?_
  intro p e s m args below meth c s₁ B hml hv
  obtain ⟨rfl, hsz, hP, hK3, hD0, hZ⟩ := hv
  subst hsz
  have hts0 := atoms_spec (ws := Cond.codeWith y_W_told b_W_told 4 (some .int) [(0, 9, 12, 21)] :: tb) B.pre
  have hTb := vx_table (x := y_W_told) B (hts0 _ List.mem_cons_self)
  have hl := lv_entry [.ref (a 0), .int x1, .ref b] (n := 4) (Nat.le_of_ble_eq_true rfl)
  rw [lg_entry_eq]
  generalize (lg_sl [.ref (a 0), .int x1, .ref b] ++ List.replicate (4 - (lg_sl [.ref (a 0), .int x1, .ref b]).length) Slot.unset).toArray = ls at hl ⊢
  have hl : lv_has ls 4 [(0, .ref (a 0)), (1, .int x1), (2, .ref b)] := hl
  have C0 : Am p s m ([.ref (a 0), .int x1, .ref b] : List Value).toArray meth c b_W_told (some .int) 4 R_W D [(cI, .int), (cZ, .boolean)] := ⟨B.exec, B.bytes, B.returns, hml, findClass_of_methodNamed B.named, fun w h => hts0 w (List.mem_cons_of_mem _ h), B.notSynchronized, hK3.1⟩
  obtain ⟨hx, hb, hr, hml, hown, hts, hlk, hK⟩ := id C0
  have hD := hD0.self (sz := s.heap.size)
  generalize hAe : va_A (wO cI cZ cJ a b q u) s.heap.size = A at hD hZ ⊢
  have hA : ∀ q, s.heap.size ≤ q → A q := fun q h => by rw [← hAe]; exact Or.inr h
  have hS : va_S A s.heap s.heap [] := va_S.rf
  unfold f_W_told at h
  replace h := bd h
  obtain ⟨r, g, h⟩ := h
  try dsimp only at h
  have hcnt : res.2.2.1 = r.2.2.1 ∧ res.2.2.2 = r.2.2.2 := by
    rcases hv : r.1 with v | k
    · rw [hv] at h; cases h; exact ⟨rfl, rfl⟩
    · rw [hv] at h; try dsimp only at h
      by_cases z0 : k = 3
      · rw [if_pos z0] at h; cases h; exact ⟨rfl, rfl⟩
      · rw [if_neg z0] at h
        cases h
  refine lv_aload_n hx hb d_W_told_0 rfl (lv_at hl 2 rfl) ?_
  refine lv_iconst (v := 0) hx hb d_W_told_1 (by decide) ?_
  refine lv_aload_n hx hb d_W_told_2 rfl (lv_at hl 0 rfl) ?_
  refine lv_iload_n hx hb d_W_told_3 rfl (lv_at hl 1 rfl) ?_
  refine tx_V (n := 1) (ci := 0) (As := [.int x1]) (rest := [.int 0, .ref b]) (Wn := fun q => wO cI cZ cJ a b q (r.2.1, u.2)) C0 hA hZ (c_L_told l D cI cZ a hl0 q u.1 x1 g) wd_576 ⟨wd_577, wd_578, wd_579, wd_55⟩ (by decide +kernel) ⟨Nat.le_of_ble_eq_true rfl, Nat.le_of_ble_eq_true rfl⟩ hP hD hS [0, 1, 2, 3, 4, 5, 6, 7, 8, 9, 10, 11, 12, 13, 14, 15, 16, 17, 18, 19, 20] [21] [1, 2, 3, 4, 5, 6, 7, 8, 9, 10, 11, 12, 13, 14, 15, 16, 17, 18, 19, 20, 21, 0] jo_C (by decide) jo_R (by decide) (by decide) (by decide) jo_W rfl rfl rfl hl rfl rfl (Nat.le_of_ble_eq_true rfl) ⟨by show 0 + r.2.2.1 ≤ _; exact Nat.le_of_eq (by rw [Nat.zero_add]; exact hcnt.1.symm), by show 0 + r.2.2.2 ≤ _; exact Nat.le_of_eq (by rw [Nat.zero_add]; exact hcnt.2.symm)⟩ d_W_told_4 (fun k H locs q q9 ce hv hP hD hS h1 h2 h3 => ?_) (fun v H locs q hv hP hD hS => ?_)
  · rw [hv] at h
    try dsimp only at h
    by_cases e0 : k = 3
    · subst e0
      rw [if_pos rfl] at h
      cases h
      refine vx_catch (own := R_W) (name := exN 3) hown [] ⟨0, 9, 12, 21⟩ [] (by rw [hTb]; rfl) (fun z hz => nomatch hz) (by decide) (by decide) (hts _ wd_523) (hK.word (List.mem_of_getElem? (i := 13) rfl)) h1 h2 h3 ?_
      refine lv_astore_n (lv' := [(3, .ref q9), (0, .ref (a 0)), (1, .int x1), (2, .ref b)]) hx hb d_W_told_12 rfl hl (by decide) rfl (fun ls hl => ?_)
      refine lv_iconst (v := 1) hx hb d_W_told_13 (by decide) ?_
      refine W.widen (k := r.2.2.1) (n := r.2.2.2) (by omega) (by omega) ?_
      exact W.iret (v := 1) hx hb hr (fun t ht _ => ⟨⟨1, _, rfl, ⟨rfl, rfl⟩, q, by rw [ht]; exact hP, hD⟩, hS.F ht⟩) hS.2.2 d_W_told_14 hlk
    · rw [if_neg e0] at h
      cases h
  · rw [hv] at h
    try dsimp only at h
    cases h
    refine lv_i2l hx hb d_W_told_7 rfl ?_
    refine va_last hx hb hK3.2.1 hP hD hS 21 0 rfl rfl in01 d_W_told_8 (fun H locs hP hD hS => ?_)
    refine lv_goto (tgt := 15) hx hb d_W_told_9 (by decide) ?_
    refine lv_iconst (v := 0) hx hb d_W_told_15 (by decide) ?_
    refine W.widen (k := r.2.2.1) (n := r.2.2.2) (by omega) (by omega) ?_
    exact W.iret (v := 0) hx hb hr (fun t ht _ => ⟨⟨0, _, rfl, ⟨rfl, rfl⟩, q, by rw [ht]; exact hP, hD⟩, hS.F ht⟩) hS.2.2 d_W_told_16 hlk
