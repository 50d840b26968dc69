theorem d_W_declare_0 : decode b_W_declare 0 = .ok (.aload_n 3, 1) := by decide +kernel
theorem d_W_declare_1 : decode b_W_declare 1 = .ok (.iconst 0, 1) := by decide +kernel
theorem d_W_declare_2 : decode b_W_declare 2 = .ok (.aload_n 0, 1) := by decide +kernel
theorem d_W_declare_3 : decode b_W_declare 3 = .ok (.iload_n 1, 1) := by decide +kernel
theorem d_W_declare_4 : decode b_W_declare 4 = .ok (.iload_n 2, 1) := by decide +kernel
theorem d_W_declare_5 : decode b_W_declare 5 = .ok (.invokevirtual 7, 3) := by decide +kernel
theorem d_W_declare_8 : decode b_W_declare 8 = .ok (.i2l, 1) := by decide +kernel
theorem d_W_declare_9 : decode b_W_declare 9 = .ok (.lastore, 1) := by decide +kernel
theorem d_W_declare_10 : decode b_W_declare 10 = .ok (.goto 7, 3) := by decide +kernel
theorem d_W_declare_13 : decode b_W_declare 13 = .ok (.astore 4, 2) := by decide +kernel
theorem d_W_declare_15 : decode b_W_declare 15 = .ok (.iconst 1, 1) := by decide +kernel
theorem d_W_declare_16 : decode b_W_declare 16 = .ok (.ireturn, 1) := by decide +kernel
theorem d_W_declare_17 : decode b_W_declare 17 = .ok (.iconst 0, 1) := by decide +kernel
theorem d_W_declare_18 : decode b_W_declare 18 = .ok (.ireturn, 1) := by decide +kernel
theorem d_W_above_0 : decode b_W_above 0 = .ok (.aload_n 3, 1) := by decide +kernel
theorem d_W_above_1 : decode b_W_above 1 = .ok (.iconst 0, 1) := by decide +kernel
theorem d_W_above_2 : decode b_W_above 2 = .ok (.aload_n 0, 1) := by decide +kernel
theorem d_W_above_3 : decode b_W_above 3 = .ok (.iload_n 1, 1) := by decide +kernel
theorem d_W_above_4 : decode b_W_above 4 = .ok (.iload_n 2, 1) := by decide +kernel
theorem d_W_above_5 : decode b_W_above 5 = .ok (.invokevirtual 15, 3) := by decide +kernel
theorem d_W_above_8 : decode b_W_above 8 = .ok (.i2l, 1) := by decide +kernel
theorem d_W_above_9 : decode b_W_above 9 = .ok (.lastore, 1) := by decide +kernel
theorem d_W_above_10 : decode b_W_above 10 = .ok (.goto 15, 3) := by decide +kernel
theorem d_W_above_13 : decode b_W_above 13 = .ok (.astore 4, 2) := by decide +kernel
theorem d_W_above_15 : decode b_W_above 15 = .ok (.iconst 1, 1) := by decide +kernel
theorem d_W_above_16 : decode b_W_above 16 = .ok (.ireturn, 1) := by decide +kernel
theorem d_W_above_17 : decode b_W_above 17 = .ok (.astore 4, 2) := by decide +kernel
theorem d_W_above_19 : decode b_W_above 19 = .ok (.iconst 2, 1) := by decide +kernel
theorem d_W_above_20 : decode b_W_above 20 = .ok (.ireturn, 1) := by decide +kernel
theorem d_W_above_21 : decode b_W_above 21 = .ok (.astore 4, 2) := by decide +kernel
theorem d_W_above_23 : decode b_W_above 23 = .ok (.iconst 3, 1) := by decide +kernel
theorem d_W_above_24 : decode b_W_above 24 = .ok (.ireturn, 1) := by decide +kernel
theorem d_W_above_25 : decode b_W_above 25 = .ok (.iconst 0, 1) := by decide +kernel
theorem d_W_above_26 : decode b_W_above 26 = .ok (.ireturn, 1) := by decide +kernel
theorem d_W_named_0 : decode b_W_named 0 = .ok (.aload 4, 2) := by decide +kernel
theorem d_W_named_2 : decode b_W_named 2 = .ok (.iconst 0, 1) := by decide +kernel
theorem d_W_named_3 : decode b_W_named 3 = .ok (.aload_n 0, 1) := by decide +kernel
theorem d_W_named_4 : decode b_W_named 4 = .ok (.iload_n 1, 1) := by decide +kernel
theorem d_W_named_5 : decode b_W_named 5 = .ok (.iload_n 2, 1) := by decide +kernel
theorem d_W_named_6 : decode b_W_named 6 = .ok (.iload_n 3, 1) := by decide +kernel
theorem d_W_named_7 : decode b_W_named 7 = .ok (.invokevirtual 23, 3) := by decide +kernel
theorem d_W_named_10 : decode b_W_named 10 = .ok (.i2l, 1) := by decide +kernel
theorem d_W_named_11 : decode b_W_named 11 = .ok (.lastore, 1) := by decide +kernel
theorem d_W_named_12 : decode b_W_named 12 = .ok (.goto 15, 3) := by decide +kernel
theorem d_W_named_15 : decode b_W_named 15 = .ok (.astore 5, 2) := by decide +kernel
theorem d_W_named_17 : decode b_W_named 17 = .ok (.iconst 1, 1) := by decide +kernel
theorem d_W_named_18 : decode b_W_named 18 = .ok (.ireturn, 1) := by decide +kernel
theorem d_W_named_19 : decode b_W_named 19 = .ok (.astore 5, 2) := by decide +kernel
theorem d_W_named_21 : decode b_W_named 21 = .ok (.iconst 2, 1) := by decide +kernel
theorem d_W_named_22 : decode b_W_named 22 = .ok (.ireturn, 1) := by decide +kernel
theorem d_W_named_23 : decode b_W_named 23 = .ok (.astore 5, 2) := by decide +kernel
theorem d_W_named_25 : decode b_W_named 25 = .ok (.iconst 3, 1) := by decide +kernel
theorem d_W_named_26 : decode b_W_named 26 = .ok (.ireturn, 1) := by decide +kernel
theorem d_W_named_27 : decode b_W_named 27 = .ok (.iconst 0, 1) := by decide +kernel
theorem d_W_named_28 : decode b_W_named 28 = .ok (.ireturn, 1) := by decide +kernel
theorem d_W_array_0 : decode b_W_array 0 = .ok (.aload_n 2, 1) := by decide +kernel
theorem d_W_array_1 : decode b_W_array 1 = .ok (.iconst 0, 1) := by decide +kernel
theorem d_W_array_2 : decode b_W_array 2 = .ok (.aload_n 0, 1) := by decide +kernel
theorem d_W_array_3 : decode b_W_array 3 = .ok (.iload_n 1, 1) := by decide +kernel
theorem d_W_array_4 : decode b_W_array 4 = .ok (.invokevirtual 27, 3) := by decide +kernel
theorem d_W_array_7 : decode b_W_array 7 = .ok (.i2l, 1) := by decide +kernel
theorem d_W_array_8 : decode b_W_array 8 = .ok (.lastore, 1) := by decide +kernel
theorem d_W_array_9 : decode b_W_array 9 = .ok (.goto 9, 3) := by decide +kernel
theorem d_W_array_12 : decode b_W_array 12 = .ok (.astore_n 3, 1) := by decide +kernel
theorem d_W_array_13 : decode b_W_array 13 = .ok (.iconst 1, 1) := by decide +kernel
theorem d_W_array_14 : decode b_W_array 14 = .ok (.ireturn, 1) := by decide +kernel
theorem d_W_array_15 : decode b_W_array 15 = .ok (.astore_n 3, 1) := by decide +kernel
theorem d_W_array_16 : decode b_W_array 16 = .ok (.iconst 2, 1) := by decide +kernel
theorem d_W_array_17 : decode b_W_array 17 = .ok (.ireturn, 1) := by decide +kernel
theorem d_W_array_18 : decode b_W_array 18 = .ok (.iconst 0, 1) := by decide +kernel
theorem d_W_array_19 : decode b_W_array 19 = .ok (.ireturn, 1) := by decide +kernel
theorem d_W_upper_0 : decode b_W_upper 0 = .ok (.aload_n 3, 1) := by decide +kernel
theorem d_W_upper_1 : decode b_W_upper 1 = .ok (.iconst 0, 1) := by decide +kernel
theorem d_W_upper_2 : decode b_W_upper 2 = .ok (.aload_n 0, 1) := by decide +kernel
theorem d_W_upper_3 : decode b_W_upper 3 = .ok (.iload_n 1, 1) := by decide +kernel
theorem d_W_upper_4 : decode b_W_upper 4 = .ok (.iload_n 2, 1) := by decide +kernel
theorem d_W_upper_5 : decode b_W_upper 5 = .ok (.invokevirtual 31, 3) := by decide +kernel
theorem d_W_upper_8 : decode b_W_upper 8 = .ok (.i2l, 1) := by decide +kernel
theorem d_W_upper_9 : decode b_W_upper 9 = .ok (.lastore, 1) := by decide +kernel
theorem d_W_upper_10 : decode b_W_upper 10 = .ok (.goto 11, 3) := by decide +kernel
theorem d_W_upper_13 : decode b_W_upper 13 = .ok (.astore 4, 2) := by decide +kernel
theorem d_W_upper_15 : decode b_W_upper 15 = .ok (.iconst 1, 1) := by decide +kernel
theorem d_W_upper_16 : decode b_W_upper 16 = .ok (.ireturn, 1) := by decide +kernel
theorem d_W_upper_17 : decode b_W_upper 17 = .ok (.astore 4, 2) := by decide +kernel
theorem d_W_upper_19 : decode b_W_upper 19 = .ok (.iconst 2, 1) := by decide +kernel
theorem d_W_upper_20 : decode b_W_upper 20 = .ok (.ireturn, 1) := by decide +kernel
theorem d_W_upper_21 : decode b_W_upper 21 = .ok (.iconst 0, 1) := by decide +kernel
theorem d_W_upper_22 : decode b_W_upper 22 = .ok (.ireturn, 1) := by decide +kernel
theorem d_W_lower_0 : decode b_W_lower 0 = .ok (.aload_n 3, 1) := by decide +kernel
theorem d_W_lower_1 : decode b_W_lower 1 = .ok (.iconst 0, 1) := by decide +kernel
theorem d_W_lower_2 : decode b_W_lower 2 = .ok (.aload_n 0, 1) := by decide +kernel
theorem d_W_lower_3 : decode b_W_lower 3 = .ok (.iload_n 1, 1) := by decide +kernel
theorem d_W_lower_4 : decode b_W_lower 4 = .ok (.iload_n 2, 1) := by decide +kernel
theorem d_W_lower_5 : decode b_W_lower 5 = .ok (.invokevirtual 34, 3) := by decide +kernel
theorem d_W_lower_8 : decode b_W_lower 8 = .ok (.i2l, 1) := by decide +kernel
theorem d_W_lower_9 : decode b_W_lower 9 = .ok (.lastore, 1) := by decide +kernel
theorem d_W_lower_10 : decode b_W_lower 10 = .ok (.goto 11, 3) := by decide +kernel
theorem d_W_lower_13 : decode b_W_lower 13 = .ok (.astore 4, 2) := by decide +kernel
theorem d_W_lower_15 : decode b_W_lower 15 = .ok (.iconst 1, 1) := by decide +kernel
theorem d_W_lower_16 : decode b_W_lower 16 = .ok (.ireturn, 1) := by decide +kernel
theorem d_W_lower_17 : decode b_W_lower 17 = .ok (.astore 4, 2) := by decide +kernel
theorem d_W_lower_19 : decode b_W_lower 19 = .ok (.iconst 2, 1) := by decide +kernel
theorem d_W_lower_20 : decode b_W_lower 20 = .ok (.ireturn, 1) := by decide +kernel
theorem d_W_lower_21 : decode b_W_lower 21 = .ok (.iconst 0, 1) := by decide +kernel
theorem d_W_lower_22 : decode b_W_lower 22 = .ok (.ireturn, 1) := by decide +kernel
theorem d_W_isBelow_0 : decode b_W_isBelow 0 = .ok (.aload_n 3, 1) := by decide +kernel
theorem d_W_isBelow_1 : decode b_W_isBelow 1 = .ok (.iconst 0, 1) := by decide +kernel
theorem d_W_isBelow_2 : decode b_W_isBelow 2 = .ok (.aload_n 0, 1) := by decide +kernel
theorem d_W_isBelow_3 : decode b_W_isBelow 3 = .ok (.iload_n 1, 1) := by decide +kernel
theorem d_W_isBelow_4 : decode b_W_isBelow 4 = .ok (.iload_n 2, 1) := by decide +kernel
theorem d_W_isBelow_5 : decode b_W_isBelow 5 = .ok (.invokevirtual 37, 3) := by decide +kernel
theorem d_W_isBelow_8 : decode b_W_isBelow 8 = .ok (.ifCond .eq 7, 3) := by decide +kernel
theorem d_W_isBelow_11 : decode b_W_isBelow 11 = .ok (.lconst 1, 1) := by decide +kernel
theorem d_W_isBelow_12 : decode b_W_isBelow 12 = .ok (.goto 4, 3) := by decide +kernel
theorem d_W_isBelow_15 : decode b_W_isBelow 15 = .ok (.lconst 0, 1) := by decide +kernel
theorem d_W_isBelow_16 : decode b_W_isBelow 16 = .ok (.lastore, 1) := by decide +kernel
theorem d_W_isBelow_17 : decode b_W_isBelow 17 = .ok (.goto 7, 3) := by decide +kernel
theorem d_W_isBelow_20 : decode b_W_isBelow 20 = .ok (.astore 4, 2) := by decide +kernel
theorem d_W_isBelow_22 : decode b_W_isBelow 22 = .ok (.iconst 1, 1) := by decide +kernel
theorem d_W_isBelow_23 : decode b_W_isBelow 23 = .ok (.ireturn, 1) := by decide +kernel
theorem d_W_isBelow_24 : decode b_W_isBelow 24 = .ok (.iconst 0, 1) := by decide +kernel
theorem d_W_isBelow_25 : decode b_W_isBelow 25 = .ok (.ireturn, 1) := by decide +kernel
theorem d_W_look_0 : decode b_W_look 0 = .ok (.aload_n 3, 1) := by decide +kernel
theorem d_W_look_1 : decode b_W_look 1 = .ok (.iconst 0, 1) := by decide +kernel
theorem d_W_look_2 : decode b_W_look 2 = .ok (.aload_n 0, 1) := by decide +kernel
theorem d_W_look_3 : decode b_W_look 3 = .ok (.iload_n 1, 1) := by decide +kernel
theorem d_W_look_4 : decode b_W_look 4 = .ok (.iload_n 2, 1) := by decide +kernel
theorem d_W_look_5 : decode b_W_look 5 = .ok (.invokevirtual 41, 3) := by decide +kernel
theorem d_W_look_8 : decode b_W_look 8 = .ok (.i2l, 1) := by decide +kernel
theorem d_W_look_9 : decode b_W_look 9 = .ok (.lastore, 1) := by decide +kernel
theorem d_W_look_10 : decode b_W_look 10 = .ok (.goto 11, 3) := by decide +kernel
theorem d_W_look_13 : decode b_W_look 13 = .ok (.astore 4, 2) := by decide +kernel
theorem d_W_look_15 : decode b_W_look 15 = .ok (.iconst 1, 1) := by decide +kernel
theorem d_W_look_16 : decode b_W_look 16 = .ok (.ireturn, 1) := by decide +kernel
theorem d_W_look_17 : decode b_W_look 17 = .ok (.astore 4, 2) := by decide +kernel
theorem d_W_look_19 : decode b_W_look 19 = .ok (.iconst 2, 1) := by decide +kernel
theorem d_W_look_20 : decode b_W_look 20 = .ok (.ireturn, 1) := by decide +kernel
theorem d_W_look_21 : decode b_W_look 21 = .ok (.iconst 0, 1) := by decide +kernel
theorem d_W_look_22 : decode b_W_look 22 = .ok (.ireturn, 1) := by decide +kernel
theorem d_W_box_0 : decode b_W_box 0 = .ok (.aload_n 2, 1) := by decide +kernel
theorem d_W_box_1 : decode b_W_box 1 = .ok (.iconst 0, 1) := by decide +kernel
theorem d_W_box_2 : decode b_W_box 2 = .ok (.aload_n 0, 1) := by decide +kernel
theorem d_W_box_3 : decode b_W_box 3 = .ok (.iload_n 1, 1) := by decide +kernel
theorem d_W_box_4 : decode b_W_box 4 = .ok (.invokevirtual 44, 3) := by decide +kernel
theorem d_W_box_7 : decode b_W_box 7 = .ok (.i2l, 1) := by decide +kernel
theorem d_W_box_8 : decode b_W_box 8 = .ok (.lastore, 1) := by decide +kernel
theorem d_W_box_9 : decode b_W_box 9 = .ok (.goto 9, 3) := by decide +kernel
theorem d_W_box_12 : decode b_W_box 12 = .ok (.astore_n 3, 1) := by decide +kernel
theorem d_W_box_13 : decode b_W_box 13 = .ok (.iconst 1, 1) := by decide +kernel
theorem d_W_box_14 : decode b_W_box 14 = .ok (.ireturn, 1) := by decide +kernel
theorem d_W_box_15 : decode b_W_box 15 = .ok (.astore_n 3, 1) := by decide +kernel
theorem d_W_box_16 : decode b_W_box 16 = .ok (.iconst 2, 1) := by decide +kernel
theorem d_W_box_17 : decode b_W_box 17 = .ok (.ireturn, 1) := by decide +kernel
theorem d_W_box_18 : decode b_W_box 18 = .ok (.iconst 0, 1) := by decide +kernel
theorem d_W_box_19 : decode b_W_box 19 = .ok (.ireturn, 1) := by decide +kernel
theorem d_W_type_0 : decode b_W_type 0 = .ok (.aload_n 3, 1) := by decide +kernel
theorem d_W_type_1 : decode b_W_type 1 = .ok (.iconst 0, 1) := by decide +kernel
theorem d_W_type_2 : decode b_W_type 2 = .ok (.aload_n 0, 1) := by decide +kernel
theorem d_W_type_3 : decode b_W_type 3 = .ok (.iload_n 1, 1) := by decide +kernel
theorem d_W_type_4 : decode b_W_type 4 = .ok (.iload_n 2, 1) := by decide +kernel
theorem d_W_type_5 : decode b_W_type 5 = .ok (.invokevirtual 47, 3) := by decide +kernel
theorem d_W_type_8 : decode b_W_type 8 = .ok (.i2l, 1) := by decide +kernel
theorem d_W_type_9 : decode b_W_type 9 = .ok (.lastore, 1) := by decide +kernel
theorem d_W_type_10 : decode b_W_type 10 = .ok (.goto 11, 3) := by decide +kernel
theorem d_W_type_13 : decode b_W_type 13 = .ok (.astore 4, 2) := by decide +kernel
theorem d_W_type_15 : decode b_W_type 15 = .ok (.iconst 1, 1) := by decide +kernel
theorem d_W_type_16 : decode b_W_type 16 = .ok (.ireturn, 1) := by decide +kernel
theorem d_W_type_17 : decode b_W_type 17 = .ok (.astore 4, 2) := by decide +kernel
theorem d_W_type_19 : decode b_W_type 19 = .ok (.iconst 2, 1) := by decide +kernel
theorem d_W_type_20 : decode b_W_type 20 = .ok (.ireturn, 1) := by decide +kernel
theorem d_W_type_21 : decode b_W_type 21 = .ok (.iconst 0, 1) := by decide +kernel
theorem d_W_type_22 : decode b_W_type 22 = .ok (.ireturn, 1) := by decide +kernel
theorem d_W_part_0 : decode b_W_part 0 = .ok (.aload_n 3, 1) := by decide +kernel
theorem d_W_part_1 : decode b_W_part 1 = .ok (.iconst 0, 1) := by decide +kernel
theorem d_W_part_2 : decode b_W_part 2 = .ok (.aload_n 0, 1) := by decide +kernel
theorem d_W_part_3 : decode b_W_part 3 = .ok (.iload_n 1, 1) := by decide +kernel
theorem d_W_part_4 : decode b_W_part 4 = .ok (.iload_n 2, 1) := by decide +kernel
theorem d_W_part_5 : decode b_W_part 5 = .ok (.invokevirtual 50, 3) := by decide +kernel
theorem d_W_part_8 : decode b_W_part 8 = .ok (.i2l, 1) := by decide +kernel
theorem d_W_part_9 : decode b_W_part 9 = .ok (.lastore, 1) := by decide +kernel
theorem d_W_part_10 : decode b_W_part 10 = .ok (.goto 7, 3) := by decide +kernel
theorem d_W_part_13 : decode b_W_part 13 = .ok (.astore 4, 2) := by decide +kernel
theorem d_W_part_15 : decode b_W_part 15 = .ok (.iconst 1, 1) := by decide +kernel
theorem d_W_part_16 : decode b_W_part 16 = .ok (.ireturn, 1) := by decide +kernel
theorem d_W_part_17 : decode b_W_part 17 = .ok (.iconst 0, 1) := by decide +kernel
theorem d_W_part_18 : decode b_W_part 18 = .ok (.ireturn, 1) := by decide +kernel
theorem d_W_common_0 : decode b_W_common 0 = .ok (.aload 4, 2) := by decide +kernel
theorem d_W_common_2 : decode b_W_common 2 = .ok (.iconst 0, 1) := by decide +kernel
theorem d_W_common_3 : decode b_W_common 3 = .ok (.aload_n 0, 1) := by decide +kernel
theorem d_W_common_4 : decode b_W_common 4 = .ok (.iload_n 1, 1) := by decide +kernel
theorem d_W_common_5 : decode b_W_common 5 = .ok (.iload_n 2, 1) := by decide +kernel
theorem d_W_common_6 : decode b_W_common 6 = .ok (.iload_n 3, 1) := by decide +kernel
theorem d_W_common_7 : decode b_W_common 7 = .ok (.invokevirtual 53, 3) := by decide +kernel
theorem d_W_common_10 : decode b_W_common 10 = .ok (.i2l, 1) := by decide +kernel
theorem d_W_common_11 : decode b_W_common 11 = .ok (.lastore, 1) := by decide +kernel
theorem d_W_common_12 : decode b_W_common 12 = .ok (.goto 11, 3) := by decide +kernel
theorem d_W_common_15 : decode b_W_common 15 = .ok (.astore 5, 2) := by decide +kernel
theorem d_W_common_17 : decode b_W_common 17 = .ok (.iconst 1, 1) := by decide +kernel
theorem d_W_common_18 : decode b_W_common 18 = .ok (.ireturn, 1) := by decide +kernel
theorem d_W_common_19 : decode b_W_common 19 = .ok (.astore 5, 2) := by decide +kernel
theorem d_W_common_21 : decode b_W_common 21 = .ok (.iconst 2, 1) := by decide +kernel
theorem d_W_common_22 : decode b_W_common 22 = .ok (.ireturn, 1) := by decide +kernel
theorem d_W_common_23 : decode b_W_common 23 = .ok (.iconst 0, 1) := by decide +kernel
theorem d_W_common_24 : decode b_W_common 24 = .ok (.ireturn, 1) := by decide +kernel
theorem d_W_isUnder_0 : decode b_W_isUnder 0 = .ok (.aload_n 3, 1) := by decide +kernel
theorem d_W_isUnder_1 : decode b_W_isUnder 1 = .ok (.iconst 0, 1) := by decide +kernel
theorem d_W_isUnder_2 : decode b_W_isUnder 2 = .ok (.aload_n 0, 1) := by decide +kernel
theorem d_W_isUnder_3 : decode b_W_isUnder 3 = .ok (.iload_n 1, 1) := by decide +kernel
theorem d_W_isUnder_4 : decode b_W_isUnder 4 = .ok (.iload_n 2, 1) := by decide +kernel
theorem d_W_isUnder_5 : decode b_W_isUnder 5 = .ok (.invokevirtual 56, 3) := by decide +kernel
theorem d_W_isUnder_8 : decode b_W_isUnder 8 = .ok (.ifCond .eq 7, 3) := by decide +kernel
theorem d_W_isUnder_11 : decode b_W_isUnder 11 = .ok (.lconst 1, 1) := by decide +kernel
theorem d_W_isUnder_12 : decode b_W_isUnder 12 = .ok (.goto 4, 3) := by decide +kernel
theorem d_W_isUnder_15 : decode b_W_isUnder 15 = .ok (.lconst 0, 1) := by decide +kernel
theorem d_W_isUnder_16 : decode b_W_isUnder 16 = .ok (.lastore, 1) := by decide +kernel
theorem d_W_isUnder_17 : decode b_W_isUnder 17 = .ok (.goto 7, 3) := by decide +kernel
theorem d_W_isUnder_20 : decode b_W_isUnder 20 = .ok (.astore 4, 2) := by decide +kernel
theorem d_W_isUnder_22 : decode b_W_isUnder 22 = .ok (.iconst 1, 1) := by decide +kernel
theorem d_W_isUnder_23 : decode b_W_isUnder 23 = .ok (.ireturn, 1) := by decide +kernel
theorem d_W_isUnder_24 : decode b_W_isUnder 24 = .ok (.iconst 0, 1) := by decide +kernel
theorem d_W_isUnder_25 : decode b_W_isUnder 25 = .ok (.ireturn, 1) := by decide +kernel
theorem d_W_classed_0 : decode b_W_classed 0 = .ok (.aload_n 3, 1) := by decide +kernel
theorem d_W_classed_1 : decode b_W_classed 1 = .ok (.iconst 0, 1) := by decide +kernel
theorem d_W_classed_2 : decode b_W_classed 2 = .ok (.aload_n 0, 1) := by decide +kernel
theorem d_W_classed_3 : decode b_W_classed 3 = .ok (.iload_n 1, 1) := by decide +kernel
theorem d_W_classed_4 : decode b_W_classed 4 = .ok (.iload_n 2, 1) := by decide +kernel
theorem d_W_classed_5 : decode b_W_classed 5 = .ok (.invokevirtual 59, 3) := by decide +kernel
theorem d_W_classed_8 : decode b_W_classed 8 = .ok (.i2l, 1) := by decide +kernel
theorem d_W_classed_9 : decode b_W_classed 9 = .ok (.lastore, 1) := by decide +kernel
theorem d_W_classed_10 : decode b_W_classed 10 = .ok (.goto 11, 3) := by decide +kernel
theorem d_W_classed_13 : decode b_W_classed 13 = .ok (.astore 4, 2) := by decide +kernel
theorem d_W_classed_15 : decode b_W_classed 15 = .ok (.iconst 1, 1) := by decide +kernel
theorem d_W_classed_16 : decode b_W_classed 16 = .ok (.ireturn, 1) := by decide +kernel
theorem d_W_classed_17 : decode b_W_classed 17 = .ok (.astore 4, 2) := by decide +kernel
theorem d_W_classed_19 : decode b_W_classed 19 = .ok (.iconst 2, 1) := by decide +kernel
theorem d_W_classed_20 : decode b_W_classed 20 = .ok (.ireturn, 1) := by decide +kernel
theorem d_W_classed_21 : decode b_W_classed 21 = .ok (.iconst 0, 1) := by decide +kernel
theorem d_W_classed_22 : decode b_W_classed 22 = .ok (.ireturn, 1) := by decide +kernel
theorem d_W_direct_0 : decode b_W_direct 0 = .ok (.aload 4, 2) := by decide +kernel
theorem d_W_direct_2 : decode b_W_direct 2 = .ok (.iconst 0, 1) := by decide +kernel
theorem d_W_direct_3 : decode b_W_direct 3 = .ok (.aload_n 0, 1) := by decide +kernel
theorem d_W_direct_4 : decode b_W_direct 4 = .ok (.iload_n 1, 1) := by decide +kernel
theorem d_W_direct_5 : decode b_W_direct 5 = .ok (.iload_n 2, 1) := by decide +kernel
theorem d_W_direct_6 : decode b_W_direct 6 = .ok (.iload_n 3, 1) := by decide +kernel
theorem d_W_direct_7 : decode b_W_direct 7 = .ok (.invokevirtual 62, 3) := by decide +kernel
theorem d_W_direct_10 : decode b_W_direct 10 = .ok (.i2l, 1) := by decide +kernel
theorem d_W_direct_11 : decode b_W_direct 11 = .ok (.lastore, 1) := by decide +kernel
theorem d_W_direct_12 : decode b_W_direct 12 = .ok (.goto 11, 3) := by decide +kernel
theorem d_W_direct_15 : decode b_W_direct 15 = .ok (.astore 5, 2) := by decide +kernel
theorem d_W_direct_17 : decode b_W_direct 17 = .ok (.iconst 1, 1) := by decide +kernel
theorem d_W_direct_18 : decode b_W_direct 18 = .ok (.ireturn, 1) := by decide +kernel
theorem d_W_direct_19 : decode b_W_direct 19 = .ok (.astore 5, 2) := by decide +kernel
theorem d_W_direct_21 : decode b_W_direct 21 = .ok (.iconst 2, 1) := by decide +kernel
theorem d_W_direct_22 : decode b_W_direct 22 = .ok (.ireturn, 1) := by decide +kernel
theorem d_W_direct_23 : decode b_W_direct 23 = .ok (.iconst 0, 1) := by decide +kernel
theorem d_W_direct_24 : decode b_W_direct 24 = .ok (.ireturn, 1) := by decide +kernel
theorem d_W_told_0 : decode b_W_told 0 = .ok (.aload_n 2, 1) := by decide +kernel
theorem d_W_told_1 : decode b_W_told 1 = .ok (.iconst 0, 1) := by decide +kernel
theorem d_W_told_2 : decode b_W_told 2 = .ok (.aload_n 0, 1) := by decide +kernel
theorem d_W_told_3 : decode b_W_told 3 = .ok (.iload_n 1, 1) := by decide +kernel
theorem d_W_told_4 : decode b_W_told 4 = .ok (.invokevirtual 65, 3) := by decide +kernel
theorem d_W_told_7 : decode b_W_told 7 = .ok (.i2l, 1) := by decide +kernel
theorem d_W_told_8 : decode b_W_told 8 = .ok (.lastore, 1) := by decide +kernel
theorem d_W_told_9 : decode b_W_told 9 = .ok (.goto 6, 3) := by decide +kernel
theorem d_W_told_12 : decode b_W_told 12 = .ok (.astore_n 3, 1) := by decide +kernel
theorem d_W_told_13 : decode b_W_told 13 = .ok (.iconst 1, 1) := by decide +kernel
theorem d_W_told_14 : decode b_W_told 14 = .ok (.ireturn, 1) := by decide +kernel
theorem d_W_told_15 : decode b_W_told 15 = .ok (.iconst 0, 1) := by decide +kernel
theorem d_W_told_16 : decode b_W_told 16 = .ok (.ireturn, 1) := by decide +kernel
