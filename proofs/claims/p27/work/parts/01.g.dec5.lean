theorem dL_below_0 : decode cL_below 0 = .ok (.iload_n 0, 1) := by decide +kernel
theorem dL_below_1 : decode cL_below 1 = .ok (.ldc 7, 2) := by decide +kernel
theorem dL_below_3 : decode cL_below 3 = .ok (.iand, 1) := by decide +kernel
theorem dL_below_4 : decode cL_below 4 = .ok (.iload_n 1, 1) := by decide +kernel
theorem dL_below_5 : decode cL_below 5 = .ok (.irem, 1) := by decide +kernel
theorem dL_below_6 : decode cL_below 6 = .ok (.ireturn, 1) := by decide +kernel
theorem dL_cell_0 : decode cL_cell 0 = .ok (.iload_n 1, 1) := by decide +kernel
theorem dL_cell_1 : decode cL_cell 1 = .ok (.aload_n 0, 1) := by decide +kernel
theorem dL_cell_2 : decode cL_cell 2 = .ok (.arraylength, 1) := by decide +kernel
theorem dL_cell_3 : decode cL_cell 3 = .ok (.if_icmp .ge 9, 3) := by decide +kernel
theorem dL_cell_6 : decode cL_cell 6 = .ok (.aload_n 0, 1) := by decide +kernel
theorem dL_cell_7 : decode cL_cell 7 = .ok (.iload_n 1, 1) := by decide +kernel
theorem dL_cell_8 : decode cL_cell 8 = .ok (.iaload, 1) := by decide +kernel
theorem dL_cell_9 : decode cL_cell 9 = .ok (.goto 9, 3) := by decide +kernel
theorem dL_cell_12 : decode cL_cell 12 = .ok (.ldc 8, 2) := by decide +kernel
theorem dL_cell_14 : decode cL_cell 14 = .ok (.iload_n 1, 1) := by decide +kernel
theorem dL_cell_15 : decode cL_cell 15 = .ok (.iconst 3, 1) := by decide +kernel
theorem dL_cell_16 : decode cL_cell 16 = .ok (.iadd, 1) := by decide +kernel
theorem dL_cell_17 : decode cL_cell 17 = .ok (.imul, 1) := by decide +kernel
theorem dL_cell_18 : decode cL_cell 18 = .ok (.ireturn, 1) := by decide +kernel
theorem dL_letter_0 : decode cL_letter 0 = .ok (.iload_n 1, 1) := by decide +kernel
theorem dL_letter_1 : decode cL_letter 1 = .ok (.aload_n 0, 1) := by decide +kernel
theorem dL_letter_2 : decode cL_letter 2 = .ok (.invokevirtual 9, 3) := by decide +kernel
theorem dL_letter_5 : decode cL_letter 5 = .ok (.if_icmp .ge 11, 3) := by decide +kernel
theorem dL_letter_8 : decode cL_letter 8 = .ok (.aload_n 0, 1) := by decide +kernel
theorem dL_letter_9 : decode cL_letter 9 = .ok (.iload_n 1, 1) := by decide +kernel
theorem dL_letter_10 : decode cL_letter 10 = .ok (.invokevirtual 15, 3) := by decide +kernel
theorem dL_letter_13 : decode cL_letter 13 = .ok (.goto 5, 3) := by decide +kernel
theorem dL_letter_16 : decode cL_letter 16 = .ok (.bipush 32, 2) := by decide +kernel
theorem dL_letter_18 : decode cL_letter 18 = .ok (.ireturn, 1) := by decide +kernel
theorem dL_four_0 : decode cL_four 0 = .ok (.aload_n 0, 1) := by decide +kernel
theorem dL_four_1 : decode cL_four 1 = .ok (.iload_n 1, 1) := by decide +kernel
theorem dL_four_2 : decode cL_four 2 = .ok (.invokestatic 19, 3) := by decide +kernel
theorem dL_four_5 : decode cL_four 5 = .ok (.bipush 24, 2) := by decide +kernel
theorem dL_four_7 : decode cL_four 7 = .ok (.ishl, 1) := by decide +kernel
theorem dL_four_8 : decode cL_four 8 = .ok (.aload_n 0, 1) := by decide +kernel
theorem dL_four_9 : decode cL_four 9 = .ok (.iload_n 1, 1) := by decide +kernel
theorem dL_four_10 : decode cL_four 10 = .ok (.iconst 1, 1) := by decide +kernel
theorem dL_four_11 : decode cL_four 11 = .ok (.iadd, 1) := by decide +kernel
theorem dL_four_12 : decode cL_four 12 = .ok (.invokestatic 19, 3) := by decide +kernel
theorem dL_four_15 : decode cL_four 15 = .ok (.bipush 16, 2) := by decide +kernel
theorem dL_four_17 : decode cL_four 17 = .ok (.ishl, 1) := by decide +kernel
theorem dL_four_18 : decode cL_four 18 = .ok (.ior, 1) := by decide +kernel
theorem dL_four_19 : decode cL_four 19 = .ok (.aload_n 0, 1) := by decide +kernel
theorem dL_four_20 : decode cL_four 20 = .ok (.iload_n 1, 1) := by decide +kernel
theorem dL_four_21 : decode cL_four 21 = .ok (.iconst 2, 1) := by decide +kernel
theorem dL_four_22 : decode cL_four 22 = .ok (.iadd, 1) := by decide +kernel
theorem dL_four_23 : decode cL_four 23 = .ok (.invokestatic 19, 3) := by decide +kernel
theorem dL_four_26 : decode cL_four 26 = .ok (.bipush 8, 2) := by decide +kernel
theorem dL_four_28 : decode cL_four 28 = .ok (.ishl, 1) := by decide +kernel
theorem dL_four_29 : decode cL_four 29 = .ok (.ior, 1) := by decide +kernel
theorem dL_four_30 : decode cL_four 30 = .ok (.aload_n 0, 1) := by decide +kernel
theorem dL_four_31 : decode cL_four 31 = .ok (.iload_n 1, 1) := by decide +kernel
theorem dL_four_32 : decode cL_four 32 = .ok (.iconst 3, 1) := by decide +kernel
theorem dL_four_33 : decode cL_four 33 = .ok (.iadd, 1) := by decide +kernel
theorem dL_four_34 : decode cL_four 34 = .ok (.invokestatic 19, 3) := by decide +kernel
theorem dL_four_37 : decode cL_four 37 = .ok (.ior, 1) := by decide +kernel
theorem dL_four_38 : decode cL_four 38 = .ok (.ireturn, 1) := by decide +kernel
theorem dL_say_0 : decode cL_say 0 = .ok (.aload_n 0, 1) := by decide +kernel
theorem dL_say_1 : decode cL_say 1 = .ok (.bipush 12, 2) := by decide +kernel
theorem dL_say_3 : decode cL_say 3 = .ok (.invokevirtual 25, 3) := by decide +kernel
theorem dL_say_6 : decode cL_say 6 = .ok (.istore_n 2, 1) := by decide +kernel
theorem dL_say_7 : decode cL_say 7 = .ok (.iconst 0, 1) := by decide +kernel
theorem dL_say_8 : decode cL_say 8 = .ok (.istore_n 3, 1) := by decide +kernel
theorem dL_say_9 : decode cL_say 9 = .ok (.iload_n 3, 1) := by decide +kernel
theorem dL_say_10 : decode cL_say 10 = .ok (.aload_n 1, 1) := by decide +kernel
theorem dL_say_11 : decode cL_say 11 = .ok (.invokevirtual 9, 3) := by decide +kernel
theorem dL_say_14 : decode cL_say 14 = .ok (.if_icmp .ge 50, 3) := by decide +kernel
theorem dL_say_17 : decode cL_say 17 = .ok (.aload_n 0, 1) := by decide +kernel
theorem dL_say_18 : decode cL_say 18 = .ok (.aload_n 1, 1) := by decide +kernel
theorem dL_say_19 : decode cL_say 19 = .ok (.iload_n 3, 1) := by decide +kernel
theorem dL_say_20 : decode cL_say 20 = .ok (.invokestatic 31, 3) := by decide +kernel
theorem dL_say_23 : decode cL_say 23 = .ok (.aload_n 1, 1) := by decide +kernel
theorem dL_say_24 : decode cL_say 24 = .ok (.iload_n 3, 1) := by decide +kernel
theorem dL_say_25 : decode cL_say 25 = .ok (.iconst 4, 1) := by decide +kernel
theorem dL_say_26 : decode cL_say 26 = .ok (.iadd, 1) := by decide +kernel
theorem dL_say_27 : decode cL_say 27 = .ok (.invokestatic 31, 3) := by decide +kernel
theorem dL_say_30 : decode cL_say 30 = .ok (.aload_n 1, 1) := by decide +kernel
theorem dL_say_31 : decode cL_say 31 = .ok (.iload_n 3, 1) := by decide +kernel
theorem dL_say_32 : decode cL_say 32 = .ok (.bipush 8, 2) := by decide +kernel
theorem dL_say_34 : decode cL_say 34 = .ok (.iadd, 1) := by decide +kernel
theorem dL_say_35 : decode cL_say 35 = .ok (.invokestatic 31, 3) := by decide +kernel
theorem dL_say_38 : decode cL_say 38 = .ok (.aload_n 1, 1) := by decide +kernel
theorem dL_say_39 : decode cL_say 39 = .ok (.iload_n 3, 1) := by decide +kernel
theorem dL_say_40 : decode cL_say 40 = .ok (.bipush 12, 2) := by decide +kernel
theorem dL_say_42 : decode cL_say 42 = .ok (.iadd, 1) := by decide +kernel
theorem dL_say_43 : decode cL_say 43 = .ok (.invokestatic 31, 3) := by decide +kernel
theorem dL_say_46 : decode cL_say 46 = .ok (.aload_n 1, 1) := by decide +kernel
theorem dL_say_47 : decode cL_say 47 = .ok (.iload_n 3, 1) := by decide +kernel
theorem dL_say_48 : decode cL_say 48 = .ok (.bipush 16, 2) := by decide +kernel
theorem dL_say_50 : decode cL_say 50 = .ok (.iadd, 1) := by decide +kernel
theorem dL_say_51 : decode cL_say 51 = .ok (.invokestatic 31, 3) := by decide +kernel
theorem dL_say_54 : decode cL_say 54 = .ok (.invokevirtual 34, 3) := by decide +kernel
theorem dL_say_57 : decode cL_say 57 = .ok (.pop, 1) := by decide +kernel
theorem dL_say_58 : decode cL_say 58 = .ok (.iinc 3 20, 3) := by decide +kernel
theorem dL_say_61 : decode cL_say 61 = .ok (.goto (-52), 3) := by decide +kernel
theorem dL_say_64 : decode cL_say 64 = .ok (.aload_n 0, 1) := by decide +kernel
theorem dL_say_65 : decode cL_say 65 = .ok (.iload_n 2, 1) := by decide +kernel
theorem dL_say_66 : decode cL_say 66 = .ok (.aload_n 1, 1) := by decide +kernel
theorem dL_say_67 : decode cL_say 67 = .ok (.invokevirtual 9, 3) := by decide +kernel
theorem dL_say_70 : decode cL_say 70 = .ok (.iadd, 1) := by decide +kernel
theorem dL_say_71 : decode cL_say 71 = .ok (.invokevirtual 38, 3) := by decide +kernel
theorem dL_say_74 : decode cL_say 74 = .ok (.pop, 1) := by decide +kernel
theorem dL_say_75 : decode cL_say 75 = .ok (.return_, 1) := by decide +kernel
theorem dL_num_0 : decode cL_num 0 = .ok (.ldc 41, 2) := by decide +kernel
theorem dL_num_2 : decode cL_num 2 = .ok (.iload_n 0, 1) := by decide +kernel
theorem dL_num_3 : decode cL_num 3 = .ok (.bipush 10, 2) := by decide +kernel
theorem dL_num_5 : decode cL_num 5 = .ok (.irem, 1) := by decide +kernel
theorem dL_num_6 : decode cL_num 6 = .ok (.iload_n 0, 1) := by decide +kernel
theorem dL_num_7 : decode cL_num 7 = .ok (.bipush 10, 2) := by decide +kernel
theorem dL_num_9 : decode cL_num 9 = .ok (.irem, 1) := by decide +kernel
theorem dL_num_10 : decode cL_num 10 = .ok (.iconst 1, 1) := by decide +kernel
theorem dL_num_11 : decode cL_num 11 = .ok (.iadd, 1) := by decide +kernel
theorem dL_num_12 : decode cL_num 12 = .ok (.invokevirtual 43, 3) := by decide +kernel
theorem dL_num_15 : decode cL_num 15 = .ok (.astore_n 1, 1) := by decide +kernel
theorem dL_num_16 : decode cL_num 16 = .ok (.iload_n 0, 1) := by decide +kernel
theorem dL_num_17 : decode cL_num 17 = .ok (.bipush 10, 2) := by decide +kernel
theorem dL_num_19 : decode cL_num 19 = .ok (.if_icmp .ge 7, 3) := by decide +kernel
theorem dL_num_22 : decode cL_num 22 = .ok (.aload_n 1, 1) := by decide +kernel
theorem dL_num_23 : decode cL_num 23 = .ok (.goto 27, 3) := by decide +kernel
theorem dL_num_26 : decode cL_num 26 = .ok (.new 47, 3) := by decide +kernel
theorem dL_num_29 : decode cL_num 29 = .ok (.dup, 1) := by decide +kernel
theorem dL_num_30 : decode cL_num 30 = .ok (.invokespecial 49, 3) := by decide +kernel
theorem dL_num_33 : decode cL_num 33 = .ok (.iload_n 0, 1) := by decide +kernel
theorem dL_num_34 : decode cL_num 34 = .ok (.bipush 10, 2) := by decide +kernel
theorem dL_num_36 : decode cL_num 36 = .ok (.idiv, 1) := by decide +kernel
theorem dL_num_37 : decode cL_num 37 = .ok (.invokestatic 50, 3) := by decide +kernel
theorem dL_num_40 : decode cL_num 40 = .ok (.invokevirtual 54, 3) := by decide +kernel
theorem dL_num_43 : decode cL_num 43 = .ok (.aload_n 1, 1) := by decide +kernel
theorem dL_num_44 : decode cL_num 44 = .ok (.invokevirtual 54, 3) := by decide +kernel
theorem dL_num_47 : decode cL_num 47 = .ok (.invokevirtual 58, 3) := by decide +kernel
theorem dL_num_50 : decode cL_num 50 = .ok (.areturn, 1) := by decide +kernel
theorem dL_places_0 : decode cL_places 0 = .ok (.iconst 0, 1) := by decide +kernel
theorem dL_places_1 : decode cL_places 1 = .ok (.istore_n 1, 1) := by decide +kernel
theorem dL_places_2 : decode cL_places 2 = .ok (.iload_n 0, 1) := by decide +kernel
theorem dL_places_3 : decode cL_places 3 = .ok (.istore_n 2, 1) := by decide +kernel
theorem dL_places_4 : decode cL_places 4 = .ok (.iload_n 2, 1) := by decide +kernel
theorem dL_places_5 : decode cL_places 5 = .ok (.ifCond .le 18, 3) := by decide +kernel
theorem dL_places_8 : decode cL_places 8 = .ok (.iload_n 1, 1) := by decide +kernel
theorem dL_places_9 : decode cL_places 9 = .ok (.iload_n 2, 1) := by decide +kernel
theorem dL_places_10 : decode cL_places 10 = .ok (.bipush 10, 2) := by decide +kernel
theorem dL_places_12 : decode cL_places 12 = .ok (.irem, 1) := by decide +kernel
theorem dL_places_13 : decode cL_places 13 = .ok (.iadd, 1) := by decide +kernel
theorem dL_places_14 : decode cL_places 14 = .ok (.istore_n 1, 1) := by decide +kernel
theorem dL_places_15 : decode cL_places 15 = .ok (.iload_n 2, 1) := by decide +kernel
theorem dL_places_16 : decode cL_places 16 = .ok (.bipush 10, 2) := by decide +kernel
theorem dL_places_18 : decode cL_places 18 = .ok (.idiv, 1) := by decide +kernel
theorem dL_places_19 : decode cL_places 19 = .ok (.istore_n 2, 1) := by decide +kernel
theorem dL_places_20 : decode cL_places 20 = .ok (.goto (-16), 3) := by decide +kernel
theorem dL_places_23 : decode cL_places 23 = .ok (.iload_n 1, 1) := by decide +kernel
theorem dL_places_24 : decode cL_places 24 = .ok (.ireturn, 1) := by decide +kernel
theorem dL_knots_0 : decode cL_knots 0 = .ok (.iload_n 0, 1) := by decide +kernel
theorem dL_knots_1 : decode cL_knots 1 = .ok (.bipush 10, 2) := by decide +kernel
theorem dL_knots_3 : decode cL_knots 3 = .ok (.idiv, 1) := by decide +kernel
theorem dL_knots_4 : decode cL_knots 4 = .ok (.invokestatic 62, 3) := by decide +kernel
theorem dL_knots_7 : decode cL_knots 7 = .ok (.iload_n 0, 1) := by decide +kernel
theorem dL_knots_8 : decode cL_knots 8 = .ok (.bipush 10, 2) := by decide +kernel
theorem dL_knots_10 : decode cL_knots 10 = .ok (.irem, 1) := by decide +kernel
theorem dL_knots_11 : decode cL_knots 11 = .ok (.ifCond .ne 7, 3) := by decide +kernel
theorem dL_knots_14 : decode cL_knots 14 = .ok (.iconst 0, 1) := by decide +kernel
theorem dL_knots_15 : decode cL_knots 15 = .ok (.goto 4, 3) := by decide +kernel
theorem dL_knots_18 : decode cL_knots 18 = .ok (.iconst 1, 1) := by decide +kernel
theorem dL_knots_19 : decode cL_knots 19 = .ok (.iadd, 1) := by decide +kernel
theorem dL_knots_20 : decode cL_knots 20 = .ok (.ireturn, 1) := by decide +kernel
theorem dL_turns_0 : decode cL_turns 0 = .ok (.iload_n 0, 1) := by decide +kernel
theorem dL_turns_1 : decode cL_turns 1 = .ok (.invokestatic 62, 3) := by decide +kernel
theorem dL_turns_4 : decode cL_turns 4 = .ok (.iload_n 0, 1) := by decide +kernel
theorem dL_turns_5 : decode cL_turns 5 = .ok (.bipush 10, 2) := by decide +kernel
theorem dL_turns_7 : decode cL_turns 7 = .ok (.irem, 1) := by decide +kernel
theorem dL_turns_8 : decode cL_turns 8 = .ok (.iconst 1, 1) := by decide +kernel
theorem dL_turns_9 : decode cL_turns 9 = .ok (.if_icmp .ne 7, 3) := by decide +kernel
theorem dL_turns_12 : decode cL_turns 12 = .ok (.iconst 1, 1) := by decide +kernel
theorem dL_turns_13 : decode cL_turns 13 = .ok (.goto 4, 3) := by decide +kernel
theorem dL_turns_16 : decode cL_turns 16 = .ok (.iconst 0, 1) := by decide +kernel
theorem dL_turns_17 : decode cL_turns 17 = .ok (.iadd, 1) := by decide +kernel
theorem dL_turns_18 : decode cL_turns 18 = .ok (.ireturn, 1) := by decide +kernel
theorem dL_first_0 : decode cL_first 0 = .ok (.aload_n 0, 1) := by decide +kernel
theorem dL_first_1 : decode cL_first 1 = .ok (.iload_n 1, 1) := by decide +kernel
theorem dL_first_2 : decode cL_first 2 = .ok (.invokestatic 65, 3) := by decide +kernel
theorem dL_first_5 : decode cL_first 5 = .ok (.aload_n 0, 1) := by decide +kernel
theorem dL_first_6 : decode cL_first 6 = .ok (.iload_n 1, 1) := by decide +kernel
theorem dL_first_7 : decode cL_first 7 = .ok (.invokestatic 65, 3) := by decide +kernel
theorem dL_first_10 : decode cL_first 10 = .ok (.bipush 9, 2) := by decide +kernel
theorem dL_first_12 : decode cL_first 12 = .ok (.ishr, 1) := by decide +kernel
theorem dL_first_13 : decode cL_first 13 = .ok (.iconst 2, 1) := by decide +kernel
theorem dL_first_14 : decode cL_first 14 = .ok (.invokestatic 69, 3) := by decide +kernel
theorem dL_first_17 : decode cL_first 17 = .ok (.ifCond .ne 9, 3) := by decide +kernel
theorem dL_first_20 : decode cL_first 20 = .ok (.sipush 10000, 3) := by decide +kernel
theorem dL_first_23 : decode cL_first 23 = .ok (.goto 5, 3) := by decide +kernel
theorem dL_first_26 : decode cL_first 26 = .ok (.bipush 30, 2) := by decide +kernel
theorem dL_first_28 : decode cL_first 28 = .ok (.invokestatic 69, 3) := by decide +kernel
theorem dL_first_31 : decode cL_first 31 = .ok (.ireturn, 1) := by decide +kernel
theorem dL_care_0 : decode cL_care 0 = .ok (.iconst 1, 1) := by decide +kernel
theorem dL_care_1 : decode cL_care 1 = .ok (.aload_n 0, 1) := by decide +kernel
theorem dL_care_2 : decode cL_care 2 = .ok (.iconst 5, 1) := by decide +kernel
theorem dL_care_3 : decode cL_care 3 = .ok (.iload_n 1, 1) := by decide +kernel
theorem dL_care_4 : decode cL_care 4 = .ok (.iadd, 1) := by decide +kernel
theorem dL_care_5 : decode cL_care 5 = .ok (.invokestatic 65, 3) := by decide +kernel
theorem dL_care_8 : decode cL_care 8 = .ok (.bipush 9, 2) := by decide +kernel
theorem dL_care_10 : decode cL_care 10 = .ok (.invokestatic 69, 3) := by decide +kernel
theorem dL_care_13 : decode cL_care 13 = .ok (.iadd, 1) := by decide +kernel
theorem dL_care_14 : decode cL_care 14 = .ok (.ireturn, 1) := by decide +kernel
theorem dL_rank_0 : decode cL_rank 0 = .ok (.aload_n 0, 1) := by decide +kernel
theorem dL_rank_1 : decode cL_rank 1 = .ok (.bipush 7, 2) := by decide +kernel
theorem dL_rank_3 : decode cL_rank 3 = .ok (.invokestatic 65, 3) := by decide +kernel
theorem dL_rank_6 : decode cL_rank 6 = .ok (.iconst 4, 1) := by decide +kernel
theorem dL_rank_7 : decode cL_rank 7 = .ok (.iload_n 1, 1) := by decide +kernel
theorem dL_rank_8 : decode cL_rank 8 = .ok (.imul, 1) := by decide +kernel
theorem dL_rank_9 : decode cL_rank 9 = .ok (.ishr, 1) := by decide +kernel
theorem dL_rank_10 : decode cL_rank 10 = .ok (.iconst 4, 1) := by decide +kernel
theorem dL_rank_11 : decode cL_rank 11 = .ok (.invokestatic 69, 3) := by decide +kernel
theorem dL_rank_14 : decode cL_rank 14 = .ok (.ireturn, 1) := by decide +kernel
theorem dL_adds_0 : decode cL_adds 0 = .ok (.aload_n 0, 1) := by decide +kernel
theorem dL_adds_1 : decode cL_adds 1 = .ok (.bipush 8, 2) := by decide +kernel
theorem dL_adds_3 : decode cL_adds 3 = .ok (.invokestatic 65, 3) := by decide +kernel
theorem dL_adds_6 : decode cL_adds 6 = .ok (.sipush 3000, 3) := by decide +kernel
theorem dL_adds_9 : decode cL_adds 9 = .ok (.invokestatic 69, 3) := by decide +kernel
theorem dL_adds_12 : decode cL_adds 12 = .ok (.ireturn, 1) := by decide +kernel
theorem dL_since_0 : decode cL_since 0 = .ok (.aload_n 0, 1) := by decide +kernel
theorem dL_since_1 : decode cL_since 1 = .ok (.bipush 8, 2) := by decide +kernel
theorem dL_since_3 : decode cL_since 3 = .ok (.invokestatic 65, 3) := by decide +kernel
theorem dL_since_6 : decode cL_since 6 = .ok (.bipush 12, 2) := by decide +kernel
theorem dL_since_8 : decode cL_since 8 = .ok (.ishr, 1) := by decide +kernel
theorem dL_since_9 : decode cL_since 9 = .ok (.bipush 20, 2) := by decide +kernel
theorem dL_since_11 : decode cL_since 11 = .ok (.invokestatic 69, 3) := by decide +kernel
theorem dL_since_14 : decode cL_since 14 = .ok (.ireturn, 1) := by decide +kernel
theorem dL_part_0 : decode cL_part 0 = .ok (.iconst 1, 1) := by decide +kernel
theorem dL_part_1 : decode cL_part 1 = .ok (.aload_n 0, 1) := by decide +kernel
theorem dL_part_2 : decode cL_part 2 = .ok (.bipush 9, 2) := by decide +kernel
theorem dL_part_4 : decode cL_part 4 = .ok (.invokestatic 65, 3) := by decide +kernel
theorem dL_part_7 : decode cL_part 7 = .ok (.bipush 9, 2) := by decide +kernel
theorem dL_part_9 : decode cL_part 9 = .ok (.invokestatic 69, 3) := by decide +kernel
theorem dL_part_12 : decode cL_part 12 = .ok (.iadd, 1) := by decide +kernel
theorem dL_part_13 : decode cL_part 13 = .ok (.ireturn, 1) := by decide +kernel
theorem dL_each_0 : decode cL_each 0 = .ok (.iconst 1, 1) := by decide +kernel
theorem dL_each_1 : decode cL_each 1 = .ok (.aload_n 0, 1) := by decide +kernel
theorem dL_each_2 : decode cL_each 2 = .ok (.bipush 9, 2) := by decide +kernel
theorem dL_each_4 : decode cL_each 4 = .ok (.invokestatic 65, 3) := by decide +kernel
theorem dL_each_7 : decode cL_each 7 = .ok (.iconst 5, 1) := by decide +kernel
theorem dL_each_8 : decode cL_each 8 = .ok (.ishr, 1) := by decide +kernel
theorem dL_each_9 : decode cL_each 9 = .ok (.bipush 7, 2) := by decide +kernel
theorem dL_each_11 : decode cL_each 11 = .ok (.invokestatic 69, 3) := by decide +kernel
theorem dL_each_14 : decode cL_each 14 = .ok (.iadd, 1) := by decide +kernel
theorem dL_each_15 : decode cL_each 15 = .ok (.ireturn, 1) := by decide +kernel
theorem dL_list_0 : decode cL_list 0 = .ok (.ldc 73, 2) := by decide +kernel
theorem dL_list_2 : decode cL_list 2 = .ok (.astore_n 2, 1) := by decide +kernel
theorem dL_list_3 : decode cL_list 3 = .ok (.iconst 0, 1) := by decide +kernel
theorem dL_list_4 : decode cL_list 4 = .ok (.istore_n 3, 1) := by decide +kernel
theorem dL_list_5 : decode cL_list 5 = .ok (.iload_n 3, 1) := by decide +kernel
theorem dL_list_6 : decode cL_list 6 = .ok (.iconst 3, 1) := by decide +kernel
theorem dL_list_7 : decode cL_list 7 = .ok (.if_icmp .ge 56, 3) := by decide +kernel
theorem dL_list_10 : decode cL_list 10 = .ok (.new 47, 3) := by decide +kernel
theorem dL_list_13 : decode cL_list 13 = .ok (.dup, 1) := by decide +kernel
theorem dL_list_14 : decode cL_list 14 = .ok (.invokespecial 49, 3) := by decide +kernel
theorem dL_list_17 : decode cL_list 17 = .ok (.aload_n 2, 1) := by decide +kernel
theorem dL_list_18 : decode cL_list 18 = .ok (.invokevirtual 54, 3) := by decide +kernel
theorem dL_list_21 : decode cL_list 21 = .ok (.ldc 75, 2) := by decide +kernel
theorem dL_list_23 : decode cL_list 23 = .ok (.invokevirtual 54, 3) := by decide +kernel
theorem dL_list_26 : decode cL_list 26 = .ok (.aload_n 1, 1) := by decide +kernel
theorem dL_list_27 : decode cL_list 27 = .ok (.iload_n 3, 1) := by decide +kernel
theorem dL_list_28 : decode cL_list 28 = .ok (.aaload, 1) := by decide +kernel
theorem dL_list_29 : decode cL_list 29 = .ok (.invokevirtual 54, 3) := by decide +kernel
theorem dL_list_32 : decode cL_list 32 = .ok (.ldc 77, 2) := by decide +kernel
theorem dL_list_34 : decode cL_list 34 = .ok (.invokevirtual 54, 3) := by decide +kernel
theorem dL_list_37 : decode cL_list 37 = .ok (.aload_n 0, 1) := by decide +kernel
theorem dL_list_38 : decode cL_list 38 = .ok (.iload_n 3, 1) := by decide +kernel
theorem dL_list_39 : decode cL_list 39 = .ok (.invokestatic 79, 3) := by decide +kernel
theorem dL_list_42 : decode cL_list 42 = .ok (.invokestatic 50, 3) := by decide +kernel
theorem dL_list_45 : decode cL_list 45 = .ok (.invokevirtual 54, 3) := by decide +kernel
theorem dL_list_48 : decode cL_list 48 = .ok (.ldc 82, 2) := by decide +kernel
theorem dL_list_50 : decode cL_list 50 = .ok (.invokevirtual 54, 3) := by decide +kernel
theorem dL_list_53 : decode cL_list 53 = .ok (.invokevirtual 58, 3) := by decide +kernel
theorem dL_list_56 : decode cL_list 56 = .ok (.astore_n 2, 1) := by decide +kernel
theorem dL_list_57 : decode cL_list 57 = .ok (.iinc 3 1, 3) := by decide +kernel
theorem dL_list_60 : decode cL_list 60 = .ok (.goto (-55), 3) := by decide +kernel
theorem dL_list_63 : decode cL_list 63 = .ok (.iconst 5, 1) := by decide +kernel
theorem dL_list_64 : decode cL_list 64 = .ok (.newarray .int, 2) := by decide +kernel
theorem dL_list_66 : decode cL_list 66 = .ok (.dup, 1) := by decide +kernel
theorem dL_list_67 : decode cL_list 67 = .ok (.iconst 0, 1) := by decide +kernel
theorem dL_list_68 : decode cL_list 68 = .ok (.iconst 0, 1) := by decide +kernel
theorem dL_list_69 : decode cL_list 69 = .ok (.iastore, 1) := by decide +kernel
theorem dL_list_70 : decode cL_list 70 = .ok (.dup, 1) := by decide +kernel
theorem dL_list_71 : decode cL_list 71 = .ok (.iconst 1, 1) := by decide +kernel
theorem dL_list_72 : decode cL_list 72 = .ok (.iconst 1, 1) := by decide +kernel
theorem dL_list_73 : decode cL_list 73 = .ok (.iastore, 1) := by decide +kernel
theorem dL_list_74 : decode cL_list 74 = .ok (.dup, 1) := by decide +kernel
theorem dL_list_75 : decode cL_list 75 = .ok (.iconst 2, 1) := by decide +kernel
theorem dL_list_76 : decode cL_list 76 = .ok (.iconst 2, 1) := by decide +kernel
theorem dL_list_77 : decode cL_list 77 = .ok (.iastore, 1) := by decide +kernel
theorem dL_list_78 : decode cL_list 78 = .ok (.dup, 1) := by decide +kernel
theorem dL_list_79 : decode cL_list 79 = .ok (.iconst 3, 1) := by decide +kernel
theorem dL_list_80 : decode cL_list 80 = .ok (.iconst 1, 1) := by decide +kernel
theorem dL_list_81 : decode cL_list 81 = .ok (.iastore, 1) := by decide +kernel
theorem dL_list_82 : decode cL_list 82 = .ok (.dup, 1) := by decide +kernel
theorem dL_list_83 : decode cL_list 83 = .ok (.iconst 4, 1) := by decide +kernel
theorem dL_list_84 : decode cL_list 84 = .ok (.iconst 0, 1) := by decide +kernel
theorem dL_list_85 : decode cL_list 85 = .ok (.iastore, 1) := by decide +kernel
theorem dL_list_86 : decode cL_list 86 = .ok (.astore_n 3, 1) := by decide +kernel
theorem dL_list_87 : decode cL_list 87 = .ok (.iconst 5, 1) := by decide +kernel
theorem dL_list_88 : decode cL_list 88 = .ok (.anewarray 10, 3) := by decide +kernel
theorem dL_list_91 : decode cL_list 91 = .ok (.dup, 1) := by decide +kernel
theorem dL_list_92 : decode cL_list 92 = .ok (.iconst 0, 1) := by decide +kernel
theorem dL_list_93 : decode cL_list 93 = .ok (.ldc 84, 2) := by decide +kernel
theorem dL_list_95 : decode cL_list 95 = .ok (.aastore, 1) := by decide +kernel
theorem dL_list_96 : decode cL_list 96 = .ok (.dup, 1) := by decide +kernel
theorem dL_list_97 : decode cL_list 97 = .ok (.iconst 1, 1) := by decide +kernel
theorem dL_list_98 : decode cL_list 98 = .ok (.aload_n 1, 1) := by decide +kernel
theorem dL_list_99 : decode cL_list 99 = .ok (.iconst 3, 1) := by decide +kernel
theorem dL_list_100 : decode cL_list 100 = .ok (.aaload, 1) := by decide +kernel
theorem dL_list_101 : decode cL_list 101 = .ok (.aastore, 1) := by decide +kernel
theorem dL_list_102 : decode cL_list 102 = .ok (.dup, 1) := by decide +kernel
theorem dL_list_103 : decode cL_list 103 = .ok (.iconst 2, 1) := by decide +kernel
theorem dL_list_104 : decode cL_list 104 = .ok (.aload_n 1, 1) := by decide +kernel
theorem dL_list_105 : decode cL_list 105 = .ok (.iconst 3, 1) := by decide +kernel
theorem dL_list_106 : decode cL_list 106 = .ok (.aaload, 1) := by decide +kernel
theorem dL_list_107 : decode cL_list 107 = .ok (.aastore, 1) := by decide +kernel
theorem dL_list_108 : decode cL_list 108 = .ok (.dup, 1) := by decide +kernel
theorem dL_list_109 : decode cL_list 109 = .ok (.iconst 3, 1) := by decide +kernel
theorem dL_list_110 : decode cL_list 110 = .ok (.aload_n 1, 1) := by decide +kernel
theorem dL_list_111 : decode cL_list 111 = .ok (.iconst 5, 1) := by decide +kernel
theorem dL_list_112 : decode cL_list 112 = .ok (.aaload, 1) := by decide +kernel
theorem dL_list_113 : decode cL_list 113 = .ok (.aastore, 1) := by decide +kernel
theorem dL_list_114 : decode cL_list 114 = .ok (.dup, 1) := by decide +kernel
theorem dL_list_115 : decode cL_list 115 = .ok (.iconst 4, 1) := by decide +kernel
theorem dL_list_116 : decode cL_list 116 = .ok (.ldc 84, 2) := by decide +kernel
theorem dL_list_118 : decode cL_list 118 = .ok (.aastore, 1) := by decide +kernel
theorem dL_list_119 : decode cL_list 119 = .ok (.astore 4, 2) := by decide +kernel
theorem dL_list_121 : decode cL_list 121 = .ok (.iconst 0, 1) := by decide +kernel
theorem dL_list_122 : decode cL_list 122 = .ok (.istore 5, 2) := by decide +kernel
theorem dL_list_124 : decode cL_list 124 = .ok (.iload 5, 2) := by decide +kernel
theorem dL_list_126 : decode cL_list 126 = .ok (.iconst 5, 1) := by decide +kernel
theorem dL_list_127 : decode cL_list 127 = .ok (.if_icmp .ge 87, 3) := by decide +kernel
theorem dL_list_130 : decode cL_list 130 = .ok (.new 47, 3) := by decide +kernel
theorem dL_list_133 : decode cL_list 133 = .ok (.dup, 1) := by decide +kernel
theorem dL_list_134 : decode cL_list 134 = .ok (.invokespecial 49, 3) := by decide +kernel
theorem dL_list_137 : decode cL_list 137 = .ok (.aload_n 2, 1) := by decide +kernel
theorem dL_list_138 : decode cL_list 138 = .ok (.invokevirtual 54, 3) := by decide +kernel
theorem dL_list_141 : decode cL_list 141 = .ok (.ldc 86, 2) := by decide +kernel
theorem dL_list_143 : decode cL_list 143 = .ok (.invokevirtual 54, 3) := by decide +kernel
theorem dL_list_146 : decode cL_list 146 = .ok (.aload_n 1, 1) := by decide +kernel
theorem dL_list_147 : decode cL_list 147 = .ok (.iconst 3, 1) := by decide +kernel
theorem dL_list_148 : decode cL_list 148 = .ok (.iload 5, 2) := by decide +kernel
theorem dL_list_150 : decode cL_list 150 = .ok (.iadd, 1) := by decide +kernel
theorem dL_list_151 : decode cL_list 151 = .ok (.aaload, 1) := by decide +kernel
theorem dL_list_152 : decode cL_list 152 = .ok (.invokevirtual 54, 3) := by decide +kernel
theorem dL_list_155 : decode cL_list 155 = .ok (.ldc 88, 2) := by decide +kernel
theorem dL_list_157 : decode cL_list 157 = .ok (.invokevirtual 54, 3) := by decide +kernel
theorem dL_list_160 : decode cL_list 160 = .ok (.aload_n 1, 1) := by decide +kernel
theorem dL_list_161 : decode cL_list 161 = .ok (.aload_n 3, 1) := by decide +kernel
theorem dL_list_162 : decode cL_list 162 = .ok (.iload 5, 2) := by decide +kernel
theorem dL_list_164 : decode cL_list 164 = .ok (.iaload, 1) := by decide +kernel
theorem dL_list_165 : decode cL_list 165 = .ok (.aaload, 1) := by decide +kernel
theorem dL_list_166 : decode cL_list 166 = .ok (.invokevirtual 54, 3) := by decide +kernel
theorem dL_list_169 : decode cL_list 169 = .ok (.ldc 90, 2) := by decide +kernel
theorem dL_list_171 : decode cL_list 171 = .ok (.invokevirtual 54, 3) := by decide +kernel
theorem dL_list_174 : decode cL_list 174 = .ok (.aload 4, 2) := by decide +kernel
theorem dL_list_176 : decode cL_list 176 = .ok (.iload 5, 2) := by decide +kernel
theorem dL_list_178 : decode cL_list 178 = .ok (.aaload, 1) := by decide +kernel
theorem dL_list_179 : decode cL_list 179 = .ok (.invokevirtual 54, 3) := by decide +kernel
theorem dL_list_182 : decode cL_list 182 = .ok (.ldc 92, 2) := by decide +kernel
theorem dL_list_184 : decode cL_list 184 = .ok (.invokevirtual 54, 3) := by decide +kernel
theorem dL_list_187 : decode cL_list 187 = .ok (.aload_n 0, 1) := by decide +kernel
theorem dL_list_188 : decode cL_list 188 = .ok (.iload 5, 2) := by decide +kernel
theorem dL_list_190 : decode cL_list 190 = .ok (.invokestatic 94, 3) := by decide +kernel
theorem dL_list_193 : decode cL_list 193 = .ok (.invokestatic 50, 3) := by decide +kernel
theorem dL_list_196 : decode cL_list 196 = .ok (.invokevirtual 54, 3) := by decide +kernel
theorem dL_list_199 : decode cL_list 199 = .ok (.ldc 82, 2) := by decide +kernel
theorem dL_list_201 : decode cL_list 201 = .ok (.invokevirtual 54, 3) := by decide +kernel
theorem dL_list_204 : decode cL_list 204 = .ok (.invokevirtual 58, 3) := by decide +kernel
theorem dL_list_207 : decode cL_list 207 = .ok (.astore_n 2, 1) := by decide +kernel
theorem dL_list_208 : decode cL_list 208 = .ok (.iinc 5 1, 3) := by decide +kernel
theorem dL_list_211 : decode cL_list 211 = .ok (.goto (-87), 3) := by decide +kernel
theorem dL_list_214 : decode cL_list 214 = .ok (.new 47, 3) := by decide +kernel
theorem dL_list_217 : decode cL_list 217 = .ok (.dup, 1) := by decide +kernel
theorem dL_list_218 : decode cL_list 218 = .ok (.invokespecial 49, 3) := by decide +kernel
theorem dL_list_221 : decode cL_list 221 = .ok (.aload_n 2, 1) := by decide +kernel
theorem dL_list_222 : decode cL_list 222 = .ok (.invokevirtual 54, 3) := by decide +kernel
theorem dL_list_225 : decode cL_list 225 = .ok (.ldc 97, 2) := by decide +kernel
theorem dL_list_227 : decode cL_list 227 = .ok (.invokevirtual 54, 3) := by decide +kernel
theorem dL_list_230 : decode cL_list 230 = .ok (.aload_n 1, 1) := by decide +kernel
theorem dL_list_231 : decode cL_list 231 = .ok (.bipush 8, 2) := by decide +kernel
theorem dL_list_233 : decode cL_list 233 = .ok (.aaload, 1) := by decide +kernel
theorem dL_list_234 : decode cL_list 234 = .ok (.invokevirtual 54, 3) := by decide +kernel
theorem dL_list_237 : decode cL_list 237 = .ok (.ldc 99, 2) := by decide +kernel
theorem dL_list_239 : decode cL_list 239 = .ok (.invokevirtual 54, 3) := by decide +kernel
theorem dL_list_242 : decode cL_list 242 = .ok (.aload_n 1, 1) := by decide +kernel
theorem dL_list_243 : decode cL_list 243 = .ok (.iconst 3, 1) := by decide +kernel
theorem dL_list_244 : decode cL_list 244 = .ok (.aaload, 1) := by decide +kernel
theorem dL_list_245 : decode cL_list 245 = .ok (.invokevirtual 54, 3) := by decide +kernel
theorem dL_list_248 : decode cL_list 248 = .ok (.ldc 101, 2) := by decide +kernel
theorem dL_list_250 : decode cL_list 250 = .ok (.invokevirtual 54, 3) := by decide +kernel
theorem dL_list_253 : decode cL_list 253 = .ok (.aload_n 1, 1) := by decide +kernel
theorem dL_list_254 : decode cL_list 254 = .ok (.bipush 7, 2) := by decide +kernel
theorem dL_list_256 : decode cL_list 256 = .ok (.aaload, 1) := by decide +kernel
theorem dL_list_257 : decode cL_list 257 = .ok (.invokevirtual 54, 3) := by decide +kernel
theorem dL_list_260 : decode cL_list 260 = .ok (.ldc 103, 2) := by decide +kernel
theorem dL_list_262 : decode cL_list 262 = .ok (.invokevirtual 54, 3) := by decide +kernel
theorem dL_list_265 : decode cL_list 265 = .ok (.aload_n 1, 1) := by decide +kernel
theorem dL_list_266 : decode cL_list 266 = .ok (.bipush 9, 2) := by decide +kernel
theorem dL_list_268 : decode cL_list 268 = .ok (.aaload, 1) := by decide +kernel
theorem dL_list_269 : decode cL_list 269 = .ok (.invokevirtual 54, 3) := by decide +kernel
theorem dL_list_272 : decode cL_list 272 = .ok (.ldc 99, 2) := by decide +kernel
theorem dL_list_274 : decode cL_list 274 = .ok (.invokevirtual 54, 3) := by decide +kernel
theorem dL_list_277 : decode cL_list 277 = .ok (.aload_n 1, 1) := by decide +kernel
theorem dL_list_278 : decode cL_list 278 = .ok (.iconst 4, 1) := by decide +kernel
theorem dL_list_279 : decode cL_list 279 = .ok (.aaload, 1) := by decide +kernel
theorem dL_list_280 : decode cL_list 280 = .ok (.invokevirtual 54, 3) := by decide +kernel
theorem dL_list_283 : decode cL_list 283 = .ok (.ldc 101, 2) := by decide +kernel
theorem dL_list_285 : decode cL_list 285 = .ok (.invokevirtual 54, 3) := by decide +kernel
theorem dL_list_288 : decode cL_list 288 = .ok (.aload_n 1, 1) := by decide +kernel
theorem dL_list_289 : decode cL_list 289 = .ok (.iconst 5, 1) := by decide +kernel
theorem dL_list_290 : decode cL_list 290 = .ok (.aaload, 1) := by decide +kernel
theorem dL_list_291 : decode cL_list 291 = .ok (.invokevirtual 54, 3) := by decide +kernel
theorem dL_list_294 : decode cL_list 294 = .ok (.ldc 101, 2) := by decide +kernel
theorem dL_list_296 : decode cL_list 296 = .ok (.invokevirtual 54, 3) := by decide +kernel
theorem dL_list_299 : decode cL_list 299 = .ok (.aload_n 1, 1) := by decide +kernel
theorem dL_list_300 : decode cL_list 300 = .ok (.bipush 6, 2) := by decide +kernel
theorem dL_list_302 : decode cL_list 302 = .ok (.aaload, 1) := by decide +kernel
theorem dL_list_303 : decode cL_list 303 = .ok (.invokevirtual 54, 3) := by decide +kernel
theorem dL_list_306 : decode cL_list 306 = .ok (.ldc 82, 2) := by decide +kernel
theorem dL_list_308 : decode cL_list 308 = .ok (.invokevirtual 54, 3) := by decide +kernel
theorem dL_list_311 : decode cL_list 311 = .ok (.invokevirtual 58, 3) := by decide +kernel
theorem dL_list_314 : decode cL_list 314 = .ok (.astore_n 2, 1) := by decide +kernel
theorem dL_list_315 : decode cL_list 315 = .ok (.new 47, 3) := by decide +kernel
theorem dL_list_318 : decode cL_list 318 = .ok (.dup, 1) := by decide +kernel
theorem dL_list_319 : decode cL_list 319 = .ok (.invokespecial 49, 3) := by decide +kernel
theorem dL_list_322 : decode cL_list 322 = .ok (.aload_n 2, 1) := by decide +kernel
theorem dL_list_323 : decode cL_list 323 = .ok (.invokevirtual 54, 3) := by decide +kernel
theorem dL_list_326 : decode cL_list 326 = .ok (.ldc 105, 2) := by decide +kernel
theorem dL_list_328 : decode cL_list 328 = .ok (.invokevirtual 54, 3) := by decide +kernel
theorem dL_list_331 : decode cL_list 331 = .ok (.aload_n 1, 1) := by decide +kernel
theorem dL_list_332 : decode cL_list 332 = .ok (.bipush 10, 2) := by decide +kernel
theorem dL_list_334 : decode cL_list 334 = .ok (.aaload, 1) := by decide +kernel
theorem dL_list_335 : decode cL_list 335 = .ok (.invokevirtual 54, 3) := by decide +kernel
theorem dL_list_338 : decode cL_list 338 = .ok (.ldc 107, 2) := by decide +kernel
theorem dL_list_340 : decode cL_list 340 = .ok (.invokevirtual 54, 3) := by decide +kernel
theorem dL_list_343 : decode cL_list 343 = .ok (.aload_n 0, 1) := by decide +kernel
theorem dL_list_344 : decode cL_list 344 = .ok (.iconst 0, 1) := by decide +kernel
theorem dL_list_345 : decode cL_list 345 = .ok (.invokestatic 109, 3) := by decide +kernel
theorem dL_list_348 : decode cL_list 348 = .ok (.invokestatic 50, 3) := by decide +kernel
theorem dL_list_351 : decode cL_list 351 = .ok (.invokevirtual 54, 3) := by decide +kernel
theorem dL_list_354 : decode cL_list 354 = .ok (.ldc 112, 2) := by decide +kernel
theorem dL_list_356 : decode cL_list 356 = .ok (.invokevirtual 54, 3) := by decide +kernel
theorem dL_list_359 : decode cL_list 359 = .ok (.aload_n 1, 1) := by decide +kernel
theorem dL_list_360 : decode cL_list 360 = .ok (.bipush 11, 2) := by decide +kernel
theorem dL_list_362 : decode cL_list 362 = .ok (.aaload, 1) := by decide +kernel
theorem dL_list_363 : decode cL_list 363 = .ok (.invokevirtual 54, 3) := by decide +kernel
theorem dL_list_366 : decode cL_list 366 = .ok (.ldc 107, 2) := by decide +kernel
theorem dL_list_368 : decode cL_list 368 = .ok (.invokevirtual 54, 3) := by decide +kernel
theorem dL_list_371 : decode cL_list 371 = .ok (.aload_n 0, 1) := by decide +kernel
theorem dL_list_372 : decode cL_list 372 = .ok (.iconst 1, 1) := by decide +kernel
theorem dL_list_373 : decode cL_list 373 = .ok (.invokestatic 109, 3) := by decide +kernel
theorem dL_list_376 : decode cL_list 376 = .ok (.invokestatic 50, 3) := by decide +kernel
theorem dL_list_379 : decode cL_list 379 = .ok (.invokevirtual 54, 3) := by decide +kernel
theorem dL_list_382 : decode cL_list 382 = .ok (.ldc 82, 2) := by decide +kernel
theorem dL_list_384 : decode cL_list 384 = .ok (.invokevirtual 54, 3) := by decide +kernel
theorem dL_list_387 : decode cL_list 387 = .ok (.invokevirtual 58, 3) := by decide +kernel
theorem dL_list_390 : decode cL_list 390 = .ok (.astore_n 2, 1) := by decide +kernel
theorem dL_list_391 : decode cL_list 391 = .ok (.new 47, 3) := by decide +kernel
theorem dL_list_394 : decode cL_list 394 = .ok (.dup, 1) := by decide +kernel
theorem dL_list_395 : decode cL_list 395 = .ok (.invokespecial 49, 3) := by decide +kernel
theorem dL_list_398 : decode cL_list 398 = .ok (.aload_n 2, 1) := by decide +kernel
theorem dL_list_399 : decode cL_list 399 = .ok (.invokevirtual 54, 3) := by decide +kernel
theorem dL_list_402 : decode cL_list 402 = .ok (.ldc 114, 2) := by decide +kernel
theorem dL_list_404 : decode cL_list 404 = .ok (.invokevirtual 54, 3) := by decide +kernel
theorem dL_list_407 : decode cL_list 407 = .ok (.aload_n 1, 1) := by decide +kernel
theorem dL_list_408 : decode cL_list 408 = .ok (.iconst 4, 1) := by decide +kernel
theorem dL_list_409 : decode cL_list 409 = .ok (.aaload, 1) := by decide +kernel
theorem dL_list_410 : decode cL_list 410 = .ok (.invokevirtual 54, 3) := by decide +kernel
theorem dL_list_413 : decode cL_list 413 = .ok (.ldc 116, 2) := by decide +kernel
theorem dL_list_415 : decode cL_list 415 = .ok (.invokevirtual 54, 3) := by decide +kernel
theorem dL_list_418 : decode cL_list 418 = .ok (.aload_n 1, 1) := by decide +kernel
theorem dL_list_419 : decode cL_list 419 = .ok (.bipush 10, 2) := by decide +kernel
theorem dL_list_421 : decode cL_list 421 = .ok (.aaload, 1) := by decide +kernel
theorem dL_list_422 : decode cL_list 422 = .ok (.invokevirtual 54, 3) := by decide +kernel
theorem dL_list_425 : decode cL_list 425 = .ok (.ldc 118, 2) := by decide +kernel
theorem dL_list_427 : decode cL_list 427 = .ok (.invokevirtual 54, 3) := by decide +kernel
theorem dL_list_430 : decode cL_list 430 = .ok (.aload_n 1, 1) := by decide +kernel
theorem dL_list_431 : decode cL_list 431 = .ok (.iconst 4, 1) := by decide +kernel
theorem dL_list_432 : decode cL_list 432 = .ok (.aaload, 1) := by decide +kernel
theorem dL_list_433 : decode cL_list 433 = .ok (.invokevirtual 54, 3) := by decide +kernel
theorem dL_list_436 : decode cL_list 436 = .ok (.ldc 120, 2) := by decide +kernel
theorem dL_list_438 : decode cL_list 438 = .ok (.invokevirtual 54, 3) := by decide +kernel
theorem dL_list_441 : decode cL_list 441 = .ok (.aload_n 0, 1) := by decide +kernel
theorem dL_list_442 : decode cL_list 442 = .ok (.invokestatic 122, 3) := by decide +kernel
theorem dL_list_445 : decode cL_list 445 = .ok (.invokestatic 50, 3) := by decide +kernel
theorem dL_list_448 : decode cL_list 448 = .ok (.invokevirtual 54, 3) := by decide +kernel
theorem dL_list_451 : decode cL_list 451 = .ok (.ldc 126, 2) := by decide +kernel
theorem dL_list_453 : decode cL_list 453 = .ok (.invokevirtual 54, 3) := by decide +kernel
theorem dL_list_456 : decode cL_list 456 = .ok (.aload_n 1, 1) := by decide +kernel
theorem dL_list_457 : decode cL_list 457 = .ok (.bipush 7, 2) := by decide +kernel
theorem dL_list_459 : decode cL_list 459 = .ok (.aaload, 1) := by decide +kernel
theorem dL_list_460 : decode cL_list 460 = .ok (.invokevirtual 54, 3) := by decide +kernel
theorem dL_list_463 : decode cL_list 463 = .ok (.ldc 82, 2) := by decide +kernel
theorem dL_list_465 : decode cL_list 465 = .ok (.invokevirtual 54, 3) := by decide +kernel
theorem dL_list_468 : decode cL_list 468 = .ok (.invokevirtual 58, 3) := by decide +kernel
theorem dL_list_471 : decode cL_list 471 = .ok (.astore_n 2, 1) := by decide +kernel
theorem dL_list_472 : decode cL_list 472 = .ok (.new 47, 3) := by decide +kernel
theorem dL_list_475 : decode cL_list 475 = .ok (.dup, 1) := by decide +kernel
theorem dL_list_476 : decode cL_list 476 = .ok (.invokespecial 49, 3) := by decide +kernel
theorem dL_list_479 : decode cL_list 479 = .ok (.aload_n 2, 1) := by decide +kernel
theorem dL_list_480 : decode cL_list 480 = .ok (.invokevirtual 54, 3) := by decide +kernel
theorem dL_list_483 : decode cL_list 483 = .ok (.ldc 128, 2) := by decide +kernel
theorem dL_list_485 : decode cL_list 485 = .ok (.invokevirtual 54, 3) := by decide +kernel
theorem dL_list_488 : decode cL_list 488 = .ok (.aload_n 1, 1) := by decide +kernel
theorem dL_list_489 : decode cL_list 489 = .ok (.bipush 8, 2) := by decide +kernel
theorem dL_list_491 : decode cL_list 491 = .ok (.aaload, 1) := by decide +kernel
theorem dL_list_492 : decode cL_list 492 = .ok (.invokevirtual 54, 3) := by decide +kernel
theorem dL_list_495 : decode cL_list 495 = .ok (.ldc 116, 2) := by decide +kernel
theorem dL_list_497 : decode cL_list 497 = .ok (.invokevirtual 54, 3) := by decide +kernel
theorem dL_list_500 : decode cL_list 500 = .ok (.aload_n 1, 1) := by decide +kernel
theorem dL_list_501 : decode cL_list 501 = .ok (.bipush 10, 2) := by decide +kernel
theorem dL_list_503 : decode cL_list 503 = .ok (.aaload, 1) := by decide +kernel
theorem dL_list_504 : decode cL_list 504 = .ok (.invokevirtual 54, 3) := by decide +kernel
theorem dL_list_507 : decode cL_list 507 = .ok (.ldc 130, 2) := by decide +kernel
theorem dL_list_509 : decode cL_list 509 = .ok (.invokevirtual 54, 3) := by decide +kernel
theorem dL_list_512 : decode cL_list 512 = .ok (.aload_n 1, 1) := by decide +kernel
theorem dL_list_513 : decode cL_list 513 = .ok (.bipush 8, 2) := by decide +kernel
theorem dL_list_515 : decode cL_list 515 = .ok (.aaload, 1) := by decide +kernel
theorem dL_list_516 : decode cL_list 516 = .ok (.invokevirtual 54, 3) := by decide +kernel
theorem dL_list_519 : decode cL_list 519 = .ok (.ldc 132, 2) := by decide +kernel
theorem dL_list_521 : decode cL_list 521 = .ok (.invokevirtual 54, 3) := by decide +kernel
theorem dL_list_524 : decode cL_list 524 = .ok (.aload_n 1, 1) := by decide +kernel
theorem dL_list_525 : decode cL_list 525 = .ok (.bipush 11, 2) := by decide +kernel
theorem dL_list_527 : decode cL_list 527 = .ok (.aaload, 1) := by decide +kernel
theorem dL_list_528 : decode cL_list 528 = .ok (.invokevirtual 54, 3) := by decide +kernel
theorem dL_list_531 : decode cL_list 531 = .ok (.ldc 134, 2) := by decide +kernel
theorem dL_list_533 : decode cL_list 533 = .ok (.invokevirtual 54, 3) := by decide +kernel
theorem dL_list_536 : decode cL_list 536 = .ok (.invokevirtual 58, 3) := by decide +kernel
theorem dL_list_539 : decode cL_list 539 = .ok (.astore_n 2, 1) := by decide +kernel
theorem dL_list_540 : decode cL_list 540 = .ok (.new 47, 3) := by decide +kernel
theorem dL_list_543 : decode cL_list 543 = .ok (.dup, 1) := by decide +kernel
theorem dL_list_544 : decode cL_list 544 = .ok (.invokespecial 49, 3) := by decide +kernel
theorem dL_list_547 : decode cL_list 547 = .ok (.aload_n 2, 1) := by decide +kernel
theorem dL_list_548 : decode cL_list 548 = .ok (.invokevirtual 54, 3) := by decide +kernel
theorem dL_list_551 : decode cL_list 551 = .ok (.ldc 114, 2) := by decide +kernel
theorem dL_list_553 : decode cL_list 553 = .ok (.invokevirtual 54, 3) := by decide +kernel
theorem dL_list_556 : decode cL_list 556 = .ok (.aload_n 1, 1) := by decide +kernel
theorem dL_list_557 : decode cL_list 557 = .ok (.bipush 6, 2) := by decide +kernel
theorem dL_list_559 : decode cL_list 559 = .ok (.aaload, 1) := by decide +kernel
theorem dL_list_560 : decode cL_list 560 = .ok (.invokevirtual 54, 3) := by decide +kernel
theorem dL_list_563 : decode cL_list 563 = .ok (.ldc 116, 2) := by decide +kernel
theorem dL_list_565 : decode cL_list 565 = .ok (.invokevirtual 54, 3) := by decide +kernel
theorem dL_list_568 : decode cL_list 568 = .ok (.aload_n 1, 1) := by decide +kernel
theorem dL_list_569 : decode cL_list 569 = .ok (.bipush 11, 2) := by decide +kernel
theorem dL_list_571 : decode cL_list 571 = .ok (.aaload, 1) := by decide +kernel
theorem dL_list_572 : decode cL_list 572 = .ok (.invokevirtual 54, 3) := by decide +kernel
theorem dL_list_575 : decode cL_list 575 = .ok (.ldc 136, 2) := by decide +kernel
theorem dL_list_577 : decode cL_list 577 = .ok (.invokevirtual 54, 3) := by decide +kernel
theorem dL_list_580 : decode cL_list 580 = .ok (.aload_n 1, 1) := by decide +kernel
theorem dL_list_581 : decode cL_list 581 = .ok (.iconst 5, 1) := by decide +kernel
theorem dL_list_582 : decode cL_list 582 = .ok (.aaload, 1) := by decide +kernel
theorem dL_list_583 : decode cL_list 583 = .ok (.invokevirtual 54, 3) := by decide +kernel
theorem dL_list_586 : decode cL_list 586 = .ok (.ldc 138, 2) := by decide +kernel
theorem dL_list_588 : decode cL_list 588 = .ok (.invokevirtual 54, 3) := by decide +kernel
theorem dL_list_591 : decode cL_list 591 = .ok (.aload_n 0, 1) := by decide +kernel
theorem dL_list_592 : decode cL_list 592 = .ok (.invokestatic 140, 3) := by decide +kernel
theorem dL_list_595 : decode cL_list 595 = .ok (.invokestatic 50, 3) := by decide +kernel
theorem dL_list_598 : decode cL_list 598 = .ok (.invokevirtual 54, 3) := by decide +kernel
theorem dL_list_601 : decode cL_list 601 = .ok (.ldc 143, 2) := by decide +kernel
theorem dL_list_603 : decode cL_list 603 = .ok (.invokevirtual 54, 3) := by decide +kernel
theorem dL_list_606 : decode cL_list 606 = .ok (.aload_n 0, 1) := by decide +kernel
theorem dL_list_607 : decode cL_list 607 = .ok (.invokestatic 145, 3) := by decide +kernel
theorem dL_list_610 : decode cL_list 610 = .ok (.invokestatic 50, 3) := by decide +kernel
theorem dL_list_613 : decode cL_list 613 = .ok (.invokevirtual 54, 3) := by decide +kernel
theorem dL_list_616 : decode cL_list 616 = .ok (.ldc 148, 2) := by decide +kernel
theorem dL_list_618 : decode cL_list 618 = .ok (.invokevirtual 54, 3) := by decide +kernel
theorem dL_list_621 : decode cL_list 621 = .ok (.aload_n 1, 1) := by decide +kernel
theorem dL_list_622 : decode cL_list 622 = .ok (.bipush 6, 2) := by decide +kernel
theorem dL_list_624 : decode cL_list 624 = .ok (.aaload, 1) := by decide +kernel
theorem dL_list_625 : decode cL_list 625 = .ok (.invokevirtual 54, 3) := by decide +kernel
theorem dL_list_628 : decode cL_list 628 = .ok (.ldc 150, 2) := by decide +kernel
theorem dL_list_630 : decode cL_list 630 = .ok (.invokevirtual 54, 3) := by decide +kernel
theorem dL_list_633 : decode cL_list 633 = .ok (.invokevirtual 58, 3) := by decide +kernel
theorem dL_list_636 : decode cL_list 636 = .ok (.astore_n 2, 1) := by decide +kernel
theorem dL_list_637 : decode cL_list 637 = .ok (.new 47, 3) := by decide +kernel
theorem dL_list_640 : decode cL_list 640 = .ok (.dup, 1) := by decide +kernel
theorem dL_list_641 : decode cL_list 641 = .ok (.invokespecial 49, 3) := by decide +kernel
theorem dL_list_644 : decode cL_list 644 = .ok (.aload_n 2, 1) := by decide +kernel
theorem dL_list_645 : decode cL_list 645 = .ok (.invokevirtual 54, 3) := by decide +kernel
theorem dL_list_648 : decode cL_list 648 = .ok (.ldc 128, 2) := by decide +kernel
theorem dL_list_650 : decode cL_list 650 = .ok (.invokevirtual 54, 3) := by decide +kernel
theorem dL_list_653 : decode cL_list 653 = .ok (.aload_n 1, 1) := by decide +kernel
theorem dL_list_654 : decode cL_list 654 = .ok (.bipush 9, 2) := by decide +kernel
theorem dL_list_656 : decode cL_list 656 = .ok (.aaload, 1) := by decide +kernel
theorem dL_list_657 : decode cL_list 657 = .ok (.invokevirtual 54, 3) := by decide +kernel
theorem dL_list_660 : decode cL_list 660 = .ok (.ldc 116, 2) := by decide +kernel
theorem dL_list_662 : decode cL_list 662 = .ok (.invokevirtual 54, 3) := by decide +kernel
theorem dL_list_665 : decode cL_list 665 = .ok (.aload_n 1, 1) := by decide +kernel
theorem dL_list_666 : decode cL_list 666 = .ok (.bipush 11, 2) := by decide +kernel
theorem dL_list_668 : decode cL_list 668 = .ok (.aaload, 1) := by decide +kernel
theorem dL_list_669 : decode cL_list 669 = .ok (.invokevirtual 54, 3) := by decide +kernel
theorem dL_list_672 : decode cL_list 672 = .ok (.ldc 152, 2) := by decide +kernel
theorem dL_list_674 : decode cL_list 674 = .ok (.invokevirtual 54, 3) := by decide +kernel
theorem dL_list_677 : decode cL_list 677 = .ok (.aload_n 0, 1) := by decide +kernel
theorem dL_list_678 : decode cL_list 678 = .ok (.invokestatic 154, 3) := by decide +kernel
theorem dL_list_681 : decode cL_list 681 = .ok (.invokestatic 50, 3) := by decide +kernel
theorem dL_list_684 : decode cL_list 684 = .ok (.invokevirtual 54, 3) := by decide +kernel
theorem dL_list_687 : decode cL_list 687 = .ok (.ldc 157, 2) := by decide +kernel
theorem dL_list_689 : decode cL_list 689 = .ok (.invokevirtual 54, 3) := by decide +kernel
theorem dL_list_692 : decode cL_list 692 = .ok (.aload_n 0, 1) := by decide +kernel
theorem dL_list_693 : decode cL_list 693 = .ok (.invokestatic 154, 3) := by decide +kernel
theorem dL_list_696 : decode cL_list 696 = .ok (.invokestatic 50, 3) := by decide +kernel
theorem dL_list_699 : decode cL_list 699 = .ok (.invokevirtual 54, 3) := by decide +kernel
theorem dL_list_702 : decode cL_list 702 = .ok (.ldc 159, 2) := by decide +kernel
theorem dL_list_704 : decode cL_list 704 = .ok (.invokevirtual 54, 3) := by decide +kernel
theorem dL_list_707 : decode cL_list 707 = .ok (.invokevirtual 58, 3) := by decide +kernel
theorem dL_list_710 : decode cL_list 710 = .ok (.areturn, 1) := by decide +kernel
theorem dL_quipu_0 : decode cL_quipu 0 = .ok (.new 26, 3) := by decide +kernel
theorem dL_quipu_3 : decode cL_quipu 3 = .ok (.dup, 1) := by decide +kernel
theorem dL_quipu_4 : decode cL_quipu 4 = .ok (.invokespecial 161, 3) := by decide +kernel
theorem dL_quipu_7 : decode cL_quipu 7 = .ok (.astore_n 1, 1) := by decide +kernel
theorem dL_quipu_8 : decode cL_quipu 8 = .ok (.aload_n 1, 1) := by decide +kernel
theorem dL_quipu_9 : decode cL_quipu 9 = .ok (.aload_n 0, 1) := by decide +kernel
theorem dL_quipu_10 : decode cL_quipu 10 = .ok (.getstatic 162, 3) := by decide +kernel
theorem dL_quipu_13 : decode cL_quipu 13 = .ok (.invokestatic 166, 3) := by decide +kernel
theorem dL_quipu_16 : decode cL_quipu 16 = .ok (.invokestatic 170, 3) := by decide +kernel
theorem dL_quipu_19 : decode cL_quipu 19 = .ok (.aload_n 1, 1) := by decide +kernel
theorem dL_quipu_20 : decode cL_quipu 20 = .ok (.invokevirtual 174, 3) := by decide +kernel
theorem dL_quipu_23 : decode cL_quipu 23 = .ok (.pop, 1) := by decide +kernel
theorem dL_quipu_24 : decode cL_quipu 24 = .ok (.aload_n 1, 1) := by decide +kernel
theorem dL_quipu_25 : decode cL_quipu 25 = .ok (.areturn, 1) := by decide +kernel
theorem dL_law_0 : decode cL_law 0 = .ok (.aload_n 0, 1) := by decide +kernel
theorem dL_law_1 : decode cL_law 1 = .ok (.invokestatic 177, 3) := by decide +kernel
theorem dL_law_4 : decode cL_law 4 = .ok (.astore_n 1, 1) := by decide +kernel
theorem dL_law_5 : decode cL_law 5 = .ok (.iconst 0, 1) := by decide +kernel
theorem dL_law_6 : decode cL_law 6 = .ok (.istore_n 2, 1) := by decide +kernel
theorem dL_law_7 : decode cL_law 7 = .ok (.iload_n 2, 1) := by decide +kernel
theorem dL_law_8 : decode cL_law 8 = .ok (.bipush 20, 2) := by decide +kernel
theorem dL_law_10 : decode cL_law 10 = .ok (.if_icmp .ge 334, 3) := by decide +kernel
theorem dL_law_13 : decode cL_law 13 = .ok (.aload_n 0, 1) := by decide +kernel
theorem dL_law_14 : decode cL_law 14 = .ok (.bipush 10, 2) := by decide +kernel
theorem dL_law_16 : decode cL_law 16 = .ok (.iload_n 2, 1) := by decide +kernel
theorem dL_law_17 : decode cL_law 17 = .ok (.iadd, 1) := by decide +kernel
theorem dL_law_18 : decode cL_law 18 = .ok (.invokestatic 65, 3) := by decide +kernel
theorem dL_law_21 : decode cL_law 21 = .ok (.iconst 2, 1) := by decide +kernel
theorem dL_law_22 : decode cL_law 22 = .ok (.ishr, 1) := by decide +kernel
theorem dL_law_23 : decode cL_law 23 = .ok (.istore_n 3, 1) := by decide +kernel
theorem dL_law_24 : decode cL_law 24 = .ok (.iload_n 3, 1) := by decide +kernel
theorem dL_law_25 : decode cL_law 25 = .ok (.iconst 5, 1) := by decide +kernel
theorem dL_law_26 : decode cL_law 26 = .ok (.invokestatic 69, 3) := by decide +kernel
theorem dL_law_29 : decode cL_law 29 = .ok (.istore 4, 2) := by decide +kernel
theorem dL_law_31 : decode cL_law 31 = .ok (.aload_n 1, 1) := by decide +kernel
theorem dL_law_32 : decode cL_law 32 = .ok (.invokevirtual 181, 3) := by decide +kernel
theorem dL_law_35 : decode cL_law 35 = .ok (.lstore 5, 2) := by decide +kernel
theorem dL_law_37 : decode cL_law 37 = .ok (.aload_n 1, 1) := by decide +kernel
theorem dL_law_38 : decode cL_law 38 = .ok (.iconst 4, 1) := by decide +kernel
theorem dL_law_39 : decode cL_law 39 = .ok (.bipush 6, 2) := by decide +kernel
theorem dL_law_41 : decode cL_law 41 = .ok (.invokevirtual 185, 3) := by decide +kernel
theorem dL_law_44 : decode cL_law 44 = .ok (.istore 7, 2) := by decide +kernel
theorem dL_law_46 : decode cL_law 46 = .ok (.aload_n 1, 1) := by decide +kernel
theorem dL_law_47 : decode cL_law 47 = .ok (.iload 4, 2) := by decide +kernel
theorem dL_law_49 : decode cL_law 49 = .ok (.iconst 2, 1) := by decide +kernel
theorem dL_law_50 : decode cL_law 50 = .ok (.irem, 1) := by decide +kernel
theorem dL_law_51 : decode cL_law 51 = .ok (.invokevirtual 188, 3) := by decide +kernel
theorem dL_law_54 : decode cL_law 54 = .ok (.istore 8, 2) := by decide +kernel
theorem dL_law_56 : decode cL_law 56 = .ok (.aload_n 1, 1) := by decide +kernel
theorem dL_law_57 : decode cL_law 57 = .ok (.iconst 5, 1) := by decide +kernel
theorem dL_law_58 : decode cL_law 58 = .ok (.invokevirtual 191, 3) := by decide +kernel
theorem dL_law_61 : decode cL_law 61 = .ok (.istore 9, 2) := by decide +kernel
theorem dL_law_63 : decode cL_law 63 = .ok (.aload_n 1, 1) := by decide +kernel
theorem dL_law_64 : decode cL_law 64 = .ok (.invokevirtual 181, 3) := by decide +kernel
theorem dL_law_67 : decode cL_law 67 = .ok (.lload 5, 2) := by decide +kernel
theorem dL_law_69 : decode cL_law 69 = .ok (.lcmp, 1) := by decide +kernel
theorem dL_law_70 : decode cL_law 70 = .ok (.ifCond .ne 60, 3) := by decide +kernel
theorem dL_law_73 : decode cL_law 73 = .ok (.iload 8, 2) := by decide +kernel
theorem dL_law_75 : decode cL_law 75 = .ok (.iconst (-1), 1) := by decide +kernel
theorem dL_law_76 : decode cL_law 76 = .ok (.if_icmp .lt 54, 3) := by decide +kernel
theorem dL_law_79 : decode cL_law 79 = .ok (.iload 8, 2) := by decide +kernel
theorem dL_law_81 : decode cL_law 81 = .ok (.sipush 150, 3) := by decide +kernel
theorem dL_law_84 : decode cL_law 84 = .ok (.if_icmp .gt 46, 3) := by decide +kernel
theorem dL_law_87 : decode cL_law 87 = .ok (.iload 8, 2) := by decide +kernel
theorem dL_law_89 : decode cL_law 89 = .ok (.ifCond .ne 7, 3) := by decide +kernel
theorem dL_law_92 : decode cL_law 92 = .ok (.iconst 1, 1) := by decide +kernel
theorem dL_law_93 : decode cL_law 93 = .ok (.goto 4, 3) := by decide +kernel
theorem dL_law_96 : decode cL_law 96 = .ok (.iconst 0, 1) := by decide +kernel
theorem dL_law_97 : decode cL_law 97 = .ok (.aload_n 1, 1) := by decide +kernel
theorem dL_law_98 : decode cL_law 98 = .ok (.iload 4, 2) := by decide +kernel
theorem dL_law_100 : decode cL_law 100 = .ok (.iconst 2, 1) := by decide +kernel
theorem dL_law_101 : decode cL_law 101 = .ok (.irem, 1) := by decide +kernel
theorem dL_law_102 : decode cL_law 102 = .ok (.iconst 3, 1) := by decide +kernel
theorem dL_law_103 : decode cL_law 103 = .ok (.invokevirtual 194, 3) := by decide +kernel
theorem dL_law_106 : decode cL_law 106 = .ok (.iconst 1, 1) := by decide +kernel
theorem dL_law_107 : decode cL_law 107 = .ok (.if_icmp .ne 7, 3) := by decide +kernel
theorem dL_law_110 : decode cL_law 110 = .ok (.iconst 1, 1) := by decide +kernel
theorem dL_law_111 : decode cL_law 111 = .ok (.goto 4, 3) := by decide +kernel
theorem dL_law_114 : decode cL_law 114 = .ok (.iconst 0, 1) := by decide +kernel
theorem dL_law_115 : decode cL_law 115 = .ok (.if_icmp .ne 15, 3) := by decide +kernel
theorem dL_law_118 : decode cL_law 118 = .ok (.iload 9, 2) := by decide +kernel
theorem dL_law_120 : decode cL_law 120 = .ok (.iconst (-1), 1) := by decide +kernel
theorem dL_law_121 : decode cL_law 121 = .ok (.if_icmp .lt 9, 3) := by decide +kernel
theorem dL_law_124 : decode cL_law 124 = .ok (.iload 9, 2) := by decide +kernel
theorem dL_law_126 : decode cL_law 126 = .ok (.iconst 1, 1) := by decide +kernel
theorem dL_law_127 : decode cL_law 127 = .ok (.if_icmp .le 5, 3) := by decide +kernel
theorem dL_law_130 : decode cL_law 130 = .ok (.iconst 0, 1) := by decide +kernel
theorem dL_law_131 : decode cL_law 131 = .ok (.ireturn, 1) := by decide +kernel
theorem dL_law_132 : decode cL_law 132 = .ok (.aload_n 1, 1) := by decide +kernel
theorem dL_law_133 : decode cL_law 133 = .ok (.bipush 10, 2) := by decide +kernel
theorem dL_law_135 : decode cL_law 135 = .ok (.invokevirtual 25, 3) := by decide +kernel
theorem dL_law_138 : decode cL_law 138 = .ok (.istore 10, 2) := by decide +kernel
theorem dL_law_140 : decode cL_law 140 = .ok (.iload_n 3, 1) := by decide +kernel
theorem dL_law_141 : decode cL_law 141 = .ok (.iconst 3, 1) := by decide +kernel
theorem dL_law_142 : decode cL_law 142 = .ok (.ishr, 1) := by decide +kernel
theorem dL_law_143 : decode cL_law 143 = .ok (.bipush 7, 2) := by decide +kernel
theorem dL_law_145 : decode cL_law 145 = .ok (.invokestatic 69, 3) := by decide +kernel
theorem dL_law_148 : decode cL_law 148 = .ok (.istore 11, 2) := by decide +kernel
theorem dL_law_150 : decode cL_law 150 = .ok (.iload_n 3, 1) := by decide +kernel
theorem dL_law_151 : decode cL_law 151 = .ok (.bipush 6, 2) := by decide +kernel
theorem dL_law_153 : decode cL_law 153 = .ok (.ishr, 1) := by decide +kernel
theorem dL_law_154 : decode cL_law 154 = .ok (.bipush 6, 2) := by decide +kernel
theorem dL_law_156 : decode cL_law 156 = .ok (.invokestatic 69, 3) := by decide +kernel
theorem dL_law_159 : decode cL_law 159 = .ok (.iconst 1, 1) := by decide +kernel
theorem dL_law_160 : decode cL_law 160 = .ok (.isub, 1) := by decide +kernel
theorem dL_law_161 : decode cL_law 161 = .ok (.istore 12, 2) := by decide +kernel
theorem dL_law_163 : decode cL_law 163 = .ok (.iload 11, 2) := by decide +kernel
theorem dL_law_165 : decode cL_law 165 = .ok (.ifCond .ne 22, 3) := by decide +kernel
theorem dL_law_168 : decode cL_law 168 = .ok (.aload_n 1, 1) := by decide +kernel
theorem dL_law_169 : decode cL_law 169 = .ok (.iload 4, 2) := by decide +kernel
theorem dL_law_171 : decode cL_law 171 = .ok (.iload_n 3, 1) := by decide +kernel
theorem dL_law_172 : decode cL_law 172 = .ok (.iconst 5, 1) := by decide +kernel
theorem dL_law_173 : decode cL_law 173 = .ok (.ishr, 1) := by decide +kernel
theorem dL_law_174 : decode cL_law 174 = .ok (.sipush 10000, 3) := by decide +kernel
theorem dL_law_177 : decode cL_law 177 = .ok (.invokestatic 69, 3) := by decide +kernel
theorem dL_law_180 : decode cL_law 180 = .ok (.invokevirtual 197, 3) := by decide +kernel
theorem dL_law_183 : decode cL_law 183 = .ok (.pop, 1) := by decide +kernel
theorem dL_law_184 : decode cL_law 184 = .ok (.goto 134, 3) := by decide +kernel
theorem dL_law_187 : decode cL_law 187 = .ok (.iload 11, 2) := by decide +kernel
theorem dL_law_189 : decode cL_law 189 = .ok (.iconst 1, 1) := by decide +kernel
theorem dL_law_190 : decode cL_law 190 = .ok (.if_icmp .ne 15, 3) := by decide +kernel
theorem dL_law_193 : decode cL_law 193 = .ok (.aload_n 1, 1) := by decide +kernel
theorem dL_law_194 : decode cL_law 194 = .ok (.iload 4, 2) := by decide +kernel
theorem dL_law_196 : decode cL_law 196 = .ok (.iconst 2, 1) := by decide +kernel
theorem dL_law_197 : decode cL_law 197 = .ok (.irem, 1) := by decide +kernel
theorem dL_law_198 : decode cL_law 198 = .ok (.invokevirtual 200, 3) := by decide +kernel
theorem dL_law_201 : decode cL_law 201 = .ok (.pop, 1) := by decide +kernel
theorem dL_law_202 : decode cL_law 202 = .ok (.goto 116, 3) := by decide +kernel
theorem dL_law_205 : decode cL_law 205 = .ok (.iload 11, 2) := by decide +kernel
theorem dL_law_207 : decode cL_law 207 = .ok (.iconst 2, 1) := by decide +kernel
theorem dL_law_208 : decode cL_law 208 = .ok (.if_icmp .ne 20, 3) := by decide +kernel
theorem dL_law_211 : decode cL_law 211 = .ok (.aload_n 1, 1) := by decide +kernel
theorem dL_law_212 : decode cL_law 212 = .ok (.iload 4, 2) := by decide +kernel
theorem dL_law_214 : decode cL_law 214 = .ok (.iload_n 3, 1) := by decide +kernel
theorem dL_law_215 : decode cL_law 215 = .ok (.iconst 5, 1) := by decide +kernel
theorem dL_law_216 : decode cL_law 216 = .ok (.ishr, 1) := by decide +kernel
theorem dL_law_217 : decode cL_law 217 = .ok (.iconst 3, 1) := by decide +kernel
theorem dL_law_218 : decode cL_law 218 = .ok (.invokestatic 69, 3) := by decide +kernel
theorem dL_law_221 : decode cL_law 221 = .ok (.invokevirtual 203, 3) := by decide +kernel
theorem dL_law_224 : decode cL_law 224 = .ok (.pop, 1) := by decide +kernel
theorem dL_law_225 : decode cL_law 225 = .ok (.goto 93, 3) := by decide +kernel
theorem dL_law_228 : decode cL_law 228 = .ok (.iload 11, 2) := by decide +kernel
theorem dL_law_230 : decode cL_law 230 = .ok (.iconst 3, 1) := by decide +kernel
theorem dL_law_231 : decode cL_law 231 = .ok (.if_icmp .ne 57, 3) := by decide +kernel
theorem dL_law_234 : decode cL_law 234 = .ok (.aload_n 1, 1) := by decide +kernel
theorem dL_law_235 : decode cL_law 235 = .ok (.iload 4, 2) := by decide +kernel
theorem dL_law_237 : decode cL_law 237 = .ok (.iload 12, 2) := by decide +kernel
theorem dL_law_239 : decode cL_law 239 = .ok (.invokestatic 206, 3) := by decide +kernel
theorem dL_law_242 : decode cL_law 242 = .ok (.ifCond .eq 46, 3) := by decide +kernel
theorem dL_law_245 : decode cL_law 245 = .ok (.aload_n 1, 1) := by decide +kernel
theorem dL_law_246 : decode cL_law 246 = .ok (.iload 4, 2) := by decide +kernel
theorem dL_law_248 : decode cL_law 248 = .ok (.iload 12, 2) := by decide +kernel
theorem dL_law_250 : decode cL_law 250 = .ok (.invokevirtual 210, 3) := by decide +kernel
theorem dL_law_253 : decode cL_law 253 = .ok (.iload 12, 2) := by decide +kernel
theorem dL_law_255 : decode cL_law 255 = .ok (.ifCond .ge 7, 3) := by decide +kernel
theorem dL_law_258 : decode cL_law 258 = .ok (.iconst 1, 1) := by decide +kernel
theorem dL_law_259 : decode cL_law 259 = .ok (.goto 12, 3) := by decide +kernel
theorem dL_law_262 : decode cL_law 262 = .ok (.aload_n 1, 1) := by decide +kernel
theorem dL_law_263 : decode cL_law 263 = .ok (.iload 12, 2) := by decide +kernel
theorem dL_law_265 : decode cL_law 265 = .ok (.iconst 2, 1) := by decide +kernel
theorem dL_law_266 : decode cL_law 266 = .ok (.invokevirtual 213, 3) := by decide +kernel
theorem dL_law_269 : decode cL_law 269 = .ok (.iconst 1, 1) := by decide +kernel
theorem dL_law_270 : decode cL_law 270 = .ok (.iadd, 1) := by decide +kernel
theorem dL_law_271 : decode cL_law 271 = .ok (.if_icmp .ne 15, 3) := by decide +kernel
theorem dL_law_274 : decode cL_law 274 = .ok (.aload_n 1, 1) := by decide +kernel
theorem dL_law_275 : decode cL_law 275 = .ok (.iload 4, 2) := by decide +kernel
theorem dL_law_277 : decode cL_law 277 = .ok (.iconst 1, 1) := by decide +kernel
theorem dL_law_278 : decode cL_law 278 = .ok (.invokevirtual 213, 3) := by decide +kernel
theorem dL_law_281 : decode cL_law 281 = .ok (.iload 12, 2) := by decide +kernel
theorem dL_law_283 : decode cL_law 283 = .ok (.if_icmp .eq 35, 3) := by decide +kernel
theorem dL_law_286 : decode cL_law 286 = .ok (.iconst 0, 1) := by decide +kernel
theorem dL_law_287 : decode cL_law 287 = .ok (.ireturn, 1) := by decide +kernel
theorem dL_law_288 : decode cL_law 288 = .ok (.aload_n 1, 1) := by decide +kernel
theorem dL_law_289 : decode cL_law 289 = .ok (.iconst 4, 1) := by decide +kernel
theorem dL_law_290 : decode cL_law 290 = .ok (.invokevirtual 216, 3) := by decide +kernel
theorem dL_law_293 : decode cL_law 293 = .ok (.aload_n 1, 1) := by decide +kernel
theorem dL_law_294 : decode cL_law 294 = .ok (.bipush 10, 2) := by decide +kernel
theorem dL_law_296 : decode cL_law 296 = .ok (.invokevirtual 25, 3) := by decide +kernel
theorem dL_law_299 : decode cL_law 299 = .ok (.iload 10, 2) := by decide +kernel
theorem dL_law_301 : decode cL_law 301 = .ok (.isub, 1) := by decide +kernel
theorem dL_law_302 : decode cL_law 302 = .ok (.if_icmp .ne 14, 3) := by decide +kernel
theorem dL_law_305 : decode cL_law 305 = .ok (.aload_n 1, 1) := by decide +kernel
theorem dL_law_306 : decode cL_law 306 = .ok (.bipush 6, 2) := by decide +kernel
theorem dL_law_308 : decode cL_law 308 = .ok (.invokevirtual 25, 3) := by decide +kernel
theorem dL_law_311 : decode cL_law 311 = .ok (.iload 7, 2) := by decide +kernel
theorem dL_law_313 : decode cL_law 313 = .ok (.if_icmp .eq 5, 3) := by decide +kernel
theorem dL_law_316 : decode cL_law 316 = .ok (.iconst 0, 1) := by decide +kernel
theorem dL_law_317 : decode cL_law 317 = .ok (.ireturn, 1) := by decide +kernel
theorem dL_law_318 : decode cL_law 318 = .ok (.aload_n 1, 1) := by decide +kernel
theorem dL_law_319 : decode cL_law 319 = .ok (.bipush 10, 2) := by decide +kernel
theorem dL_law_321 : decode cL_law 321 = .ok (.invokevirtual 25, 3) := by decide +kernel
theorem dL_law_324 : decode cL_law 324 = .ok (.iload 10, 2) := by decide +kernel
theorem dL_law_326 : decode cL_law 326 = .ok (.if_icmp .lt 10, 3) := by decide +kernel
theorem dL_law_329 : decode cL_law 329 = .ok (.aload_n 1, 1) := by decide +kernel
theorem dL_law_330 : decode cL_law 330 = .ok (.invokestatic 219, 3) := by decide +kernel
theorem dL_law_333 : decode cL_law 333 = .ok (.ifCond .ne 5, 3) := by decide +kernel
theorem dL_law_336 : decode cL_law 336 = .ok (.iconst 0, 1) := by decide +kernel
theorem dL_law_337 : decode cL_law 337 = .ok (.ireturn, 1) := by decide +kernel
theorem dL_law_338 : decode cL_law 338 = .ok (.iinc 2 1, 3) := by decide +kernel
theorem dL_law_341 : decode cL_law 341 = .ok (.goto (-334), 3) := by decide +kernel
theorem dL_law_344 : decode cL_law 344 = .ok (.iconst 1, 1) := by decide +kernel
theorem dL_law_345 : decode cL_law 345 = .ok (.ireturn, 1) := by decide +kernel
theorem dL_canHang_0 : decode cL_canHang 0 = .ok (.iconst 0, 1) := by decide +kernel
theorem dL_canHang_1 : decode cL_canHang 1 = .ok (.istore_n 3, 1) := by decide +kernel
theorem dL_canHang_2 : decode cL_canHang 2 = .ok (.iconst 0, 1) := by decide +kernel
theorem dL_canHang_3 : decode cL_canHang 3 = .ok (.istore 4, 2) := by decide +kernel
theorem dL_canHang_5 : decode cL_canHang 5 = .ok (.iload 4, 2) := by decide +kernel
theorem dL_canHang_7 : decode cL_canHang 7 = .ok (.iconst 5, 1) := by decide +kernel
theorem dL_canHang_8 : decode cL_canHang 8 = .ok (.if_icmp .ge 73, 3) := by decide +kernel
theorem dL_canHang_11 : decode cL_canHang 11 = .ok (.iload 4, 2) := by decide +kernel
theorem dL_canHang_13 : decode cL_canHang 13 = .ok (.istore 5, 2) := by decide +kernel
theorem dL_canHang_15 : decode cL_canHang 15 = .ok (.iload 5, 2) := by decide +kernel
theorem dL_canHang_17 : decode cL_canHang 17 = .ok (.ifCond .lt 21, 3) := by decide +kernel
theorem dL_canHang_20 : decode cL_canHang 20 = .ok (.iload 5, 2) := by decide +kernel
theorem dL_canHang_22 : decode cL_canHang 22 = .ok (.iload_n 1, 1) := by decide +kernel
theorem dL_canHang_23 : decode cL_canHang 23 = .ok (.if_icmp .eq 15, 3) := by decide +kernel
theorem dL_canHang_26 : decode cL_canHang 26 = .ok (.aload_n 0, 1) := by decide +kernel
theorem dL_canHang_27 : decode cL_canHang 27 = .ok (.iload 5, 2) := by decide +kernel
theorem dL_canHang_29 : decode cL_canHang 29 = .ok (.iconst 1, 1) := by decide +kernel
theorem dL_canHang_30 : decode cL_canHang 30 = .ok (.invokevirtual 213, 3) := by decide +kernel
theorem dL_canHang_33 : decode cL_canHang 33 = .ok (.istore 5, 2) := by decide +kernel
theorem dL_canHang_35 : decode cL_canHang 35 = .ok (.goto (-20), 3) := by decide +kernel
theorem dL_canHang_38 : decode cL_canHang 38 = .ok (.iload 5, 2) := by decide +kernel
theorem dL_canHang_40 : decode cL_canHang 40 = .ok (.ifCond .ge 6, 3) := by decide +kernel
theorem dL_canHang_43 : decode cL_canHang 43 = .ok (.goto 32, 3) := by decide +kernel
theorem dL_canHang_46 : decode cL_canHang 46 = .ok (.iload 4, 2) := by decide +kernel
theorem dL_canHang_48 : decode cL_canHang 48 = .ok (.iload_n 2, 1) := by decide +kernel
theorem dL_canHang_49 : decode cL_canHang 49 = .ok (.if_icmp .ne 5, 3) := by decide +kernel
theorem dL_canHang_52 : decode cL_canHang 52 = .ok (.iconst 0, 1) := by decide +kernel
theorem dL_canHang_53 : decode cL_canHang 53 = .ok (.ireturn, 1) := by decide +kernel
theorem dL_canHang_54 : decode cL_canHang 54 = .ok (.iload_n 3, 1) := by decide +kernel
theorem dL_canHang_55 : decode cL_canHang 55 = .ok (.aload_n 0, 1) := by decide +kernel
theorem dL_canHang_56 : decode cL_canHang 56 = .ok (.iload 4, 2) := by decide +kernel
theorem dL_canHang_58 : decode cL_canHang 58 = .ok (.iconst 2, 1) := by decide +kernel
theorem dL_canHang_59 : decode cL_canHang 59 = .ok (.invokevirtual 213, 3) := by decide +kernel
theorem dL_canHang_62 : decode cL_canHang 62 = .ok (.aload_n 0, 1) := by decide +kernel
theorem dL_canHang_63 : decode cL_canHang 63 = .ok (.iload_n 1, 1) := by decide +kernel
theorem dL_canHang_64 : decode cL_canHang 64 = .ok (.iconst 2, 1) := by decide +kernel
theorem dL_canHang_65 : decode cL_canHang 65 = .ok (.invokevirtual 213, 3) := by decide +kernel
theorem dL_canHang_68 : decode cL_canHang 68 = .ok (.isub, 1) := by decide +kernel
theorem dL_canHang_69 : decode cL_canHang 69 = .ok (.iconst 1, 1) := by decide +kernel
theorem dL_canHang_70 : decode cL_canHang 70 = .ok (.iadd, 1) := by decide +kernel
theorem dL_canHang_71 : decode cL_canHang 71 = .ok (.invokestatic 223, 3) := by decide +kernel
theorem dL_canHang_74 : decode cL_canHang 74 = .ok (.istore_n 3, 1) := by decide +kernel
theorem dL_canHang_75 : decode cL_canHang 75 = .ok (.iinc 4 1, 3) := by decide +kernel
theorem dL_canHang_78 : decode cL_canHang 78 = .ok (.goto (-73), 3) := by decide +kernel
theorem dL_canHang_81 : decode cL_canHang 81 = .ok (.iload_n 2, 1) := by decide +kernel
theorem dL_canHang_82 : decode cL_canHang 82 = .ok (.ifCond .ge 7, 3) := by decide +kernel
theorem dL_canHang_85 : decode cL_canHang 85 = .ok (.iconst 0, 1) := by decide +kernel
theorem dL_canHang_86 : decode cL_canHang 86 = .ok (.goto 9, 3) := by decide +kernel
theorem dL_canHang_89 : decode cL_canHang 89 = .ok (.aload_n 0, 1) := by decide +kernel
theorem dL_canHang_90 : decode cL_canHang 90 = .ok (.iload_n 2, 1) := by decide +kernel
theorem dL_canHang_91 : decode cL_canHang 91 = .ok (.iconst 2, 1) := by decide +kernel
theorem dL_canHang_92 : decode cL_canHang 92 = .ok (.invokevirtual 213, 3) := by decide +kernel
theorem dL_canHang_95 : decode cL_canHang 95 = .ok (.iload_n 3, 1) := by decide +kernel
theorem dL_canHang_96 : decode cL_canHang 96 = .ok (.iadd, 1) := by decide +kernel
theorem dL_canHang_97 : decode cL_canHang 97 = .ok (.iconst 4, 1) := by decide +kernel
theorem dL_canHang_98 : decode cL_canHang 98 = .ok (.if_icmp .gt 7, 3) := by decide +kernel
theorem dL_canHang_101 : decode cL_canHang 101 = .ok (.iconst 1, 1) := by decide +kernel
theorem dL_canHang_102 : decode cL_canHang 102 = .ok (.goto 4, 3) := by decide +kernel
theorem dL_canHang_105 : decode cL_canHang 105 = .ok (.iconst 0, 1) := by decide +kernel
theorem dL_canHang_106 : decode cL_canHang 106 = .ok (.ireturn, 1) := by decide +kernel
theorem dL_isAll_0 : decode cL_isAll 0 = .ok (.iconst 0, 1) := by decide +kernel
theorem dL_isAll_1 : decode cL_isAll 1 = .ok (.istore_n 1, 1) := by decide +kernel
theorem dL_isAll_2 : decode cL_isAll 2 = .ok (.iconst 0, 1) := by decide +kernel
theorem dL_isAll_3 : decode cL_isAll 3 = .ok (.istore_n 2, 1) := by decide +kernel
theorem dL_isAll_4 : decode cL_isAll 4 = .ok (.iconst 0, 1) := by decide +kernel
theorem dL_isAll_5 : decode cL_isAll 5 = .ok (.istore_n 3, 1) := by decide +kernel
theorem dL_isAll_6 : decode cL_isAll 6 = .ok (.iconst 0, 1) := by decide +kernel
theorem dL_isAll_7 : decode cL_isAll 7 = .ok (.istore 4, 2) := by decide +kernel
theorem dL_isAll_9 : decode cL_isAll 9 = .ok (.iload 4, 2) := by decide +kernel
theorem dL_isAll_11 : decode cL_isAll 11 = .ok (.iconst 5, 1) := by decide +kernel
theorem dL_isAll_12 : decode cL_isAll 12 = .ok (.if_icmp .ge 305, 3) := by decide +kernel
theorem dL_isAll_15 : decode cL_isAll 15 = .ok (.aload_n 0, 1) := by decide +kernel
theorem dL_isAll_16 : decode cL_isAll 16 = .ok (.iload 4, 2) := by decide +kernel
theorem dL_isAll_18 : decode cL_isAll 18 = .ok (.iconst 3, 1) := by decide +kernel
theorem dL_isAll_19 : decode cL_isAll 19 = .ok (.invokevirtual 213, 3) := by decide +kernel
theorem dL_isAll_22 : decode cL_isAll 22 = .ok (.istore 5, 2) := by decide +kernel
theorem dL_isAll_24 : decode cL_isAll 24 = .ok (.iload 5, 2) := by decide +kernel
theorem dL_isAll_26 : decode cL_isAll 26 = .ok (.istore 6, 2) := by decide +kernel
theorem dL_isAll_28 : decode cL_isAll 28 = .ok (.iconst 0, 1) := by decide +kernel
theorem dL_isAll_29 : decode cL_isAll 29 = .ok (.istore 7, 2) := by decide +kernel
theorem dL_isAll_31 : decode cL_isAll 31 = .ok (.iconst 0, 1) := by decide +kernel
theorem dL_isAll_32 : decode cL_isAll 32 = .ok (.istore 8, 2) := by decide +kernel
theorem dL_isAll_34 : decode cL_isAll 34 = .ok (.iload 8, 2) := by decide +kernel
theorem dL_isAll_36 : decode cL_isAll 36 = .ok (.iconst 5, 1) := by decide +kernel
theorem dL_isAll_37 : decode cL_isAll 37 = .ok (.if_icmp .ge 39, 3) := by decide +kernel
theorem dL_isAll_40 : decode cL_isAll 40 = .ok (.aload_n 0, 1) := by decide +kernel
theorem dL_isAll_41 : decode cL_isAll 41 = .ok (.iload 8, 2) := by decide +kernel
theorem dL_isAll_43 : decode cL_isAll 43 = .ok (.iconst 1, 1) := by decide +kernel
theorem dL_isAll_44 : decode cL_isAll 44 = .ok (.invokevirtual 213, 3) := by decide +kernel
theorem dL_isAll_47 : decode cL_isAll 47 = .ok (.iload 4, 2) := by decide +kernel
theorem dL_isAll_49 : decode cL_isAll 49 = .ok (.if_icmp .eq 6, 3) := by decide +kernel
theorem dL_isAll_52 : decode cL_isAll 52 = .ok (.goto 18, 3) := by decide +kernel
theorem dL_isAll_55 : decode cL_isAll 55 = .ok (.iload 6, 2) := by decide +kernel
theorem dL_isAll_57 : decode cL_isAll 57 = .ok (.aload_n 0, 1) := by decide +kernel
theorem dL_isAll_58 : decode cL_isAll 58 = .ok (.iload 8, 2) := by decide +kernel
theorem dL_isAll_60 : decode cL_isAll 60 = .ok (.iconst 4, 1) := by decide +kernel
theorem dL_isAll_61 : decode cL_isAll 61 = .ok (.invokevirtual 213, 3) := by decide +kernel
theorem dL_isAll_64 : decode cL_isAll 64 = .ok (.iadd, 1) := by decide +kernel
theorem dL_isAll_65 : decode cL_isAll 65 = .ok (.istore 6, 2) := by decide +kernel
theorem dL_isAll_67 : decode cL_isAll 67 = .ok (.iinc 7 1, 3) := by decide +kernel
theorem dL_isAll_70 : decode cL_isAll 70 = .ok (.iinc 8 1, 3) := by decide +kernel
theorem dL_isAll_73 : decode cL_isAll 73 = .ok (.goto (-39), 3) := by decide +kernel
theorem dL_isAll_76 : decode cL_isAll 76 = .ok (.iload_n 1, 1) := by decide +kernel
theorem dL_isAll_77 : decode cL_isAll 77 = .ok (.iload 5, 2) := by decide +kernel
theorem dL_isAll_79 : decode cL_isAll 79 = .ok (.iadd, 1) := by decide +kernel
theorem dL_isAll_80 : decode cL_isAll 80 = .ok (.istore_n 1, 1) := by decide +kernel
theorem dL_isAll_81 : decode cL_isAll 81 = .ok (.iload_n 2, 1) := by decide +kernel
theorem dL_isAll_82 : decode cL_isAll 82 = .ok (.aload_n 0, 1) := by decide +kernel
theorem dL_isAll_83 : decode cL_isAll 83 = .ok (.iload 4, 2) := by decide +kernel
theorem dL_isAll_85 : decode cL_isAll 85 = .ok (.iconst 1, 1) := by decide +kernel
theorem dL_isAll_86 : decode cL_isAll 86 = .ok (.invokevirtual 213, 3) := by decide +kernel
theorem dL_isAll_89 : decode cL_isAll 89 = .ok (.ifCond .ge 13, 3) := by decide +kernel
theorem dL_isAll_92 : decode cL_isAll 92 = .ok (.aload_n 0, 1) := by decide +kernel
theorem dL_isAll_93 : decode cL_isAll 93 = .ok (.iload 4, 2) := by decide +kernel
theorem dL_isAll_95 : decode cL_isAll 95 = .ok (.iconst 4, 1) := by decide +kernel
theorem dL_isAll_96 : decode cL_isAll 96 = .ok (.invokevirtual 213, 3) := by decide +kernel
theorem dL_isAll_99 : decode cL_isAll 99 = .ok (.goto 4, 3) := by decide +kernel
theorem dL_isAll_102 : decode cL_isAll 102 = .ok (.iconst 0, 1) := by decide +kernel
theorem dL_isAll_103 : decode cL_isAll 103 = .ok (.iadd, 1) := by decide +kernel
theorem dL_isAll_104 : decode cL_isAll 104 = .ok (.istore_n 2, 1) := by decide +kernel
theorem dL_isAll_105 : decode cL_isAll 105 = .ok (.iload_n 3, 1) := by decide +kernel
theorem dL_isAll_106 : decode cL_isAll 106 = .ok (.iconst 1, 1) := by decide +kernel
theorem dL_isAll_107 : decode cL_isAll 107 = .ok (.aload_n 0, 1) := by decide +kernel
theorem dL_isAll_108 : decode cL_isAll 108 = .ok (.iload 4, 2) := by decide +kernel
theorem dL_isAll_110 : decode cL_isAll 110 = .ok (.invokevirtual 228, 3) := by decide +kernel
theorem dL_isAll_113 : decode cL_isAll 113 = .ok (.ishl, 1) := by decide +kernel
theorem dL_isAll_114 : decode cL_isAll 114 = .ok (.ior, 1) := by decide +kernel
theorem dL_isAll_115 : decode cL_isAll 115 = .ok (.istore_n 3, 1) := by decide +kernel
theorem dL_isAll_116 : decode cL_isAll 116 = .ok (.aload_n 0, 1) := by decide +kernel
theorem dL_isAll_117 : decode cL_isAll 117 = .ok (.iload 4, 2) := by decide +kernel
theorem dL_isAll_119 : decode cL_isAll 119 = .ok (.iconst 1, 1) := by decide +kernel
theorem dL_isAll_120 : decode cL_isAll 120 = .ok (.invokevirtual 213, 3) := by decide +kernel
theorem dL_isAll_123 : decode cL_isAll 123 = .ok (.istore 8, 2) := by decide +kernel
theorem dL_isAll_125 : decode cL_isAll 125 = .ok (.iload 5, 2) := by decide +kernel
theorem dL_isAll_127 : decode cL_isAll 127 = .ok (.ifCond .lt 134, 3) := by decide +kernel
theorem dL_isAll_130 : decode cL_isAll 130 = .ok (.iload 5, 2) := by decide +kernel
theorem dL_isAll_132 : decode cL_isAll 132 = .ok (.sipush 9999, 3) := by decide +kernel
theorem dL_isAll_135 : decode cL_isAll 135 = .ok (.if_icmp .gt 126, 3) := by decide +kernel
theorem dL_isAll_138 : decode cL_isAll 138 = .ok (.aload_n 0, 1) := by decide +kernel
theorem dL_isAll_139 : decode cL_isAll 139 = .ok (.iload 4, 2) := by decide +kernel
theorem dL_isAll_141 : decode cL_isAll 141 = .ok (.iconst 4, 1) := by decide +kernel
theorem dL_isAll_142 : decode cL_isAll 142 = .ok (.invokevirtual 213, 3) := by decide +kernel
theorem dL_isAll_145 : decode cL_isAll 145 = .ok (.iload 6, 2) := by decide +kernel
theorem dL_isAll_147 : decode cL_isAll 147 = .ok (.if_icmp .ne 114, 3) := by decide +kernel
theorem dL_isAll_150 : decode cL_isAll 150 = .ok (.aload_n 0, 1) := by decide +kernel
theorem dL_isAll_151 : decode cL_isAll 151 = .ok (.iload 4, 2) := by decide +kernel
theorem dL_isAll_153 : decode cL_isAll 153 = .ok (.bipush 7, 2) := by decide +kernel
theorem dL_isAll_155 : decode cL_isAll 155 = .ok (.invokevirtual 213, 3) := by decide +kernel
theorem dL_isAll_158 : decode cL_isAll 158 = .ok (.iload 7, 2) := by decide +kernel
theorem dL_isAll_160 : decode cL_isAll 160 = .ok (.if_icmp .ne 101, 3) := by decide +kernel
theorem dL_isAll_163 : decode cL_isAll 163 = .ok (.aload_n 0, 1) := by decide +kernel
theorem dL_isAll_164 : decode cL_isAll 164 = .ok (.iload 4, 2) := by decide +kernel
theorem dL_isAll_166 : decode cL_isAll 166 = .ok (.iconst 5, 1) := by decide +kernel
theorem dL_isAll_167 : decode cL_isAll 167 = .ok (.invokevirtual 213, 3) := by decide +kernel
theorem dL_isAll_170 : decode cL_isAll 170 = .ok (.iload 5, 2) := by decide +kernel
theorem dL_isAll_172 : decode cL_isAll 172 = .ok (.invokestatic 231, 3) := by decide +kernel
theorem dL_isAll_175 : decode cL_isAll 175 = .ok (.if_icmp .ne 86, 3) := by decide +kernel
theorem dL_isAll_178 : decode cL_isAll 178 = .ok (.aload_n 0, 1) := by decide +kernel
theorem dL_isAll_179 : decode cL_isAll 179 = .ok (.iload 4, 2) := by decide +kernel
theorem dL_isAll_181 : decode cL_isAll 181 = .ok (.bipush 6, 2) := by decide +kernel
theorem dL_isAll_183 : decode cL_isAll 183 = .ok (.invokevirtual 213, 3) := by decide +kernel
theorem dL_isAll_186 : decode cL_isAll 186 = .ok (.iload 5, 2) := by decide +kernel
theorem dL_isAll_188 : decode cL_isAll 188 = .ok (.invokestatic 234, 3) := by decide +kernel
theorem dL_isAll_191 : decode cL_isAll 191 = .ok (.if_icmp .ne 70, 3) := by decide +kernel
theorem dL_isAll_194 : decode cL_isAll 194 = .ok (.aload_n 0, 1) := by decide +kernel
theorem dL_isAll_195 : decode cL_isAll 195 = .ok (.iload 4, 2) := by decide +kernel
theorem dL_isAll_197 : decode cL_isAll 197 = .ok (.iconst 2, 1) := by decide +kernel
theorem dL_isAll_198 : decode cL_isAll 198 = .ok (.invokevirtual 213, 3) := by decide +kernel
theorem dL_isAll_201 : decode cL_isAll 201 = .ok (.iload 8, 2) := by decide +kernel
theorem dL_isAll_203 : decode cL_isAll 203 = .ok (.ifCond .ge 7, 3) := by decide +kernel
theorem dL_isAll_206 : decode cL_isAll 206 = .ok (.iconst 1, 1) := by decide +kernel
theorem dL_isAll_207 : decode cL_isAll 207 = .ok (.goto 12, 3) := by decide +kernel
theorem dL_isAll_210 : decode cL_isAll 210 = .ok (.aload_n 0, 1) := by decide +kernel
theorem dL_isAll_211 : decode cL_isAll 211 = .ok (.iload 8, 2) := by decide +kernel
theorem dL_isAll_213 : decode cL_isAll 213 = .ok (.iconst 2, 1) := by decide +kernel
theorem dL_isAll_214 : decode cL_isAll 214 = .ok (.invokevirtual 213, 3) := by decide +kernel
theorem dL_isAll_217 : decode cL_isAll 217 = .ok (.iconst 1, 1) := by decide +kernel
theorem dL_isAll_218 : decode cL_isAll 218 = .ok (.iadd, 1) := by decide +kernel
theorem dL_isAll_219 : decode cL_isAll 219 = .ok (.if_icmp .ne 42, 3) := by decide +kernel
theorem dL_isAll_222 : decode cL_isAll 222 = .ok (.aload_n 0, 1) := by decide +kernel
theorem dL_isAll_223 : decode cL_isAll 223 = .ok (.iload 4, 2) := by decide +kernel
theorem dL_isAll_225 : decode cL_isAll 225 = .ok (.iconst 2, 1) := by decide +kernel
theorem dL_isAll_226 : decode cL_isAll 226 = .ok (.invokevirtual 213, 3) := by decide +kernel
theorem dL_isAll_229 : decode cL_isAll 229 = .ok (.iconst 4, 1) := by decide +kernel
theorem dL_isAll_230 : decode cL_isAll 230 = .ok (.if_icmp .gt 31, 3) := by decide +kernel
theorem dL_isAll_233 : decode cL_isAll 233 = .ok (.aload_n 0, 1) := by decide +kernel
theorem dL_isAll_234 : decode cL_isAll 234 = .ok (.iload 4, 2) := by decide +kernel
theorem dL_isAll_236 : decode cL_isAll 236 = .ok (.iload 4, 2) := by decide +kernel
theorem dL_isAll_238 : decode cL_isAll 238 = .ok (.invokevirtual 237, 3) := by decide +kernel
theorem dL_isAll_241 : decode cL_isAll 241 = .ok (.ifCond .ne 20, 3) := by decide +kernel
theorem dL_isAll_244 : decode cL_isAll 244 = .ok (.aload_n 0, 1) := by decide +kernel
theorem dL_isAll_245 : decode cL_isAll 245 = .ok (.iload 4, 2) := by decide +kernel
theorem dL_isAll_247 : decode cL_isAll 247 = .ok (.iconst 0, 1) := by decide +kernel
theorem dL_isAll_248 : decode cL_isAll 248 = .ok (.invokevirtual 237, 3) := by decide +kernel
theorem dL_isAll_251 : decode cL_isAll 251 = .ok (.aload_n 0, 1) := by decide +kernel
theorem dL_isAll_252 : decode cL_isAll 252 = .ok (.iconst 0, 1) := by decide +kernel
theorem dL_isAll_253 : decode cL_isAll 253 = .ok (.iload 4, 2) := by decide +kernel
theorem dL_isAll_255 : decode cL_isAll 255 = .ok (.invokevirtual 237, 3) := by decide +kernel
theorem dL_isAll_258 : decode cL_isAll 258 = .ok (.if_icmp .eq 5, 3) := by decide +kernel
theorem dL_isAll_261 : decode cL_isAll 261 = .ok (.iconst 0, 1) := by decide +kernel
theorem dL_isAll_262 : decode cL_isAll 262 = .ok (.ireturn, 1) := by decide +kernel
theorem dL_isAll_263 : decode cL_isAll 263 = .ok (.iload 5, 2) := by decide +kernel
theorem dL_isAll_265 : decode cL_isAll 265 = .ok (.sipush 1000, 3) := by decide +kernel
theorem dL_isAll_268 : decode cL_isAll 268 = .ok (.aload_n 0, 1) := by decide +kernel
theorem dL_isAll_269 : decode cL_isAll 269 = .ok (.iload 4, 2) := by decide +kernel
theorem dL_isAll_271 : decode cL_isAll 271 = .ok (.iconst 3, 1) := by decide +kernel
theorem dL_isAll_272 : decode cL_isAll 272 = .ok (.invokevirtual 240, 3) := by decide +kernel
theorem dL_isAll_275 : decode cL_isAll 275 = .ok (.imul, 1) := by decide +kernel
theorem dL_isAll_276 : decode cL_isAll 276 = .ok (.bipush 100, 2) := by decide +kernel
theorem dL_isAll_278 : decode cL_isAll 278 = .ok (.aload_n 0, 1) := by decide +kernel
theorem dL_isAll_279 : decode cL_isAll 279 = .ok (.iload 4, 2) := by decide +kernel
theorem dL_isAll_281 : decode cL_isAll 281 = .ok (.iconst 2, 1) := by decide +kernel
theorem dL_isAll_282 : decode cL_isAll 282 = .ok (.invokevirtual 240, 3) := by decide +kernel
theorem dL_isAll_285 : decode cL_isAll 285 = .ok (.imul, 1) := by decide +kernel
theorem dL_isAll_286 : decode cL_isAll 286 = .ok (.iadd, 1) := by decide +kernel
theorem dL_isAll_287 : decode cL_isAll 287 = .ok (.bipush 10, 2) := by decide +kernel
theorem dL_isAll_289 : decode cL_isAll 289 = .ok (.aload_n 0, 1) := by decide +kernel
theorem dL_isAll_290 : decode cL_isAll 290 = .ok (.iload 4, 2) := by decide +kernel
theorem dL_isAll_292 : decode cL_isAll 292 = .ok (.iconst 1, 1) := by decide +kernel
theorem dL_isAll_293 : decode cL_isAll 293 = .ok (.invokevirtual 240, 3) := by decide +kernel
theorem dL_isAll_296 : decode cL_isAll 296 = .ok (.imul, 1) := by decide +kernel
theorem dL_isAll_297 : decode cL_isAll 297 = .ok (.iadd, 1) := by decide +kernel
theorem dL_isAll_298 : decode cL_isAll 298 = .ok (.aload_n 0, 1) := by decide +kernel
theorem dL_isAll_299 : decode cL_isAll 299 = .ok (.iload 4, 2) := by decide +kernel
theorem dL_isAll_301 : decode cL_isAll 301 = .ok (.iconst 0, 1) := by decide +kernel
theorem dL_isAll_302 : decode cL_isAll 302 = .ok (.invokevirtual 240, 3) := by decide +kernel
theorem dL_isAll_305 : decode cL_isAll 305 = .ok (.iadd, 1) := by decide +kernel
theorem dL_isAll_306 : decode cL_isAll 306 = .ok (.if_icmp .eq 5, 3) := by decide +kernel
theorem dL_isAll_309 : decode cL_isAll 309 = .ok (.iconst 0, 1) := by decide +kernel
theorem dL_isAll_310 : decode cL_isAll 310 = .ok (.ireturn, 1) := by decide +kernel
theorem dL_isAll_311 : decode cL_isAll 311 = .ok (.iinc 4 1, 3) := by decide +kernel
theorem dL_isAll_314 : decode cL_isAll 314 = .ok (.goto (-305), 3) := by decide +kernel
theorem dL_isAll_317 : decode cL_isAll 317 = .ok (.iconst 0, 1) := by decide +kernel
theorem dL_isAll_318 : decode cL_isAll 318 = .ok (.istore 4, 2) := by decide +kernel
theorem dL_isAll_320 : decode cL_isAll 320 = .ok (.iconst 0, 1) := by decide +kernel
theorem dL_isAll_321 : decode cL_isAll 321 = .ok (.istore 5, 2) := by decide +kernel
theorem dL_isAll_323 : decode cL_isAll 323 = .ok (.iload 5, 2) := by decide +kernel
theorem dL_isAll_325 : decode cL_isAll 325 = .ok (.iconst 2, 1) := by decide +kernel
theorem dL_isAll_326 : decode cL_isAll 326 = .ok (.if_icmp .ge 75, 3) := by decide +kernel
theorem dL_isAll_329 : decode cL_isAll 329 = .ok (.iload 4, 2) := by decide +kernel
theorem dL_isAll_331 : decode cL_isAll 331 = .ok (.aload_n 0, 1) := by decide +kernel
theorem dL_isAll_332 : decode cL_isAll 332 = .ok (.iload 5, 2) := by decide +kernel
theorem dL_isAll_334 : decode cL_isAll 334 = .ok (.iconst 3, 1) := by decide +kernel
theorem dL_isAll_335 : decode cL_isAll 335 = .ok (.invokevirtual 194, 3) := by decide +kernel
theorem dL_isAll_338 : decode cL_isAll 338 = .ok (.iadd, 1) := by decide +kernel
theorem dL_isAll_339 : decode cL_isAll 339 = .ok (.istore 4, 2) := by decide +kernel
theorem dL_isAll_341 : decode cL_isAll 341 = .ok (.aload_n 0, 1) := by decide +kernel
theorem dL_isAll_342 : decode cL_isAll 342 = .ok (.iload 5, 2) := by decide +kernel
theorem dL_isAll_344 : decode cL_isAll 344 = .ok (.iconst 3, 1) := by decide +kernel
theorem dL_isAll_345 : decode cL_isAll 345 = .ok (.invokevirtual 194, 3) := by decide +kernel
theorem dL_isAll_348 : decode cL_isAll 348 = .ok (.aload_n 0, 1) := by decide +kernel
theorem dL_isAll_349 : decode cL_isAll 349 = .ok (.iload 5, 2) := by decide +kernel
theorem dL_isAll_351 : decode cL_isAll 351 = .ok (.iconst 1, 1) := by decide +kernel
theorem dL_isAll_352 : decode cL_isAll 352 = .ok (.invokevirtual 194, 3) := by decide +kernel
theorem dL_isAll_355 : decode cL_isAll 355 = .ok (.aload_n 0, 1) := by decide +kernel
theorem dL_isAll_356 : decode cL_isAll 356 = .ok (.iload 5, 2) := by decide +kernel
theorem dL_isAll_358 : decode cL_isAll 358 = .ok (.iconst 2, 1) := by decide +kernel
theorem dL_isAll_359 : decode cL_isAll 359 = .ok (.invokevirtual 194, 3) := by decide +kernel
theorem dL_isAll_362 : decode cL_isAll 362 = .ok (.if_icmp .ne 7, 3) := by decide +kernel
theorem dL_isAll_365 : decode cL_isAll 365 = .ok (.iconst 0, 1) := by decide +kernel
theorem dL_isAll_366 : decode cL_isAll 366 = .ok (.goto 4, 3) := by decide +kernel
theorem dL_isAll_369 : decode cL_isAll 369 = .ok (.iconst 1, 1) := by decide +kernel
theorem dL_isAll_370 : decode cL_isAll 370 = .ok (.if_icmp .ne 23, 3) := by decide +kernel
theorem dL_isAll_373 : decode cL_isAll 373 = .ok (.aload_n 0, 1) := by decide +kernel
theorem dL_isAll_374 : decode cL_isAll 374 = .ok (.iload 5, 2) := by decide +kernel
theorem dL_isAll_376 : decode cL_isAll 376 = .ok (.iconst 1, 1) := by decide +kernel
theorem dL_isAll_377 : decode cL_isAll 377 = .ok (.invokevirtual 194, 3) := by decide +kernel
theorem dL_isAll_380 : decode cL_isAll 380 = .ok (.ifCond .lt 13, 3) := by decide +kernel
theorem dL_isAll_383 : decode cL_isAll 383 = .ok (.aload_n 0, 1) := by decide +kernel
theorem dL_isAll_384 : decode cL_isAll 384 = .ok (.iload 5, 2) := by decide +kernel
theorem dL_isAll_386 : decode cL_isAll 386 = .ok (.iconst 1, 1) := by decide +kernel
theorem dL_isAll_387 : decode cL_isAll 387 = .ok (.invokevirtual 243, 3) := by decide +kernel
theorem dL_isAll_390 : decode cL_isAll 390 = .ok (.ifCond .ge 5, 3) := by decide +kernel
theorem dL_isAll_393 : decode cL_isAll 393 = .ok (.iconst 0, 1) := by decide +kernel
theorem dL_isAll_394 : decode cL_isAll 394 = .ok (.ireturn, 1) := by decide +kernel
theorem dL_isAll_395 : decode cL_isAll 395 = .ok (.iinc 5 1, 3) := by decide +kernel
theorem dL_isAll_398 : decode cL_isAll 398 = .ok (.goto (-75), 3) := by decide +kernel
theorem dL_isAll_401 : decode cL_isAll 401 = .ok (.aload_n 0, 1) := by decide +kernel
theorem dL_isAll_402 : decode cL_isAll 402 = .ok (.bipush 6, 2) := by decide +kernel
theorem dL_isAll_404 : decode cL_isAll 404 = .ok (.invokevirtual 25, 3) := by decide +kernel
theorem dL_isAll_407 : decode cL_isAll 407 = .ok (.iload_n 1, 1) := by decide +kernel
theorem dL_isAll_408 : decode cL_isAll 408 = .ok (.if_icmp .ne 66, 3) := by decide +kernel
theorem dL_isAll_411 : decode cL_isAll 411 = .ok (.iload_n 2, 1) := by decide +kernel
theorem dL_isAll_412 : decode cL_isAll 412 = .ok (.iload_n 1, 1) := by decide +kernel
theorem dL_isAll_413 : decode cL_isAll 413 = .ok (.if_icmp .ne 61, 3) := by decide +kernel
theorem dL_isAll_416 : decode cL_isAll 416 = .ok (.iload_n 3, 1) := by decide +kernel
theorem dL_isAll_417 : decode cL_isAll 417 = .ok (.bipush 31, 2) := by decide +kernel
theorem dL_isAll_419 : decode cL_isAll 419 = .ok (.if_icmp .ne 55, 3) := by decide +kernel
theorem dL_isAll_422 : decode cL_isAll 422 = .ok (.aload_n 0, 1) := by decide +kernel
theorem dL_isAll_423 : decode cL_isAll 423 = .ok (.bipush 9, 2) := by decide +kernel
theorem dL_isAll_425 : decode cL_isAll 425 = .ok (.invokevirtual 25, 3) := by decide +kernel
theorem dL_isAll_428 : decode cL_isAll 428 = .ok (.iload 4, 2) := by decide +kernel
theorem dL_isAll_430 : decode cL_isAll 430 = .ok (.if_icmp .ne 44, 3) := by decide +kernel
theorem dL_isAll_433 : decode cL_isAll 433 = .ok (.aload_n 0, 1) := by decide +kernel
theorem dL_isAll_434 : decode cL_isAll 434 = .ok (.aload_n 0, 1) := by decide +kernel
theorem dL_isAll_435 : decode cL_isAll 435 = .ok (.iconst 4, 1) := by decide +kernel
theorem dL_isAll_436 : decode cL_isAll 436 = .ok (.iconst 4, 1) := by decide +kernel
theorem dL_isAll_437 : decode cL_isAll 437 = .ok (.invokevirtual 213, 3) := by decide +kernel
theorem dL_isAll_440 : decode cL_isAll 440 = .ok (.invokevirtual 246, 3) := by decide +kernel
theorem dL_isAll_443 : decode cL_isAll 443 = .ok (.ifCond .lt 31, 3) := by decide +kernel
theorem dL_isAll_446 : decode cL_isAll 446 = .ok (.aload_n 0, 1) := by decide +kernel
theorem dL_isAll_447 : decode cL_isAll 447 = .ok (.iconst 0, 1) := by decide +kernel
theorem dL_isAll_448 : decode cL_isAll 448 = .ok (.iconst 2, 1) := by decide +kernel
theorem dL_isAll_449 : decode cL_isAll 449 = .ok (.invokevirtual 249, 3) := by decide +kernel
theorem dL_isAll_452 : decode cL_isAll 452 = .ok (.aload_n 0, 1) := by decide +kernel
theorem dL_isAll_453 : decode cL_isAll 453 = .ok (.iconst 1, 1) := by decide +kernel
theorem dL_isAll_454 : decode cL_isAll 454 = .ok (.iconst 2, 1) := by decide +kernel
theorem dL_isAll_455 : decode cL_isAll 455 = .ok (.invokevirtual 249, 3) := by decide +kernel
theorem dL_isAll_458 : decode cL_isAll 458 = .ok (.iadd, 1) := by decide +kernel
theorem dL_isAll_459 : decode cL_isAll 459 = .ok (.aload_n 0, 1) := by decide +kernel
theorem dL_isAll_460 : decode cL_isAll 460 = .ok (.iconst 2, 1) := by decide +kernel
theorem dL_isAll_461 : decode cL_isAll 461 = .ok (.iconst 2, 1) := by decide +kernel
theorem dL_isAll_462 : decode cL_isAll 462 = .ok (.invokevirtual 249, 3) := by decide +kernel
theorem dL_isAll_465 : decode cL_isAll 465 = .ok (.iadd, 1) := by decide +kernel
theorem dL_isAll_466 : decode cL_isAll 466 = .ok (.iload_n 1, 1) := by decide +kernel
theorem dL_isAll_467 : decode cL_isAll 467 = .ok (.if_icmp .ne 7, 3) := by decide +kernel
theorem dL_isAll_470 : decode cL_isAll 470 = .ok (.iconst 1, 1) := by decide +kernel
theorem dL_isAll_471 : decode cL_isAll 471 = .ok (.goto 4, 3) := by decide +kernel
theorem dL_isAll_474 : decode cL_isAll 474 = .ok (.iconst 0, 1) := by decide +kernel
theorem dL_isAll_475 : decode cL_isAll 475 = .ok (.ireturn, 1) := by decide +kernel
