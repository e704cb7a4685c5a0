theorem dL_put_0 : decode cL_put 0 = .ok (.aload 4, 2) := by decide +kernel
theorem dL_put_2 : decode cL_put 2 = .ok (.aload_n 0, 1) := by decide +kernel
theorem dL_put_3 : decode cL_put 3 = .ok (.iload_n 1, 1) := by decide +kernel
theorem dL_put_4 : decode cL_put 4 = .ok (.iload_n 2, 1) := by decide +kernel
theorem dL_put_5 : decode cL_put 5 = .ok (.iload_n 3, 1) := by decide +kernel
theorem dL_put_6 : decode cL_put 6 = .ok (.invokevirtual 7, 3) := by decide +kernel
theorem dL_put_9 : decode cL_put 9 = .ok (.i2l, 1) := by decide +kernel
theorem dL_put_10 : decode cL_put 10 = .ok (.putfield 13, 3) := by decide +kernel
theorem dL_put_13 : decode cL_put 13 = .ok (.goto 11, 3) := by decide +kernel
theorem dL_put_16 : decode cL_put 16 = .ok (.astore 5, 2) := by decide +kernel
theorem dL_put_18 : decode cL_put 18 = .ok (.iconst 1, 1) := by decide +kernel
theorem dL_put_19 : decode cL_put 19 = .ok (.ireturn, 1) := by decide +kernel
theorem dL_put_20 : decode cL_put 20 = .ok (.astore 5, 2) := by decide +kernel
theorem dL_put_22 : decode cL_put 22 = .ok (.iconst 2, 1) := by decide +kernel
theorem dL_put_23 : decode cL_put 23 = .ok (.ireturn, 1) := by decide +kernel
theorem dL_put_24 : decode cL_put 24 = .ok (.iconst 0, 1) := by decide +kernel
theorem dL_put_25 : decode cL_put 25 = .ok (.ireturn, 1) := by decide +kernel
theorem dL_putDecimal_0 : decode cL_putDecimal 0 = .ok (.aload 4, 2) := by decide +kernel
theorem dL_putDecimal_2 : decode cL_putDecimal 2 = .ok (.aload_n 0, 1) := by decide +kernel
theorem dL_putDecimal_3 : decode cL_putDecimal 3 = .ok (.iload_n 1, 1) := by decide +kernel
theorem dL_putDecimal_4 : decode cL_putDecimal 4 = .ok (.iload_n 2, 1) := by decide +kernel
theorem dL_putDecimal_5 : decode cL_putDecimal 5 = .ok (.iload_n 3, 1) := by decide +kernel
theorem dL_putDecimal_6 : decode cL_putDecimal 6 = .ok (.invokevirtual 23, 3) := by decide +kernel
theorem dL_putDecimal_9 : decode cL_putDecimal 9 = .ok (.i2l, 1) := by decide +kernel
theorem dL_putDecimal_10 : decode cL_putDecimal 10 = .ok (.putfield 13, 3) := by decide +kernel
theorem dL_putDecimal_13 : decode cL_putDecimal 13 = .ok (.goto 11, 3) := by decide +kernel
theorem dL_putDecimal_16 : decode cL_putDecimal 16 = .ok (.astore 5, 2) := by decide +kernel
theorem dL_putDecimal_18 : decode cL_putDecimal 18 = .ok (.iconst 1, 1) := by decide +kernel
theorem dL_putDecimal_19 : decode cL_putDecimal 19 = .ok (.ireturn, 1) := by decide +kernel
theorem dL_putDecimal_20 : decode cL_putDecimal 20 = .ok (.astore 5, 2) := by decide +kernel
theorem dL_putDecimal_22 : decode cL_putDecimal 22 = .ok (.iconst 2, 1) := by decide +kernel
theorem dL_putDecimal_23 : decode cL_putDecimal 23 = .ok (.ireturn, 1) := by decide +kernel
theorem dL_putDecimal_24 : decode cL_putDecimal 24 = .ok (.iconst 0, 1) := by decide +kernel
theorem dL_putDecimal_25 : decode cL_putDecimal 25 = .ok (.ireturn, 1) := by decide +kernel
theorem dL_copy_0 : decode cL_copy 0 = .ok (.aload_n 3, 1) := by decide +kernel
theorem dL_copy_1 : decode cL_copy 1 = .ok (.aload_n 0, 1) := by decide +kernel
theorem dL_copy_2 : decode cL_copy 2 = .ok (.iload_n 1, 1) := by decide +kernel
theorem dL_copy_3 : decode cL_copy 3 = .ok (.iload_n 2, 1) := by decide +kernel
theorem dL_copy_4 : decode cL_copy 4 = .ok (.invokevirtual 26, 3) := by decide +kernel
theorem dL_copy_7 : decode cL_copy 7 = .ok (.i2l, 1) := by decide +kernel
theorem dL_copy_8 : decode cL_copy 8 = .ok (.putfield 13, 3) := by decide +kernel
theorem dL_copy_11 : decode cL_copy 11 = .ok (.goto 7, 3) := by decide +kernel
theorem dL_copy_14 : decode cL_copy 14 = .ok (.astore 4, 2) := by decide +kernel
theorem dL_copy_16 : decode cL_copy 16 = .ok (.iconst 1, 1) := by decide +kernel
theorem dL_copy_17 : decode cL_copy 17 = .ok (.ireturn, 1) := by decide +kernel
theorem dL_copy_18 : decode cL_copy 18 = .ok (.iconst 0, 1) := by decide +kernel
theorem dL_copy_19 : decode cL_copy 19 = .ok (.ireturn, 1) := by decide +kernel
theorem dL_swap_0 : decode cL_swap 0 = .ok (.aload_n 3, 1) := by decide +kernel
theorem dL_swap_1 : decode cL_swap 1 = .ok (.aload_n 0, 1) := by decide +kernel
theorem dL_swap_2 : decode cL_swap 2 = .ok (.iload_n 1, 1) := by decide +kernel
theorem dL_swap_3 : decode cL_swap 3 = .ok (.iload_n 2, 1) := by decide +kernel
theorem dL_swap_4 : decode cL_swap 4 = .ok (.invokevirtual 30, 3) := by decide +kernel
theorem dL_swap_7 : decode cL_swap 7 = .ok (.i2l, 1) := by decide +kernel
theorem dL_swap_8 : decode cL_swap 8 = .ok (.putfield 13, 3) := by decide +kernel
theorem dL_swap_11 : decode cL_swap 11 = .ok (.goto 7, 3) := by decide +kernel
theorem dL_swap_14 : decode cL_swap 14 = .ok (.astore 4, 2) := by decide +kernel
theorem dL_swap_16 : decode cL_swap 16 = .ok (.iconst 1, 1) := by decide +kernel
theorem dL_swap_17 : decode cL_swap 17 = .ok (.ireturn, 1) := by decide +kernel
theorem dL_swap_18 : decode cL_swap 18 = .ok (.iconst 0, 1) := by decide +kernel
theorem dL_swap_19 : decode cL_swap 19 = .ok (.ireturn, 1) := by decide +kernel
theorem dL_plus_0 : decode cL_plus 0 = .ok (.aload 4, 2) := by decide +kernel
theorem dL_plus_2 : decode cL_plus 2 = .ok (.aload_n 0, 1) := by decide +kernel
theorem dL_plus_3 : decode cL_plus 3 = .ok (.iload_n 1, 1) := by decide +kernel
theorem dL_plus_4 : decode cL_plus 4 = .ok (.iload_n 2, 1) := by decide +kernel
theorem dL_plus_5 : decode cL_plus 5 = .ok (.iload_n 3, 1) := by decide +kernel
theorem dL_plus_6 : decode cL_plus 6 = .ok (.invokevirtual 33, 3) := by decide +kernel
theorem dL_plus_9 : decode cL_plus 9 = .ok (.i2l, 1) := by decide +kernel
theorem dL_plus_10 : decode cL_plus 10 = .ok (.putfield 13, 3) := by decide +kernel
theorem dL_plus_13 : decode cL_plus 13 = .ok (.goto 7, 3) := by decide +kernel
theorem dL_plus_16 : decode cL_plus 16 = .ok (.astore 5, 2) := by decide +kernel
theorem dL_plus_18 : decode cL_plus 18 = .ok (.iconst 1, 1) := by decide +kernel
theorem dL_plus_19 : decode cL_plus 19 = .ok (.ireturn, 1) := by decide +kernel
theorem dL_plus_20 : decode cL_plus 20 = .ok (.iconst 0, 1) := by decide +kernel
theorem dL_plus_21 : decode cL_plus 21 = .ok (.ireturn, 1) := by decide +kernel
theorem dL_minus_0 : decode cL_minus 0 = .ok (.aload 4, 2) := by decide +kernel
theorem dL_minus_2 : decode cL_minus 2 = .ok (.aload_n 0, 1) := by decide +kernel
theorem dL_minus_3 : decode cL_minus 3 = .ok (.iload_n 1, 1) := by decide +kernel
theorem dL_minus_4 : decode cL_minus 4 = .ok (.iload_n 2, 1) := by decide +kernel
theorem dL_minus_5 : decode cL_minus 5 = .ok (.iload_n 3, 1) := by decide +kernel
theorem dL_minus_6 : decode cL_minus 6 = .ok (.invokevirtual 36, 3) := by decide +kernel
theorem dL_minus_9 : decode cL_minus 9 = .ok (.i2l, 1) := by decide +kernel
theorem dL_minus_10 : decode cL_minus 10 = .ok (.putfield 13, 3) := by decide +kernel
theorem dL_minus_13 : decode cL_minus 13 = .ok (.goto 7, 3) := by decide +kernel
theorem dL_minus_16 : decode cL_minus 16 = .ok (.astore 5, 2) := by decide +kernel
theorem dL_minus_18 : decode cL_minus 18 = .ok (.iconst 1, 1) := by decide +kernel
theorem dL_minus_19 : decode cL_minus 19 = .ok (.ireturn, 1) := by decide +kernel
theorem dL_minus_20 : decode cL_minus 20 = .ok (.iconst 0, 1) := by decide +kernel
theorem dL_minus_21 : decode cL_minus 21 = .ok (.ireturn, 1) := by decide +kernel
theorem dL_times_0 : decode cL_times 0 = .ok (.aload 4, 2) := by decide +kernel
theorem dL_times_2 : decode cL_times 2 = .ok (.aload_n 0, 1) := by decide +kernel
theorem dL_times_3 : decode cL_times 3 = .ok (.iload_n 1, 1) := by decide +kernel
theorem dL_times_4 : decode cL_times 4 = .ok (.iload_n 2, 1) := by decide +kernel
theorem dL_times_5 : decode cL_times 5 = .ok (.iload_n 3, 1) := by decide +kernel
theorem dL_times_6 : decode cL_times 6 = .ok (.invokevirtual 39, 3) := by decide +kernel
theorem dL_times_9 : decode cL_times 9 = .ok (.i2l, 1) := by decide +kernel
theorem dL_times_10 : decode cL_times 10 = .ok (.putfield 13, 3) := by decide +kernel
theorem dL_times_13 : decode cL_times 13 = .ok (.goto 7, 3) := by decide +kernel
theorem dL_times_16 : decode cL_times 16 = .ok (.astore 5, 2) := by decide +kernel
theorem dL_times_18 : decode cL_times 18 = .ok (.iconst 1, 1) := by decide +kernel
theorem dL_times_19 : decode cL_times 19 = .ok (.ireturn, 1) := by decide +kernel
theorem dL_times_20 : decode cL_times 20 = .ok (.iconst 0, 1) := by decide +kernel
theorem dL_times_21 : decode cL_times 21 = .ok (.ireturn, 1) := by decide +kernel
theorem dL_over_0 : decode cL_over 0 = .ok (.aload 4, 2) := by decide +kernel
theorem dL_over_2 : decode cL_over 2 = .ok (.aload_n 0, 1) := by decide +kernel
theorem dL_over_3 : decode cL_over 3 = .ok (.iload_n 1, 1) := by decide +kernel
theorem dL_over_4 : decode cL_over 4 = .ok (.iload_n 2, 1) := by decide +kernel
theorem dL_over_5 : decode cL_over 5 = .ok (.iload_n 3, 1) := by decide +kernel
theorem dL_over_6 : decode cL_over 6 = .ok (.invokevirtual 42, 3) := by decide +kernel
theorem dL_over_9 : decode cL_over 9 = .ok (.i2l, 1) := by decide +kernel
theorem dL_over_10 : decode cL_over 10 = .ok (.putfield 13, 3) := by decide +kernel
theorem dL_over_13 : decode cL_over 13 = .ok (.goto 7, 3) := by decide +kernel
theorem dL_over_16 : decode cL_over 16 = .ok (.astore 5, 2) := by decide +kernel
theorem dL_over_18 : decode cL_over 18 = .ok (.iconst 1, 1) := by decide +kernel
theorem dL_over_19 : decode cL_over 19 = .ok (.ireturn, 1) := by decide +kernel
theorem dL_over_20 : decode cL_over 20 = .ok (.iconst 0, 1) := by decide +kernel
theorem dL_over_21 : decode cL_over 21 = .ok (.ireturn, 1) := by decide +kernel
theorem dL_negate_0 : decode cL_negate 0 = .ok (.aload_n 2, 1) := by decide +kernel
theorem dL_negate_1 : decode cL_negate 1 = .ok (.aload_n 0, 1) := by decide +kernel
theorem dL_negate_2 : decode cL_negate 2 = .ok (.iload_n 1, 1) := by decide +kernel
theorem dL_negate_3 : decode cL_negate 3 = .ok (.invokevirtual 45, 3) := by decide +kernel
theorem dL_negate_6 : decode cL_negate 6 = .ok (.i2l, 1) := by decide +kernel
theorem dL_negate_7 : decode cL_negate 7 = .ok (.putfield 13, 3) := by decide +kernel
theorem dL_negate_10 : decode cL_negate 10 = .ok (.goto 6, 3) := by decide +kernel
theorem dL_negate_13 : decode cL_negate 13 = .ok (.astore_n 3, 1) := by decide +kernel
theorem dL_negate_14 : decode cL_negate 14 = .ok (.iconst 1, 1) := by decide +kernel
theorem dL_negate_15 : decode cL_negate 15 = .ok (.ireturn, 1) := by decide +kernel
theorem dL_negate_16 : decode cL_negate 16 = .ok (.iconst 0, 1) := by decide +kernel
theorem dL_negate_17 : decode cL_negate 17 = .ok (.ireturn, 1) := by decide +kernel
theorem dL_invert_0 : decode cL_invert 0 = .ok (.aload_n 2, 1) := by decide +kernel
theorem dL_invert_1 : decode cL_invert 1 = .ok (.aload_n 0, 1) := by decide +kernel
theorem dL_invert_2 : decode cL_invert 2 = .ok (.iload_n 1, 1) := by decide +kernel
theorem dL_invert_3 : decode cL_invert 3 = .ok (.invokevirtual 49, 3) := by decide +kernel
theorem dL_invert_6 : decode cL_invert 6 = .ok (.i2l, 1) := by decide +kernel
theorem dL_invert_7 : decode cL_invert 7 = .ok (.putfield 13, 3) := by decide +kernel
theorem dL_invert_10 : decode cL_invert 10 = .ok (.goto 6, 3) := by decide +kernel
theorem dL_invert_13 : decode cL_invert 13 = .ok (.astore_n 3, 1) := by decide +kernel
theorem dL_invert_14 : decode cL_invert 14 = .ok (.iconst 1, 1) := by decide +kernel
theorem dL_invert_15 : decode cL_invert 15 = .ok (.ireturn, 1) := by decide +kernel
theorem dL_invert_16 : decode cL_invert 16 = .ok (.iconst 0, 1) := by decide +kernel
theorem dL_invert_17 : decode cL_invert 17 = .ok (.ireturn, 1) := by decide +kernel
theorem dL_raise_0 : decode cL_raise 0 = .ok (.aload_n 3, 1) := by decide +kernel
theorem dL_raise_1 : decode cL_raise 1 = .ok (.aload_n 0, 1) := by decide +kernel
theorem dL_raise_2 : decode cL_raise 2 = .ok (.iload_n 1, 1) := by decide +kernel
theorem dL_raise_3 : decode cL_raise 3 = .ok (.iload_n 2, 1) := by decide +kernel
theorem dL_raise_4 : decode cL_raise 4 = .ok (.invokevirtual 52, 3) := by decide +kernel
theorem dL_raise_7 : decode cL_raise 7 = .ok (.i2l, 1) := by decide +kernel
theorem dL_raise_8 : decode cL_raise 8 = .ok (.putfield 13, 3) := by decide +kernel
theorem dL_raise_11 : decode cL_raise 11 = .ok (.goto 11, 3) := by decide +kernel
theorem dL_raise_14 : decode cL_raise 14 = .ok (.astore 4, 2) := by decide +kernel
theorem dL_raise_16 : decode cL_raise 16 = .ok (.iconst 1, 1) := by decide +kernel
theorem dL_raise_17 : decode cL_raise 17 = .ok (.ireturn, 1) := by decide +kernel
theorem dL_raise_18 : decode cL_raise 18 = .ok (.astore 4, 2) := by decide +kernel
theorem dL_raise_20 : decode cL_raise 20 = .ok (.iconst 2, 1) := by decide +kernel
theorem dL_raise_21 : decode cL_raise 21 = .ok (.ireturn, 1) := by decide +kernel
theorem dL_raise_22 : decode cL_raise 22 = .ok (.iconst 0, 1) := by decide +kernel
theorem dL_raise_23 : decode cL_raise 23 = .ok (.ireturn, 1) := by decide +kernel
theorem dL_mediant_0 : decode cL_mediant 0 = .ok (.aload 4, 2) := by decide +kernel
theorem dL_mediant_2 : decode cL_mediant 2 = .ok (.aload_n 0, 1) := by decide +kernel
theorem dL_mediant_3 : decode cL_mediant 3 = .ok (.iload_n 1, 1) := by decide +kernel
theorem dL_mediant_4 : decode cL_mediant 4 = .ok (.iload_n 2, 1) := by decide +kernel
theorem dL_mediant_5 : decode cL_mediant 5 = .ok (.iload_n 3, 1) := by decide +kernel
theorem dL_mediant_6 : decode cL_mediant 6 = .ok (.invokevirtual 55, 3) := by decide +kernel
theorem dL_mediant_9 : decode cL_mediant 9 = .ok (.i2l, 1) := by decide +kernel
theorem dL_mediant_10 : decode cL_mediant 10 = .ok (.putfield 13, 3) := by decide +kernel
theorem dL_mediant_13 : decode cL_mediant 13 = .ok (.goto 7, 3) := by decide +kernel
theorem dL_mediant_16 : decode cL_mediant 16 = .ok (.astore 5, 2) := by decide +kernel
theorem dL_mediant_18 : decode cL_mediant 18 = .ok (.iconst 1, 1) := by decide +kernel
theorem dL_mediant_19 : decode cL_mediant 19 = .ok (.ireturn, 1) := by decide +kernel
theorem dL_mediant_20 : decode cL_mediant 20 = .ok (.iconst 0, 1) := by decide +kernel
theorem dL_mediant_21 : decode cL_mediant 21 = .ok (.ireturn, 1) := by decide +kernel
theorem dL_text_0 : decode cL_text 0 = .ok (.aload_n 2, 1) := by decide +kernel
theorem dL_text_1 : decode cL_text 1 = .ok (.aload_n 0, 1) := by decide +kernel
theorem dL_text_2 : decode cL_text 2 = .ok (.iload_n 1, 1) := by decide +kernel
theorem dL_text_3 : decode cL_text 3 = .ok (.invokevirtual 58, 3) := by decide +kernel
theorem dL_text_6 : decode cL_text 6 = .ok (.putfield 62, 3) := by decide +kernel
theorem dL_text_9 : decode cL_text 9 = .ok (.goto 6, 3) := by decide +kernel
theorem dL_text_12 : decode cL_text 12 = .ok (.astore_n 3, 1) := by decide +kernel
theorem dL_text_13 : decode cL_text 13 = .ok (.iconst 1, 1) := by decide +kernel
theorem dL_text_14 : decode cL_text 14 = .ok (.ireturn, 1) := by decide +kernel
theorem dL_text_15 : decode cL_text 15 = .ok (.iconst 0, 1) := by decide +kernel
theorem dL_text_16 : decode cL_text 16 = .ok (.ireturn, 1) := by decide +kernel
theorem dL_part_0 : decode cL_part 0 = .ok (.aload_n 3, 1) := by decide +kernel
theorem dL_part_1 : decode cL_part 1 = .ok (.aload_n 0, 1) := by decide +kernel
theorem dL_part_2 : decode cL_part 2 = .ok (.iload_n 1, 1) := by decide +kernel
theorem dL_part_3 : decode cL_part 3 = .ok (.iload_n 2, 1) := by decide +kernel
theorem dL_part_4 : decode cL_part 4 = .ok (.invokevirtual 66, 3) := by decide +kernel
theorem dL_part_7 : decode cL_part 7 = .ok (.i2l, 1) := by decide +kernel
theorem dL_part_8 : decode cL_part 8 = .ok (.putfield 13, 3) := by decide +kernel
theorem dL_part_11 : decode cL_part 11 = .ok (.goto 11, 3) := by decide +kernel
theorem dL_part_14 : decode cL_part 14 = .ok (.astore 4, 2) := by decide +kernel
theorem dL_part_16 : decode cL_part 16 = .ok (.iconst 1, 1) := by decide +kernel
theorem dL_part_17 : decode cL_part 17 = .ok (.ireturn, 1) := by decide +kernel
theorem dL_part_18 : decode cL_part 18 = .ok (.astore 4, 2) := by decide +kernel
theorem dL_part_20 : decode cL_part 20 = .ok (.iconst 2, 1) := by decide +kernel
theorem dL_part_21 : decode cL_part 21 = .ok (.ireturn, 1) := by decide +kernel
theorem dL_part_22 : decode cL_part 22 = .ok (.iconst 0, 1) := by decide +kernel
theorem dL_part_23 : decode cL_part 23 = .ok (.ireturn, 1) := by decide +kernel
theorem dL_compare_0 : decode cL_compare 0 = .ok (.aload_n 3, 1) := by decide +kernel
theorem dL_compare_1 : decode cL_compare 1 = .ok (.aload_n 0, 1) := by decide +kernel
theorem dL_compare_2 : decode cL_compare 2 = .ok (.iload_n 1, 1) := by decide +kernel
theorem dL_compare_3 : decode cL_compare 3 = .ok (.iload_n 2, 1) := by decide +kernel
theorem dL_compare_4 : decode cL_compare 4 = .ok (.invokevirtual 69, 3) := by decide +kernel
theorem dL_compare_7 : decode cL_compare 7 = .ok (.i2l, 1) := by decide +kernel
theorem dL_compare_8 : decode cL_compare 8 = .ok (.putfield 13, 3) := by decide +kernel
theorem dL_compare_11 : decode cL_compare 11 = .ok (.goto 7, 3) := by decide +kernel
theorem dL_compare_14 : decode cL_compare 14 = .ok (.astore 4, 2) := by decide +kernel
theorem dL_compare_16 : decode cL_compare 16 = .ok (.iconst 1, 1) := by decide +kernel
theorem dL_compare_17 : decode cL_compare 17 = .ok (.ireturn, 1) := by decide +kernel
theorem dL_compare_18 : decode cL_compare 18 = .ok (.iconst 0, 1) := by decide +kernel
theorem dL_compare_19 : decode cL_compare 19 = .ok (.ireturn, 1) := by decide +kernel
theorem dL_areNext_0 : decode cL_areNext 0 = .ok (.aload_n 3, 1) := by decide +kernel
theorem dL_areNext_1 : decode cL_areNext 1 = .ok (.aload_n 0, 1) := by decide +kernel
theorem dL_areNext_2 : decode cL_areNext 2 = .ok (.iload_n 1, 1) := by decide +kernel
theorem dL_areNext_3 : decode cL_areNext 3 = .ok (.iload_n 2, 1) := by decide +kernel
theorem dL_areNext_4 : decode cL_areNext 4 = .ok (.invokevirtual 72, 3) := by decide +kernel
theorem dL_areNext_7 : decode cL_areNext 7 = .ok (.ifCond .eq 7, 3) := by decide +kernel
theorem dL_areNext_10 : decode cL_areNext 10 = .ok (.lconst 1, 1) := by decide +kernel
theorem dL_areNext_11 : decode cL_areNext 11 = .ok (.goto 4, 3) := by decide +kernel
theorem dL_areNext_14 : decode cL_areNext 14 = .ok (.lconst 0, 1) := by decide +kernel
theorem dL_areNext_15 : decode cL_areNext 15 = .ok (.putfield 13, 3) := by decide +kernel
theorem dL_areNext_18 : decode cL_areNext 18 = .ok (.goto 7, 3) := by decide +kernel
theorem dL_areNext_21 : decode cL_areNext 21 = .ok (.astore 4, 2) := by decide +kernel
theorem dL_areNext_23 : decode cL_areNext 23 = .ok (.iconst 1, 1) := by decide +kernel
theorem dL_areNext_24 : decode cL_areNext 24 = .ok (.ireturn, 1) := by decide +kernel
theorem dL_areNext_25 : decode cL_areNext 25 = .ok (.iconst 0, 1) := by decide +kernel
theorem dL_areNext_26 : decode cL_areNext 26 = .ok (.ireturn, 1) := by decide +kernel
theorem dL_terms_0 : decode cL_terms 0 = .ok (.aload_n 2, 1) := by decide +kernel
theorem dL_terms_1 : decode cL_terms 1 = .ok (.aload_n 0, 1) := by decide +kernel
theorem dL_terms_2 : decode cL_terms 2 = .ok (.iload_n 1, 1) := by decide +kernel
theorem dL_terms_3 : decode cL_terms 3 = .ok (.invokevirtual 76, 3) := by decide +kernel
theorem dL_terms_6 : decode cL_terms 6 = .ok (.putfield 62, 3) := by decide +kernel
theorem dL_terms_9 : decode cL_terms 9 = .ok (.goto 6, 3) := by decide +kernel
theorem dL_terms_12 : decode cL_terms 12 = .ok (.astore_n 3, 1) := by decide +kernel
theorem dL_terms_13 : decode cL_terms 13 = .ok (.iconst 1, 1) := by decide +kernel
theorem dL_terms_14 : decode cL_terms 14 = .ok (.ireturn, 1) := by decide +kernel
theorem dL_terms_15 : decode cL_terms 15 = .ok (.iconst 0, 1) := by decide +kernel
theorem dL_terms_16 : decode cL_terms 16 = .ok (.ireturn, 1) := by decide +kernel
theorem dL_term_0 : decode cL_term 0 = .ok (.aload_n 3, 1) := by decide +kernel
theorem dL_term_1 : decode cL_term 1 = .ok (.aload_n 0, 1) := by decide +kernel
theorem dL_term_2 : decode cL_term 2 = .ok (.iload_n 1, 1) := by decide +kernel
theorem dL_term_3 : decode cL_term 3 = .ok (.iload_n 2, 1) := by decide +kernel
theorem dL_term_4 : decode cL_term 4 = .ok (.invokevirtual 79, 3) := by decide +kernel
theorem dL_term_7 : decode cL_term 7 = .ok (.i2l, 1) := by decide +kernel
theorem dL_term_8 : decode cL_term 8 = .ok (.putfield 13, 3) := by decide +kernel
theorem dL_term_11 : decode cL_term 11 = .ok (.goto 11, 3) := by decide +kernel
theorem dL_term_14 : decode cL_term 14 = .ok (.astore 4, 2) := by decide +kernel
theorem dL_term_16 : decode cL_term 16 = .ok (.iconst 1, 1) := by decide +kernel
theorem dL_term_17 : decode cL_term 17 = .ok (.ireturn, 1) := by decide +kernel
theorem dL_term_18 : decode cL_term 18 = .ok (.astore 4, 2) := by decide +kernel
theorem dL_term_20 : decode cL_term 20 = .ok (.iconst 2, 1) := by decide +kernel
theorem dL_term_21 : decode cL_term 21 = .ok (.ireturn, 1) := by decide +kernel
theorem dL_term_22 : decode cL_term 22 = .ok (.iconst 0, 1) := by decide +kernel
theorem dL_term_23 : decode cL_term 23 = .ok (.ireturn, 1) := by decide +kernel
theorem dL_convergent_0 : decode cL_convergent 0 = .ok (.aload 4, 2) := by decide +kernel
theorem dL_convergent_2 : decode cL_convergent 2 = .ok (.aload_n 0, 1) := by decide +kernel
theorem dL_convergent_3 : decode cL_convergent 3 = .ok (.iload_n 1, 1) := by decide +kernel
theorem dL_convergent_4 : decode cL_convergent 4 = .ok (.iload_n 2, 1) := by decide +kernel
theorem dL_convergent_5 : decode cL_convergent 5 = .ok (.iload_n 3, 1) := by decide +kernel
theorem dL_convergent_6 : decode cL_convergent 6 = .ok (.invokevirtual 82, 3) := by decide +kernel
theorem dL_convergent_9 : decode cL_convergent 9 = .ok (.i2l, 1) := by decide +kernel
theorem dL_convergent_10 : decode cL_convergent 10 = .ok (.putfield 13, 3) := by decide +kernel
theorem dL_convergent_13 : decode cL_convergent 13 = .ok (.goto 11, 3) := by decide +kernel
theorem dL_convergent_16 : decode cL_convergent 16 = .ok (.astore 5, 2) := by decide +kernel
theorem dL_convergent_18 : decode cL_convergent 18 = .ok (.iconst 1, 1) := by decide +kernel
theorem dL_convergent_19 : decode cL_convergent 19 = .ok (.ireturn, 1) := by decide +kernel
theorem dL_convergent_20 : decode cL_convergent 20 = .ok (.astore 5, 2) := by decide +kernel
theorem dL_convergent_22 : decode cL_convergent 22 = .ok (.iconst 2, 1) := by decide +kernel
theorem dL_convergent_23 : decode cL_convergent 23 = .ok (.ireturn, 1) := by decide +kernel
theorem dL_convergent_24 : decode cL_convergent 24 = .ok (.iconst 0, 1) := by decide +kernel
theorem dL_convergent_25 : decode cL_convergent 25 = .ok (.ireturn, 1) := by decide +kernel
theorem dL_say_0 : decode cL_say 0 = .ok (.aload_n 2, 1) := by decide +kernel
theorem dL_say_1 : decode cL_say 1 = .ok (.aload_n 0, 1) := by decide +kernel
theorem dL_say_2 : decode cL_say 2 = .ok (.iload_n 1, 1) := by decide +kernel
theorem dL_say_3 : decode cL_say 3 = .ok (.invokevirtual 85, 3) := by decide +kernel
theorem dL_say_6 : decode cL_say 6 = .ok (.i2l, 1) := by decide +kernel
theorem dL_say_7 : decode cL_say 7 = .ok (.putfield 13, 3) := by decide +kernel
theorem dL_say_10 : decode cL_say 10 = .ok (.goto 9, 3) := by decide +kernel
theorem dL_say_13 : decode cL_say 13 = .ok (.astore_n 3, 1) := by decide +kernel
theorem dL_say_14 : decode cL_say 14 = .ok (.iconst 1, 1) := by decide +kernel
theorem dL_say_15 : decode cL_say 15 = .ok (.ireturn, 1) := by decide +kernel
theorem dL_say_16 : decode cL_say 16 = .ok (.astore_n 3, 1) := by decide +kernel
theorem dL_say_17 : decode cL_say 17 = .ok (.iconst 2, 1) := by decide +kernel
theorem dL_say_18 : decode cL_say 18 = .ok (.ireturn, 1) := by decide +kernel
theorem dL_say_19 : decode cL_say 19 = .ok (.iconst 0, 1) := by decide +kernel
theorem dL_say_20 : decode cL_say 20 = .ok (.ireturn, 1) := by decide +kernel
theorem dL_unsay_0 : decode cL_unsay 0 = .ok (.aload_n 2, 1) := by decide +kernel
theorem dL_unsay_1 : decode cL_unsay 1 = .ok (.aload_n 0, 1) := by decide +kernel
theorem dL_unsay_2 : decode cL_unsay 2 = .ok (.iload_n 1, 1) := by decide +kernel
theorem dL_unsay_3 : decode cL_unsay 3 = .ok (.invokevirtual 90, 3) := by decide +kernel
theorem dL_unsay_6 : decode cL_unsay 6 = .ok (.i2l, 1) := by decide +kernel
theorem dL_unsay_7 : decode cL_unsay 7 = .ok (.putfield 13, 3) := by decide +kernel
theorem dL_unsay_10 : decode cL_unsay 10 = .ok (.goto 6, 3) := by decide +kernel
theorem dL_unsay_13 : decode cL_unsay 13 = .ok (.astore_n 3, 1) := by decide +kernel
theorem dL_unsay_14 : decode cL_unsay 14 = .ok (.iconst 1, 1) := by decide +kernel
theorem dL_unsay_15 : decode cL_unsay 15 = .ok (.ireturn, 1) := by decide +kernel
theorem dL_unsay_16 : decode cL_unsay 16 = .ok (.iconst 0, 1) := by decide +kernel
theorem dL_unsay_17 : decode cL_unsay 17 = .ok (.ireturn, 1) := by decide +kernel
theorem dL_fold_0 : decode cL_fold 0 = .ok (.aload_n 2, 1) := by decide +kernel
theorem dL_fold_1 : decode cL_fold 1 = .ok (.aload_n 0, 1) := by decide +kernel
theorem dL_fold_2 : decode cL_fold 2 = .ok (.iload_n 1, 1) := by decide +kernel
theorem dL_fold_3 : decode cL_fold 3 = .ok (.invokevirtual 93, 3) := by decide +kernel
theorem dL_fold_6 : decode cL_fold 6 = .ok (.i2l, 1) := by decide +kernel
theorem dL_fold_7 : decode cL_fold 7 = .ok (.putfield 13, 3) := by decide +kernel
theorem dL_fold_10 : decode cL_fold 10 = .ok (.goto 6, 3) := by decide +kernel
theorem dL_fold_13 : decode cL_fold 13 = .ok (.astore_n 3, 1) := by decide +kernel
theorem dL_fold_14 : decode cL_fold 14 = .ok (.iconst 1, 1) := by decide +kernel
theorem dL_fold_15 : decode cL_fold 15 = .ok (.ireturn, 1) := by decide +kernel
theorem dL_fold_16 : decode cL_fold 16 = .ok (.iconst 0, 1) := by decide +kernel
theorem dL_fold_17 : decode cL_fold 17 = .ok (.ireturn, 1) := by decide +kernel
theorem dL_lower_0 : decode cL_lower 0 = .ok (.aload 4, 2) := by decide +kernel
theorem dL_lower_2 : decode cL_lower 2 = .ok (.aload_n 0, 1) := by decide +kernel
theorem dL_lower_3 : decode cL_lower 3 = .ok (.iload_n 1, 1) := by decide +kernel
theorem dL_lower_4 : decode cL_lower 4 = .ok (.iload_n 2, 1) := by decide +kernel
theorem dL_lower_5 : decode cL_lower 5 = .ok (.iload_n 3, 1) := by decide +kernel
theorem dL_lower_6 : decode cL_lower 6 = .ok (.invokevirtual 96, 3) := by decide +kernel
theorem dL_lower_9 : decode cL_lower 9 = .ok (.i2l, 1) := by decide +kernel
theorem dL_lower_10 : decode cL_lower 10 = .ok (.putfield 13, 3) := by decide +kernel
theorem dL_lower_13 : decode cL_lower 13 = .ok (.goto 11, 3) := by decide +kernel
theorem dL_lower_16 : decode cL_lower 16 = .ok (.astore 5, 2) := by decide +kernel
theorem dL_lower_18 : decode cL_lower 18 = .ok (.iconst 1, 1) := by decide +kernel
theorem dL_lower_19 : decode cL_lower 19 = .ok (.ireturn, 1) := by decide +kernel
theorem dL_lower_20 : decode cL_lower 20 = .ok (.astore 5, 2) := by decide +kernel
theorem dL_lower_22 : decode cL_lower 22 = .ok (.iconst 2, 1) := by decide +kernel
theorem dL_lower_23 : decode cL_lower 23 = .ok (.ireturn, 1) := by decide +kernel
theorem dL_lower_24 : decode cL_lower 24 = .ok (.iconst 0, 1) := by decide +kernel
theorem dL_lower_25 : decode cL_lower 25 = .ok (.ireturn, 1) := by decide +kernel
theorem dL_upper_0 : decode cL_upper 0 = .ok (.aload 4, 2) := by decide +kernel
theorem dL_upper_2 : decode cL_upper 2 = .ok (.aload_n 0, 1) := by decide +kernel
theorem dL_upper_3 : decode cL_upper 3 = .ok (.iload_n 1, 1) := by decide +kernel
theorem dL_upper_4 : decode cL_upper 4 = .ok (.iload_n 2, 1) := by decide +kernel
theorem dL_upper_5 : decode cL_upper 5 = .ok (.iload_n 3, 1) := by decide +kernel
theorem dL_upper_6 : decode cL_upper 6 = .ok (.invokevirtual 99, 3) := by decide +kernel
theorem dL_upper_9 : decode cL_upper 9 = .ok (.i2l, 1) := by decide +kernel
theorem dL_upper_10 : decode cL_upper 10 = .ok (.putfield 13, 3) := by decide +kernel
theorem dL_upper_13 : decode cL_upper 13 = .ok (.goto 11, 3) := by decide +kernel
theorem dL_upper_16 : decode cL_upper 16 = .ok (.astore 5, 2) := by decide +kernel
theorem dL_upper_18 : decode cL_upper 18 = .ok (.iconst 1, 1) := by decide +kernel
theorem dL_upper_19 : decode cL_upper 19 = .ok (.ireturn, 1) := by decide +kernel
theorem dL_upper_20 : decode cL_upper 20 = .ok (.astore 5, 2) := by decide +kernel
theorem dL_upper_22 : decode cL_upper 22 = .ok (.iconst 2, 1) := by decide +kernel
theorem dL_upper_23 : decode cL_upper 23 = .ok (.ireturn, 1) := by decide +kernel
theorem dL_upper_24 : decode cL_upper 24 = .ok (.iconst 0, 1) := by decide +kernel
theorem dL_upper_25 : decode cL_upper 25 = .ok (.ireturn, 1) := by decide +kernel
theorem dL_best_0 : decode cL_best 0 = .ok (.aload 4, 2) := by decide +kernel
theorem dL_best_2 : decode cL_best 2 = .ok (.aload_n 0, 1) := by decide +kernel
theorem dL_best_3 : decode cL_best 3 = .ok (.iload_n 1, 1) := by decide +kernel
theorem dL_best_4 : decode cL_best 4 = .ok (.iload_n 2, 1) := by decide +kernel
theorem dL_best_5 : decode cL_best 5 = .ok (.iload_n 3, 1) := by decide +kernel
theorem dL_best_6 : decode cL_best 6 = .ok (.invokevirtual 102, 3) := by decide +kernel
theorem dL_best_9 : decode cL_best 9 = .ok (.i2l, 1) := by decide +kernel
theorem dL_best_10 : decode cL_best 10 = .ok (.putfield 13, 3) := by decide +kernel
theorem dL_best_13 : decode cL_best 13 = .ok (.goto 11, 3) := by decide +kernel
theorem dL_best_16 : decode cL_best 16 = .ok (.astore 5, 2) := by decide +kernel
theorem dL_best_18 : decode cL_best 18 = .ok (.iconst 1, 1) := by decide +kernel
theorem dL_best_19 : decode cL_best 19 = .ok (.ireturn, 1) := by decide +kernel
theorem dL_best_20 : decode cL_best 20 = .ok (.astore 5, 2) := by decide +kernel
theorem dL_best_22 : decode cL_best 22 = .ok (.iconst 2, 1) := by decide +kernel
theorem dL_best_23 : decode cL_best 23 = .ok (.ireturn, 1) := by decide +kernel
theorem dL_best_24 : decode cL_best 24 = .ok (.iconst 0, 1) := by decide +kernel
theorem dL_best_25 : decode cL_best 25 = .ok (.ireturn, 1) := by decide +kernel
theorem dL_up_0 : decode cL_up 0 = .ok (.aload_n 2, 1) := by decide +kernel
theorem dL_up_1 : decode cL_up 1 = .ok (.aload_n 0, 1) := by decide +kernel
theorem dL_up_2 : decode cL_up 2 = .ok (.iload_n 1, 1) := by decide +kernel
theorem dL_up_3 : decode cL_up 3 = .ok (.invokevirtual 105, 3) := by decide +kernel
theorem dL_up_6 : decode cL_up 6 = .ok (.i2l, 1) := by decide +kernel
theorem dL_up_7 : decode cL_up 7 = .ok (.putfield 13, 3) := by decide +kernel
theorem dL_up_10 : decode cL_up 10 = .ok (.goto 6, 3) := by decide +kernel
theorem dL_up_13 : decode cL_up 13 = .ok (.astore_n 3, 1) := by decide +kernel
theorem dL_up_14 : decode cL_up 14 = .ok (.iconst 1, 1) := by decide +kernel
theorem dL_up_15 : decode cL_up 15 = .ok (.ireturn, 1) := by decide +kernel
theorem dL_up_16 : decode cL_up 16 = .ok (.iconst 0, 1) := by decide +kernel
theorem dL_up_17 : decode cL_up 17 = .ok (.ireturn, 1) := by decide +kernel
theorem dL_down_0 : decode cL_down 0 = .ok (.aload_n 3, 1) := by decide +kernel
theorem dL_down_1 : decode cL_down 1 = .ok (.aload_n 0, 1) := by decide +kernel
theorem dL_down_2 : decode cL_down 2 = .ok (.iload_n 1, 1) := by decide +kernel
theorem dL_down_3 : decode cL_down 3 = .ok (.iload_n 2, 1) := by decide +kernel
theorem dL_down_4 : decode cL_down 4 = .ok (.invokevirtual 108, 3) := by decide +kernel
theorem dL_down_7 : decode cL_down 7 = .ok (.i2l, 1) := by decide +kernel
theorem dL_down_8 : decode cL_down 8 = .ok (.putfield 13, 3) := by decide +kernel
theorem dL_down_11 : decode cL_down 11 = .ok (.goto 7, 3) := by decide +kernel
theorem dL_down_14 : decode cL_down 14 = .ok (.astore 4, 2) := by decide +kernel
theorem dL_down_16 : decode cL_down 16 = .ok (.iconst 1, 1) := by decide +kernel
theorem dL_down_17 : decode cL_down 17 = .ok (.ireturn, 1) := by decide +kernel
theorem dL_down_18 : decode cL_down 18 = .ok (.iconst 0, 1) := by decide +kernel
theorem dL_down_19 : decode cL_down 19 = .ok (.ireturn, 1) := by decide +kernel
theorem dL_depth_0 : decode cL_depth 0 = .ok (.aload_n 2, 1) := by decide +kernel
theorem dL_depth_1 : decode cL_depth 1 = .ok (.aload_n 0, 1) := by decide +kernel
theorem dL_depth_2 : decode cL_depth 2 = .ok (.iload_n 1, 1) := by decide +kernel
theorem dL_depth_3 : decode cL_depth 3 = .ok (.invokevirtual 112, 3) := by decide +kernel
theorem dL_depth_6 : decode cL_depth 6 = .ok (.i2l, 1) := by decide +kernel
theorem dL_depth_7 : decode cL_depth 7 = .ok (.putfield 13, 3) := by decide +kernel
theorem dL_depth_10 : decode cL_depth 10 = .ok (.goto 6, 3) := by decide +kernel
theorem dL_depth_13 : decode cL_depth 13 = .ok (.astore_n 3, 1) := by decide +kernel
theorem dL_depth_14 : decode cL_depth 14 = .ok (.iconst 1, 1) := by decide +kernel
theorem dL_depth_15 : decode cL_depth 15 = .ok (.ireturn, 1) := by decide +kernel
theorem dL_depth_16 : decode cL_depth 16 = .ok (.iconst 0, 1) := by decide +kernel
theorem dL_depth_17 : decode cL_depth 17 = .ok (.ireturn, 1) := by decide +kernel
theorem dL_way_0 : decode cL_way 0 = .ok (.aload_n 2, 1) := by decide +kernel
theorem dL_way_1 : decode cL_way 1 = .ok (.aload_n 0, 1) := by decide +kernel
theorem dL_way_2 : decode cL_way 2 = .ok (.iload_n 1, 1) := by decide +kernel
theorem dL_way_3 : decode cL_way 3 = .ok (.invokevirtual 115, 3) := by decide +kernel
theorem dL_way_6 : decode cL_way 6 = .ok (.putfield 62, 3) := by decide +kernel
theorem dL_way_9 : decode cL_way 9 = .ok (.goto 6, 3) := by decide +kernel
theorem dL_way_12 : decode cL_way 12 = .ok (.astore_n 3, 1) := by decide +kernel
theorem dL_way_13 : decode cL_way 13 = .ok (.iconst 1, 1) := by decide +kernel
theorem dL_way_14 : decode cL_way 14 = .ok (.ireturn, 1) := by decide +kernel
theorem dL_way_15 : decode cL_way 15 = .ok (.iconst 0, 1) := by decide +kernel
theorem dL_way_16 : decode cL_way 16 = .ok (.ireturn, 1) := by decide +kernel
theorem dL_next_0 : decode cL_next 0 = .ok (.aload_n 3, 1) := by decide +kernel
theorem dL_next_1 : decode cL_next 1 = .ok (.aload_n 0, 1) := by decide +kernel
theorem dL_next_2 : decode cL_next 2 = .ok (.iload_n 1, 1) := by decide +kernel
theorem dL_next_3 : decode cL_next 3 = .ok (.iload_n 2, 1) := by decide +kernel
theorem dL_next_4 : decode cL_next 4 = .ok (.invokevirtual 118, 3) := by decide +kernel
theorem dL_next_7 : decode cL_next 7 = .ok (.i2l, 1) := by decide +kernel
theorem dL_next_8 : decode cL_next 8 = .ok (.putfield 13, 3) := by decide +kernel
theorem dL_next_11 : decode cL_next 11 = .ok (.goto 11, 3) := by decide +kernel
theorem dL_next_14 : decode cL_next 14 = .ok (.astore 4, 2) := by decide +kernel
theorem dL_next_16 : decode cL_next 16 = .ok (.iconst 1, 1) := by decide +kernel
theorem dL_next_17 : decode cL_next 17 = .ok (.ireturn, 1) := by decide +kernel
theorem dL_next_18 : decode cL_next 18 = .ok (.astore 4, 2) := by decide +kernel
theorem dL_next_20 : decode cL_next 20 = .ok (.iconst 2, 1) := by decide +kernel
theorem dL_next_21 : decode cL_next 21 = .ok (.ireturn, 1) := by decide +kernel
theorem dL_next_22 : decode cL_next 22 = .ok (.iconst 0, 1) := by decide +kernel
theorem dL_next_23 : decode cL_next 23 = .ok (.ireturn, 1) := by decide +kernel
theorem dL_before_0 : decode cL_before 0 = .ok (.aload_n 2, 1) := by decide +kernel
theorem dL_before_1 : decode cL_before 1 = .ok (.aload_n 0, 1) := by decide +kernel
theorem dL_before_2 : decode cL_before 2 = .ok (.iload_n 1, 1) := by decide +kernel
theorem dL_before_3 : decode cL_before 3 = .ok (.invokevirtual 121, 3) := by decide +kernel
theorem dL_before_6 : decode cL_before 6 = .ok (.i2l, 1) := by decide +kernel
theorem dL_before_7 : decode cL_before 7 = .ok (.putfield 13, 3) := by decide +kernel
theorem dL_before_10 : decode cL_before 10 = .ok (.goto 6, 3) := by decide +kernel
theorem dL_before_13 : decode cL_before 13 = .ok (.astore_n 3, 1) := by decide +kernel
theorem dL_before_14 : decode cL_before 14 = .ok (.iconst 1, 1) := by decide +kernel
theorem dL_before_15 : decode cL_before 15 = .ok (.ireturn, 1) := by decide +kernel
theorem dL_before_16 : decode cL_before 16 = .ok (.iconst 0, 1) := by decide +kernel
theorem dL_before_17 : decode cL_before 17 = .ok (.ireturn, 1) := by decide +kernel
theorem dL_cut_0 : decode cL_cut 0 = .ok (.aload 4, 2) := by decide +kernel
theorem dL_cut_2 : decode cL_cut 2 = .ok (.aload_n 0, 1) := by decide +kernel
theorem dL_cut_3 : decode cL_cut 3 = .ok (.iload_n 1, 1) := by decide +kernel
theorem dL_cut_4 : decode cL_cut 4 = .ok (.iload_n 2, 1) := by decide +kernel
theorem dL_cut_5 : decode cL_cut 5 = .ok (.iload_n 3, 1) := by decide +kernel
theorem dL_cut_6 : decode cL_cut 6 = .ok (.invokevirtual 124, 3) := by decide +kernel
theorem dL_cut_9 : decode cL_cut 9 = .ok (.putfield 62, 3) := by decide +kernel
theorem dL_cut_12 : decode cL_cut 12 = .ok (.goto 11, 3) := by decide +kernel
theorem dL_cut_15 : decode cL_cut 15 = .ok (.astore 5, 2) := by decide +kernel
theorem dL_cut_17 : decode cL_cut 17 = .ok (.iconst 1, 1) := by decide +kernel
theorem dL_cut_18 : decode cL_cut 18 = .ok (.ireturn, 1) := by decide +kernel
theorem dL_cut_19 : decode cL_cut 19 = .ok (.astore 5, 2) := by decide +kernel
theorem dL_cut_21 : decode cL_cut 21 = .ok (.iconst 2, 1) := by decide +kernel
theorem dL_cut_22 : decode cL_cut 22 = .ok (.ireturn, 1) := by decide +kernel
theorem dL_cut_23 : decode cL_cut 23 = .ok (.iconst 0, 1) := by decide +kernel
theorem dL_cut_24 : decode cL_cut 24 = .ok (.ireturn, 1) := by decide +kernel
theorem dL_simplest_0 : decode cL_simplest 0 = .ok (.aload 5, 2) := by decide +kernel
theorem dL_simplest_2 : decode cL_simplest 2 = .ok (.aload_n 0, 1) := by decide +kernel
theorem dL_simplest_3 : decode cL_simplest 3 = .ok (.iload_n 1, 1) := by decide +kernel
theorem dL_simplest_4 : decode cL_simplest 4 = .ok (.iload_n 2, 1) := by decide +kernel
theorem dL_simplest_5 : decode cL_simplest 5 = .ok (.iload_n 3, 1) := by decide +kernel
theorem dL_simplest_6 : decode cL_simplest 6 = .ok (.iload 4, 2) := by decide +kernel
theorem dL_simplest_8 : decode cL_simplest 8 = .ok (.invokevirtual 128, 3) := by decide +kernel
theorem dL_simplest_11 : decode cL_simplest 11 = .ok (.i2l, 1) := by decide +kernel
theorem dL_simplest_12 : decode cL_simplest 12 = .ok (.putfield 13, 3) := by decide +kernel
theorem dL_simplest_15 : decode cL_simplest 15 = .ok (.goto 11, 3) := by decide +kernel
theorem dL_simplest_18 : decode cL_simplest 18 = .ok (.astore 6, 2) := by decide +kernel
theorem dL_simplest_20 : decode cL_simplest 20 = .ok (.iconst 1, 1) := by decide +kernel
theorem dL_simplest_21 : decode cL_simplest 21 = .ok (.ireturn, 1) := by decide +kernel
theorem dL_simplest_22 : decode cL_simplest 22 = .ok (.astore 6, 2) := by decide +kernel
theorem dL_simplest_24 : decode cL_simplest 24 = .ok (.iconst 2, 1) := by decide +kernel
theorem dL_simplest_25 : decode cL_simplest 25 = .ok (.ireturn, 1) := by decide +kernel
theorem dL_simplest_26 : decode cL_simplest 26 = .ok (.iconst 0, 1) := by decide +kernel
theorem dL_simplest_27 : decode cL_simplest 27 = .ok (.ireturn, 1) := by decide +kernel
theorem dL_tally_0 : decode cL_tally 0 = .ok (.aload 4, 2) := by decide +kernel
theorem dL_tally_2 : decode cL_tally 2 = .ok (.aload_n 0, 1) := by decide +kernel
theorem dL_tally_3 : decode cL_tally 3 = .ok (.iload_n 1, 1) := by decide +kernel
theorem dL_tally_4 : decode cL_tally 4 = .ok (.iload_n 2, 1) := by decide +kernel
theorem dL_tally_5 : decode cL_tally 5 = .ok (.iload_n 3, 1) := by decide +kernel
theorem dL_tally_6 : decode cL_tally 6 = .ok (.invokevirtual 132, 3) := by decide +kernel
theorem dL_tally_9 : decode cL_tally 9 = .ok (.i2l, 1) := by decide +kernel
theorem dL_tally_10 : decode cL_tally 10 = .ok (.putfield 13, 3) := by decide +kernel
theorem dL_tally_13 : decode cL_tally 13 = .ok (.goto 11, 3) := by decide +kernel
theorem dL_tally_16 : decode cL_tally 16 = .ok (.astore 5, 2) := by decide +kernel
theorem dL_tally_18 : decode cL_tally 18 = .ok (.iconst 1, 1) := by decide +kernel
theorem dL_tally_19 : decode cL_tally 19 = .ok (.ireturn, 1) := by decide +kernel
theorem dL_tally_20 : decode cL_tally 20 = .ok (.astore 5, 2) := by decide +kernel
theorem dL_tally_22 : decode cL_tally 22 = .ok (.iconst 2, 1) := by decide +kernel
theorem dL_tally_23 : decode cL_tally 23 = .ok (.ireturn, 1) := by decide +kernel
theorem dL_tally_24 : decode cL_tally 24 = .ok (.iconst 0, 1) := by decide +kernel
theorem dL_tally_25 : decode cL_tally 25 = .ok (.ireturn, 1) := by decide +kernel
theorem dL_house_0 : decode cL_house 0 = .ok (.aload_n 2, 1) := by decide +kernel
theorem dL_house_1 : decode cL_house 1 = .ok (.aload_n 0, 1) := by decide +kernel
theorem dL_house_2 : decode cL_house 2 = .ok (.iload_n 1, 1) := by decide +kernel
theorem dL_house_3 : decode cL_house 3 = .ok (.invokevirtual 135, 3) := by decide +kernel
theorem dL_house_6 : decode cL_house 6 = .ok (.i2l, 1) := by decide +kernel
theorem dL_house_7 : decode cL_house 7 = .ok (.putfield 13, 3) := by decide +kernel
theorem dL_house_10 : decode cL_house 10 = .ok (.goto 6, 3) := by decide +kernel
theorem dL_house_13 : decode cL_house 13 = .ok (.astore_n 3, 1) := by decide +kernel
theorem dL_house_14 : decode cL_house 14 = .ok (.iconst 1, 1) := by decide +kernel
theorem dL_house_15 : decode cL_house 15 = .ok (.ireturn, 1) := by decide +kernel
theorem dL_house_16 : decode cL_house 16 = .ok (.iconst 0, 1) := by decide +kernel
theorem dL_house_17 : decode cL_house 17 = .ok (.ireturn, 1) := by decide +kernel
/-! ===== the law's bytes, by pieces: a row is read off where it stands ===== -/
section DK
def instK (p : Nat) : Nat → Jvm.ClassFile.Decoder Jvm.ClassFile.Instr := (show {K : Nat → Jvm.ClassFile.Decoder Jvm.ClassFile.Instr // Jvm.ClassFile.Decoder.instr p = Jvm.ClassFile.Reader.u1 >>= K} from ⟨_, rfl⟩).1
theorem instKe (p : Nat) : Jvm.ClassFile.Decoder.instr p = Jvm.ClassFile.Reader.u1 >>= instK p := rfl
theorem dk_u1 {c : ByteArray} {p : Nat} {b : UInt8} (h : c.data.toList[p]? = some b) : (Jvm.ClassFile.Reader.u1 : Jvm.ClassFile.Decoder Nat) c p = .ok (b.toNat, p + 1) := by
  obtain ⟨hp, e⟩ := List.getElem?_eq_some_iff.mp h
  have hs : p < c.size := hp
  show (if h9 : p < c.size then (do set (p + 1); Pure.pure c[p].toNat : Jvm.ClassFile.Decoder Nat) else throw (Jvm.ClassFile.HasTruncated.truncated p)) c p = _
  rw [dif_pos hs]
  show Except.ok (c[p].toNat, p + 1) = _
  have e2 : c[p] = b := e
  rw [e2]
theorem dk_of {c : ByteArray} {p n : Nat} {b : UInt8} {i : Jvm.ClassFile.Instr} (h : c.data.toList[p]? = some b) (hk : instK p b.toNat c (p + 1) = .ok (i, p + n)) : decode c p = .ok (i, n) := by
  show (Jvm.ClassFile.Decoder.instr p c p >>= fun q => Pure.pure (q.1, q.2 - p) : Except Jvm.ClassFile.DecodeError (Jvm.ClassFile.Instr × Nat)) = _
  have e : Jvm.ClassFile.Decoder.instr p c p = .ok (i, p + n) := by
    rw [instKe]
    show ((Jvm.ClassFile.Reader.u1 : Jvm.ClassFile.Decoder Nat) c p >>= fun q => instK p q.1 c q.2) = _
    rw [dk_u1 h]
    exact hk
  rw [e]
  show Except.ok (i, p + n - p) = _
  rw [Nat.add_sub_cancel_left]
theorem dk_u2 {c : ByteArray} {p : Nat} {x y : UInt8} (h1 : c.data.toList[p]? = some x) (h2 : c.data.toList[p + 1]? = some y) : (Jvm.ClassFile.Reader.u2 : Jvm.ClassFile.Decoder Nat) c p = .ok (x.toNat * 256 + y.toNat, p + 2) := by
  show ((Jvm.ClassFile.Reader.u1 : Jvm.ClassFile.Decoder Nat) c p >>= fun q => (Jvm.ClassFile.Reader.u1 : Jvm.ClassFile.Decoder Nat) c q.2 >>= fun r => (Except.ok (q.1 * 256 + r.1, r.2) : Except Jvm.ClassFile.DecodeError (Nat × Nat))) = _
  rw [dk_u1 h1]
  show ((Jvm.ClassFile.Reader.u1 : Jvm.ClassFile.Decoder Nat) c (p + 1) >>= fun r => (Except.ok (x.toNat * 256 + r.1, r.2) : Except Jvm.ClassFile.DecodeError (Nat × Nat))) = _
  rw [dk_u1 h2]
  rfl
theorem dk_s1 {c : ByteArray} {p : Nat} {x : UInt8} (h1 : c.data.toList[p]? = some x) : (Jvm.ClassFile.Reader.s1 : Jvm.ClassFile.Decoder Int) c p = .ok (Jvm.ClassFile.Reader.signed 8 x.toNat, p + 1) := by
  show ((Jvm.ClassFile.Reader.u1 : Jvm.ClassFile.Decoder Nat) c p >>= fun q => (Except.ok (Jvm.ClassFile.Reader.signed 8 q.1, q.2) : Except Jvm.ClassFile.DecodeError (Int × Nat))) = _
  rw [dk_u1 h1]
  rfl
theorem dk_s2 {c : ByteArray} {p : Nat} {x y : UInt8} (h1 : c.data.toList[p]? = some x) (h2 : c.data.toList[p + 1]? = some y) : (Jvm.ClassFile.Reader.s2 : Jvm.ClassFile.Decoder Int) c p = .ok (Jvm.ClassFile.Reader.signed 16 (x.toNat * 256 + y.toNat), p + 2) := by
  show ((Jvm.ClassFile.Reader.u2 : Jvm.ClassFile.Decoder Nat) c p >>= fun q => (Except.ok (Jvm.ClassFile.Reader.signed 16 q.1, q.2) : Except Jvm.ClassFile.DecodeError (Int × Nat))) = _
  rw [dk_u2 h1 h2]
  rfl
theorem dk_0 {c : ByteArray} {p : Nat} {b : UInt8} {i : Jvm.ClassFile.Instr} (h : c.data.toList[p]? = some b) (hk : instK p b.toNat = Pure.pure i) : decode c p = .ok (i, 1) := dk_of h (by rw [hk]; rfl)
theorem dk_1 {c : ByteArray} {p : Nat} {b x : UInt8} {f : Nat → Jvm.ClassFile.Instr} {z : Nat} (h : c.data.toList[p]? = some b) (h1 : c.data.toList[p + 1]? = some x) (hk : instK p b.toNat = (do Pure.pure (f (← Jvm.ClassFile.Reader.u1)))) (hz : x.toNat = z) : decode c p = .ok (f z, 2) := dk_of h (by
  rw [hk]
  show ((Jvm.ClassFile.Reader.u1 : Jvm.ClassFile.Decoder Nat) c (p + 1) >>= fun q => (Pure.pure (f q.1) : Jvm.ClassFile.Decoder Jvm.ClassFile.Instr) c q.2) = _
  rw [dk_u1 h1, ← hz]
  rfl)
theorem dk_1s {c : ByteArray} {p : Nat} {b x : UInt8} {f : Int → Jvm.ClassFile.Instr} {z : Int} (h : c.data.toList[p]? = some b) (h1 : c.data.toList[p + 1]? = some x) (hk : instK p b.toNat = (do Pure.pure (f (← Jvm.ClassFile.Reader.s1)))) (hz : Jvm.ClassFile.Reader.signed 8 x.toNat = z) : decode c p = .ok (f z, 2) := dk_of h (by
  rw [hk]
  show ((Jvm.ClassFile.Reader.s1 : Jvm.ClassFile.Decoder Int) c (p + 1) >>= fun q => (Pure.pure (f q.1) : Jvm.ClassFile.Decoder Jvm.ClassFile.Instr) c q.2) = _
  rw [dk_s1 h1, ← hz]
  rfl)
theorem dk_2 {c : ByteArray} {p : Nat} {b x y : UInt8} {f : Nat → Jvm.ClassFile.Instr} {z : Nat} (h : c.data.toList[p]? = some b) (h1 : c.data.toList[p + 1]? = some x) (h2 : c.data.toList[p + 2]? = some y) (hk : instK p b.toNat = (do Pure.pure (f (← Jvm.ClassFile.Reader.u2)))) (hz : x.toNat * 256 + y.toNat = z) : decode c p = .ok (f z, 3) := dk_of h (by
  rw [hk]
  show ((Jvm.ClassFile.Reader.u2 : Jvm.ClassFile.Decoder Nat) c (p + 1) >>= fun q => (Pure.pure (f q.1) : Jvm.ClassFile.Decoder Jvm.ClassFile.Instr) c q.2) = _
  rw [dk_u2 h1 h2, ← hz]
  rfl)
theorem dk_2s {c : ByteArray} {p : Nat} {b x y : UInt8} {f : Int → Jvm.ClassFile.Instr} {z : Int} (h : c.data.toList[p]? = some b) (h1 : c.data.toList[p + 1]? = some x) (h2 : c.data.toList[p + 2]? = some y) (hk : instK p b.toNat = (do Pure.pure (f (← Jvm.ClassFile.Reader.s2)))) (hz : Jvm.ClassFile.Reader.signed 16 (x.toNat * 256 + y.toNat) = z) : decode c p = .ok (f z, 3) := dk_of h (by
  rw [hk]
  show ((Jvm.ClassFile.Reader.s2 : Jvm.ClassFile.Decoder Int) c (p + 1) >>= fun q => (Pure.pure (f q.1) : Jvm.ClassFile.Decoder Jvm.ClassFile.Instr) c q.2) = _
  rw [dk_s2 h1 h2, ← hz]
  rfl)
def lwk_0 : List UInt8 := [0xbb, 0x00, 0x08, 0x59, 0xb7, 0x00, 0x8a, 0x4c, 0xbb, 0x00, 0x8b, 0x59, 0xb7, 0x00, 0x8d, 0x4d, 0xbb, 0x00, 0x0e, 0x59, 0xb7, 0x00, 0x8e, 0x4e, 0x03, 0x36, 0x04, 0x15, 0x04, 0x2a, 0xbe, 0x08]
def lwk_1 : List UInt8 := [0x64, 0xa3, 0x06, 0xfa, 0x2a, 0x15, 0x04, 0x2e, 0x10, 0x3f, 0x7e, 0xaa, 0x00, 0x00, 0x06, 0xea, 0x00, 0x00, 0x00, 0x00, 0x00, 0x00, 0x00, 0x2a, 0x00, 0x00, 0x00, 0xb9, 0x00, 0x00, 0x00, 0xed]
def lwk_2 : List UInt8 := [0x00, 0x00, 0x01, 0x21, 0x00, 0x00, 0x01, 0x66, 0x00, 0x00, 0x01, 0x8e, 0x00, 0x00, 0x01, 0xc2, 0x00, 0x00, 0x01, 0xf6, 0x00, 0x00, 0x02, 0x2a, 0x00, 0x00, 0x02, 0x5e, 0x00, 0x00, 0x02, 0x7a]
def lwk_3 : List UInt8 := [0x00, 0x00, 0x02, 0x96, 0x00, 0x00, 0x02, 0xbe, 0x00, 0x00, 0x02, 0xf2, 0x00, 0x00, 0x03, 0x0e, 0x00, 0x00, 0x03, 0x36, 0x00, 0x00, 0x03, 0x5e, 0x00, 0x00, 0x03, 0x86, 0x00, 0x00, 0x03, 0xa2]
def lwk_4 : List UInt8 := [0x00, 0x00, 0x03, 0xca, 0x00, 0x00, 0x03, 0xfe, 0x00, 0x00, 0x04, 0x1a, 0x00, 0x00, 0x04, 0x36, 0x00, 0x00, 0x04, 0x43, 0x00, 0x00, 0x04, 0x5f, 0x00, 0x00, 0x04, 0x93, 0x00, 0x00, 0x04, 0xc7]
def lwk_5 : List UInt8 := [0x00, 0x00, 0x04, 0xfb, 0x00, 0x00, 0x05, 0x17, 0x00, 0x00, 0x05, 0x4f, 0x00, 0x00, 0x05, 0x6b, 0x00, 0x00, 0x05, 0x87, 0x00, 0x00, 0x05, 0xaf, 0x00, 0x00, 0x05, 0xcb, 0x00, 0x00, 0x05, 0xff]
def lwk_6 : List UInt8 := [0x00, 0x00, 0x06, 0x3f, 0x00, 0x00, 0x06, 0x73, 0x00, 0x00, 0x06, 0x80, 0x00, 0x00, 0x06, 0x8d, 0x00, 0x00, 0x06, 0x9a, 0x00, 0x00, 0x06, 0xa7, 0x00, 0x00, 0x06, 0xb4, 0x00, 0x00, 0x06, 0xd0]
def lwk_7 : List UInt8 := [0x00, 0x00, 0x06, 0xdd, 0x2b, 0x2a, 0x15, 0x04, 0x04, 0x60, 0x2e, 0x2a, 0x15, 0x04, 0x05, 0x60, 0x2e, 0x2a, 0x15, 0x04, 0x06, 0x60, 0x2e, 0x2d, 0xb8, 0x00, 0x8f, 0x36, 0x05, 0x2c, 0x2a, 0x15]
def lwk_8 : List UInt8 := [0x04, 0x04, 0x60, 0x2e, 0x2a, 0x15, 0x04, 0x05, 0x60, 0x2e, 0x2a, 0x15, 0x04, 0x06, 0x60, 0x2e, 0xb6, 0x00, 0x94, 0x36, 0x06, 0xa7, 0x06, 0x00, 0x2b, 0x2a, 0x15, 0x04, 0x04, 0x60, 0x2e, 0x2a]
def lwk_9 : List UInt8 := [0x15, 0x04, 0x05, 0x60, 0x2e, 0x2a, 0x15, 0x04, 0x06, 0x60, 0x2e, 0x2d, 0xb8, 0x00, 0x95, 0x36, 0x05, 0x2c, 0x2a, 0x15, 0x04, 0x04, 0x60, 0x2e, 0x2a, 0x15, 0x04, 0x05, 0x60, 0x2e, 0x2a, 0x15]
def lwk_10 : List UInt8 := [0x04, 0x06, 0x60, 0x2e, 0xb6, 0x00, 0x97, 0x36, 0x06, 0xa7, 0x05, 0xcc, 0x2b, 0x2a, 0x15, 0x04, 0x04, 0x60, 0x2e, 0x2a, 0x15, 0x04, 0x05, 0x60, 0x2e, 0x2d, 0xb8, 0x00, 0x98, 0x36, 0x05, 0x2c]
def lwk_11 : List UInt8 := [0x2a, 0x15, 0x04, 0x04, 0x60, 0x2e, 0x2a, 0x15, 0x04, 0x05, 0x60, 0x2e, 0xb6, 0x00, 0x9b, 0x36, 0x06, 0x2c, 0xb6, 0x00, 0x9c, 0x15, 0x05, 0x9f, 0x00, 0x05, 0x03, 0xac, 0x15, 0x05, 0x9a, 0x00]
def lwk_12 : List UInt8 := [0x10, 0x2d, 0xb4, 0x00, 0x0d, 0x15, 0x06, 0x85, 0x94, 0x99, 0x00, 0x05, 0x03, 0xac, 0xa7, 0x05, 0x87, 0x2b, 0x2a, 0x15, 0x04, 0x04, 0x60, 0x2e, 0x2a, 0x15, 0x04, 0x05, 0x60, 0x2e, 0x2d, 0xb8]
def lwk_13 : List UInt8 := [0x00, 0xa0, 0x36, 0x05, 0x2c, 0x2a, 0x15, 0x04, 0x04, 0x60, 0x2e, 0x2a, 0x15, 0x04, 0x05, 0x60, 0x2e, 0xb6, 0x00, 0xa2, 0x36, 0x06, 0xa7, 0x05, 0x5f, 0x2b, 0x2a, 0x15, 0x04, 0x04, 0x60, 0x2e]
def lwk_14 : List UInt8 := [0x2a, 0x15, 0x04, 0x05, 0x60, 0x2e, 0x2a, 0x15, 0x04, 0x06, 0x60, 0x2e, 0x2d, 0xb8, 0x00, 0xa3, 0x36, 0x05, 0x2c, 0x2a, 0x15, 0x04, 0x04, 0x60, 0x2e, 0x2a, 0x15, 0x04, 0x05, 0x60, 0x2e, 0x2a]
def lwk_15 : List UInt8 := [0x15, 0x04, 0x06, 0x60, 0x2e, 0xb6, 0x00, 0xa5, 0x36, 0x06, 0xa7, 0x05, 0x2b, 0x2b, 0x2a, 0x15, 0x04, 0x04, 0x60, 0x2e, 0x2a, 0x15, 0x04, 0x05, 0x60, 0x2e, 0x2a, 0x15, 0x04, 0x06, 0x60, 0x2e]
def lwk_16 : List UInt8 := [0x2d, 0xb8, 0x00, 0xa6, 0x36, 0x05, 0x2c, 0x2a, 0x15, 0x04, 0x04, 0x60, 0x2e, 0x2a, 0x15, 0x04, 0x05, 0x60, 0x2e, 0x2a, 0x15, 0x04, 0x06, 0x60, 0x2e, 0xb6, 0x00, 0xa8, 0x36, 0x06, 0xa7, 0x04]
def lwk_17 : List UInt8 := [0xf7, 0x2b, 0x2a, 0x15, 0x04, 0x04, 0x60, 0x2e, 0x2a, 0x15, 0x04, 0x05, 0x60, 0x2e, 0x2a, 0x15, 0x04, 0x06, 0x60, 0x2e, 0x2d, 0xb8, 0x00, 0xa9, 0x36, 0x05, 0x2c, 0x2a, 0x15, 0x04, 0x04, 0x60]
def lwk_18 : List UInt8 := [0x2e, 0x2a, 0x15, 0x04, 0x05, 0x60, 0x2e, 0x2a, 0x15, 0x04, 0x06, 0x60, 0x2e, 0xb6, 0x00, 0xab, 0x36, 0x06, 0xa7, 0x04, 0xc3, 0x2b, 0x2a, 0x15, 0x04, 0x04, 0x60, 0x2e, 0x2a, 0x15, 0x04, 0x05]
def lwk_19 : List UInt8 := [0x60, 0x2e, 0x2a, 0x15, 0x04, 0x06, 0x60, 0x2e, 0x2d, 0xb8, 0x00, 0xac, 0x36, 0x05, 0x2c, 0x2a, 0x15, 0x04, 0x04, 0x60, 0x2e, 0x2a, 0x15, 0x04, 0x05, 0x60, 0x2e, 0x2a, 0x15, 0x04, 0x06, 0x60]
def lwk_20 : List UInt8 := [0x2e, 0xb6, 0x00, 0xae, 0x36, 0x06, 0xa7, 0x04, 0x8f, 0x2b, 0x2a, 0x15, 0x04, 0x04, 0x60, 0x2e, 0x2d, 0xb8, 0x00, 0xaf, 0x36, 0x05, 0x2c, 0x2a, 0x15, 0x04, 0x04, 0x60, 0x2e, 0xb6, 0x00, 0xb2]
def lwk_21 : List UInt8 := [0x36, 0x06, 0xa7, 0x04, 0x73, 0x2b, 0x2a, 0x15, 0x04, 0x04, 0x60, 0x2e, 0x2d, 0xb8, 0x00, 0xb3, 0x36, 0x05, 0x2c, 0x2a, 0x15, 0x04, 0x04, 0x60, 0x2e, 0xb6, 0x00, 0xb5, 0x36, 0x06, 0xa7, 0x04]
def lwk_22 : List UInt8 := [0x57, 0x2b, 0x2a, 0x15, 0x04, 0x04, 0x60, 0x2e, 0x2a, 0x15, 0x04, 0x05, 0x60, 0x2e, 0x2d, 0xb8, 0x00, 0xb6, 0x36, 0x05, 0x2c, 0x2a, 0x15, 0x04, 0x04, 0x60, 0x2e, 0x2a, 0x15, 0x04, 0x05, 0x60]
def lwk_23 : List UInt8 := [0x2e, 0xb6, 0x00, 0xb8, 0x36, 0x06, 0xa7, 0x04, 0x2f, 0x2b, 0x2a, 0x15, 0x04, 0x04, 0x60, 0x2e, 0x2a, 0x15, 0x04, 0x05, 0x60, 0x2e, 0x2a, 0x15, 0x04, 0x06, 0x60, 0x2e, 0x2d, 0xb8, 0x00, 0xb9]
def lwk_24 : List UInt8 := [0x36, 0x05, 0x2c, 0x2a, 0x15, 0x04, 0x04, 0x60, 0x2e, 0x2a, 0x15, 0x04, 0x05, 0x60, 0x2e, 0x2a, 0x15, 0x04, 0x06, 0x60, 0x2e, 0xb6, 0x00, 0xbb, 0x36, 0x06, 0xa7, 0x03, 0xfb, 0x2b, 0x2a, 0x15]
def lwk_25 : List UInt8 := [0x04, 0x04, 0x60, 0x2e, 0x2d, 0xb8, 0x00, 0xbc, 0x36, 0x05, 0x2c, 0x2a, 0x15, 0x04, 0x04, 0x60, 0x2e, 0xb6, 0x00, 0xbe, 0x3a, 0x06, 0xa7, 0x03, 0xdf, 0x2b, 0x2a, 0x15, 0x04, 0x04, 0x60, 0x2e]
def lwk_26 : List UInt8 := [0x2a, 0x15, 0x04, 0x05, 0x60, 0x2e, 0x2d, 0xb8, 0x00, 0xbf, 0x36, 0x05, 0x2c, 0x2a, 0x15, 0x04, 0x04, 0x60, 0x2e, 0x2a, 0x15, 0x04, 0x05, 0x60, 0x2e, 0xb6, 0x00, 0xc1, 0x36, 0x06, 0xa7, 0x03]
def lwk_27 : List UInt8 := [0xb7, 0x2b, 0x2a, 0x15, 0x04, 0x04, 0x60, 0x2e, 0x2a, 0x15, 0x04, 0x05, 0x60, 0x2e, 0x2d, 0xb8, 0x00, 0xc2, 0x36, 0x05, 0x2c, 0x2a, 0x15, 0x04, 0x04, 0x60, 0x2e, 0x2a, 0x15, 0x04, 0x05, 0x60]
def lwk_28 : List UInt8 := [0x2e, 0xb6, 0x00, 0xc4, 0x36, 0x06, 0xa7, 0x03, 0x8f, 0x2b, 0x2a, 0x15, 0x04, 0x04, 0x60, 0x2e, 0x2a, 0x15, 0x04, 0x05, 0x60, 0x2e, 0x2d, 0xb8, 0x00, 0xc5, 0x36, 0x05, 0x2c, 0x2a, 0x15, 0x04]
def lwk_29 : List UInt8 := [0x04, 0x60, 0x2e, 0x2a, 0x15, 0x04, 0x05, 0x60, 0x2e, 0xb6, 0x00, 0xc7, 0x36, 0x06, 0xa7, 0x03, 0x67, 0x2b, 0x2a, 0x15, 0x04, 0x04, 0x60, 0x2e, 0x2d, 0xb8, 0x00, 0xc8, 0x36, 0x05, 0x2c, 0x2a]
def lwk_30 : List UInt8 := [0x15, 0x04, 0x04, 0x60, 0x2e, 0xb6, 0x00, 0xca, 0x3a, 0x06, 0xa7, 0x03, 0x4b, 0x2b, 0x2a, 0x15, 0x04, 0x04, 0x60, 0x2e, 0x2a, 0x15, 0x04, 0x05, 0x60, 0x2e, 0x2d, 0xb8, 0x00, 0xcb, 0x36, 0x05]
def lwk_31 : List UInt8 := [0x2c, 0x2a, 0x15, 0x04, 0x04, 0x60, 0x2e, 0x2a, 0x15, 0x04, 0x05, 0x60, 0x2e, 0xb6, 0x00, 0xcd, 0x36, 0x06, 0xa7, 0x03, 0x23, 0x2b, 0x2a, 0x15, 0x04, 0x04, 0x60, 0x2e, 0x2a, 0x15, 0x04, 0x05]
def lwk_32 : List UInt8 := [0x60, 0x2e, 0x2a, 0x15, 0x04, 0x06, 0x60, 0x2e, 0x2d, 0xb8, 0x00, 0xce, 0x36, 0x05, 0x2c, 0x2a, 0x15, 0x04, 0x04, 0x60, 0x2e, 0x2a, 0x15, 0x04, 0x05, 0x60, 0x2e, 0x2a, 0x15, 0x04, 0x06, 0x60]
def lwk_33 : List UInt8 := [0x2e, 0xb6, 0x00, 0xd0, 0x36, 0x06, 0xa7, 0x02, 0xef, 0x2b, 0x2a, 0x15, 0x04, 0x04, 0x60, 0x2e, 0x2d, 0xb8, 0x00, 0xd1, 0x36, 0x05, 0x2c, 0x2a, 0x15, 0x04, 0x04, 0x60, 0x2e, 0xb6, 0x00, 0xd3]
def lwk_34 : List UInt8 := [0x36, 0x06, 0xa7, 0x02, 0xd3, 0x2b, 0x2a, 0x15, 0x04, 0x04, 0x60, 0x2e, 0x2d, 0xb8, 0x00, 0xd4, 0x36, 0x05, 0x2c, 0x2a, 0x15, 0x04, 0x04, 0x60, 0x2e, 0xb6, 0x00, 0xd6, 0x36, 0x06, 0xa7, 0x02]
def lwk_35 : List UInt8 := [0xb7, 0x2b, 0xb6, 0x00, 0xd7, 0x57, 0x2c, 0xb6, 0x00, 0xdb, 0x57, 0xa7, 0x02, 0xaa, 0x2b, 0x2a, 0x15, 0x04, 0x04, 0x60, 0x2e, 0x2d, 0xb8, 0x00, 0xdc, 0x36, 0x05, 0x2c, 0x2a, 0x15, 0x04, 0x04]
def lwk_36 : List UInt8 := [0x60, 0x2e, 0xb6, 0x00, 0xde, 0x36, 0x06, 0xa7, 0x02, 0x8e, 0x2b, 0x2a, 0x15, 0x04, 0x04, 0x60, 0x2e, 0x2a, 0x15, 0x04, 0x05, 0x60, 0x2e, 0x2a, 0x15, 0x04, 0x06, 0x60, 0x2e, 0x2d, 0xb8, 0x00]
def lwk_37 : List UInt8 := [0xdf, 0x36, 0x05, 0x2c, 0x2a, 0x15, 0x04, 0x04, 0x60, 0x2e, 0x2a, 0x15, 0x04, 0x05, 0x60, 0x2e, 0x2a, 0x15, 0x04, 0x06, 0x60, 0x2e, 0xb6, 0x00, 0xe1, 0x36, 0x06, 0xa7, 0x02, 0x5a, 0x2b, 0x2a]
def lwk_38 : List UInt8 := [0x15, 0x04, 0x04, 0x60, 0x2e, 0x2a, 0x15, 0x04, 0x05, 0x60, 0x2e, 0x2a, 0x15, 0x04, 0x06, 0x60, 0x2e, 0x2d, 0xb8, 0x00, 0xe2, 0x36, 0x05, 0x2c, 0x2a, 0x15, 0x04, 0x04, 0x60, 0x2e, 0x2a, 0x15]
def lwk_39 : List UInt8 := [0x04, 0x05, 0x60, 0x2e, 0x2a, 0x15, 0x04, 0x06, 0x60, 0x2e, 0xb6, 0x00, 0xe4, 0x36, 0x06, 0xa7, 0x02, 0x26, 0x2b, 0x2a, 0x15, 0x04, 0x04, 0x60, 0x2e, 0x2a, 0x15, 0x04, 0x05, 0x60, 0x2e, 0x2a]
def lwk_40 : List UInt8 := [0x15, 0x04, 0x06, 0x60, 0x2e, 0x2d, 0xb8, 0x00, 0xe5, 0x36, 0x05, 0x2c, 0x2a, 0x15, 0x04, 0x04, 0x60, 0x2e, 0x2a, 0x15, 0x04, 0x05, 0x60, 0x2e, 0x2a, 0x15, 0x04, 0x06, 0x60, 0x2e, 0xb6, 0x00]
def lwk_41 : List UInt8 := [0xe7, 0x36, 0x06, 0xa7, 0x01, 0xf2, 0x2b, 0x2a, 0x15, 0x04, 0x04, 0x60, 0x2e, 0x2d, 0xb8, 0x00, 0xe8, 0x36, 0x05, 0x2c, 0x2a, 0x15, 0x04, 0x04, 0x60, 0x2e, 0xb6, 0x00, 0xea, 0x36, 0x06, 0xa7]
def lwk_42 : List UInt8 := [0x01, 0xd6, 0x2b, 0x2a, 0x15, 0x04, 0x04, 0x60, 0x2e, 0x2a, 0x15, 0x04, 0x05, 0x60, 0x2e, 0x99, 0x00, 0x07, 0x04, 0xa7, 0x00, 0x04, 0x03, 0x2d, 0xb8, 0x00, 0xeb, 0x36, 0x05, 0x2c, 0x2a, 0x15]
def lwk_43 : List UInt8 := [0x04, 0x04, 0x60, 0x2e, 0x2a, 0x15, 0x04, 0x05, 0x60, 0x2e, 0x99, 0x00, 0x07, 0x04, 0xa7, 0x00, 0x04, 0x03, 0xb6, 0x00, 0xee, 0x36, 0x06, 0xa7, 0x01, 0x9e, 0x2b, 0x2a, 0x15, 0x04, 0x04, 0x60]
def lwk_44 : List UInt8 := [0x2e, 0x2d, 0xb8, 0x00, 0xef, 0x36, 0x05, 0x2c, 0x2a, 0x15, 0x04, 0x04, 0x60, 0x2e, 0xb6, 0x00, 0xf1, 0x36, 0x06, 0xa7, 0x01, 0x82, 0x2b, 0x2a, 0x15, 0x04, 0x04, 0x60, 0x2e, 0x2d, 0xb8, 0x00]
def lwk_45 : List UInt8 := [0xf2, 0x36, 0x05, 0x2c, 0x2a, 0x15, 0x04, 0x04, 0x60, 0x2e, 0xb6, 0x00, 0xf4, 0x3a, 0x06, 0xa7, 0x01, 0x66, 0x2b, 0x2a, 0x15, 0x04, 0x04, 0x60, 0x2e, 0x2a, 0x15, 0x04, 0x05, 0x60, 0x2e, 0x2d]
def lwk_46 : List UInt8 := [0xb8, 0x00, 0xf5, 0x36, 0x05, 0x2c, 0x2a, 0x15, 0x04, 0x04, 0x60, 0x2e, 0x2a, 0x15, 0x04, 0x05, 0x60, 0x2e, 0xb6, 0x00, 0xf7, 0x36, 0x06, 0xa7, 0x01, 0x3e, 0x2b, 0x2a, 0x15, 0x04, 0x04, 0x60]
def lwk_47 : List UInt8 := [0x2e, 0x2d, 0xb8, 0x00, 0xf8, 0x36, 0x05, 0x2c, 0x2a, 0x15, 0x04, 0x04, 0x60, 0x2e, 0xb6, 0x00, 0xfa, 0x36, 0x06, 0xa7, 0x01, 0x22, 0x2b, 0x2a, 0x15, 0x04, 0x04, 0x60, 0x2e, 0x2a, 0x15, 0x04]
def lwk_48 : List UInt8 := [0x05, 0x60, 0x2e, 0x2a, 0x15, 0x04, 0x06, 0x60, 0x2e, 0x2d, 0xb8, 0x00, 0xfb, 0x36, 0x05, 0x2c, 0x2a, 0x15, 0x04, 0x04, 0x60, 0x2e, 0x2a, 0x15, 0x04, 0x05, 0x60, 0x2e, 0x2a, 0x15, 0x04, 0x06]
def lwk_49 : List UInt8 := [0x60, 0x2e, 0xb6, 0x00, 0xfd, 0x3a, 0x06, 0xa7, 0x00, 0xee, 0x2b, 0x2a, 0x15, 0x04, 0x04, 0x60, 0x2e, 0x2a, 0x15, 0x04, 0x05, 0x60, 0x2e, 0x2a, 0x15, 0x04, 0x06, 0x60, 0x2e, 0x2a, 0x15, 0x04]
def lwk_50 : List UInt8 := [0x07, 0x60, 0x2e, 0x2d, 0xb8, 0x00, 0xfe, 0x36, 0x05, 0x2c, 0x2a, 0x15, 0x04, 0x04, 0x60, 0x2e, 0x2a, 0x15, 0x04, 0x05, 0x60, 0x2e, 0x2a, 0x15, 0x04, 0x06, 0x60, 0x2e, 0x2a, 0x15, 0x04, 0x07]
def lwk_51 : List UInt8 := [0x60, 0x2e, 0xb6, 0x01, 0x01, 0x36, 0x06, 0xa7, 0x00, 0xae, 0x2b, 0x2a, 0x15, 0x04, 0x04, 0x60, 0x2e, 0x2a, 0x15, 0x04, 0x05, 0x60, 0x2e, 0x2a, 0x15, 0x04, 0x06, 0x60, 0x2e, 0x2d, 0xb8, 0x01]
def lwk_52 : List UInt8 := [0x02, 0x36, 0x05, 0x2c, 0x2a, 0x15, 0x04, 0x04, 0x60, 0x2e, 0x2a, 0x15, 0x04, 0x05, 0x60, 0x2e, 0x2a, 0x15, 0x04, 0x06, 0x60, 0x2e, 0xb6, 0x01, 0x04, 0x36, 0x06, 0xa7, 0x00, 0x7a, 0x2b, 0xb6]
def lwk_53 : List UInt8 := [0x01, 0x05, 0x57, 0x2c, 0xb6, 0x01, 0x08, 0x57, 0xa7, 0x00, 0x6d, 0x2b, 0xb6, 0x01, 0x09, 0x57, 0x2c, 0xb6, 0x01, 0x0c, 0x57, 0xa7, 0x00, 0x60, 0x2b, 0xb6, 0x01, 0x0d, 0x57, 0x2c, 0xb6, 0x01]
def lwk_54 : List UInt8 := [0x10, 0x57, 0xa7, 0x00, 0x53, 0x2b, 0xb6, 0x01, 0x11, 0x57, 0x2c, 0xb6, 0x01, 0x14, 0x57, 0xa7, 0x00, 0x46, 0x2b, 0xb6, 0x01, 0x15, 0x57, 0x2c, 0xb6, 0x01, 0x18, 0x57, 0xa7, 0x00, 0x39, 0x2b]
def lwk_55 : List UInt8 := [0x2a, 0x15, 0x04, 0x04, 0x60, 0x2e, 0x2d, 0xb8, 0x01, 0x19, 0x36, 0x05, 0x2c, 0x2a, 0x15, 0x04, 0x04, 0x60, 0x2e, 0xb6, 0x01, 0x1b, 0x36, 0x06, 0xa7, 0x00, 0x1d, 0x2b, 0xb6, 0x01, 0x1c, 0x57]
def lwk_56 : List UInt8 := [0x2c, 0xb6, 0x01, 0x20, 0x57, 0xa7, 0x00, 0x10, 0x2b, 0xb6, 0x01, 0x21, 0x58, 0x2c, 0xb6, 0x01, 0x25, 0x58, 0xa7, 0x00, 0x03, 0x84, 0x04, 0x05, 0xa7, 0xf9, 0x03, 0x04, 0xac]
def lwt_56 : List UInt8 := lwk_56
def lwt_55 : List UInt8 := lwk_55 ++ lwt_56
def lwt_54 : List UInt8 := lwk_54 ++ lwt_55
def lwt_53 : List UInt8 := lwk_53 ++ lwt_54
def lwt_52 : List UInt8 := lwk_52 ++ lwt_53
def lwt_51 : List UInt8 := lwk_51 ++ lwt_52
def lwt_50 : List UInt8 := lwk_50 ++ lwt_51
def lwt_49 : List UInt8 := lwk_49 ++ lwt_50
def lwt_48 : List UInt8 := lwk_48 ++ lwt_49
def lwt_47 : List UInt8 := lwk_47 ++ lwt_48
def lwt_46 : List UInt8 := lwk_46 ++ lwt_47
def lwt_45 : List UInt8 := lwk_45 ++ lwt_46
def lwt_44 : List UInt8 := lwk_44 ++ lwt_45
def lwt_43 : List UInt8 := lwk_43 ++ lwt_44
def lwt_42 : List UInt8 := lwk_42 ++ lwt_43
def lwt_41 : List UInt8 := lwk_41 ++ lwt_42
def lwt_40 : List UInt8 := lwk_40 ++ lwt_41
def lwt_39 : List UInt8 := lwk_39 ++ lwt_40
def lwt_38 : List UInt8 := lwk_38 ++ lwt_39
def lwt_37 : List UInt8 := lwk_37 ++ lwt_38
def lwt_36 : List UInt8 := lwk_36 ++ lwt_37
def lwt_35 : List UInt8 := lwk_35 ++ lwt_36
def lwt_34 : List UInt8 := lwk_34 ++ lwt_35
def lwt_33 : List UInt8 := lwk_33 ++ lwt_34
def lwt_32 : List UInt8 := lwk_32 ++ lwt_33
def lwt_31 : List UInt8 := lwk_31 ++ lwt_32
def lwt_30 : List UInt8 := lwk_30 ++ lwt_31
def lwt_29 : List UInt8 := lwk_29 ++ lwt_30
def lwt_28 : List UInt8 := lwk_28 ++ lwt_29
def lwt_27 : List UInt8 := lwk_27 ++ lwt_28
def lwt_26 : List UInt8 := lwk_26 ++ lwt_27
def lwt_25 : List UInt8 := lwk_25 ++ lwt_26
def lwt_24 : List UInt8 := lwk_24 ++ lwt_25
def lwt_23 : List UInt8 := lwk_23 ++ lwt_24
def lwt_22 : List UInt8 := lwk_22 ++ lwt_23
def lwt_21 : List UInt8 := lwk_21 ++ lwt_22
def lwt_20 : List UInt8 := lwk_20 ++ lwt_21
def lwt_19 : List UInt8 := lwk_19 ++ lwt_20
def lwt_18 : List UInt8 := lwk_18 ++ lwt_19
def lwt_17 : List UInt8 := lwk_17 ++ lwt_18
def lwt_16 : List UInt8 := lwk_16 ++ lwt_17
def lwt_15 : List UInt8 := lwk_15 ++ lwt_16
def lwt_14 : List UInt8 := lwk_14 ++ lwt_15
def lwt_13 : List UInt8 := lwk_13 ++ lwt_14
def lwt_12 : List UInt8 := lwk_12 ++ lwt_13
def lwt_11 : List UInt8 := lwk_11 ++ lwt_12
def lwt_10 : List UInt8 := lwk_10 ++ lwt_11
def lwt_9 : List UInt8 := lwk_9 ++ lwt_10
def lwt_8 : List UInt8 := lwk_8 ++ lwt_9
def lwt_7 : List UInt8 := lwk_7 ++ lwt_8
def lwt_6 : List UInt8 := lwk_6 ++ lwt_7
def lwt_5 : List UInt8 := lwk_5 ++ lwt_6
def lwt_4 : List UInt8 := lwk_4 ++ lwt_5
def lwt_3 : List UInt8 := lwk_3 ++ lwt_4
def lwt_2 : List UInt8 := lwk_2 ++ lwt_3
def lwt_1 : List UInt8 := lwk_1 ++ lwt_2
def lwt_0 : List UInt8 := lwk_0 ++ lwt_1
theorem lwt_e : cL_law.data.toList = lwt_0 := by decide +kernel
theorem lwp_0 {i : Nat} {b : UInt8} (h : lwt_0[i]? = some b) : cL_law.data.toList[0 + i]? = some b := by
  rw [lwt_e, Nat.zero_add]
  exact h
theorem lwp_1 {i : Nat} {b : UInt8} (h : lwt_1[i]? = some b) : cL_law.data.toList[32 + i]? = some b := by
  have e : 32 + i = 0 + (32 + i) := by omega
  rw [e]
  refine lwp_0 ?_
  show (lwk_0 ++ lwt_1)[32 + i]? = some b
  rw [List.getElem?_append_right (show lwk_0.length ≤ 32 + i from Nat.le_add_right 32 i), show 32 + i - lwk_0.length = i from Nat.add_sub_cancel_left 32 i]
  exact h
theorem lwp_2 {i : Nat} {b : UInt8} (h : lwt_2[i]? = some b) : cL_law.data.toList[64 + i]? = some b := by
  have e : 64 + i = 32 + (32 + i) := by omega
  rw [e]
  refine lwp_1 ?_
  show (lwk_1 ++ lwt_2)[32 + i]? = some b
  rw [List.getElem?_append_right (show lwk_1.length ≤ 32 + i from Nat.le_add_right 32 i), show 32 + i - lwk_1.length = i from Nat.add_sub_cancel_left 32 i]
  exact h
theorem lwp_3 {i : Nat} {b : UInt8} (h : lwt_3[i]? = some b) : cL_law.data.toList[96 + i]? = some b := by
  have e : 96 + i = 64 + (32 + i) := by omega
  rw [e]
  refine lwp_2 ?_
  show (lwk_2 ++ lwt_3)[32 + i]? = some b
  rw [List.getElem?_append_right (show lwk_2.length ≤ 32 + i from Nat.le_add_right 32 i), show 32 + i - lwk_2.length = i from Nat.add_sub_cancel_left 32 i]
  exact h
theorem lwp_4 {i : Nat} {b : UInt8} (h : lwt_4[i]? = some b) : cL_law.data.toList[128 + i]? = some b := by
  have e : 128 + i = 96 + (32 + i) := by omega
  rw [e]
  refine lwp_3 ?_
  show (lwk_3 ++ lwt_4)[32 + i]? = some b
  rw [List.getElem?_append_right (show lwk_3.length ≤ 32 + i from Nat.le_add_right 32 i), show 32 + i - lwk_3.length = i from Nat.add_sub_cancel_left 32 i]
  exact h
theorem lwp_5 {i : Nat} {b : UInt8} (h : lwt_5[i]? = some b) : cL_law.data.toList[160 + i]? = some b := by
  have e : 160 + i = 128 + (32 + i) := by omega
  rw [e]
  refine lwp_4 ?_
  show (lwk_4 ++ lwt_5)[32 + i]? = some b
  rw [List.getElem?_append_right (show lwk_4.length ≤ 32 + i from Nat.le_add_right 32 i), show 32 + i - lwk_4.length = i from Nat.add_sub_cancel_left 32 i]
  exact h
theorem lwp_6 {i : Nat} {b : UInt8} (h : lwt_6[i]? = some b) : cL_law.data.toList[192 + i]? = some b := by
  have e : 192 + i = 160 + (32 + i) := by omega
  rw [e]
  refine lwp_5 ?_
  show (lwk_5 ++ lwt_6)[32 + i]? = some b
  rw [List.getElem?_append_right (show lwk_5.length ≤ 32 + i from Nat.le_add_right 32 i), show 32 + i - lwk_5.length = i from Nat.add_sub_cancel_left 32 i]
  exact h
theorem lwp_7 {i : Nat} {b : UInt8} (h : lwt_7[i]? = some b) : cL_law.data.toList[224 + i]? = some b := by
  have e : 224 + i = 192 + (32 + i) := by omega
  rw [e]
  refine lwp_6 ?_
  show (lwk_6 ++ lwt_7)[32 + i]? = some b
  rw [List.getElem?_append_right (show lwk_6.length ≤ 32 + i from Nat.le_add_right 32 i), show 32 + i - lwk_6.length = i from Nat.add_sub_cancel_left 32 i]
  exact h
theorem lwp_8 {i : Nat} {b : UInt8} (h : lwt_8[i]? = some b) : cL_law.data.toList[256 + i]? = some b := by
  have e : 256 + i = 224 + (32 + i) := by omega
  rw [e]
  refine lwp_7 ?_
  show (lwk_7 ++ lwt_8)[32 + i]? = some b
  rw [List.getElem?_append_right (show lwk_7.length ≤ 32 + i from Nat.le_add_right 32 i), show 32 + i - lwk_7.length = i from Nat.add_sub_cancel_left 32 i]
  exact h
theorem lwp_9 {i : Nat} {b : UInt8} (h : lwt_9[i]? = some b) : cL_law.data.toList[288 + i]? = some b := by
  have e : 288 + i = 256 + (32 + i) := by omega
  rw [e]
  refine lwp_8 ?_
  show (lwk_8 ++ lwt_9)[32 + i]? = some b
  rw [List.getElem?_append_right (show lwk_8.length ≤ 32 + i from Nat.le_add_right 32 i), show 32 + i - lwk_8.length = i from Nat.add_sub_cancel_left 32 i]
  exact h
theorem lwp_10 {i : Nat} {b : UInt8} (h : lwt_10[i]? = some b) : cL_law.data.toList[320 + i]? = some b := by
  have e : 320 + i = 288 + (32 + i) := by omega
  rw [e]
  refine lwp_9 ?_
  show (lwk_9 ++ lwt_10)[32 + i]? = some b
  rw [List.getElem?_append_right (show lwk_9.length ≤ 32 + i from Nat.le_add_right 32 i), show 32 + i - lwk_9.length = i from Nat.add_sub_cancel_left 32 i]
  exact h
theorem lwp_11 {i : Nat} {b : UInt8} (h : lwt_11[i]? = some b) : cL_law.data.toList[352 + i]? = some b := by
  have e : 352 + i = 320 + (32 + i) := by omega
  rw [e]
  refine lwp_10 ?_
  show (lwk_10 ++ lwt_11)[32 + i]? = some b
  rw [List.getElem?_append_right (show lwk_10.length ≤ 32 + i from Nat.le_add_right 32 i), show 32 + i - lwk_10.length = i from Nat.add_sub_cancel_left 32 i]
  exact h
theorem lwp_12 {i : Nat} {b : UInt8} (h : lwt_12[i]? = some b) : cL_law.data.toList[384 + i]? = some b := by
  have e : 384 + i = 352 + (32 + i) := by omega
  rw [e]
  refine lwp_11 ?_
  show (lwk_11 ++ lwt_12)[32 + i]? = some b
  rw [List.getElem?_append_right (show lwk_11.length ≤ 32 + i from Nat.le_add_right 32 i), show 32 + i - lwk_11.length = i from Nat.add_sub_cancel_left 32 i]
  exact h
theorem lwp_13 {i : Nat} {b : UInt8} (h : lwt_13[i]? = some b) : cL_law.data.toList[416 + i]? = some b := by
  have e : 416 + i = 384 + (32 + i) := by omega
  rw [e]
  refine lwp_12 ?_
  show (lwk_12 ++ lwt_13)[32 + i]? = some b
  rw [List.getElem?_append_right (show lwk_12.length ≤ 32 + i from Nat.le_add_right 32 i), show 32 + i - lwk_12.length = i from Nat.add_sub_cancel_left 32 i]
  exact h
theorem lwp_14 {i : Nat} {b : UInt8} (h : lwt_14[i]? = some b) : cL_law.data.toList[448 + i]? = some b := by
  have e : 448 + i = 416 + (32 + i) := by omega
  rw [e]
  refine lwp_13 ?_
  show (lwk_13 ++ lwt_14)[32 + i]? = some b
  rw [List.getElem?_append_right (show lwk_13.length ≤ 32 + i from Nat.le_add_right 32 i), show 32 + i - lwk_13.length = i from Nat.add_sub_cancel_left 32 i]
  exact h
theorem lwp_15 {i : Nat} {b : UInt8} (h : lwt_15[i]? = some b) : cL_law.data.toList[480 + i]? = some b := by
  have e : 480 + i = 448 + (32 + i) := by omega
  rw [e]
  refine lwp_14 ?_
  show (lwk_14 ++ lwt_15)[32 + i]? = some b
  rw [List.getElem?_append_right (show lwk_14.length ≤ 32 + i from Nat.le_add_right 32 i), show 32 + i - lwk_14.length = i from Nat.add_sub_cancel_left 32 i]
  exact h
theorem lwp_16 {i : Nat} {b : UInt8} (h : lwt_16[i]? = some b) : cL_law.data.toList[512 + i]? = some b := by
  have e : 512 + i = 480 + (32 + i) := by omega
  rw [e]
  refine lwp_15 ?_
  show (lwk_15 ++ lwt_16)[32 + i]? = some b
  rw [List.getElem?_append_right (show lwk_15.length ≤ 32 + i from Nat.le_add_right 32 i), show 32 + i - lwk_15.length = i from Nat.add_sub_cancel_left 32 i]
  exact h
theorem lwp_17 {i : Nat} {b : UInt8} (h : lwt_17[i]? = some b) : cL_law.data.toList[544 + i]? = some b := by
  have e : 544 + i = 512 + (32 + i) := by omega
  rw [e]
  refine lwp_16 ?_
  show (lwk_16 ++ lwt_17)[32 + i]? = some b
  rw [List.getElem?_append_right (show lwk_16.length ≤ 32 + i from Nat.le_add_right 32 i), show 32 + i - lwk_16.length = i from Nat.add_sub_cancel_left 32 i]
  exact h
theorem lwp_18 {i : Nat} {b : UInt8} (h : lwt_18[i]? = some b) : cL_law.data.toList[576 + i]? = some b := by
  have e : 576 + i = 544 + (32 + i) := by omega
  rw [e]
  refine lwp_17 ?_
  show (lwk_17 ++ lwt_18)[32 + i]? = some b
  rw [List.getElem?_append_right (show lwk_17.length ≤ 32 + i from Nat.le_add_right 32 i), show 32 + i - lwk_17.length = i from Nat.add_sub_cancel_left 32 i]
  exact h
theorem lwp_19 {i : Nat} {b : UInt8} (h : lwt_19[i]? = some b) : cL_law.data.toList[608 + i]? = some b := by
  have e : 608 + i = 576 + (32 + i) := by omega
  rw [e]
  refine lwp_18 ?_
  show (lwk_18 ++ lwt_19)[32 + i]? = some b
  rw [List.getElem?_append_right (show lwk_18.length ≤ 32 + i from Nat.le_add_right 32 i), show 32 + i - lwk_18.length = i from Nat.add_sub_cancel_left 32 i]
  exact h
theorem lwp_20 {i : Nat} {b : UInt8} (h : lwt_20[i]? = some b) : cL_law.data.toList[640 + i]? = some b := by
  have e : 640 + i = 608 + (32 + i) := by omega
  rw [e]
  refine lwp_19 ?_
  show (lwk_19 ++ lwt_20)[32 + i]? = some b
  rw [List.getElem?_append_right (show lwk_19.length ≤ 32 + i from Nat.le_add_right 32 i), show 32 + i - lwk_19.length = i from Nat.add_sub_cancel_left 32 i]
  exact h
theorem lwp_21 {i : Nat} {b : UInt8} (h : lwt_21[i]? = some b) : cL_law.data.toList[672 + i]? = some b := by
  have e : 672 + i = 640 + (32 + i) := by omega
  rw [e]
  refine lwp_20 ?_
  show (lwk_20 ++ lwt_21)[32 + i]? = some b
  rw [List.getElem?_append_right (show lwk_20.length ≤ 32 + i from Nat.le_add_right 32 i), show 32 + i - lwk_20.length = i from Nat.add_sub_cancel_left 32 i]
  exact h
theorem lwp_22 {i : Nat} {b : UInt8} (h : lwt_22[i]? = some b) : cL_law.data.toList[704 + i]? = some b := by
  have e : 704 + i = 672 + (32 + i) := by omega
  rw [e]
  refine lwp_21 ?_
  show (lwk_21 ++ lwt_22)[32 + i]? = some b
  rw [List.getElem?_append_right (show lwk_21.length ≤ 32 + i from Nat.le_add_right 32 i), show 32 + i - lwk_21.length = i from Nat.add_sub_cancel_left 32 i]
  exact h
theorem lwp_23 {i : Nat} {b : UInt8} (h : lwt_23[i]? = some b) : cL_law.data.toList[736 + i]? = some b := by
  have e : 736 + i = 704 + (32 + i) := by omega
  rw [e]
  refine lwp_22 ?_
  show (lwk_22 ++ lwt_23)[32 + i]? = some b
  rw [List.getElem?_append_right (show lwk_22.length ≤ 32 + i from Nat.le_add_right 32 i), show 32 + i - lwk_22.length = i from Nat.add_sub_cancel_left 32 i]
  exact h
theorem lwp_24 {i : Nat} {b : UInt8} (h : lwt_24[i]? = some b) : cL_law.data.toList[768 + i]? = some b := by
  have e : 768 + i = 736 + (32 + i) := by omega
  rw [e]
  refine lwp_23 ?_
  show (lwk_23 ++ lwt_24)[32 + i]? = some b
  rw [List.getElem?_append_right (show lwk_23.length ≤ 32 + i from Nat.le_add_right 32 i), show 32 + i - lwk_23.length = i from Nat.add_sub_cancel_left 32 i]
  exact h
theorem lwp_25 {i : Nat} {b : UInt8} (h : lwt_25[i]? = some b) : cL_law.data.toList[800 + i]? = some b := by
  have e : 800 + i = 768 + (32 + i) := by omega
  rw [e]
  refine lwp_24 ?_
  show (lwk_24 ++ lwt_25)[32 + i]? = some b
  rw [List.getElem?_append_right (show lwk_24.length ≤ 32 + i from Nat.le_add_right 32 i), show 32 + i - lwk_24.length = i from Nat.add_sub_cancel_left 32 i]
  exact h
theorem lwp_26 {i : Nat} {b : UInt8} (h : lwt_26[i]? = some b) : cL_law.data.toList[832 + i]? = some b := by
  have e : 832 + i = 800 + (32 + i) := by omega
  rw [e]
  refine lwp_25 ?_
  show (lwk_25 ++ lwt_26)[32 + i]? = some b
  rw [List.getElem?_append_right (show lwk_25.length ≤ 32 + i from Nat.le_add_right 32 i), show 32 + i - lwk_25.length = i from Nat.add_sub_cancel_left 32 i]
  exact h
theorem lwp_27 {i : Nat} {b : UInt8} (h : lwt_27[i]? = some b) : cL_law.data.toList[864 + i]? = some b := by
  have e : 864 + i = 832 + (32 + i) := by omega
  rw [e]
  refine lwp_26 ?_
  show (lwk_26 ++ lwt_27)[32 + i]? = some b
  rw [List.getElem?_append_right (show lwk_26.length ≤ 32 + i from Nat.le_add_right 32 i), show 32 + i - lwk_26.length = i from Nat.add_sub_cancel_left 32 i]
  exact h
theorem lwp_28 {i : Nat} {b : UInt8} (h : lwt_28[i]? = some b) : cL_law.data.toList[896 + i]? = some b := by
  have e : 896 + i = 864 + (32 + i) := by omega
  rw [e]
  refine lwp_27 ?_
  show (lwk_27 ++ lwt_28)[32 + i]? = some b
  rw [List.getElem?_append_right (show lwk_27.length ≤ 32 + i from Nat.le_add_right 32 i), show 32 + i - lwk_27.length = i from Nat.add_sub_cancel_left 32 i]
  exact h
theorem lwp_29 {i : Nat} {b : UInt8} (h : lwt_29[i]? = some b) : cL_law.data.toList[928 + i]? = some b := by
  have e : 928 + i = 896 + (32 + i) := by omega
  rw [e]
  refine lwp_28 ?_
  show (lwk_28 ++ lwt_29)[32 + i]? = some b
  rw [List.getElem?_append_right (show lwk_28.length ≤ 32 + i from Nat.le_add_right 32 i), show 32 + i - lwk_28.length = i from Nat.add_sub_cancel_left 32 i]
  exact h
theorem lwp_30 {i : Nat} {b : UInt8} (h : lwt_30[i]? = some b) : cL_law.data.toList[960 + i]? = some b := by
  have e : 960 + i = 928 + (32 + i) := by omega
  rw [e]
  refine lwp_29 ?_
  show (lwk_29 ++ lwt_30)[32 + i]? = some b
  rw [List.getElem?_append_right (show lwk_29.length ≤ 32 + i from Nat.le_add_right 32 i), show 32 + i - lwk_29.length = i from Nat.add_sub_cancel_left 32 i]
  exact h
theorem lwp_31 {i : Nat} {b : UInt8} (h : lwt_31[i]? = some b) : cL_law.data.toList[992 + i]? = some b := by
  have e : 992 + i = 960 + (32 + i) := by omega
  rw [e]
  refine lwp_30 ?_
  show (lwk_30 ++ lwt_31)[32 + i]? = some b
  rw [List.getElem?_append_right (show lwk_30.length ≤ 32 + i from Nat.le_add_right 32 i), show 32 + i - lwk_30.length = i from Nat.add_sub_cancel_left 32 i]
  exact h
theorem lwp_32 {i : Nat} {b : UInt8} (h : lwt_32[i]? = some b) : cL_law.data.toList[1024 + i]? = some b := by
  have e : 1024 + i = 992 + (32 + i) := by omega
  rw [e]
  refine lwp_31 ?_
  show (lwk_31 ++ lwt_32)[32 + i]? = some b
  rw [List.getElem?_append_right (show lwk_31.length ≤ 32 + i from Nat.le_add_right 32 i), show 32 + i - lwk_31.length = i from Nat.add_sub_cancel_left 32 i]
  exact h
theorem lwp_33 {i : Nat} {b : UInt8} (h : lwt_33[i]? = some b) : cL_law.data.toList[1056 + i]? = some b := by
  have e : 1056 + i = 1024 + (32 + i) := by omega
  rw [e]
  refine lwp_32 ?_
  show (lwk_32 ++ lwt_33)[32 + i]? = some b
  rw [List.getElem?_append_right (show lwk_32.length ≤ 32 + i from Nat.le_add_right 32 i), show 32 + i - lwk_32.length = i from Nat.add_sub_cancel_left 32 i]
  exact h
theorem lwp_34 {i : Nat} {b : UInt8} (h : lwt_34[i]? = some b) : cL_law.data.toList[1088 + i]? = some b := by
  have e : 1088 + i = 1056 + (32 + i) := by omega
  rw [e]
  refine lwp_33 ?_
  show (lwk_33 ++ lwt_34)[32 + i]? = some b
  rw [List.getElem?_append_right (show lwk_33.length ≤ 32 + i from Nat.le_add_right 32 i), show 32 + i - lwk_33.length = i from Nat.add_sub_cancel_left 32 i]
  exact h
theorem lwp_35 {i : Nat} {b : UInt8} (h : lwt_35[i]? = some b) : cL_law.data.toList[1120 + i]? = some b := by
  have e : 1120 + i = 1088 + (32 + i) := by omega
  rw [e]
  refine lwp_34 ?_
  show (lwk_34 ++ lwt_35)[32 + i]? = some b
  rw [List.getElem?_append_right (show lwk_34.length ≤ 32 + i from Nat.le_add_right 32 i), show 32 + i - lwk_34.length = i from Nat.add_sub_cancel_left 32 i]
  exact h
theorem lwp_36 {i : Nat} {b : UInt8} (h : lwt_36[i]? = some b) : cL_law.data.toList[1152 + i]? = some b := by
  have e : 1152 + i = 1120 + (32 + i) := by omega
  rw [e]
  refine lwp_35 ?_
  show (lwk_35 ++ lwt_36)[32 + i]? = some b
  rw [List.getElem?_append_right (show lwk_35.length ≤ 32 + i from Nat.le_add_right 32 i), show 32 + i - lwk_35.length = i from Nat.add_sub_cancel_left 32 i]
  exact h
theorem lwp_37 {i : Nat} {b : UInt8} (h : lwt_37[i]? = some b) : cL_law.data.toList[1184 + i]? = some b := by
  have e : 1184 + i = 1152 + (32 + i) := by omega
  rw [e]
  refine lwp_36 ?_
  show (lwk_36 ++ lwt_37)[32 + i]? = some b
  rw [List.getElem?_append_right (show lwk_36.length ≤ 32 + i from Nat.le_add_right 32 i), show 32 + i - lwk_36.length = i from Nat.add_sub_cancel_left 32 i]
  exact h
theorem lwp_38 {i : Nat} {b : UInt8} (h : lwt_38[i]? = some b) : cL_law.data.toList[1216 + i]? = some b := by
  have e : 1216 + i = 1184 + (32 + i) := by omega
  rw [e]
  refine lwp_37 ?_
  show (lwk_37 ++ lwt_38)[32 + i]? = some b
  rw [List.getElem?_append_right (show lwk_37.length ≤ 32 + i from Nat.le_add_right 32 i), show 32 + i - lwk_37.length = i from Nat.add_sub_cancel_left 32 i]
  exact h
theorem lwp_39 {i : Nat} {b : UInt8} (h : lwt_39[i]? = some b) : cL_law.data.toList[1248 + i]? = some b := by
  have e : 1248 + i = 1216 + (32 + i) := by omega
  rw [e]
  refine lwp_38 ?_
  show (lwk_38 ++ lwt_39)[32 + i]? = some b
  rw [List.getElem?_append_right (show lwk_38.length ≤ 32 + i from Nat.le_add_right 32 i), show 32 + i - lwk_38.length = i from Nat.add_sub_cancel_left 32 i]
  exact h
theorem lwp_40 {i : Nat} {b : UInt8} (h : lwt_40[i]? = some b) : cL_law.data.toList[1280 + i]? = some b := by
  have e : 1280 + i = 1248 + (32 + i) := by omega
  rw [e]
  refine lwp_39 ?_
  show (lwk_39 ++ lwt_40)[32 + i]? = some b
  rw [List.getElem?_append_right (show lwk_39.length ≤ 32 + i from Nat.le_add_right 32 i), show 32 + i - lwk_39.length = i from Nat.add_sub_cancel_left 32 i]
  exact h
theorem lwp_41 {i : Nat} {b : UInt8} (h : lwt_41[i]? = some b) : cL_law.data.toList[1312 + i]? = some b := by
  have e : 1312 + i = 1280 + (32 + i) := by omega
  rw [e]
  refine lwp_40 ?_
  show (lwk_40 ++ lwt_41)[32 + i]? = some b
  rw [List.getElem?_append_right (show lwk_40.length ≤ 32 + i from Nat.le_add_right 32 i), show 32 + i - lwk_40.length = i from Nat.add_sub_cancel_left 32 i]
  exact h
theorem lwp_42 {i : Nat} {b : UInt8} (h : lwt_42[i]? = some b) : cL_law.data.toList[1344 + i]? = some b := by
  have e : 1344 + i = 1312 + (32 + i) := by omega
  rw [e]
  refine lwp_41 ?_
  show (lwk_41 ++ lwt_42)[32 + i]? = some b
  rw [List.getElem?_append_right (show lwk_41.length ≤ 32 + i from Nat.le_add_right 32 i), show 32 + i - lwk_41.length = i from Nat.add_sub_cancel_left 32 i]
  exact h
theorem lwp_43 {i : Nat} {b : UInt8} (h : lwt_43[i]? = some b) : cL_law.data.toList[1376 + i]? = some b := by
  have e : 1376 + i = 1344 + (32 + i) := by omega
  rw [e]
  refine lwp_42 ?_
  show (lwk_42 ++ lwt_43)[32 + i]? = some b
  rw [List.getElem?_append_right (show lwk_42.length ≤ 32 + i from Nat.le_add_right 32 i), show 32 + i - lwk_42.length = i from Nat.add_sub_cancel_left 32 i]
  exact h
theorem lwp_44 {i : Nat} {b : UInt8} (h : lwt_44[i]? = some b) : cL_law.data.toList[1408 + i]? = some b := by
  have e : 1408 + i = 1376 + (32 + i) := by omega
  rw [e]
  refine lwp_43 ?_
  show (lwk_43 ++ lwt_44)[32 + i]? = some b
  rw [List.getElem?_append_right (show lwk_43.length ≤ 32 + i from Nat.le_add_right 32 i), show 32 + i - lwk_43.length = i from Nat.add_sub_cancel_left 32 i]
  exact h
theorem lwp_45 {i : Nat} {b : UInt8} (h : lwt_45[i]? = some b) : cL_law.data.toList[1440 + i]? = some b := by
  have e : 1440 + i = 1408 + (32 + i) := by omega
  rw [e]
  refine lwp_44 ?_
  show (lwk_44 ++ lwt_45)[32 + i]? = some b
  rw [List.getElem?_append_right (show lwk_44.length ≤ 32 + i from Nat.le_add_right 32 i), show 32 + i - lwk_44.length = i from Nat.add_sub_cancel_left 32 i]
  exact h
theorem lwp_46 {i : Nat} {b : UInt8} (h : lwt_46[i]? = some b) : cL_law.data.toList[1472 + i]? = some b := by
  have e : 1472 + i = 1440 + (32 + i) := by omega
  rw [e]
  refine lwp_45 ?_
  show (lwk_45 ++ lwt_46)[32 + i]? = some b
  rw [List.getElem?_append_right (show lwk_45.length ≤ 32 + i from Nat.le_add_right 32 i), show 32 + i - lwk_45.length = i from Nat.add_sub_cancel_left 32 i]
  exact h
theorem lwp_47 {i : Nat} {b : UInt8} (h : lwt_47[i]? = some b) : cL_law.data.toList[1504 + i]? = some b := by
  have e : 1504 + i = 1472 + (32 + i) := by omega
  rw [e]
  refine lwp_46 ?_
  show (lwk_46 ++ lwt_47)[32 + i]? = some b
  rw [List.getElem?_append_right (show lwk_46.length ≤ 32 + i from Nat.le_add_right 32 i), show 32 + i - lwk_46.length = i from Nat.add_sub_cancel_left 32 i]
  exact h
theorem lwp_48 {i : Nat} {b : UInt8} (h : lwt_48[i]? = some b) : cL_law.data.toList[1536 + i]? = some b := by
  have e : 1536 + i = 1504 + (32 + i) := by omega
  rw [e]
  refine lwp_47 ?_
  show (lwk_47 ++ lwt_48)[32 + i]? = some b
  rw [List.getElem?_append_right (show lwk_47.length ≤ 32 + i from Nat.le_add_right 32 i), show 32 + i - lwk_47.length = i from Nat.add_sub_cancel_left 32 i]
  exact h
theorem lwp_49 {i : Nat} {b : UInt8} (h : lwt_49[i]? = some b) : cL_law.data.toList[1568 + i]? = some b := by
  have e : 1568 + i = 1536 + (32 + i) := by omega
  rw [e]
  refine lwp_48 ?_
  show (lwk_48 ++ lwt_49)[32 + i]? = some b
  rw [List.getElem?_append_right (show lwk_48.length ≤ 32 + i from Nat.le_add_right 32 i), show 32 + i - lwk_48.length = i from Nat.add_sub_cancel_left 32 i]
  exact h
theorem lwp_50 {i : Nat} {b : UInt8} (h : lwt_50[i]? = some b) : cL_law.data.toList[1600 + i]? = some b := by
  have e : 1600 + i = 1568 + (32 + i) := by omega
  rw [e]
  refine lwp_49 ?_
  show (lwk_49 ++ lwt_50)[32 + i]? = some b
  rw [List.getElem?_append_right (show lwk_49.length ≤ 32 + i from Nat.le_add_right 32 i), show 32 + i - lwk_49.length = i from Nat.add_sub_cancel_left 32 i]
  exact h
theorem lwp_51 {i : Nat} {b : UInt8} (h : lwt_51[i]? = some b) : cL_law.data.toList[1632 + i]? = some b := by
  have e : 1632 + i = 1600 + (32 + i) := by omega
  rw [e]
  refine lwp_50 ?_
  show (lwk_50 ++ lwt_51)[32 + i]? = some b
  rw [List.getElem?_append_right (show lwk_50.length ≤ 32 + i from Nat.le_add_right 32 i), show 32 + i - lwk_50.length = i from Nat.add_sub_cancel_left 32 i]
  exact h
theorem lwp_52 {i : Nat} {b : UInt8} (h : lwt_52[i]? = some b) : cL_law.data.toList[1664 + i]? = some b := by
  have e : 1664 + i = 1632 + (32 + i) := by omega
  rw [e]
  refine lwp_51 ?_
  show (lwk_51 ++ lwt_52)[32 + i]? = some b
  rw [List.getElem?_append_right (show lwk_51.length ≤ 32 + i from Nat.le_add_right 32 i), show 32 + i - lwk_51.length = i from Nat.add_sub_cancel_left 32 i]
  exact h
theorem lwp_53 {i : Nat} {b : UInt8} (h : lwt_53[i]? = some b) : cL_law.data.toList[1696 + i]? = some b := by
  have e : 1696 + i = 1664 + (32 + i) := by omega
  rw [e]
  refine lwp_52 ?_
  show (lwk_52 ++ lwt_53)[32 + i]? = some b
  rw [List.getElem?_append_right (show lwk_52.length ≤ 32 + i from Nat.le_add_right 32 i), show 32 + i - lwk_52.length = i from Nat.add_sub_cancel_left 32 i]
  exact h
theorem lwp_54 {i : Nat} {b : UInt8} (h : lwt_54[i]? = some b) : cL_law.data.toList[1728 + i]? = some b := by
  have e : 1728 + i = 1696 + (32 + i) := by omega
  rw [e]
  refine lwp_53 ?_
  show (lwk_53 ++ lwt_54)[32 + i]? = some b
  rw [List.getElem?_append_right (show lwk_53.length ≤ 32 + i from Nat.le_add_right 32 i), show 32 + i - lwk_53.length = i from Nat.add_sub_cancel_left 32 i]
  exact h
theorem lwp_55 {i : Nat} {b : UInt8} (h : lwt_55[i]? = some b) : cL_law.data.toList[1760 + i]? = some b := by
  have e : 1760 + i = 1728 + (32 + i) := by omega
  rw [e]
  refine lwp_54 ?_
  show (lwk_54 ++ lwt_55)[32 + i]? = some b
  rw [List.getElem?_append_right (show lwk_54.length ≤ 32 + i from Nat.le_add_right 32 i), show 32 + i - lwk_54.length = i from Nat.add_sub_cancel_left 32 i]
  exact h
theorem lwp_56 {i : Nat} {b : UInt8} (h : lwt_56[i]? = some b) : cL_law.data.toList[1792 + i]? = some b := by
  have e : 1792 + i = 1760 + (32 + i) := by omega
  rw [e]
  refine lwp_55 ?_
  show (lwk_55 ++ lwt_56)[32 + i]? = some b
  rw [List.getElem?_append_right (show lwk_55.length ≤ 32 + i from Nat.le_add_right 32 i), show 32 + i - lwk_55.length = i from Nat.add_sub_cancel_left 32 i]
  exact h
theorem lwg_0 (i : Nat) (b : UInt8) (h : lwk_0[i]? = some b) : cL_law.data.toList[0 + i]? = some b := lwp_0 (by
  show (lwk_0 ++ lwt_1)[i]? = some b
  rw [List.getElem?_append_left (List.getElem?_eq_some_iff.mp h).1]
  exact h)
theorem lwg_1 (i : Nat) (b : UInt8) (h : lwk_1[i]? = some b) : cL_law.data.toList[32 + i]? = some b := lwp_1 (by
  show (lwk_1 ++ lwt_2)[i]? = some b
  rw [List.getElem?_append_left (List.getElem?_eq_some_iff.mp h).1]
  exact h)
theorem lwg_2 (i : Nat) (b : UInt8) (h : lwk_2[i]? = some b) : cL_law.data.toList[64 + i]? = some b := lwp_2 (by
  show (lwk_2 ++ lwt_3)[i]? = some b
  rw [List.getElem?_append_left (List.getElem?_eq_some_iff.mp h).1]
  exact h)
theorem lwg_3 (i : Nat) (b : UInt8) (h : lwk_3[i]? = some b) : cL_law.data.toList[96 + i]? = some b := lwp_3 (by
  show (lwk_3 ++ lwt_4)[i]? = some b
  rw [List.getElem?_append_left (List.getElem?_eq_some_iff.mp h).1]
  exact h)
theorem lwg_4 (i : Nat) (b : UInt8) (h : lwk_4[i]? = some b) : cL_law.data.toList[128 + i]? = some b := lwp_4 (by
  show (lwk_4 ++ lwt_5)[i]? = some b
  rw [List.getElem?_append_left (List.getElem?_eq_some_iff.mp h).1]
  exact h)
theorem lwg_5 (i : Nat) (b : UInt8) (h : lwk_5[i]? = some b) : cL_law.data.toList[160 + i]? = some b := lwp_5 (by
  show (lwk_5 ++ lwt_6)[i]? = some b
  rw [List.getElem?_append_left (List.getElem?_eq_some_iff.mp h).1]
  exact h)
theorem lwg_6 (i : Nat) (b : UInt8) (h : lwk_6[i]? = some b) : cL_law.data.toList[192 + i]? = some b := lwp_6 (by
  show (lwk_6 ++ lwt_7)[i]? = some b
  rw [List.getElem?_append_left (List.getElem?_eq_some_iff.mp h).1]
  exact h)
theorem lwg_7 (i : Nat) (b : UInt8) (h : lwk_7[i]? = some b) : cL_law.data.toList[224 + i]? = some b := lwp_7 (by
  show (lwk_7 ++ lwt_8)[i]? = some b
  rw [List.getElem?_append_left (List.getElem?_eq_some_iff.mp h).1]
  exact h)
theorem lwg_8 (i : Nat) (b : UInt8) (h : lwk_8[i]? = some b) : cL_law.data.toList[256 + i]? = some b := lwp_8 (by
  show (lwk_8 ++ lwt_9)[i]? = some b
  rw [List.getElem?_append_left (List.getElem?_eq_some_iff.mp h).1]
  exact h)
theorem lwg_9 (i : Nat) (b : UInt8) (h : lwk_9[i]? = some b) : cL_law.data.toList[288 + i]? = some b := lwp_9 (by
  show (lwk_9 ++ lwt_10)[i]? = some b
  rw [List.getElem?_append_left (List.getElem?_eq_some_iff.mp h).1]
  exact h)
theorem lwg_10 (i : Nat) (b : UInt8) (h : lwk_10[i]? = some b) : cL_law.data.toList[320 + i]? = some b := lwp_10 (by
  show (lwk_10 ++ lwt_11)[i]? = some b
  rw [List.getElem?_append_left (List.getElem?_eq_some_iff.mp h).1]
  exact h)
theorem lwg_11 (i : Nat) (b : UInt8) (h : lwk_11[i]? = some b) : cL_law.data.toList[352 + i]? = some b := lwp_11 (by
  show (lwk_11 ++ lwt_12)[i]? = some b
  rw [List.getElem?_append_left (List.getElem?_eq_some_iff.mp h).1]
  exact h)
theorem lwg_12 (i : Nat) (b : UInt8) (h : lwk_12[i]? = some b) : cL_law.data.toList[384 + i]? = some b := lwp_12 (by
  show (lwk_12 ++ lwt_13)[i]? = some b
  rw [List.getElem?_append_left (List.getElem?_eq_some_iff.mp h).1]
  exact h)
theorem lwg_13 (i : Nat) (b : UInt8) (h : lwk_13[i]? = some b) : cL_law.data.toList[416 + i]? = some b := lwp_13 (by
  show (lwk_13 ++ lwt_14)[i]? = some b
  rw [List.getElem?_append_left (List.getElem?_eq_some_iff.mp h).1]
  exact h)
theorem lwg_14 (i : Nat) (b : UInt8) (h : lwk_14[i]? = some b) : cL_law.data.toList[448 + i]? = some b := lwp_14 (by
  show (lwk_14 ++ lwt_15)[i]? = some b
  rw [List.getElem?_append_left (List.getElem?_eq_some_iff.mp h).1]
  exact h)
theorem lwg_15 (i : Nat) (b : UInt8) (h : lwk_15[i]? = some b) : cL_law.data.toList[480 + i]? = some b := lwp_15 (by
  show (lwk_15 ++ lwt_16)[i]? = some b
  rw [List.getElem?_append_left (List.getElem?_eq_some_iff.mp h).1]
  exact h)
theorem lwg_16 (i : Nat) (b : UInt8) (h : lwk_16[i]? = some b) : cL_law.data.toList[512 + i]? = some b := lwp_16 (by
  show (lwk_16 ++ lwt_17)[i]? = some b
  rw [List.getElem?_append_left (List.getElem?_eq_some_iff.mp h).1]
  exact h)
theorem lwg_17 (i : Nat) (b : UInt8) (h : lwk_17[i]? = some b) : cL_law.data.toList[544 + i]? = some b := lwp_17 (by
  show (lwk_17 ++ lwt_18)[i]? = some b
  rw [List.getElem?_append_left (List.getElem?_eq_some_iff.mp h).1]
  exact h)
theorem lwg_18 (i : Nat) (b : UInt8) (h : lwk_18[i]? = some b) : cL_law.data.toList[576 + i]? = some b := lwp_18 (by
  show (lwk_18 ++ lwt_19)[i]? = some b
  rw [List.getElem?_append_left (List.getElem?_eq_some_iff.mp h).1]
  exact h)
theorem lwg_19 (i : Nat) (b : UInt8) (h : lwk_19[i]? = some b) : cL_law.data.toList[608 + i]? = some b := lwp_19 (by
  show (lwk_19 ++ lwt_20)[i]? = some b
  rw [List.getElem?_append_left (List.getElem?_eq_some_iff.mp h).1]
  exact h)
theorem lwg_20 (i : Nat) (b : UInt8) (h : lwk_20[i]? = some b) : cL_law.data.toList[640 + i]? = some b := lwp_20 (by
  show (lwk_20 ++ lwt_21)[i]? = some b
  rw [List.getElem?_append_left (List.getElem?_eq_some_iff.mp h).1]
  exact h)
theorem lwg_21 (i : Nat) (b : UInt8) (h : lwk_21[i]? = some b) : cL_law.data.toList[672 + i]? = some b := lwp_21 (by
  show (lwk_21 ++ lwt_22)[i]? = some b
  rw [List.getElem?_append_left (List.getElem?_eq_some_iff.mp h).1]
  exact h)
theorem lwg_22 (i : Nat) (b : UInt8) (h : lwk_22[i]? = some b) : cL_law.data.toList[704 + i]? = some b := lwp_22 (by
  show (lwk_22 ++ lwt_23)[i]? = some b
  rw [List.getElem?_append_left (List.getElem?_eq_some_iff.mp h).1]
  exact h)
theorem lwg_23 (i : Nat) (b : UInt8) (h : lwk_23[i]? = some b) : cL_law.data.toList[736 + i]? = some b := lwp_23 (by
  show (lwk_23 ++ lwt_24)[i]? = some b
  rw [List.getElem?_append_left (List.getElem?_eq_some_iff.mp h).1]
  exact h)
theorem lwg_24 (i : Nat) (b : UInt8) (h : lwk_24[i]? = some b) : cL_law.data.toList[768 + i]? = some b := lwp_24 (by
  show (lwk_24 ++ lwt_25)[i]? = some b
  rw [List.getElem?_append_left (List.getElem?_eq_some_iff.mp h).1]
  exact h)
theorem lwg_25 (i : Nat) (b : UInt8) (h : lwk_25[i]? = some b) : cL_law.data.toList[800 + i]? = some b := lwp_25 (by
  show (lwk_25 ++ lwt_26)[i]? = some b
  rw [List.getElem?_append_left (List.getElem?_eq_some_iff.mp h).1]
  exact h)
theorem lwg_26 (i : Nat) (b : UInt8) (h : lwk_26[i]? = some b) : cL_law.data.toList[832 + i]? = some b := lwp_26 (by
  show (lwk_26 ++ lwt_27)[i]? = some b
  rw [List.getElem?_append_left (List.getElem?_eq_some_iff.mp h).1]
  exact h)
theorem lwg_27 (i : Nat) (b : UInt8) (h : lwk_27[i]? = some b) : cL_law.data.toList[864 + i]? = some b := lwp_27 (by
  show (lwk_27 ++ lwt_28)[i]? = some b
  rw [List.getElem?_append_left (List.getElem?_eq_some_iff.mp h).1]
  exact h)
theorem lwg_28 (i : Nat) (b : UInt8) (h : lwk_28[i]? = some b) : cL_law.data.toList[896 + i]? = some b := lwp_28 (by
  show (lwk_28 ++ lwt_29)[i]? = some b
  rw [List.getElem?_append_left (List.getElem?_eq_some_iff.mp h).1]
  exact h)
theorem lwg_29 (i : Nat) (b : UInt8) (h : lwk_29[i]? = some b) : cL_law.data.toList[928 + i]? = some b := lwp_29 (by
  show (lwk_29 ++ lwt_30)[i]? = some b
  rw [List.getElem?_append_left (List.getElem?_eq_some_iff.mp h).1]
  exact h)
theorem lwg_30 (i : Nat) (b : UInt8) (h : lwk_30[i]? = some b) : cL_law.data.toList[960 + i]? = some b := lwp_30 (by
  show (lwk_30 ++ lwt_31)[i]? = some b
  rw [List.getElem?_append_left (List.getElem?_eq_some_iff.mp h).1]
  exact h)
theorem lwg_31 (i : Nat) (b : UInt8) (h : lwk_31[i]? = some b) : cL_law.data.toList[992 + i]? = some b := lwp_31 (by
  show (lwk_31 ++ lwt_32)[i]? = some b
  rw [List.getElem?_append_left (List.getElem?_eq_some_iff.mp h).1]
  exact h)
theorem lwg_32 (i : Nat) (b : UInt8) (h : lwk_32[i]? = some b) : cL_law.data.toList[1024 + i]? = some b := lwp_32 (by
  show (lwk_32 ++ lwt_33)[i]? = some b
  rw [List.getElem?_append_left (List.getElem?_eq_some_iff.mp h).1]
  exact h)
theorem lwg_33 (i : Nat) (b : UInt8) (h : lwk_33[i]? = some b) : cL_law.data.toList[1056 + i]? = some b := lwp_33 (by
  show (lwk_33 ++ lwt_34)[i]? = some b
  rw [List.getElem?_append_left (List.getElem?_eq_some_iff.mp h).1]
  exact h)
theorem lwg_34 (i : Nat) (b : UInt8) (h : lwk_34[i]? = some b) : cL_law.data.toList[1088 + i]? = some b := lwp_34 (by
  show (lwk_34 ++ lwt_35)[i]? = some b
  rw [List.getElem?_append_left (List.getElem?_eq_some_iff.mp h).1]
  exact h)
theorem lwg_35 (i : Nat) (b : UInt8) (h : lwk_35[i]? = some b) : cL_law.data.toList[1120 + i]? = some b := lwp_35 (by
  show (lwk_35 ++ lwt_36)[i]? = some b
  rw [List.getElem?_append_left (List.getElem?_eq_some_iff.mp h).1]
  exact h)
theorem lwg_36 (i : Nat) (b : UInt8) (h : lwk_36[i]? = some b) : cL_law.data.toList[1152 + i]? = some b := lwp_36 (by
  show (lwk_36 ++ lwt_37)[i]? = some b
  rw [List.getElem?_append_left (List.getElem?_eq_some_iff.mp h).1]
  exact h)
theorem lwg_37 (i : Nat) (b : UInt8) (h : lwk_37[i]? = some b) : cL_law.data.toList[1184 + i]? = some b := lwp_37 (by
  show (lwk_37 ++ lwt_38)[i]? = some b
  rw [List.getElem?_append_left (List.getElem?_eq_some_iff.mp h).1]
  exact h)
theorem lwg_38 (i : Nat) (b : UInt8) (h : lwk_38[i]? = some b) : cL_law.data.toList[1216 + i]? = some b := lwp_38 (by
  show (lwk_38 ++ lwt_39)[i]? = some b
  rw [List.getElem?_append_left (List.getElem?_eq_some_iff.mp h).1]
  exact h)
theorem lwg_39 (i : Nat) (b : UInt8) (h : lwk_39[i]? = some b) : cL_law.data.toList[1248 + i]? = some b := lwp_39 (by
  show (lwk_39 ++ lwt_40)[i]? = some b
  rw [List.getElem?_append_left (List.getElem?_eq_some_iff.mp h).1]
  exact h)
theorem lwg_40 (i : Nat) (b : UInt8) (h : lwk_40[i]? = some b) : cL_law.data.toList[1280 + i]? = some b := lwp_40 (by
  show (lwk_40 ++ lwt_41)[i]? = some b
  rw [List.getElem?_append_left (List.getElem?_eq_some_iff.mp h).1]
  exact h)
theorem lwg_41 (i : Nat) (b : UInt8) (h : lwk_41[i]? = some b) : cL_law.data.toList[1312 + i]? = some b := lwp_41 (by
  show (lwk_41 ++ lwt_42)[i]? = some b
  rw [List.getElem?_append_left (List.getElem?_eq_some_iff.mp h).1]
  exact h)
theorem lwg_42 (i : Nat) (b : UInt8) (h : lwk_42[i]? = some b) : cL_law.data.toList[1344 + i]? = some b := lwp_42 (by
  show (lwk_42 ++ lwt_43)[i]? = some b
  rw [List.getElem?_append_left (List.getElem?_eq_some_iff.mp h).1]
  exact h)
theorem lwg_43 (i : Nat) (b : UInt8) (h : lwk_43[i]? = some b) : cL_law.data.toList[1376 + i]? = some b := lwp_43 (by
  show (lwk_43 ++ lwt_44)[i]? = some b
  rw [List.getElem?_append_left (List.getElem?_eq_some_iff.mp h).1]
  exact h)
theorem lwg_44 (i : Nat) (b : UInt8) (h : lwk_44[i]? = some b) : cL_law.data.toList[1408 + i]? = some b := lwp_44 (by
  show (lwk_44 ++ lwt_45)[i]? = some b
  rw [List.getElem?_append_left (List.getElem?_eq_some_iff.mp h).1]
  exact h)
theorem lwg_45 (i : Nat) (b : UInt8) (h : lwk_45[i]? = some b) : cL_law.data.toList[1440 + i]? = some b := lwp_45 (by
  show (lwk_45 ++ lwt_46)[i]? = some b
  rw [List.getElem?_append_left (List.getElem?_eq_some_iff.mp h).1]
  exact h)
theorem lwg_46 (i : Nat) (b : UInt8) (h : lwk_46[i]? = some b) : cL_law.data.toList[1472 + i]? = some b := lwp_46 (by
  show (lwk_46 ++ lwt_47)[i]? = some b
  rw [List.getElem?_append_left (List.getElem?_eq_some_iff.mp h).1]
  exact h)
theorem lwg_47 (i : Nat) (b : UInt8) (h : lwk_47[i]? = some b) : cL_law.data.toList[1504 + i]? = some b := lwp_47 (by
  show (lwk_47 ++ lwt_48)[i]? = some b
  rw [List.getElem?_append_left (List.getElem?_eq_some_iff.mp h).1]
  exact h)
theorem lwg_48 (i : Nat) (b : UInt8) (h : lwk_48[i]? = some b) : cL_law.data.toList[1536 + i]? = some b := lwp_48 (by
  show (lwk_48 ++ lwt_49)[i]? = some b
  rw [List.getElem?_append_left (List.getElem?_eq_some_iff.mp h).1]
  exact h)
theorem lwg_49 (i : Nat) (b : UInt8) (h : lwk_49[i]? = some b) : cL_law.data.toList[1568 + i]? = some b := lwp_49 (by
  show (lwk_49 ++ lwt_50)[i]? = some b
  rw [List.getElem?_append_left (List.getElem?_eq_some_iff.mp h).1]
  exact h)
theorem lwg_50 (i : Nat) (b : UInt8) (h : lwk_50[i]? = some b) : cL_law.data.toList[1600 + i]? = some b := lwp_50 (by
  show (lwk_50 ++ lwt_51)[i]? = some b
  rw [List.getElem?_append_left (List.getElem?_eq_some_iff.mp h).1]
  exact h)
theorem lwg_51 (i : Nat) (b : UInt8) (h : lwk_51[i]? = some b) : cL_law.data.toList[1632 + i]? = some b := lwp_51 (by
  show (lwk_51 ++ lwt_52)[i]? = some b
  rw [List.getElem?_append_left (List.getElem?_eq_some_iff.mp h).1]
  exact h)
theorem lwg_52 (i : Nat) (b : UInt8) (h : lwk_52[i]? = some b) : cL_law.data.toList[1664 + i]? = some b := lwp_52 (by
  show (lwk_52 ++ lwt_53)[i]? = some b
  rw [List.getElem?_append_left (List.getElem?_eq_some_iff.mp h).1]
  exact h)
theorem lwg_53 (i : Nat) (b : UInt8) (h : lwk_53[i]? = some b) : cL_law.data.toList[1696 + i]? = some b := lwp_53 (by
  show (lwk_53 ++ lwt_54)[i]? = some b
  rw [List.getElem?_append_left (List.getElem?_eq_some_iff.mp h).1]
  exact h)
theorem lwg_54 (i : Nat) (b : UInt8) (h : lwk_54[i]? = some b) : cL_law.data.toList[1728 + i]? = some b := lwp_54 (by
  show (lwk_54 ++ lwt_55)[i]? = some b
  rw [List.getElem?_append_left (List.getElem?_eq_some_iff.mp h).1]
  exact h)
theorem lwg_55 (i : Nat) (b : UInt8) (h : lwk_55[i]? = some b) : cL_law.data.toList[1760 + i]? = some b := lwp_55 (by
  show (lwk_55 ++ lwt_56)[i]? = some b
  rw [List.getElem?_append_left (List.getElem?_eq_some_iff.mp h).1]
  exact h)
theorem lwg_56 (i : Nat) (b : UInt8) (h : lwk_56[i]? = some b) : cL_law.data.toList[1792 + i]? = some b := lwp_56 h
theorem dkk_3 (p : Nat) : instK p (0x03 : UInt8).toNat = Pure.pure (Jvm.ClassFile.Instr.iconst 0) := rfl
theorem dkk_4 (p : Nat) : instK p (0x04 : UInt8).toNat = Pure.pure (Jvm.ClassFile.Instr.iconst 1) := rfl
theorem dkk_5 (p : Nat) : instK p (0x05 : UInt8).toNat = Pure.pure (Jvm.ClassFile.Instr.iconst 2) := rfl
theorem dkk_6 (p : Nat) : instK p (0x06 : UInt8).toNat = Pure.pure (Jvm.ClassFile.Instr.iconst 3) := rfl
theorem dkk_7 (p : Nat) : instK p (0x07 : UInt8).toNat = Pure.pure (Jvm.ClassFile.Instr.iconst 4) := rfl
theorem dkk_8 (p : Nat) : instK p (0x08 : UInt8).toNat = Pure.pure (Jvm.ClassFile.Instr.iconst 5) := rfl
theorem dkk_16 (p : Nat) : instK p (0x10 : UInt8).toNat = (do Pure.pure (Jvm.ClassFile.Instr.bipush (← Jvm.ClassFile.Reader.s1))) := rfl
theorem dkk_21 (p : Nat) : instK p (0x15 : UInt8).toNat = (do Pure.pure (Jvm.ClassFile.Instr.iload (← Jvm.ClassFile.Reader.u1))) := rfl
theorem dkk_42 (p : Nat) : instK p (0x2a : UInt8).toNat = Pure.pure (Jvm.ClassFile.Instr.aload_n 0) := rfl
theorem dkk_43 (p : Nat) : instK p (0x2b : UInt8).toNat = Pure.pure (Jvm.ClassFile.Instr.aload_n 1) := rfl
theorem dkk_44 (p : Nat) : instK p (0x2c : UInt8).toNat = Pure.pure (Jvm.ClassFile.Instr.aload_n 2) := rfl
theorem dkk_45 (p : Nat) : instK p (0x2d : UInt8).toNat = Pure.pure (Jvm.ClassFile.Instr.aload_n 3) := rfl
theorem dkk_46 (p : Nat) : instK p (0x2e : UInt8).toNat = Pure.pure (Jvm.ClassFile.Instr.iaload) := rfl
theorem dkk_54 (p : Nat) : instK p (0x36 : UInt8).toNat = (do Pure.pure (Jvm.ClassFile.Instr.istore (← Jvm.ClassFile.Reader.u1))) := rfl
theorem dkk_58 (p : Nat) : instK p (0x3a : UInt8).toNat = (do Pure.pure (Jvm.ClassFile.Instr.astore (← Jvm.ClassFile.Reader.u1))) := rfl
theorem dkk_76 (p : Nat) : instK p (0x4c : UInt8).toNat = Pure.pure (Jvm.ClassFile.Instr.astore_n 1) := rfl
theorem dkk_77 (p : Nat) : instK p (0x4d : UInt8).toNat = Pure.pure (Jvm.ClassFile.Instr.astore_n 2) := rfl
theorem dkk_78 (p : Nat) : instK p (0x4e : UInt8).toNat = Pure.pure (Jvm.ClassFile.Instr.astore_n 3) := rfl
theorem dkk_87 (p : Nat) : instK p (0x57 : UInt8).toNat = Pure.pure (Jvm.ClassFile.Instr.pop) := rfl
theorem dkk_88 (p : Nat) : instK p (0x58 : UInt8).toNat = Pure.pure (Jvm.ClassFile.Instr.pop2) := rfl
theorem dkk_89 (p : Nat) : instK p (0x59 : UInt8).toNat = Pure.pure (Jvm.ClassFile.Instr.dup) := rfl
theorem dkk_96 (p : Nat) : instK p (0x60 : UInt8).toNat = Pure.pure (Jvm.ClassFile.Instr.iadd) := rfl
theorem dkk_100 (p : Nat) : instK p (0x64 : UInt8).toNat = Pure.pure (Jvm.ClassFile.Instr.isub) := rfl
theorem dkk_126 (p : Nat) : instK p (0x7e : UInt8).toNat = Pure.pure (Jvm.ClassFile.Instr.iand) := rfl
theorem dkk_133 (p : Nat) : instK p (0x85 : UInt8).toNat = Pure.pure (Jvm.ClassFile.Instr.i2l) := rfl
theorem dkk_148 (p : Nat) : instK p (0x94 : UInt8).toNat = Pure.pure (Jvm.ClassFile.Instr.lcmp) := rfl
theorem dkk_153 (p : Nat) : instK p (0x99 : UInt8).toNat = (do Pure.pure (Jvm.ClassFile.Instr.ifCond .eq (← Jvm.ClassFile.Reader.s2))) := rfl
theorem dkk_154 (p : Nat) : instK p (0x9a : UInt8).toNat = (do Pure.pure (Jvm.ClassFile.Instr.ifCond .ne (← Jvm.ClassFile.Reader.s2))) := rfl
theorem dkk_159 (p : Nat) : instK p (0x9f : UInt8).toNat = (do Pure.pure (Jvm.ClassFile.Instr.if_icmp .eq (← Jvm.ClassFile.Reader.s2))) := rfl
theorem dkk_163 (p : Nat) : instK p (0xa3 : UInt8).toNat = (do Pure.pure (Jvm.ClassFile.Instr.if_icmp .gt (← Jvm.ClassFile.Reader.s2))) := rfl
theorem dkk_167 (p : Nat) : instK p (0xa7 : UInt8).toNat = (do Pure.pure (Jvm.ClassFile.Instr.goto (← Jvm.ClassFile.Reader.s2))) := rfl
theorem dkk_172 (p : Nat) : instK p (0xac : UInt8).toNat = Pure.pure (Jvm.ClassFile.Instr.ireturn) := rfl
theorem dkk_180 (p : Nat) : instK p (0xb4 : UInt8).toNat = (do Pure.pure (Jvm.ClassFile.Instr.getfield (← Jvm.ClassFile.Reader.u2))) := rfl
theorem dkk_182 (p : Nat) : instK p (0xb6 : UInt8).toNat = (do Pure.pure (Jvm.ClassFile.Instr.invokevirtual (← Jvm.ClassFile.Reader.u2))) := rfl
theorem dkk_183 (p : Nat) : instK p (0xb7 : UInt8).toNat = (do Pure.pure (Jvm.ClassFile.Instr.invokespecial (← Jvm.ClassFile.Reader.u2))) := rfl
theorem dkk_184 (p : Nat) : instK p (0xb8 : UInt8).toNat = (do Pure.pure (Jvm.ClassFile.Instr.invokestatic (← Jvm.ClassFile.Reader.u2))) := rfl
theorem dkk_187 (p : Nat) : instK p (0xbb : UInt8).toNat = (do Pure.pure (Jvm.ClassFile.Instr.new (← Jvm.ClassFile.Reader.u2))) := rfl
theorem dkk_190 (p : Nat) : instK p (0xbe : UInt8).toNat = Pure.pure (Jvm.ClassFile.Instr.arraylength) := rfl
theorem dL_law_0 : decode cL_law 0 = .ok (.new 8, 3) := dk_2 (f := Jvm.ClassFile.Instr.new) (lwg_0 0 0xbb rfl) (lwg_0 1 0x00 rfl) (lwg_0 2 0x08 rfl) (dkk_187 0) rfl
theorem dL_law_3 : decode cL_law 3 = .ok (.dup, 1) := dk_0 (lwg_0 3 0x59 rfl) (dkk_89 3)
theorem dL_law_4 : decode cL_law 4 = .ok (.invokespecial 138, 3) := dk_2 (f := Jvm.ClassFile.Instr.invokespecial) (lwg_0 4 0xb7 rfl) (lwg_0 5 0x00 rfl) (lwg_0 6 0x8a rfl) (dkk_183 4) rfl
theorem dL_law_7 : decode cL_law 7 = .ok (.astore_n 1, 1) := dk_0 (lwg_0 7 0x4c rfl) (dkk_76 7)
theorem dL_law_8 : decode cL_law 8 = .ok (.new 139, 3) := dk_2 (f := Jvm.ClassFile.Instr.new) (lwg_0 8 0xbb rfl) (lwg_0 9 0x00 rfl) (lwg_0 10 0x8b rfl) (dkk_187 8) rfl
theorem dL_law_11 : decode cL_law 11 = .ok (.dup, 1) := dk_0 (lwg_0 11 0x59 rfl) (dkk_89 11)
theorem dL_law_12 : decode cL_law 12 = .ok (.invokespecial 141, 3) := dk_2 (f := Jvm.ClassFile.Instr.invokespecial) (lwg_0 12 0xb7 rfl) (lwg_0 13 0x00 rfl) (lwg_0 14 0x8d rfl) (dkk_183 12) rfl
theorem dL_law_15 : decode cL_law 15 = .ok (.astore_n 2, 1) := dk_0 (lwg_0 15 0x4d rfl) (dkk_77 15)
theorem dL_law_16 : decode cL_law 16 = .ok (.new 14, 3) := dk_2 (f := Jvm.ClassFile.Instr.new) (lwg_0 16 0xbb rfl) (lwg_0 17 0x00 rfl) (lwg_0 18 0x0e rfl) (dkk_187 16) rfl
theorem dL_law_19 : decode cL_law 19 = .ok (.dup, 1) := dk_0 (lwg_0 19 0x59 rfl) (dkk_89 19)
theorem dL_law_20 : decode cL_law 20 = .ok (.invokespecial 142, 3) := dk_2 (f := Jvm.ClassFile.Instr.invokespecial) (lwg_0 20 0xb7 rfl) (lwg_0 21 0x00 rfl) (lwg_0 22 0x8e rfl) (dkk_183 20) rfl
theorem dL_law_23 : decode cL_law 23 = .ok (.astore_n 3, 1) := dk_0 (lwg_0 23 0x4e rfl) (dkk_78 23)
theorem dL_law_24 : decode cL_law 24 = .ok (.iconst 0, 1) := dk_0 (lwg_0 24 0x03 rfl) (dkk_3 24)
theorem dL_law_25 : decode cL_law 25 = .ok (.istore 4, 2) := dk_1 (f := Jvm.ClassFile.Instr.istore) (lwg_0 25 0x36 rfl) (lwg_0 26 0x04 rfl) (dkk_54 25) rfl
theorem dL_law_27 : decode cL_law 27 = .ok (.iload 4, 2) := dk_1 (f := Jvm.ClassFile.Instr.iload) (lwg_0 27 0x15 rfl) (lwg_0 28 0x04 rfl) (dkk_21 27) rfl
theorem dL_law_29 : decode cL_law 29 = .ok (.aload_n 0, 1) := dk_0 (lwg_0 29 0x2a rfl) (dkk_42 29)
theorem dL_law_30 : decode cL_law 30 = .ok (.arraylength, 1) := dk_0 (lwg_0 30 0xbe rfl) (dkk_190 30)
theorem dL_law_31 : decode cL_law 31 = .ok (.iconst 5, 1) := dk_0 (lwg_0 31 0x08 rfl) (dkk_8 31)
theorem dL_law_32 : decode cL_law 32 = .ok (.isub, 1) := dk_0 (lwg_1 0 0x64 rfl) (dkk_100 32)
theorem dL_law_33 : decode cL_law 33 = .ok (.if_icmp .gt 1786, 3) := dk_2s (f := fun z => Jvm.ClassFile.Instr.if_icmp .gt z) (lwg_1 1 0xa3 rfl) (lwg_1 2 0x06 rfl) (lwg_1 3 0xfa rfl) (dkk_163 33) (by decide +kernel)
theorem dL_law_36 : decode cL_law 36 = .ok (.aload_n 0, 1) := dk_0 (lwg_1 4 0x2a rfl) (dkk_42 36)
theorem dL_law_37 : decode cL_law 37 = .ok (.iload 4, 2) := dk_1 (f := Jvm.ClassFile.Instr.iload) (lwg_1 5 0x15 rfl) (lwg_1 6 0x04 rfl) (dkk_21 37) rfl
theorem dL_law_39 : decode cL_law 39 = .ok (.iaload, 1) := dk_0 (lwg_1 7 0x2e rfl) (dkk_46 39)
theorem dL_law_40 : decode cL_law 40 = .ok (.bipush 63, 2) := dk_1s (f := Jvm.ClassFile.Instr.bipush) (lwg_1 8 0x10 rfl) (lwg_1 9 0x3f rfl) (dkk_16 40) (by decide +kernel)
theorem dL_law_42 : decode cL_law 42 = .ok (.iand, 1) := dk_0 (lwg_1 10 0x7e rfl) (dkk_126 42)
theorem dL_law_43 : decode cL_law 43 = .ok (.tableswitch 1770 0 42 #[185, 237, 289, 358, 398, 450, 502, 554, 606, 634, 662, 702, 754, 782, 822, 862, 902, 930, 970, 1022, 1050, 1078, 1091, 1119, 1171, 1223, 1275, 1303, 1359, 1387, 1415, 1455, 1483, 1535, 1599, 1651, 1664, 1677, 1690, 1703, 1716, 1744, 1757], 185) := by decide +kernel
theorem dL_law_228 : decode cL_law 228 = .ok (.aload_n 1, 1) := dk_0 (lwg_7 4 0x2b rfl) (dkk_43 228)
theorem dL_law_229 : decode cL_law 229 = .ok (.aload_n 0, 1) := dk_0 (lwg_7 5 0x2a rfl) (dkk_42 229)
theorem dL_law_230 : decode cL_law 230 = .ok (.iload 4, 2) := dk_1 (f := Jvm.ClassFile.Instr.iload) (lwg_7 6 0x15 rfl) (lwg_7 7 0x04 rfl) (dkk_21 230) rfl
theorem dL_law_232 : decode cL_law 232 = .ok (.iconst 1, 1) := dk_0 (lwg_7 8 0x04 rfl) (dkk_4 232)
theorem dL_law_233 : decode cL_law 233 = .ok (.iadd, 1) := dk_0 (lwg_7 9 0x60 rfl) (dkk_96 233)
theorem dL_law_234 : decode cL_law 234 = .ok (.iaload, 1) := dk_0 (lwg_7 10 0x2e rfl) (dkk_46 234)
theorem dL_law_235 : decode cL_law 235 = .ok (.aload_n 0, 1) := dk_0 (lwg_7 11 0x2a rfl) (dkk_42 235)
theorem dL_law_236 : decode cL_law 236 = .ok (.iload 4, 2) := dk_1 (f := Jvm.ClassFile.Instr.iload) (lwg_7 12 0x15 rfl) (lwg_7 13 0x04 rfl) (dkk_21 236) rfl
theorem dL_law_238 : decode cL_law 238 = .ok (.iconst 2, 1) := dk_0 (lwg_7 14 0x05 rfl) (dkk_5 238)
theorem dL_law_239 : decode cL_law 239 = .ok (.iadd, 1) := dk_0 (lwg_7 15 0x60 rfl) (dkk_96 239)
theorem dL_law_240 : decode cL_law 240 = .ok (.iaload, 1) := dk_0 (lwg_7 16 0x2e rfl) (dkk_46 240)
theorem dL_law_241 : decode cL_law 241 = .ok (.aload_n 0, 1) := dk_0 (lwg_7 17 0x2a rfl) (dkk_42 241)
theorem dL_law_242 : decode cL_law 242 = .ok (.iload 4, 2) := dk_1 (f := Jvm.ClassFile.Instr.iload) (lwg_7 18 0x15 rfl) (lwg_7 19 0x04 rfl) (dkk_21 242) rfl
theorem dL_law_244 : decode cL_law 244 = .ok (.iconst 3, 1) := dk_0 (lwg_7 20 0x06 rfl) (dkk_6 244)
theorem dL_law_245 : decode cL_law 245 = .ok (.iadd, 1) := dk_0 (lwg_7 21 0x60 rfl) (dkk_96 245)
theorem dL_law_246 : decode cL_law 246 = .ok (.iaload, 1) := dk_0 (lwg_7 22 0x2e rfl) (dkk_46 246)
theorem dL_law_247 : decode cL_law 247 = .ok (.aload_n 3, 1) := dk_0 (lwg_7 23 0x2d rfl) (dkk_45 247)
theorem dL_law_248 : decode cL_law 248 = .ok (.invokestatic 143, 3) := dk_2 (f := Jvm.ClassFile.Instr.invokestatic) (lwg_7 24 0xb8 rfl) (lwg_7 25 0x00 rfl) (lwg_7 26 0x8f rfl) (dkk_184 248) rfl
theorem dL_law_251 : decode cL_law 251 = .ok (.istore 5, 2) := dk_1 (f := Jvm.ClassFile.Instr.istore) (lwg_7 27 0x36 rfl) (lwg_7 28 0x05 rfl) (dkk_54 251) rfl
theorem dL_law_253 : decode cL_law 253 = .ok (.aload_n 2, 1) := dk_0 (lwg_7 29 0x2c rfl) (dkk_44 253)
theorem dL_law_254 : decode cL_law 254 = .ok (.aload_n 0, 1) := dk_0 (lwg_7 30 0x2a rfl) (dkk_42 254)
theorem dL_law_255 : decode cL_law 255 = .ok (.iload 4, 2) := dk_1 (f := Jvm.ClassFile.Instr.iload) (lwg_7 31 0x15 rfl) (lwg_8 0 0x04 rfl) (dkk_21 255) rfl
theorem dL_law_257 : decode cL_law 257 = .ok (.iconst 1, 1) := dk_0 (lwg_8 1 0x04 rfl) (dkk_4 257)
theorem dL_law_258 : decode cL_law 258 = .ok (.iadd, 1) := dk_0 (lwg_8 2 0x60 rfl) (dkk_96 258)
theorem dL_law_259 : decode cL_law 259 = .ok (.iaload, 1) := dk_0 (lwg_8 3 0x2e rfl) (dkk_46 259)
theorem dL_law_260 : decode cL_law 260 = .ok (.aload_n 0, 1) := dk_0 (lwg_8 4 0x2a rfl) (dkk_42 260)
theorem dL_law_261 : decode cL_law 261 = .ok (.iload 4, 2) := dk_1 (f := Jvm.ClassFile.Instr.iload) (lwg_8 5 0x15 rfl) (lwg_8 6 0x04 rfl) (dkk_21 261) rfl
theorem dL_law_263 : decode cL_law 263 = .ok (.iconst 2, 1) := dk_0 (lwg_8 7 0x05 rfl) (dkk_5 263)
theorem dL_law_264 : decode cL_law 264 = .ok (.iadd, 1) := dk_0 (lwg_8 8 0x60 rfl) (dkk_96 264)
theorem dL_law_265 : decode cL_law 265 = .ok (.iaload, 1) := dk_0 (lwg_8 9 0x2e rfl) (dkk_46 265)
theorem dL_law_266 : decode cL_law 266 = .ok (.aload_n 0, 1) := dk_0 (lwg_8 10 0x2a rfl) (dkk_42 266)
theorem dL_law_267 : decode cL_law 267 = .ok (.iload 4, 2) := dk_1 (f := Jvm.ClassFile.Instr.iload) (lwg_8 11 0x15 rfl) (lwg_8 12 0x04 rfl) (dkk_21 267) rfl
theorem dL_law_269 : decode cL_law 269 = .ok (.iconst 3, 1) := dk_0 (lwg_8 13 0x06 rfl) (dkk_6 269)
theorem dL_law_270 : decode cL_law 270 = .ok (.iadd, 1) := dk_0 (lwg_8 14 0x60 rfl) (dkk_96 270)
theorem dL_law_271 : decode cL_law 271 = .ok (.iaload, 1) := dk_0 (lwg_8 15 0x2e rfl) (dkk_46 271)
theorem dL_law_272 : decode cL_law 272 = .ok (.invokevirtual 148, 3) := dk_2 (f := Jvm.ClassFile.Instr.invokevirtual) (lwg_8 16 0xb6 rfl) (lwg_8 17 0x00 rfl) (lwg_8 18 0x94 rfl) (dkk_182 272) rfl
theorem dL_law_275 : decode cL_law 275 = .ok (.istore 6, 2) := dk_1 (f := Jvm.ClassFile.Instr.istore) (lwg_8 19 0x36 rfl) (lwg_8 20 0x06 rfl) (dkk_54 275) rfl
theorem dL_law_277 : decode cL_law 277 = .ok (.goto 1536, 3) := dk_2s (f := Jvm.ClassFile.Instr.goto) (lwg_8 21 0xa7 rfl) (lwg_8 22 0x06 rfl) (lwg_8 23 0x00 rfl) (dkk_167 277) (by decide +kernel)
theorem dL_law_280 : decode cL_law 280 = .ok (.aload_n 1, 1) := dk_0 (lwg_8 24 0x2b rfl) (dkk_43 280)
theorem dL_law_281 : decode cL_law 281 = .ok (.aload_n 0, 1) := dk_0 (lwg_8 25 0x2a rfl) (dkk_42 281)
theorem dL_law_282 : decode cL_law 282 = .ok (.iload 4, 2) := dk_1 (f := Jvm.ClassFile.Instr.iload) (lwg_8 26 0x15 rfl) (lwg_8 27 0x04 rfl) (dkk_21 282) rfl
theorem dL_law_284 : decode cL_law 284 = .ok (.iconst 1, 1) := dk_0 (lwg_8 28 0x04 rfl) (dkk_4 284)
theorem dL_law_285 : decode cL_law 285 = .ok (.iadd, 1) := dk_0 (lwg_8 29 0x60 rfl) (dkk_96 285)
theorem dL_law_286 : decode cL_law 286 = .ok (.iaload, 1) := dk_0 (lwg_8 30 0x2e rfl) (dkk_46 286)
theorem dL_law_287 : decode cL_law 287 = .ok (.aload_n 0, 1) := dk_0 (lwg_8 31 0x2a rfl) (dkk_42 287)
theorem dL_law_288 : decode cL_law 288 = .ok (.iload 4, 2) := dk_1 (f := Jvm.ClassFile.Instr.iload) (lwg_9 0 0x15 rfl) (lwg_9 1 0x04 rfl) (dkk_21 288) rfl
theorem dL_law_290 : decode cL_law 290 = .ok (.iconst 2, 1) := dk_0 (lwg_9 2 0x05 rfl) (dkk_5 290)
theorem dL_law_291 : decode cL_law 291 = .ok (.iadd, 1) := dk_0 (lwg_9 3 0x60 rfl) (dkk_96 291)
theorem dL_law_292 : decode cL_law 292 = .ok (.iaload, 1) := dk_0 (lwg_9 4 0x2e rfl) (dkk_46 292)
theorem dL_law_293 : decode cL_law 293 = .ok (.aload_n 0, 1) := dk_0 (lwg_9 5 0x2a rfl) (dkk_42 293)
theorem dL_law_294 : decode cL_law 294 = .ok (.iload 4, 2) := dk_1 (f := Jvm.ClassFile.Instr.iload) (lwg_9 6 0x15 rfl) (lwg_9 7 0x04 rfl) (dkk_21 294) rfl
theorem dL_law_296 : decode cL_law 296 = .ok (.iconst 3, 1) := dk_0 (lwg_9 8 0x06 rfl) (dkk_6 296)
theorem dL_law_297 : decode cL_law 297 = .ok (.iadd, 1) := dk_0 (lwg_9 9 0x60 rfl) (dkk_96 297)
theorem dL_law_298 : decode cL_law 298 = .ok (.iaload, 1) := dk_0 (lwg_9 10 0x2e rfl) (dkk_46 298)
theorem dL_law_299 : decode cL_law 299 = .ok (.aload_n 3, 1) := dk_0 (lwg_9 11 0x2d rfl) (dkk_45 299)
theorem dL_law_300 : decode cL_law 300 = .ok (.invokestatic 149, 3) := dk_2 (f := Jvm.ClassFile.Instr.invokestatic) (lwg_9 12 0xb8 rfl) (lwg_9 13 0x00 rfl) (lwg_9 14 0x95 rfl) (dkk_184 300) rfl
theorem dL_law_303 : decode cL_law 303 = .ok (.istore 5, 2) := dk_1 (f := Jvm.ClassFile.Instr.istore) (lwg_9 15 0x36 rfl) (lwg_9 16 0x05 rfl) (dkk_54 303) rfl
theorem dL_law_305 : decode cL_law 305 = .ok (.aload_n 2, 1) := dk_0 (lwg_9 17 0x2c rfl) (dkk_44 305)
theorem dL_law_306 : decode cL_law 306 = .ok (.aload_n 0, 1) := dk_0 (lwg_9 18 0x2a rfl) (dkk_42 306)
theorem dL_law_307 : decode cL_law 307 = .ok (.iload 4, 2) := dk_1 (f := Jvm.ClassFile.Instr.iload) (lwg_9 19 0x15 rfl) (lwg_9 20 0x04 rfl) (dkk_21 307) rfl
theorem dL_law_309 : decode cL_law 309 = .ok (.iconst 1, 1) := dk_0 (lwg_9 21 0x04 rfl) (dkk_4 309)
theorem dL_law_310 : decode cL_law 310 = .ok (.iadd, 1) := dk_0 (lwg_9 22 0x60 rfl) (dkk_96 310)
theorem dL_law_311 : decode cL_law 311 = .ok (.iaload, 1) := dk_0 (lwg_9 23 0x2e rfl) (dkk_46 311)
theorem dL_law_312 : decode cL_law 312 = .ok (.aload_n 0, 1) := dk_0 (lwg_9 24 0x2a rfl) (dkk_42 312)
theorem dL_law_313 : decode cL_law 313 = .ok (.iload 4, 2) := dk_1 (f := Jvm.ClassFile.Instr.iload) (lwg_9 25 0x15 rfl) (lwg_9 26 0x04 rfl) (dkk_21 313) rfl
theorem dL_law_315 : decode cL_law 315 = .ok (.iconst 2, 1) := dk_0 (lwg_9 27 0x05 rfl) (dkk_5 315)
theorem dL_law_316 : decode cL_law 316 = .ok (.iadd, 1) := dk_0 (lwg_9 28 0x60 rfl) (dkk_96 316)
theorem dL_law_317 : decode cL_law 317 = .ok (.iaload, 1) := dk_0 (lwg_9 29 0x2e rfl) (dkk_46 317)
theorem dL_law_318 : decode cL_law 318 = .ok (.aload_n 0, 1) := dk_0 (lwg_9 30 0x2a rfl) (dkk_42 318)
theorem dL_law_319 : decode cL_law 319 = .ok (.iload 4, 2) := dk_1 (f := Jvm.ClassFile.Instr.iload) (lwg_9 31 0x15 rfl) (lwg_10 0 0x04 rfl) (dkk_21 319) rfl
theorem dL_law_321 : decode cL_law 321 = .ok (.iconst 3, 1) := dk_0 (lwg_10 1 0x06 rfl) (dkk_6 321)
theorem dL_law_322 : decode cL_law 322 = .ok (.iadd, 1) := dk_0 (lwg_10 2 0x60 rfl) (dkk_96 322)
theorem dL_law_323 : decode cL_law 323 = .ok (.iaload, 1) := dk_0 (lwg_10 3 0x2e rfl) (dkk_46 323)
theorem dL_law_324 : decode cL_law 324 = .ok (.invokevirtual 151, 3) := dk_2 (f := Jvm.ClassFile.Instr.invokevirtual) (lwg_10 4 0xb6 rfl) (lwg_10 5 0x00 rfl) (lwg_10 6 0x97 rfl) (dkk_182 324) rfl
theorem dL_law_327 : decode cL_law 327 = .ok (.istore 6, 2) := dk_1 (f := Jvm.ClassFile.Instr.istore) (lwg_10 7 0x36 rfl) (lwg_10 8 0x06 rfl) (dkk_54 327) rfl
theorem dL_law_329 : decode cL_law 329 = .ok (.goto 1484, 3) := dk_2s (f := Jvm.ClassFile.Instr.goto) (lwg_10 9 0xa7 rfl) (lwg_10 10 0x05 rfl) (lwg_10 11 0xcc rfl) (dkk_167 329) (by decide +kernel)
theorem dL_law_332 : decode cL_law 332 = .ok (.aload_n 1, 1) := dk_0 (lwg_10 12 0x2b rfl) (dkk_43 332)
theorem dL_law_333 : decode cL_law 333 = .ok (.aload_n 0, 1) := dk_0 (lwg_10 13 0x2a rfl) (dkk_42 333)
theorem dL_law_334 : decode cL_law 334 = .ok (.iload 4, 2) := dk_1 (f := Jvm.ClassFile.Instr.iload) (lwg_10 14 0x15 rfl) (lwg_10 15 0x04 rfl) (dkk_21 334) rfl
theorem dL_law_336 : decode cL_law 336 = .ok (.iconst 1, 1) := dk_0 (lwg_10 16 0x04 rfl) (dkk_4 336)
theorem dL_law_337 : decode cL_law 337 = .ok (.iadd, 1) := dk_0 (lwg_10 17 0x60 rfl) (dkk_96 337)
theorem dL_law_338 : decode cL_law 338 = .ok (.iaload, 1) := dk_0 (lwg_10 18 0x2e rfl) (dkk_46 338)
theorem dL_law_339 : decode cL_law 339 = .ok (.aload_n 0, 1) := dk_0 (lwg_10 19 0x2a rfl) (dkk_42 339)
theorem dL_law_340 : decode cL_law 340 = .ok (.iload 4, 2) := dk_1 (f := Jvm.ClassFile.Instr.iload) (lwg_10 20 0x15 rfl) (lwg_10 21 0x04 rfl) (dkk_21 340) rfl
theorem dL_law_342 : decode cL_law 342 = .ok (.iconst 2, 1) := dk_0 (lwg_10 22 0x05 rfl) (dkk_5 342)
theorem dL_law_343 : decode cL_law 343 = .ok (.iadd, 1) := dk_0 (lwg_10 23 0x60 rfl) (dkk_96 343)
theorem dL_law_344 : decode cL_law 344 = .ok (.iaload, 1) := dk_0 (lwg_10 24 0x2e rfl) (dkk_46 344)
theorem dL_law_345 : decode cL_law 345 = .ok (.aload_n 3, 1) := dk_0 (lwg_10 25 0x2d rfl) (dkk_45 345)
theorem dL_law_346 : decode cL_law 346 = .ok (.invokestatic 152, 3) := dk_2 (f := Jvm.ClassFile.Instr.invokestatic) (lwg_10 26 0xb8 rfl) (lwg_10 27 0x00 rfl) (lwg_10 28 0x98 rfl) (dkk_184 346) rfl
theorem dL_law_349 : decode cL_law 349 = .ok (.istore 5, 2) := dk_1 (f := Jvm.ClassFile.Instr.istore) (lwg_10 29 0x36 rfl) (lwg_10 30 0x05 rfl) (dkk_54 349) rfl
theorem dL_law_351 : decode cL_law 351 = .ok (.aload_n 2, 1) := dk_0 (lwg_10 31 0x2c rfl) (dkk_44 351)
theorem dL_law_352 : decode cL_law 352 = .ok (.aload_n 0, 1) := dk_0 (lwg_11 0 0x2a rfl) (dkk_42 352)
theorem dL_law_353 : decode cL_law 353 = .ok (.iload 4, 2) := dk_1 (f := Jvm.ClassFile.Instr.iload) (lwg_11 1 0x15 rfl) (lwg_11 2 0x04 rfl) (dkk_21 353) rfl
theorem dL_law_355 : decode cL_law 355 = .ok (.iconst 1, 1) := dk_0 (lwg_11 3 0x04 rfl) (dkk_4 355)
theorem dL_law_356 : decode cL_law 356 = .ok (.iadd, 1) := dk_0 (lwg_11 4 0x60 rfl) (dkk_96 356)
theorem dL_law_357 : decode cL_law 357 = .ok (.iaload, 1) := dk_0 (lwg_11 5 0x2e rfl) (dkk_46 357)
theorem dL_law_358 : decode cL_law 358 = .ok (.aload_n 0, 1) := dk_0 (lwg_11 6 0x2a rfl) (dkk_42 358)
theorem dL_law_359 : decode cL_law 359 = .ok (.iload 4, 2) := dk_1 (f := Jvm.ClassFile.Instr.iload) (lwg_11 7 0x15 rfl) (lwg_11 8 0x04 rfl) (dkk_21 359) rfl
theorem dL_law_361 : decode cL_law 361 = .ok (.iconst 2, 1) := dk_0 (lwg_11 9 0x05 rfl) (dkk_5 361)
theorem dL_law_362 : decode cL_law 362 = .ok (.iadd, 1) := dk_0 (lwg_11 10 0x60 rfl) (dkk_96 362)
theorem dL_law_363 : decode cL_law 363 = .ok (.iaload, 1) := dk_0 (lwg_11 11 0x2e rfl) (dkk_46 363)
theorem dL_law_364 : decode cL_law 364 = .ok (.invokevirtual 155, 3) := dk_2 (f := Jvm.ClassFile.Instr.invokevirtual) (lwg_11 12 0xb6 rfl) (lwg_11 13 0x00 rfl) (lwg_11 14 0x9b rfl) (dkk_182 364) rfl
theorem dL_law_367 : decode cL_law 367 = .ok (.istore 6, 2) := dk_1 (f := Jvm.ClassFile.Instr.istore) (lwg_11 15 0x36 rfl) (lwg_11 16 0x06 rfl) (dkk_54 367) rfl
theorem dL_law_369 : decode cL_law 369 = .ok (.aload_n 2, 1) := dk_0 (lwg_11 17 0x2c rfl) (dkk_44 369)
theorem dL_law_370 : decode cL_law 370 = .ok (.invokevirtual 156, 3) := dk_2 (f := Jvm.ClassFile.Instr.invokevirtual) (lwg_11 18 0xb6 rfl) (lwg_11 19 0x00 rfl) (lwg_11 20 0x9c rfl) (dkk_182 370) rfl
theorem dL_law_373 : decode cL_law 373 = .ok (.iload 5, 2) := dk_1 (f := Jvm.ClassFile.Instr.iload) (lwg_11 21 0x15 rfl) (lwg_11 22 0x05 rfl) (dkk_21 373) rfl
theorem dL_law_375 : decode cL_law 375 = .ok (.if_icmp .eq 5, 3) := dk_2s (f := fun z => Jvm.ClassFile.Instr.if_icmp .eq z) (lwg_11 23 0x9f rfl) (lwg_11 24 0x00 rfl) (lwg_11 25 0x05 rfl) (dkk_159 375) (by decide +kernel)
theorem dL_law_378 : decode cL_law 378 = .ok (.iconst 0, 1) := dk_0 (lwg_11 26 0x03 rfl) (dkk_3 378)
theorem dL_law_379 : decode cL_law 379 = .ok (.ireturn, 1) := dk_0 (lwg_11 27 0xac rfl) (dkk_172 379)
theorem dL_law_380 : decode cL_law 380 = .ok (.iload 5, 2) := dk_1 (f := Jvm.ClassFile.Instr.iload) (lwg_11 28 0x15 rfl) (lwg_11 29 0x05 rfl) (dkk_21 380) rfl
theorem dL_law_382 : decode cL_law 382 = .ok (.ifCond .ne 16, 3) := dk_2s (f := fun z => Jvm.ClassFile.Instr.ifCond .ne z) (lwg_11 30 0x9a rfl) (lwg_11 31 0x00 rfl) (lwg_12 0 0x10 rfl) (dkk_154 382) (by decide +kernel)
theorem dL_law_385 : decode cL_law 385 = .ok (.aload_n 3, 1) := dk_0 (lwg_12 1 0x2d rfl) (dkk_45 385)
theorem dL_law_386 : decode cL_law 386 = .ok (.getfield 13, 3) := dk_2 (f := Jvm.ClassFile.Instr.getfield) (lwg_12 2 0xb4 rfl) (lwg_12 3 0x00 rfl) (lwg_12 4 0x0d rfl) (dkk_180 386) rfl
theorem dL_law_389 : decode cL_law 389 = .ok (.iload 6, 2) := dk_1 (f := Jvm.ClassFile.Instr.iload) (lwg_12 5 0x15 rfl) (lwg_12 6 0x06 rfl) (dkk_21 389) rfl
theorem dL_law_391 : decode cL_law 391 = .ok (.i2l, 1) := dk_0 (lwg_12 7 0x85 rfl) (dkk_133 391)
theorem dL_law_392 : decode cL_law 392 = .ok (.lcmp, 1) := dk_0 (lwg_12 8 0x94 rfl) (dkk_148 392)
theorem dL_law_393 : decode cL_law 393 = .ok (.ifCond .eq 5, 3) := dk_2s (f := fun z => Jvm.ClassFile.Instr.ifCond .eq z) (lwg_12 9 0x99 rfl) (lwg_12 10 0x00 rfl) (lwg_12 11 0x05 rfl) (dkk_153 393) (by decide +kernel)
theorem dL_law_396 : decode cL_law 396 = .ok (.iconst 0, 1) := dk_0 (lwg_12 12 0x03 rfl) (dkk_3 396)
theorem dL_law_397 : decode cL_law 397 = .ok (.ireturn, 1) := dk_0 (lwg_12 13 0xac rfl) (dkk_172 397)
theorem dL_law_398 : decode cL_law 398 = .ok (.goto 1415, 3) := dk_2s (f := Jvm.ClassFile.Instr.goto) (lwg_12 14 0xa7 rfl) (lwg_12 15 0x05 rfl) (lwg_12 16 0x87 rfl) (dkk_167 398) (by decide +kernel)
theorem dL_law_401 : decode cL_law 401 = .ok (.aload_n 1, 1) := dk_0 (lwg_12 17 0x2b rfl) (dkk_43 401)
theorem dL_law_402 : decode cL_law 402 = .ok (.aload_n 0, 1) := dk_0 (lwg_12 18 0x2a rfl) (dkk_42 402)
theorem dL_law_403 : decode cL_law 403 = .ok (.iload 4, 2) := dk_1 (f := Jvm.ClassFile.Instr.iload) (lwg_12 19 0x15 rfl) (lwg_12 20 0x04 rfl) (dkk_21 403) rfl
theorem dL_law_405 : decode cL_law 405 = .ok (.iconst 1, 1) := dk_0 (lwg_12 21 0x04 rfl) (dkk_4 405)
theorem dL_law_406 : decode cL_law 406 = .ok (.iadd, 1) := dk_0 (lwg_12 22 0x60 rfl) (dkk_96 406)
theorem dL_law_407 : decode cL_law 407 = .ok (.iaload, 1) := dk_0 (lwg_12 23 0x2e rfl) (dkk_46 407)
theorem dL_law_408 : decode cL_law 408 = .ok (.aload_n 0, 1) := dk_0 (lwg_12 24 0x2a rfl) (dkk_42 408)
theorem dL_law_409 : decode cL_law 409 = .ok (.iload 4, 2) := dk_1 (f := Jvm.ClassFile.Instr.iload) (lwg_12 25 0x15 rfl) (lwg_12 26 0x04 rfl) (dkk_21 409) rfl
theorem dL_law_411 : decode cL_law 411 = .ok (.iconst 2, 1) := dk_0 (lwg_12 27 0x05 rfl) (dkk_5 411)
theorem dL_law_412 : decode cL_law 412 = .ok (.iadd, 1) := dk_0 (lwg_12 28 0x60 rfl) (dkk_96 412)
theorem dL_law_413 : decode cL_law 413 = .ok (.iaload, 1) := dk_0 (lwg_12 29 0x2e rfl) (dkk_46 413)
theorem dL_law_414 : decode cL_law 414 = .ok (.aload_n 3, 1) := dk_0 (lwg_12 30 0x2d rfl) (dkk_45 414)
theorem dL_law_415 : decode cL_law 415 = .ok (.invokestatic 160, 3) := dk_2 (f := Jvm.ClassFile.Instr.invokestatic) (lwg_12 31 0xb8 rfl) (lwg_13 0 0x00 rfl) (lwg_13 1 0xa0 rfl) (dkk_184 415) rfl
theorem dL_law_418 : decode cL_law 418 = .ok (.istore 5, 2) := dk_1 (f := Jvm.ClassFile.Instr.istore) (lwg_13 2 0x36 rfl) (lwg_13 3 0x05 rfl) (dkk_54 418) rfl
theorem dL_law_420 : decode cL_law 420 = .ok (.aload_n 2, 1) := dk_0 (lwg_13 4 0x2c rfl) (dkk_44 420)
theorem dL_law_421 : decode cL_law 421 = .ok (.aload_n 0, 1) := dk_0 (lwg_13 5 0x2a rfl) (dkk_42 421)
theorem dL_law_422 : decode cL_law 422 = .ok (.iload 4, 2) := dk_1 (f := Jvm.ClassFile.Instr.iload) (lwg_13 6 0x15 rfl) (lwg_13 7 0x04 rfl) (dkk_21 422) rfl
theorem dL_law_424 : decode cL_law 424 = .ok (.iconst 1, 1) := dk_0 (lwg_13 8 0x04 rfl) (dkk_4 424)
theorem dL_law_425 : decode cL_law 425 = .ok (.iadd, 1) := dk_0 (lwg_13 9 0x60 rfl) (dkk_96 425)
theorem dL_law_426 : decode cL_law 426 = .ok (.iaload, 1) := dk_0 (lwg_13 10 0x2e rfl) (dkk_46 426)
theorem dL_law_427 : decode cL_law 427 = .ok (.aload_n 0, 1) := dk_0 (lwg_13 11 0x2a rfl) (dkk_42 427)
theorem dL_law_428 : decode cL_law 428 = .ok (.iload 4, 2) := dk_1 (f := Jvm.ClassFile.Instr.iload) (lwg_13 12 0x15 rfl) (lwg_13 13 0x04 rfl) (dkk_21 428) rfl
theorem dL_law_430 : decode cL_law 430 = .ok (.iconst 2, 1) := dk_0 (lwg_13 14 0x05 rfl) (dkk_5 430)
theorem dL_law_431 : decode cL_law 431 = .ok (.iadd, 1) := dk_0 (lwg_13 15 0x60 rfl) (dkk_96 431)
theorem dL_law_432 : decode cL_law 432 = .ok (.iaload, 1) := dk_0 (lwg_13 16 0x2e rfl) (dkk_46 432)
theorem dL_law_433 : decode cL_law 433 = .ok (.invokevirtual 162, 3) := dk_2 (f := Jvm.ClassFile.Instr.invokevirtual) (lwg_13 17 0xb6 rfl) (lwg_13 18 0x00 rfl) (lwg_13 19 0xa2 rfl) (dkk_182 433) rfl
theorem dL_law_436 : decode cL_law 436 = .ok (.istore 6, 2) := dk_1 (f := Jvm.ClassFile.Instr.istore) (lwg_13 20 0x36 rfl) (lwg_13 21 0x06 rfl) (dkk_54 436) rfl
theorem dL_law_438 : decode cL_law 438 = .ok (.goto 1375, 3) := dk_2s (f := Jvm.ClassFile.Instr.goto) (lwg_13 22 0xa7 rfl) (lwg_13 23 0x05 rfl) (lwg_13 24 0x5f rfl) (dkk_167 438) (by decide +kernel)
theorem dL_law_441 : decode cL_law 441 = .ok (.aload_n 1, 1) := dk_0 (lwg_13 25 0x2b rfl) (dkk_43 441)
theorem dL_law_442 : decode cL_law 442 = .ok (.aload_n 0, 1) := dk_0 (lwg_13 26 0x2a rfl) (dkk_42 442)
theorem dL_law_443 : decode cL_law 443 = .ok (.iload 4, 2) := dk_1 (f := Jvm.ClassFile.Instr.iload) (lwg_13 27 0x15 rfl) (lwg_13 28 0x04 rfl) (dkk_21 443) rfl
theorem dL_law_445 : decode cL_law 445 = .ok (.iconst 1, 1) := dk_0 (lwg_13 29 0x04 rfl) (dkk_4 445)
theorem dL_law_446 : decode cL_law 446 = .ok (.iadd, 1) := dk_0 (lwg_13 30 0x60 rfl) (dkk_96 446)
theorem dL_law_447 : decode cL_law 447 = .ok (.iaload, 1) := dk_0 (lwg_13 31 0x2e rfl) (dkk_46 447)
theorem dL_law_448 : decode cL_law 448 = .ok (.aload_n 0, 1) := dk_0 (lwg_14 0 0x2a rfl) (dkk_42 448)
theorem dL_law_449 : decode cL_law 449 = .ok (.iload 4, 2) := dk_1 (f := Jvm.ClassFile.Instr.iload) (lwg_14 1 0x15 rfl) (lwg_14 2 0x04 rfl) (dkk_21 449) rfl
theorem dL_law_451 : decode cL_law 451 = .ok (.iconst 2, 1) := dk_0 (lwg_14 3 0x05 rfl) (dkk_5 451)
theorem dL_law_452 : decode cL_law 452 = .ok (.iadd, 1) := dk_0 (lwg_14 4 0x60 rfl) (dkk_96 452)
theorem dL_law_453 : decode cL_law 453 = .ok (.iaload, 1) := dk_0 (lwg_14 5 0x2e rfl) (dkk_46 453)
theorem dL_law_454 : decode cL_law 454 = .ok (.aload_n 0, 1) := dk_0 (lwg_14 6 0x2a rfl) (dkk_42 454)
theorem dL_law_455 : decode cL_law 455 = .ok (.iload 4, 2) := dk_1 (f := Jvm.ClassFile.Instr.iload) (lwg_14 7 0x15 rfl) (lwg_14 8 0x04 rfl) (dkk_21 455) rfl
theorem dL_law_457 : decode cL_law 457 = .ok (.iconst 3, 1) := dk_0 (lwg_14 9 0x06 rfl) (dkk_6 457)
theorem dL_law_458 : decode cL_law 458 = .ok (.iadd, 1) := dk_0 (lwg_14 10 0x60 rfl) (dkk_96 458)
theorem dL_law_459 : decode cL_law 459 = .ok (.iaload, 1) := dk_0 (lwg_14 11 0x2e rfl) (dkk_46 459)
theorem dL_law_460 : decode cL_law 460 = .ok (.aload_n 3, 1) := dk_0 (lwg_14 12 0x2d rfl) (dkk_45 460)
theorem dL_law_461 : decode cL_law 461 = .ok (.invokestatic 163, 3) := dk_2 (f := Jvm.ClassFile.Instr.invokestatic) (lwg_14 13 0xb8 rfl) (lwg_14 14 0x00 rfl) (lwg_14 15 0xa3 rfl) (dkk_184 461) rfl
theorem dL_law_464 : decode cL_law 464 = .ok (.istore 5, 2) := dk_1 (f := Jvm.ClassFile.Instr.istore) (lwg_14 16 0x36 rfl) (lwg_14 17 0x05 rfl) (dkk_54 464) rfl
theorem dL_law_466 : decode cL_law 466 = .ok (.aload_n 2, 1) := dk_0 (lwg_14 18 0x2c rfl) (dkk_44 466)
theorem dL_law_467 : decode cL_law 467 = .ok (.aload_n 0, 1) := dk_0 (lwg_14 19 0x2a rfl) (dkk_42 467)
theorem dL_law_468 : decode cL_law 468 = .ok (.iload 4, 2) := dk_1 (f := Jvm.ClassFile.Instr.iload) (lwg_14 20 0x15 rfl) (lwg_14 21 0x04 rfl) (dkk_21 468) rfl
theorem dL_law_470 : decode cL_law 470 = .ok (.iconst 1, 1) := dk_0 (lwg_14 22 0x04 rfl) (dkk_4 470)
theorem dL_law_471 : decode cL_law 471 = .ok (.iadd, 1) := dk_0 (lwg_14 23 0x60 rfl) (dkk_96 471)
theorem dL_law_472 : decode cL_law 472 = .ok (.iaload, 1) := dk_0 (lwg_14 24 0x2e rfl) (dkk_46 472)
theorem dL_law_473 : decode cL_law 473 = .ok (.aload_n 0, 1) := dk_0 (lwg_14 25 0x2a rfl) (dkk_42 473)
theorem dL_law_474 : decode cL_law 474 = .ok (.iload 4, 2) := dk_1 (f := Jvm.ClassFile.Instr.iload) (lwg_14 26 0x15 rfl) (lwg_14 27 0x04 rfl) (dkk_21 474) rfl
theorem dL_law_476 : decode cL_law 476 = .ok (.iconst 2, 1) := dk_0 (lwg_14 28 0x05 rfl) (dkk_5 476)
theorem dL_law_477 : decode cL_law 477 = .ok (.iadd, 1) := dk_0 (lwg_14 29 0x60 rfl) (dkk_96 477)
theorem dL_law_478 : decode cL_law 478 = .ok (.iaload, 1) := dk_0 (lwg_14 30 0x2e rfl) (dkk_46 478)
theorem dL_law_479 : decode cL_law 479 = .ok (.aload_n 0, 1) := dk_0 (lwg_14 31 0x2a rfl) (dkk_42 479)
theorem dL_law_480 : decode cL_law 480 = .ok (.iload 4, 2) := dk_1 (f := Jvm.ClassFile.Instr.iload) (lwg_15 0 0x15 rfl) (lwg_15 1 0x04 rfl) (dkk_21 480) rfl
theorem dL_law_482 : decode cL_law 482 = .ok (.iconst 3, 1) := dk_0 (lwg_15 2 0x06 rfl) (dkk_6 482)
theorem dL_law_483 : decode cL_law 483 = .ok (.iadd, 1) := dk_0 (lwg_15 3 0x60 rfl) (dkk_96 483)
theorem dL_law_484 : decode cL_law 484 = .ok (.iaload, 1) := dk_0 (lwg_15 4 0x2e rfl) (dkk_46 484)
theorem dL_law_485 : decode cL_law 485 = .ok (.invokevirtual 165, 3) := dk_2 (f := Jvm.ClassFile.Instr.invokevirtual) (lwg_15 5 0xb6 rfl) (lwg_15 6 0x00 rfl) (lwg_15 7 0xa5 rfl) (dkk_182 485) rfl
theorem dL_law_488 : decode cL_law 488 = .ok (.istore 6, 2) := dk_1 (f := Jvm.ClassFile.Instr.istore) (lwg_15 8 0x36 rfl) (lwg_15 9 0x06 rfl) (dkk_54 488) rfl
theorem dL_law_490 : decode cL_law 490 = .ok (.goto 1323, 3) := dk_2s (f := Jvm.ClassFile.Instr.goto) (lwg_15 10 0xa7 rfl) (lwg_15 11 0x05 rfl) (lwg_15 12 0x2b rfl) (dkk_167 490) (by decide +kernel)
theorem dL_law_493 : decode cL_law 493 = .ok (.aload_n 1, 1) := dk_0 (lwg_15 13 0x2b rfl) (dkk_43 493)
theorem dL_law_494 : decode cL_law 494 = .ok (.aload_n 0, 1) := dk_0 (lwg_15 14 0x2a rfl) (dkk_42 494)
theorem dL_law_495 : decode cL_law 495 = .ok (.iload 4, 2) := dk_1 (f := Jvm.ClassFile.Instr.iload) (lwg_15 15 0x15 rfl) (lwg_15 16 0x04 rfl) (dkk_21 495) rfl
theorem dL_law_497 : decode cL_law 497 = .ok (.iconst 1, 1) := dk_0 (lwg_15 17 0x04 rfl) (dkk_4 497)
theorem dL_law_498 : decode cL_law 498 = .ok (.iadd, 1) := dk_0 (lwg_15 18 0x60 rfl) (dkk_96 498)
theorem dL_law_499 : decode cL_law 499 = .ok (.iaload, 1) := dk_0 (lwg_15 19 0x2e rfl) (dkk_46 499)
theorem dL_law_500 : decode cL_law 500 = .ok (.aload_n 0, 1) := dk_0 (lwg_15 20 0x2a rfl) (dkk_42 500)
theorem dL_law_501 : decode cL_law 501 = .ok (.iload 4, 2) := dk_1 (f := Jvm.ClassFile.Instr.iload) (lwg_15 21 0x15 rfl) (lwg_15 22 0x04 rfl) (dkk_21 501) rfl
theorem dL_law_503 : decode cL_law 503 = .ok (.iconst 2, 1) := dk_0 (lwg_15 23 0x05 rfl) (dkk_5 503)
theorem dL_law_504 : decode cL_law 504 = .ok (.iadd, 1) := dk_0 (lwg_15 24 0x60 rfl) (dkk_96 504)
theorem dL_law_505 : decode cL_law 505 = .ok (.iaload, 1) := dk_0 (lwg_15 25 0x2e rfl) (dkk_46 505)
theorem dL_law_506 : decode cL_law 506 = .ok (.aload_n 0, 1) := dk_0 (lwg_15 26 0x2a rfl) (dkk_42 506)
theorem dL_law_507 : decode cL_law 507 = .ok (.iload 4, 2) := dk_1 (f := Jvm.ClassFile.Instr.iload) (lwg_15 27 0x15 rfl) (lwg_15 28 0x04 rfl) (dkk_21 507) rfl
theorem dL_law_509 : decode cL_law 509 = .ok (.iconst 3, 1) := dk_0 (lwg_15 29 0x06 rfl) (dkk_6 509)
theorem dL_law_510 : decode cL_law 510 = .ok (.iadd, 1) := dk_0 (lwg_15 30 0x60 rfl) (dkk_96 510)
theorem dL_law_511 : decode cL_law 511 = .ok (.iaload, 1) := dk_0 (lwg_15 31 0x2e rfl) (dkk_46 511)
theorem dL_law_512 : decode cL_law 512 = .ok (.aload_n 3, 1) := dk_0 (lwg_16 0 0x2d rfl) (dkk_45 512)
theorem dL_law_513 : decode cL_law 513 = .ok (.invokestatic 166, 3) := dk_2 (f := Jvm.ClassFile.Instr.invokestatic) (lwg_16 1 0xb8 rfl) (lwg_16 2 0x00 rfl) (lwg_16 3 0xa6 rfl) (dkk_184 513) rfl
theorem dL_law_516 : decode cL_law 516 = .ok (.istore 5, 2) := dk_1 (f := Jvm.ClassFile.Instr.istore) (lwg_16 4 0x36 rfl) (lwg_16 5 0x05 rfl) (dkk_54 516) rfl
theorem dL_law_518 : decode cL_law 518 = .ok (.aload_n 2, 1) := dk_0 (lwg_16 6 0x2c rfl) (dkk_44 518)
theorem dL_law_519 : decode cL_law 519 = .ok (.aload_n 0, 1) := dk_0 (lwg_16 7 0x2a rfl) (dkk_42 519)
theorem dL_law_520 : decode cL_law 520 = .ok (.iload 4, 2) := dk_1 (f := Jvm.ClassFile.Instr.iload) (lwg_16 8 0x15 rfl) (lwg_16 9 0x04 rfl) (dkk_21 520) rfl
theorem dL_law_522 : decode cL_law 522 = .ok (.iconst 1, 1) := dk_0 (lwg_16 10 0x04 rfl) (dkk_4 522)
theorem dL_law_523 : decode cL_law 523 = .ok (.iadd, 1) := dk_0 (lwg_16 11 0x60 rfl) (dkk_96 523)
theorem dL_law_524 : decode cL_law 524 = .ok (.iaload, 1) := dk_0 (lwg_16 12 0x2e rfl) (dkk_46 524)
theorem dL_law_525 : decode cL_law 525 = .ok (.aload_n 0, 1) := dk_0 (lwg_16 13 0x2a rfl) (dkk_42 525)
theorem dL_law_526 : decode cL_law 526 = .ok (.iload 4, 2) := dk_1 (f := Jvm.ClassFile.Instr.iload) (lwg_16 14 0x15 rfl) (lwg_16 15 0x04 rfl) (dkk_21 526) rfl
theorem dL_law_528 : decode cL_law 528 = .ok (.iconst 2, 1) := dk_0 (lwg_16 16 0x05 rfl) (dkk_5 528)
theorem dL_law_529 : decode cL_law 529 = .ok (.iadd, 1) := dk_0 (lwg_16 17 0x60 rfl) (dkk_96 529)
theorem dL_law_530 : decode cL_law 530 = .ok (.iaload, 1) := dk_0 (lwg_16 18 0x2e rfl) (dkk_46 530)
theorem dL_law_531 : decode cL_law 531 = .ok (.aload_n 0, 1) := dk_0 (lwg_16 19 0x2a rfl) (dkk_42 531)
theorem dL_law_532 : decode cL_law 532 = .ok (.iload 4, 2) := dk_1 (f := Jvm.ClassFile.Instr.iload) (lwg_16 20 0x15 rfl) (lwg_16 21 0x04 rfl) (dkk_21 532) rfl
theorem dL_law_534 : decode cL_law 534 = .ok (.iconst 3, 1) := dk_0 (lwg_16 22 0x06 rfl) (dkk_6 534)
theorem dL_law_535 : decode cL_law 535 = .ok (.iadd, 1) := dk_0 (lwg_16 23 0x60 rfl) (dkk_96 535)
theorem dL_law_536 : decode cL_law 536 = .ok (.iaload, 1) := dk_0 (lwg_16 24 0x2e rfl) (dkk_46 536)
theorem dL_law_537 : decode cL_law 537 = .ok (.invokevirtual 168, 3) := dk_2 (f := Jvm.ClassFile.Instr.invokevirtual) (lwg_16 25 0xb6 rfl) (lwg_16 26 0x00 rfl) (lwg_16 27 0xa8 rfl) (dkk_182 537) rfl
theorem dL_law_540 : decode cL_law 540 = .ok (.istore 6, 2) := dk_1 (f := Jvm.ClassFile.Instr.istore) (lwg_16 28 0x36 rfl) (lwg_16 29 0x06 rfl) (dkk_54 540) rfl
theorem dL_law_542 : decode cL_law 542 = .ok (.goto 1271, 3) := dk_2s (f := Jvm.ClassFile.Instr.goto) (lwg_16 30 0xa7 rfl) (lwg_16 31 0x04 rfl) (lwg_17 0 0xf7 rfl) (dkk_167 542) (by decide +kernel)
theorem dL_law_545 : decode cL_law 545 = .ok (.aload_n 1, 1) := dk_0 (lwg_17 1 0x2b rfl) (dkk_43 545)
theorem dL_law_546 : decode cL_law 546 = .ok (.aload_n 0, 1) := dk_0 (lwg_17 2 0x2a rfl) (dkk_42 546)
theorem dL_law_547 : decode cL_law 547 = .ok (.iload 4, 2) := dk_1 (f := Jvm.ClassFile.Instr.iload) (lwg_17 3 0x15 rfl) (lwg_17 4 0x04 rfl) (dkk_21 547) rfl
theorem dL_law_549 : decode cL_law 549 = .ok (.iconst 1, 1) := dk_0 (lwg_17 5 0x04 rfl) (dkk_4 549)
theorem dL_law_550 : decode cL_law 550 = .ok (.iadd, 1) := dk_0 (lwg_17 6 0x60 rfl) (dkk_96 550)
theorem dL_law_551 : decode cL_law 551 = .ok (.iaload, 1) := dk_0 (lwg_17 7 0x2e rfl) (dkk_46 551)
theorem dL_law_552 : decode cL_law 552 = .ok (.aload_n 0, 1) := dk_0 (lwg_17 8 0x2a rfl) (dkk_42 552)
theorem dL_law_553 : decode cL_law 553 = .ok (.iload 4, 2) := dk_1 (f := Jvm.ClassFile.Instr.iload) (lwg_17 9 0x15 rfl) (lwg_17 10 0x04 rfl) (dkk_21 553) rfl
theorem dL_law_555 : decode cL_law 555 = .ok (.iconst 2, 1) := dk_0 (lwg_17 11 0x05 rfl) (dkk_5 555)
theorem dL_law_556 : decode cL_law 556 = .ok (.iadd, 1) := dk_0 (lwg_17 12 0x60 rfl) (dkk_96 556)
theorem dL_law_557 : decode cL_law 557 = .ok (.iaload, 1) := dk_0 (lwg_17 13 0x2e rfl) (dkk_46 557)
theorem dL_law_558 : decode cL_law 558 = .ok (.aload_n 0, 1) := dk_0 (lwg_17 14 0x2a rfl) (dkk_42 558)
theorem dL_law_559 : decode cL_law 559 = .ok (.iload 4, 2) := dk_1 (f := Jvm.ClassFile.Instr.iload) (lwg_17 15 0x15 rfl) (lwg_17 16 0x04 rfl) (dkk_21 559) rfl
theorem dL_law_561 : decode cL_law 561 = .ok (.iconst 3, 1) := dk_0 (lwg_17 17 0x06 rfl) (dkk_6 561)
theorem dL_law_562 : decode cL_law 562 = .ok (.iadd, 1) := dk_0 (lwg_17 18 0x60 rfl) (dkk_96 562)
theorem dL_law_563 : decode cL_law 563 = .ok (.iaload, 1) := dk_0 (lwg_17 19 0x2e rfl) (dkk_46 563)
theorem dL_law_564 : decode cL_law 564 = .ok (.aload_n 3, 1) := dk_0 (lwg_17 20 0x2d rfl) (dkk_45 564)
theorem dL_law_565 : decode cL_law 565 = .ok (.invokestatic 169, 3) := dk_2 (f := Jvm.ClassFile.Instr.invokestatic) (lwg_17 21 0xb8 rfl) (lwg_17 22 0x00 rfl) (lwg_17 23 0xa9 rfl) (dkk_184 565) rfl
theorem dL_law_568 : decode cL_law 568 = .ok (.istore 5, 2) := dk_1 (f := Jvm.ClassFile.Instr.istore) (lwg_17 24 0x36 rfl) (lwg_17 25 0x05 rfl) (dkk_54 568) rfl
theorem dL_law_570 : decode cL_law 570 = .ok (.aload_n 2, 1) := dk_0 (lwg_17 26 0x2c rfl) (dkk_44 570)
theorem dL_law_571 : decode cL_law 571 = .ok (.aload_n 0, 1) := dk_0 (lwg_17 27 0x2a rfl) (dkk_42 571)
theorem dL_law_572 : decode cL_law 572 = .ok (.iload 4, 2) := dk_1 (f := Jvm.ClassFile.Instr.iload) (lwg_17 28 0x15 rfl) (lwg_17 29 0x04 rfl) (dkk_21 572) rfl
theorem dL_law_574 : decode cL_law 574 = .ok (.iconst 1, 1) := dk_0 (lwg_17 30 0x04 rfl) (dkk_4 574)
theorem dL_law_575 : decode cL_law 575 = .ok (.iadd, 1) := dk_0 (lwg_17 31 0x60 rfl) (dkk_96 575)
theorem dL_law_576 : decode cL_law 576 = .ok (.iaload, 1) := dk_0 (lwg_18 0 0x2e rfl) (dkk_46 576)
theorem dL_law_577 : decode cL_law 577 = .ok (.aload_n 0, 1) := dk_0 (lwg_18 1 0x2a rfl) (dkk_42 577)
theorem dL_law_578 : decode cL_law 578 = .ok (.iload 4, 2) := dk_1 (f := Jvm.ClassFile.Instr.iload) (lwg_18 2 0x15 rfl) (lwg_18 3 0x04 rfl) (dkk_21 578) rfl
theorem dL_law_580 : decode cL_law 580 = .ok (.iconst 2, 1) := dk_0 (lwg_18 4 0x05 rfl) (dkk_5 580)
theorem dL_law_581 : decode cL_law 581 = .ok (.iadd, 1) := dk_0 (lwg_18 5 0x60 rfl) (dkk_96 581)
theorem dL_law_582 : decode cL_law 582 = .ok (.iaload, 1) := dk_0 (lwg_18 6 0x2e rfl) (dkk_46 582)
theorem dL_law_583 : decode cL_law 583 = .ok (.aload_n 0, 1) := dk_0 (lwg_18 7 0x2a rfl) (dkk_42 583)
theorem dL_law_584 : decode cL_law 584 = .ok (.iload 4, 2) := dk_1 (f := Jvm.ClassFile.Instr.iload) (lwg_18 8 0x15 rfl) (lwg_18 9 0x04 rfl) (dkk_21 584) rfl
theorem dL_law_586 : decode cL_law 586 = .ok (.iconst 3, 1) := dk_0 (lwg_18 10 0x06 rfl) (dkk_6 586)
theorem dL_law_587 : decode cL_law 587 = .ok (.iadd, 1) := dk_0 (lwg_18 11 0x60 rfl) (dkk_96 587)
theorem dL_law_588 : decode cL_law 588 = .ok (.iaload, 1) := dk_0 (lwg_18 12 0x2e rfl) (dkk_46 588)
theorem dL_law_589 : decode cL_law 589 = .ok (.invokevirtual 171, 3) := dk_2 (f := Jvm.ClassFile.Instr.invokevirtual) (lwg_18 13 0xb6 rfl) (lwg_18 14 0x00 rfl) (lwg_18 15 0xab rfl) (dkk_182 589) rfl
theorem dL_law_592 : decode cL_law 592 = .ok (.istore 6, 2) := dk_1 (f := Jvm.ClassFile.Instr.istore) (lwg_18 16 0x36 rfl) (lwg_18 17 0x06 rfl) (dkk_54 592) rfl
theorem dL_law_594 : decode cL_law 594 = .ok (.goto 1219, 3) := dk_2s (f := Jvm.ClassFile.Instr.goto) (lwg_18 18 0xa7 rfl) (lwg_18 19 0x04 rfl) (lwg_18 20 0xc3 rfl) (dkk_167 594) (by decide +kernel)
theorem dL_law_597 : decode cL_law 597 = .ok (.aload_n 1, 1) := dk_0 (lwg_18 21 0x2b rfl) (dkk_43 597)
theorem dL_law_598 : decode cL_law 598 = .ok (.aload_n 0, 1) := dk_0 (lwg_18 22 0x2a rfl) (dkk_42 598)
theorem dL_law_599 : decode cL_law 599 = .ok (.iload 4, 2) := dk_1 (f := Jvm.ClassFile.Instr.iload) (lwg_18 23 0x15 rfl) (lwg_18 24 0x04 rfl) (dkk_21 599) rfl
theorem dL_law_601 : decode cL_law 601 = .ok (.iconst 1, 1) := dk_0 (lwg_18 25 0x04 rfl) (dkk_4 601)
theorem dL_law_602 : decode cL_law 602 = .ok (.iadd, 1) := dk_0 (lwg_18 26 0x60 rfl) (dkk_96 602)
theorem dL_law_603 : decode cL_law 603 = .ok (.iaload, 1) := dk_0 (lwg_18 27 0x2e rfl) (dkk_46 603)
theorem dL_law_604 : decode cL_law 604 = .ok (.aload_n 0, 1) := dk_0 (lwg_18 28 0x2a rfl) (dkk_42 604)
theorem dL_law_605 : decode cL_law 605 = .ok (.iload 4, 2) := dk_1 (f := Jvm.ClassFile.Instr.iload) (lwg_18 29 0x15 rfl) (lwg_18 30 0x04 rfl) (dkk_21 605) rfl
theorem dL_law_607 : decode cL_law 607 = .ok (.iconst 2, 1) := dk_0 (lwg_18 31 0x05 rfl) (dkk_5 607)
theorem dL_law_608 : decode cL_law 608 = .ok (.iadd, 1) := dk_0 (lwg_19 0 0x60 rfl) (dkk_96 608)
theorem dL_law_609 : decode cL_law 609 = .ok (.iaload, 1) := dk_0 (lwg_19 1 0x2e rfl) (dkk_46 609)
theorem dL_law_610 : decode cL_law 610 = .ok (.aload_n 0, 1) := dk_0 (lwg_19 2 0x2a rfl) (dkk_42 610)
theorem dL_law_611 : decode cL_law 611 = .ok (.iload 4, 2) := dk_1 (f := Jvm.ClassFile.Instr.iload) (lwg_19 3 0x15 rfl) (lwg_19 4 0x04 rfl) (dkk_21 611) rfl
theorem dL_law_613 : decode cL_law 613 = .ok (.iconst 3, 1) := dk_0 (lwg_19 5 0x06 rfl) (dkk_6 613)
theorem dL_law_614 : decode cL_law 614 = .ok (.iadd, 1) := dk_0 (lwg_19 6 0x60 rfl) (dkk_96 614)
theorem dL_law_615 : decode cL_law 615 = .ok (.iaload, 1) := dk_0 (lwg_19 7 0x2e rfl) (dkk_46 615)
theorem dL_law_616 : decode cL_law 616 = .ok (.aload_n 3, 1) := dk_0 (lwg_19 8 0x2d rfl) (dkk_45 616)
theorem dL_law_617 : decode cL_law 617 = .ok (.invokestatic 172, 3) := dk_2 (f := Jvm.ClassFile.Instr.invokestatic) (lwg_19 9 0xb8 rfl) (lwg_19 10 0x00 rfl) (lwg_19 11 0xac rfl) (dkk_184 617) rfl
theorem dL_law_620 : decode cL_law 620 = .ok (.istore 5, 2) := dk_1 (f := Jvm.ClassFile.Instr.istore) (lwg_19 12 0x36 rfl) (lwg_19 13 0x05 rfl) (dkk_54 620) rfl
theorem dL_law_622 : decode cL_law 622 = .ok (.aload_n 2, 1) := dk_0 (lwg_19 14 0x2c rfl) (dkk_44 622)
theorem dL_law_623 : decode cL_law 623 = .ok (.aload_n 0, 1) := dk_0 (lwg_19 15 0x2a rfl) (dkk_42 623)
theorem dL_law_624 : decode cL_law 624 = .ok (.iload 4, 2) := dk_1 (f := Jvm.ClassFile.Instr.iload) (lwg_19 16 0x15 rfl) (lwg_19 17 0x04 rfl) (dkk_21 624) rfl
theorem dL_law_626 : decode cL_law 626 = .ok (.iconst 1, 1) := dk_0 (lwg_19 18 0x04 rfl) (dkk_4 626)
theorem dL_law_627 : decode cL_law 627 = .ok (.iadd, 1) := dk_0 (lwg_19 19 0x60 rfl) (dkk_96 627)
theorem dL_law_628 : decode cL_law 628 = .ok (.iaload, 1) := dk_0 (lwg_19 20 0x2e rfl) (dkk_46 628)
theorem dL_law_629 : decode cL_law 629 = .ok (.aload_n 0, 1) := dk_0 (lwg_19 21 0x2a rfl) (dkk_42 629)
theorem dL_law_630 : decode cL_law 630 = .ok (.iload 4, 2) := dk_1 (f := Jvm.ClassFile.Instr.iload) (lwg_19 22 0x15 rfl) (lwg_19 23 0x04 rfl) (dkk_21 630) rfl
theorem dL_law_632 : decode cL_law 632 = .ok (.iconst 2, 1) := dk_0 (lwg_19 24 0x05 rfl) (dkk_5 632)
theorem dL_law_633 : decode cL_law 633 = .ok (.iadd, 1) := dk_0 (lwg_19 25 0x60 rfl) (dkk_96 633)
theorem dL_law_634 : decode cL_law 634 = .ok (.iaload, 1) := dk_0 (lwg_19 26 0x2e rfl) (dkk_46 634)
theorem dL_law_635 : decode cL_law 635 = .ok (.aload_n 0, 1) := dk_0 (lwg_19 27 0x2a rfl) (dkk_42 635)
theorem dL_law_636 : decode cL_law 636 = .ok (.iload 4, 2) := dk_1 (f := Jvm.ClassFile.Instr.iload) (lwg_19 28 0x15 rfl) (lwg_19 29 0x04 rfl) (dkk_21 636) rfl
theorem dL_law_638 : decode cL_law 638 = .ok (.iconst 3, 1) := dk_0 (lwg_19 30 0x06 rfl) (dkk_6 638)
theorem dL_law_639 : decode cL_law 639 = .ok (.iadd, 1) := dk_0 (lwg_19 31 0x60 rfl) (dkk_96 639)
theorem dL_law_640 : decode cL_law 640 = .ok (.iaload, 1) := dk_0 (lwg_20 0 0x2e rfl) (dkk_46 640)
theorem dL_law_641 : decode cL_law 641 = .ok (.invokevirtual 174, 3) := dk_2 (f := Jvm.ClassFile.Instr.invokevirtual) (lwg_20 1 0xb6 rfl) (lwg_20 2 0x00 rfl) (lwg_20 3 0xae rfl) (dkk_182 641) rfl
theorem dL_law_644 : decode cL_law 644 = .ok (.istore 6, 2) := dk_1 (f := Jvm.ClassFile.Instr.istore) (lwg_20 4 0x36 rfl) (lwg_20 5 0x06 rfl) (dkk_54 644) rfl
theorem dL_law_646 : decode cL_law 646 = .ok (.goto 1167, 3) := dk_2s (f := Jvm.ClassFile.Instr.goto) (lwg_20 6 0xa7 rfl) (lwg_20 7 0x04 rfl) (lwg_20 8 0x8f rfl) (dkk_167 646) (by decide +kernel)
theorem dL_law_649 : decode cL_law 649 = .ok (.aload_n 1, 1) := dk_0 (lwg_20 9 0x2b rfl) (dkk_43 649)
theorem dL_law_650 : decode cL_law 650 = .ok (.aload_n 0, 1) := dk_0 (lwg_20 10 0x2a rfl) (dkk_42 650)
theorem dL_law_651 : decode cL_law 651 = .ok (.iload 4, 2) := dk_1 (f := Jvm.ClassFile.Instr.iload) (lwg_20 11 0x15 rfl) (lwg_20 12 0x04 rfl) (dkk_21 651) rfl
theorem dL_law_653 : decode cL_law 653 = .ok (.iconst 1, 1) := dk_0 (lwg_20 13 0x04 rfl) (dkk_4 653)
theorem dL_law_654 : decode cL_law 654 = .ok (.iadd, 1) := dk_0 (lwg_20 14 0x60 rfl) (dkk_96 654)
theorem dL_law_655 : decode cL_law 655 = .ok (.iaload, 1) := dk_0 (lwg_20 15 0x2e rfl) (dkk_46 655)
theorem dL_law_656 : decode cL_law 656 = .ok (.aload_n 3, 1) := dk_0 (lwg_20 16 0x2d rfl) (dkk_45 656)
theorem dL_law_657 : decode cL_law 657 = .ok (.invokestatic 175, 3) := dk_2 (f := Jvm.ClassFile.Instr.invokestatic) (lwg_20 17 0xb8 rfl) (lwg_20 18 0x00 rfl) (lwg_20 19 0xaf rfl) (dkk_184 657) rfl
theorem dL_law_660 : decode cL_law 660 = .ok (.istore 5, 2) := dk_1 (f := Jvm.ClassFile.Instr.istore) (lwg_20 20 0x36 rfl) (lwg_20 21 0x05 rfl) (dkk_54 660) rfl
theorem dL_law_662 : decode cL_law 662 = .ok (.aload_n 2, 1) := dk_0 (lwg_20 22 0x2c rfl) (dkk_44 662)
theorem dL_law_663 : decode cL_law 663 = .ok (.aload_n 0, 1) := dk_0 (lwg_20 23 0x2a rfl) (dkk_42 663)
theorem dL_law_664 : decode cL_law 664 = .ok (.iload 4, 2) := dk_1 (f := Jvm.ClassFile.Instr.iload) (lwg_20 24 0x15 rfl) (lwg_20 25 0x04 rfl) (dkk_21 664) rfl
theorem dL_law_666 : decode cL_law 666 = .ok (.iconst 1, 1) := dk_0 (lwg_20 26 0x04 rfl) (dkk_4 666)
theorem dL_law_667 : decode cL_law 667 = .ok (.iadd, 1) := dk_0 (lwg_20 27 0x60 rfl) (dkk_96 667)
theorem dL_law_668 : decode cL_law 668 = .ok (.iaload, 1) := dk_0 (lwg_20 28 0x2e rfl) (dkk_46 668)
theorem dL_law_669 : decode cL_law 669 = .ok (.invokevirtual 178, 3) := dk_2 (f := Jvm.ClassFile.Instr.invokevirtual) (lwg_20 29 0xb6 rfl) (lwg_20 30 0x00 rfl) (lwg_20 31 0xb2 rfl) (dkk_182 669) rfl
theorem dL_law_672 : decode cL_law 672 = .ok (.istore 6, 2) := dk_1 (f := Jvm.ClassFile.Instr.istore) (lwg_21 0 0x36 rfl) (lwg_21 1 0x06 rfl) (dkk_54 672) rfl
theorem dL_law_674 : decode cL_law 674 = .ok (.goto 1139, 3) := dk_2s (f := Jvm.ClassFile.Instr.goto) (lwg_21 2 0xa7 rfl) (lwg_21 3 0x04 rfl) (lwg_21 4 0x73 rfl) (dkk_167 674) (by decide +kernel)
theorem dL_law_677 : decode cL_law 677 = .ok (.aload_n 1, 1) := dk_0 (lwg_21 5 0x2b rfl) (dkk_43 677)
theorem dL_law_678 : decode cL_law 678 = .ok (.aload_n 0, 1) := dk_0 (lwg_21 6 0x2a rfl) (dkk_42 678)
theorem dL_law_679 : decode cL_law 679 = .ok (.iload 4, 2) := dk_1 (f := Jvm.ClassFile.Instr.iload) (lwg_21 7 0x15 rfl) (lwg_21 8 0x04 rfl) (dkk_21 679) rfl
theorem dL_law_681 : decode cL_law 681 = .ok (.iconst 1, 1) := dk_0 (lwg_21 9 0x04 rfl) (dkk_4 681)
theorem dL_law_682 : decode cL_law 682 = .ok (.iadd, 1) := dk_0 (lwg_21 10 0x60 rfl) (dkk_96 682)
theorem dL_law_683 : decode cL_law 683 = .ok (.iaload, 1) := dk_0 (lwg_21 11 0x2e rfl) (dkk_46 683)
theorem dL_law_684 : decode cL_law 684 = .ok (.aload_n 3, 1) := dk_0 (lwg_21 12 0x2d rfl) (dkk_45 684)
theorem dL_law_685 : decode cL_law 685 = .ok (.invokestatic 179, 3) := dk_2 (f := Jvm.ClassFile.Instr.invokestatic) (lwg_21 13 0xb8 rfl) (lwg_21 14 0x00 rfl) (lwg_21 15 0xb3 rfl) (dkk_184 685) rfl
theorem dL_law_688 : decode cL_law 688 = .ok (.istore 5, 2) := dk_1 (f := Jvm.ClassFile.Instr.istore) (lwg_21 16 0x36 rfl) (lwg_21 17 0x05 rfl) (dkk_54 688) rfl
theorem dL_law_690 : decode cL_law 690 = .ok (.aload_n 2, 1) := dk_0 (lwg_21 18 0x2c rfl) (dkk_44 690)
theorem dL_law_691 : decode cL_law 691 = .ok (.aload_n 0, 1) := dk_0 (lwg_21 19 0x2a rfl) (dkk_42 691)
theorem dL_law_692 : decode cL_law 692 = .ok (.iload 4, 2) := dk_1 (f := Jvm.ClassFile.Instr.iload) (lwg_21 20 0x15 rfl) (lwg_21 21 0x04 rfl) (dkk_21 692) rfl
theorem dL_law_694 : decode cL_law 694 = .ok (.iconst 1, 1) := dk_0 (lwg_21 22 0x04 rfl) (dkk_4 694)
theorem dL_law_695 : decode cL_law 695 = .ok (.iadd, 1) := dk_0 (lwg_21 23 0x60 rfl) (dkk_96 695)
theorem dL_law_696 : decode cL_law 696 = .ok (.iaload, 1) := dk_0 (lwg_21 24 0x2e rfl) (dkk_46 696)
theorem dL_law_697 : decode cL_law 697 = .ok (.invokevirtual 181, 3) := dk_2 (f := Jvm.ClassFile.Instr.invokevirtual) (lwg_21 25 0xb6 rfl) (lwg_21 26 0x00 rfl) (lwg_21 27 0xb5 rfl) (dkk_182 697) rfl
theorem dL_law_700 : decode cL_law 700 = .ok (.istore 6, 2) := dk_1 (f := Jvm.ClassFile.Instr.istore) (lwg_21 28 0x36 rfl) (lwg_21 29 0x06 rfl) (dkk_54 700) rfl
theorem dL_law_702 : decode cL_law 702 = .ok (.goto 1111, 3) := dk_2s (f := Jvm.ClassFile.Instr.goto) (lwg_21 30 0xa7 rfl) (lwg_21 31 0x04 rfl) (lwg_22 0 0x57 rfl) (dkk_167 702) (by decide +kernel)
theorem dL_law_705 : decode cL_law 705 = .ok (.aload_n 1, 1) := dk_0 (lwg_22 1 0x2b rfl) (dkk_43 705)
theorem dL_law_706 : decode cL_law 706 = .ok (.aload_n 0, 1) := dk_0 (lwg_22 2 0x2a rfl) (dkk_42 706)
theorem dL_law_707 : decode cL_law 707 = .ok (.iload 4, 2) := dk_1 (f := Jvm.ClassFile.Instr.iload) (lwg_22 3 0x15 rfl) (lwg_22 4 0x04 rfl) (dkk_21 707) rfl
theorem dL_law_709 : decode cL_law 709 = .ok (.iconst 1, 1) := dk_0 (lwg_22 5 0x04 rfl) (dkk_4 709)
theorem dL_law_710 : decode cL_law 710 = .ok (.iadd, 1) := dk_0 (lwg_22 6 0x60 rfl) (dkk_96 710)
theorem dL_law_711 : decode cL_law 711 = .ok (.iaload, 1) := dk_0 (lwg_22 7 0x2e rfl) (dkk_46 711)
theorem dL_law_712 : decode cL_law 712 = .ok (.aload_n 0, 1) := dk_0 (lwg_22 8 0x2a rfl) (dkk_42 712)
theorem dL_law_713 : decode cL_law 713 = .ok (.iload 4, 2) := dk_1 (f := Jvm.ClassFile.Instr.iload) (lwg_22 9 0x15 rfl) (lwg_22 10 0x04 rfl) (dkk_21 713) rfl
theorem dL_law_715 : decode cL_law 715 = .ok (.iconst 2, 1) := dk_0 (lwg_22 11 0x05 rfl) (dkk_5 715)
theorem dL_law_716 : decode cL_law 716 = .ok (.iadd, 1) := dk_0 (lwg_22 12 0x60 rfl) (dkk_96 716)
theorem dL_law_717 : decode cL_law 717 = .ok (.iaload, 1) := dk_0 (lwg_22 13 0x2e rfl) (dkk_46 717)
theorem dL_law_718 : decode cL_law 718 = .ok (.aload_n 3, 1) := dk_0 (lwg_22 14 0x2d rfl) (dkk_45 718)
theorem dL_law_719 : decode cL_law 719 = .ok (.invokestatic 182, 3) := dk_2 (f := Jvm.ClassFile.Instr.invokestatic) (lwg_22 15 0xb8 rfl) (lwg_22 16 0x00 rfl) (lwg_22 17 0xb6 rfl) (dkk_184 719) rfl
theorem dL_law_722 : decode cL_law 722 = .ok (.istore 5, 2) := dk_1 (f := Jvm.ClassFile.Instr.istore) (lwg_22 18 0x36 rfl) (lwg_22 19 0x05 rfl) (dkk_54 722) rfl
theorem dL_law_724 : decode cL_law 724 = .ok (.aload_n 2, 1) := dk_0 (lwg_22 20 0x2c rfl) (dkk_44 724)
theorem dL_law_725 : decode cL_law 725 = .ok (.aload_n 0, 1) := dk_0 (lwg_22 21 0x2a rfl) (dkk_42 725)
theorem dL_law_726 : decode cL_law 726 = .ok (.iload 4, 2) := dk_1 (f := Jvm.ClassFile.Instr.iload) (lwg_22 22 0x15 rfl) (lwg_22 23 0x04 rfl) (dkk_21 726) rfl
theorem dL_law_728 : decode cL_law 728 = .ok (.iconst 1, 1) := dk_0 (lwg_22 24 0x04 rfl) (dkk_4 728)
theorem dL_law_729 : decode cL_law 729 = .ok (.iadd, 1) := dk_0 (lwg_22 25 0x60 rfl) (dkk_96 729)
theorem dL_law_730 : decode cL_law 730 = .ok (.iaload, 1) := dk_0 (lwg_22 26 0x2e rfl) (dkk_46 730)
theorem dL_law_731 : decode cL_law 731 = .ok (.aload_n 0, 1) := dk_0 (lwg_22 27 0x2a rfl) (dkk_42 731)
theorem dL_law_732 : decode cL_law 732 = .ok (.iload 4, 2) := dk_1 (f := Jvm.ClassFile.Instr.iload) (lwg_22 28 0x15 rfl) (lwg_22 29 0x04 rfl) (dkk_21 732) rfl
theorem dL_law_734 : decode cL_law 734 = .ok (.iconst 2, 1) := dk_0 (lwg_22 30 0x05 rfl) (dkk_5 734)
theorem dL_law_735 : decode cL_law 735 = .ok (.iadd, 1) := dk_0 (lwg_22 31 0x60 rfl) (dkk_96 735)
theorem dL_law_736 : decode cL_law 736 = .ok (.iaload, 1) := dk_0 (lwg_23 0 0x2e rfl) (dkk_46 736)
theorem dL_law_737 : decode cL_law 737 = .ok (.invokevirtual 184, 3) := dk_2 (f := Jvm.ClassFile.Instr.invokevirtual) (lwg_23 1 0xb6 rfl) (lwg_23 2 0x00 rfl) (lwg_23 3 0xb8 rfl) (dkk_182 737) rfl
theorem dL_law_740 : decode cL_law 740 = .ok (.istore 6, 2) := dk_1 (f := Jvm.ClassFile.Instr.istore) (lwg_23 4 0x36 rfl) (lwg_23 5 0x06 rfl) (dkk_54 740) rfl
theorem dL_law_742 : decode cL_law 742 = .ok (.goto 1071, 3) := dk_2s (f := Jvm.ClassFile.Instr.goto) (lwg_23 6 0xa7 rfl) (lwg_23 7 0x04 rfl) (lwg_23 8 0x2f rfl) (dkk_167 742) (by decide +kernel)
theorem dL_law_745 : decode cL_law 745 = .ok (.aload_n 1, 1) := dk_0 (lwg_23 9 0x2b rfl) (dkk_43 745)
theorem dL_law_746 : decode cL_law 746 = .ok (.aload_n 0, 1) := dk_0 (lwg_23 10 0x2a rfl) (dkk_42 746)
theorem dL_law_747 : decode cL_law 747 = .ok (.iload 4, 2) := dk_1 (f := Jvm.ClassFile.Instr.iload) (lwg_23 11 0x15 rfl) (lwg_23 12 0x04 rfl) (dkk_21 747) rfl
theorem dL_law_749 : decode cL_law 749 = .ok (.iconst 1, 1) := dk_0 (lwg_23 13 0x04 rfl) (dkk_4 749)
theorem dL_law_750 : decode cL_law 750 = .ok (.iadd, 1) := dk_0 (lwg_23 14 0x60 rfl) (dkk_96 750)
theorem dL_law_751 : decode cL_law 751 = .ok (.iaload, 1) := dk_0 (lwg_23 15 0x2e rfl) (dkk_46 751)
theorem dL_law_752 : decode cL_law 752 = .ok (.aload_n 0, 1) := dk_0 (lwg_23 16 0x2a rfl) (dkk_42 752)
theorem dL_law_753 : decode cL_law 753 = .ok (.iload 4, 2) := dk_1 (f := Jvm.ClassFile.Instr.iload) (lwg_23 17 0x15 rfl) (lwg_23 18 0x04 rfl) (dkk_21 753) rfl
theorem dL_law_755 : decode cL_law 755 = .ok (.iconst 2, 1) := dk_0 (lwg_23 19 0x05 rfl) (dkk_5 755)
theorem dL_law_756 : decode cL_law 756 = .ok (.iadd, 1) := dk_0 (lwg_23 20 0x60 rfl) (dkk_96 756)
theorem dL_law_757 : decode cL_law 757 = .ok (.iaload, 1) := dk_0 (lwg_23 21 0x2e rfl) (dkk_46 757)
theorem dL_law_758 : decode cL_law 758 = .ok (.aload_n 0, 1) := dk_0 (lwg_23 22 0x2a rfl) (dkk_42 758)
theorem dL_law_759 : decode cL_law 759 = .ok (.iload 4, 2) := dk_1 (f := Jvm.ClassFile.Instr.iload) (lwg_23 23 0x15 rfl) (lwg_23 24 0x04 rfl) (dkk_21 759) rfl
theorem dL_law_761 : decode cL_law 761 = .ok (.iconst 3, 1) := dk_0 (lwg_23 25 0x06 rfl) (dkk_6 761)
theorem dL_law_762 : decode cL_law 762 = .ok (.iadd, 1) := dk_0 (lwg_23 26 0x60 rfl) (dkk_96 762)
theorem dL_law_763 : decode cL_law 763 = .ok (.iaload, 1) := dk_0 (lwg_23 27 0x2e rfl) (dkk_46 763)
theorem dL_law_764 : decode cL_law 764 = .ok (.aload_n 3, 1) := dk_0 (lwg_23 28 0x2d rfl) (dkk_45 764)
theorem dL_law_765 : decode cL_law 765 = .ok (.invokestatic 185, 3) := dk_2 (f := Jvm.ClassFile.Instr.invokestatic) (lwg_23 29 0xb8 rfl) (lwg_23 30 0x00 rfl) (lwg_23 31 0xb9 rfl) (dkk_184 765) rfl
theorem dL_law_768 : decode cL_law 768 = .ok (.istore 5, 2) := dk_1 (f := Jvm.ClassFile.Instr.istore) (lwg_24 0 0x36 rfl) (lwg_24 1 0x05 rfl) (dkk_54 768) rfl
theorem dL_law_770 : decode cL_law 770 = .ok (.aload_n 2, 1) := dk_0 (lwg_24 2 0x2c rfl) (dkk_44 770)
theorem dL_law_771 : decode cL_law 771 = .ok (.aload_n 0, 1) := dk_0 (lwg_24 3 0x2a rfl) (dkk_42 771)
theorem dL_law_772 : decode cL_law 772 = .ok (.iload 4, 2) := dk_1 (f := Jvm.ClassFile.Instr.iload) (lwg_24 4 0x15 rfl) (lwg_24 5 0x04 rfl) (dkk_21 772) rfl
theorem dL_law_774 : decode cL_law 774 = .ok (.iconst 1, 1) := dk_0 (lwg_24 6 0x04 rfl) (dkk_4 774)
theorem dL_law_775 : decode cL_law 775 = .ok (.iadd, 1) := dk_0 (lwg_24 7 0x60 rfl) (dkk_96 775)
theorem dL_law_776 : decode cL_law 776 = .ok (.iaload, 1) := dk_0 (lwg_24 8 0x2e rfl) (dkk_46 776)
theorem dL_law_777 : decode cL_law 777 = .ok (.aload_n 0, 1) := dk_0 (lwg_24 9 0x2a rfl) (dkk_42 777)
theorem dL_law_778 : decode cL_law 778 = .ok (.iload 4, 2) := dk_1 (f := Jvm.ClassFile.Instr.iload) (lwg_24 10 0x15 rfl) (lwg_24 11 0x04 rfl) (dkk_21 778) rfl
theorem dL_law_780 : decode cL_law 780 = .ok (.iconst 2, 1) := dk_0 (lwg_24 12 0x05 rfl) (dkk_5 780)
theorem dL_law_781 : decode cL_law 781 = .ok (.iadd, 1) := dk_0 (lwg_24 13 0x60 rfl) (dkk_96 781)
theorem dL_law_782 : decode cL_law 782 = .ok (.iaload, 1) := dk_0 (lwg_24 14 0x2e rfl) (dkk_46 782)
theorem dL_law_783 : decode cL_law 783 = .ok (.aload_n 0, 1) := dk_0 (lwg_24 15 0x2a rfl) (dkk_42 783)
theorem dL_law_784 : decode cL_law 784 = .ok (.iload 4, 2) := dk_1 (f := Jvm.ClassFile.Instr.iload) (lwg_24 16 0x15 rfl) (lwg_24 17 0x04 rfl) (dkk_21 784) rfl
theorem dL_law_786 : decode cL_law 786 = .ok (.iconst 3, 1) := dk_0 (lwg_24 18 0x06 rfl) (dkk_6 786)
theorem dL_law_787 : decode cL_law 787 = .ok (.iadd, 1) := dk_0 (lwg_24 19 0x60 rfl) (dkk_96 787)
theorem dL_law_788 : decode cL_law 788 = .ok (.iaload, 1) := dk_0 (lwg_24 20 0x2e rfl) (dkk_46 788)
theorem dL_law_789 : decode cL_law 789 = .ok (.invokevirtual 187, 3) := dk_2 (f := Jvm.ClassFile.Instr.invokevirtual) (lwg_24 21 0xb6 rfl) (lwg_24 22 0x00 rfl) (lwg_24 23 0xbb rfl) (dkk_182 789) rfl
theorem dL_law_792 : decode cL_law 792 = .ok (.istore 6, 2) := dk_1 (f := Jvm.ClassFile.Instr.istore) (lwg_24 24 0x36 rfl) (lwg_24 25 0x06 rfl) (dkk_54 792) rfl
theorem dL_law_794 : decode cL_law 794 = .ok (.goto 1019, 3) := dk_2s (f := Jvm.ClassFile.Instr.goto) (lwg_24 26 0xa7 rfl) (lwg_24 27 0x03 rfl) (lwg_24 28 0xfb rfl) (dkk_167 794) (by decide +kernel)
theorem dL_law_797 : decode cL_law 797 = .ok (.aload_n 1, 1) := dk_0 (lwg_24 29 0x2b rfl) (dkk_43 797)
theorem dL_law_798 : decode cL_law 798 = .ok (.aload_n 0, 1) := dk_0 (lwg_24 30 0x2a rfl) (dkk_42 798)
theorem dL_law_799 : decode cL_law 799 = .ok (.iload 4, 2) := dk_1 (f := Jvm.ClassFile.Instr.iload) (lwg_24 31 0x15 rfl) (lwg_25 0 0x04 rfl) (dkk_21 799) rfl
theorem dL_law_801 : decode cL_law 801 = .ok (.iconst 1, 1) := dk_0 (lwg_25 1 0x04 rfl) (dkk_4 801)
theorem dL_law_802 : decode cL_law 802 = .ok (.iadd, 1) := dk_0 (lwg_25 2 0x60 rfl) (dkk_96 802)
theorem dL_law_803 : decode cL_law 803 = .ok (.iaload, 1) := dk_0 (lwg_25 3 0x2e rfl) (dkk_46 803)
theorem dL_law_804 : decode cL_law 804 = .ok (.aload_n 3, 1) := dk_0 (lwg_25 4 0x2d rfl) (dkk_45 804)
theorem dL_law_805 : decode cL_law 805 = .ok (.invokestatic 188, 3) := dk_2 (f := Jvm.ClassFile.Instr.invokestatic) (lwg_25 5 0xb8 rfl) (lwg_25 6 0x00 rfl) (lwg_25 7 0xbc rfl) (dkk_184 805) rfl
theorem dL_law_808 : decode cL_law 808 = .ok (.istore 5, 2) := dk_1 (f := Jvm.ClassFile.Instr.istore) (lwg_25 8 0x36 rfl) (lwg_25 9 0x05 rfl) (dkk_54 808) rfl
theorem dL_law_810 : decode cL_law 810 = .ok (.aload_n 2, 1) := dk_0 (lwg_25 10 0x2c rfl) (dkk_44 810)
theorem dL_law_811 : decode cL_law 811 = .ok (.aload_n 0, 1) := dk_0 (lwg_25 11 0x2a rfl) (dkk_42 811)
theorem dL_law_812 : decode cL_law 812 = .ok (.iload 4, 2) := dk_1 (f := Jvm.ClassFile.Instr.iload) (lwg_25 12 0x15 rfl) (lwg_25 13 0x04 rfl) (dkk_21 812) rfl
theorem dL_law_814 : decode cL_law 814 = .ok (.iconst 1, 1) := dk_0 (lwg_25 14 0x04 rfl) (dkk_4 814)
theorem dL_law_815 : decode cL_law 815 = .ok (.iadd, 1) := dk_0 (lwg_25 15 0x60 rfl) (dkk_96 815)
theorem dL_law_816 : decode cL_law 816 = .ok (.iaload, 1) := dk_0 (lwg_25 16 0x2e rfl) (dkk_46 816)
theorem dL_law_817 : decode cL_law 817 = .ok (.invokevirtual 190, 3) := dk_2 (f := Jvm.ClassFile.Instr.invokevirtual) (lwg_25 17 0xb6 rfl) (lwg_25 18 0x00 rfl) (lwg_25 19 0xbe rfl) (dkk_182 817) rfl
theorem dL_law_820 : decode cL_law 820 = .ok (.astore 6, 2) := dk_1 (f := Jvm.ClassFile.Instr.astore) (lwg_25 20 0x3a rfl) (lwg_25 21 0x06 rfl) (dkk_58 820) rfl
theorem dL_law_822 : decode cL_law 822 = .ok (.goto 991, 3) := dk_2s (f := Jvm.ClassFile.Instr.goto) (lwg_25 22 0xa7 rfl) (lwg_25 23 0x03 rfl) (lwg_25 24 0xdf rfl) (dkk_167 822) (by decide +kernel)
theorem dL_law_825 : decode cL_law 825 = .ok (.aload_n 1, 1) := dk_0 (lwg_25 25 0x2b rfl) (dkk_43 825)
theorem dL_law_826 : decode cL_law 826 = .ok (.aload_n 0, 1) := dk_0 (lwg_25 26 0x2a rfl) (dkk_42 826)
theorem dL_law_827 : decode cL_law 827 = .ok (.iload 4, 2) := dk_1 (f := Jvm.ClassFile.Instr.iload) (lwg_25 27 0x15 rfl) (lwg_25 28 0x04 rfl) (dkk_21 827) rfl
theorem dL_law_829 : decode cL_law 829 = .ok (.iconst 1, 1) := dk_0 (lwg_25 29 0x04 rfl) (dkk_4 829)
theorem dL_law_830 : decode cL_law 830 = .ok (.iadd, 1) := dk_0 (lwg_25 30 0x60 rfl) (dkk_96 830)
theorem dL_law_831 : decode cL_law 831 = .ok (.iaload, 1) := dk_0 (lwg_25 31 0x2e rfl) (dkk_46 831)
theorem dL_law_832 : decode cL_law 832 = .ok (.aload_n 0, 1) := dk_0 (lwg_26 0 0x2a rfl) (dkk_42 832)
theorem dL_law_833 : decode cL_law 833 = .ok (.iload 4, 2) := dk_1 (f := Jvm.ClassFile.Instr.iload) (lwg_26 1 0x15 rfl) (lwg_26 2 0x04 rfl) (dkk_21 833) rfl
theorem dL_law_835 : decode cL_law 835 = .ok (.iconst 2, 1) := dk_0 (lwg_26 3 0x05 rfl) (dkk_5 835)
theorem dL_law_836 : decode cL_law 836 = .ok (.iadd, 1) := dk_0 (lwg_26 4 0x60 rfl) (dkk_96 836)
theorem dL_law_837 : decode cL_law 837 = .ok (.iaload, 1) := dk_0 (lwg_26 5 0x2e rfl) (dkk_46 837)
theorem dL_law_838 : decode cL_law 838 = .ok (.aload_n 3, 1) := dk_0 (lwg_26 6 0x2d rfl) (dkk_45 838)
theorem dL_law_839 : decode cL_law 839 = .ok (.invokestatic 191, 3) := dk_2 (f := Jvm.ClassFile.Instr.invokestatic) (lwg_26 7 0xb8 rfl) (lwg_26 8 0x00 rfl) (lwg_26 9 0xbf rfl) (dkk_184 839) rfl
theorem dL_law_842 : decode cL_law 842 = .ok (.istore 5, 2) := dk_1 (f := Jvm.ClassFile.Instr.istore) (lwg_26 10 0x36 rfl) (lwg_26 11 0x05 rfl) (dkk_54 842) rfl
theorem dL_law_844 : decode cL_law 844 = .ok (.aload_n 2, 1) := dk_0 (lwg_26 12 0x2c rfl) (dkk_44 844)
theorem dL_law_845 : decode cL_law 845 = .ok (.aload_n 0, 1) := dk_0 (lwg_26 13 0x2a rfl) (dkk_42 845)
theorem dL_law_846 : decode cL_law 846 = .ok (.iload 4, 2) := dk_1 (f := Jvm.ClassFile.Instr.iload) (lwg_26 14 0x15 rfl) (lwg_26 15 0x04 rfl) (dkk_21 846) rfl
theorem dL_law_848 : decode cL_law 848 = .ok (.iconst 1, 1) := dk_0 (lwg_26 16 0x04 rfl) (dkk_4 848)
theorem dL_law_849 : decode cL_law 849 = .ok (.iadd, 1) := dk_0 (lwg_26 17 0x60 rfl) (dkk_96 849)
theorem dL_law_850 : decode cL_law 850 = .ok (.iaload, 1) := dk_0 (lwg_26 18 0x2e rfl) (dkk_46 850)
theorem dL_law_851 : decode cL_law 851 = .ok (.aload_n 0, 1) := dk_0 (lwg_26 19 0x2a rfl) (dkk_42 851)
theorem dL_law_852 : decode cL_law 852 = .ok (.iload 4, 2) := dk_1 (f := Jvm.ClassFile.Instr.iload) (lwg_26 20 0x15 rfl) (lwg_26 21 0x04 rfl) (dkk_21 852) rfl
theorem dL_law_854 : decode cL_law 854 = .ok (.iconst 2, 1) := dk_0 (lwg_26 22 0x05 rfl) (dkk_5 854)
theorem dL_law_855 : decode cL_law 855 = .ok (.iadd, 1) := dk_0 (lwg_26 23 0x60 rfl) (dkk_96 855)
theorem dL_law_856 : decode cL_law 856 = .ok (.iaload, 1) := dk_0 (lwg_26 24 0x2e rfl) (dkk_46 856)
theorem dL_law_857 : decode cL_law 857 = .ok (.invokevirtual 193, 3) := dk_2 (f := Jvm.ClassFile.Instr.invokevirtual) (lwg_26 25 0xb6 rfl) (lwg_26 26 0x00 rfl) (lwg_26 27 0xc1 rfl) (dkk_182 857) rfl
theorem dL_law_860 : decode cL_law 860 = .ok (.istore 6, 2) := dk_1 (f := Jvm.ClassFile.Instr.istore) (lwg_26 28 0x36 rfl) (lwg_26 29 0x06 rfl) (dkk_54 860) rfl
theorem dL_law_862 : decode cL_law 862 = .ok (.goto 951, 3) := dk_2s (f := Jvm.ClassFile.Instr.goto) (lwg_26 30 0xa7 rfl) (lwg_26 31 0x03 rfl) (lwg_27 0 0xb7 rfl) (dkk_167 862) (by decide +kernel)
theorem dL_law_865 : decode cL_law 865 = .ok (.aload_n 1, 1) := dk_0 (lwg_27 1 0x2b rfl) (dkk_43 865)
theorem dL_law_866 : decode cL_law 866 = .ok (.aload_n 0, 1) := dk_0 (lwg_27 2 0x2a rfl) (dkk_42 866)
theorem dL_law_867 : decode cL_law 867 = .ok (.iload 4, 2) := dk_1 (f := Jvm.ClassFile.Instr.iload) (lwg_27 3 0x15 rfl) (lwg_27 4 0x04 rfl) (dkk_21 867) rfl
theorem dL_law_869 : decode cL_law 869 = .ok (.iconst 1, 1) := dk_0 (lwg_27 5 0x04 rfl) (dkk_4 869)
theorem dL_law_870 : decode cL_law 870 = .ok (.iadd, 1) := dk_0 (lwg_27 6 0x60 rfl) (dkk_96 870)
theorem dL_law_871 : decode cL_law 871 = .ok (.iaload, 1) := dk_0 (lwg_27 7 0x2e rfl) (dkk_46 871)
theorem dL_law_872 : decode cL_law 872 = .ok (.aload_n 0, 1) := dk_0 (lwg_27 8 0x2a rfl) (dkk_42 872)
theorem dL_law_873 : decode cL_law 873 = .ok (.iload 4, 2) := dk_1 (f := Jvm.ClassFile.Instr.iload) (lwg_27 9 0x15 rfl) (lwg_27 10 0x04 rfl) (dkk_21 873) rfl
theorem dL_law_875 : decode cL_law 875 = .ok (.iconst 2, 1) := dk_0 (lwg_27 11 0x05 rfl) (dkk_5 875)
theorem dL_law_876 : decode cL_law 876 = .ok (.iadd, 1) := dk_0 (lwg_27 12 0x60 rfl) (dkk_96 876)
theorem dL_law_877 : decode cL_law 877 = .ok (.iaload, 1) := dk_0 (lwg_27 13 0x2e rfl) (dkk_46 877)
theorem dL_law_878 : decode cL_law 878 = .ok (.aload_n 3, 1) := dk_0 (lwg_27 14 0x2d rfl) (dkk_45 878)
theorem dL_law_879 : decode cL_law 879 = .ok (.invokestatic 194, 3) := dk_2 (f := Jvm.ClassFile.Instr.invokestatic) (lwg_27 15 0xb8 rfl) (lwg_27 16 0x00 rfl) (lwg_27 17 0xc2 rfl) (dkk_184 879) rfl
theorem dL_law_882 : decode cL_law 882 = .ok (.istore 5, 2) := dk_1 (f := Jvm.ClassFile.Instr.istore) (lwg_27 18 0x36 rfl) (lwg_27 19 0x05 rfl) (dkk_54 882) rfl
theorem dL_law_884 : decode cL_law 884 = .ok (.aload_n 2, 1) := dk_0 (lwg_27 20 0x2c rfl) (dkk_44 884)
theorem dL_law_885 : decode cL_law 885 = .ok (.aload_n 0, 1) := dk_0 (lwg_27 21 0x2a rfl) (dkk_42 885)
theorem dL_law_886 : decode cL_law 886 = .ok (.iload 4, 2) := dk_1 (f := Jvm.ClassFile.Instr.iload) (lwg_27 22 0x15 rfl) (lwg_27 23 0x04 rfl) (dkk_21 886) rfl
theorem dL_law_888 : decode cL_law 888 = .ok (.iconst 1, 1) := dk_0 (lwg_27 24 0x04 rfl) (dkk_4 888)
theorem dL_law_889 : decode cL_law 889 = .ok (.iadd, 1) := dk_0 (lwg_27 25 0x60 rfl) (dkk_96 889)
theorem dL_law_890 : decode cL_law 890 = .ok (.iaload, 1) := dk_0 (lwg_27 26 0x2e rfl) (dkk_46 890)
theorem dL_law_891 : decode cL_law 891 = .ok (.aload_n 0, 1) := dk_0 (lwg_27 27 0x2a rfl) (dkk_42 891)
theorem dL_law_892 : decode cL_law 892 = .ok (.iload 4, 2) := dk_1 (f := Jvm.ClassFile.Instr.iload) (lwg_27 28 0x15 rfl) (lwg_27 29 0x04 rfl) (dkk_21 892) rfl
theorem dL_law_894 : decode cL_law 894 = .ok (.iconst 2, 1) := dk_0 (lwg_27 30 0x05 rfl) (dkk_5 894)
theorem dL_law_895 : decode cL_law 895 = .ok (.iadd, 1) := dk_0 (lwg_27 31 0x60 rfl) (dkk_96 895)
theorem dL_law_896 : decode cL_law 896 = .ok (.iaload, 1) := dk_0 (lwg_28 0 0x2e rfl) (dkk_46 896)
theorem dL_law_897 : decode cL_law 897 = .ok (.invokevirtual 196, 3) := dk_2 (f := Jvm.ClassFile.Instr.invokevirtual) (lwg_28 1 0xb6 rfl) (lwg_28 2 0x00 rfl) (lwg_28 3 0xc4 rfl) (dkk_182 897) rfl
theorem dL_law_900 : decode cL_law 900 = .ok (.istore 6, 2) := dk_1 (f := Jvm.ClassFile.Instr.istore) (lwg_28 4 0x36 rfl) (lwg_28 5 0x06 rfl) (dkk_54 900) rfl
theorem dL_law_902 : decode cL_law 902 = .ok (.goto 911, 3) := dk_2s (f := Jvm.ClassFile.Instr.goto) (lwg_28 6 0xa7 rfl) (lwg_28 7 0x03 rfl) (lwg_28 8 0x8f rfl) (dkk_167 902) (by decide +kernel)
theorem dL_law_905 : decode cL_law 905 = .ok (.aload_n 1, 1) := dk_0 (lwg_28 9 0x2b rfl) (dkk_43 905)
theorem dL_law_906 : decode cL_law 906 = .ok (.aload_n 0, 1) := dk_0 (lwg_28 10 0x2a rfl) (dkk_42 906)
theorem dL_law_907 : decode cL_law 907 = .ok (.iload 4, 2) := dk_1 (f := Jvm.ClassFile.Instr.iload) (lwg_28 11 0x15 rfl) (lwg_28 12 0x04 rfl) (dkk_21 907) rfl
theorem dL_law_909 : decode cL_law 909 = .ok (.iconst 1, 1) := dk_0 (lwg_28 13 0x04 rfl) (dkk_4 909)
theorem dL_law_910 : decode cL_law 910 = .ok (.iadd, 1) := dk_0 (lwg_28 14 0x60 rfl) (dkk_96 910)
theorem dL_law_911 : decode cL_law 911 = .ok (.iaload, 1) := dk_0 (lwg_28 15 0x2e rfl) (dkk_46 911)
theorem dL_law_912 : decode cL_law 912 = .ok (.aload_n 0, 1) := dk_0 (lwg_28 16 0x2a rfl) (dkk_42 912)
theorem dL_law_913 : decode cL_law 913 = .ok (.iload 4, 2) := dk_1 (f := Jvm.ClassFile.Instr.iload) (lwg_28 17 0x15 rfl) (lwg_28 18 0x04 rfl) (dkk_21 913) rfl
theorem dL_law_915 : decode cL_law 915 = .ok (.iconst 2, 1) := dk_0 (lwg_28 19 0x05 rfl) (dkk_5 915)
theorem dL_law_916 : decode cL_law 916 = .ok (.iadd, 1) := dk_0 (lwg_28 20 0x60 rfl) (dkk_96 916)
theorem dL_law_917 : decode cL_law 917 = .ok (.iaload, 1) := dk_0 (lwg_28 21 0x2e rfl) (dkk_46 917)
theorem dL_law_918 : decode cL_law 918 = .ok (.aload_n 3, 1) := dk_0 (lwg_28 22 0x2d rfl) (dkk_45 918)
theorem dL_law_919 : decode cL_law 919 = .ok (.invokestatic 197, 3) := dk_2 (f := Jvm.ClassFile.Instr.invokestatic) (lwg_28 23 0xb8 rfl) (lwg_28 24 0x00 rfl) (lwg_28 25 0xc5 rfl) (dkk_184 919) rfl
theorem dL_law_922 : decode cL_law 922 = .ok (.istore 5, 2) := dk_1 (f := Jvm.ClassFile.Instr.istore) (lwg_28 26 0x36 rfl) (lwg_28 27 0x05 rfl) (dkk_54 922) rfl
theorem dL_law_924 : decode cL_law 924 = .ok (.aload_n 2, 1) := dk_0 (lwg_28 28 0x2c rfl) (dkk_44 924)
theorem dL_law_925 : decode cL_law 925 = .ok (.aload_n 0, 1) := dk_0 (lwg_28 29 0x2a rfl) (dkk_42 925)
theorem dL_law_926 : decode cL_law 926 = .ok (.iload 4, 2) := dk_1 (f := Jvm.ClassFile.Instr.iload) (lwg_28 30 0x15 rfl) (lwg_28 31 0x04 rfl) (dkk_21 926) rfl
theorem dL_law_928 : decode cL_law 928 = .ok (.iconst 1, 1) := dk_0 (lwg_29 0 0x04 rfl) (dkk_4 928)
theorem dL_law_929 : decode cL_law 929 = .ok (.iadd, 1) := dk_0 (lwg_29 1 0x60 rfl) (dkk_96 929)
theorem dL_law_930 : decode cL_law 930 = .ok (.iaload, 1) := dk_0 (lwg_29 2 0x2e rfl) (dkk_46 930)
theorem dL_law_931 : decode cL_law 931 = .ok (.aload_n 0, 1) := dk_0 (lwg_29 3 0x2a rfl) (dkk_42 931)
theorem dL_law_932 : decode cL_law 932 = .ok (.iload 4, 2) := dk_1 (f := Jvm.ClassFile.Instr.iload) (lwg_29 4 0x15 rfl) (lwg_29 5 0x04 rfl) (dkk_21 932) rfl
theorem dL_law_934 : decode cL_law 934 = .ok (.iconst 2, 1) := dk_0 (lwg_29 6 0x05 rfl) (dkk_5 934)
theorem dL_law_935 : decode cL_law 935 = .ok (.iadd, 1) := dk_0 (lwg_29 7 0x60 rfl) (dkk_96 935)
theorem dL_law_936 : decode cL_law 936 = .ok (.iaload, 1) := dk_0 (lwg_29 8 0x2e rfl) (dkk_46 936)
theorem dL_law_937 : decode cL_law 937 = .ok (.invokevirtual 199, 3) := dk_2 (f := Jvm.ClassFile.Instr.invokevirtual) (lwg_29 9 0xb6 rfl) (lwg_29 10 0x00 rfl) (lwg_29 11 0xc7 rfl) (dkk_182 937) rfl
theorem dL_law_940 : decode cL_law 940 = .ok (.istore 6, 2) := dk_1 (f := Jvm.ClassFile.Instr.istore) (lwg_29 12 0x36 rfl) (lwg_29 13 0x06 rfl) (dkk_54 940) rfl
theorem dL_law_942 : decode cL_law 942 = .ok (.goto 871, 3) := dk_2s (f := Jvm.ClassFile.Instr.goto) (lwg_29 14 0xa7 rfl) (lwg_29 15 0x03 rfl) (lwg_29 16 0x67 rfl) (dkk_167 942) (by decide +kernel)
theorem dL_law_945 : decode cL_law 945 = .ok (.aload_n 1, 1) := dk_0 (lwg_29 17 0x2b rfl) (dkk_43 945)
theorem dL_law_946 : decode cL_law 946 = .ok (.aload_n 0, 1) := dk_0 (lwg_29 18 0x2a rfl) (dkk_42 946)
theorem dL_law_947 : decode cL_law 947 = .ok (.iload 4, 2) := dk_1 (f := Jvm.ClassFile.Instr.iload) (lwg_29 19 0x15 rfl) (lwg_29 20 0x04 rfl) (dkk_21 947) rfl
theorem dL_law_949 : decode cL_law 949 = .ok (.iconst 1, 1) := dk_0 (lwg_29 21 0x04 rfl) (dkk_4 949)
theorem dL_law_950 : decode cL_law 950 = .ok (.iadd, 1) := dk_0 (lwg_29 22 0x60 rfl) (dkk_96 950)
theorem dL_law_951 : decode cL_law 951 = .ok (.iaload, 1) := dk_0 (lwg_29 23 0x2e rfl) (dkk_46 951)
theorem dL_law_952 : decode cL_law 952 = .ok (.aload_n 3, 1) := dk_0 (lwg_29 24 0x2d rfl) (dkk_45 952)
theorem dL_law_953 : decode cL_law 953 = .ok (.invokestatic 200, 3) := dk_2 (f := Jvm.ClassFile.Instr.invokestatic) (lwg_29 25 0xb8 rfl) (lwg_29 26 0x00 rfl) (lwg_29 27 0xc8 rfl) (dkk_184 953) rfl
theorem dL_law_956 : decode cL_law 956 = .ok (.istore 5, 2) := dk_1 (f := Jvm.ClassFile.Instr.istore) (lwg_29 28 0x36 rfl) (lwg_29 29 0x05 rfl) (dkk_54 956) rfl
theorem dL_law_958 : decode cL_law 958 = .ok (.aload_n 2, 1) := dk_0 (lwg_29 30 0x2c rfl) (dkk_44 958)
theorem dL_law_959 : decode cL_law 959 = .ok (.aload_n 0, 1) := dk_0 (lwg_29 31 0x2a rfl) (dkk_42 959)
theorem dL_law_960 : decode cL_law 960 = .ok (.iload 4, 2) := dk_1 (f := Jvm.ClassFile.Instr.iload) (lwg_30 0 0x15 rfl) (lwg_30 1 0x04 rfl) (dkk_21 960) rfl
theorem dL_law_962 : decode cL_law 962 = .ok (.iconst 1, 1) := dk_0 (lwg_30 2 0x04 rfl) (dkk_4 962)
theorem dL_law_963 : decode cL_law 963 = .ok (.iadd, 1) := dk_0 (lwg_30 3 0x60 rfl) (dkk_96 963)
theorem dL_law_964 : decode cL_law 964 = .ok (.iaload, 1) := dk_0 (lwg_30 4 0x2e rfl) (dkk_46 964)
theorem dL_law_965 : decode cL_law 965 = .ok (.invokevirtual 202, 3) := dk_2 (f := Jvm.ClassFile.Instr.invokevirtual) (lwg_30 5 0xb6 rfl) (lwg_30 6 0x00 rfl) (lwg_30 7 0xca rfl) (dkk_182 965) rfl
theorem dL_law_968 : decode cL_law 968 = .ok (.astore 6, 2) := dk_1 (f := Jvm.ClassFile.Instr.astore) (lwg_30 8 0x3a rfl) (lwg_30 9 0x06 rfl) (dkk_58 968) rfl
theorem dL_law_970 : decode cL_law 970 = .ok (.goto 843, 3) := dk_2s (f := Jvm.ClassFile.Instr.goto) (lwg_30 10 0xa7 rfl) (lwg_30 11 0x03 rfl) (lwg_30 12 0x4b rfl) (dkk_167 970) (by decide +kernel)
theorem dL_law_973 : decode cL_law 973 = .ok (.aload_n 1, 1) := dk_0 (lwg_30 13 0x2b rfl) (dkk_43 973)
theorem dL_law_974 : decode cL_law 974 = .ok (.aload_n 0, 1) := dk_0 (lwg_30 14 0x2a rfl) (dkk_42 974)
theorem dL_law_975 : decode cL_law 975 = .ok (.iload 4, 2) := dk_1 (f := Jvm.ClassFile.Instr.iload) (lwg_30 15 0x15 rfl) (lwg_30 16 0x04 rfl) (dkk_21 975) rfl
theorem dL_law_977 : decode cL_law 977 = .ok (.iconst 1, 1) := dk_0 (lwg_30 17 0x04 rfl) (dkk_4 977)
theorem dL_law_978 : decode cL_law 978 = .ok (.iadd, 1) := dk_0 (lwg_30 18 0x60 rfl) (dkk_96 978)
theorem dL_law_979 : decode cL_law 979 = .ok (.iaload, 1) := dk_0 (lwg_30 19 0x2e rfl) (dkk_46 979)
theorem dL_law_980 : decode cL_law 980 = .ok (.aload_n 0, 1) := dk_0 (lwg_30 20 0x2a rfl) (dkk_42 980)
theorem dL_law_981 : decode cL_law 981 = .ok (.iload 4, 2) := dk_1 (f := Jvm.ClassFile.Instr.iload) (lwg_30 21 0x15 rfl) (lwg_30 22 0x04 rfl) (dkk_21 981) rfl
theorem dL_law_983 : decode cL_law 983 = .ok (.iconst 2, 1) := dk_0 (lwg_30 23 0x05 rfl) (dkk_5 983)
theorem dL_law_984 : decode cL_law 984 = .ok (.iadd, 1) := dk_0 (lwg_30 24 0x60 rfl) (dkk_96 984)
theorem dL_law_985 : decode cL_law 985 = .ok (.iaload, 1) := dk_0 (lwg_30 25 0x2e rfl) (dkk_46 985)
theorem dL_law_986 : decode cL_law 986 = .ok (.aload_n 3, 1) := dk_0 (lwg_30 26 0x2d rfl) (dkk_45 986)
theorem dL_law_987 : decode cL_law 987 = .ok (.invokestatic 203, 3) := dk_2 (f := Jvm.ClassFile.Instr.invokestatic) (lwg_30 27 0xb8 rfl) (lwg_30 28 0x00 rfl) (lwg_30 29 0xcb rfl) (dkk_184 987) rfl
theorem dL_law_990 : decode cL_law 990 = .ok (.istore 5, 2) := dk_1 (f := Jvm.ClassFile.Instr.istore) (lwg_30 30 0x36 rfl) (lwg_30 31 0x05 rfl) (dkk_54 990) rfl
theorem dL_law_992 : decode cL_law 992 = .ok (.aload_n 2, 1) := dk_0 (lwg_31 0 0x2c rfl) (dkk_44 992)
theorem dL_law_993 : decode cL_law 993 = .ok (.aload_n 0, 1) := dk_0 (lwg_31 1 0x2a rfl) (dkk_42 993)
theorem dL_law_994 : decode cL_law 994 = .ok (.iload 4, 2) := dk_1 (f := Jvm.ClassFile.Instr.iload) (lwg_31 2 0x15 rfl) (lwg_31 3 0x04 rfl) (dkk_21 994) rfl
theorem dL_law_996 : decode cL_law 996 = .ok (.iconst 1, 1) := dk_0 (lwg_31 4 0x04 rfl) (dkk_4 996)
theorem dL_law_997 : decode cL_law 997 = .ok (.iadd, 1) := dk_0 (lwg_31 5 0x60 rfl) (dkk_96 997)
theorem dL_law_998 : decode cL_law 998 = .ok (.iaload, 1) := dk_0 (lwg_31 6 0x2e rfl) (dkk_46 998)
theorem dL_law_999 : decode cL_law 999 = .ok (.aload_n 0, 1) := dk_0 (lwg_31 7 0x2a rfl) (dkk_42 999)
theorem dL_law_1000 : decode cL_law 1000 = .ok (.iload 4, 2) := dk_1 (f := Jvm.ClassFile.Instr.iload) (lwg_31 8 0x15 rfl) (lwg_31 9 0x04 rfl) (dkk_21 1000) rfl
theorem dL_law_1002 : decode cL_law 1002 = .ok (.iconst 2, 1) := dk_0 (lwg_31 10 0x05 rfl) (dkk_5 1002)
theorem dL_law_1003 : decode cL_law 1003 = .ok (.iadd, 1) := dk_0 (lwg_31 11 0x60 rfl) (dkk_96 1003)
theorem dL_law_1004 : decode cL_law 1004 = .ok (.iaload, 1) := dk_0 (lwg_31 12 0x2e rfl) (dkk_46 1004)
theorem dL_law_1005 : decode cL_law 1005 = .ok (.invokevirtual 205, 3) := dk_2 (f := Jvm.ClassFile.Instr.invokevirtual) (lwg_31 13 0xb6 rfl) (lwg_31 14 0x00 rfl) (lwg_31 15 0xcd rfl) (dkk_182 1005) rfl
theorem dL_law_1008 : decode cL_law 1008 = .ok (.istore 6, 2) := dk_1 (f := Jvm.ClassFile.Instr.istore) (lwg_31 16 0x36 rfl) (lwg_31 17 0x06 rfl) (dkk_54 1008) rfl
theorem dL_law_1010 : decode cL_law 1010 = .ok (.goto 803, 3) := dk_2s (f := Jvm.ClassFile.Instr.goto) (lwg_31 18 0xa7 rfl) (lwg_31 19 0x03 rfl) (lwg_31 20 0x23 rfl) (dkk_167 1010) (by decide +kernel)
theorem dL_law_1013 : decode cL_law 1013 = .ok (.aload_n 1, 1) := dk_0 (lwg_31 21 0x2b rfl) (dkk_43 1013)
theorem dL_law_1014 : decode cL_law 1014 = .ok (.aload_n 0, 1) := dk_0 (lwg_31 22 0x2a rfl) (dkk_42 1014)
theorem dL_law_1015 : decode cL_law 1015 = .ok (.iload 4, 2) := dk_1 (f := Jvm.ClassFile.Instr.iload) (lwg_31 23 0x15 rfl) (lwg_31 24 0x04 rfl) (dkk_21 1015) rfl
theorem dL_law_1017 : decode cL_law 1017 = .ok (.iconst 1, 1) := dk_0 (lwg_31 25 0x04 rfl) (dkk_4 1017)
theorem dL_law_1018 : decode cL_law 1018 = .ok (.iadd, 1) := dk_0 (lwg_31 26 0x60 rfl) (dkk_96 1018)
theorem dL_law_1019 : decode cL_law 1019 = .ok (.iaload, 1) := dk_0 (lwg_31 27 0x2e rfl) (dkk_46 1019)
theorem dL_law_1020 : decode cL_law 1020 = .ok (.aload_n 0, 1) := dk_0 (lwg_31 28 0x2a rfl) (dkk_42 1020)
theorem dL_law_1021 : decode cL_law 1021 = .ok (.iload 4, 2) := dk_1 (f := Jvm.ClassFile.Instr.iload) (lwg_31 29 0x15 rfl) (lwg_31 30 0x04 rfl) (dkk_21 1021) rfl
theorem dL_law_1023 : decode cL_law 1023 = .ok (.iconst 2, 1) := dk_0 (lwg_31 31 0x05 rfl) (dkk_5 1023)
theorem dL_law_1024 : decode cL_law 1024 = .ok (.iadd, 1) := dk_0 (lwg_32 0 0x60 rfl) (dkk_96 1024)
theorem dL_law_1025 : decode cL_law 1025 = .ok (.iaload, 1) := dk_0 (lwg_32 1 0x2e rfl) (dkk_46 1025)
theorem dL_law_1026 : decode cL_law 1026 = .ok (.aload_n 0, 1) := dk_0 (lwg_32 2 0x2a rfl) (dkk_42 1026)
theorem dL_law_1027 : decode cL_law 1027 = .ok (.iload 4, 2) := dk_1 (f := Jvm.ClassFile.Instr.iload) (lwg_32 3 0x15 rfl) (lwg_32 4 0x04 rfl) (dkk_21 1027) rfl
theorem dL_law_1029 : decode cL_law 1029 = .ok (.iconst 3, 1) := dk_0 (lwg_32 5 0x06 rfl) (dkk_6 1029)
theorem dL_law_1030 : decode cL_law 1030 = .ok (.iadd, 1) := dk_0 (lwg_32 6 0x60 rfl) (dkk_96 1030)
theorem dL_law_1031 : decode cL_law 1031 = .ok (.iaload, 1) := dk_0 (lwg_32 7 0x2e rfl) (dkk_46 1031)
theorem dL_law_1032 : decode cL_law 1032 = .ok (.aload_n 3, 1) := dk_0 (lwg_32 8 0x2d rfl) (dkk_45 1032)
theorem dL_law_1033 : decode cL_law 1033 = .ok (.invokestatic 206, 3) := dk_2 (f := Jvm.ClassFile.Instr.invokestatic) (lwg_32 9 0xb8 rfl) (lwg_32 10 0x00 rfl) (lwg_32 11 0xce rfl) (dkk_184 1033) rfl
theorem dL_law_1036 : decode cL_law 1036 = .ok (.istore 5, 2) := dk_1 (f := Jvm.ClassFile.Instr.istore) (lwg_32 12 0x36 rfl) (lwg_32 13 0x05 rfl) (dkk_54 1036) rfl
theorem dL_law_1038 : decode cL_law 1038 = .ok (.aload_n 2, 1) := dk_0 (lwg_32 14 0x2c rfl) (dkk_44 1038)
theorem dL_law_1039 : decode cL_law 1039 = .ok (.aload_n 0, 1) := dk_0 (lwg_32 15 0x2a rfl) (dkk_42 1039)
theorem dL_law_1040 : decode cL_law 1040 = .ok (.iload 4, 2) := dk_1 (f := Jvm.ClassFile.Instr.iload) (lwg_32 16 0x15 rfl) (lwg_32 17 0x04 rfl) (dkk_21 1040) rfl
theorem dL_law_1042 : decode cL_law 1042 = .ok (.iconst 1, 1) := dk_0 (lwg_32 18 0x04 rfl) (dkk_4 1042)
theorem dL_law_1043 : decode cL_law 1043 = .ok (.iadd, 1) := dk_0 (lwg_32 19 0x60 rfl) (dkk_96 1043)
theorem dL_law_1044 : decode cL_law 1044 = .ok (.iaload, 1) := dk_0 (lwg_32 20 0x2e rfl) (dkk_46 1044)
theorem dL_law_1045 : decode cL_law 1045 = .ok (.aload_n 0, 1) := dk_0 (lwg_32 21 0x2a rfl) (dkk_42 1045)
theorem dL_law_1046 : decode cL_law 1046 = .ok (.iload 4, 2) := dk_1 (f := Jvm.ClassFile.Instr.iload) (lwg_32 22 0x15 rfl) (lwg_32 23 0x04 rfl) (dkk_21 1046) rfl
theorem dL_law_1048 : decode cL_law 1048 = .ok (.iconst 2, 1) := dk_0 (lwg_32 24 0x05 rfl) (dkk_5 1048)
theorem dL_law_1049 : decode cL_law 1049 = .ok (.iadd, 1) := dk_0 (lwg_32 25 0x60 rfl) (dkk_96 1049)
theorem dL_law_1050 : decode cL_law 1050 = .ok (.iaload, 1) := dk_0 (lwg_32 26 0x2e rfl) (dkk_46 1050)
theorem dL_law_1051 : decode cL_law 1051 = .ok (.aload_n 0, 1) := dk_0 (lwg_32 27 0x2a rfl) (dkk_42 1051)
theorem dL_law_1052 : decode cL_law 1052 = .ok (.iload 4, 2) := dk_1 (f := Jvm.ClassFile.Instr.iload) (lwg_32 28 0x15 rfl) (lwg_32 29 0x04 rfl) (dkk_21 1052) rfl
theorem dL_law_1054 : decode cL_law 1054 = .ok (.iconst 3, 1) := dk_0 (lwg_32 30 0x06 rfl) (dkk_6 1054)
theorem dL_law_1055 : decode cL_law 1055 = .ok (.iadd, 1) := dk_0 (lwg_32 31 0x60 rfl) (dkk_96 1055)
theorem dL_law_1056 : decode cL_law 1056 = .ok (.iaload, 1) := dk_0 (lwg_33 0 0x2e rfl) (dkk_46 1056)
theorem dL_law_1057 : decode cL_law 1057 = .ok (.invokevirtual 208, 3) := dk_2 (f := Jvm.ClassFile.Instr.invokevirtual) (lwg_33 1 0xb6 rfl) (lwg_33 2 0x00 rfl) (lwg_33 3 0xd0 rfl) (dkk_182 1057) rfl
theorem dL_law_1060 : decode cL_law 1060 = .ok (.istore 6, 2) := dk_1 (f := Jvm.ClassFile.Instr.istore) (lwg_33 4 0x36 rfl) (lwg_33 5 0x06 rfl) (dkk_54 1060) rfl
theorem dL_law_1062 : decode cL_law 1062 = .ok (.goto 751, 3) := dk_2s (f := Jvm.ClassFile.Instr.goto) (lwg_33 6 0xa7 rfl) (lwg_33 7 0x02 rfl) (lwg_33 8 0xef rfl) (dkk_167 1062) (by decide +kernel)
theorem dL_law_1065 : decode cL_law 1065 = .ok (.aload_n 1, 1) := dk_0 (lwg_33 9 0x2b rfl) (dkk_43 1065)
theorem dL_law_1066 : decode cL_law 1066 = .ok (.aload_n 0, 1) := dk_0 (lwg_33 10 0x2a rfl) (dkk_42 1066)
theorem dL_law_1067 : decode cL_law 1067 = .ok (.iload 4, 2) := dk_1 (f := Jvm.ClassFile.Instr.iload) (lwg_33 11 0x15 rfl) (lwg_33 12 0x04 rfl) (dkk_21 1067) rfl
theorem dL_law_1069 : decode cL_law 1069 = .ok (.iconst 1, 1) := dk_0 (lwg_33 13 0x04 rfl) (dkk_4 1069)
theorem dL_law_1070 : decode cL_law 1070 = .ok (.iadd, 1) := dk_0 (lwg_33 14 0x60 rfl) (dkk_96 1070)
theorem dL_law_1071 : decode cL_law 1071 = .ok (.iaload, 1) := dk_0 (lwg_33 15 0x2e rfl) (dkk_46 1071)
theorem dL_law_1072 : decode cL_law 1072 = .ok (.aload_n 3, 1) := dk_0 (lwg_33 16 0x2d rfl) (dkk_45 1072)
theorem dL_law_1073 : decode cL_law 1073 = .ok (.invokestatic 209, 3) := dk_2 (f := Jvm.ClassFile.Instr.invokestatic) (lwg_33 17 0xb8 rfl) (lwg_33 18 0x00 rfl) (lwg_33 19 0xd1 rfl) (dkk_184 1073) rfl
theorem dL_law_1076 : decode cL_law 1076 = .ok (.istore 5, 2) := dk_1 (f := Jvm.ClassFile.Instr.istore) (lwg_33 20 0x36 rfl) (lwg_33 21 0x05 rfl) (dkk_54 1076) rfl
theorem dL_law_1078 : decode cL_law 1078 = .ok (.aload_n 2, 1) := dk_0 (lwg_33 22 0x2c rfl) (dkk_44 1078)
theorem dL_law_1079 : decode cL_law 1079 = .ok (.aload_n 0, 1) := dk_0 (lwg_33 23 0x2a rfl) (dkk_42 1079)
theorem dL_law_1080 : decode cL_law 1080 = .ok (.iload 4, 2) := dk_1 (f := Jvm.ClassFile.Instr.iload) (lwg_33 24 0x15 rfl) (lwg_33 25 0x04 rfl) (dkk_21 1080) rfl
theorem dL_law_1082 : decode cL_law 1082 = .ok (.iconst 1, 1) := dk_0 (lwg_33 26 0x04 rfl) (dkk_4 1082)
theorem dL_law_1083 : decode cL_law 1083 = .ok (.iadd, 1) := dk_0 (lwg_33 27 0x60 rfl) (dkk_96 1083)
theorem dL_law_1084 : decode cL_law 1084 = .ok (.iaload, 1) := dk_0 (lwg_33 28 0x2e rfl) (dkk_46 1084)
theorem dL_law_1085 : decode cL_law 1085 = .ok (.invokevirtual 211, 3) := dk_2 (f := Jvm.ClassFile.Instr.invokevirtual) (lwg_33 29 0xb6 rfl) (lwg_33 30 0x00 rfl) (lwg_33 31 0xd3 rfl) (dkk_182 1085) rfl
theorem dL_law_1088 : decode cL_law 1088 = .ok (.istore 6, 2) := dk_1 (f := Jvm.ClassFile.Instr.istore) (lwg_34 0 0x36 rfl) (lwg_34 1 0x06 rfl) (dkk_54 1088) rfl
theorem dL_law_1090 : decode cL_law 1090 = .ok (.goto 723, 3) := dk_2s (f := Jvm.ClassFile.Instr.goto) (lwg_34 2 0xa7 rfl) (lwg_34 3 0x02 rfl) (lwg_34 4 0xd3 rfl) (dkk_167 1090) (by decide +kernel)
theorem dL_law_1093 : decode cL_law 1093 = .ok (.aload_n 1, 1) := dk_0 (lwg_34 5 0x2b rfl) (dkk_43 1093)
theorem dL_law_1094 : decode cL_law 1094 = .ok (.aload_n 0, 1) := dk_0 (lwg_34 6 0x2a rfl) (dkk_42 1094)
theorem dL_law_1095 : decode cL_law 1095 = .ok (.iload 4, 2) := dk_1 (f := Jvm.ClassFile.Instr.iload) (lwg_34 7 0x15 rfl) (lwg_34 8 0x04 rfl) (dkk_21 1095) rfl
theorem dL_law_1097 : decode cL_law 1097 = .ok (.iconst 1, 1) := dk_0 (lwg_34 9 0x04 rfl) (dkk_4 1097)
theorem dL_law_1098 : decode cL_law 1098 = .ok (.iadd, 1) := dk_0 (lwg_34 10 0x60 rfl) (dkk_96 1098)
theorem dL_law_1099 : decode cL_law 1099 = .ok (.iaload, 1) := dk_0 (lwg_34 11 0x2e rfl) (dkk_46 1099)
theorem dL_law_1100 : decode cL_law 1100 = .ok (.aload_n 3, 1) := dk_0 (lwg_34 12 0x2d rfl) (dkk_45 1100)
theorem dL_law_1101 : decode cL_law 1101 = .ok (.invokestatic 212, 3) := dk_2 (f := Jvm.ClassFile.Instr.invokestatic) (lwg_34 13 0xb8 rfl) (lwg_34 14 0x00 rfl) (lwg_34 15 0xd4 rfl) (dkk_184 1101) rfl
theorem dL_law_1104 : decode cL_law 1104 = .ok (.istore 5, 2) := dk_1 (f := Jvm.ClassFile.Instr.istore) (lwg_34 16 0x36 rfl) (lwg_34 17 0x05 rfl) (dkk_54 1104) rfl
theorem dL_law_1106 : decode cL_law 1106 = .ok (.aload_n 2, 1) := dk_0 (lwg_34 18 0x2c rfl) (dkk_44 1106)
theorem dL_law_1107 : decode cL_law 1107 = .ok (.aload_n 0, 1) := dk_0 (lwg_34 19 0x2a rfl) (dkk_42 1107)
theorem dL_law_1108 : decode cL_law 1108 = .ok (.iload 4, 2) := dk_1 (f := Jvm.ClassFile.Instr.iload) (lwg_34 20 0x15 rfl) (lwg_34 21 0x04 rfl) (dkk_21 1108) rfl
theorem dL_law_1110 : decode cL_law 1110 = .ok (.iconst 1, 1) := dk_0 (lwg_34 22 0x04 rfl) (dkk_4 1110)
theorem dL_law_1111 : decode cL_law 1111 = .ok (.iadd, 1) := dk_0 (lwg_34 23 0x60 rfl) (dkk_96 1111)
theorem dL_law_1112 : decode cL_law 1112 = .ok (.iaload, 1) := dk_0 (lwg_34 24 0x2e rfl) (dkk_46 1112)
theorem dL_law_1113 : decode cL_law 1113 = .ok (.invokevirtual 214, 3) := dk_2 (f := Jvm.ClassFile.Instr.invokevirtual) (lwg_34 25 0xb6 rfl) (lwg_34 26 0x00 rfl) (lwg_34 27 0xd6 rfl) (dkk_182 1113) rfl
theorem dL_law_1116 : decode cL_law 1116 = .ok (.istore 6, 2) := dk_1 (f := Jvm.ClassFile.Instr.istore) (lwg_34 28 0x36 rfl) (lwg_34 29 0x06 rfl) (dkk_54 1116) rfl
theorem dL_law_1118 : decode cL_law 1118 = .ok (.goto 695, 3) := dk_2s (f := Jvm.ClassFile.Instr.goto) (lwg_34 30 0xa7 rfl) (lwg_34 31 0x02 rfl) (lwg_35 0 0xb7 rfl) (dkk_167 1118) (by decide +kernel)
theorem dL_law_1121 : decode cL_law 1121 = .ok (.aload_n 1, 1) := dk_0 (lwg_35 1 0x2b rfl) (dkk_43 1121)
theorem dL_law_1122 : decode cL_law 1122 = .ok (.invokevirtual 215, 3) := dk_2 (f := Jvm.ClassFile.Instr.invokevirtual) (lwg_35 2 0xb6 rfl) (lwg_35 3 0x00 rfl) (lwg_35 4 0xd7 rfl) (dkk_182 1122) rfl
theorem dL_law_1125 : decode cL_law 1125 = .ok (.pop, 1) := dk_0 (lwg_35 5 0x57 rfl) (dkk_87 1125)
theorem dL_law_1126 : decode cL_law 1126 = .ok (.aload_n 2, 1) := dk_0 (lwg_35 6 0x2c rfl) (dkk_44 1126)
theorem dL_law_1127 : decode cL_law 1127 = .ok (.invokevirtual 219, 3) := dk_2 (f := Jvm.ClassFile.Instr.invokevirtual) (lwg_35 7 0xb6 rfl) (lwg_35 8 0x00 rfl) (lwg_35 9 0xdb rfl) (dkk_182 1127) rfl
theorem dL_law_1130 : decode cL_law 1130 = .ok (.pop, 1) := dk_0 (lwg_35 10 0x57 rfl) (dkk_87 1130)
theorem dL_law_1131 : decode cL_law 1131 = .ok (.goto 682, 3) := dk_2s (f := Jvm.ClassFile.Instr.goto) (lwg_35 11 0xa7 rfl) (lwg_35 12 0x02 rfl) (lwg_35 13 0xaa rfl) (dkk_167 1131) (by decide +kernel)
theorem dL_law_1134 : decode cL_law 1134 = .ok (.aload_n 1, 1) := dk_0 (lwg_35 14 0x2b rfl) (dkk_43 1134)
theorem dL_law_1135 : decode cL_law 1135 = .ok (.aload_n 0, 1) := dk_0 (lwg_35 15 0x2a rfl) (dkk_42 1135)
theorem dL_law_1136 : decode cL_law 1136 = .ok (.iload 4, 2) := dk_1 (f := Jvm.ClassFile.Instr.iload) (lwg_35 16 0x15 rfl) (lwg_35 17 0x04 rfl) (dkk_21 1136) rfl
theorem dL_law_1138 : decode cL_law 1138 = .ok (.iconst 1, 1) := dk_0 (lwg_35 18 0x04 rfl) (dkk_4 1138)
theorem dL_law_1139 : decode cL_law 1139 = .ok (.iadd, 1) := dk_0 (lwg_35 19 0x60 rfl) (dkk_96 1139)
theorem dL_law_1140 : decode cL_law 1140 = .ok (.iaload, 1) := dk_0 (lwg_35 20 0x2e rfl) (dkk_46 1140)
theorem dL_law_1141 : decode cL_law 1141 = .ok (.aload_n 3, 1) := dk_0 (lwg_35 21 0x2d rfl) (dkk_45 1141)
theorem dL_law_1142 : decode cL_law 1142 = .ok (.invokestatic 220, 3) := dk_2 (f := Jvm.ClassFile.Instr.invokestatic) (lwg_35 22 0xb8 rfl) (lwg_35 23 0x00 rfl) (lwg_35 24 0xdc rfl) (dkk_184 1142) rfl
theorem dL_law_1145 : decode cL_law 1145 = .ok (.istore 5, 2) := dk_1 (f := Jvm.ClassFile.Instr.istore) (lwg_35 25 0x36 rfl) (lwg_35 26 0x05 rfl) (dkk_54 1145) rfl
theorem dL_law_1147 : decode cL_law 1147 = .ok (.aload_n 2, 1) := dk_0 (lwg_35 27 0x2c rfl) (dkk_44 1147)
theorem dL_law_1148 : decode cL_law 1148 = .ok (.aload_n 0, 1) := dk_0 (lwg_35 28 0x2a rfl) (dkk_42 1148)
theorem dL_law_1149 : decode cL_law 1149 = .ok (.iload 4, 2) := dk_1 (f := Jvm.ClassFile.Instr.iload) (lwg_35 29 0x15 rfl) (lwg_35 30 0x04 rfl) (dkk_21 1149) rfl
theorem dL_law_1151 : decode cL_law 1151 = .ok (.iconst 1, 1) := dk_0 (lwg_35 31 0x04 rfl) (dkk_4 1151)
theorem dL_law_1152 : decode cL_law 1152 = .ok (.iadd, 1) := dk_0 (lwg_36 0 0x60 rfl) (dkk_96 1152)
theorem dL_law_1153 : decode cL_law 1153 = .ok (.iaload, 1) := dk_0 (lwg_36 1 0x2e rfl) (dkk_46 1153)
theorem dL_law_1154 : decode cL_law 1154 = .ok (.invokevirtual 222, 3) := dk_2 (f := Jvm.ClassFile.Instr.invokevirtual) (lwg_36 2 0xb6 rfl) (lwg_36 3 0x00 rfl) (lwg_36 4 0xde rfl) (dkk_182 1154) rfl
theorem dL_law_1157 : decode cL_law 1157 = .ok (.istore 6, 2) := dk_1 (f := Jvm.ClassFile.Instr.istore) (lwg_36 5 0x36 rfl) (lwg_36 6 0x06 rfl) (dkk_54 1157) rfl
theorem dL_law_1159 : decode cL_law 1159 = .ok (.goto 654, 3) := dk_2s (f := Jvm.ClassFile.Instr.goto) (lwg_36 7 0xa7 rfl) (lwg_36 8 0x02 rfl) (lwg_36 9 0x8e rfl) (dkk_167 1159) (by decide +kernel)
theorem dL_law_1162 : decode cL_law 1162 = .ok (.aload_n 1, 1) := dk_0 (lwg_36 10 0x2b rfl) (dkk_43 1162)
theorem dL_law_1163 : decode cL_law 1163 = .ok (.aload_n 0, 1) := dk_0 (lwg_36 11 0x2a rfl) (dkk_42 1163)
theorem dL_law_1164 : decode cL_law 1164 = .ok (.iload 4, 2) := dk_1 (f := Jvm.ClassFile.Instr.iload) (lwg_36 12 0x15 rfl) (lwg_36 13 0x04 rfl) (dkk_21 1164) rfl
theorem dL_law_1166 : decode cL_law 1166 = .ok (.iconst 1, 1) := dk_0 (lwg_36 14 0x04 rfl) (dkk_4 1166)
theorem dL_law_1167 : decode cL_law 1167 = .ok (.iadd, 1) := dk_0 (lwg_36 15 0x60 rfl) (dkk_96 1167)
theorem dL_law_1168 : decode cL_law 1168 = .ok (.iaload, 1) := dk_0 (lwg_36 16 0x2e rfl) (dkk_46 1168)
theorem dL_law_1169 : decode cL_law 1169 = .ok (.aload_n 0, 1) := dk_0 (lwg_36 17 0x2a rfl) (dkk_42 1169)
theorem dL_law_1170 : decode cL_law 1170 = .ok (.iload 4, 2) := dk_1 (f := Jvm.ClassFile.Instr.iload) (lwg_36 18 0x15 rfl) (lwg_36 19 0x04 rfl) (dkk_21 1170) rfl
theorem dL_law_1172 : decode cL_law 1172 = .ok (.iconst 2, 1) := dk_0 (lwg_36 20 0x05 rfl) (dkk_5 1172)
theorem dL_law_1173 : decode cL_law 1173 = .ok (.iadd, 1) := dk_0 (lwg_36 21 0x60 rfl) (dkk_96 1173)
theorem dL_law_1174 : decode cL_law 1174 = .ok (.iaload, 1) := dk_0 (lwg_36 22 0x2e rfl) (dkk_46 1174)
theorem dL_law_1175 : decode cL_law 1175 = .ok (.aload_n 0, 1) := dk_0 (lwg_36 23 0x2a rfl) (dkk_42 1175)
theorem dL_law_1176 : decode cL_law 1176 = .ok (.iload 4, 2) := dk_1 (f := Jvm.ClassFile.Instr.iload) (lwg_36 24 0x15 rfl) (lwg_36 25 0x04 rfl) (dkk_21 1176) rfl
theorem dL_law_1178 : decode cL_law 1178 = .ok (.iconst 3, 1) := dk_0 (lwg_36 26 0x06 rfl) (dkk_6 1178)
theorem dL_law_1179 : decode cL_law 1179 = .ok (.iadd, 1) := dk_0 (lwg_36 27 0x60 rfl) (dkk_96 1179)
theorem dL_law_1180 : decode cL_law 1180 = .ok (.iaload, 1) := dk_0 (lwg_36 28 0x2e rfl) (dkk_46 1180)
theorem dL_law_1181 : decode cL_law 1181 = .ok (.aload_n 3, 1) := dk_0 (lwg_36 29 0x2d rfl) (dkk_45 1181)
theorem dL_law_1182 : decode cL_law 1182 = .ok (.invokestatic 223, 3) := dk_2 (f := Jvm.ClassFile.Instr.invokestatic) (lwg_36 30 0xb8 rfl) (lwg_36 31 0x00 rfl) (lwg_37 0 0xdf rfl) (dkk_184 1182) rfl
theorem dL_law_1185 : decode cL_law 1185 = .ok (.istore 5, 2) := dk_1 (f := Jvm.ClassFile.Instr.istore) (lwg_37 1 0x36 rfl) (lwg_37 2 0x05 rfl) (dkk_54 1185) rfl
theorem dL_law_1187 : decode cL_law 1187 = .ok (.aload_n 2, 1) := dk_0 (lwg_37 3 0x2c rfl) (dkk_44 1187)
theorem dL_law_1188 : decode cL_law 1188 = .ok (.aload_n 0, 1) := dk_0 (lwg_37 4 0x2a rfl) (dkk_42 1188)
theorem dL_law_1189 : decode cL_law 1189 = .ok (.iload 4, 2) := dk_1 (f := Jvm.ClassFile.Instr.iload) (lwg_37 5 0x15 rfl) (lwg_37 6 0x04 rfl) (dkk_21 1189) rfl
theorem dL_law_1191 : decode cL_law 1191 = .ok (.iconst 1, 1) := dk_0 (lwg_37 7 0x04 rfl) (dkk_4 1191)
theorem dL_law_1192 : decode cL_law 1192 = .ok (.iadd, 1) := dk_0 (lwg_37 8 0x60 rfl) (dkk_96 1192)
theorem dL_law_1193 : decode cL_law 1193 = .ok (.iaload, 1) := dk_0 (lwg_37 9 0x2e rfl) (dkk_46 1193)
theorem dL_law_1194 : decode cL_law 1194 = .ok (.aload_n 0, 1) := dk_0 (lwg_37 10 0x2a rfl) (dkk_42 1194)
theorem dL_law_1195 : decode cL_law 1195 = .ok (.iload 4, 2) := dk_1 (f := Jvm.ClassFile.Instr.iload) (lwg_37 11 0x15 rfl) (lwg_37 12 0x04 rfl) (dkk_21 1195) rfl
theorem dL_law_1197 : decode cL_law 1197 = .ok (.iconst 2, 1) := dk_0 (lwg_37 13 0x05 rfl) (dkk_5 1197)
theorem dL_law_1198 : decode cL_law 1198 = .ok (.iadd, 1) := dk_0 (lwg_37 14 0x60 rfl) (dkk_96 1198)
theorem dL_law_1199 : decode cL_law 1199 = .ok (.iaload, 1) := dk_0 (lwg_37 15 0x2e rfl) (dkk_46 1199)
theorem dL_law_1200 : decode cL_law 1200 = .ok (.aload_n 0, 1) := dk_0 (lwg_37 16 0x2a rfl) (dkk_42 1200)
theorem dL_law_1201 : decode cL_law 1201 = .ok (.iload 4, 2) := dk_1 (f := Jvm.ClassFile.Instr.iload) (lwg_37 17 0x15 rfl) (lwg_37 18 0x04 rfl) (dkk_21 1201) rfl
theorem dL_law_1203 : decode cL_law 1203 = .ok (.iconst 3, 1) := dk_0 (lwg_37 19 0x06 rfl) (dkk_6 1203)
theorem dL_law_1204 : decode cL_law 1204 = .ok (.iadd, 1) := dk_0 (lwg_37 20 0x60 rfl) (dkk_96 1204)
theorem dL_law_1205 : decode cL_law 1205 = .ok (.iaload, 1) := dk_0 (lwg_37 21 0x2e rfl) (dkk_46 1205)
theorem dL_law_1206 : decode cL_law 1206 = .ok (.invokevirtual 225, 3) := dk_2 (f := Jvm.ClassFile.Instr.invokevirtual) (lwg_37 22 0xb6 rfl) (lwg_37 23 0x00 rfl) (lwg_37 24 0xe1 rfl) (dkk_182 1206) rfl
theorem dL_law_1209 : decode cL_law 1209 = .ok (.istore 6, 2) := dk_1 (f := Jvm.ClassFile.Instr.istore) (lwg_37 25 0x36 rfl) (lwg_37 26 0x06 rfl) (dkk_54 1209) rfl
theorem dL_law_1211 : decode cL_law 1211 = .ok (.goto 602, 3) := dk_2s (f := Jvm.ClassFile.Instr.goto) (lwg_37 27 0xa7 rfl) (lwg_37 28 0x02 rfl) (lwg_37 29 0x5a rfl) (dkk_167 1211) (by decide +kernel)
theorem dL_law_1214 : decode cL_law 1214 = .ok (.aload_n 1, 1) := dk_0 (lwg_37 30 0x2b rfl) (dkk_43 1214)
theorem dL_law_1215 : decode cL_law 1215 = .ok (.aload_n 0, 1) := dk_0 (lwg_37 31 0x2a rfl) (dkk_42 1215)
theorem dL_law_1216 : decode cL_law 1216 = .ok (.iload 4, 2) := dk_1 (f := Jvm.ClassFile.Instr.iload) (lwg_38 0 0x15 rfl) (lwg_38 1 0x04 rfl) (dkk_21 1216) rfl
theorem dL_law_1218 : decode cL_law 1218 = .ok (.iconst 1, 1) := dk_0 (lwg_38 2 0x04 rfl) (dkk_4 1218)
theorem dL_law_1219 : decode cL_law 1219 = .ok (.iadd, 1) := dk_0 (lwg_38 3 0x60 rfl) (dkk_96 1219)
theorem dL_law_1220 : decode cL_law 1220 = .ok (.iaload, 1) := dk_0 (lwg_38 4 0x2e rfl) (dkk_46 1220)
theorem dL_law_1221 : decode cL_law 1221 = .ok (.aload_n 0, 1) := dk_0 (lwg_38 5 0x2a rfl) (dkk_42 1221)
theorem dL_law_1222 : decode cL_law 1222 = .ok (.iload 4, 2) := dk_1 (f := Jvm.ClassFile.Instr.iload) (lwg_38 6 0x15 rfl) (lwg_38 7 0x04 rfl) (dkk_21 1222) rfl
theorem dL_law_1224 : decode cL_law 1224 = .ok (.iconst 2, 1) := dk_0 (lwg_38 8 0x05 rfl) (dkk_5 1224)
theorem dL_law_1225 : decode cL_law 1225 = .ok (.iadd, 1) := dk_0 (lwg_38 9 0x60 rfl) (dkk_96 1225)
theorem dL_law_1226 : decode cL_law 1226 = .ok (.iaload, 1) := dk_0 (lwg_38 10 0x2e rfl) (dkk_46 1226)
theorem dL_law_1227 : decode cL_law 1227 = .ok (.aload_n 0, 1) := dk_0 (lwg_38 11 0x2a rfl) (dkk_42 1227)
theorem dL_law_1228 : decode cL_law 1228 = .ok (.iload 4, 2) := dk_1 (f := Jvm.ClassFile.Instr.iload) (lwg_38 12 0x15 rfl) (lwg_38 13 0x04 rfl) (dkk_21 1228) rfl
theorem dL_law_1230 : decode cL_law 1230 = .ok (.iconst 3, 1) := dk_0 (lwg_38 14 0x06 rfl) (dkk_6 1230)
theorem dL_law_1231 : decode cL_law 1231 = .ok (.iadd, 1) := dk_0 (lwg_38 15 0x60 rfl) (dkk_96 1231)
theorem dL_law_1232 : decode cL_law 1232 = .ok (.iaload, 1) := dk_0 (lwg_38 16 0x2e rfl) (dkk_46 1232)
theorem dL_law_1233 : decode cL_law 1233 = .ok (.aload_n 3, 1) := dk_0 (lwg_38 17 0x2d rfl) (dkk_45 1233)
theorem dL_law_1234 : decode cL_law 1234 = .ok (.invokestatic 226, 3) := dk_2 (f := Jvm.ClassFile.Instr.invokestatic) (lwg_38 18 0xb8 rfl) (lwg_38 19 0x00 rfl) (lwg_38 20 0xe2 rfl) (dkk_184 1234) rfl
theorem dL_law_1237 : decode cL_law 1237 = .ok (.istore 5, 2) := dk_1 (f := Jvm.ClassFile.Instr.istore) (lwg_38 21 0x36 rfl) (lwg_38 22 0x05 rfl) (dkk_54 1237) rfl
theorem dL_law_1239 : decode cL_law 1239 = .ok (.aload_n 2, 1) := dk_0 (lwg_38 23 0x2c rfl) (dkk_44 1239)
theorem dL_law_1240 : decode cL_law 1240 = .ok (.aload_n 0, 1) := dk_0 (lwg_38 24 0x2a rfl) (dkk_42 1240)
theorem dL_law_1241 : decode cL_law 1241 = .ok (.iload 4, 2) := dk_1 (f := Jvm.ClassFile.Instr.iload) (lwg_38 25 0x15 rfl) (lwg_38 26 0x04 rfl) (dkk_21 1241) rfl
theorem dL_law_1243 : decode cL_law 1243 = .ok (.iconst 1, 1) := dk_0 (lwg_38 27 0x04 rfl) (dkk_4 1243)
theorem dL_law_1244 : decode cL_law 1244 = .ok (.iadd, 1) := dk_0 (lwg_38 28 0x60 rfl) (dkk_96 1244)
theorem dL_law_1245 : decode cL_law 1245 = .ok (.iaload, 1) := dk_0 (lwg_38 29 0x2e rfl) (dkk_46 1245)
theorem dL_law_1246 : decode cL_law 1246 = .ok (.aload_n 0, 1) := dk_0 (lwg_38 30 0x2a rfl) (dkk_42 1246)
theorem dL_law_1247 : decode cL_law 1247 = .ok (.iload 4, 2) := dk_1 (f := Jvm.ClassFile.Instr.iload) (lwg_38 31 0x15 rfl) (lwg_39 0 0x04 rfl) (dkk_21 1247) rfl
theorem dL_law_1249 : decode cL_law 1249 = .ok (.iconst 2, 1) := dk_0 (lwg_39 1 0x05 rfl) (dkk_5 1249)
theorem dL_law_1250 : decode cL_law 1250 = .ok (.iadd, 1) := dk_0 (lwg_39 2 0x60 rfl) (dkk_96 1250)
theorem dL_law_1251 : decode cL_law 1251 = .ok (.iaload, 1) := dk_0 (lwg_39 3 0x2e rfl) (dkk_46 1251)
theorem dL_law_1252 : decode cL_law 1252 = .ok (.aload_n 0, 1) := dk_0 (lwg_39 4 0x2a rfl) (dkk_42 1252)
theorem dL_law_1253 : decode cL_law 1253 = .ok (.iload 4, 2) := dk_1 (f := Jvm.ClassFile.Instr.iload) (lwg_39 5 0x15 rfl) (lwg_39 6 0x04 rfl) (dkk_21 1253) rfl
theorem dL_law_1255 : decode cL_law 1255 = .ok (.iconst 3, 1) := dk_0 (lwg_39 7 0x06 rfl) (dkk_6 1255)
theorem dL_law_1256 : decode cL_law 1256 = .ok (.iadd, 1) := dk_0 (lwg_39 8 0x60 rfl) (dkk_96 1256)
theorem dL_law_1257 : decode cL_law 1257 = .ok (.iaload, 1) := dk_0 (lwg_39 9 0x2e rfl) (dkk_46 1257)
theorem dL_law_1258 : decode cL_law 1258 = .ok (.invokevirtual 228, 3) := dk_2 (f := Jvm.ClassFile.Instr.invokevirtual) (lwg_39 10 0xb6 rfl) (lwg_39 11 0x00 rfl) (lwg_39 12 0xe4 rfl) (dkk_182 1258) rfl
theorem dL_law_1261 : decode cL_law 1261 = .ok (.istore 6, 2) := dk_1 (f := Jvm.ClassFile.Instr.istore) (lwg_39 13 0x36 rfl) (lwg_39 14 0x06 rfl) (dkk_54 1261) rfl
theorem dL_law_1263 : decode cL_law 1263 = .ok (.goto 550, 3) := dk_2s (f := Jvm.ClassFile.Instr.goto) (lwg_39 15 0xa7 rfl) (lwg_39 16 0x02 rfl) (lwg_39 17 0x26 rfl) (dkk_167 1263) (by decide +kernel)
theorem dL_law_1266 : decode cL_law 1266 = .ok (.aload_n 1, 1) := dk_0 (lwg_39 18 0x2b rfl) (dkk_43 1266)
theorem dL_law_1267 : decode cL_law 1267 = .ok (.aload_n 0, 1) := dk_0 (lwg_39 19 0x2a rfl) (dkk_42 1267)
theorem dL_law_1268 : decode cL_law 1268 = .ok (.iload 4, 2) := dk_1 (f := Jvm.ClassFile.Instr.iload) (lwg_39 20 0x15 rfl) (lwg_39 21 0x04 rfl) (dkk_21 1268) rfl
theorem dL_law_1270 : decode cL_law 1270 = .ok (.iconst 1, 1) := dk_0 (lwg_39 22 0x04 rfl) (dkk_4 1270)
theorem dL_law_1271 : decode cL_law 1271 = .ok (.iadd, 1) := dk_0 (lwg_39 23 0x60 rfl) (dkk_96 1271)
theorem dL_law_1272 : decode cL_law 1272 = .ok (.iaload, 1) := dk_0 (lwg_39 24 0x2e rfl) (dkk_46 1272)
theorem dL_law_1273 : decode cL_law 1273 = .ok (.aload_n 0, 1) := dk_0 (lwg_39 25 0x2a rfl) (dkk_42 1273)
theorem dL_law_1274 : decode cL_law 1274 = .ok (.iload 4, 2) := dk_1 (f := Jvm.ClassFile.Instr.iload) (lwg_39 26 0x15 rfl) (lwg_39 27 0x04 rfl) (dkk_21 1274) rfl
theorem dL_law_1276 : decode cL_law 1276 = .ok (.iconst 2, 1) := dk_0 (lwg_39 28 0x05 rfl) (dkk_5 1276)
theorem dL_law_1277 : decode cL_law 1277 = .ok (.iadd, 1) := dk_0 (lwg_39 29 0x60 rfl) (dkk_96 1277)
theorem dL_law_1278 : decode cL_law 1278 = .ok (.iaload, 1) := dk_0 (lwg_39 30 0x2e rfl) (dkk_46 1278)
theorem dL_law_1279 : decode cL_law 1279 = .ok (.aload_n 0, 1) := dk_0 (lwg_39 31 0x2a rfl) (dkk_42 1279)
theorem dL_law_1280 : decode cL_law 1280 = .ok (.iload 4, 2) := dk_1 (f := Jvm.ClassFile.Instr.iload) (lwg_40 0 0x15 rfl) (lwg_40 1 0x04 rfl) (dkk_21 1280) rfl
theorem dL_law_1282 : decode cL_law 1282 = .ok (.iconst 3, 1) := dk_0 (lwg_40 2 0x06 rfl) (dkk_6 1282)
theorem dL_law_1283 : decode cL_law 1283 = .ok (.iadd, 1) := dk_0 (lwg_40 3 0x60 rfl) (dkk_96 1283)
theorem dL_law_1284 : decode cL_law 1284 = .ok (.iaload, 1) := dk_0 (lwg_40 4 0x2e rfl) (dkk_46 1284)
theorem dL_law_1285 : decode cL_law 1285 = .ok (.aload_n 3, 1) := dk_0 (lwg_40 5 0x2d rfl) (dkk_45 1285)
theorem dL_law_1286 : decode cL_law 1286 = .ok (.invokestatic 229, 3) := dk_2 (f := Jvm.ClassFile.Instr.invokestatic) (lwg_40 6 0xb8 rfl) (lwg_40 7 0x00 rfl) (lwg_40 8 0xe5 rfl) (dkk_184 1286) rfl
theorem dL_law_1289 : decode cL_law 1289 = .ok (.istore 5, 2) := dk_1 (f := Jvm.ClassFile.Instr.istore) (lwg_40 9 0x36 rfl) (lwg_40 10 0x05 rfl) (dkk_54 1289) rfl
theorem dL_law_1291 : decode cL_law 1291 = .ok (.aload_n 2, 1) := dk_0 (lwg_40 11 0x2c rfl) (dkk_44 1291)
theorem dL_law_1292 : decode cL_law 1292 = .ok (.aload_n 0, 1) := dk_0 (lwg_40 12 0x2a rfl) (dkk_42 1292)
theorem dL_law_1293 : decode cL_law 1293 = .ok (.iload 4, 2) := dk_1 (f := Jvm.ClassFile.Instr.iload) (lwg_40 13 0x15 rfl) (lwg_40 14 0x04 rfl) (dkk_21 1293) rfl
theorem dL_law_1295 : decode cL_law 1295 = .ok (.iconst 1, 1) := dk_0 (lwg_40 15 0x04 rfl) (dkk_4 1295)
theorem dL_law_1296 : decode cL_law 1296 = .ok (.iadd, 1) := dk_0 (lwg_40 16 0x60 rfl) (dkk_96 1296)
theorem dL_law_1297 : decode cL_law 1297 = .ok (.iaload, 1) := dk_0 (lwg_40 17 0x2e rfl) (dkk_46 1297)
theorem dL_law_1298 : decode cL_law 1298 = .ok (.aload_n 0, 1) := dk_0 (lwg_40 18 0x2a rfl) (dkk_42 1298)
theorem dL_law_1299 : decode cL_law 1299 = .ok (.iload 4, 2) := dk_1 (f := Jvm.ClassFile.Instr.iload) (lwg_40 19 0x15 rfl) (lwg_40 20 0x04 rfl) (dkk_21 1299) rfl
theorem dL_law_1301 : decode cL_law 1301 = .ok (.iconst 2, 1) := dk_0 (lwg_40 21 0x05 rfl) (dkk_5 1301)
theorem dL_law_1302 : decode cL_law 1302 = .ok (.iadd, 1) := dk_0 (lwg_40 22 0x60 rfl) (dkk_96 1302)
theorem dL_law_1303 : decode cL_law 1303 = .ok (.iaload, 1) := dk_0 (lwg_40 23 0x2e rfl) (dkk_46 1303)
theorem dL_law_1304 : decode cL_law 1304 = .ok (.aload_n 0, 1) := dk_0 (lwg_40 24 0x2a rfl) (dkk_42 1304)
theorem dL_law_1305 : decode cL_law 1305 = .ok (.iload 4, 2) := dk_1 (f := Jvm.ClassFile.Instr.iload) (lwg_40 25 0x15 rfl) (lwg_40 26 0x04 rfl) (dkk_21 1305) rfl
theorem dL_law_1307 : decode cL_law 1307 = .ok (.iconst 3, 1) := dk_0 (lwg_40 27 0x06 rfl) (dkk_6 1307)
theorem dL_law_1308 : decode cL_law 1308 = .ok (.iadd, 1) := dk_0 (lwg_40 28 0x60 rfl) (dkk_96 1308)
theorem dL_law_1309 : decode cL_law 1309 = .ok (.iaload, 1) := dk_0 (lwg_40 29 0x2e rfl) (dkk_46 1309)
theorem dL_law_1310 : decode cL_law 1310 = .ok (.invokevirtual 231, 3) := dk_2 (f := Jvm.ClassFile.Instr.invokevirtual) (lwg_40 30 0xb6 rfl) (lwg_40 31 0x00 rfl) (lwg_41 0 0xe7 rfl) (dkk_182 1310) rfl
theorem dL_law_1313 : decode cL_law 1313 = .ok (.istore 6, 2) := dk_1 (f := Jvm.ClassFile.Instr.istore) (lwg_41 1 0x36 rfl) (lwg_41 2 0x06 rfl) (dkk_54 1313) rfl
theorem dL_law_1315 : decode cL_law 1315 = .ok (.goto 498, 3) := dk_2s (f := Jvm.ClassFile.Instr.goto) (lwg_41 3 0xa7 rfl) (lwg_41 4 0x01 rfl) (lwg_41 5 0xf2 rfl) (dkk_167 1315) (by decide +kernel)
theorem dL_law_1318 : decode cL_law 1318 = .ok (.aload_n 1, 1) := dk_0 (lwg_41 6 0x2b rfl) (dkk_43 1318)
theorem dL_law_1319 : decode cL_law 1319 = .ok (.aload_n 0, 1) := dk_0 (lwg_41 7 0x2a rfl) (dkk_42 1319)
theorem dL_law_1320 : decode cL_law 1320 = .ok (.iload 4, 2) := dk_1 (f := Jvm.ClassFile.Instr.iload) (lwg_41 8 0x15 rfl) (lwg_41 9 0x04 rfl) (dkk_21 1320) rfl
theorem dL_law_1322 : decode cL_law 1322 = .ok (.iconst 1, 1) := dk_0 (lwg_41 10 0x04 rfl) (dkk_4 1322)
theorem dL_law_1323 : decode cL_law 1323 = .ok (.iadd, 1) := dk_0 (lwg_41 11 0x60 rfl) (dkk_96 1323)
theorem dL_law_1324 : decode cL_law 1324 = .ok (.iaload, 1) := dk_0 (lwg_41 12 0x2e rfl) (dkk_46 1324)
theorem dL_law_1325 : decode cL_law 1325 = .ok (.aload_n 3, 1) := dk_0 (lwg_41 13 0x2d rfl) (dkk_45 1325)
theorem dL_law_1326 : decode cL_law 1326 = .ok (.invokestatic 232, 3) := dk_2 (f := Jvm.ClassFile.Instr.invokestatic) (lwg_41 14 0xb8 rfl) (lwg_41 15 0x00 rfl) (lwg_41 16 0xe8 rfl) (dkk_184 1326) rfl
theorem dL_law_1329 : decode cL_law 1329 = .ok (.istore 5, 2) := dk_1 (f := Jvm.ClassFile.Instr.istore) (lwg_41 17 0x36 rfl) (lwg_41 18 0x05 rfl) (dkk_54 1329) rfl
theorem dL_law_1331 : decode cL_law 1331 = .ok (.aload_n 2, 1) := dk_0 (lwg_41 19 0x2c rfl) (dkk_44 1331)
theorem dL_law_1332 : decode cL_law 1332 = .ok (.aload_n 0, 1) := dk_0 (lwg_41 20 0x2a rfl) (dkk_42 1332)
theorem dL_law_1333 : decode cL_law 1333 = .ok (.iload 4, 2) := dk_1 (f := Jvm.ClassFile.Instr.iload) (lwg_41 21 0x15 rfl) (lwg_41 22 0x04 rfl) (dkk_21 1333) rfl
theorem dL_law_1335 : decode cL_law 1335 = .ok (.iconst 1, 1) := dk_0 (lwg_41 23 0x04 rfl) (dkk_4 1335)
theorem dL_law_1336 : decode cL_law 1336 = .ok (.iadd, 1) := dk_0 (lwg_41 24 0x60 rfl) (dkk_96 1336)
theorem dL_law_1337 : decode cL_law 1337 = .ok (.iaload, 1) := dk_0 (lwg_41 25 0x2e rfl) (dkk_46 1337)
theorem dL_law_1338 : decode cL_law 1338 = .ok (.invokevirtual 234, 3) := dk_2 (f := Jvm.ClassFile.Instr.invokevirtual) (lwg_41 26 0xb6 rfl) (lwg_41 27 0x00 rfl) (lwg_41 28 0xea rfl) (dkk_182 1338) rfl
theorem dL_law_1341 : decode cL_law 1341 = .ok (.istore 6, 2) := dk_1 (f := Jvm.ClassFile.Instr.istore) (lwg_41 29 0x36 rfl) (lwg_41 30 0x06 rfl) (dkk_54 1341) rfl
theorem dL_law_1343 : decode cL_law 1343 = .ok (.goto 470, 3) := dk_2s (f := Jvm.ClassFile.Instr.goto) (lwg_41 31 0xa7 rfl) (lwg_42 0 0x01 rfl) (lwg_42 1 0xd6 rfl) (dkk_167 1343) (by decide +kernel)
theorem dL_law_1346 : decode cL_law 1346 = .ok (.aload_n 1, 1) := dk_0 (lwg_42 2 0x2b rfl) (dkk_43 1346)
theorem dL_law_1347 : decode cL_law 1347 = .ok (.aload_n 0, 1) := dk_0 (lwg_42 3 0x2a rfl) (dkk_42 1347)
theorem dL_law_1348 : decode cL_law 1348 = .ok (.iload 4, 2) := dk_1 (f := Jvm.ClassFile.Instr.iload) (lwg_42 4 0x15 rfl) (lwg_42 5 0x04 rfl) (dkk_21 1348) rfl
theorem dL_law_1350 : decode cL_law 1350 = .ok (.iconst 1, 1) := dk_0 (lwg_42 6 0x04 rfl) (dkk_4 1350)
theorem dL_law_1351 : decode cL_law 1351 = .ok (.iadd, 1) := dk_0 (lwg_42 7 0x60 rfl) (dkk_96 1351)
theorem dL_law_1352 : decode cL_law 1352 = .ok (.iaload, 1) := dk_0 (lwg_42 8 0x2e rfl) (dkk_46 1352)
theorem dL_law_1353 : decode cL_law 1353 = .ok (.aload_n 0, 1) := dk_0 (lwg_42 9 0x2a rfl) (dkk_42 1353)
theorem dL_law_1354 : decode cL_law 1354 = .ok (.iload 4, 2) := dk_1 (f := Jvm.ClassFile.Instr.iload) (lwg_42 10 0x15 rfl) (lwg_42 11 0x04 rfl) (dkk_21 1354) rfl
theorem dL_law_1356 : decode cL_law 1356 = .ok (.iconst 2, 1) := dk_0 (lwg_42 12 0x05 rfl) (dkk_5 1356)
theorem dL_law_1357 : decode cL_law 1357 = .ok (.iadd, 1) := dk_0 (lwg_42 13 0x60 rfl) (dkk_96 1357)
theorem dL_law_1358 : decode cL_law 1358 = .ok (.iaload, 1) := dk_0 (lwg_42 14 0x2e rfl) (dkk_46 1358)
theorem dL_law_1359 : decode cL_law 1359 = .ok (.ifCond .eq 7, 3) := dk_2s (f := fun z => Jvm.ClassFile.Instr.ifCond .eq z) (lwg_42 15 0x99 rfl) (lwg_42 16 0x00 rfl) (lwg_42 17 0x07 rfl) (dkk_153 1359) (by decide +kernel)
theorem dL_law_1362 : decode cL_law 1362 = .ok (.iconst 1, 1) := dk_0 (lwg_42 18 0x04 rfl) (dkk_4 1362)
theorem dL_law_1363 : decode cL_law 1363 = .ok (.goto 4, 3) := dk_2s (f := Jvm.ClassFile.Instr.goto) (lwg_42 19 0xa7 rfl) (lwg_42 20 0x00 rfl) (lwg_42 21 0x04 rfl) (dkk_167 1363) (by decide +kernel)
theorem dL_law_1366 : decode cL_law 1366 = .ok (.iconst 0, 1) := dk_0 (lwg_42 22 0x03 rfl) (dkk_3 1366)
theorem dL_law_1367 : decode cL_law 1367 = .ok (.aload_n 3, 1) := dk_0 (lwg_42 23 0x2d rfl) (dkk_45 1367)
theorem dL_law_1368 : decode cL_law 1368 = .ok (.invokestatic 235, 3) := dk_2 (f := Jvm.ClassFile.Instr.invokestatic) (lwg_42 24 0xb8 rfl) (lwg_42 25 0x00 rfl) (lwg_42 26 0xeb rfl) (dkk_184 1368) rfl
theorem dL_law_1371 : decode cL_law 1371 = .ok (.istore 5, 2) := dk_1 (f := Jvm.ClassFile.Instr.istore) (lwg_42 27 0x36 rfl) (lwg_42 28 0x05 rfl) (dkk_54 1371) rfl
theorem dL_law_1373 : decode cL_law 1373 = .ok (.aload_n 2, 1) := dk_0 (lwg_42 29 0x2c rfl) (dkk_44 1373)
theorem dL_law_1374 : decode cL_law 1374 = .ok (.aload_n 0, 1) := dk_0 (lwg_42 30 0x2a rfl) (dkk_42 1374)
theorem dL_law_1375 : decode cL_law 1375 = .ok (.iload 4, 2) := dk_1 (f := Jvm.ClassFile.Instr.iload) (lwg_42 31 0x15 rfl) (lwg_43 0 0x04 rfl) (dkk_21 1375) rfl
theorem dL_law_1377 : decode cL_law 1377 = .ok (.iconst 1, 1) := dk_0 (lwg_43 1 0x04 rfl) (dkk_4 1377)
theorem dL_law_1378 : decode cL_law 1378 = .ok (.iadd, 1) := dk_0 (lwg_43 2 0x60 rfl) (dkk_96 1378)
theorem dL_law_1379 : decode cL_law 1379 = .ok (.iaload, 1) := dk_0 (lwg_43 3 0x2e rfl) (dkk_46 1379)
theorem dL_law_1380 : decode cL_law 1380 = .ok (.aload_n 0, 1) := dk_0 (lwg_43 4 0x2a rfl) (dkk_42 1380)
theorem dL_law_1381 : decode cL_law 1381 = .ok (.iload 4, 2) := dk_1 (f := Jvm.ClassFile.Instr.iload) (lwg_43 5 0x15 rfl) (lwg_43 6 0x04 rfl) (dkk_21 1381) rfl
theorem dL_law_1383 : decode cL_law 1383 = .ok (.iconst 2, 1) := dk_0 (lwg_43 7 0x05 rfl) (dkk_5 1383)
theorem dL_law_1384 : decode cL_law 1384 = .ok (.iadd, 1) := dk_0 (lwg_43 8 0x60 rfl) (dkk_96 1384)
theorem dL_law_1385 : decode cL_law 1385 = .ok (.iaload, 1) := dk_0 (lwg_43 9 0x2e rfl) (dkk_46 1385)
theorem dL_law_1386 : decode cL_law 1386 = .ok (.ifCond .eq 7, 3) := dk_2s (f := fun z => Jvm.ClassFile.Instr.ifCond .eq z) (lwg_43 10 0x99 rfl) (lwg_43 11 0x00 rfl) (lwg_43 12 0x07 rfl) (dkk_153 1386) (by decide +kernel)
theorem dL_law_1389 : decode cL_law 1389 = .ok (.iconst 1, 1) := dk_0 (lwg_43 13 0x04 rfl) (dkk_4 1389)
theorem dL_law_1390 : decode cL_law 1390 = .ok (.goto 4, 3) := dk_2s (f := Jvm.ClassFile.Instr.goto) (lwg_43 14 0xa7 rfl) (lwg_43 15 0x00 rfl) (lwg_43 16 0x04 rfl) (dkk_167 1390) (by decide +kernel)
theorem dL_law_1393 : decode cL_law 1393 = .ok (.iconst 0, 1) := dk_0 (lwg_43 17 0x03 rfl) (dkk_3 1393)
theorem dL_law_1394 : decode cL_law 1394 = .ok (.invokevirtual 238, 3) := dk_2 (f := Jvm.ClassFile.Instr.invokevirtual) (lwg_43 18 0xb6 rfl) (lwg_43 19 0x00 rfl) (lwg_43 20 0xee rfl) (dkk_182 1394) rfl
theorem dL_law_1397 : decode cL_law 1397 = .ok (.istore 6, 2) := dk_1 (f := Jvm.ClassFile.Instr.istore) (lwg_43 21 0x36 rfl) (lwg_43 22 0x06 rfl) (dkk_54 1397) rfl
theorem dL_law_1399 : decode cL_law 1399 = .ok (.goto 414, 3) := dk_2s (f := Jvm.ClassFile.Instr.goto) (lwg_43 23 0xa7 rfl) (lwg_43 24 0x01 rfl) (lwg_43 25 0x9e rfl) (dkk_167 1399) (by decide +kernel)
theorem dL_law_1402 : decode cL_law 1402 = .ok (.aload_n 1, 1) := dk_0 (lwg_43 26 0x2b rfl) (dkk_43 1402)
theorem dL_law_1403 : decode cL_law 1403 = .ok (.aload_n 0, 1) := dk_0 (lwg_43 27 0x2a rfl) (dkk_42 1403)
theorem dL_law_1404 : decode cL_law 1404 = .ok (.iload 4, 2) := dk_1 (f := Jvm.ClassFile.Instr.iload) (lwg_43 28 0x15 rfl) (lwg_43 29 0x04 rfl) (dkk_21 1404) rfl
theorem dL_law_1406 : decode cL_law 1406 = .ok (.iconst 1, 1) := dk_0 (lwg_43 30 0x04 rfl) (dkk_4 1406)
theorem dL_law_1407 : decode cL_law 1407 = .ok (.iadd, 1) := dk_0 (lwg_43 31 0x60 rfl) (dkk_96 1407)
theorem dL_law_1408 : decode cL_law 1408 = .ok (.iaload, 1) := dk_0 (lwg_44 0 0x2e rfl) (dkk_46 1408)
theorem dL_law_1409 : decode cL_law 1409 = .ok (.aload_n 3, 1) := dk_0 (lwg_44 1 0x2d rfl) (dkk_45 1409)
theorem dL_law_1410 : decode cL_law 1410 = .ok (.invokestatic 239, 3) := dk_2 (f := Jvm.ClassFile.Instr.invokestatic) (lwg_44 2 0xb8 rfl) (lwg_44 3 0x00 rfl) (lwg_44 4 0xef rfl) (dkk_184 1410) rfl
theorem dL_law_1413 : decode cL_law 1413 = .ok (.istore 5, 2) := dk_1 (f := Jvm.ClassFile.Instr.istore) (lwg_44 5 0x36 rfl) (lwg_44 6 0x05 rfl) (dkk_54 1413) rfl
theorem dL_law_1415 : decode cL_law 1415 = .ok (.aload_n 2, 1) := dk_0 (lwg_44 7 0x2c rfl) (dkk_44 1415)
theorem dL_law_1416 : decode cL_law 1416 = .ok (.aload_n 0, 1) := dk_0 (lwg_44 8 0x2a rfl) (dkk_42 1416)
theorem dL_law_1417 : decode cL_law 1417 = .ok (.iload 4, 2) := dk_1 (f := Jvm.ClassFile.Instr.iload) (lwg_44 9 0x15 rfl) (lwg_44 10 0x04 rfl) (dkk_21 1417) rfl
theorem dL_law_1419 : decode cL_law 1419 = .ok (.iconst 1, 1) := dk_0 (lwg_44 11 0x04 rfl) (dkk_4 1419)
theorem dL_law_1420 : decode cL_law 1420 = .ok (.iadd, 1) := dk_0 (lwg_44 12 0x60 rfl) (dkk_96 1420)
theorem dL_law_1421 : decode cL_law 1421 = .ok (.iaload, 1) := dk_0 (lwg_44 13 0x2e rfl) (dkk_46 1421)
theorem dL_law_1422 : decode cL_law 1422 = .ok (.invokevirtual 241, 3) := dk_2 (f := Jvm.ClassFile.Instr.invokevirtual) (lwg_44 14 0xb6 rfl) (lwg_44 15 0x00 rfl) (lwg_44 16 0xf1 rfl) (dkk_182 1422) rfl
theorem dL_law_1425 : decode cL_law 1425 = .ok (.istore 6, 2) := dk_1 (f := Jvm.ClassFile.Instr.istore) (lwg_44 17 0x36 rfl) (lwg_44 18 0x06 rfl) (dkk_54 1425) rfl
theorem dL_law_1427 : decode cL_law 1427 = .ok (.goto 386, 3) := dk_2s (f := Jvm.ClassFile.Instr.goto) (lwg_44 19 0xa7 rfl) (lwg_44 20 0x01 rfl) (lwg_44 21 0x82 rfl) (dkk_167 1427) (by decide +kernel)
theorem dL_law_1430 : decode cL_law 1430 = .ok (.aload_n 1, 1) := dk_0 (lwg_44 22 0x2b rfl) (dkk_43 1430)
theorem dL_law_1431 : decode cL_law 1431 = .ok (.aload_n 0, 1) := dk_0 (lwg_44 23 0x2a rfl) (dkk_42 1431)
theorem dL_law_1432 : decode cL_law 1432 = .ok (.iload 4, 2) := dk_1 (f := Jvm.ClassFile.Instr.iload) (lwg_44 24 0x15 rfl) (lwg_44 25 0x04 rfl) (dkk_21 1432) rfl
theorem dL_law_1434 : decode cL_law 1434 = .ok (.iconst 1, 1) := dk_0 (lwg_44 26 0x04 rfl) (dkk_4 1434)
theorem dL_law_1435 : decode cL_law 1435 = .ok (.iadd, 1) := dk_0 (lwg_44 27 0x60 rfl) (dkk_96 1435)
theorem dL_law_1436 : decode cL_law 1436 = .ok (.iaload, 1) := dk_0 (lwg_44 28 0x2e rfl) (dkk_46 1436)
theorem dL_law_1437 : decode cL_law 1437 = .ok (.aload_n 3, 1) := dk_0 (lwg_44 29 0x2d rfl) (dkk_45 1437)
theorem dL_law_1438 : decode cL_law 1438 = .ok (.invokestatic 242, 3) := dk_2 (f := Jvm.ClassFile.Instr.invokestatic) (lwg_44 30 0xb8 rfl) (lwg_44 31 0x00 rfl) (lwg_45 0 0xf2 rfl) (dkk_184 1438) rfl
theorem dL_law_1441 : decode cL_law 1441 = .ok (.istore 5, 2) := dk_1 (f := Jvm.ClassFile.Instr.istore) (lwg_45 1 0x36 rfl) (lwg_45 2 0x05 rfl) (dkk_54 1441) rfl
theorem dL_law_1443 : decode cL_law 1443 = .ok (.aload_n 2, 1) := dk_0 (lwg_45 3 0x2c rfl) (dkk_44 1443)
theorem dL_law_1444 : decode cL_law 1444 = .ok (.aload_n 0, 1) := dk_0 (lwg_45 4 0x2a rfl) (dkk_42 1444)
theorem dL_law_1445 : decode cL_law 1445 = .ok (.iload 4, 2) := dk_1 (f := Jvm.ClassFile.Instr.iload) (lwg_45 5 0x15 rfl) (lwg_45 6 0x04 rfl) (dkk_21 1445) rfl
theorem dL_law_1447 : decode cL_law 1447 = .ok (.iconst 1, 1) := dk_0 (lwg_45 7 0x04 rfl) (dkk_4 1447)
theorem dL_law_1448 : decode cL_law 1448 = .ok (.iadd, 1) := dk_0 (lwg_45 8 0x60 rfl) (dkk_96 1448)
theorem dL_law_1449 : decode cL_law 1449 = .ok (.iaload, 1) := dk_0 (lwg_45 9 0x2e rfl) (dkk_46 1449)
theorem dL_law_1450 : decode cL_law 1450 = .ok (.invokevirtual 244, 3) := dk_2 (f := Jvm.ClassFile.Instr.invokevirtual) (lwg_45 10 0xb6 rfl) (lwg_45 11 0x00 rfl) (lwg_45 12 0xf4 rfl) (dkk_182 1450) rfl
theorem dL_law_1453 : decode cL_law 1453 = .ok (.astore 6, 2) := dk_1 (f := Jvm.ClassFile.Instr.astore) (lwg_45 13 0x3a rfl) (lwg_45 14 0x06 rfl) (dkk_58 1453) rfl
theorem dL_law_1455 : decode cL_law 1455 = .ok (.goto 358, 3) := dk_2s (f := Jvm.ClassFile.Instr.goto) (lwg_45 15 0xa7 rfl) (lwg_45 16 0x01 rfl) (lwg_45 17 0x66 rfl) (dkk_167 1455) (by decide +kernel)
theorem dL_law_1458 : decode cL_law 1458 = .ok (.aload_n 1, 1) := dk_0 (lwg_45 18 0x2b rfl) (dkk_43 1458)
theorem dL_law_1459 : decode cL_law 1459 = .ok (.aload_n 0, 1) := dk_0 (lwg_45 19 0x2a rfl) (dkk_42 1459)
theorem dL_law_1460 : decode cL_law 1460 = .ok (.iload 4, 2) := dk_1 (f := Jvm.ClassFile.Instr.iload) (lwg_45 20 0x15 rfl) (lwg_45 21 0x04 rfl) (dkk_21 1460) rfl
theorem dL_law_1462 : decode cL_law 1462 = .ok (.iconst 1, 1) := dk_0 (lwg_45 22 0x04 rfl) (dkk_4 1462)
theorem dL_law_1463 : decode cL_law 1463 = .ok (.iadd, 1) := dk_0 (lwg_45 23 0x60 rfl) (dkk_96 1463)
theorem dL_law_1464 : decode cL_law 1464 = .ok (.iaload, 1) := dk_0 (lwg_45 24 0x2e rfl) (dkk_46 1464)
theorem dL_law_1465 : decode cL_law 1465 = .ok (.aload_n 0, 1) := dk_0 (lwg_45 25 0x2a rfl) (dkk_42 1465)
theorem dL_law_1466 : decode cL_law 1466 = .ok (.iload 4, 2) := dk_1 (f := Jvm.ClassFile.Instr.iload) (lwg_45 26 0x15 rfl) (lwg_45 27 0x04 rfl) (dkk_21 1466) rfl
theorem dL_law_1468 : decode cL_law 1468 = .ok (.iconst 2, 1) := dk_0 (lwg_45 28 0x05 rfl) (dkk_5 1468)
theorem dL_law_1469 : decode cL_law 1469 = .ok (.iadd, 1) := dk_0 (lwg_45 29 0x60 rfl) (dkk_96 1469)
theorem dL_law_1470 : decode cL_law 1470 = .ok (.iaload, 1) := dk_0 (lwg_45 30 0x2e rfl) (dkk_46 1470)
theorem dL_law_1471 : decode cL_law 1471 = .ok (.aload_n 3, 1) := dk_0 (lwg_45 31 0x2d rfl) (dkk_45 1471)
theorem dL_law_1472 : decode cL_law 1472 = .ok (.invokestatic 245, 3) := dk_2 (f := Jvm.ClassFile.Instr.invokestatic) (lwg_46 0 0xb8 rfl) (lwg_46 1 0x00 rfl) (lwg_46 2 0xf5 rfl) (dkk_184 1472) rfl
theorem dL_law_1475 : decode cL_law 1475 = .ok (.istore 5, 2) := dk_1 (f := Jvm.ClassFile.Instr.istore) (lwg_46 3 0x36 rfl) (lwg_46 4 0x05 rfl) (dkk_54 1475) rfl
theorem dL_law_1477 : decode cL_law 1477 = .ok (.aload_n 2, 1) := dk_0 (lwg_46 5 0x2c rfl) (dkk_44 1477)
theorem dL_law_1478 : decode cL_law 1478 = .ok (.aload_n 0, 1) := dk_0 (lwg_46 6 0x2a rfl) (dkk_42 1478)
theorem dL_law_1479 : decode cL_law 1479 = .ok (.iload 4, 2) := dk_1 (f := Jvm.ClassFile.Instr.iload) (lwg_46 7 0x15 rfl) (lwg_46 8 0x04 rfl) (dkk_21 1479) rfl
theorem dL_law_1481 : decode cL_law 1481 = .ok (.iconst 1, 1) := dk_0 (lwg_46 9 0x04 rfl) (dkk_4 1481)
theorem dL_law_1482 : decode cL_law 1482 = .ok (.iadd, 1) := dk_0 (lwg_46 10 0x60 rfl) (dkk_96 1482)
theorem dL_law_1483 : decode cL_law 1483 = .ok (.iaload, 1) := dk_0 (lwg_46 11 0x2e rfl) (dkk_46 1483)
theorem dL_law_1484 : decode cL_law 1484 = .ok (.aload_n 0, 1) := dk_0 (lwg_46 12 0x2a rfl) (dkk_42 1484)
theorem dL_law_1485 : decode cL_law 1485 = .ok (.iload 4, 2) := dk_1 (f := Jvm.ClassFile.Instr.iload) (lwg_46 13 0x15 rfl) (lwg_46 14 0x04 rfl) (dkk_21 1485) rfl
theorem dL_law_1487 : decode cL_law 1487 = .ok (.iconst 2, 1) := dk_0 (lwg_46 15 0x05 rfl) (dkk_5 1487)
theorem dL_law_1488 : decode cL_law 1488 = .ok (.iadd, 1) := dk_0 (lwg_46 16 0x60 rfl) (dkk_96 1488)
theorem dL_law_1489 : decode cL_law 1489 = .ok (.iaload, 1) := dk_0 (lwg_46 17 0x2e rfl) (dkk_46 1489)
theorem dL_law_1490 : decode cL_law 1490 = .ok (.invokevirtual 247, 3) := dk_2 (f := Jvm.ClassFile.Instr.invokevirtual) (lwg_46 18 0xb6 rfl) (lwg_46 19 0x00 rfl) (lwg_46 20 0xf7 rfl) (dkk_182 1490) rfl
theorem dL_law_1493 : decode cL_law 1493 = .ok (.istore 6, 2) := dk_1 (f := Jvm.ClassFile.Instr.istore) (lwg_46 21 0x36 rfl) (lwg_46 22 0x06 rfl) (dkk_54 1493) rfl
theorem dL_law_1495 : decode cL_law 1495 = .ok (.goto 318, 3) := dk_2s (f := Jvm.ClassFile.Instr.goto) (lwg_46 23 0xa7 rfl) (lwg_46 24 0x01 rfl) (lwg_46 25 0x3e rfl) (dkk_167 1495) (by decide +kernel)
theorem dL_law_1498 : decode cL_law 1498 = .ok (.aload_n 1, 1) := dk_0 (lwg_46 26 0x2b rfl) (dkk_43 1498)
theorem dL_law_1499 : decode cL_law 1499 = .ok (.aload_n 0, 1) := dk_0 (lwg_46 27 0x2a rfl) (dkk_42 1499)
theorem dL_law_1500 : decode cL_law 1500 = .ok (.iload 4, 2) := dk_1 (f := Jvm.ClassFile.Instr.iload) (lwg_46 28 0x15 rfl) (lwg_46 29 0x04 rfl) (dkk_21 1500) rfl
theorem dL_law_1502 : decode cL_law 1502 = .ok (.iconst 1, 1) := dk_0 (lwg_46 30 0x04 rfl) (dkk_4 1502)
theorem dL_law_1503 : decode cL_law 1503 = .ok (.iadd, 1) := dk_0 (lwg_46 31 0x60 rfl) (dkk_96 1503)
theorem dL_law_1504 : decode cL_law 1504 = .ok (.iaload, 1) := dk_0 (lwg_47 0 0x2e rfl) (dkk_46 1504)
theorem dL_law_1505 : decode cL_law 1505 = .ok (.aload_n 3, 1) := dk_0 (lwg_47 1 0x2d rfl) (dkk_45 1505)
theorem dL_law_1506 : decode cL_law 1506 = .ok (.invokestatic 248, 3) := dk_2 (f := Jvm.ClassFile.Instr.invokestatic) (lwg_47 2 0xb8 rfl) (lwg_47 3 0x00 rfl) (lwg_47 4 0xf8 rfl) (dkk_184 1506) rfl
theorem dL_law_1509 : decode cL_law 1509 = .ok (.istore 5, 2) := dk_1 (f := Jvm.ClassFile.Instr.istore) (lwg_47 5 0x36 rfl) (lwg_47 6 0x05 rfl) (dkk_54 1509) rfl
theorem dL_law_1511 : decode cL_law 1511 = .ok (.aload_n 2, 1) := dk_0 (lwg_47 7 0x2c rfl) (dkk_44 1511)
theorem dL_law_1512 : decode cL_law 1512 = .ok (.aload_n 0, 1) := dk_0 (lwg_47 8 0x2a rfl) (dkk_42 1512)
theorem dL_law_1513 : decode cL_law 1513 = .ok (.iload 4, 2) := dk_1 (f := Jvm.ClassFile.Instr.iload) (lwg_47 9 0x15 rfl) (lwg_47 10 0x04 rfl) (dkk_21 1513) rfl
theorem dL_law_1515 : decode cL_law 1515 = .ok (.iconst 1, 1) := dk_0 (lwg_47 11 0x04 rfl) (dkk_4 1515)
theorem dL_law_1516 : decode cL_law 1516 = .ok (.iadd, 1) := dk_0 (lwg_47 12 0x60 rfl) (dkk_96 1516)
theorem dL_law_1517 : decode cL_law 1517 = .ok (.iaload, 1) := dk_0 (lwg_47 13 0x2e rfl) (dkk_46 1517)
theorem dL_law_1518 : decode cL_law 1518 = .ok (.invokevirtual 250, 3) := dk_2 (f := Jvm.ClassFile.Instr.invokevirtual) (lwg_47 14 0xb6 rfl) (lwg_47 15 0x00 rfl) (lwg_47 16 0xfa rfl) (dkk_182 1518) rfl
theorem dL_law_1521 : decode cL_law 1521 = .ok (.istore 6, 2) := dk_1 (f := Jvm.ClassFile.Instr.istore) (lwg_47 17 0x36 rfl) (lwg_47 18 0x06 rfl) (dkk_54 1521) rfl
theorem dL_law_1523 : decode cL_law 1523 = .ok (.goto 290, 3) := dk_2s (f := Jvm.ClassFile.Instr.goto) (lwg_47 19 0xa7 rfl) (lwg_47 20 0x01 rfl) (lwg_47 21 0x22 rfl) (dkk_167 1523) (by decide +kernel)
theorem dL_law_1526 : decode cL_law 1526 = .ok (.aload_n 1, 1) := dk_0 (lwg_47 22 0x2b rfl) (dkk_43 1526)
theorem dL_law_1527 : decode cL_law 1527 = .ok (.aload_n 0, 1) := dk_0 (lwg_47 23 0x2a rfl) (dkk_42 1527)
theorem dL_law_1528 : decode cL_law 1528 = .ok (.iload 4, 2) := dk_1 (f := Jvm.ClassFile.Instr.iload) (lwg_47 24 0x15 rfl) (lwg_47 25 0x04 rfl) (dkk_21 1528) rfl
theorem dL_law_1530 : decode cL_law 1530 = .ok (.iconst 1, 1) := dk_0 (lwg_47 26 0x04 rfl) (dkk_4 1530)
theorem dL_law_1531 : decode cL_law 1531 = .ok (.iadd, 1) := dk_0 (lwg_47 27 0x60 rfl) (dkk_96 1531)
theorem dL_law_1532 : decode cL_law 1532 = .ok (.iaload, 1) := dk_0 (lwg_47 28 0x2e rfl) (dkk_46 1532)
theorem dL_law_1533 : decode cL_law 1533 = .ok (.aload_n 0, 1) := dk_0 (lwg_47 29 0x2a rfl) (dkk_42 1533)
theorem dL_law_1534 : decode cL_law 1534 = .ok (.iload 4, 2) := dk_1 (f := Jvm.ClassFile.Instr.iload) (lwg_47 30 0x15 rfl) (lwg_47 31 0x04 rfl) (dkk_21 1534) rfl
theorem dL_law_1536 : decode cL_law 1536 = .ok (.iconst 2, 1) := dk_0 (lwg_48 0 0x05 rfl) (dkk_5 1536)
theorem dL_law_1537 : decode cL_law 1537 = .ok (.iadd, 1) := dk_0 (lwg_48 1 0x60 rfl) (dkk_96 1537)
theorem dL_law_1538 : decode cL_law 1538 = .ok (.iaload, 1) := dk_0 (lwg_48 2 0x2e rfl) (dkk_46 1538)
theorem dL_law_1539 : decode cL_law 1539 = .ok (.aload_n 0, 1) := dk_0 (lwg_48 3 0x2a rfl) (dkk_42 1539)
theorem dL_law_1540 : decode cL_law 1540 = .ok (.iload 4, 2) := dk_1 (f := Jvm.ClassFile.Instr.iload) (lwg_48 4 0x15 rfl) (lwg_48 5 0x04 rfl) (dkk_21 1540) rfl
theorem dL_law_1542 : decode cL_law 1542 = .ok (.iconst 3, 1) := dk_0 (lwg_48 6 0x06 rfl) (dkk_6 1542)
theorem dL_law_1543 : decode cL_law 1543 = .ok (.iadd, 1) := dk_0 (lwg_48 7 0x60 rfl) (dkk_96 1543)
theorem dL_law_1544 : decode cL_law 1544 = .ok (.iaload, 1) := dk_0 (lwg_48 8 0x2e rfl) (dkk_46 1544)
theorem dL_law_1545 : decode cL_law 1545 = .ok (.aload_n 3, 1) := dk_0 (lwg_48 9 0x2d rfl) (dkk_45 1545)
theorem dL_law_1546 : decode cL_law 1546 = .ok (.invokestatic 251, 3) := dk_2 (f := Jvm.ClassFile.Instr.invokestatic) (lwg_48 10 0xb8 rfl) (lwg_48 11 0x00 rfl) (lwg_48 12 0xfb rfl) (dkk_184 1546) rfl
theorem dL_law_1549 : decode cL_law 1549 = .ok (.istore 5, 2) := dk_1 (f := Jvm.ClassFile.Instr.istore) (lwg_48 13 0x36 rfl) (lwg_48 14 0x05 rfl) (dkk_54 1549) rfl
theorem dL_law_1551 : decode cL_law 1551 = .ok (.aload_n 2, 1) := dk_0 (lwg_48 15 0x2c rfl) (dkk_44 1551)
theorem dL_law_1552 : decode cL_law 1552 = .ok (.aload_n 0, 1) := dk_0 (lwg_48 16 0x2a rfl) (dkk_42 1552)
theorem dL_law_1553 : decode cL_law 1553 = .ok (.iload 4, 2) := dk_1 (f := Jvm.ClassFile.Instr.iload) (lwg_48 17 0x15 rfl) (lwg_48 18 0x04 rfl) (dkk_21 1553) rfl
theorem dL_law_1555 : decode cL_law 1555 = .ok (.iconst 1, 1) := dk_0 (lwg_48 19 0x04 rfl) (dkk_4 1555)
theorem dL_law_1556 : decode cL_law 1556 = .ok (.iadd, 1) := dk_0 (lwg_48 20 0x60 rfl) (dkk_96 1556)
theorem dL_law_1557 : decode cL_law 1557 = .ok (.iaload, 1) := dk_0 (lwg_48 21 0x2e rfl) (dkk_46 1557)
theorem dL_law_1558 : decode cL_law 1558 = .ok (.aload_n 0, 1) := dk_0 (lwg_48 22 0x2a rfl) (dkk_42 1558)
theorem dL_law_1559 : decode cL_law 1559 = .ok (.iload 4, 2) := dk_1 (f := Jvm.ClassFile.Instr.iload) (lwg_48 23 0x15 rfl) (lwg_48 24 0x04 rfl) (dkk_21 1559) rfl
theorem dL_law_1561 : decode cL_law 1561 = .ok (.iconst 2, 1) := dk_0 (lwg_48 25 0x05 rfl) (dkk_5 1561)
theorem dL_law_1562 : decode cL_law 1562 = .ok (.iadd, 1) := dk_0 (lwg_48 26 0x60 rfl) (dkk_96 1562)
theorem dL_law_1563 : decode cL_law 1563 = .ok (.iaload, 1) := dk_0 (lwg_48 27 0x2e rfl) (dkk_46 1563)
theorem dL_law_1564 : decode cL_law 1564 = .ok (.aload_n 0, 1) := dk_0 (lwg_48 28 0x2a rfl) (dkk_42 1564)
theorem dL_law_1565 : decode cL_law 1565 = .ok (.iload 4, 2) := dk_1 (f := Jvm.ClassFile.Instr.iload) (lwg_48 29 0x15 rfl) (lwg_48 30 0x04 rfl) (dkk_21 1565) rfl
theorem dL_law_1567 : decode cL_law 1567 = .ok (.iconst 3, 1) := dk_0 (lwg_48 31 0x06 rfl) (dkk_6 1567)
theorem dL_law_1568 : decode cL_law 1568 = .ok (.iadd, 1) := dk_0 (lwg_49 0 0x60 rfl) (dkk_96 1568)
theorem dL_law_1569 : decode cL_law 1569 = .ok (.iaload, 1) := dk_0 (lwg_49 1 0x2e rfl) (dkk_46 1569)
theorem dL_law_1570 : decode cL_law 1570 = .ok (.invokevirtual 253, 3) := dk_2 (f := Jvm.ClassFile.Instr.invokevirtual) (lwg_49 2 0xb6 rfl) (lwg_49 3 0x00 rfl) (lwg_49 4 0xfd rfl) (dkk_182 1570) rfl
theorem dL_law_1573 : decode cL_law 1573 = .ok (.astore 6, 2) := dk_1 (f := Jvm.ClassFile.Instr.astore) (lwg_49 5 0x3a rfl) (lwg_49 6 0x06 rfl) (dkk_58 1573) rfl
theorem dL_law_1575 : decode cL_law 1575 = .ok (.goto 238, 3) := dk_2s (f := Jvm.ClassFile.Instr.goto) (lwg_49 7 0xa7 rfl) (lwg_49 8 0x00 rfl) (lwg_49 9 0xee rfl) (dkk_167 1575) (by decide +kernel)
theorem dL_law_1578 : decode cL_law 1578 = .ok (.aload_n 1, 1) := dk_0 (lwg_49 10 0x2b rfl) (dkk_43 1578)
theorem dL_law_1579 : decode cL_law 1579 = .ok (.aload_n 0, 1) := dk_0 (lwg_49 11 0x2a rfl) (dkk_42 1579)
theorem dL_law_1580 : decode cL_law 1580 = .ok (.iload 4, 2) := dk_1 (f := Jvm.ClassFile.Instr.iload) (lwg_49 12 0x15 rfl) (lwg_49 13 0x04 rfl) (dkk_21 1580) rfl
theorem dL_law_1582 : decode cL_law 1582 = .ok (.iconst 1, 1) := dk_0 (lwg_49 14 0x04 rfl) (dkk_4 1582)
theorem dL_law_1583 : decode cL_law 1583 = .ok (.iadd, 1) := dk_0 (lwg_49 15 0x60 rfl) (dkk_96 1583)
theorem dL_law_1584 : decode cL_law 1584 = .ok (.iaload, 1) := dk_0 (lwg_49 16 0x2e rfl) (dkk_46 1584)
theorem dL_law_1585 : decode cL_law 1585 = .ok (.aload_n 0, 1) := dk_0 (lwg_49 17 0x2a rfl) (dkk_42 1585)
theorem dL_law_1586 : decode cL_law 1586 = .ok (.iload 4, 2) := dk_1 (f := Jvm.ClassFile.Instr.iload) (lwg_49 18 0x15 rfl) (lwg_49 19 0x04 rfl) (dkk_21 1586) rfl
theorem dL_law_1588 : decode cL_law 1588 = .ok (.iconst 2, 1) := dk_0 (lwg_49 20 0x05 rfl) (dkk_5 1588)
theorem dL_law_1589 : decode cL_law 1589 = .ok (.iadd, 1) := dk_0 (lwg_49 21 0x60 rfl) (dkk_96 1589)
theorem dL_law_1590 : decode cL_law 1590 = .ok (.iaload, 1) := dk_0 (lwg_49 22 0x2e rfl) (dkk_46 1590)
theorem dL_law_1591 : decode cL_law 1591 = .ok (.aload_n 0, 1) := dk_0 (lwg_49 23 0x2a rfl) (dkk_42 1591)
theorem dL_law_1592 : decode cL_law 1592 = .ok (.iload 4, 2) := dk_1 (f := Jvm.ClassFile.Instr.iload) (lwg_49 24 0x15 rfl) (lwg_49 25 0x04 rfl) (dkk_21 1592) rfl
theorem dL_law_1594 : decode cL_law 1594 = .ok (.iconst 3, 1) := dk_0 (lwg_49 26 0x06 rfl) (dkk_6 1594)
theorem dL_law_1595 : decode cL_law 1595 = .ok (.iadd, 1) := dk_0 (lwg_49 27 0x60 rfl) (dkk_96 1595)
theorem dL_law_1596 : decode cL_law 1596 = .ok (.iaload, 1) := dk_0 (lwg_49 28 0x2e rfl) (dkk_46 1596)
theorem dL_law_1597 : decode cL_law 1597 = .ok (.aload_n 0, 1) := dk_0 (lwg_49 29 0x2a rfl) (dkk_42 1597)
theorem dL_law_1598 : decode cL_law 1598 = .ok (.iload 4, 2) := dk_1 (f := Jvm.ClassFile.Instr.iload) (lwg_49 30 0x15 rfl) (lwg_49 31 0x04 rfl) (dkk_21 1598) rfl
theorem dL_law_1600 : decode cL_law 1600 = .ok (.iconst 4, 1) := dk_0 (lwg_50 0 0x07 rfl) (dkk_7 1600)
theorem dL_law_1601 : decode cL_law 1601 = .ok (.iadd, 1) := dk_0 (lwg_50 1 0x60 rfl) (dkk_96 1601)
theorem dL_law_1602 : decode cL_law 1602 = .ok (.iaload, 1) := dk_0 (lwg_50 2 0x2e rfl) (dkk_46 1602)
theorem dL_law_1603 : decode cL_law 1603 = .ok (.aload_n 3, 1) := dk_0 (lwg_50 3 0x2d rfl) (dkk_45 1603)
theorem dL_law_1604 : decode cL_law 1604 = .ok (.invokestatic 254, 3) := dk_2 (f := Jvm.ClassFile.Instr.invokestatic) (lwg_50 4 0xb8 rfl) (lwg_50 5 0x00 rfl) (lwg_50 6 0xfe rfl) (dkk_184 1604) rfl
theorem dL_law_1607 : decode cL_law 1607 = .ok (.istore 5, 2) := dk_1 (f := Jvm.ClassFile.Instr.istore) (lwg_50 7 0x36 rfl) (lwg_50 8 0x05 rfl) (dkk_54 1607) rfl
theorem dL_law_1609 : decode cL_law 1609 = .ok (.aload_n 2, 1) := dk_0 (lwg_50 9 0x2c rfl) (dkk_44 1609)
theorem dL_law_1610 : decode cL_law 1610 = .ok (.aload_n 0, 1) := dk_0 (lwg_50 10 0x2a rfl) (dkk_42 1610)
theorem dL_law_1611 : decode cL_law 1611 = .ok (.iload 4, 2) := dk_1 (f := Jvm.ClassFile.Instr.iload) (lwg_50 11 0x15 rfl) (lwg_50 12 0x04 rfl) (dkk_21 1611) rfl
theorem dL_law_1613 : decode cL_law 1613 = .ok (.iconst 1, 1) := dk_0 (lwg_50 13 0x04 rfl) (dkk_4 1613)
theorem dL_law_1614 : decode cL_law 1614 = .ok (.iadd, 1) := dk_0 (lwg_50 14 0x60 rfl) (dkk_96 1614)
theorem dL_law_1615 : decode cL_law 1615 = .ok (.iaload, 1) := dk_0 (lwg_50 15 0x2e rfl) (dkk_46 1615)
theorem dL_law_1616 : decode cL_law 1616 = .ok (.aload_n 0, 1) := dk_0 (lwg_50 16 0x2a rfl) (dkk_42 1616)
theorem dL_law_1617 : decode cL_law 1617 = .ok (.iload 4, 2) := dk_1 (f := Jvm.ClassFile.Instr.iload) (lwg_50 17 0x15 rfl) (lwg_50 18 0x04 rfl) (dkk_21 1617) rfl
theorem dL_law_1619 : decode cL_law 1619 = .ok (.iconst 2, 1) := dk_0 (lwg_50 19 0x05 rfl) (dkk_5 1619)
theorem dL_law_1620 : decode cL_law 1620 = .ok (.iadd, 1) := dk_0 (lwg_50 20 0x60 rfl) (dkk_96 1620)
theorem dL_law_1621 : decode cL_law 1621 = .ok (.iaload, 1) := dk_0 (lwg_50 21 0x2e rfl) (dkk_46 1621)
theorem dL_law_1622 : decode cL_law 1622 = .ok (.aload_n 0, 1) := dk_0 (lwg_50 22 0x2a rfl) (dkk_42 1622)
theorem dL_law_1623 : decode cL_law 1623 = .ok (.iload 4, 2) := dk_1 (f := Jvm.ClassFile.Instr.iload) (lwg_50 23 0x15 rfl) (lwg_50 24 0x04 rfl) (dkk_21 1623) rfl
theorem dL_law_1625 : decode cL_law 1625 = .ok (.iconst 3, 1) := dk_0 (lwg_50 25 0x06 rfl) (dkk_6 1625)
theorem dL_law_1626 : decode cL_law 1626 = .ok (.iadd, 1) := dk_0 (lwg_50 26 0x60 rfl) (dkk_96 1626)
theorem dL_law_1627 : decode cL_law 1627 = .ok (.iaload, 1) := dk_0 (lwg_50 27 0x2e rfl) (dkk_46 1627)
theorem dL_law_1628 : decode cL_law 1628 = .ok (.aload_n 0, 1) := dk_0 (lwg_50 28 0x2a rfl) (dkk_42 1628)
theorem dL_law_1629 : decode cL_law 1629 = .ok (.iload 4, 2) := dk_1 (f := Jvm.ClassFile.Instr.iload) (lwg_50 29 0x15 rfl) (lwg_50 30 0x04 rfl) (dkk_21 1629) rfl
theorem dL_law_1631 : decode cL_law 1631 = .ok (.iconst 4, 1) := dk_0 (lwg_50 31 0x07 rfl) (dkk_7 1631)
theorem dL_law_1632 : decode cL_law 1632 = .ok (.iadd, 1) := dk_0 (lwg_51 0 0x60 rfl) (dkk_96 1632)
theorem dL_law_1633 : decode cL_law 1633 = .ok (.iaload, 1) := dk_0 (lwg_51 1 0x2e rfl) (dkk_46 1633)
theorem dL_law_1634 : decode cL_law 1634 = .ok (.invokevirtual 257, 3) := dk_2 (f := Jvm.ClassFile.Instr.invokevirtual) (lwg_51 2 0xb6 rfl) (lwg_51 3 0x01 rfl) (lwg_51 4 0x01 rfl) (dkk_182 1634) rfl
theorem dL_law_1637 : decode cL_law 1637 = .ok (.istore 6, 2) := dk_1 (f := Jvm.ClassFile.Instr.istore) (lwg_51 5 0x36 rfl) (lwg_51 6 0x06 rfl) (dkk_54 1637) rfl
theorem dL_law_1639 : decode cL_law 1639 = .ok (.goto 174, 3) := dk_2s (f := Jvm.ClassFile.Instr.goto) (lwg_51 7 0xa7 rfl) (lwg_51 8 0x00 rfl) (lwg_51 9 0xae rfl) (dkk_167 1639) (by decide +kernel)
theorem dL_law_1642 : decode cL_law 1642 = .ok (.aload_n 1, 1) := dk_0 (lwg_51 10 0x2b rfl) (dkk_43 1642)
theorem dL_law_1643 : decode cL_law 1643 = .ok (.aload_n 0, 1) := dk_0 (lwg_51 11 0x2a rfl) (dkk_42 1643)
theorem dL_law_1644 : decode cL_law 1644 = .ok (.iload 4, 2) := dk_1 (f := Jvm.ClassFile.Instr.iload) (lwg_51 12 0x15 rfl) (lwg_51 13 0x04 rfl) (dkk_21 1644) rfl
theorem dL_law_1646 : decode cL_law 1646 = .ok (.iconst 1, 1) := dk_0 (lwg_51 14 0x04 rfl) (dkk_4 1646)
theorem dL_law_1647 : decode cL_law 1647 = .ok (.iadd, 1) := dk_0 (lwg_51 15 0x60 rfl) (dkk_96 1647)
theorem dL_law_1648 : decode cL_law 1648 = .ok (.iaload, 1) := dk_0 (lwg_51 16 0x2e rfl) (dkk_46 1648)
theorem dL_law_1649 : decode cL_law 1649 = .ok (.aload_n 0, 1) := dk_0 (lwg_51 17 0x2a rfl) (dkk_42 1649)
theorem dL_law_1650 : decode cL_law 1650 = .ok (.iload 4, 2) := dk_1 (f := Jvm.ClassFile.Instr.iload) (lwg_51 18 0x15 rfl) (lwg_51 19 0x04 rfl) (dkk_21 1650) rfl
theorem dL_law_1652 : decode cL_law 1652 = .ok (.iconst 2, 1) := dk_0 (lwg_51 20 0x05 rfl) (dkk_5 1652)
theorem dL_law_1653 : decode cL_law 1653 = .ok (.iadd, 1) := dk_0 (lwg_51 21 0x60 rfl) (dkk_96 1653)
theorem dL_law_1654 : decode cL_law 1654 = .ok (.iaload, 1) := dk_0 (lwg_51 22 0x2e rfl) (dkk_46 1654)
theorem dL_law_1655 : decode cL_law 1655 = .ok (.aload_n 0, 1) := dk_0 (lwg_51 23 0x2a rfl) (dkk_42 1655)
theorem dL_law_1656 : decode cL_law 1656 = .ok (.iload 4, 2) := dk_1 (f := Jvm.ClassFile.Instr.iload) (lwg_51 24 0x15 rfl) (lwg_51 25 0x04 rfl) (dkk_21 1656) rfl
theorem dL_law_1658 : decode cL_law 1658 = .ok (.iconst 3, 1) := dk_0 (lwg_51 26 0x06 rfl) (dkk_6 1658)
theorem dL_law_1659 : decode cL_law 1659 = .ok (.iadd, 1) := dk_0 (lwg_51 27 0x60 rfl) (dkk_96 1659)
theorem dL_law_1660 : decode cL_law 1660 = .ok (.iaload, 1) := dk_0 (lwg_51 28 0x2e rfl) (dkk_46 1660)
theorem dL_law_1661 : decode cL_law 1661 = .ok (.aload_n 3, 1) := dk_0 (lwg_51 29 0x2d rfl) (dkk_45 1661)
theorem dL_law_1662 : decode cL_law 1662 = .ok (.invokestatic 258, 3) := dk_2 (f := Jvm.ClassFile.Instr.invokestatic) (lwg_51 30 0xb8 rfl) (lwg_51 31 0x01 rfl) (lwg_52 0 0x02 rfl) (dkk_184 1662) rfl
theorem dL_law_1665 : decode cL_law 1665 = .ok (.istore 5, 2) := dk_1 (f := Jvm.ClassFile.Instr.istore) (lwg_52 1 0x36 rfl) (lwg_52 2 0x05 rfl) (dkk_54 1665) rfl
theorem dL_law_1667 : decode cL_law 1667 = .ok (.aload_n 2, 1) := dk_0 (lwg_52 3 0x2c rfl) (dkk_44 1667)
theorem dL_law_1668 : decode cL_law 1668 = .ok (.aload_n 0, 1) := dk_0 (lwg_52 4 0x2a rfl) (dkk_42 1668)
theorem dL_law_1669 : decode cL_law 1669 = .ok (.iload 4, 2) := dk_1 (f := Jvm.ClassFile.Instr.iload) (lwg_52 5 0x15 rfl) (lwg_52 6 0x04 rfl) (dkk_21 1669) rfl
theorem dL_law_1671 : decode cL_law 1671 = .ok (.iconst 1, 1) := dk_0 (lwg_52 7 0x04 rfl) (dkk_4 1671)
theorem dL_law_1672 : decode cL_law 1672 = .ok (.iadd, 1) := dk_0 (lwg_52 8 0x60 rfl) (dkk_96 1672)
theorem dL_law_1673 : decode cL_law 1673 = .ok (.iaload, 1) := dk_0 (lwg_52 9 0x2e rfl) (dkk_46 1673)
theorem dL_law_1674 : decode cL_law 1674 = .ok (.aload_n 0, 1) := dk_0 (lwg_52 10 0x2a rfl) (dkk_42 1674)
theorem dL_law_1675 : decode cL_law 1675 = .ok (.iload 4, 2) := dk_1 (f := Jvm.ClassFile.Instr.iload) (lwg_52 11 0x15 rfl) (lwg_52 12 0x04 rfl) (dkk_21 1675) rfl
theorem dL_law_1677 : decode cL_law 1677 = .ok (.iconst 2, 1) := dk_0 (lwg_52 13 0x05 rfl) (dkk_5 1677)
theorem dL_law_1678 : decode cL_law 1678 = .ok (.iadd, 1) := dk_0 (lwg_52 14 0x60 rfl) (dkk_96 1678)
theorem dL_law_1679 : decode cL_law 1679 = .ok (.iaload, 1) := dk_0 (lwg_52 15 0x2e rfl) (dkk_46 1679)
theorem dL_law_1680 : decode cL_law 1680 = .ok (.aload_n 0, 1) := dk_0 (lwg_52 16 0x2a rfl) (dkk_42 1680)
theorem dL_law_1681 : decode cL_law 1681 = .ok (.iload 4, 2) := dk_1 (f := Jvm.ClassFile.Instr.iload) (lwg_52 17 0x15 rfl) (lwg_52 18 0x04 rfl) (dkk_21 1681) rfl
theorem dL_law_1683 : decode cL_law 1683 = .ok (.iconst 3, 1) := dk_0 (lwg_52 19 0x06 rfl) (dkk_6 1683)
theorem dL_law_1684 : decode cL_law 1684 = .ok (.iadd, 1) := dk_0 (lwg_52 20 0x60 rfl) (dkk_96 1684)
theorem dL_law_1685 : decode cL_law 1685 = .ok (.iaload, 1) := dk_0 (lwg_52 21 0x2e rfl) (dkk_46 1685)
theorem dL_law_1686 : decode cL_law 1686 = .ok (.invokevirtual 260, 3) := dk_2 (f := Jvm.ClassFile.Instr.invokevirtual) (lwg_52 22 0xb6 rfl) (lwg_52 23 0x01 rfl) (lwg_52 24 0x04 rfl) (dkk_182 1686) rfl
theorem dL_law_1689 : decode cL_law 1689 = .ok (.istore 6, 2) := dk_1 (f := Jvm.ClassFile.Instr.istore) (lwg_52 25 0x36 rfl) (lwg_52 26 0x06 rfl) (dkk_54 1689) rfl
theorem dL_law_1691 : decode cL_law 1691 = .ok (.goto 122, 3) := dk_2s (f := Jvm.ClassFile.Instr.goto) (lwg_52 27 0xa7 rfl) (lwg_52 28 0x00 rfl) (lwg_52 29 0x7a rfl) (dkk_167 1691) (by decide +kernel)
theorem dL_law_1694 : decode cL_law 1694 = .ok (.aload_n 1, 1) := dk_0 (lwg_52 30 0x2b rfl) (dkk_43 1694)
theorem dL_law_1695 : decode cL_law 1695 = .ok (.invokevirtual 261, 3) := dk_2 (f := Jvm.ClassFile.Instr.invokevirtual) (lwg_52 31 0xb6 rfl) (lwg_53 0 0x01 rfl) (lwg_53 1 0x05 rfl) (dkk_182 1695) rfl
theorem dL_law_1698 : decode cL_law 1698 = .ok (.pop, 1) := dk_0 (lwg_53 2 0x57 rfl) (dkk_87 1698)
theorem dL_law_1699 : decode cL_law 1699 = .ok (.aload_n 2, 1) := dk_0 (lwg_53 3 0x2c rfl) (dkk_44 1699)
theorem dL_law_1700 : decode cL_law 1700 = .ok (.invokevirtual 264, 3) := dk_2 (f := Jvm.ClassFile.Instr.invokevirtual) (lwg_53 4 0xb6 rfl) (lwg_53 5 0x01 rfl) (lwg_53 6 0x08 rfl) (dkk_182 1700) rfl
theorem dL_law_1703 : decode cL_law 1703 = .ok (.pop, 1) := dk_0 (lwg_53 7 0x57 rfl) (dkk_87 1703)
theorem dL_law_1704 : decode cL_law 1704 = .ok (.goto 109, 3) := dk_2s (f := Jvm.ClassFile.Instr.goto) (lwg_53 8 0xa7 rfl) (lwg_53 9 0x00 rfl) (lwg_53 10 0x6d rfl) (dkk_167 1704) (by decide +kernel)
theorem dL_law_1707 : decode cL_law 1707 = .ok (.aload_n 1, 1) := dk_0 (lwg_53 11 0x2b rfl) (dkk_43 1707)
theorem dL_law_1708 : decode cL_law 1708 = .ok (.invokevirtual 265, 3) := dk_2 (f := Jvm.ClassFile.Instr.invokevirtual) (lwg_53 12 0xb6 rfl) (lwg_53 13 0x01 rfl) (lwg_53 14 0x09 rfl) (dkk_182 1708) rfl
theorem dL_law_1711 : decode cL_law 1711 = .ok (.pop, 1) := dk_0 (lwg_53 15 0x57 rfl) (dkk_87 1711)
theorem dL_law_1712 : decode cL_law 1712 = .ok (.aload_n 2, 1) := dk_0 (lwg_53 16 0x2c rfl) (dkk_44 1712)
theorem dL_law_1713 : decode cL_law 1713 = .ok (.invokevirtual 268, 3) := dk_2 (f := Jvm.ClassFile.Instr.invokevirtual) (lwg_53 17 0xb6 rfl) (lwg_53 18 0x01 rfl) (lwg_53 19 0x0c rfl) (dkk_182 1713) rfl
theorem dL_law_1716 : decode cL_law 1716 = .ok (.pop, 1) := dk_0 (lwg_53 20 0x57 rfl) (dkk_87 1716)
theorem dL_law_1717 : decode cL_law 1717 = .ok (.goto 96, 3) := dk_2s (f := Jvm.ClassFile.Instr.goto) (lwg_53 21 0xa7 rfl) (lwg_53 22 0x00 rfl) (lwg_53 23 0x60 rfl) (dkk_167 1717) (by decide +kernel)
theorem dL_law_1720 : decode cL_law 1720 = .ok (.aload_n 1, 1) := dk_0 (lwg_53 24 0x2b rfl) (dkk_43 1720)
theorem dL_law_1721 : decode cL_law 1721 = .ok (.invokevirtual 269, 3) := dk_2 (f := Jvm.ClassFile.Instr.invokevirtual) (lwg_53 25 0xb6 rfl) (lwg_53 26 0x01 rfl) (lwg_53 27 0x0d rfl) (dkk_182 1721) rfl
theorem dL_law_1724 : decode cL_law 1724 = .ok (.pop, 1) := dk_0 (lwg_53 28 0x57 rfl) (dkk_87 1724)
theorem dL_law_1725 : decode cL_law 1725 = .ok (.aload_n 2, 1) := dk_0 (lwg_53 29 0x2c rfl) (dkk_44 1725)
theorem dL_law_1726 : decode cL_law 1726 = .ok (.invokevirtual 272, 3) := dk_2 (f := Jvm.ClassFile.Instr.invokevirtual) (lwg_53 30 0xb6 rfl) (lwg_53 31 0x01 rfl) (lwg_54 0 0x10 rfl) (dkk_182 1726) rfl
theorem dL_law_1729 : decode cL_law 1729 = .ok (.pop, 1) := dk_0 (lwg_54 1 0x57 rfl) (dkk_87 1729)
theorem dL_law_1730 : decode cL_law 1730 = .ok (.goto 83, 3) := dk_2s (f := Jvm.ClassFile.Instr.goto) (lwg_54 2 0xa7 rfl) (lwg_54 3 0x00 rfl) (lwg_54 4 0x53 rfl) (dkk_167 1730) (by decide +kernel)
theorem dL_law_1733 : decode cL_law 1733 = .ok (.aload_n 1, 1) := dk_0 (lwg_54 5 0x2b rfl) (dkk_43 1733)
theorem dL_law_1734 : decode cL_law 1734 = .ok (.invokevirtual 273, 3) := dk_2 (f := Jvm.ClassFile.Instr.invokevirtual) (lwg_54 6 0xb6 rfl) (lwg_54 7 0x01 rfl) (lwg_54 8 0x11 rfl) (dkk_182 1734) rfl
theorem dL_law_1737 : decode cL_law 1737 = .ok (.pop, 1) := dk_0 (lwg_54 9 0x57 rfl) (dkk_87 1737)
theorem dL_law_1738 : decode cL_law 1738 = .ok (.aload_n 2, 1) := dk_0 (lwg_54 10 0x2c rfl) (dkk_44 1738)
theorem dL_law_1739 : decode cL_law 1739 = .ok (.invokevirtual 276, 3) := dk_2 (f := Jvm.ClassFile.Instr.invokevirtual) (lwg_54 11 0xb6 rfl) (lwg_54 12 0x01 rfl) (lwg_54 13 0x14 rfl) (dkk_182 1739) rfl
theorem dL_law_1742 : decode cL_law 1742 = .ok (.pop, 1) := dk_0 (lwg_54 14 0x57 rfl) (dkk_87 1742)
theorem dL_law_1743 : decode cL_law 1743 = .ok (.goto 70, 3) := dk_2s (f := Jvm.ClassFile.Instr.goto) (lwg_54 15 0xa7 rfl) (lwg_54 16 0x00 rfl) (lwg_54 17 0x46 rfl) (dkk_167 1743) (by decide +kernel)
theorem dL_law_1746 : decode cL_law 1746 = .ok (.aload_n 1, 1) := dk_0 (lwg_54 18 0x2b rfl) (dkk_43 1746)
theorem dL_law_1747 : decode cL_law 1747 = .ok (.invokevirtual 277, 3) := dk_2 (f := Jvm.ClassFile.Instr.invokevirtual) (lwg_54 19 0xb6 rfl) (lwg_54 20 0x01 rfl) (lwg_54 21 0x15 rfl) (dkk_182 1747) rfl
theorem dL_law_1750 : decode cL_law 1750 = .ok (.pop, 1) := dk_0 (lwg_54 22 0x57 rfl) (dkk_87 1750)
theorem dL_law_1751 : decode cL_law 1751 = .ok (.aload_n 2, 1) := dk_0 (lwg_54 23 0x2c rfl) (dkk_44 1751)
theorem dL_law_1752 : decode cL_law 1752 = .ok (.invokevirtual 280, 3) := dk_2 (f := Jvm.ClassFile.Instr.invokevirtual) (lwg_54 24 0xb6 rfl) (lwg_54 25 0x01 rfl) (lwg_54 26 0x18 rfl) (dkk_182 1752) rfl
theorem dL_law_1755 : decode cL_law 1755 = .ok (.pop, 1) := dk_0 (lwg_54 27 0x57 rfl) (dkk_87 1755)
theorem dL_law_1756 : decode cL_law 1756 = .ok (.goto 57, 3) := dk_2s (f := Jvm.ClassFile.Instr.goto) (lwg_54 28 0xa7 rfl) (lwg_54 29 0x00 rfl) (lwg_54 30 0x39 rfl) (dkk_167 1756) (by decide +kernel)
theorem dL_law_1759 : decode cL_law 1759 = .ok (.aload_n 1, 1) := dk_0 (lwg_54 31 0x2b rfl) (dkk_43 1759)
theorem dL_law_1760 : decode cL_law 1760 = .ok (.aload_n 0, 1) := dk_0 (lwg_55 0 0x2a rfl) (dkk_42 1760)
theorem dL_law_1761 : decode cL_law 1761 = .ok (.iload 4, 2) := dk_1 (f := Jvm.ClassFile.Instr.iload) (lwg_55 1 0x15 rfl) (lwg_55 2 0x04 rfl) (dkk_21 1761) rfl
theorem dL_law_1763 : decode cL_law 1763 = .ok (.iconst 1, 1) := dk_0 (lwg_55 3 0x04 rfl) (dkk_4 1763)
theorem dL_law_1764 : decode cL_law 1764 = .ok (.iadd, 1) := dk_0 (lwg_55 4 0x60 rfl) (dkk_96 1764)
theorem dL_law_1765 : decode cL_law 1765 = .ok (.iaload, 1) := dk_0 (lwg_55 5 0x2e rfl) (dkk_46 1765)
theorem dL_law_1766 : decode cL_law 1766 = .ok (.aload_n 3, 1) := dk_0 (lwg_55 6 0x2d rfl) (dkk_45 1766)
theorem dL_law_1767 : decode cL_law 1767 = .ok (.invokestatic 281, 3) := dk_2 (f := Jvm.ClassFile.Instr.invokestatic) (lwg_55 7 0xb8 rfl) (lwg_55 8 0x01 rfl) (lwg_55 9 0x19 rfl) (dkk_184 1767) rfl
theorem dL_law_1770 : decode cL_law 1770 = .ok (.istore 5, 2) := dk_1 (f := Jvm.ClassFile.Instr.istore) (lwg_55 10 0x36 rfl) (lwg_55 11 0x05 rfl) (dkk_54 1770) rfl
theorem dL_law_1772 : decode cL_law 1772 = .ok (.aload_n 2, 1) := dk_0 (lwg_55 12 0x2c rfl) (dkk_44 1772)
theorem dL_law_1773 : decode cL_law 1773 = .ok (.aload_n 0, 1) := dk_0 (lwg_55 13 0x2a rfl) (dkk_42 1773)
theorem dL_law_1774 : decode cL_law 1774 = .ok (.iload 4, 2) := dk_1 (f := Jvm.ClassFile.Instr.iload) (lwg_55 14 0x15 rfl) (lwg_55 15 0x04 rfl) (dkk_21 1774) rfl
theorem dL_law_1776 : decode cL_law 1776 = .ok (.iconst 1, 1) := dk_0 (lwg_55 16 0x04 rfl) (dkk_4 1776)
theorem dL_law_1777 : decode cL_law 1777 = .ok (.iadd, 1) := dk_0 (lwg_55 17 0x60 rfl) (dkk_96 1777)
theorem dL_law_1778 : decode cL_law 1778 = .ok (.iaload, 1) := dk_0 (lwg_55 18 0x2e rfl) (dkk_46 1778)
theorem dL_law_1779 : decode cL_law 1779 = .ok (.invokevirtual 283, 3) := dk_2 (f := Jvm.ClassFile.Instr.invokevirtual) (lwg_55 19 0xb6 rfl) (lwg_55 20 0x01 rfl) (lwg_55 21 0x1b rfl) (dkk_182 1779) rfl
theorem dL_law_1782 : decode cL_law 1782 = .ok (.istore 6, 2) := dk_1 (f := Jvm.ClassFile.Instr.istore) (lwg_55 22 0x36 rfl) (lwg_55 23 0x06 rfl) (dkk_54 1782) rfl
theorem dL_law_1784 : decode cL_law 1784 = .ok (.goto 29, 3) := dk_2s (f := Jvm.ClassFile.Instr.goto) (lwg_55 24 0xa7 rfl) (lwg_55 25 0x00 rfl) (lwg_55 26 0x1d rfl) (dkk_167 1784) (by decide +kernel)
theorem dL_law_1787 : decode cL_law 1787 = .ok (.aload_n 1, 1) := dk_0 (lwg_55 27 0x2b rfl) (dkk_43 1787)
theorem dL_law_1788 : decode cL_law 1788 = .ok (.invokevirtual 284, 3) := dk_2 (f := Jvm.ClassFile.Instr.invokevirtual) (lwg_55 28 0xb6 rfl) (lwg_55 29 0x01 rfl) (lwg_55 30 0x1c rfl) (dkk_182 1788) rfl
theorem dL_law_1791 : decode cL_law 1791 = .ok (.pop, 1) := dk_0 (lwg_55 31 0x57 rfl) (dkk_87 1791)
theorem dL_law_1792 : decode cL_law 1792 = .ok (.aload_n 2, 1) := dk_0 (lwg_56 0 0x2c rfl) (dkk_44 1792)
theorem dL_law_1793 : decode cL_law 1793 = .ok (.invokevirtual 288, 3) := dk_2 (f := Jvm.ClassFile.Instr.invokevirtual) (lwg_56 1 0xb6 rfl) (lwg_56 2 0x01 rfl) (lwg_56 3 0x20 rfl) (dkk_182 1793) rfl
theorem dL_law_1796 : decode cL_law 1796 = .ok (.pop, 1) := dk_0 (lwg_56 4 0x57 rfl) (dkk_87 1796)
theorem dL_law_1797 : decode cL_law 1797 = .ok (.goto 16, 3) := dk_2s (f := Jvm.ClassFile.Instr.goto) (lwg_56 5 0xa7 rfl) (lwg_56 6 0x00 rfl) (lwg_56 7 0x10 rfl) (dkk_167 1797) (by decide +kernel)
theorem dL_law_1800 : decode cL_law 1800 = .ok (.aload_n 1, 1) := dk_0 (lwg_56 8 0x2b rfl) (dkk_43 1800)
theorem dL_law_1801 : decode cL_law 1801 = .ok (.invokevirtual 289, 3) := dk_2 (f := Jvm.ClassFile.Instr.invokevirtual) (lwg_56 9 0xb6 rfl) (lwg_56 10 0x01 rfl) (lwg_56 11 0x21 rfl) (dkk_182 1801) rfl
theorem dL_law_1804 : decode cL_law 1804 = .ok (.pop2, 1) := dk_0 (lwg_56 12 0x58 rfl) (dkk_88 1804)
theorem dL_law_1805 : decode cL_law 1805 = .ok (.aload_n 2, 1) := dk_0 (lwg_56 13 0x2c rfl) (dkk_44 1805)
theorem dL_law_1806 : decode cL_law 1806 = .ok (.invokevirtual 293, 3) := dk_2 (f := Jvm.ClassFile.Instr.invokevirtual) (lwg_56 14 0xb6 rfl) (lwg_56 15 0x01 rfl) (lwg_56 16 0x25 rfl) (dkk_182 1806) rfl
theorem dL_law_1809 : decode cL_law 1809 = .ok (.pop2, 1) := dk_0 (lwg_56 17 0x58 rfl) (dkk_88 1809)
theorem dL_law_1810 : decode cL_law 1810 = .ok (.goto 3, 3) := dk_2s (f := Jvm.ClassFile.Instr.goto) (lwg_56 18 0xa7 rfl) (lwg_56 19 0x00 rfl) (lwg_56 20 0x03 rfl) (dkk_167 1810) (by decide +kernel)
theorem dL_law_1813 : decode cL_law 1813 = .ok (.iinc 4 5, 3) := by decide +kernel
theorem dL_law_1816 : decode cL_law 1816 = .ok (.goto (-1789), 3) := dk_2s (f := Jvm.ClassFile.Instr.goto) (lwg_56 24 0xa7 rfl) (lwg_56 25 0xf9 rfl) (lwg_56 26 0x03 rfl) (dkk_167 1816) (by decide +kernel)
theorem dL_law_1819 : decode cL_law 1819 = .ok (.iconst 1, 1) := dk_0 (lwg_56 27 0x04 rfl) (dkk_4 1819)
theorem dL_law_1820 : decode cL_law 1820 = .ok (.ireturn, 1) := dk_0 (lwg_56 28 0xac rfl) (dkk_172 1820)
end DK
