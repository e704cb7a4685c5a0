theorem dX5_init_0 : decode cX5_init 0 = .ok (.aload_n 0, 1) := by decide +kernel
theorem dX5_init_1 : decode cX5_init 1 = .ok (.invokespecial 1, 3) := by decide +kernel
theorem dX5_init_4 : decode cX5_init 4 = .ok (.aload_n 0, 1) := by decide +kernel
theorem dX5_init_5 : decode cX5_init 5 = .ok (.bipush 6, 2) := by decide +kernel
theorem dX5_init_7 : decode cX5_init 7 = .ok (.anewarray 9, 3) := by decide +kernel
theorem dX5_init_10 : decode cX5_init 10 = .ok (.putfield 11, 3) := by decide +kernel
theorem dX5_init_13 : decode cX5_init 13 = .ok (.aload_n 0, 1) := by decide +kernel
theorem dX5_init_14 : decode cX5_init 14 = .ok (.new 15, 3) := by decide +kernel
theorem dX5_init_17 : decode cX5_init 17 = .ok (.dup, 1) := by decide +kernel
theorem dX5_init_18 : decode cX5_init 18 = .ok (.invokespecial 17, 3) := by decide +kernel
theorem dX5_init_21 : decode cX5_init 21 = .ok (.putfield 18, 3) := by decide +kernel
theorem dX5_init_24 : decode cX5_init 24 = .ok (.aload_n 0, 1) := by decide +kernel
theorem dX5_init_25 : decode cX5_init 25 = .ok (.iconst 2, 1) := by decide +kernel
theorem dX5_init_26 : decode cX5_init 26 = .ok (.newarray .long, 2) := by decide +kernel
theorem dX5_init_28 : decode cX5_init 28 = .ok (.dup, 1) := by decide +kernel
theorem dX5_init_29 : decode cX5_init 29 = .ok (.iconst 0, 1) := by decide +kernel
theorem dX5_init_30 : decode cX5_init 30 = .ok (.lconst 0, 1) := by decide +kernel
theorem dX5_init_31 : decode cX5_init 31 = .ok (.lastore, 1) := by decide +kernel
theorem dX5_init_32 : decode cX5_init 32 = .ok (.dup, 1) := by decide +kernel
theorem dX5_init_33 : decode cX5_init 33 = .ok (.iconst 1, 1) := by decide +kernel
theorem dX5_init_34 : decode cX5_init 34 = .ok (.lconst 1, 1) := by decide +kernel
theorem dX5_init_35 : decode cX5_init 35 = .ok (.lastore, 1) := by decide +kernel
theorem dX5_init_36 : decode cX5_init 36 = .ok (.putfield 22, 3) := by decide +kernel
theorem dX5_init_39 : decode cX5_init 39 = .ok (.aload_n 0, 1) := by decide +kernel
theorem dX5_init_40 : decode cX5_init 40 = .ok (.iconst 2, 1) := by decide +kernel
theorem dX5_init_41 : decode cX5_init 41 = .ok (.newarray .long, 2) := by decide +kernel
theorem dX5_init_43 : decode cX5_init 43 = .ok (.dup, 1) := by decide +kernel
theorem dX5_init_44 : decode cX5_init 44 = .ok (.iconst 0, 1) := by decide +kernel
theorem dX5_init_45 : decode cX5_init 45 = .ok (.lconst 0, 1) := by decide +kernel
theorem dX5_init_46 : decode cX5_init 46 = .ok (.lastore, 1) := by decide +kernel
theorem dX5_init_47 : decode cX5_init 47 = .ok (.dup, 1) := by decide +kernel
theorem dX5_init_48 : decode cX5_init 48 = .ok (.iconst 1, 1) := by decide +kernel
theorem dX5_init_49 : decode cX5_init 49 = .ok (.lconst 1, 1) := by decide +kernel
theorem dX5_init_50 : decode cX5_init 50 = .ok (.lastore, 1) := by decide +kernel
theorem dX5_init_51 : decode cX5_init 51 = .ok (.putfield 25, 3) := by decide +kernel
theorem dX5_init_54 : decode cX5_init 54 = .ok (.iconst 0, 1) := by decide +kernel
theorem dX5_init_55 : decode cX5_init 55 = .ok (.istore_n 1, 1) := by decide +kernel
theorem dX5_init_56 : decode cX5_init 56 = .ok (.iload_n 1, 1) := by decide +kernel
theorem dX5_init_57 : decode cX5_init 57 = .ok (.bipush 6, 2) := by decide +kernel
theorem dX5_init_59 : decode cX5_init 59 = .ok (.if_icmp .ge 20, 3) := by decide +kernel
theorem dX5_init_62 : decode cX5_init 62 = .ok (.aload_n 0, 1) := by decide +kernel
theorem dX5_init_63 : decode cX5_init 63 = .ok (.getfield 11, 3) := by decide +kernel
theorem dX5_init_66 : decode cX5_init 66 = .ok (.iload_n 1, 1) := by decide +kernel
theorem dX5_init_67 : decode cX5_init 67 = .ok (.lconst 0, 1) := by decide +kernel
theorem dX5_init_68 : decode cX5_init 68 = .ok (.lconst 1, 1) := by decide +kernel
theorem dX5_init_69 : decode cX5_init 69 = .ok (.invokestatic 28, 3) := by decide +kernel
theorem dX5_init_72 : decode cX5_init 72 = .ok (.aastore, 1) := by decide +kernel
theorem dX5_init_73 : decode cX5_init 73 = .ok (.iinc 1 1, 3) := by decide +kernel
theorem dX5_init_76 : decode cX5_init 76 = .ok (.goto (-20), 3) := by decide +kernel
theorem dX5_init_79 : decode cX5_init 79 = .ok (.return_, 1) := by decide +kernel
theorem dX5_thrown_0 : decode cX5_thrown 0 = .ok (.aload_n 0, 1) := by decide +kernel
theorem dX5_thrown_1 : decode cX5_thrown 1 = .ok (.getfield 32, 3) := by decide +kernel
theorem dX5_thrown_4 : decode cX5_thrown 4 = .ok (.ireturn, 1) := by decide +kernel
theorem dX5_isIn_0 : decode cX5_isIn 0 = .ok (.iload_n 0, 1) := by decide +kernel
theorem dX5_isIn_1 : decode cX5_isIn 1 = .ok (.iload_n 1, 1) := by decide +kernel
theorem dX5_isIn_2 : decode cX5_isIn 2 = .ok (.if_icmp .lt 12, 3) := by decide +kernel
theorem dX5_isIn_5 : decode cX5_isIn 5 = .ok (.iload_n 0, 1) := by decide +kernel
theorem dX5_isIn_6 : decode cX5_isIn 6 = .ok (.iload_n 2, 1) := by decide +kernel
theorem dX5_isIn_7 : decode cX5_isIn 7 = .ok (.if_icmp .gt 7, 3) := by decide +kernel
theorem dX5_isIn_10 : decode cX5_isIn 10 = .ok (.iconst 1, 1) := by decide +kernel
theorem dX5_isIn_11 : decode cX5_isIn 11 = .ok (.goto 4, 3) := by decide +kernel
theorem dX5_isIn_14 : decode cX5_isIn 14 = .ok (.iconst 0, 1) := by decide +kernel
theorem dX5_isIn_15 : decode cX5_isIn 15 = .ok (.ireturn, 1) := by decide +kernel
theorem dX5_bit_0 : decode cX5_bit 0 = .ok (.iload_n 0, 1) := by decide +kernel
theorem dX5_bit_1 : decode cX5_bit 1 = .ok (.ifCond .eq 7, 3) := by decide +kernel
theorem dX5_bit_4 : decode cX5_bit 4 = .ok (.iconst 1, 1) := by decide +kernel
theorem dX5_bit_5 : decode cX5_bit 5 = .ok (.goto 4, 3) := by decide +kernel
theorem dX5_bit_8 : decode cX5_bit 8 = .ok (.iconst 0, 1) := by decide +kernel
theorem dX5_bit_9 : decode cX5_bit 9 = .ok (.ireturn, 1) := by decide +kernel
theorem dX5_fails_0 : decode cX5_fails 0 = .ok (.aload_n 0, 1) := by decide +kernel
theorem dX5_fails_1 : decode cX5_fails 1 = .ok (.iload_n 1, 1) := by decide +kernel
theorem dX5_fails_2 : decode cX5_fails 2 = .ok (.ifCond .eq 7, 3) := by decide +kernel
theorem dX5_fails_5 : decode cX5_fails 5 = .ok (.iconst 1, 1) := by decide +kernel
theorem dX5_fails_6 : decode cX5_fails 6 = .ok (.goto 12, 3) := by decide +kernel
theorem dX5_fails_9 : decode cX5_fails 9 = .ok (.iload_n 2, 1) := by decide +kernel
theorem dX5_fails_10 : decode cX5_fails 10 = .ok (.ifCond .eq 7, 3) := by decide +kernel
theorem dX5_fails_13 : decode cX5_fails 13 = .ok (.iconst 2, 1) := by decide +kernel
theorem dX5_fails_14 : decode cX5_fails 14 = .ok (.goto 4, 3) := by decide +kernel
theorem dX5_fails_17 : decode cX5_fails 17 = .ok (.iconst 0, 1) := by decide +kernel
theorem dX5_fails_18 : decode cX5_fails 18 = .ok (.putfield 32, 3) := by decide +kernel
theorem dX5_fails_21 : decode cX5_fails 21 = .ok (.aload_n 0, 1) := by decide +kernel
theorem dX5_fails_22 : decode cX5_fails 22 = .ok (.getfield 32, 3) := by decide +kernel
theorem dX5_fails_25 : decode cX5_fails 25 = .ok (.ifCond .le 7, 3) := by decide +kernel
theorem dX5_fails_28 : decode cX5_fails 28 = .ok (.iconst 1, 1) := by decide +kernel
theorem dX5_fails_29 : decode cX5_fails 29 = .ok (.goto 4, 3) := by decide +kernel
theorem dX5_fails_32 : decode cX5_fails 32 = .ok (.iconst 0, 1) := by decide +kernel
theorem dX5_fails_33 : decode cX5_fails 33 = .ok (.ireturn, 1) := by decide +kernel
theorem dX5_isNo_0 : decode cX5_isNo 0 = .ok (.iload_n 0, 1) := by decide +kernel
theorem dX5_isNo_1 : decode cX5_isNo 1 = .ok (.iconst 0, 1) := by decide +kernel
theorem dX5_isNo_2 : decode cX5_isNo 2 = .ok (.iconst 5, 1) := by decide +kernel
theorem dX5_isNo_3 : decode cX5_isNo 3 = .ok (.invokestatic 36, 3) := by decide +kernel
theorem dX5_isNo_6 : decode cX5_isNo 6 = .ok (.ifCond .ne 7, 3) := by decide +kernel
theorem dX5_isNo_9 : decode cX5_isNo 9 = .ok (.iconst 1, 1) := by decide +kernel
theorem dX5_isNo_10 : decode cX5_isNo 10 = .ok (.goto 4, 3) := by decide +kernel
theorem dX5_isNo_13 : decode cX5_isNo 13 = .ok (.iconst 0, 1) := by decide +kernel
theorem dX5_isNo_14 : decode cX5_isNo 14 = .ok (.ireturn, 1) := by decide +kernel
theorem dX5_areNo_0 : decode cX5_areNo 0 = .ok (.iload_n 0, 1) := by decide +kernel
theorem dX5_areNo_1 : decode cX5_areNo 1 = .ok (.invokestatic 40, 3) := by decide +kernel
theorem dX5_areNo_4 : decode cX5_areNo 4 = .ok (.ifCond .ne 10, 3) := by decide +kernel
theorem dX5_areNo_7 : decode cX5_areNo 7 = .ok (.iload_n 1, 1) := by decide +kernel
theorem dX5_areNo_8 : decode cX5_areNo 8 = .ok (.invokestatic 40, 3) := by decide +kernel
theorem dX5_areNo_11 : decode cX5_areNo 11 = .ok (.ifCond .eq 7, 3) := by decide +kernel
theorem dX5_areNo_14 : decode cX5_areNo 14 = .ok (.iconst 1, 1) := by decide +kernel
theorem dX5_areNo_15 : decode cX5_areNo 15 = .ok (.goto 4, 3) := by decide +kernel
theorem dX5_areNo_18 : decode cX5_areNo 18 = .ok (.iconst 0, 1) := by decide +kernel
theorem dX5_areNo_19 : decode cX5_areNo 19 = .ok (.ireturn, 1) := by decide +kernel
theorem dX5_divisor_0 : decode cX5_divisor 0 = .ok (.lload_n 0, 1) := by decide +kernel
theorem dX5_divisor_1 : decode cX5_divisor 1 = .ok (.invokestatic 44, 3) := by decide +kernel
theorem dX5_divisor_4 : decode cX5_divisor 4 = .ok (.lstore 4, 2) := by decide +kernel
theorem dX5_divisor_6 : decode cX5_divisor 6 = .ok (.lload_n 2, 1) := by decide +kernel
theorem dX5_divisor_7 : decode cX5_divisor 7 = .ok (.invokestatic 44, 3) := by decide +kernel
theorem dX5_divisor_10 : decode cX5_divisor 10 = .ok (.lstore 6, 2) := by decide +kernel
theorem dX5_divisor_12 : decode cX5_divisor 12 = .ok (.lload 6, 2) := by decide +kernel
theorem dX5_divisor_14 : decode cX5_divisor 14 = .ok (.lconst 0, 1) := by decide +kernel
theorem dX5_divisor_15 : decode cX5_divisor 15 = .ok (.lcmp, 1) := by decide +kernel
theorem dX5_divisor_16 : decode cX5_divisor 16 = .ok (.ifCond .eq 21, 3) := by decide +kernel
theorem dX5_divisor_19 : decode cX5_divisor 19 = .ok (.lload 4, 2) := by decide +kernel
theorem dX5_divisor_21 : decode cX5_divisor 21 = .ok (.lload 6, 2) := by decide +kernel
theorem dX5_divisor_23 : decode cX5_divisor 23 = .ok (.lrem, 1) := by decide +kernel
theorem dX5_divisor_24 : decode cX5_divisor 24 = .ok (.lstore 8, 2) := by decide +kernel
theorem dX5_divisor_26 : decode cX5_divisor 26 = .ok (.lload 6, 2) := by decide +kernel
theorem dX5_divisor_28 : decode cX5_divisor 28 = .ok (.lstore 4, 2) := by decide +kernel
theorem dX5_divisor_30 : decode cX5_divisor 30 = .ok (.lload 8, 2) := by decide +kernel
theorem dX5_divisor_32 : decode cX5_divisor 32 = .ok (.lstore 6, 2) := by decide +kernel
theorem dX5_divisor_34 : decode cX5_divisor 34 = .ok (.goto (-22), 3) := by decide +kernel
theorem dX5_divisor_37 : decode cX5_divisor 37 = .ok (.lload 4, 2) := by decide +kernel
theorem dX5_divisor_39 : decode cX5_divisor 39 = .ok (.lreturn, 1) := by decide +kernel
theorem dX5_lowest_0 : decode cX5_lowest 0 = .ok (.lload_n 0, 1) := by decide +kernel
theorem dX5_lowest_1 : decode cX5_lowest 1 = .ok (.lload_n 2, 1) := by decide +kernel
theorem dX5_lowest_2 : decode cX5_lowest 2 = .ok (.invokestatic 50, 3) := by decide +kernel
theorem dX5_lowest_5 : decode cX5_lowest 5 = .ok (.lstore 4, 2) := by decide +kernel
theorem dX5_lowest_7 : decode cX5_lowest 7 = .ok (.lload_n 2, 1) := by decide +kernel
theorem dX5_lowest_8 : decode cX5_lowest 8 = .ok (.lconst 0, 1) := by decide +kernel
theorem dX5_lowest_9 : decode cX5_lowest 9 = .ok (.lcmp, 1) := by decide +kernel
theorem dX5_lowest_10 : decode cX5_lowest 10 = .ok (.ifCond .ge 9, 3) := by decide +kernel
theorem dX5_lowest_13 : decode cX5_lowest 13 = .ok (.ldc2_w 54, 3) := by decide +kernel
theorem dX5_lowest_16 : decode cX5_lowest 16 = .ok (.goto 4, 3) := by decide +kernel
theorem dX5_lowest_19 : decode cX5_lowest 19 = .ok (.lconst 1, 1) := by decide +kernel
theorem dX5_lowest_20 : decode cX5_lowest 20 = .ok (.lstore 6, 2) := by decide +kernel
theorem dX5_lowest_22 : decode cX5_lowest 22 = .ok (.iconst 2, 1) := by decide +kernel
theorem dX5_lowest_23 : decode cX5_lowest 23 = .ok (.newarray .long, 2) := by decide +kernel
theorem dX5_lowest_25 : decode cX5_lowest 25 = .ok (.dup, 1) := by decide +kernel
theorem dX5_lowest_26 : decode cX5_lowest 26 = .ok (.iconst 0, 1) := by decide +kernel
theorem dX5_lowest_27 : decode cX5_lowest 27 = .ok (.lload 6, 2) := by decide +kernel
theorem dX5_lowest_29 : decode cX5_lowest 29 = .ok (.lload_n 0, 1) := by decide +kernel
theorem dX5_lowest_30 : decode cX5_lowest 30 = .ok (.lload 4, 2) := by decide +kernel
theorem dX5_lowest_32 : decode cX5_lowest 32 = .ok (.ldiv, 1) := by decide +kernel
theorem dX5_lowest_33 : decode cX5_lowest 33 = .ok (.lmul, 1) := by decide +kernel
theorem dX5_lowest_34 : decode cX5_lowest 34 = .ok (.lastore, 1) := by decide +kernel
theorem dX5_lowest_35 : decode cX5_lowest 35 = .ok (.dup, 1) := by decide +kernel
theorem dX5_lowest_36 : decode cX5_lowest 36 = .ok (.iconst 1, 1) := by decide +kernel
theorem dX5_lowest_37 : decode cX5_lowest 37 = .ok (.lload 6, 2) := by decide +kernel
theorem dX5_lowest_39 : decode cX5_lowest 39 = .ok (.lload_n 2, 1) := by decide +kernel
theorem dX5_lowest_40 : decode cX5_lowest 40 = .ok (.lload 4, 2) := by decide +kernel
theorem dX5_lowest_42 : decode cX5_lowest 42 = .ok (.ldiv, 1) := by decide +kernel
theorem dX5_lowest_43 : decode cX5_lowest 43 = .ok (.lmul, 1) := by decide +kernel
theorem dX5_lowest_44 : decode cX5_lowest 44 = .ok (.lastore, 1) := by decide +kernel
theorem dX5_lowest_45 : decode cX5_lowest 45 = .ok (.areturn, 1) := by decide +kernel
theorem dX5_isFit_0 : decode cX5_isFit 0 = .ok (.aload_n 0, 1) := by decide +kernel
theorem dX5_isFit_1 : decode cX5_isFit 1 = .ok (.ifnull 37, 3) := by decide +kernel
theorem dX5_isFit_4 : decode cX5_isFit 4 = .ok (.aload_n 0, 1) := by decide +kernel
theorem dX5_isFit_5 : decode cX5_isFit 5 = .ok (.iconst 0, 1) := by decide +kernel
theorem dX5_isFit_6 : decode cX5_isFit 6 = .ok (.laload, 1) := by decide +kernel
theorem dX5_isFit_7 : decode cX5_isFit 7 = .ok (.ldc2_w 56, 3) := by decide +kernel
theorem dX5_isFit_10 : decode cX5_isFit 10 = .ok (.lcmp, 1) := by decide +kernel
theorem dX5_isFit_11 : decode cX5_isFit 11 = .ok (.ifCond .lt 27, 3) := by decide +kernel
theorem dX5_isFit_14 : decode cX5_isFit 14 = .ok (.aload_n 0, 1) := by decide +kernel
theorem dX5_isFit_15 : decode cX5_isFit 15 = .ok (.iconst 0, 1) := by decide +kernel
theorem dX5_isFit_16 : decode cX5_isFit 16 = .ok (.laload, 1) := by decide +kernel
theorem dX5_isFit_17 : decode cX5_isFit 17 = .ok (.ldc2_w 58, 3) := by decide +kernel
theorem dX5_isFit_20 : decode cX5_isFit 20 = .ok (.lcmp, 1) := by decide +kernel
theorem dX5_isFit_21 : decode cX5_isFit 21 = .ok (.ifCond .gt 17, 3) := by decide +kernel
theorem dX5_isFit_24 : decode cX5_isFit 24 = .ok (.aload_n 0, 1) := by decide +kernel
theorem dX5_isFit_25 : decode cX5_isFit 25 = .ok (.iconst 1, 1) := by decide +kernel
theorem dX5_isFit_26 : decode cX5_isFit 26 = .ok (.laload, 1) := by decide +kernel
theorem dX5_isFit_27 : decode cX5_isFit 27 = .ok (.ldc2_w 58, 3) := by decide +kernel
theorem dX5_isFit_30 : decode cX5_isFit 30 = .ok (.lcmp, 1) := by decide +kernel
theorem dX5_isFit_31 : decode cX5_isFit 31 = .ok (.ifCond .gt 7, 3) := by decide +kernel
theorem dX5_isFit_34 : decode cX5_isFit 34 = .ok (.iconst 1, 1) := by decide +kernel
theorem dX5_isFit_35 : decode cX5_isFit 35 = .ok (.goto 4, 3) := by decide +kernel
theorem dX5_isFit_38 : decode cX5_isFit 38 = .ok (.iconst 0, 1) := by decide +kernel
theorem dX5_isFit_39 : decode cX5_isFit 39 = .ok (.ireturn, 1) := by decide +kernel
theorem dX5_floor_0 : decode cX5_floor 0 = .ok (.lload_n 0, 1) := by decide +kernel
theorem dX5_floor_1 : decode cX5_floor 1 = .ok (.lload_n 2, 1) := by decide +kernel
theorem dX5_floor_2 : decode cX5_floor 2 = .ok (.ldiv, 1) := by decide +kernel
theorem dX5_floor_3 : decode cX5_floor 3 = .ok (.lstore 4, 2) := by decide +kernel
theorem dX5_floor_5 : decode cX5_floor 5 = .ok (.lload_n 0, 1) := by decide +kernel
theorem dX5_floor_6 : decode cX5_floor 6 = .ok (.lload_n 2, 1) := by decide +kernel
theorem dX5_floor_7 : decode cX5_floor 7 = .ok (.lrem, 1) := by decide +kernel
theorem dX5_floor_8 : decode cX5_floor 8 = .ok (.lconst 0, 1) := by decide +kernel
theorem dX5_floor_9 : decode cX5_floor 9 = .ok (.lcmp, 1) := by decide +kernel
theorem dX5_floor_10 : decode cX5_floor 10 = .ok (.ifCond .eq 37, 3) := by decide +kernel
theorem dX5_floor_13 : decode cX5_floor 13 = .ok (.lload_n 0, 1) := by decide +kernel
theorem dX5_floor_14 : decode cX5_floor 14 = .ok (.lload_n 2, 1) := by decide +kernel
theorem dX5_floor_15 : decode cX5_floor 15 = .ok (.lrem, 1) := by decide +kernel
theorem dX5_floor_16 : decode cX5_floor 16 = .ok (.lconst 0, 1) := by decide +kernel
theorem dX5_floor_17 : decode cX5_floor 17 = .ok (.lcmp, 1) := by decide +kernel
theorem dX5_floor_18 : decode cX5_floor 18 = .ok (.ifCond .ge 7, 3) := by decide +kernel
theorem dX5_floor_21 : decode cX5_floor 21 = .ok (.iconst 1, 1) := by decide +kernel
theorem dX5_floor_22 : decode cX5_floor 22 = .ok (.goto 4, 3) := by decide +kernel
theorem dX5_floor_25 : decode cX5_floor 25 = .ok (.iconst 0, 1) := by decide +kernel
theorem dX5_floor_26 : decode cX5_floor 26 = .ok (.lload_n 2, 1) := by decide +kernel
theorem dX5_floor_27 : decode cX5_floor 27 = .ok (.lconst 0, 1) := by decide +kernel
theorem dX5_floor_28 : decode cX5_floor 28 = .ok (.lcmp, 1) := by decide +kernel
theorem dX5_floor_29 : decode cX5_floor 29 = .ok (.ifCond .ge 7, 3) := by decide +kernel
theorem dX5_floor_32 : decode cX5_floor 32 = .ok (.iconst 1, 1) := by decide +kernel
theorem dX5_floor_33 : decode cX5_floor 33 = .ok (.goto 4, 3) := by decide +kernel
theorem dX5_floor_36 : decode cX5_floor 36 = .ok (.iconst 0, 1) := by decide +kernel
theorem dX5_floor_37 : decode cX5_floor 37 = .ok (.if_icmp .eq 10, 3) := by decide +kernel
theorem dX5_floor_40 : decode cX5_floor 40 = .ok (.lload 4, 2) := by decide +kernel
theorem dX5_floor_42 : decode cX5_floor 42 = .ok (.lconst 1, 1) := by decide +kernel
theorem dX5_floor_43 : decode cX5_floor 43 = .ok (.lsub, 1) := by decide +kernel
theorem dX5_floor_44 : decode cX5_floor 44 = .ok (.goto 5, 3) := by decide +kernel
theorem dX5_floor_47 : decode cX5_floor 47 = .ok (.lload 4, 2) := by decide +kernel
theorem dX5_floor_49 : decode cX5_floor 49 = .ok (.lreturn, 1) := by decide +kernel
theorem dX5_sum_0 : decode cX5_sum 0 = .ok (.aload_n 0, 1) := by decide +kernel
theorem dX5_sum_1 : decode cX5_sum 1 = .ok (.iconst 0, 1) := by decide +kernel
theorem dX5_sum_2 : decode cX5_sum 2 = .ok (.laload, 1) := by decide +kernel
theorem dX5_sum_3 : decode cX5_sum 3 = .ok (.aload_n 1, 1) := by decide +kernel
theorem dX5_sum_4 : decode cX5_sum 4 = .ok (.iconst 1, 1) := by decide +kernel
theorem dX5_sum_5 : decode cX5_sum 5 = .ok (.laload, 1) := by decide +kernel
theorem dX5_sum_6 : decode cX5_sum 6 = .ok (.lmul, 1) := by decide +kernel
theorem dX5_sum_7 : decode cX5_sum 7 = .ok (.iload_n 2, 1) := by decide +kernel
theorem dX5_sum_8 : decode cX5_sum 8 = .ok (.i2l, 1) := by decide +kernel
theorem dX5_sum_9 : decode cX5_sum 9 = .ok (.aload_n 1, 1) := by decide +kernel
theorem dX5_sum_10 : decode cX5_sum 10 = .ok (.iconst 0, 1) := by decide +kernel
theorem dX5_sum_11 : decode cX5_sum 11 = .ok (.laload, 1) := by decide +kernel
theorem dX5_sum_12 : decode cX5_sum 12 = .ok (.aload_n 0, 1) := by decide +kernel
theorem dX5_sum_13 : decode cX5_sum 13 = .ok (.iconst 1, 1) := by decide +kernel
theorem dX5_sum_14 : decode cX5_sum 14 = .ok (.laload, 1) := by decide +kernel
theorem dX5_sum_15 : decode cX5_sum 15 = .ok (.lmul, 1) := by decide +kernel
theorem dX5_sum_16 : decode cX5_sum 16 = .ok (.lmul, 1) := by decide +kernel
theorem dX5_sum_17 : decode cX5_sum 17 = .ok (.ladd, 1) := by decide +kernel
theorem dX5_sum_18 : decode cX5_sum 18 = .ok (.aload_n 0, 1) := by decide +kernel
theorem dX5_sum_19 : decode cX5_sum 19 = .ok (.iconst 1, 1) := by decide +kernel
theorem dX5_sum_20 : decode cX5_sum 20 = .ok (.laload, 1) := by decide +kernel
theorem dX5_sum_21 : decode cX5_sum 21 = .ok (.aload_n 1, 1) := by decide +kernel
theorem dX5_sum_22 : decode cX5_sum 22 = .ok (.iconst 1, 1) := by decide +kernel
theorem dX5_sum_23 : decode cX5_sum 23 = .ok (.laload, 1) := by decide +kernel
theorem dX5_sum_24 : decode cX5_sum 24 = .ok (.lmul, 1) := by decide +kernel
theorem dX5_sum_25 : decode cX5_sum 25 = .ok (.invokestatic 28, 3) := by decide +kernel
theorem dX5_sum_28 : decode cX5_sum 28 = .ok (.areturn, 1) := by decide +kernel
theorem dX5_product_0 : decode cX5_product 0 = .ok (.aload_n 0, 1) := by decide +kernel
theorem dX5_product_1 : decode cX5_product 1 = .ok (.iconst 0, 1) := by decide +kernel
theorem dX5_product_2 : decode cX5_product 2 = .ok (.laload, 1) := by decide +kernel
theorem dX5_product_3 : decode cX5_product 3 = .ok (.aload_n 1, 1) := by decide +kernel
theorem dX5_product_4 : decode cX5_product 4 = .ok (.iconst 0, 1) := by decide +kernel
theorem dX5_product_5 : decode cX5_product 5 = .ok (.laload, 1) := by decide +kernel
theorem dX5_product_6 : decode cX5_product 6 = .ok (.lmul, 1) := by decide +kernel
theorem dX5_product_7 : decode cX5_product 7 = .ok (.aload_n 0, 1) := by decide +kernel
theorem dX5_product_8 : decode cX5_product 8 = .ok (.iconst 1, 1) := by decide +kernel
theorem dX5_product_9 : decode cX5_product 9 = .ok (.laload, 1) := by decide +kernel
theorem dX5_product_10 : decode cX5_product 10 = .ok (.aload_n 1, 1) := by decide +kernel
theorem dX5_product_11 : decode cX5_product 11 = .ok (.iconst 1, 1) := by decide +kernel
theorem dX5_product_12 : decode cX5_product 12 = .ok (.laload, 1) := by decide +kernel
theorem dX5_product_13 : decode cX5_product 13 = .ok (.lmul, 1) := by decide +kernel
theorem dX5_product_14 : decode cX5_product 14 = .ok (.invokestatic 28, 3) := by decide +kernel
theorem dX5_product_17 : decode cX5_product 17 = .ok (.areturn, 1) := by decide +kernel
theorem dX5_order_0 : decode cX5_order 0 = .ok (.aload_n 0, 1) := by decide +kernel
theorem dX5_order_1 : decode cX5_order 1 = .ok (.iconst 0, 1) := by decide +kernel
theorem dX5_order_2 : decode cX5_order 2 = .ok (.laload, 1) := by decide +kernel
theorem dX5_order_3 : decode cX5_order 3 = .ok (.aload_n 1, 1) := by decide +kernel
theorem dX5_order_4 : decode cX5_order 4 = .ok (.iconst 1, 1) := by decide +kernel
theorem dX5_order_5 : decode cX5_order 5 = .ok (.laload, 1) := by decide +kernel
theorem dX5_order_6 : decode cX5_order 6 = .ok (.lmul, 1) := by decide +kernel
theorem dX5_order_7 : decode cX5_order 7 = .ok (.lstore_n 2, 1) := by decide +kernel
theorem dX5_order_8 : decode cX5_order 8 = .ok (.aload_n 1, 1) := by decide +kernel
theorem dX5_order_9 : decode cX5_order 9 = .ok (.iconst 0, 1) := by decide +kernel
theorem dX5_order_10 : decode cX5_order 10 = .ok (.laload, 1) := by decide +kernel
theorem dX5_order_11 : decode cX5_order 11 = .ok (.aload_n 0, 1) := by decide +kernel
theorem dX5_order_12 : decode cX5_order 12 = .ok (.iconst 1, 1) := by decide +kernel
theorem dX5_order_13 : decode cX5_order 13 = .ok (.laload, 1) := by decide +kernel
theorem dX5_order_14 : decode cX5_order 14 = .ok (.lmul, 1) := by decide +kernel
theorem dX5_order_15 : decode cX5_order 15 = .ok (.lstore 4, 2) := by decide +kernel
theorem dX5_order_17 : decode cX5_order 17 = .ok (.lload_n 2, 1) := by decide +kernel
theorem dX5_order_18 : decode cX5_order 18 = .ok (.lload 4, 2) := by decide +kernel
theorem dX5_order_20 : decode cX5_order 20 = .ok (.lcmp, 1) := by decide +kernel
theorem dX5_order_21 : decode cX5_order 21 = .ok (.ifCond .ge 7, 3) := by decide +kernel
theorem dX5_order_24 : decode cX5_order 24 = .ok (.iconst (-1), 1) := by decide +kernel
theorem dX5_order_25 : decode cX5_order 25 = .ok (.goto 18, 3) := by decide +kernel
theorem dX5_order_28 : decode cX5_order 28 = .ok (.lload_n 2, 1) := by decide +kernel
theorem dX5_order_29 : decode cX5_order 29 = .ok (.lload 4, 2) := by decide +kernel
theorem dX5_order_31 : decode cX5_order 31 = .ok (.lcmp, 1) := by decide +kernel
theorem dX5_order_32 : decode cX5_order 32 = .ok (.ifCond .le 7, 3) := by decide +kernel
theorem dX5_order_35 : decode cX5_order 35 = .ok (.iconst 1, 1) := by decide +kernel
theorem dX5_order_36 : decode cX5_order 36 = .ok (.goto 4, 3) := by decide +kernel
theorem dX5_order_39 : decode cX5_order 39 = .ok (.iconst 0, 1) := by decide +kernel
theorem dX5_order_40 : decode cX5_order 40 = .ok (.invokestatic 60, 3) := by decide +kernel
theorem dX5_order_43 : decode cX5_order 43 = .ok (.ireturn, 1) := by decide +kernel
theorem dX5_text_0 : decode cX5_text 0 = .ok (.aload_n 0, 1) := by decide +kernel
theorem dX5_text_1 : decode cX5_text 1 = .ok (.iconst 1, 1) := by decide +kernel
theorem dX5_text_2 : decode cX5_text 2 = .ok (.laload, 1) := by decide +kernel
theorem dX5_text_3 : decode cX5_text 3 = .ok (.lconst 1, 1) := by decide +kernel
theorem dX5_text_4 : decode cX5_text 4 = .ok (.lcmp, 1) := by decide +kernel
theorem dX5_text_5 : decode cX5_text 5 = .ok (.ifCond .ne 27, 3) := by decide +kernel
theorem dX5_text_8 : decode cX5_text 8 = .ok (.new 64, 3) := by decide +kernel
theorem dX5_text_11 : decode cX5_text 11 = .ok (.dup, 1) := by decide +kernel
theorem dX5_text_12 : decode cX5_text 12 = .ok (.invokespecial 66, 3) := by decide +kernel
theorem dX5_text_15 : decode cX5_text 15 = .ok (.ldc 67, 2) := by decide +kernel
theorem dX5_text_17 : decode cX5_text 17 = .ok (.invokevirtual 69, 3) := by decide +kernel
theorem dX5_text_20 : decode cX5_text 20 = .ok (.aload_n 0, 1) := by decide +kernel
theorem dX5_text_21 : decode cX5_text 21 = .ok (.iconst 0, 1) := by decide +kernel
theorem dX5_text_22 : decode cX5_text 22 = .ok (.laload, 1) := by decide +kernel
theorem dX5_text_23 : decode cX5_text 23 = .ok (.invokevirtual 73, 3) := by decide +kernel
theorem dX5_text_26 : decode cX5_text 26 = .ok (.invokevirtual 76, 3) := by decide +kernel
theorem dX5_text_29 : decode cX5_text 29 = .ok (.goto 30, 3) := by decide +kernel
theorem dX5_text_32 : decode cX5_text 32 = .ok (.new 64, 3) := by decide +kernel
theorem dX5_text_35 : decode cX5_text 35 = .ok (.dup, 1) := by decide +kernel
theorem dX5_text_36 : decode cX5_text 36 = .ok (.invokespecial 66, 3) := by decide +kernel
theorem dX5_text_39 : decode cX5_text 39 = .ok (.aload_n 0, 1) := by decide +kernel
theorem dX5_text_40 : decode cX5_text 40 = .ok (.iconst 0, 1) := by decide +kernel
theorem dX5_text_41 : decode cX5_text 41 = .ok (.laload, 1) := by decide +kernel
theorem dX5_text_42 : decode cX5_text 42 = .ok (.invokevirtual 73, 3) := by decide +kernel
theorem dX5_text_45 : decode cX5_text 45 = .ok (.ldc 80, 2) := by decide +kernel
theorem dX5_text_47 : decode cX5_text 47 = .ok (.invokevirtual 69, 3) := by decide +kernel
theorem dX5_text_50 : decode cX5_text 50 = .ok (.aload_n 0, 1) := by decide +kernel
theorem dX5_text_51 : decode cX5_text 51 = .ok (.iconst 1, 1) := by decide +kernel
theorem dX5_text_52 : decode cX5_text 52 = .ok (.laload, 1) := by decide +kernel
theorem dX5_text_53 : decode cX5_text 53 = .ok (.invokevirtual 73, 3) := by decide +kernel
theorem dX5_text_56 : decode cX5_text 56 = .ok (.invokevirtual 76, 3) := by decide +kernel
theorem dX5_text_59 : decode cX5_text 59 = .ok (.areturn, 1) := by decide +kernel
theorem dX5_no_0 : decode cX5_no 0 = .ok (.aload_n 0, 1) := by decide +kernel
theorem dX5_no_1 : decode cX5_no 1 = .ok (.dup, 1) := by decide +kernel
theorem dX5_no_2 : decode cX5_no 2 = .ok (.getfield 82, 3) := by decide +kernel
theorem dX5_no_5 : decode cX5_no 5 = .ok (.iconst 1, 1) := by decide +kernel
theorem dX5_no_6 : decode cX5_no 6 = .ok (.iadd, 1) := by decide +kernel
theorem dX5_no_7 : decode cX5_no 7 = .ok (.putfield 82, 3) := by decide +kernel
theorem dX5_no_10 : decode cX5_no 10 = .ok (.bipush (-9), 2) := by decide +kernel
theorem dX5_no_12 : decode cX5_no 12 = .ok (.ireturn, 1) := by decide +kernel
theorem dX5_become_0 : decode cX5_become 0 = .ok (.aload_n 2, 1) := by decide +kernel
theorem dX5_become_1 : decode cX5_become 1 = .ok (.invokestatic 85, 3) := by decide +kernel
theorem dX5_become_4 : decode cX5_become 4 = .ok (.ifCond .ne 8, 3) := by decide +kernel
theorem dX5_become_7 : decode cX5_become 7 = .ok (.aload_n 0, 1) := by decide +kernel
theorem dX5_become_8 : decode cX5_become 8 = .ok (.invokevirtual 89, 3) := by decide +kernel
theorem dX5_become_11 : decode cX5_become 11 = .ok (.ireturn, 1) := by decide +kernel
theorem dX5_become_12 : decode cX5_become 12 = .ok (.aload_n 0, 1) := by decide +kernel
theorem dX5_become_13 : decode cX5_become 13 = .ok (.getfield 11, 3) := by decide +kernel
theorem dX5_become_16 : decode cX5_become 16 = .ok (.iload_n 1, 1) := by decide +kernel
theorem dX5_become_17 : decode cX5_become 17 = .ok (.aaload, 1) := by decide +kernel
theorem dX5_become_18 : decode cX5_become 18 = .ok (.aload_n 2, 1) := by decide +kernel
theorem dX5_become_19 : decode cX5_become 19 = .ok (.invokestatic 93, 3) := by decide +kernel
theorem dX5_become_22 : decode cX5_become 22 = .ok (.ifCond .eq 7, 3) := by decide +kernel
theorem dX5_become_25 : decode cX5_become 25 = .ok (.iconst 1, 1) := by decide +kernel
theorem dX5_become_26 : decode cX5_become 26 = .ok (.goto 4, 3) := by decide +kernel
theorem dX5_become_29 : decode cX5_become 29 = .ok (.iconst 0, 1) := by decide +kernel
theorem dX5_become_30 : decode cX5_become 30 = .ok (.istore_n 3, 1) := by decide +kernel
theorem dX5_become_31 : decode cX5_become 31 = .ok (.aload_n 0, 1) := by decide +kernel
theorem dX5_become_32 : decode cX5_become 32 = .ok (.getfield 11, 3) := by decide +kernel
theorem dX5_become_35 : decode cX5_become 35 = .ok (.iload_n 1, 1) := by decide +kernel
theorem dX5_become_36 : decode cX5_become 36 = .ok (.aload_n 2, 1) := by decide +kernel
theorem dX5_become_37 : decode cX5_become 37 = .ok (.aastore, 1) := by decide +kernel
theorem dX5_become_38 : decode cX5_become 38 = .ok (.iload_n 3, 1) := by decide +kernel
theorem dX5_become_39 : decode cX5_become 39 = .ok (.invokestatic 60, 3) := by decide +kernel
theorem dX5_become_42 : decode cX5_become 42 = .ok (.ireturn, 1) := by decide +kernel
theorem dX5_put_0 : decode cX5_put 0 = .ok (.aload_n 0, 1) := by decide +kernel
theorem dX5_put_1 : decode cX5_put 1 = .ok (.iload_n 1, 1) := by decide +kernel
theorem dX5_put_2 : decode cX5_put 2 = .ok (.invokestatic 40, 3) := by decide +kernel
theorem dX5_put_5 : decode cX5_put 5 = .ok (.iload_n 3, 1) := by decide +kernel
theorem dX5_put_6 : decode cX5_put 6 = .ok (.ifCond .ne 7, 3) := by decide +kernel
theorem dX5_put_9 : decode cX5_put 9 = .ok (.iconst 1, 1) := by decide +kernel
theorem dX5_put_10 : decode cX5_put 10 = .ok (.goto 4, 3) := by decide +kernel
theorem dX5_put_13 : decode cX5_put 13 = .ok (.iconst 0, 1) := by decide +kernel
theorem dX5_put_14 : decode cX5_put 14 = .ok (.invokevirtual 97, 3) := by decide +kernel
theorem dX5_put_17 : decode cX5_put 17 = .ok (.ifCond .eq 7, 3) := by decide +kernel
theorem dX5_put_20 : decode cX5_put 20 = .ok (.iconst 0, 1) := by decide +kernel
theorem dX5_put_21 : decode cX5_put 21 = .ok (.goto 15, 3) := by decide +kernel
theorem dX5_put_24 : decode cX5_put 24 = .ok (.aload_n 0, 1) := by decide +kernel
theorem dX5_put_25 : decode cX5_put 25 = .ok (.iload_n 1, 1) := by decide +kernel
theorem dX5_put_26 : decode cX5_put 26 = .ok (.iload_n 2, 1) := by decide +kernel
theorem dX5_put_27 : decode cX5_put 27 = .ok (.i2l, 1) := by decide +kernel
theorem dX5_put_28 : decode cX5_put 28 = .ok (.iload_n 3, 1) := by decide +kernel
theorem dX5_put_29 : decode cX5_put 29 = .ok (.i2l, 1) := by decide +kernel
theorem dX5_put_30 : decode cX5_put 30 = .ok (.invokestatic 28, 3) := by decide +kernel
theorem dX5_put_33 : decode cX5_put 33 = .ok (.invokevirtual 101, 3) := by decide +kernel
theorem dX5_put_36 : decode cX5_put 36 = .ok (.ireturn, 1) := by decide +kernel
theorem dX5_power_0 : decode cX5_power 0 = .ok (.lconst 1, 1) := by decide +kernel
theorem dX5_power_1 : decode cX5_power 1 = .ok (.lstore_n 1, 1) := by decide +kernel
theorem dX5_power_2 : decode cX5_power 2 = .ok (.iconst 0, 1) := by decide +kernel
theorem dX5_power_3 : decode cX5_power 3 = .ok (.istore_n 3, 1) := by decide +kernel
theorem dX5_power_4 : decode cX5_power 4 = .ok (.iload_n 3, 1) := by decide +kernel
theorem dX5_power_5 : decode cX5_power 5 = .ok (.iload_n 0, 1) := by decide +kernel
theorem dX5_power_6 : decode cX5_power 6 = .ok (.if_icmp .ge 15, 3) := by decide +kernel
theorem dX5_power_9 : decode cX5_power 9 = .ok (.lload_n 1, 1) := by decide +kernel
theorem dX5_power_10 : decode cX5_power 10 = .ok (.ldc2_w 105, 3) := by decide +kernel
theorem dX5_power_13 : decode cX5_power 13 = .ok (.lmul, 1) := by decide +kernel
theorem dX5_power_14 : decode cX5_power 14 = .ok (.lstore_n 1, 1) := by decide +kernel
theorem dX5_power_15 : decode cX5_power 15 = .ok (.iinc 3 1, 3) := by decide +kernel
theorem dX5_power_18 : decode cX5_power 18 = .ok (.goto (-14), 3) := by decide +kernel
theorem dX5_power_21 : decode cX5_power 21 = .ok (.lload_n 1, 1) := by decide +kernel
theorem dX5_power_22 : decode cX5_power 22 = .ok (.lreturn, 1) := by decide +kernel
theorem dX5_putDecimal_0 : decode cX5_putDecimal 0 = .ok (.aload_n 0, 1) := by decide +kernel
theorem dX5_putDecimal_1 : decode cX5_putDecimal 1 = .ok (.iload_n 1, 1) := by decide +kernel
theorem dX5_putDecimal_2 : decode cX5_putDecimal 2 = .ok (.invokestatic 40, 3) := by decide +kernel
theorem dX5_putDecimal_5 : decode cX5_putDecimal 5 = .ok (.iload_n 3, 1) := by decide +kernel
theorem dX5_putDecimal_6 : decode cX5_putDecimal 6 = .ok (.iconst 0, 1) := by decide +kernel
theorem dX5_putDecimal_7 : decode cX5_putDecimal 7 = .ok (.bipush 9, 2) := by decide +kernel
theorem dX5_putDecimal_9 : decode cX5_putDecimal 9 = .ok (.invokestatic 36, 3) := by decide +kernel
theorem dX5_putDecimal_12 : decode cX5_putDecimal 12 = .ok (.ifCond .ne 7, 3) := by decide +kernel
theorem dX5_putDecimal_15 : decode cX5_putDecimal 15 = .ok (.iconst 1, 1) := by decide +kernel
theorem dX5_putDecimal_16 : decode cX5_putDecimal 16 = .ok (.goto 4, 3) := by decide +kernel
theorem dX5_putDecimal_19 : decode cX5_putDecimal 19 = .ok (.iconst 0, 1) := by decide +kernel
theorem dX5_putDecimal_20 : decode cX5_putDecimal 20 = .ok (.invokevirtual 97, 3) := by decide +kernel
theorem dX5_putDecimal_23 : decode cX5_putDecimal 23 = .ok (.ifCond .eq 7, 3) := by decide +kernel
theorem dX5_putDecimal_26 : decode cX5_putDecimal 26 = .ok (.iconst 0, 1) := by decide +kernel
theorem dX5_putDecimal_27 : decode cX5_putDecimal 27 = .ok (.goto 17, 3) := by decide +kernel
theorem dX5_putDecimal_30 : decode cX5_putDecimal 30 = .ok (.aload_n 0, 1) := by decide +kernel
theorem dX5_putDecimal_31 : decode cX5_putDecimal 31 = .ok (.iload_n 1, 1) := by decide +kernel
theorem dX5_putDecimal_32 : decode cX5_putDecimal 32 = .ok (.iload_n 2, 1) := by decide +kernel
theorem dX5_putDecimal_33 : decode cX5_putDecimal 33 = .ok (.i2l, 1) := by decide +kernel
theorem dX5_putDecimal_34 : decode cX5_putDecimal 34 = .ok (.iload_n 3, 1) := by decide +kernel
theorem dX5_putDecimal_35 : decode cX5_putDecimal 35 = .ok (.invokestatic 107, 3) := by decide +kernel
theorem dX5_putDecimal_38 : decode cX5_putDecimal 38 = .ok (.invokestatic 28, 3) := by decide +kernel
theorem dX5_putDecimal_41 : decode cX5_putDecimal 41 = .ok (.invokevirtual 101, 3) := by decide +kernel
theorem dX5_putDecimal_44 : decode cX5_putDecimal 44 = .ok (.ireturn, 1) := by decide +kernel
theorem dX5_copy_0 : decode cX5_copy 0 = .ok (.aload_n 0, 1) := by decide +kernel
theorem dX5_copy_1 : decode cX5_copy 1 = .ok (.iload_n 1, 1) := by decide +kernel
theorem dX5_copy_2 : decode cX5_copy 2 = .ok (.iload_n 2, 1) := by decide +kernel
theorem dX5_copy_3 : decode cX5_copy 3 = .ok (.invokestatic 111, 3) := by decide +kernel
theorem dX5_copy_6 : decode cX5_copy 6 = .ok (.iconst 0, 1) := by decide +kernel
theorem dX5_copy_7 : decode cX5_copy 7 = .ok (.invokevirtual 97, 3) := by decide +kernel
theorem dX5_copy_10 : decode cX5_copy 10 = .ok (.ifCond .eq 7, 3) := by decide +kernel
theorem dX5_copy_13 : decode cX5_copy 13 = .ok (.iconst 0, 1) := by decide +kernel
theorem dX5_copy_14 : decode cX5_copy 14 = .ok (.goto 14, 3) := by decide +kernel
theorem dX5_copy_17 : decode cX5_copy 17 = .ok (.aload_n 0, 1) := by decide +kernel
theorem dX5_copy_18 : decode cX5_copy 18 = .ok (.iload_n 1, 1) := by decide +kernel
theorem dX5_copy_19 : decode cX5_copy 19 = .ok (.aload_n 0, 1) := by decide +kernel
theorem dX5_copy_20 : decode cX5_copy 20 = .ok (.getfield 11, 3) := by decide +kernel
theorem dX5_copy_23 : decode cX5_copy 23 = .ok (.iload_n 2, 1) := by decide +kernel
theorem dX5_copy_24 : decode cX5_copy 24 = .ok (.aaload, 1) := by decide +kernel
theorem dX5_copy_25 : decode cX5_copy 25 = .ok (.invokevirtual 101, 3) := by decide +kernel
theorem dX5_copy_28 : decode cX5_copy 28 = .ok (.ireturn, 1) := by decide +kernel
theorem dX5_swap_0 : decode cX5_swap 0 = .ok (.aload_n 0, 1) := by decide +kernel
theorem dX5_swap_1 : decode cX5_swap 1 = .ok (.iload_n 1, 1) := by decide +kernel
theorem dX5_swap_2 : decode cX5_swap 2 = .ok (.iload_n 2, 1) := by decide +kernel
theorem dX5_swap_3 : decode cX5_swap 3 = .ok (.invokestatic 111, 3) := by decide +kernel
theorem dX5_swap_6 : decode cX5_swap 6 = .ok (.iconst 0, 1) := by decide +kernel
theorem dX5_swap_7 : decode cX5_swap 7 = .ok (.invokevirtual 97, 3) := by decide +kernel
theorem dX5_swap_10 : decode cX5_swap 10 = .ok (.ifCond .eq 5, 3) := by decide +kernel
theorem dX5_swap_13 : decode cX5_swap 13 = .ok (.iconst 0, 1) := by decide +kernel
theorem dX5_swap_14 : decode cX5_swap 14 = .ok (.ireturn, 1) := by decide +kernel
theorem dX5_swap_15 : decode cX5_swap 15 = .ok (.aload_n 0, 1) := by decide +kernel
theorem dX5_swap_16 : decode cX5_swap 16 = .ok (.getfield 11, 3) := by decide +kernel
theorem dX5_swap_19 : decode cX5_swap 19 = .ok (.iload_n 1, 1) := by decide +kernel
theorem dX5_swap_20 : decode cX5_swap 20 = .ok (.aaload, 1) := by decide +kernel
theorem dX5_swap_21 : decode cX5_swap 21 = .ok (.astore_n 3, 1) := by decide +kernel
theorem dX5_swap_22 : decode cX5_swap 22 = .ok (.aload_n 0, 1) := by decide +kernel
theorem dX5_swap_23 : decode cX5_swap 23 = .ok (.getfield 11, 3) := by decide +kernel
theorem dX5_swap_26 : decode cX5_swap 26 = .ok (.iload_n 1, 1) := by decide +kernel
theorem dX5_swap_27 : decode cX5_swap 27 = .ok (.aload_n 0, 1) := by decide +kernel
theorem dX5_swap_28 : decode cX5_swap 28 = .ok (.getfield 11, 3) := by decide +kernel
theorem dX5_swap_31 : decode cX5_swap 31 = .ok (.iload_n 2, 1) := by decide +kernel
theorem dX5_swap_32 : decode cX5_swap 32 = .ok (.aaload, 1) := by decide +kernel
theorem dX5_swap_33 : decode cX5_swap 33 = .ok (.aastore, 1) := by decide +kernel
theorem dX5_swap_34 : decode cX5_swap 34 = .ok (.aload_n 0, 1) := by decide +kernel
theorem dX5_swap_35 : decode cX5_swap 35 = .ok (.getfield 11, 3) := by decide +kernel
theorem dX5_swap_38 : decode cX5_swap 38 = .ok (.iload_n 2, 1) := by decide +kernel
theorem dX5_swap_39 : decode cX5_swap 39 = .ok (.aload_n 3, 1) := by decide +kernel
theorem dX5_swap_40 : decode cX5_swap 40 = .ok (.aastore, 1) := by decide +kernel
theorem dX5_swap_41 : decode cX5_swap 41 = .ok (.aload_n 0, 1) := by decide +kernel
theorem dX5_swap_42 : decode cX5_swap 42 = .ok (.getfield 11, 3) := by decide +kernel
theorem dX5_swap_45 : decode cX5_swap 45 = .ok (.iload_n 1, 1) := by decide +kernel
theorem dX5_swap_46 : decode cX5_swap 46 = .ok (.aaload, 1) := by decide +kernel
theorem dX5_swap_47 : decode cX5_swap 47 = .ok (.aload_n 3, 1) := by decide +kernel
theorem dX5_swap_48 : decode cX5_swap 48 = .ok (.invokestatic 93, 3) := by decide +kernel
theorem dX5_swap_51 : decode cX5_swap 51 = .ok (.ifCond .eq 7, 3) := by decide +kernel
theorem dX5_swap_54 : decode cX5_swap 54 = .ok (.iconst 1, 1) := by decide +kernel
theorem dX5_swap_55 : decode cX5_swap 55 = .ok (.goto 4, 3) := by decide +kernel
theorem dX5_swap_58 : decode cX5_swap 58 = .ok (.iconst 0, 1) := by decide +kernel
theorem dX5_swap_59 : decode cX5_swap 59 = .ok (.invokestatic 60, 3) := by decide +kernel
theorem dX5_swap_62 : decode cX5_swap 62 = .ok (.ireturn, 1) := by decide +kernel
theorem dX5_plus_0 : decode cX5_plus 0 = .ok (.aload_n 0, 1) := by decide +kernel
theorem dX5_plus_1 : decode cX5_plus 1 = .ok (.iload_n 1, 1) := by decide +kernel
theorem dX5_plus_2 : decode cX5_plus 2 = .ok (.invokestatic 40, 3) := by decide +kernel
theorem dX5_plus_5 : decode cX5_plus 5 = .ok (.ifCond .ne 11, 3) := by decide +kernel
theorem dX5_plus_8 : decode cX5_plus 8 = .ok (.iload_n 2, 1) := by decide +kernel
theorem dX5_plus_9 : decode cX5_plus 9 = .ok (.iload_n 3, 1) := by decide +kernel
theorem dX5_plus_10 : decode cX5_plus 10 = .ok (.invokestatic 111, 3) := by decide +kernel
theorem dX5_plus_13 : decode cX5_plus 13 = .ok (.ifCond .eq 7, 3) := by decide +kernel
theorem dX5_plus_16 : decode cX5_plus 16 = .ok (.iconst 1, 1) := by decide +kernel
theorem dX5_plus_17 : decode cX5_plus 17 = .ok (.goto 4, 3) := by decide +kernel
theorem dX5_plus_20 : decode cX5_plus 20 = .ok (.iconst 0, 1) := by decide +kernel
theorem dX5_plus_21 : decode cX5_plus 21 = .ok (.iconst 0, 1) := by decide +kernel
theorem dX5_plus_22 : decode cX5_plus 22 = .ok (.invokevirtual 97, 3) := by decide +kernel
theorem dX5_plus_25 : decode cX5_plus 25 = .ok (.ifCond .eq 7, 3) := by decide +kernel
theorem dX5_plus_28 : decode cX5_plus 28 = .ok (.iconst 0, 1) := by decide +kernel
theorem dX5_plus_29 : decode cX5_plus 29 = .ok (.goto 24, 3) := by decide +kernel
theorem dX5_plus_32 : decode cX5_plus 32 = .ok (.aload_n 0, 1) := by decide +kernel
theorem dX5_plus_33 : decode cX5_plus 33 = .ok (.iload_n 1, 1) := by decide +kernel
theorem dX5_plus_34 : decode cX5_plus 34 = .ok (.aload_n 0, 1) := by decide +kernel
theorem dX5_plus_35 : decode cX5_plus 35 = .ok (.getfield 11, 3) := by decide +kernel
theorem dX5_plus_38 : decode cX5_plus 38 = .ok (.iload_n 2, 1) := by decide +kernel
theorem dX5_plus_39 : decode cX5_plus 39 = .ok (.aaload, 1) := by decide +kernel
theorem dX5_plus_40 : decode cX5_plus 40 = .ok (.aload_n 0, 1) := by decide +kernel
theorem dX5_plus_41 : decode cX5_plus 41 = .ok (.getfield 11, 3) := by decide +kernel
theorem dX5_plus_44 : decode cX5_plus 44 = .ok (.iload_n 3, 1) := by decide +kernel
theorem dX5_plus_45 : decode cX5_plus 45 = .ok (.aaload, 1) := by decide +kernel
theorem dX5_plus_46 : decode cX5_plus 46 = .ok (.iconst 1, 1) := by decide +kernel
theorem dX5_plus_47 : decode cX5_plus 47 = .ok (.invokestatic 115, 3) := by decide +kernel
theorem dX5_plus_50 : decode cX5_plus 50 = .ok (.invokevirtual 101, 3) := by decide +kernel
theorem dX5_plus_53 : decode cX5_plus 53 = .ok (.ireturn, 1) := by decide +kernel
theorem dX5_minus_0 : decode cX5_minus 0 = .ok (.aload_n 0, 1) := by decide +kernel
theorem dX5_minus_1 : decode cX5_minus 1 = .ok (.iload_n 1, 1) := by decide +kernel
theorem dX5_minus_2 : decode cX5_minus 2 = .ok (.invokestatic 40, 3) := by decide +kernel
theorem dX5_minus_5 : decode cX5_minus 5 = .ok (.ifCond .ne 11, 3) := by decide +kernel
theorem dX5_minus_8 : decode cX5_minus 8 = .ok (.iload_n 2, 1) := by decide +kernel
theorem dX5_minus_9 : decode cX5_minus 9 = .ok (.iload_n 3, 1) := by decide +kernel
theorem dX5_minus_10 : decode cX5_minus 10 = .ok (.invokestatic 111, 3) := by decide +kernel
theorem dX5_minus_13 : decode cX5_minus 13 = .ok (.ifCond .eq 7, 3) := by decide +kernel
theorem dX5_minus_16 : decode cX5_minus 16 = .ok (.iconst 1, 1) := by decide +kernel
theorem dX5_minus_17 : decode cX5_minus 17 = .ok (.goto 4, 3) := by decide +kernel
theorem dX5_minus_20 : decode cX5_minus 20 = .ok (.iconst 0, 1) := by decide +kernel
theorem dX5_minus_21 : decode cX5_minus 21 = .ok (.iconst 0, 1) := by decide +kernel
theorem dX5_minus_22 : decode cX5_minus 22 = .ok (.invokevirtual 97, 3) := by decide +kernel
theorem dX5_minus_25 : decode cX5_minus 25 = .ok (.ifCond .eq 7, 3) := by decide +kernel
theorem dX5_minus_28 : decode cX5_minus 28 = .ok (.iconst 0, 1) := by decide +kernel
theorem dX5_minus_29 : decode cX5_minus 29 = .ok (.goto 24, 3) := by decide +kernel
theorem dX5_minus_32 : decode cX5_minus 32 = .ok (.aload_n 0, 1) := by decide +kernel
theorem dX5_minus_33 : decode cX5_minus 33 = .ok (.iload_n 1, 1) := by decide +kernel
theorem dX5_minus_34 : decode cX5_minus 34 = .ok (.aload_n 0, 1) := by decide +kernel
theorem dX5_minus_35 : decode cX5_minus 35 = .ok (.getfield 11, 3) := by decide +kernel
theorem dX5_minus_38 : decode cX5_minus 38 = .ok (.iload_n 2, 1) := by decide +kernel
theorem dX5_minus_39 : decode cX5_minus 39 = .ok (.aaload, 1) := by decide +kernel
theorem dX5_minus_40 : decode cX5_minus 40 = .ok (.aload_n 0, 1) := by decide +kernel
theorem dX5_minus_41 : decode cX5_minus 41 = .ok (.getfield 11, 3) := by decide +kernel
theorem dX5_minus_44 : decode cX5_minus 44 = .ok (.iload_n 3, 1) := by decide +kernel
theorem dX5_minus_45 : decode cX5_minus 45 = .ok (.aaload, 1) := by decide +kernel
theorem dX5_minus_46 : decode cX5_minus 46 = .ok (.iconst (-1), 1) := by decide +kernel
theorem dX5_minus_47 : decode cX5_minus 47 = .ok (.invokestatic 115, 3) := by decide +kernel
theorem dX5_minus_50 : decode cX5_minus 50 = .ok (.invokevirtual 101, 3) := by decide +kernel
theorem dX5_minus_53 : decode cX5_minus 53 = .ok (.ireturn, 1) := by decide +kernel
theorem dX5_times_0 : decode cX5_times 0 = .ok (.aload_n 0, 1) := by decide +kernel
theorem dX5_times_1 : decode cX5_times 1 = .ok (.iload_n 1, 1) := by decide +kernel
theorem dX5_times_2 : decode cX5_times 2 = .ok (.invokestatic 40, 3) := by decide +kernel
theorem dX5_times_5 : decode cX5_times 5 = .ok (.ifCond .ne 11, 3) := by decide +kernel
theorem dX5_times_8 : decode cX5_times 8 = .ok (.iload_n 2, 1) := by decide +kernel
theorem dX5_times_9 : decode cX5_times 9 = .ok (.iload_n 3, 1) := by decide +kernel
theorem dX5_times_10 : decode cX5_times 10 = .ok (.invokestatic 111, 3) := by decide +kernel
theorem dX5_times_13 : decode cX5_times 13 = .ok (.ifCond .eq 7, 3) := by decide +kernel
theorem dX5_times_16 : decode cX5_times 16 = .ok (.iconst 1, 1) := by decide +kernel
theorem dX5_times_17 : decode cX5_times 17 = .ok (.goto 4, 3) := by decide +kernel
theorem dX5_times_20 : decode cX5_times 20 = .ok (.iconst 0, 1) := by decide +kernel
theorem dX5_times_21 : decode cX5_times 21 = .ok (.iconst 0, 1) := by decide +kernel
theorem dX5_times_22 : decode cX5_times 22 = .ok (.invokevirtual 97, 3) := by decide +kernel
theorem dX5_times_25 : decode cX5_times 25 = .ok (.ifCond .eq 7, 3) := by decide +kernel
theorem dX5_times_28 : decode cX5_times 28 = .ok (.iconst 0, 1) := by decide +kernel
theorem dX5_times_29 : decode cX5_times 29 = .ok (.goto 23, 3) := by decide +kernel
theorem dX5_times_32 : decode cX5_times 32 = .ok (.aload_n 0, 1) := by decide +kernel
theorem dX5_times_33 : decode cX5_times 33 = .ok (.iload_n 1, 1) := by decide +kernel
theorem dX5_times_34 : decode cX5_times 34 = .ok (.aload_n 0, 1) := by decide +kernel
theorem dX5_times_35 : decode cX5_times 35 = .ok (.getfield 11, 3) := by decide +kernel
theorem dX5_times_38 : decode cX5_times 38 = .ok (.iload_n 2, 1) := by decide +kernel
theorem dX5_times_39 : decode cX5_times 39 = .ok (.aaload, 1) := by decide +kernel
theorem dX5_times_40 : decode cX5_times 40 = .ok (.aload_n 0, 1) := by decide +kernel
theorem dX5_times_41 : decode cX5_times 41 = .ok (.getfield 11, 3) := by decide +kernel
theorem dX5_times_44 : decode cX5_times 44 = .ok (.iload_n 3, 1) := by decide +kernel
theorem dX5_times_45 : decode cX5_times 45 = .ok (.aaload, 1) := by decide +kernel
theorem dX5_times_46 : decode cX5_times 46 = .ok (.invokestatic 119, 3) := by decide +kernel
theorem dX5_times_49 : decode cX5_times 49 = .ok (.invokevirtual 101, 3) := by decide +kernel
theorem dX5_times_52 : decode cX5_times 52 = .ok (.ireturn, 1) := by decide +kernel
theorem dX5_inverse_0 : decode cX5_inverse 0 = .ok (.aload_n 0, 1) := by decide +kernel
theorem dX5_inverse_1 : decode cX5_inverse 1 = .ok (.iconst 0, 1) := by decide +kernel
theorem dX5_inverse_2 : decode cX5_inverse 2 = .ok (.laload, 1) := by decide +kernel
theorem dX5_inverse_3 : decode cX5_inverse 3 = .ok (.lconst 0, 1) := by decide +kernel
theorem dX5_inverse_4 : decode cX5_inverse 4 = .ok (.lcmp, 1) := by decide +kernel
theorem dX5_inverse_5 : decode cX5_inverse 5 = .ok (.ifCond .ne 7, 3) := by decide +kernel
theorem dX5_inverse_8 : decode cX5_inverse 8 = .ok (.aconst_null, 1) := by decide +kernel
theorem dX5_inverse_9 : decode cX5_inverse 9 = .ok (.goto 12, 3) := by decide +kernel
theorem dX5_inverse_12 : decode cX5_inverse 12 = .ok (.aload_n 0, 1) := by decide +kernel
theorem dX5_inverse_13 : decode cX5_inverse 13 = .ok (.iconst 1, 1) := by decide +kernel
theorem dX5_inverse_14 : decode cX5_inverse 14 = .ok (.laload, 1) := by decide +kernel
theorem dX5_inverse_15 : decode cX5_inverse 15 = .ok (.aload_n 0, 1) := by decide +kernel
theorem dX5_inverse_16 : decode cX5_inverse 16 = .ok (.iconst 0, 1) := by decide +kernel
theorem dX5_inverse_17 : decode cX5_inverse 17 = .ok (.laload, 1) := by decide +kernel
theorem dX5_inverse_18 : decode cX5_inverse 18 = .ok (.invokestatic 28, 3) := by decide +kernel
theorem dX5_inverse_21 : decode cX5_inverse 21 = .ok (.areturn, 1) := by decide +kernel
theorem dX5_over_0 : decode cX5_over 0 = .ok (.aload_n 0, 1) := by decide +kernel
theorem dX5_over_1 : decode cX5_over 1 = .ok (.iload_n 1, 1) := by decide +kernel
theorem dX5_over_2 : decode cX5_over 2 = .ok (.invokestatic 40, 3) := by decide +kernel
theorem dX5_over_5 : decode cX5_over 5 = .ok (.ifCond .ne 11, 3) := by decide +kernel
theorem dX5_over_8 : decode cX5_over 8 = .ok (.iload_n 2, 1) := by decide +kernel
theorem dX5_over_9 : decode cX5_over 9 = .ok (.iload_n 3, 1) := by decide +kernel
theorem dX5_over_10 : decode cX5_over 10 = .ok (.invokestatic 111, 3) := by decide +kernel
theorem dX5_over_13 : decode cX5_over 13 = .ok (.ifCond .eq 7, 3) := by decide +kernel
theorem dX5_over_16 : decode cX5_over 16 = .ok (.iconst 1, 1) := by decide +kernel
theorem dX5_over_17 : decode cX5_over 17 = .ok (.goto 4, 3) := by decide +kernel
theorem dX5_over_20 : decode cX5_over 20 = .ok (.iconst 0, 1) := by decide +kernel
theorem dX5_over_21 : decode cX5_over 21 = .ok (.iconst 0, 1) := by decide +kernel
theorem dX5_over_22 : decode cX5_over 22 = .ok (.invokevirtual 97, 3) := by decide +kernel
theorem dX5_over_25 : decode cX5_over 25 = .ok (.ifCond .eq 5, 3) := by decide +kernel
theorem dX5_over_28 : decode cX5_over 28 = .ok (.iconst 0, 1) := by decide +kernel
theorem dX5_over_29 : decode cX5_over 29 = .ok (.ireturn, 1) := by decide +kernel
theorem dX5_over_30 : decode cX5_over 30 = .ok (.aload_n 0, 1) := by decide +kernel
theorem dX5_over_31 : decode cX5_over 31 = .ok (.getfield 11, 3) := by decide +kernel
theorem dX5_over_34 : decode cX5_over 34 = .ok (.iload_n 3, 1) := by decide +kernel
theorem dX5_over_35 : decode cX5_over 35 = .ok (.aaload, 1) := by decide +kernel
theorem dX5_over_36 : decode cX5_over 36 = .ok (.invokestatic 123, 3) := by decide +kernel
theorem dX5_over_39 : decode cX5_over 39 = .ok (.astore 4, 2) := by decide +kernel
theorem dX5_over_41 : decode cX5_over 41 = .ok (.aload_n 0, 1) := by decide +kernel
theorem dX5_over_42 : decode cX5_over 42 = .ok (.iload_n 1, 1) := by decide +kernel
theorem dX5_over_43 : decode cX5_over 43 = .ok (.aload 4, 2) := by decide +kernel
theorem dX5_over_45 : decode cX5_over 45 = .ok (.ifnonnull 7, 3) := by decide +kernel
theorem dX5_over_48 : decode cX5_over 48 = .ok (.aconst_null, 1) := by decide +kernel
theorem dX5_over_49 : decode cX5_over 49 = .ok (.goto 14, 3) := by decide +kernel
theorem dX5_over_52 : decode cX5_over 52 = .ok (.aload_n 0, 1) := by decide +kernel
theorem dX5_over_53 : decode cX5_over 53 = .ok (.getfield 11, 3) := by decide +kernel
theorem dX5_over_56 : decode cX5_over 56 = .ok (.iload_n 2, 1) := by decide +kernel
theorem dX5_over_57 : decode cX5_over 57 = .ok (.aaload, 1) := by decide +kernel
theorem dX5_over_58 : decode cX5_over 58 = .ok (.aload 4, 2) := by decide +kernel
theorem dX5_over_60 : decode cX5_over 60 = .ok (.invokestatic 119, 3) := by decide +kernel
theorem dX5_over_63 : decode cX5_over 63 = .ok (.invokevirtual 101, 3) := by decide +kernel
theorem dX5_over_66 : decode cX5_over 66 = .ok (.ireturn, 1) := by decide +kernel
theorem dX5_negate_0 : decode cX5_negate 0 = .ok (.aload_n 0, 1) := by decide +kernel
theorem dX5_negate_1 : decode cX5_negate 1 = .ok (.iload_n 1, 1) := by decide +kernel
theorem dX5_negate_2 : decode cX5_negate 2 = .ok (.invokestatic 40, 3) := by decide +kernel
theorem dX5_negate_5 : decode cX5_negate 5 = .ok (.iconst 0, 1) := by decide +kernel
theorem dX5_negate_6 : decode cX5_negate 6 = .ok (.invokevirtual 97, 3) := by decide +kernel
theorem dX5_negate_9 : decode cX5_negate 9 = .ok (.ifCond .eq 7, 3) := by decide +kernel
theorem dX5_negate_12 : decode cX5_negate 12 = .ok (.iconst 0, 1) := by decide +kernel
theorem dX5_negate_13 : decode cX5_negate 13 = .ok (.goto 28, 3) := by decide +kernel
theorem dX5_negate_16 : decode cX5_negate 16 = .ok (.aload_n 0, 1) := by decide +kernel
theorem dX5_negate_17 : decode cX5_negate 17 = .ok (.iload_n 1, 1) := by decide +kernel
theorem dX5_negate_18 : decode cX5_negate 18 = .ok (.aload_n 0, 1) := by decide +kernel
theorem dX5_negate_19 : decode cX5_negate 19 = .ok (.getfield 11, 3) := by decide +kernel
theorem dX5_negate_22 : decode cX5_negate 22 = .ok (.iload_n 1, 1) := by decide +kernel
theorem dX5_negate_23 : decode cX5_negate 23 = .ok (.aaload, 1) := by decide +kernel
theorem dX5_negate_24 : decode cX5_negate 24 = .ok (.iconst 0, 1) := by decide +kernel
theorem dX5_negate_25 : decode cX5_negate 25 = .ok (.laload, 1) := by decide +kernel
theorem dX5_negate_26 : decode cX5_negate 26 = .ok (.lneg, 1) := by decide +kernel
theorem dX5_negate_27 : decode cX5_negate 27 = .ok (.aload_n 0, 1) := by decide +kernel
theorem dX5_negate_28 : decode cX5_negate 28 = .ok (.getfield 11, 3) := by decide +kernel
theorem dX5_negate_31 : decode cX5_negate 31 = .ok (.iload_n 1, 1) := by decide +kernel
theorem dX5_negate_32 : decode cX5_negate 32 = .ok (.aaload, 1) := by decide +kernel
theorem dX5_negate_33 : decode cX5_negate 33 = .ok (.iconst 1, 1) := by decide +kernel
theorem dX5_negate_34 : decode cX5_negate 34 = .ok (.laload, 1) := by decide +kernel
theorem dX5_negate_35 : decode cX5_negate 35 = .ok (.invokestatic 28, 3) := by decide +kernel
theorem dX5_negate_38 : decode cX5_negate 38 = .ok (.invokevirtual 101, 3) := by decide +kernel
theorem dX5_negate_41 : decode cX5_negate 41 = .ok (.ireturn, 1) := by decide +kernel
theorem dX5_invert_0 : decode cX5_invert 0 = .ok (.aload_n 0, 1) := by decide +kernel
theorem dX5_invert_1 : decode cX5_invert 1 = .ok (.iload_n 1, 1) := by decide +kernel
theorem dX5_invert_2 : decode cX5_invert 2 = .ok (.invokestatic 40, 3) := by decide +kernel
theorem dX5_invert_5 : decode cX5_invert 5 = .ok (.iconst 0, 1) := by decide +kernel
theorem dX5_invert_6 : decode cX5_invert 6 = .ok (.invokevirtual 97, 3) := by decide +kernel
theorem dX5_invert_9 : decode cX5_invert 9 = .ok (.ifCond .eq 7, 3) := by decide +kernel
theorem dX5_invert_12 : decode cX5_invert 12 = .ok (.iconst 0, 1) := by decide +kernel
theorem dX5_invert_13 : decode cX5_invert 13 = .ok (.goto 17, 3) := by decide +kernel
theorem dX5_invert_16 : decode cX5_invert 16 = .ok (.aload_n 0, 1) := by decide +kernel
theorem dX5_invert_17 : decode cX5_invert 17 = .ok (.iload_n 1, 1) := by decide +kernel
theorem dX5_invert_18 : decode cX5_invert 18 = .ok (.aload_n 0, 1) := by decide +kernel
theorem dX5_invert_19 : decode cX5_invert 19 = .ok (.getfield 11, 3) := by decide +kernel
theorem dX5_invert_22 : decode cX5_invert 22 = .ok (.iload_n 1, 1) := by decide +kernel
theorem dX5_invert_23 : decode cX5_invert 23 = .ok (.aaload, 1) := by decide +kernel
theorem dX5_invert_24 : decode cX5_invert 24 = .ok (.invokestatic 123, 3) := by decide +kernel
theorem dX5_invert_27 : decode cX5_invert 27 = .ok (.invokevirtual 101, 3) := by decide +kernel
theorem dX5_invert_30 : decode cX5_invert 30 = .ok (.ireturn, 1) := by decide +kernel
theorem dX5_raised_0 : decode cX5_raised 0 = .ok (.iconst 2, 1) := by decide +kernel
theorem dX5_raised_1 : decode cX5_raised 1 = .ok (.newarray .long, 2) := by decide +kernel
theorem dX5_raised_3 : decode cX5_raised 3 = .ok (.dup, 1) := by decide +kernel
theorem dX5_raised_4 : decode cX5_raised 4 = .ok (.iconst 0, 1) := by decide +kernel
theorem dX5_raised_5 : decode cX5_raised 5 = .ok (.lconst 1, 1) := by decide +kernel
theorem dX5_raised_6 : decode cX5_raised 6 = .ok (.lastore, 1) := by decide +kernel
theorem dX5_raised_7 : decode cX5_raised 7 = .ok (.dup, 1) := by decide +kernel
theorem dX5_raised_8 : decode cX5_raised 8 = .ok (.iconst 1, 1) := by decide +kernel
theorem dX5_raised_9 : decode cX5_raised 9 = .ok (.lconst 1, 1) := by decide +kernel
theorem dX5_raised_10 : decode cX5_raised 10 = .ok (.lastore, 1) := by decide +kernel
theorem dX5_raised_11 : decode cX5_raised 11 = .ok (.astore_n 2, 1) := by decide +kernel
theorem dX5_raised_12 : decode cX5_raised 12 = .ok (.iconst 0, 1) := by decide +kernel
theorem dX5_raised_13 : decode cX5_raised 13 = .ok (.istore_n 3, 1) := by decide +kernel
theorem dX5_raised_14 : decode cX5_raised 14 = .ok (.iload_n 3, 1) := by decide +kernel
theorem dX5_raised_15 : decode cX5_raised 15 = .ok (.iload_n 1, 1) := by decide +kernel
theorem dX5_raised_16 : decode cX5_raised 16 = .ok (.invokestatic 127, 3) := by decide +kernel
theorem dX5_raised_19 : decode cX5_raised 19 = .ok (.if_icmp .ge 22, 3) := by decide +kernel
theorem dX5_raised_22 : decode cX5_raised 22 = .ok (.aload_n 2, 1) := by decide +kernel
theorem dX5_raised_23 : decode cX5_raised 23 = .ok (.invokestatic 85, 3) := by decide +kernel
theorem dX5_raised_26 : decode cX5_raised 26 = .ok (.ifCond .eq 15, 3) := by decide +kernel
theorem dX5_raised_29 : decode cX5_raised 29 = .ok (.aload_n 2, 1) := by decide +kernel
theorem dX5_raised_30 : decode cX5_raised 30 = .ok (.aload_n 0, 1) := by decide +kernel
theorem dX5_raised_31 : decode cX5_raised 31 = .ok (.invokestatic 119, 3) := by decide +kernel
theorem dX5_raised_34 : decode cX5_raised 34 = .ok (.astore_n 2, 1) := by decide +kernel
theorem dX5_raised_35 : decode cX5_raised 35 = .ok (.iinc 3 1, 3) := by decide +kernel
theorem dX5_raised_38 : decode cX5_raised 38 = .ok (.goto (-24), 3) := by decide +kernel
theorem dX5_raised_41 : decode cX5_raised 41 = .ok (.aload_n 2, 1) := by decide +kernel
theorem dX5_raised_42 : decode cX5_raised 42 = .ok (.invokestatic 85, 3) := by decide +kernel
theorem dX5_raised_45 : decode cX5_raised 45 = .ok (.ifCond .ne 7, 3) := by decide +kernel
theorem dX5_raised_48 : decode cX5_raised 48 = .ok (.aconst_null, 1) := by decide +kernel
theorem dX5_raised_49 : decode cX5_raised 49 = .ok (.goto 15, 3) := by decide +kernel
theorem dX5_raised_52 : decode cX5_raised 52 = .ok (.iload_n 1, 1) := by decide +kernel
theorem dX5_raised_53 : decode cX5_raised 53 = .ok (.ifCond .ge 10, 3) := by decide +kernel
theorem dX5_raised_56 : decode cX5_raised 56 = .ok (.aload_n 2, 1) := by decide +kernel
theorem dX5_raised_57 : decode cX5_raised 57 = .ok (.invokestatic 123, 3) := by decide +kernel
theorem dX5_raised_60 : decode cX5_raised 60 = .ok (.goto 4, 3) := by decide +kernel
theorem dX5_raised_63 : decode cX5_raised 63 = .ok (.aload_n 2, 1) := by decide +kernel
theorem dX5_raised_64 : decode cX5_raised 64 = .ok (.areturn, 1) := by decide +kernel
theorem dX5_raise_0 : decode cX5_raise 0 = .ok (.aload_n 0, 1) := by decide +kernel
theorem dX5_raise_1 : decode cX5_raise 1 = .ok (.iload_n 1, 1) := by decide +kernel
theorem dX5_raise_2 : decode cX5_raise 2 = .ok (.invokestatic 40, 3) := by decide +kernel
theorem dX5_raise_5 : decode cX5_raise 5 = .ok (.iload_n 2, 1) := by decide +kernel
theorem dX5_raise_6 : decode cX5_raise 6 = .ok (.bipush (-6), 2) := by decide +kernel
theorem dX5_raise_8 : decode cX5_raise 8 = .ok (.bipush 6, 2) := by decide +kernel
theorem dX5_raise_10 : decode cX5_raise 10 = .ok (.invokestatic 36, 3) := by decide +kernel
theorem dX5_raise_13 : decode cX5_raise 13 = .ok (.ifCond .ne 7, 3) := by decide +kernel
theorem dX5_raise_16 : decode cX5_raise 16 = .ok (.iconst 1, 1) := by decide +kernel
theorem dX5_raise_17 : decode cX5_raise 17 = .ok (.goto 4, 3) := by decide +kernel
theorem dX5_raise_20 : decode cX5_raise 20 = .ok (.iconst 0, 1) := by decide +kernel
theorem dX5_raise_21 : decode cX5_raise 21 = .ok (.invokevirtual 97, 3) := by decide +kernel
theorem dX5_raise_24 : decode cX5_raise 24 = .ok (.ifCond .eq 7, 3) := by decide +kernel
theorem dX5_raise_27 : decode cX5_raise 27 = .ok (.iconst 0, 1) := by decide +kernel
theorem dX5_raise_28 : decode cX5_raise 28 = .ok (.goto 18, 3) := by decide +kernel
theorem dX5_raise_31 : decode cX5_raise 31 = .ok (.aload_n 0, 1) := by decide +kernel
theorem dX5_raise_32 : decode cX5_raise 32 = .ok (.iload_n 1, 1) := by decide +kernel
theorem dX5_raise_33 : decode cX5_raise 33 = .ok (.aload_n 0, 1) := by decide +kernel
theorem dX5_raise_34 : decode cX5_raise 34 = .ok (.getfield 11, 3) := by decide +kernel
theorem dX5_raise_37 : decode cX5_raise 37 = .ok (.iload_n 1, 1) := by decide +kernel
theorem dX5_raise_38 : decode cX5_raise 38 = .ok (.aaload, 1) := by decide +kernel
theorem dX5_raise_39 : decode cX5_raise 39 = .ok (.iload_n 2, 1) := by decide +kernel
theorem dX5_raise_40 : decode cX5_raise 40 = .ok (.invokestatic 130, 3) := by decide +kernel
theorem dX5_raise_43 : decode cX5_raise 43 = .ok (.invokevirtual 101, 3) := by decide +kernel
theorem dX5_raise_46 : decode cX5_raise 46 = .ok (.ireturn, 1) := by decide +kernel
theorem dX5_between_0 : decode cX5_between 0 = .ok (.aload_n 0, 1) := by decide +kernel
theorem dX5_between_1 : decode cX5_between 1 = .ok (.iconst 0, 1) := by decide +kernel
theorem dX5_between_2 : decode cX5_between 2 = .ok (.laload, 1) := by decide +kernel
theorem dX5_between_3 : decode cX5_between 3 = .ok (.aload_n 1, 1) := by decide +kernel
theorem dX5_between_4 : decode cX5_between 4 = .ok (.iconst 0, 1) := by decide +kernel
theorem dX5_between_5 : decode cX5_between 5 = .ok (.laload, 1) := by decide +kernel
theorem dX5_between_6 : decode cX5_between 6 = .ok (.ladd, 1) := by decide +kernel
theorem dX5_between_7 : decode cX5_between 7 = .ok (.aload_n 0, 1) := by decide +kernel
theorem dX5_between_8 : decode cX5_between 8 = .ok (.iconst 1, 1) := by decide +kernel
theorem dX5_between_9 : decode cX5_between 9 = .ok (.laload, 1) := by decide +kernel
theorem dX5_between_10 : decode cX5_between 10 = .ok (.aload_n 1, 1) := by decide +kernel
theorem dX5_between_11 : decode cX5_between 11 = .ok (.iconst 1, 1) := by decide +kernel
theorem dX5_between_12 : decode cX5_between 12 = .ok (.laload, 1) := by decide +kernel
theorem dX5_between_13 : decode cX5_between 13 = .ok (.ladd, 1) := by decide +kernel
theorem dX5_between_14 : decode cX5_between 14 = .ok (.invokestatic 28, 3) := by decide +kernel
theorem dX5_between_17 : decode cX5_between 17 = .ok (.areturn, 1) := by decide +kernel
theorem dX5_mediant_0 : decode cX5_mediant 0 = .ok (.aload_n 0, 1) := by decide +kernel
theorem dX5_mediant_1 : decode cX5_mediant 1 = .ok (.iload_n 1, 1) := by decide +kernel
theorem dX5_mediant_2 : decode cX5_mediant 2 = .ok (.invokestatic 40, 3) := by decide +kernel
theorem dX5_mediant_5 : decode cX5_mediant 5 = .ok (.ifCond .ne 11, 3) := by decide +kernel
theorem dX5_mediant_8 : decode cX5_mediant 8 = .ok (.iload_n 2, 1) := by decide +kernel
theorem dX5_mediant_9 : decode cX5_mediant 9 = .ok (.iload_n 3, 1) := by decide +kernel
theorem dX5_mediant_10 : decode cX5_mediant 10 = .ok (.invokestatic 111, 3) := by decide +kernel
theorem dX5_mediant_13 : decode cX5_mediant 13 = .ok (.ifCond .eq 7, 3) := by decide +kernel
theorem dX5_mediant_16 : decode cX5_mediant 16 = .ok (.iconst 1, 1) := by decide +kernel
theorem dX5_mediant_17 : decode cX5_mediant 17 = .ok (.goto 4, 3) := by decide +kernel
theorem dX5_mediant_20 : decode cX5_mediant 20 = .ok (.iconst 0, 1) := by decide +kernel
theorem dX5_mediant_21 : decode cX5_mediant 21 = .ok (.iconst 0, 1) := by decide +kernel
theorem dX5_mediant_22 : decode cX5_mediant 22 = .ok (.invokevirtual 97, 3) := by decide +kernel
theorem dX5_mediant_25 : decode cX5_mediant 25 = .ok (.ifCond .eq 7, 3) := by decide +kernel
theorem dX5_mediant_28 : decode cX5_mediant 28 = .ok (.iconst 0, 1) := by decide +kernel
theorem dX5_mediant_29 : decode cX5_mediant 29 = .ok (.goto 23, 3) := by decide +kernel
theorem dX5_mediant_32 : decode cX5_mediant 32 = .ok (.aload_n 0, 1) := by decide +kernel
theorem dX5_mediant_33 : decode cX5_mediant 33 = .ok (.iload_n 1, 1) := by decide +kernel
theorem dX5_mediant_34 : decode cX5_mediant 34 = .ok (.aload_n 0, 1) := by decide +kernel
theorem dX5_mediant_35 : decode cX5_mediant 35 = .ok (.getfield 11, 3) := by decide +kernel
theorem dX5_mediant_38 : decode cX5_mediant 38 = .ok (.iload_n 2, 1) := by decide +kernel
theorem dX5_mediant_39 : decode cX5_mediant 39 = .ok (.aaload, 1) := by decide +kernel
theorem dX5_mediant_40 : decode cX5_mediant 40 = .ok (.aload_n 0, 1) := by decide +kernel
theorem dX5_mediant_41 : decode cX5_mediant 41 = .ok (.getfield 11, 3) := by decide +kernel
theorem dX5_mediant_44 : decode cX5_mediant 44 = .ok (.iload_n 3, 1) := by decide +kernel
theorem dX5_mediant_45 : decode cX5_mediant 45 = .ok (.aaload, 1) := by decide +kernel
theorem dX5_mediant_46 : decode cX5_mediant 46 = .ok (.invokestatic 134, 3) := by decide +kernel
theorem dX5_mediant_49 : decode cX5_mediant 49 = .ok (.invokevirtual 101, 3) := by decide +kernel
theorem dX5_mediant_52 : decode cX5_mediant 52 = .ok (.ireturn, 1) := by decide +kernel
theorem dX5_text__0 : decode cX5_text_ 0 = .ok (.aload_n 0, 1) := by decide +kernel
theorem dX5_text__1 : decode cX5_text_ 1 = .ok (.iload_n 1, 1) := by decide +kernel
theorem dX5_text__2 : decode cX5_text_ 2 = .ok (.invokestatic 40, 3) := by decide +kernel
theorem dX5_text__5 : decode cX5_text_ 5 = .ok (.iconst 0, 1) := by decide +kernel
theorem dX5_text__6 : decode cX5_text_ 6 = .ok (.invokevirtual 97, 3) := by decide +kernel
theorem dX5_text__9 : decode cX5_text_ 9 = .ok (.ifCond .eq 8, 3) := by decide +kernel
theorem dX5_text__12 : decode cX5_text_ 12 = .ok (.ldc 67, 2) := by decide +kernel
theorem dX5_text__14 : decode cX5_text_ 14 = .ok (.goto 12, 3) := by decide +kernel
theorem dX5_text__17 : decode cX5_text_ 17 = .ok (.aload_n 0, 1) := by decide +kernel
theorem dX5_text__18 : decode cX5_text_ 18 = .ok (.getfield 11, 3) := by decide +kernel
theorem dX5_text__21 : decode cX5_text_ 21 = .ok (.iload_n 1, 1) := by decide +kernel
theorem dX5_text__22 : decode cX5_text_ 22 = .ok (.aaload, 1) := by decide +kernel
theorem dX5_text__23 : decode cX5_text_ 23 = .ok (.invokestatic 137, 3) := by decide +kernel
theorem dX5_text__26 : decode cX5_text_ 26 = .ok (.areturn, 1) := by decide +kernel
theorem dX5_partNow_0 : decode cX5_partNow 0 = .ok (.aload_n 0, 1) := by decide +kernel
theorem dX5_partNow_1 : decode cX5_partNow 1 = .ok (.getfield 11, 3) := by decide +kernel
theorem dX5_partNow_4 : decode cX5_partNow 4 = .ok (.iload_n 1, 1) := by decide +kernel
theorem dX5_partNow_5 : decode cX5_partNow 5 = .ok (.aaload, 1) := by decide +kernel
theorem dX5_partNow_6 : decode cX5_partNow 6 = .ok (.astore_n 3, 1) := by decide +kernel
theorem dX5_partNow_7 : decode cX5_partNow 7 = .ok (.iconst 4, 1) := by decide +kernel
theorem dX5_partNow_8 : decode cX5_partNow 8 = .ok (.newarray .long, 2) := by decide +kernel
theorem dX5_partNow_10 : decode cX5_partNow 10 = .ok (.dup, 1) := by decide +kernel
theorem dX5_partNow_11 : decode cX5_partNow 11 = .ok (.iconst 0, 1) := by decide +kernel
theorem dX5_partNow_12 : decode cX5_partNow 12 = .ok (.aload_n 3, 1) := by decide +kernel
theorem dX5_partNow_13 : decode cX5_partNow 13 = .ok (.iconst 0, 1) := by decide +kernel
theorem dX5_partNow_14 : decode cX5_partNow 14 = .ok (.laload, 1) := by decide +kernel
theorem dX5_partNow_15 : decode cX5_partNow 15 = .ok (.lastore, 1) := by decide +kernel
theorem dX5_partNow_16 : decode cX5_partNow 16 = .ok (.dup, 1) := by decide +kernel
theorem dX5_partNow_17 : decode cX5_partNow 17 = .ok (.iconst 1, 1) := by decide +kernel
theorem dX5_partNow_18 : decode cX5_partNow 18 = .ok (.aload_n 3, 1) := by decide +kernel
theorem dX5_partNow_19 : decode cX5_partNow 19 = .ok (.iconst 1, 1) := by decide +kernel
theorem dX5_partNow_20 : decode cX5_partNow 20 = .ok (.laload, 1) := by decide +kernel
theorem dX5_partNow_21 : decode cX5_partNow 21 = .ok (.lastore, 1) := by decide +kernel
theorem dX5_partNow_22 : decode cX5_partNow 22 = .ok (.dup, 1) := by decide +kernel
theorem dX5_partNow_23 : decode cX5_partNow 23 = .ok (.iconst 2, 1) := by decide +kernel
theorem dX5_partNow_24 : decode cX5_partNow 24 = .ok (.aload_n 3, 1) := by decide +kernel
theorem dX5_partNow_25 : decode cX5_partNow 25 = .ok (.iconst 0, 1) := by decide +kernel
theorem dX5_partNow_26 : decode cX5_partNow 26 = .ok (.laload, 1) := by decide +kernel
theorem dX5_partNow_27 : decode cX5_partNow 27 = .ok (.lconst 0, 1) := by decide +kernel
theorem dX5_partNow_28 : decode cX5_partNow 28 = .ok (.invokestatic 141, 3) := by decide +kernel
theorem dX5_partNow_31 : decode cX5_partNow 31 = .ok (.i2l, 1) := by decide +kernel
theorem dX5_partNow_32 : decode cX5_partNow 32 = .ok (.lastore, 1) := by decide +kernel
theorem dX5_partNow_33 : decode cX5_partNow 33 = .ok (.dup, 1) := by decide +kernel
theorem dX5_partNow_34 : decode cX5_partNow 34 = .ok (.iconst 3, 1) := by decide +kernel
theorem dX5_partNow_35 : decode cX5_partNow 35 = .ok (.aload_n 3, 1) := by decide +kernel
theorem dX5_partNow_36 : decode cX5_partNow 36 = .ok (.iconst 0, 1) := by decide +kernel
theorem dX5_partNow_37 : decode cX5_partNow 37 = .ok (.laload, 1) := by decide +kernel
theorem dX5_partNow_38 : decode cX5_partNow 38 = .ok (.aload_n 3, 1) := by decide +kernel
theorem dX5_partNow_39 : decode cX5_partNow 39 = .ok (.iconst 1, 1) := by decide +kernel
theorem dX5_partNow_40 : decode cX5_partNow 40 = .ok (.laload, 1) := by decide +kernel
theorem dX5_partNow_41 : decode cX5_partNow 41 = .ok (.invokestatic 147, 3) := by decide +kernel
theorem dX5_partNow_44 : decode cX5_partNow 44 = .ok (.lastore, 1) := by decide +kernel
theorem dX5_partNow_45 : decode cX5_partNow 45 = .ok (.astore 4, 2) := by decide +kernel
theorem dX5_partNow_47 : decode cX5_partNow 47 = .ok (.aload 4, 2) := by decide +kernel
theorem dX5_partNow_49 : decode cX5_partNow 49 = .ok (.iload_n 2, 1) := by decide +kernel
theorem dX5_partNow_50 : decode cX5_partNow 50 = .ok (.laload, 1) := by decide +kernel
theorem dX5_partNow_51 : decode cX5_partNow 51 = .ok (.l2i, 1) := by decide +kernel
theorem dX5_partNow_52 : decode cX5_partNow 52 = .ok (.ireturn, 1) := by decide +kernel
theorem dX5_part_0 : decode cX5_part 0 = .ok (.aload_n 0, 1) := by decide +kernel
theorem dX5_part_1 : decode cX5_part 1 = .ok (.iload_n 1, 1) := by decide +kernel
theorem dX5_part_2 : decode cX5_part 2 = .ok (.invokestatic 40, 3) := by decide +kernel
theorem dX5_part_5 : decode cX5_part 5 = .ok (.iload_n 2, 1) := by decide +kernel
theorem dX5_part_6 : decode cX5_part 6 = .ok (.iconst 0, 1) := by decide +kernel
theorem dX5_part_7 : decode cX5_part 7 = .ok (.iconst 3, 1) := by decide +kernel
theorem dX5_part_8 : decode cX5_part 8 = .ok (.invokestatic 36, 3) := by decide +kernel
theorem dX5_part_11 : decode cX5_part 11 = .ok (.ifCond .ne 7, 3) := by decide +kernel
theorem dX5_part_14 : decode cX5_part 14 = .ok (.iconst 1, 1) := by decide +kernel
theorem dX5_part_15 : decode cX5_part 15 = .ok (.goto 4, 3) := by decide +kernel
theorem dX5_part_18 : decode cX5_part 18 = .ok (.iconst 0, 1) := by decide +kernel
theorem dX5_part_19 : decode cX5_part 19 = .ok (.invokevirtual 97, 3) := by decide +kernel
theorem dX5_part_22 : decode cX5_part 22 = .ok (.ifCond .eq 7, 3) := by decide +kernel
theorem dX5_part_25 : decode cX5_part 25 = .ok (.iconst 0, 1) := by decide +kernel
theorem dX5_part_26 : decode cX5_part 26 = .ok (.goto 9, 3) := by decide +kernel
theorem dX5_part_29 : decode cX5_part 29 = .ok (.aload_n 0, 1) := by decide +kernel
theorem dX5_part_30 : decode cX5_part 30 = .ok (.iload_n 1, 1) := by decide +kernel
theorem dX5_part_31 : decode cX5_part 31 = .ok (.iload_n 2, 1) := by decide +kernel
theorem dX5_part_32 : decode cX5_part 32 = .ok (.invokevirtual 150, 3) := by decide +kernel
theorem dX5_part_35 : decode cX5_part 35 = .ok (.ireturn, 1) := by decide +kernel
theorem dX5_compare_0 : decode cX5_compare 0 = .ok (.aload_n 0, 1) := by decide +kernel
theorem dX5_compare_1 : decode cX5_compare 1 = .ok (.iload_n 1, 1) := by decide +kernel
theorem dX5_compare_2 : decode cX5_compare 2 = .ok (.iload_n 2, 1) := by decide +kernel
theorem dX5_compare_3 : decode cX5_compare 3 = .ok (.invokestatic 111, 3) := by decide +kernel
theorem dX5_compare_6 : decode cX5_compare 6 = .ok (.iconst 0, 1) := by decide +kernel
theorem dX5_compare_7 : decode cX5_compare 7 = .ok (.invokevirtual 97, 3) := by decide +kernel
theorem dX5_compare_10 : decode cX5_compare 10 = .ok (.ifCond .eq 7, 3) := by decide +kernel
theorem dX5_compare_13 : decode cX5_compare 13 = .ok (.iconst 0, 1) := by decide +kernel
theorem dX5_compare_14 : decode cX5_compare 14 = .ok (.goto 18, 3) := by decide +kernel
theorem dX5_compare_17 : decode cX5_compare 17 = .ok (.aload_n 0, 1) := by decide +kernel
theorem dX5_compare_18 : decode cX5_compare 18 = .ok (.getfield 11, 3) := by decide +kernel
theorem dX5_compare_21 : decode cX5_compare 21 = .ok (.iload_n 1, 1) := by decide +kernel
theorem dX5_compare_22 : decode cX5_compare 22 = .ok (.aaload, 1) := by decide +kernel
theorem dX5_compare_23 : decode cX5_compare 23 = .ok (.aload_n 0, 1) := by decide +kernel
theorem dX5_compare_24 : decode cX5_compare 24 = .ok (.getfield 11, 3) := by decide +kernel
theorem dX5_compare_27 : decode cX5_compare 27 = .ok (.iload_n 2, 1) := by decide +kernel
theorem dX5_compare_28 : decode cX5_compare 28 = .ok (.aaload, 1) := by decide +kernel
theorem dX5_compare_29 : decode cX5_compare 29 = .ok (.invokestatic 93, 3) := by decide +kernel
theorem dX5_compare_32 : decode cX5_compare 32 = .ok (.ireturn, 1) := by decide +kernel
theorem dX5_areNextNow_0 : decode cX5_areNextNow 0 = .ok (.aload_n 0, 1) := by decide +kernel
theorem dX5_areNextNow_1 : decode cX5_areNextNow 1 = .ok (.getfield 11, 3) := by decide +kernel
theorem dX5_areNextNow_4 : decode cX5_areNextNow 4 = .ok (.iload_n 1, 1) := by decide +kernel
theorem dX5_areNextNow_5 : decode cX5_areNextNow 5 = .ok (.aaload, 1) := by decide +kernel
theorem dX5_areNextNow_6 : decode cX5_areNextNow 6 = .ok (.iconst 0, 1) := by decide +kernel
theorem dX5_areNextNow_7 : decode cX5_areNextNow 7 = .ok (.laload, 1) := by decide +kernel
theorem dX5_areNextNow_8 : decode cX5_areNextNow 8 = .ok (.aload_n 0, 1) := by decide +kernel
theorem dX5_areNextNow_9 : decode cX5_areNextNow 9 = .ok (.getfield 11, 3) := by decide +kernel
theorem dX5_areNextNow_12 : decode cX5_areNextNow 12 = .ok (.iload_n 2, 1) := by decide +kernel
theorem dX5_areNextNow_13 : decode cX5_areNextNow 13 = .ok (.aaload, 1) := by decide +kernel
theorem dX5_areNextNow_14 : decode cX5_areNextNow 14 = .ok (.iconst 1, 1) := by decide +kernel
theorem dX5_areNextNow_15 : decode cX5_areNextNow 15 = .ok (.laload, 1) := by decide +kernel
theorem dX5_areNextNow_16 : decode cX5_areNextNow 16 = .ok (.lmul, 1) := by decide +kernel
theorem dX5_areNextNow_17 : decode cX5_areNextNow 17 = .ok (.aload_n 0, 1) := by decide +kernel
theorem dX5_areNextNow_18 : decode cX5_areNextNow 18 = .ok (.getfield 11, 3) := by decide +kernel
theorem dX5_areNextNow_21 : decode cX5_areNextNow 21 = .ok (.iload_n 2, 1) := by decide +kernel
theorem dX5_areNextNow_22 : decode cX5_areNextNow 22 = .ok (.aaload, 1) := by decide +kernel
theorem dX5_areNextNow_23 : decode cX5_areNextNow 23 = .ok (.iconst 0, 1) := by decide +kernel
theorem dX5_areNextNow_24 : decode cX5_areNextNow 24 = .ok (.laload, 1) := by decide +kernel
theorem dX5_areNextNow_25 : decode cX5_areNextNow 25 = .ok (.aload_n 0, 1) := by decide +kernel
theorem dX5_areNextNow_26 : decode cX5_areNextNow 26 = .ok (.getfield 11, 3) := by decide +kernel
theorem dX5_areNextNow_29 : decode cX5_areNextNow 29 = .ok (.iload_n 1, 1) := by decide +kernel
theorem dX5_areNextNow_30 : decode cX5_areNextNow 30 = .ok (.aaload, 1) := by decide +kernel
theorem dX5_areNextNow_31 : decode cX5_areNextNow 31 = .ok (.iconst 1, 1) := by decide +kernel
theorem dX5_areNextNow_32 : decode cX5_areNextNow 32 = .ok (.laload, 1) := by decide +kernel
theorem dX5_areNextNow_33 : decode cX5_areNextNow 33 = .ok (.lmul, 1) := by decide +kernel
theorem dX5_areNextNow_34 : decode cX5_areNextNow 34 = .ok (.lsub, 1) := by decide +kernel
theorem dX5_areNextNow_35 : decode cX5_areNextNow 35 = .ok (.invokestatic 44, 3) := by decide +kernel
theorem dX5_areNextNow_38 : decode cX5_areNextNow 38 = .ok (.lconst 1, 1) := by decide +kernel
theorem dX5_areNextNow_39 : decode cX5_areNextNow 39 = .ok (.lcmp, 1) := by decide +kernel
theorem dX5_areNextNow_40 : decode cX5_areNextNow 40 = .ok (.ifCond .ne 7, 3) := by decide +kernel
theorem dX5_areNextNow_43 : decode cX5_areNextNow 43 = .ok (.iconst 1, 1) := by decide +kernel
theorem dX5_areNextNow_44 : decode cX5_areNextNow 44 = .ok (.goto 4, 3) := by decide +kernel
theorem dX5_areNextNow_47 : decode cX5_areNextNow 47 = .ok (.iconst 0, 1) := by decide +kernel
theorem dX5_areNextNow_48 : decode cX5_areNextNow 48 = .ok (.ireturn, 1) := by decide +kernel
theorem dX5_areNext_0 : decode cX5_areNext 0 = .ok (.aload_n 0, 1) := by decide +kernel
theorem dX5_areNext_1 : decode cX5_areNext 1 = .ok (.iload_n 1, 1) := by decide +kernel
theorem dX5_areNext_2 : decode cX5_areNext 2 = .ok (.iload_n 2, 1) := by decide +kernel
theorem dX5_areNext_3 : decode cX5_areNext 3 = .ok (.invokestatic 111, 3) := by decide +kernel
theorem dX5_areNext_6 : decode cX5_areNext 6 = .ok (.iconst 0, 1) := by decide +kernel
theorem dX5_areNext_7 : decode cX5_areNext 7 = .ok (.invokevirtual 97, 3) := by decide +kernel
theorem dX5_areNext_10 : decode cX5_areNext 10 = .ok (.ifCond .ne 16, 3) := by decide +kernel
theorem dX5_areNext_13 : decode cX5_areNext 13 = .ok (.aload_n 0, 1) := by decide +kernel
theorem dX5_areNext_14 : decode cX5_areNext 14 = .ok (.iload_n 1, 1) := by decide +kernel
theorem dX5_areNext_15 : decode cX5_areNext 15 = .ok (.iload_n 2, 1) := by decide +kernel
theorem dX5_areNext_16 : decode cX5_areNext 16 = .ok (.invokevirtual 154, 3) := by decide +kernel
theorem dX5_areNext_19 : decode cX5_areNext 19 = .ok (.ifCond .eq 7, 3) := by decide +kernel
theorem dX5_areNext_22 : decode cX5_areNext 22 = .ok (.iconst 1, 1) := by decide +kernel
theorem dX5_areNext_23 : decode cX5_areNext 23 = .ok (.goto 4, 3) := by decide +kernel
theorem dX5_areNext_26 : decode cX5_areNext 26 = .ok (.iconst 0, 1) := by decide +kernel
theorem dX5_areNext_27 : decode cX5_areNext 27 = .ok (.ireturn, 1) := by decide +kernel
theorem dX5_termsOf_0 : decode cX5_termsOf 0 = .ok (.new 15, 3) := by decide +kernel
theorem dX5_termsOf_3 : decode cX5_termsOf 3 = .ok (.dup, 1) := by decide +kernel
theorem dX5_termsOf_4 : decode cX5_termsOf 4 = .ok (.invokespecial 17, 3) := by decide +kernel
theorem dX5_termsOf_7 : decode cX5_termsOf 7 = .ok (.astore_n 1, 1) := by decide +kernel
theorem dX5_termsOf_8 : decode cX5_termsOf 8 = .ok (.aload_n 0, 1) := by decide +kernel
theorem dX5_termsOf_9 : decode cX5_termsOf 9 = .ok (.iconst 0, 1) := by decide +kernel
theorem dX5_termsOf_10 : decode cX5_termsOf 10 = .ok (.laload, 1) := by decide +kernel
theorem dX5_termsOf_11 : decode cX5_termsOf 11 = .ok (.lstore_n 2, 1) := by decide +kernel
theorem dX5_termsOf_12 : decode cX5_termsOf 12 = .ok (.aload_n 0, 1) := by decide +kernel
theorem dX5_termsOf_13 : decode cX5_termsOf 13 = .ok (.iconst 1, 1) := by decide +kernel
theorem dX5_termsOf_14 : decode cX5_termsOf 14 = .ok (.laload, 1) := by decide +kernel
theorem dX5_termsOf_15 : decode cX5_termsOf 15 = .ok (.lstore 4, 2) := by decide +kernel
theorem dX5_termsOf_17 : decode cX5_termsOf 17 = .ok (.lload 4, 2) := by decide +kernel
theorem dX5_termsOf_19 : decode cX5_termsOf 19 = .ok (.lconst 0, 1) := by decide +kernel
theorem dX5_termsOf_20 : decode cX5_termsOf 20 = .ok (.lcmp, 1) := by decide +kernel
theorem dX5_termsOf_21 : decode cX5_termsOf 21 = .ok (.ifCond .eq 40, 3) := by decide +kernel
theorem dX5_termsOf_24 : decode cX5_termsOf 24 = .ok (.lload_n 2, 1) := by decide +kernel
theorem dX5_termsOf_25 : decode cX5_termsOf 25 = .ok (.lload 4, 2) := by decide +kernel
theorem dX5_termsOf_27 : decode cX5_termsOf 27 = .ok (.invokestatic 147, 3) := by decide +kernel
theorem dX5_termsOf_30 : decode cX5_termsOf 30 = .ok (.lstore 6, 2) := by decide +kernel
theorem dX5_termsOf_32 : decode cX5_termsOf 32 = .ok (.aload_n 1, 1) := by decide +kernel
theorem dX5_termsOf_33 : decode cX5_termsOf 33 = .ok (.lload 6, 2) := by decide +kernel
theorem dX5_termsOf_35 : decode cX5_termsOf 35 = .ok (.invokestatic 157, 3) := by decide +kernel
theorem dX5_termsOf_38 : decode cX5_termsOf 38 = .ok (.invokevirtual 161, 3) := by decide +kernel
theorem dX5_termsOf_41 : decode cX5_termsOf 41 = .ok (.pop, 1) := by decide +kernel
theorem dX5_termsOf_42 : decode cX5_termsOf 42 = .ok (.lload_n 2, 1) := by decide +kernel
theorem dX5_termsOf_43 : decode cX5_termsOf 43 = .ok (.lload 6, 2) := by decide +kernel
theorem dX5_termsOf_45 : decode cX5_termsOf 45 = .ok (.lload 4, 2) := by decide +kernel
theorem dX5_termsOf_47 : decode cX5_termsOf 47 = .ok (.lmul, 1) := by decide +kernel
theorem dX5_termsOf_48 : decode cX5_termsOf 48 = .ok (.lsub, 1) := by decide +kernel
theorem dX5_termsOf_49 : decode cX5_termsOf 49 = .ok (.lstore 8, 2) := by decide +kernel
theorem dX5_termsOf_51 : decode cX5_termsOf 51 = .ok (.lload 4, 2) := by decide +kernel
theorem dX5_termsOf_53 : decode cX5_termsOf 53 = .ok (.lstore_n 2, 1) := by decide +kernel
theorem dX5_termsOf_54 : decode cX5_termsOf 54 = .ok (.lload 8, 2) := by decide +kernel
theorem dX5_termsOf_56 : decode cX5_termsOf 56 = .ok (.lstore 4, 2) := by decide +kernel
theorem dX5_termsOf_58 : decode cX5_termsOf 58 = .ok (.goto (-41), 3) := by decide +kernel
theorem dX5_termsOf_61 : decode cX5_termsOf 61 = .ok (.aload_n 1, 1) := by decide +kernel
theorem dX5_termsOf_62 : decode cX5_termsOf 62 = .ok (.areturn, 1) := by decide +kernel
theorem dX5_folded_0 : decode cX5_folded 0 = .ok (.aload_n 0, 1) := by decide +kernel
theorem dX5_folded_1 : decode cX5_folded 1 = .ok (.iload_n 1, 1) := by decide +kernel
theorem dX5_folded_2 : decode cX5_folded 2 = .ok (.iconst 1, 1) := by decide +kernel
theorem dX5_folded_3 : decode cX5_folded 3 = .ok (.isub, 1) := by decide +kernel
theorem dX5_folded_4 : decode cX5_folded 4 = .ok (.invokevirtual 165, 3) := by decide +kernel
theorem dX5_folded_7 : decode cX5_folded 7 = .ok (.checkcast 142, 3) := by decide +kernel
theorem dX5_folded_10 : decode cX5_folded 10 = .ok (.invokevirtual 169, 3) := by decide +kernel
theorem dX5_folded_13 : decode cX5_folded 13 = .ok (.lstore_n 2, 1) := by decide +kernel
theorem dX5_folded_14 : decode cX5_folded 14 = .ok (.lconst 1, 1) := by decide +kernel
theorem dX5_folded_15 : decode cX5_folded 15 = .ok (.lstore 4, 2) := by decide +kernel
theorem dX5_folded_17 : decode cX5_folded 17 = .ok (.iload_n 1, 1) := by decide +kernel
theorem dX5_folded_18 : decode cX5_folded 18 = .ok (.iconst 2, 1) := by decide +kernel
theorem dX5_folded_19 : decode cX5_folded 19 = .ok (.isub, 1) := by decide +kernel
theorem dX5_folded_20 : decode cX5_folded 20 = .ok (.istore 6, 2) := by decide +kernel
theorem dX5_folded_22 : decode cX5_folded 22 = .ok (.iload 6, 2) := by decide +kernel
theorem dX5_folded_24 : decode cX5_folded 24 = .ok (.ifCond .lt 44, 3) := by decide +kernel
theorem dX5_folded_27 : decode cX5_folded 27 = .ok (.lload_n 2, 1) := by decide +kernel
theorem dX5_folded_28 : decode cX5_folded 28 = .ok (.ldc2_w 173, 3) := by decide +kernel
theorem dX5_folded_31 : decode cX5_folded 31 = .ok (.lcmp, 1) := by decide +kernel
theorem dX5_folded_32 : decode cX5_folded 32 = .ok (.ifCond .le 5, 3) := by decide +kernel
theorem dX5_folded_35 : decode cX5_folded 35 = .ok (.aconst_null, 1) := by decide +kernel
theorem dX5_folded_36 : decode cX5_folded 36 = .ok (.areturn, 1) := by decide +kernel
theorem dX5_folded_37 : decode cX5_folded 37 = .ok (.aload_n 0, 1) := by decide +kernel
theorem dX5_folded_38 : decode cX5_folded 38 = .ok (.iload 6, 2) := by decide +kernel
theorem dX5_folded_40 : decode cX5_folded 40 = .ok (.invokevirtual 165, 3) := by decide +kernel
theorem dX5_folded_43 : decode cX5_folded 43 = .ok (.checkcast 142, 3) := by decide +kernel
theorem dX5_folded_46 : decode cX5_folded 46 = .ok (.invokevirtual 169, 3) := by decide +kernel
theorem dX5_folded_49 : decode cX5_folded 49 = .ok (.lload_n 2, 1) := by decide +kernel
theorem dX5_folded_50 : decode cX5_folded 50 = .ok (.lmul, 1) := by decide +kernel
theorem dX5_folded_51 : decode cX5_folded 51 = .ok (.lload 4, 2) := by decide +kernel
theorem dX5_folded_53 : decode cX5_folded 53 = .ok (.ladd, 1) := by decide +kernel
theorem dX5_folded_54 : decode cX5_folded 54 = .ok (.lstore 7, 2) := by decide +kernel
theorem dX5_folded_56 : decode cX5_folded 56 = .ok (.lload_n 2, 1) := by decide +kernel
theorem dX5_folded_57 : decode cX5_folded 57 = .ok (.lstore 4, 2) := by decide +kernel
theorem dX5_folded_59 : decode cX5_folded 59 = .ok (.lload 7, 2) := by decide +kernel
theorem dX5_folded_61 : decode cX5_folded 61 = .ok (.lstore_n 2, 1) := by decide +kernel
theorem dX5_folded_62 : decode cX5_folded 62 = .ok (.iinc 6 (-1), 3) := by decide +kernel
theorem dX5_folded_65 : decode cX5_folded 65 = .ok (.goto (-43), 3) := by decide +kernel
theorem dX5_folded_68 : decode cX5_folded 68 = .ok (.lload_n 2, 1) := by decide +kernel
theorem dX5_folded_69 : decode cX5_folded 69 = .ok (.lload 4, 2) := by decide +kernel
theorem dX5_folded_71 : decode cX5_folded 71 = .ok (.invokestatic 28, 3) := by decide +kernel
theorem dX5_folded_74 : decode cX5_folded 74 = .ok (.areturn, 1) := by decide +kernel
theorem dX5_told_0 : decode cX5_told 0 = .ok (.ldc 67, 2) := by decide +kernel
theorem dX5_told_2 : decode cX5_told 2 = .ok (.astore_n 1, 1) := by decide +kernel
theorem dX5_told_3 : decode cX5_told 3 = .ok (.aload_n 0, 1) := by decide +kernel
theorem dX5_told_4 : decode cX5_told 4 = .ok (.invokevirtual 175, 3) := by decide +kernel
theorem dX5_told_7 : decode cX5_told 7 = .ok (.astore_n 2, 1) := by decide +kernel
theorem dX5_told_8 : decode cX5_told 8 = .ok (.aload_n 2, 1) := by decide +kernel
theorem dX5_told_9 : decode cX5_told 9 = .ok (.invokeinterface 179 1, 5) := by decide +kernel
theorem dX5_told_14 : decode cX5_told 14 = .ok (.ifCond .eq 55, 3) := by decide +kernel
theorem dX5_told_17 : decode cX5_told 17 = .ok (.aload_n 2, 1) := by decide +kernel
theorem dX5_told_18 : decode cX5_told 18 = .ok (.invokeinterface 185 1, 5) := by decide +kernel
theorem dX5_told_23 : decode cX5_told 23 = .ok (.checkcast 142, 3) := by decide +kernel
theorem dX5_told_26 : decode cX5_told 26 = .ok (.invokevirtual 169, 3) := by decide +kernel
theorem dX5_told_29 : decode cX5_told 29 = .ok (.lstore_n 3, 1) := by decide +kernel
theorem dX5_told_30 : decode cX5_told 30 = .ok (.new 64, 3) := by decide +kernel
theorem dX5_told_33 : decode cX5_told 33 = .ok (.dup, 1) := by decide +kernel
theorem dX5_told_34 : decode cX5_told 34 = .ok (.invokespecial 66, 3) := by decide +kernel
theorem dX5_told_37 : decode cX5_told 37 = .ok (.aload_n 1, 1) := by decide +kernel
theorem dX5_told_38 : decode cX5_told 38 = .ok (.invokevirtual 69, 3) := by decide +kernel
theorem dX5_told_41 : decode cX5_told 41 = .ok (.aload_n 1, 1) := by decide +kernel
theorem dX5_told_42 : decode cX5_told 42 = .ok (.invokevirtual 189, 3) := by decide +kernel
theorem dX5_told_45 : decode cX5_told 45 = .ok (.ifCond .eq 8, 3) := by decide +kernel
theorem dX5_told_48 : decode cX5_told 48 = .ok (.ldc 67, 2) := by decide +kernel
theorem dX5_told_50 : decode cX5_told 50 = .ok (.goto 5, 3) := by decide +kernel
theorem dX5_told_53 : decode cX5_told 53 = .ok (.ldc 194, 2) := by decide +kernel
theorem dX5_told_55 : decode cX5_told 55 = .ok (.invokevirtual 69, 3) := by decide +kernel
theorem dX5_told_58 : decode cX5_told 58 = .ok (.lload_n 3, 1) := by decide +kernel
theorem dX5_told_59 : decode cX5_told 59 = .ok (.invokevirtual 73, 3) := by decide +kernel
theorem dX5_told_62 : decode cX5_told 62 = .ok (.invokevirtual 76, 3) := by decide +kernel
theorem dX5_told_65 : decode cX5_told 65 = .ok (.astore_n 1, 1) := by decide +kernel
theorem dX5_told_66 : decode cX5_told 66 = .ok (.goto (-58), 3) := by decide +kernel
theorem dX5_told_69 : decode cX5_told 69 = .ok (.aload_n 1, 1) := by decide +kernel
theorem dX5_told_70 : decode cX5_told 70 = .ok (.areturn, 1) := by decide +kernel
theorem dX5_terms_0 : decode cX5_terms 0 = .ok (.aload_n 0, 1) := by decide +kernel
theorem dX5_terms_1 : decode cX5_terms 1 = .ok (.iload_n 1, 1) := by decide +kernel
theorem dX5_terms_2 : decode cX5_terms 2 = .ok (.invokestatic 40, 3) := by decide +kernel
theorem dX5_terms_5 : decode cX5_terms 5 = .ok (.iconst 0, 1) := by decide +kernel
theorem dX5_terms_6 : decode cX5_terms 6 = .ok (.invokevirtual 97, 3) := by decide +kernel
theorem dX5_terms_9 : decode cX5_terms 9 = .ok (.ifCond .eq 8, 3) := by decide +kernel
theorem dX5_terms_12 : decode cX5_terms 12 = .ok (.ldc 67, 2) := by decide +kernel
theorem dX5_terms_14 : decode cX5_terms 14 = .ok (.goto 15, 3) := by decide +kernel
theorem dX5_terms_17 : decode cX5_terms 17 = .ok (.aload_n 0, 1) := by decide +kernel
theorem dX5_terms_18 : decode cX5_terms 18 = .ok (.getfield 11, 3) := by decide +kernel
theorem dX5_terms_21 : decode cX5_terms 21 = .ok (.iload_n 1, 1) := by decide +kernel
theorem dX5_terms_22 : decode cX5_terms 22 = .ok (.aaload, 1) := by decide +kernel
theorem dX5_terms_23 : decode cX5_terms 23 = .ok (.invokestatic 196, 3) := by decide +kernel
theorem dX5_terms_26 : decode cX5_terms 26 = .ok (.invokestatic 200, 3) := by decide +kernel
theorem dX5_terms_29 : decode cX5_terms 29 = .ok (.areturn, 1) := by decide +kernel
theorem dX5_term_0 : decode cX5_term 0 = .ok (.aload_n 0, 1) := by decide +kernel
theorem dX5_term_1 : decode cX5_term 1 = .ok (.iload_n 1, 1) := by decide +kernel
theorem dX5_term_2 : decode cX5_term 2 = .ok (.invokestatic 40, 3) := by decide +kernel
theorem dX5_term_5 : decode cX5_term 5 = .ok (.iload_n 2, 1) := by decide +kernel
theorem dX5_term_6 : decode cX5_term 6 = .ok (.ifCond .ge 7, 3) := by decide +kernel
theorem dX5_term_9 : decode cX5_term 9 = .ok (.iconst 1, 1) := by decide +kernel
theorem dX5_term_10 : decode cX5_term 10 = .ok (.goto 4, 3) := by decide +kernel
theorem dX5_term_13 : decode cX5_term 13 = .ok (.iconst 0, 1) := by decide +kernel
theorem dX5_term_14 : decode cX5_term 14 = .ok (.invokevirtual 97, 3) := by decide +kernel
theorem dX5_term_17 : decode cX5_term 17 = .ok (.ifCond .eq 5, 3) := by decide +kernel
theorem dX5_term_20 : decode cX5_term 20 = .ok (.iconst 0, 1) := by decide +kernel
theorem dX5_term_21 : decode cX5_term 21 = .ok (.ireturn, 1) := by decide +kernel
theorem dX5_term_22 : decode cX5_term 22 = .ok (.aload_n 0, 1) := by decide +kernel
theorem dX5_term_23 : decode cX5_term 23 = .ok (.getfield 11, 3) := by decide +kernel
theorem dX5_term_26 : decode cX5_term 26 = .ok (.iload_n 1, 1) := by decide +kernel
theorem dX5_term_27 : decode cX5_term 27 = .ok (.aaload, 1) := by decide +kernel
theorem dX5_term_28 : decode cX5_term 28 = .ok (.invokestatic 196, 3) := by decide +kernel
theorem dX5_term_31 : decode cX5_term 31 = .ok (.astore_n 3, 1) := by decide +kernel
theorem dX5_term_32 : decode cX5_term 32 = .ok (.iload_n 2, 1) := by decide +kernel
theorem dX5_term_33 : decode cX5_term 33 = .ok (.aload_n 3, 1) := by decide +kernel
theorem dX5_term_34 : decode cX5_term 34 = .ok (.invokevirtual 204, 3) := by decide +kernel
theorem dX5_term_37 : decode cX5_term 37 = .ok (.if_icmp .ge 18, 3) := by decide +kernel
theorem dX5_term_40 : decode cX5_term 40 = .ok (.aload_n 3, 1) := by decide +kernel
theorem dX5_term_41 : decode cX5_term 41 = .ok (.iload_n 2, 1) := by decide +kernel
theorem dX5_term_42 : decode cX5_term 42 = .ok (.invokevirtual 165, 3) := by decide +kernel
theorem dX5_term_45 : decode cX5_term 45 = .ok (.checkcast 142, 3) := by decide +kernel
theorem dX5_term_48 : decode cX5_term 48 = .ok (.invokevirtual 169, 3) := by decide +kernel
theorem dX5_term_51 : decode cX5_term 51 = .ok (.l2i, 1) := by decide +kernel
theorem dX5_term_52 : decode cX5_term 52 = .ok (.goto 5, 3) := by decide +kernel
theorem dX5_term_55 : decode cX5_term 55 = .ok (.bipush (-9), 2) := by decide +kernel
theorem dX5_term_57 : decode cX5_term 57 = .ok (.ireturn, 1) := by decide +kernel
theorem dX5_convergent_0 : decode cX5_convergent 0 = .ok (.aload_n 0, 1) := by decide +kernel
theorem dX5_convergent_1 : decode cX5_convergent 1 = .ok (.iload_n 1, 1) := by decide +kernel
theorem dX5_convergent_2 : decode cX5_convergent 2 = .ok (.iload_n 2, 1) := by decide +kernel
theorem dX5_convergent_3 : decode cX5_convergent 3 = .ok (.invokestatic 111, 3) := by decide +kernel
theorem dX5_convergent_6 : decode cX5_convergent 6 = .ok (.iload_n 3, 1) := by decide +kernel
theorem dX5_convergent_7 : decode cX5_convergent 7 = .ok (.ifCond .ge 7, 3) := by decide +kernel
theorem dX5_convergent_10 : decode cX5_convergent 10 = .ok (.iconst 1, 1) := by decide +kernel
theorem dX5_convergent_11 : decode cX5_convergent 11 = .ok (.goto 4, 3) := by decide +kernel
theorem dX5_convergent_14 : decode cX5_convergent 14 = .ok (.iconst 0, 1) := by decide +kernel
theorem dX5_convergent_15 : decode cX5_convergent 15 = .ok (.invokevirtual 97, 3) := by decide +kernel
theorem dX5_convergent_18 : decode cX5_convergent 18 = .ok (.ifCond .eq 5, 3) := by decide +kernel
theorem dX5_convergent_21 : decode cX5_convergent 21 = .ok (.iconst 0, 1) := by decide +kernel
theorem dX5_convergent_22 : decode cX5_convergent 22 = .ok (.ireturn, 1) := by decide +kernel
theorem dX5_convergent_23 : decode cX5_convergent 23 = .ok (.aload_n 0, 1) := by decide +kernel
theorem dX5_convergent_24 : decode cX5_convergent 24 = .ok (.getfield 11, 3) := by decide +kernel
theorem dX5_convergent_27 : decode cX5_convergent 27 = .ok (.iload_n 2, 1) := by decide +kernel
theorem dX5_convergent_28 : decode cX5_convergent 28 = .ok (.aaload, 1) := by decide +kernel
theorem dX5_convergent_29 : decode cX5_convergent 29 = .ok (.invokestatic 196, 3) := by decide +kernel
theorem dX5_convergent_32 : decode cX5_convergent 32 = .ok (.astore 4, 2) := by decide +kernel
theorem dX5_convergent_34 : decode cX5_convergent 34 = .ok (.aload_n 0, 1) := by decide +kernel
theorem dX5_convergent_35 : decode cX5_convergent 35 = .ok (.iload_n 1, 1) := by decide +kernel
theorem dX5_convergent_36 : decode cX5_convergent 36 = .ok (.iload_n 3, 1) := by decide +kernel
theorem dX5_convergent_37 : decode cX5_convergent 37 = .ok (.aload 4, 2) := by decide +kernel
theorem dX5_convergent_39 : decode cX5_convergent 39 = .ok (.invokevirtual 204, 3) := by decide +kernel
theorem dX5_convergent_42 : decode cX5_convergent 42 = .ok (.if_icmp .ge 14, 3) := by decide +kernel
theorem dX5_convergent_45 : decode cX5_convergent 45 = .ok (.aload 4, 2) := by decide +kernel
theorem dX5_convergent_47 : decode cX5_convergent 47 = .ok (.iload_n 3, 1) := by decide +kernel
theorem dX5_convergent_48 : decode cX5_convergent 48 = .ok (.iconst 1, 1) := by decide +kernel
theorem dX5_convergent_49 : decode cX5_convergent 49 = .ok (.iadd, 1) := by decide +kernel
theorem dX5_convergent_50 : decode cX5_convergent 50 = .ok (.invokestatic 207, 3) := by decide +kernel
theorem dX5_convergent_53 : decode cX5_convergent 53 = .ok (.goto 4, 3) := by decide +kernel
theorem dX5_convergent_56 : decode cX5_convergent 56 = .ok (.aconst_null, 1) := by decide +kernel
theorem dX5_convergent_57 : decode cX5_convergent 57 = .ok (.invokevirtual 101, 3) := by decide +kernel
theorem dX5_convergent_60 : decode cX5_convergent 60 = .ok (.ireturn, 1) := by decide +kernel
theorem dX5_say_0 : decode cX5_say 0 = .ok (.aload_n 0, 1) := by decide +kernel
theorem dX5_say_1 : decode cX5_say 1 = .ok (.iload_n 1, 1) := by decide +kernel
theorem dX5_say_2 : decode cX5_say 2 = .ok (.ldc 211, 2) := by decide +kernel
theorem dX5_say_4 : decode cX5_say 4 = .ok (.ldc 212, 2) := by decide +kernel
theorem dX5_say_6 : decode cX5_say 6 = .ok (.invokestatic 36, 3) := by decide +kernel
theorem dX5_say_9 : decode cX5_say 9 = .ok (.ifCond .ne 7, 3) := by decide +kernel
theorem dX5_say_12 : decode cX5_say 12 = .ok (.iconst 1, 1) := by decide +kernel
theorem dX5_say_13 : decode cX5_say 13 = .ok (.goto 4, 3) := by decide +kernel
theorem dX5_say_16 : decode cX5_say 16 = .ok (.iconst 0, 1) := by decide +kernel
theorem dX5_say_17 : decode cX5_say 17 = .ok (.aload_n 0, 1) := by decide +kernel
theorem dX5_say_18 : decode cX5_say 18 = .ok (.getfield 18, 3) := by decide +kernel
theorem dX5_say_21 : decode cX5_say 21 = .ok (.invokevirtual 204, 3) := by decide +kernel
theorem dX5_say_24 : decode cX5_say 24 = .ok (.bipush 16, 2) := by decide +kernel
theorem dX5_say_26 : decode cX5_say 26 = .ok (.if_icmp .ne 7, 3) := by decide +kernel
theorem dX5_say_29 : decode cX5_say 29 = .ok (.iconst 1, 1) := by decide +kernel
theorem dX5_say_30 : decode cX5_say 30 = .ok (.goto 4, 3) := by decide +kernel
theorem dX5_say_33 : decode cX5_say 33 = .ok (.iconst 0, 1) := by decide +kernel
theorem dX5_say_34 : decode cX5_say 34 = .ok (.invokevirtual 97, 3) := by decide +kernel
theorem dX5_say_37 : decode cX5_say 37 = .ok (.ifCond .eq 5, 3) := by decide +kernel
theorem dX5_say_40 : decode cX5_say 40 = .ok (.iconst 0, 1) := by decide +kernel
theorem dX5_say_41 : decode cX5_say 41 = .ok (.ireturn, 1) := by decide +kernel
theorem dX5_say_42 : decode cX5_say 42 = .ok (.aload_n 0, 1) := by decide +kernel
theorem dX5_say_43 : decode cX5_say 43 = .ok (.getfield 18, 3) := by decide +kernel
theorem dX5_say_46 : decode cX5_say 46 = .ok (.iload_n 1, 1) := by decide +kernel
theorem dX5_say_47 : decode cX5_say 47 = .ok (.invokestatic 213, 3) := by decide +kernel
theorem dX5_say_50 : decode cX5_say 50 = .ok (.invokevirtual 161, 3) := by decide +kernel
theorem dX5_say_53 : decode cX5_say 53 = .ok (.pop, 1) := by decide +kernel
theorem dX5_say_54 : decode cX5_say 54 = .ok (.aload_n 0, 1) := by decide +kernel
theorem dX5_say_55 : decode cX5_say 55 = .ok (.getfield 18, 3) := by decide +kernel
theorem dX5_say_58 : decode cX5_say 58 = .ok (.invokevirtual 204, 3) := by decide +kernel
theorem dX5_say_61 : decode cX5_say 61 = .ok (.ireturn, 1) := by decide +kernel
theorem dX5_unsay_0 : decode cX5_unsay 0 = .ok (.aload_n 0, 1) := by decide +kernel
theorem dX5_unsay_1 : decode cX5_unsay 1 = .ok (.iload_n 1, 1) := by decide +kernel
theorem dX5_unsay_2 : decode cX5_unsay 2 = .ok (.iconst 0, 1) := by decide +kernel
theorem dX5_unsay_3 : decode cX5_unsay 3 = .ok (.bipush 16, 2) := by decide +kernel
theorem dX5_unsay_5 : decode cX5_unsay 5 = .ok (.invokestatic 36, 3) := by decide +kernel
theorem dX5_unsay_8 : decode cX5_unsay 8 = .ok (.ifCond .ne 7, 3) := by decide +kernel
theorem dX5_unsay_11 : decode cX5_unsay 11 = .ok (.iconst 1, 1) := by decide +kernel
theorem dX5_unsay_12 : decode cX5_unsay 12 = .ok (.goto 4, 3) := by decide +kernel
theorem dX5_unsay_15 : decode cX5_unsay 15 = .ok (.iconst 0, 1) := by decide +kernel
theorem dX5_unsay_16 : decode cX5_unsay 16 = .ok (.iconst 0, 1) := by decide +kernel
theorem dX5_unsay_17 : decode cX5_unsay 17 = .ok (.invokevirtual 97, 3) := by decide +kernel
theorem dX5_unsay_20 : decode cX5_unsay 20 = .ok (.ifCond .eq 5, 3) := by decide +kernel
theorem dX5_unsay_23 : decode cX5_unsay 23 = .ok (.iconst 0, 1) := by decide +kernel
theorem dX5_unsay_24 : decode cX5_unsay 24 = .ok (.ireturn, 1) := by decide +kernel
theorem dX5_unsay_25 : decode cX5_unsay 25 = .ok (.iconst 0, 1) := by decide +kernel
theorem dX5_unsay_26 : decode cX5_unsay 26 = .ok (.istore_n 2, 1) := by decide +kernel
theorem dX5_unsay_27 : decode cX5_unsay 27 = .ok (.iload_n 2, 1) := by decide +kernel
theorem dX5_unsay_28 : decode cX5_unsay 28 = .ok (.iload_n 1, 1) := by decide +kernel
theorem dX5_unsay_29 : decode cX5_unsay 29 = .ok (.if_icmp .ge 36, 3) := by decide +kernel
theorem dX5_unsay_32 : decode cX5_unsay 32 = .ok (.aload_n 0, 1) := by decide +kernel
theorem dX5_unsay_33 : decode cX5_unsay 33 = .ok (.getfield 18, 3) := by decide +kernel
theorem dX5_unsay_36 : decode cX5_unsay 36 = .ok (.invokevirtual 204, 3) := by decide +kernel
theorem dX5_unsay_39 : decode cX5_unsay 39 = .ok (.ifCond .le 26, 3) := by decide +kernel
theorem dX5_unsay_42 : decode cX5_unsay 42 = .ok (.aload_n 0, 1) := by decide +kernel
theorem dX5_unsay_43 : decode cX5_unsay 43 = .ok (.getfield 18, 3) := by decide +kernel
theorem dX5_unsay_46 : decode cX5_unsay 46 = .ok (.aload_n 0, 1) := by decide +kernel
theorem dX5_unsay_47 : decode cX5_unsay 47 = .ok (.getfield 18, 3) := by decide +kernel
theorem dX5_unsay_50 : decode cX5_unsay 50 = .ok (.invokevirtual 204, 3) := by decide +kernel
theorem dX5_unsay_53 : decode cX5_unsay 53 = .ok (.iconst 1, 1) := by decide +kernel
theorem dX5_unsay_54 : decode cX5_unsay 54 = .ok (.isub, 1) := by decide +kernel
theorem dX5_unsay_55 : decode cX5_unsay 55 = .ok (.invokevirtual 218, 3) := by decide +kernel
theorem dX5_unsay_58 : decode cX5_unsay 58 = .ok (.pop, 1) := by decide +kernel
theorem dX5_unsay_59 : decode cX5_unsay 59 = .ok (.iinc 2 1, 3) := by decide +kernel
theorem dX5_unsay_62 : decode cX5_unsay 62 = .ok (.goto (-35), 3) := by decide +kernel
theorem dX5_unsay_65 : decode cX5_unsay 65 = .ok (.aload_n 0, 1) := by decide +kernel
theorem dX5_unsay_66 : decode cX5_unsay 66 = .ok (.getfield 18, 3) := by decide +kernel
theorem dX5_unsay_69 : decode cX5_unsay 69 = .ok (.invokevirtual 204, 3) := by decide +kernel
theorem dX5_unsay_72 : decode cX5_unsay 72 = .ok (.ireturn, 1) := by decide +kernel
theorem dX5_rowNow_0 : decode cX5_rowNow 0 = .ok (.new 15, 3) := by decide +kernel
theorem dX5_rowNow_3 : decode cX5_rowNow 3 = .ok (.dup, 1) := by decide +kernel
theorem dX5_rowNow_4 : decode cX5_rowNow 4 = .ok (.invokespecial 17, 3) := by decide +kernel
theorem dX5_rowNow_7 : decode cX5_rowNow 7 = .ok (.astore_n 1, 1) := by decide +kernel
theorem dX5_rowNow_8 : decode cX5_rowNow 8 = .ok (.aload_n 0, 1) := by decide +kernel
theorem dX5_rowNow_9 : decode cX5_rowNow 9 = .ok (.getfield 18, 3) := by decide +kernel
theorem dX5_rowNow_12 : decode cX5_rowNow 12 = .ok (.invokevirtual 175, 3) := by decide +kernel
theorem dX5_rowNow_15 : decode cX5_rowNow 15 = .ok (.astore_n 2, 1) := by decide +kernel
theorem dX5_rowNow_16 : decode cX5_rowNow 16 = .ok (.aload_n 2, 1) := by decide +kernel
theorem dX5_rowNow_17 : decode cX5_rowNow 17 = .ok (.invokeinterface 179 1, 5) := by decide +kernel
theorem dX5_rowNow_22 : decode cX5_rowNow 22 = .ok (.ifCond .eq 29, 3) := by decide +kernel
theorem dX5_rowNow_25 : decode cX5_rowNow 25 = .ok (.aload_n 2, 1) := by decide +kernel
theorem dX5_rowNow_26 : decode cX5_rowNow 26 = .ok (.invokeinterface 185 1, 5) := by decide +kernel
theorem dX5_rowNow_31 : decode cX5_rowNow 31 = .ok (.checkcast 214, 3) := by decide +kernel
theorem dX5_rowNow_34 : decode cX5_rowNow 34 = .ok (.invokevirtual 221, 3) := by decide +kernel
theorem dX5_rowNow_37 : decode cX5_rowNow 37 = .ok (.istore_n 3, 1) := by decide +kernel
theorem dX5_rowNow_38 : decode cX5_rowNow 38 = .ok (.aload_n 1, 1) := by decide +kernel
theorem dX5_rowNow_39 : decode cX5_rowNow 39 = .ok (.iload_n 3, 1) := by decide +kernel
theorem dX5_rowNow_40 : decode cX5_rowNow 40 = .ok (.i2l, 1) := by decide +kernel
theorem dX5_rowNow_41 : decode cX5_rowNow 41 = .ok (.invokestatic 157, 3) := by decide +kernel
theorem dX5_rowNow_44 : decode cX5_rowNow 44 = .ok (.invokevirtual 161, 3) := by decide +kernel
theorem dX5_rowNow_47 : decode cX5_rowNow 47 = .ok (.pop, 1) := by decide +kernel
theorem dX5_rowNow_48 : decode cX5_rowNow 48 = .ok (.goto (-32), 3) := by decide +kernel
theorem dX5_rowNow_51 : decode cX5_rowNow 51 = .ok (.aload_n 1, 1) := by decide +kernel
theorem dX5_rowNow_52 : decode cX5_rowNow 52 = .ok (.areturn, 1) := by decide +kernel
theorem dX5_row_0 : decode cX5_row 0 = .ok (.aload_n 0, 1) := by decide +kernel
theorem dX5_row_1 : decode cX5_row 1 = .ok (.iconst 0, 1) := by decide +kernel
theorem dX5_row_2 : decode cX5_row 2 = .ok (.putfield 32, 3) := by decide +kernel
theorem dX5_row_5 : decode cX5_row 5 = .ok (.aload_n 0, 1) := by decide +kernel
theorem dX5_row_6 : decode cX5_row 6 = .ok (.invokevirtual 224, 3) := by decide +kernel
theorem dX5_row_9 : decode cX5_row 9 = .ok (.invokestatic 200, 3) := by decide +kernel
theorem dX5_row_12 : decode cX5_row 12 = .ok (.areturn, 1) := by decide +kernel
theorem dX5_fold_0 : decode cX5_fold 0 = .ok (.aload_n 0, 1) := by decide +kernel
theorem dX5_fold_1 : decode cX5_fold 1 = .ok (.iload_n 1, 1) := by decide +kernel
theorem dX5_fold_2 : decode cX5_fold 2 = .ok (.invokestatic 40, 3) := by decide +kernel
theorem dX5_fold_5 : decode cX5_fold 5 = .ok (.iconst 0, 1) := by decide +kernel
theorem dX5_fold_6 : decode cX5_fold 6 = .ok (.invokevirtual 97, 3) := by decide +kernel
theorem dX5_fold_9 : decode cX5_fold 9 = .ok (.ifCond .eq 5, 3) := by decide +kernel
theorem dX5_fold_12 : decode cX5_fold 12 = .ok (.iconst 0, 1) := by decide +kernel
theorem dX5_fold_13 : decode cX5_fold 13 = .ok (.ireturn, 1) := by decide +kernel
theorem dX5_fold_14 : decode cX5_fold 14 = .ok (.aload_n 0, 1) := by decide +kernel
theorem dX5_fold_15 : decode cX5_fold 15 = .ok (.getfield 18, 3) := by decide +kernel
theorem dX5_fold_18 : decode cX5_fold 18 = .ok (.invokevirtual 204, 3) := by decide +kernel
theorem dX5_fold_21 : decode cX5_fold 21 = .ok (.ifCond .le 7, 3) := by decide +kernel
theorem dX5_fold_24 : decode cX5_fold 24 = .ok (.iconst 1, 1) := by decide +kernel
theorem dX5_fold_25 : decode cX5_fold 25 = .ok (.goto 4, 3) := by decide +kernel
theorem dX5_fold_28 : decode cX5_fold 28 = .ok (.iconst 0, 1) := by decide +kernel
theorem dX5_fold_29 : decode cX5_fold 29 = .ok (.istore_n 2, 1) := by decide +kernel
theorem dX5_fold_30 : decode cX5_fold 30 = .ok (.iconst 1, 1) := by decide +kernel
theorem dX5_fold_31 : decode cX5_fold 31 = .ok (.istore_n 3, 1) := by decide +kernel
theorem dX5_fold_32 : decode cX5_fold 32 = .ok (.iload_n 3, 1) := by decide +kernel
theorem dX5_fold_33 : decode cX5_fold 33 = .ok (.aload_n 0, 1) := by decide +kernel
theorem dX5_fold_34 : decode cX5_fold 34 = .ok (.getfield 18, 3) := by decide +kernel
theorem dX5_fold_37 : decode cX5_fold 37 = .ok (.invokevirtual 204, 3) := by decide +kernel
theorem dX5_fold_40 : decode cX5_fold 40 = .ok (.if_icmp .ge 35, 3) := by decide +kernel
theorem dX5_fold_43 : decode cX5_fold 43 = .ok (.iload_n 2, 1) := by decide +kernel
theorem dX5_fold_44 : decode cX5_fold 44 = .ok (.aload_n 0, 1) := by decide +kernel
theorem dX5_fold_45 : decode cX5_fold 45 = .ok (.getfield 18, 3) := by decide +kernel
theorem dX5_fold_48 : decode cX5_fold 48 = .ok (.iload_n 3, 1) := by decide +kernel
theorem dX5_fold_49 : decode cX5_fold 49 = .ok (.invokevirtual 165, 3) := by decide +kernel
theorem dX5_fold_52 : decode cX5_fold 52 = .ok (.checkcast 214, 3) := by decide +kernel
theorem dX5_fold_55 : decode cX5_fold 55 = .ok (.invokevirtual 221, 3) := by decide +kernel
theorem dX5_fold_58 : decode cX5_fold 58 = .ok (.iconst 1, 1) := by decide +kernel
theorem dX5_fold_59 : decode cX5_fold 59 = .ok (.if_icmp .lt 7, 3) := by decide +kernel
theorem dX5_fold_62 : decode cX5_fold 62 = .ok (.iconst 1, 1) := by decide +kernel
theorem dX5_fold_63 : decode cX5_fold 63 = .ok (.goto 4, 3) := by decide +kernel
theorem dX5_fold_66 : decode cX5_fold 66 = .ok (.iconst 0, 1) := by decide +kernel
theorem dX5_fold_67 : decode cX5_fold 67 = .ok (.iand, 1) := by decide +kernel
theorem dX5_fold_68 : decode cX5_fold 68 = .ok (.istore_n 2, 1) := by decide +kernel
theorem dX5_fold_69 : decode cX5_fold 69 = .ok (.iinc 3 1, 3) := by decide +kernel
theorem dX5_fold_72 : decode cX5_fold 72 = .ok (.goto (-40), 3) := by decide +kernel
theorem dX5_fold_75 : decode cX5_fold 75 = .ok (.aload_n 0, 1) := by decide +kernel
theorem dX5_fold_76 : decode cX5_fold 76 = .ok (.iload_n 1, 1) := by decide +kernel
theorem dX5_fold_77 : decode cX5_fold 77 = .ok (.iload_n 2, 1) := by decide +kernel
theorem dX5_fold_78 : decode cX5_fold 78 = .ok (.ifCond .eq 20, 3) := by decide +kernel
theorem dX5_fold_81 : decode cX5_fold 81 = .ok (.aload_n 0, 1) := by decide +kernel
theorem dX5_fold_82 : decode cX5_fold 82 = .ok (.invokevirtual 224, 3) := by decide +kernel
theorem dX5_fold_85 : decode cX5_fold 85 = .ok (.aload_n 0, 1) := by decide +kernel
theorem dX5_fold_86 : decode cX5_fold 86 = .ok (.getfield 18, 3) := by decide +kernel
theorem dX5_fold_89 : decode cX5_fold 89 = .ok (.invokevirtual 204, 3) := by decide +kernel
theorem dX5_fold_92 : decode cX5_fold 92 = .ok (.invokestatic 207, 3) := by decide +kernel
theorem dX5_fold_95 : decode cX5_fold 95 = .ok (.goto 4, 3) := by decide +kernel
theorem dX5_fold_98 : decode cX5_fold 98 = .ok (.aconst_null, 1) := by decide +kernel
theorem dX5_fold_99 : decode cX5_fold 99 = .ok (.invokevirtual 101, 3) := by decide +kernel
theorem dX5_fold_102 : decode cX5_fold 102 = .ok (.ireturn, 1) := by decide +kernel
theorem dX5_neighbour_0 : decode cX5_neighbour 0 = .ok (.aconst_null, 1) := by decide +kernel
theorem dX5_neighbour_1 : decode cX5_neighbour 1 = .ok (.astore_n 3, 1) := by decide +kernel
theorem dX5_neighbour_2 : decode cX5_neighbour 2 = .ok (.iconst 1, 1) := by decide +kernel
theorem dX5_neighbour_3 : decode cX5_neighbour 3 = .ok (.istore 4, 2) := by decide +kernel
theorem dX5_neighbour_5 : decode cX5_neighbour 5 = .ok (.iload 4, 2) := by decide +kernel
theorem dX5_neighbour_7 : decode cX5_neighbour 7 = .ok (.iload_n 1, 1) := by decide +kernel
theorem dX5_neighbour_8 : decode cX5_neighbour 8 = .ok (.if_icmp .gt 81, 3) := by decide +kernel
theorem dX5_neighbour_11 : decode cX5_neighbour 11 = .ok (.iload_n 2, 1) := by decide +kernel
theorem dX5_neighbour_12 : decode cX5_neighbour 12 = .ok (.ifCond .eq 21, 3) := by decide +kernel
theorem dX5_neighbour_15 : decode cX5_neighbour 15 = .ok (.aload_n 0, 1) := by decide +kernel
theorem dX5_neighbour_16 : decode cX5_neighbour 16 = .ok (.iconst 0, 1) := by decide +kernel
theorem dX5_neighbour_17 : decode cX5_neighbour 17 = .ok (.laload, 1) := by decide +kernel
theorem dX5_neighbour_18 : decode cX5_neighbour 18 = .ok (.lneg, 1) := by decide +kernel
theorem dX5_neighbour_19 : decode cX5_neighbour 19 = .ok (.iload 4, 2) := by decide +kernel
theorem dX5_neighbour_21 : decode cX5_neighbour 21 = .ok (.i2l, 1) := by decide +kernel
theorem dX5_neighbour_22 : decode cX5_neighbour 22 = .ok (.lmul, 1) := by decide +kernel
theorem dX5_neighbour_23 : decode cX5_neighbour 23 = .ok (.aload_n 0, 1) := by decide +kernel
theorem dX5_neighbour_24 : decode cX5_neighbour 24 = .ok (.iconst 1, 1) := by decide +kernel
theorem dX5_neighbour_25 : decode cX5_neighbour 25 = .ok (.laload, 1) := by decide +kernel
theorem dX5_neighbour_26 : decode cX5_neighbour 26 = .ok (.invokestatic 147, 3) := by decide +kernel
theorem dX5_neighbour_29 : decode cX5_neighbour 29 = .ok (.lneg, 1) := by decide +kernel
theorem dX5_neighbour_30 : decode cX5_neighbour 30 = .ok (.goto 16, 3) := by decide +kernel
theorem dX5_neighbour_33 : decode cX5_neighbour 33 = .ok (.aload_n 0, 1) := by decide +kernel
theorem dX5_neighbour_34 : decode cX5_neighbour 34 = .ok (.iconst 0, 1) := by decide +kernel
theorem dX5_neighbour_35 : decode cX5_neighbour 35 = .ok (.laload, 1) := by decide +kernel
theorem dX5_neighbour_36 : decode cX5_neighbour 36 = .ok (.iload 4, 2) := by decide +kernel
theorem dX5_neighbour_38 : decode cX5_neighbour 38 = .ok (.i2l, 1) := by decide +kernel
theorem dX5_neighbour_39 : decode cX5_neighbour 39 = .ok (.lmul, 1) := by decide +kernel
theorem dX5_neighbour_40 : decode cX5_neighbour 40 = .ok (.aload_n 0, 1) := by decide +kernel
theorem dX5_neighbour_41 : decode cX5_neighbour 41 = .ok (.iconst 1, 1) := by decide +kernel
theorem dX5_neighbour_42 : decode cX5_neighbour 42 = .ok (.laload, 1) := by decide +kernel
theorem dX5_neighbour_43 : decode cX5_neighbour 43 = .ok (.invokestatic 147, 3) := by decide +kernel
theorem dX5_neighbour_46 : decode cX5_neighbour 46 = .ok (.lstore 5, 2) := by decide +kernel
theorem dX5_neighbour_48 : decode cX5_neighbour 48 = .ok (.lload 5, 2) := by decide +kernel
theorem dX5_neighbour_50 : decode cX5_neighbour 50 = .ok (.iload 4, 2) := by decide +kernel
theorem dX5_neighbour_52 : decode cX5_neighbour 52 = .ok (.i2l, 1) := by decide +kernel
theorem dX5_neighbour_53 : decode cX5_neighbour 53 = .ok (.invokestatic 28, 3) := by decide +kernel
theorem dX5_neighbour_56 : decode cX5_neighbour 56 = .ok (.astore 7, 2) := by decide +kernel
theorem dX5_neighbour_58 : decode cX5_neighbour 58 = .ok (.aload_n 3, 1) := by decide +kernel
theorem dX5_neighbour_59 : decode cX5_neighbour 59 = .ok (.ifnull 21, 3) := by decide +kernel
theorem dX5_neighbour_62 : decode cX5_neighbour 62 = .ok (.aload 7, 2) := by decide +kernel
theorem dX5_neighbour_64 : decode cX5_neighbour 64 = .ok (.aload_n 3, 1) := by decide +kernel
theorem dX5_neighbour_65 : decode cX5_neighbour 65 = .ok (.invokestatic 93, 3) := by decide +kernel
theorem dX5_neighbour_68 : decode cX5_neighbour 68 = .ok (.iload_n 2, 1) := by decide +kernel
theorem dX5_neighbour_69 : decode cX5_neighbour 69 = .ok (.ifCond .eq 7, 3) := by decide +kernel
theorem dX5_neighbour_72 : decode cX5_neighbour 72 = .ok (.iconst (-1), 1) := by decide +kernel
theorem dX5_neighbour_73 : decode cX5_neighbour 73 = .ok (.goto 4, 3) := by decide +kernel
theorem dX5_neighbour_76 : decode cX5_neighbour 76 = .ok (.iconst 1, 1) := by decide +kernel
theorem dX5_neighbour_77 : decode cX5_neighbour 77 = .ok (.if_icmp .ne 6, 3) := by decide +kernel
theorem dX5_neighbour_80 : decode cX5_neighbour 80 = .ok (.aload 7, 2) := by decide +kernel
theorem dX5_neighbour_82 : decode cX5_neighbour 82 = .ok (.astore_n 3, 1) := by decide +kernel
theorem dX5_neighbour_83 : decode cX5_neighbour 83 = .ok (.iinc 4 1, 3) := by decide +kernel
theorem dX5_neighbour_86 : decode cX5_neighbour 86 = .ok (.goto (-81), 3) := by decide +kernel
theorem dX5_neighbour_89 : decode cX5_neighbour 89 = .ok (.aload_n 3, 1) := by decide +kernel
theorem dX5_neighbour_90 : decode cX5_neighbour 90 = .ok (.areturn, 1) := by decide +kernel
theorem dX5_lower_0 : decode cX5_lower 0 = .ok (.aload_n 0, 1) := by decide +kernel
theorem dX5_lower_1 : decode cX5_lower 1 = .ok (.iload_n 1, 1) := by decide +kernel
theorem dX5_lower_2 : decode cX5_lower 2 = .ok (.iload_n 2, 1) := by decide +kernel
theorem dX5_lower_3 : decode cX5_lower 3 = .ok (.invokestatic 111, 3) := by decide +kernel
theorem dX5_lower_6 : decode cX5_lower 6 = .ok (.iload_n 3, 1) := by decide +kernel
theorem dX5_lower_7 : decode cX5_lower 7 = .ok (.iconst 1, 1) := by decide +kernel
theorem dX5_lower_8 : decode cX5_lower 8 = .ok (.sipush 200, 3) := by decide +kernel
theorem dX5_lower_11 : decode cX5_lower 11 = .ok (.invokestatic 36, 3) := by decide +kernel
theorem dX5_lower_14 : decode cX5_lower 14 = .ok (.ifCond .ne 7, 3) := by decide +kernel
theorem dX5_lower_17 : decode cX5_lower 17 = .ok (.iconst 1, 1) := by decide +kernel
theorem dX5_lower_18 : decode cX5_lower 18 = .ok (.goto 4, 3) := by decide +kernel
theorem dX5_lower_21 : decode cX5_lower 21 = .ok (.iconst 0, 1) := by decide +kernel
theorem dX5_lower_22 : decode cX5_lower 22 = .ok (.invokevirtual 97, 3) := by decide +kernel
theorem dX5_lower_25 : decode cX5_lower 25 = .ok (.ifCond .eq 7, 3) := by decide +kernel
theorem dX5_lower_28 : decode cX5_lower 28 = .ok (.iconst 0, 1) := by decide +kernel
theorem dX5_lower_29 : decode cX5_lower 29 = .ok (.goto 19, 3) := by decide +kernel
theorem dX5_lower_32 : decode cX5_lower 32 = .ok (.aload_n 0, 1) := by decide +kernel
theorem dX5_lower_33 : decode cX5_lower 33 = .ok (.iload_n 1, 1) := by decide +kernel
theorem dX5_lower_34 : decode cX5_lower 34 = .ok (.aload_n 0, 1) := by decide +kernel
theorem dX5_lower_35 : decode cX5_lower 35 = .ok (.getfield 11, 3) := by decide +kernel
theorem dX5_lower_38 : decode cX5_lower 38 = .ok (.iload_n 2, 1) := by decide +kernel
theorem dX5_lower_39 : decode cX5_lower 39 = .ok (.aaload, 1) := by decide +kernel
theorem dX5_lower_40 : decode cX5_lower 40 = .ok (.iload_n 3, 1) := by decide +kernel
theorem dX5_lower_41 : decode cX5_lower 41 = .ok (.iconst 0, 1) := by decide +kernel
theorem dX5_lower_42 : decode cX5_lower 42 = .ok (.invokestatic 228, 3) := by decide +kernel
theorem dX5_lower_45 : decode cX5_lower 45 = .ok (.invokevirtual 101, 3) := by decide +kernel
theorem dX5_lower_48 : decode cX5_lower 48 = .ok (.ireturn, 1) := by decide +kernel
theorem dX5_upper_0 : decode cX5_upper 0 = .ok (.aload_n 0, 1) := by decide +kernel
theorem dX5_upper_1 : decode cX5_upper 1 = .ok (.iload_n 1, 1) := by decide +kernel
theorem dX5_upper_2 : decode cX5_upper 2 = .ok (.iload_n 2, 1) := by decide +kernel
theorem dX5_upper_3 : decode cX5_upper 3 = .ok (.invokestatic 111, 3) := by decide +kernel
theorem dX5_upper_6 : decode cX5_upper 6 = .ok (.iload_n 3, 1) := by decide +kernel
theorem dX5_upper_7 : decode cX5_upper 7 = .ok (.iconst 1, 1) := by decide +kernel
theorem dX5_upper_8 : decode cX5_upper 8 = .ok (.sipush 200, 3) := by decide +kernel
theorem dX5_upper_11 : decode cX5_upper 11 = .ok (.invokestatic 36, 3) := by decide +kernel
theorem dX5_upper_14 : decode cX5_upper 14 = .ok (.ifCond .ne 7, 3) := by decide +kernel
theorem dX5_upper_17 : decode cX5_upper 17 = .ok (.iconst 1, 1) := by decide +kernel
theorem dX5_upper_18 : decode cX5_upper 18 = .ok (.goto 4, 3) := by decide +kernel
theorem dX5_upper_21 : decode cX5_upper 21 = .ok (.iconst 0, 1) := by decide +kernel
theorem dX5_upper_22 : decode cX5_upper 22 = .ok (.invokevirtual 97, 3) := by decide +kernel
theorem dX5_upper_25 : decode cX5_upper 25 = .ok (.ifCond .eq 7, 3) := by decide +kernel
theorem dX5_upper_28 : decode cX5_upper 28 = .ok (.iconst 0, 1) := by decide +kernel
theorem dX5_upper_29 : decode cX5_upper 29 = .ok (.goto 19, 3) := by decide +kernel
theorem dX5_upper_32 : decode cX5_upper 32 = .ok (.aload_n 0, 1) := by decide +kernel
theorem dX5_upper_33 : decode cX5_upper 33 = .ok (.iload_n 1, 1) := by decide +kernel
theorem dX5_upper_34 : decode cX5_upper 34 = .ok (.aload_n 0, 1) := by decide +kernel
theorem dX5_upper_35 : decode cX5_upper 35 = .ok (.getfield 11, 3) := by decide +kernel
theorem dX5_upper_38 : decode cX5_upper 38 = .ok (.iload_n 2, 1) := by decide +kernel
theorem dX5_upper_39 : decode cX5_upper 39 = .ok (.aaload, 1) := by decide +kernel
theorem dX5_upper_40 : decode cX5_upper 40 = .ok (.iload_n 3, 1) := by decide +kernel
theorem dX5_upper_41 : decode cX5_upper 41 = .ok (.iconst 1, 1) := by decide +kernel
theorem dX5_upper_42 : decode cX5_upper 42 = .ok (.invokestatic 228, 3) := by decide +kernel
theorem dX5_upper_45 : decode cX5_upper 45 = .ok (.invokevirtual 101, 3) := by decide +kernel
theorem dX5_upper_48 : decode cX5_upper 48 = .ok (.ireturn, 1) := by decide +kernel
theorem dX5_bestOf_0 : decode cX5_bestOf 0 = .ok (.aload_n 0, 1) := by decide +kernel
theorem dX5_bestOf_1 : decode cX5_bestOf 1 = .ok (.iload_n 1, 1) := by decide +kernel
theorem dX5_bestOf_2 : decode cX5_bestOf 2 = .ok (.iconst 0, 1) := by decide +kernel
theorem dX5_bestOf_3 : decode cX5_bestOf 3 = .ok (.invokestatic 228, 3) := by decide +kernel
theorem dX5_bestOf_6 : decode cX5_bestOf 6 = .ok (.astore_n 2, 1) := by decide +kernel
theorem dX5_bestOf_7 : decode cX5_bestOf 7 = .ok (.aload_n 0, 1) := by decide +kernel
theorem dX5_bestOf_8 : decode cX5_bestOf 8 = .ok (.iload_n 1, 1) := by decide +kernel
theorem dX5_bestOf_9 : decode cX5_bestOf 9 = .ok (.iconst 1, 1) := by decide +kernel
theorem dX5_bestOf_10 : decode cX5_bestOf 10 = .ok (.invokestatic 228, 3) := by decide +kernel
theorem dX5_bestOf_13 : decode cX5_bestOf 13 = .ok (.astore_n 3, 1) := by decide +kernel
theorem dX5_bestOf_14 : decode cX5_bestOf 14 = .ok (.aload_n 0, 1) := by decide +kernel
theorem dX5_bestOf_15 : decode cX5_bestOf 15 = .ok (.iconst 0, 1) := by decide +kernel
theorem dX5_bestOf_16 : decode cX5_bestOf 16 = .ok (.laload, 1) := by decide +kernel
theorem dX5_bestOf_17 : decode cX5_bestOf 17 = .ok (.aload_n 2, 1) := by decide +kernel
theorem dX5_bestOf_18 : decode cX5_bestOf 18 = .ok (.iconst 1, 1) := by decide +kernel
theorem dX5_bestOf_19 : decode cX5_bestOf 19 = .ok (.laload, 1) := by decide +kernel
theorem dX5_bestOf_20 : decode cX5_bestOf 20 = .ok (.lmul, 1) := by decide +kernel
theorem dX5_bestOf_21 : decode cX5_bestOf 21 = .ok (.aload_n 2, 1) := by decide +kernel
theorem dX5_bestOf_22 : decode cX5_bestOf 22 = .ok (.iconst 0, 1) := by decide +kernel
theorem dX5_bestOf_23 : decode cX5_bestOf 23 = .ok (.laload, 1) := by decide +kernel
theorem dX5_bestOf_24 : decode cX5_bestOf 24 = .ok (.aload_n 0, 1) := by decide +kernel
theorem dX5_bestOf_25 : decode cX5_bestOf 25 = .ok (.iconst 1, 1) := by decide +kernel
theorem dX5_bestOf_26 : decode cX5_bestOf 26 = .ok (.laload, 1) := by decide +kernel
theorem dX5_bestOf_27 : decode cX5_bestOf 27 = .ok (.lmul, 1) := by decide +kernel
theorem dX5_bestOf_28 : decode cX5_bestOf 28 = .ok (.lsub, 1) := by decide +kernel
theorem dX5_bestOf_29 : decode cX5_bestOf 29 = .ok (.aload_n 3, 1) := by decide +kernel
theorem dX5_bestOf_30 : decode cX5_bestOf 30 = .ok (.iconst 1, 1) := by decide +kernel
theorem dX5_bestOf_31 : decode cX5_bestOf 31 = .ok (.laload, 1) := by decide +kernel
theorem dX5_bestOf_32 : decode cX5_bestOf 32 = .ok (.lmul, 1) := by decide +kernel
theorem dX5_bestOf_33 : decode cX5_bestOf 33 = .ok (.lstore 4, 2) := by decide +kernel
theorem dX5_bestOf_35 : decode cX5_bestOf 35 = .ok (.aload_n 3, 1) := by decide +kernel
theorem dX5_bestOf_36 : decode cX5_bestOf 36 = .ok (.iconst 0, 1) := by decide +kernel
theorem dX5_bestOf_37 : decode cX5_bestOf 37 = .ok (.laload, 1) := by decide +kernel
theorem dX5_bestOf_38 : decode cX5_bestOf 38 = .ok (.aload_n 0, 1) := by decide +kernel
theorem dX5_bestOf_39 : decode cX5_bestOf 39 = .ok (.iconst 1, 1) := by decide +kernel
theorem dX5_bestOf_40 : decode cX5_bestOf 40 = .ok (.laload, 1) := by decide +kernel
theorem dX5_bestOf_41 : decode cX5_bestOf 41 = .ok (.lmul, 1) := by decide +kernel
theorem dX5_bestOf_42 : decode cX5_bestOf 42 = .ok (.aload_n 0, 1) := by decide +kernel
theorem dX5_bestOf_43 : decode cX5_bestOf 43 = .ok (.iconst 0, 1) := by decide +kernel
theorem dX5_bestOf_44 : decode cX5_bestOf 44 = .ok (.laload, 1) := by decide +kernel
theorem dX5_bestOf_45 : decode cX5_bestOf 45 = .ok (.aload_n 3, 1) := by decide +kernel
theorem dX5_bestOf_46 : decode cX5_bestOf 46 = .ok (.iconst 1, 1) := by decide +kernel
theorem dX5_bestOf_47 : decode cX5_bestOf 47 = .ok (.laload, 1) := by decide +kernel
theorem dX5_bestOf_48 : decode cX5_bestOf 48 = .ok (.lmul, 1) := by decide +kernel
theorem dX5_bestOf_49 : decode cX5_bestOf 49 = .ok (.lsub, 1) := by decide +kernel
theorem dX5_bestOf_50 : decode cX5_bestOf 50 = .ok (.aload_n 2, 1) := by decide +kernel
theorem dX5_bestOf_51 : decode cX5_bestOf 51 = .ok (.iconst 1, 1) := by decide +kernel
theorem dX5_bestOf_52 : decode cX5_bestOf 52 = .ok (.laload, 1) := by decide +kernel
theorem dX5_bestOf_53 : decode cX5_bestOf 53 = .ok (.lmul, 1) := by decide +kernel
theorem dX5_bestOf_54 : decode cX5_bestOf 54 = .ok (.lstore 6, 2) := by decide +kernel
theorem dX5_bestOf_56 : decode cX5_bestOf 56 = .ok (.lload 4, 2) := by decide +kernel
theorem dX5_bestOf_58 : decode cX5_bestOf 58 = .ok (.lload 6, 2) := by decide +kernel
theorem dX5_bestOf_60 : decode cX5_bestOf 60 = .ok (.lcmp, 1) := by decide +kernel
theorem dX5_bestOf_61 : decode cX5_bestOf 61 = .ok (.ifCond .lt 21, 3) := by decide +kernel
theorem dX5_bestOf_64 : decode cX5_bestOf 64 = .ok (.lload 4, 2) := by decide +kernel
theorem dX5_bestOf_66 : decode cX5_bestOf 66 = .ok (.lload 6, 2) := by decide +kernel
theorem dX5_bestOf_68 : decode cX5_bestOf 68 = .ok (.lcmp, 1) := by decide +kernel
theorem dX5_bestOf_69 : decode cX5_bestOf 69 = .ok (.ifCond .ne 17, 3) := by decide +kernel
theorem dX5_bestOf_72 : decode cX5_bestOf 72 = .ok (.aload_n 2, 1) := by decide +kernel
theorem dX5_bestOf_73 : decode cX5_bestOf 73 = .ok (.iconst 1, 1) := by decide +kernel
theorem dX5_bestOf_74 : decode cX5_bestOf 74 = .ok (.laload, 1) := by decide +kernel
theorem dX5_bestOf_75 : decode cX5_bestOf 75 = .ok (.aload_n 3, 1) := by decide +kernel
theorem dX5_bestOf_76 : decode cX5_bestOf 76 = .ok (.iconst 1, 1) := by decide +kernel
theorem dX5_bestOf_77 : decode cX5_bestOf 77 = .ok (.laload, 1) := by decide +kernel
theorem dX5_bestOf_78 : decode cX5_bestOf 78 = .ok (.lcmp, 1) := by decide +kernel
theorem dX5_bestOf_79 : decode cX5_bestOf 79 = .ok (.ifCond .gt 7, 3) := by decide +kernel
theorem dX5_bestOf_82 : decode cX5_bestOf 82 = .ok (.aload_n 2, 1) := by decide +kernel
theorem dX5_bestOf_83 : decode cX5_bestOf 83 = .ok (.goto 4, 3) := by decide +kernel
theorem dX5_bestOf_86 : decode cX5_bestOf 86 = .ok (.aload_n 3, 1) := by decide +kernel
theorem dX5_bestOf_87 : decode cX5_bestOf 87 = .ok (.areturn, 1) := by decide +kernel
theorem dX5_best_0 : decode cX5_best 0 = .ok (.aload_n 0, 1) := by decide +kernel
theorem dX5_best_1 : decode cX5_best 1 = .ok (.iload_n 1, 1) := by decide +kernel
theorem dX5_best_2 : decode cX5_best 2 = .ok (.iload_n 2, 1) := by decide +kernel
theorem dX5_best_3 : decode cX5_best 3 = .ok (.invokestatic 111, 3) := by decide +kernel
theorem dX5_best_6 : decode cX5_best 6 = .ok (.iload_n 3, 1) := by decide +kernel
theorem dX5_best_7 : decode cX5_best 7 = .ok (.iconst 1, 1) := by decide +kernel
theorem dX5_best_8 : decode cX5_best 8 = .ok (.sipush 200, 3) := by decide +kernel
theorem dX5_best_11 : decode cX5_best 11 = .ok (.invokestatic 36, 3) := by decide +kernel
theorem dX5_best_14 : decode cX5_best 14 = .ok (.ifCond .ne 7, 3) := by decide +kernel
theorem dX5_best_17 : decode cX5_best 17 = .ok (.iconst 1, 1) := by decide +kernel
theorem dX5_best_18 : decode cX5_best 18 = .ok (.goto 4, 3) := by decide +kernel
theorem dX5_best_21 : decode cX5_best 21 = .ok (.iconst 0, 1) := by decide +kernel
theorem dX5_best_22 : decode cX5_best 22 = .ok (.invokevirtual 97, 3) := by decide +kernel
theorem dX5_best_25 : decode cX5_best 25 = .ok (.ifCond .eq 7, 3) := by decide +kernel
theorem dX5_best_28 : decode cX5_best 28 = .ok (.iconst 0, 1) := by decide +kernel
theorem dX5_best_29 : decode cX5_best 29 = .ok (.goto 18, 3) := by decide +kernel
theorem dX5_best_32 : decode cX5_best 32 = .ok (.aload_n 0, 1) := by decide +kernel
theorem dX5_best_33 : decode cX5_best 33 = .ok (.iload_n 1, 1) := by decide +kernel
theorem dX5_best_34 : decode cX5_best 34 = .ok (.aload_n 0, 1) := by decide +kernel
theorem dX5_best_35 : decode cX5_best 35 = .ok (.getfield 11, 3) := by decide +kernel
theorem dX5_best_38 : decode cX5_best 38 = .ok (.iload_n 2, 1) := by decide +kernel
theorem dX5_best_39 : decode cX5_best 39 = .ok (.aaload, 1) := by decide +kernel
theorem dX5_best_40 : decode cX5_best 40 = .ok (.iload_n 3, 1) := by decide +kernel
theorem dX5_best_41 : decode cX5_best 41 = .ok (.invokestatic 232, 3) := by decide +kernel
theorem dX5_best_44 : decode cX5_best 44 = .ok (.invokevirtual 101, 3) := by decide +kernel
theorem dX5_best_47 : decode cX5_best 47 = .ok (.ireturn, 1) := by decide +kernel
theorem dX5_isAbove_0 : decode cX5_isAbove 0 = .ok (.aload_n 0, 1) := by decide +kernel
theorem dX5_isAbove_1 : decode cX5_isAbove 1 = .ok (.iconst 0, 1) := by decide +kernel
theorem dX5_isAbove_2 : decode cX5_isAbove 2 = .ok (.laload, 1) := by decide +kernel
theorem dX5_isAbove_3 : decode cX5_isAbove 3 = .ok (.lconst 0, 1) := by decide +kernel
theorem dX5_isAbove_4 : decode cX5_isAbove 4 = .ok (.lcmp, 1) := by decide +kernel
theorem dX5_isAbove_5 : decode cX5_isAbove 5 = .ok (.ifCond .le 7, 3) := by decide +kernel
theorem dX5_isAbove_8 : decode cX5_isAbove 8 = .ok (.iconst 1, 1) := by decide +kernel
theorem dX5_isAbove_9 : decode cX5_isAbove 9 = .ok (.goto 4, 3) := by decide +kernel
theorem dX5_isAbove_12 : decode cX5_isAbove 12 = .ok (.iconst 0, 1) := by decide +kernel
theorem dX5_isAbove_13 : decode cX5_isAbove 13 = .ok (.ireturn, 1) := by decide +kernel
theorem dX5_isOne_0 : decode cX5_isOne 0 = .ok (.aload_n 0, 1) := by decide +kernel
theorem dX5_isOne_1 : decode cX5_isOne 1 = .ok (.iconst 0, 1) := by decide +kernel
theorem dX5_isOne_2 : decode cX5_isOne 2 = .ok (.laload, 1) := by decide +kernel
theorem dX5_isOne_3 : decode cX5_isOne 3 = .ok (.lconst 1, 1) := by decide +kernel
theorem dX5_isOne_4 : decode cX5_isOne 4 = .ok (.lcmp, 1) := by decide +kernel
theorem dX5_isOne_5 : decode cX5_isOne 5 = .ok (.ifCond .ne 15, 3) := by decide +kernel
theorem dX5_isOne_8 : decode cX5_isOne 8 = .ok (.aload_n 0, 1) := by decide +kernel
theorem dX5_isOne_9 : decode cX5_isOne 9 = .ok (.iconst 1, 1) := by decide +kernel
theorem dX5_isOne_10 : decode cX5_isOne 10 = .ok (.laload, 1) := by decide +kernel
theorem dX5_isOne_11 : decode cX5_isOne 11 = .ok (.lconst 1, 1) := by decide +kernel
theorem dX5_isOne_12 : decode cX5_isOne 12 = .ok (.lcmp, 1) := by decide +kernel
theorem dX5_isOne_13 : decode cX5_isOne 13 = .ok (.ifCond .ne 7, 3) := by decide +kernel
theorem dX5_isOne_16 : decode cX5_isOne 16 = .ok (.iconst 1, 1) := by decide +kernel
theorem dX5_isOne_17 : decode cX5_isOne 17 = .ok (.goto 4, 3) := by decide +kernel
theorem dX5_isOne_20 : decode cX5_isOne 20 = .ok (.iconst 0, 1) := by decide +kernel
theorem dX5_isOne_21 : decode cX5_isOne 21 = .ok (.ireturn, 1) := by decide +kernel
theorem dX5_withLast_0 : decode cX5_withLast 0 = .ok (.aload_n 0, 1) := by decide +kernel
theorem dX5_withLast_1 : decode cX5_withLast 1 = .ok (.invokestatic 196, 3) := by decide +kernel
theorem dX5_withLast_4 : decode cX5_withLast 4 = .ok (.astore_n 2, 1) := by decide +kernel
theorem dX5_withLast_5 : decode cX5_withLast 5 = .ok (.aload_n 2, 1) := by decide +kernel
theorem dX5_withLast_6 : decode cX5_withLast 6 = .ok (.invokevirtual 204, 3) := by decide +kernel
theorem dX5_withLast_9 : decode cX5_withLast 9 = .ok (.iconst 1, 1) := by decide +kernel
theorem dX5_withLast_10 : decode cX5_withLast 10 = .ok (.isub, 1) := by decide +kernel
theorem dX5_withLast_11 : decode cX5_withLast 11 = .ok (.istore_n 3, 1) := by decide +kernel
theorem dX5_withLast_12 : decode cX5_withLast 12 = .ok (.aload_n 2, 1) := by decide +kernel
theorem dX5_withLast_13 : decode cX5_withLast 13 = .ok (.iload_n 3, 1) := by decide +kernel
theorem dX5_withLast_14 : decode cX5_withLast 14 = .ok (.aload_n 2, 1) := by decide +kernel
theorem dX5_withLast_15 : decode cX5_withLast 15 = .ok (.iload_n 3, 1) := by decide +kernel
theorem dX5_withLast_16 : decode cX5_withLast 16 = .ok (.invokevirtual 165, 3) := by decide +kernel
theorem dX5_withLast_19 : decode cX5_withLast 19 = .ok (.checkcast 142, 3) := by decide +kernel
theorem dX5_withLast_22 : decode cX5_withLast 22 = .ok (.invokevirtual 169, 3) := by decide +kernel
theorem dX5_withLast_25 : decode cX5_withLast 25 = .ok (.iload_n 1, 1) := by decide +kernel
theorem dX5_withLast_26 : decode cX5_withLast 26 = .ok (.i2l, 1) := by decide +kernel
theorem dX5_withLast_27 : decode cX5_withLast 27 = .ok (.ladd, 1) := by decide +kernel
theorem dX5_withLast_28 : decode cX5_withLast 28 = .ok (.invokestatic 157, 3) := by decide +kernel
theorem dX5_withLast_31 : decode cX5_withLast 31 = .ok (.invokevirtual 235, 3) := by decide +kernel
theorem dX5_withLast_34 : decode cX5_withLast 34 = .ok (.pop, 1) := by decide +kernel
theorem dX5_withLast_35 : decode cX5_withLast 35 = .ok (.aload_n 2, 1) := by decide +kernel
theorem dX5_withLast_36 : decode cX5_withLast 36 = .ok (.iload_n 3, 1) := by decide +kernel
theorem dX5_withLast_37 : decode cX5_withLast 37 = .ok (.iconst 1, 1) := by decide +kernel
theorem dX5_withLast_38 : decode cX5_withLast 38 = .ok (.iadd, 1) := by decide +kernel
theorem dX5_withLast_39 : decode cX5_withLast 39 = .ok (.invokestatic 207, 3) := by decide +kernel
theorem dX5_withLast_42 : decode cX5_withLast 42 = .ok (.areturn, 1) := by decide +kernel
theorem dX5_up_0 : decode cX5_up 0 = .ok (.aload_n 0, 1) := by decide +kernel
theorem dX5_up_1 : decode cX5_up 1 = .ok (.iload_n 1, 1) := by decide +kernel
theorem dX5_up_2 : decode cX5_up 2 = .ok (.invokestatic 40, 3) := by decide +kernel
theorem dX5_up_5 : decode cX5_up 5 = .ok (.iconst 0, 1) := by decide +kernel
theorem dX5_up_6 : decode cX5_up 6 = .ok (.invokevirtual 97, 3) := by decide +kernel
theorem dX5_up_9 : decode cX5_up 9 = .ok (.ifCond .eq 5, 3) := by decide +kernel
theorem dX5_up_12 : decode cX5_up 12 = .ok (.iconst 0, 1) := by decide +kernel
theorem dX5_up_13 : decode cX5_up 13 = .ok (.ireturn, 1) := by decide +kernel
theorem dX5_up_14 : decode cX5_up 14 = .ok (.aload_n 0, 1) := by decide +kernel
theorem dX5_up_15 : decode cX5_up 15 = .ok (.getfield 11, 3) := by decide +kernel
theorem dX5_up_18 : decode cX5_up 18 = .ok (.iload_n 1, 1) := by decide +kernel
theorem dX5_up_19 : decode cX5_up 19 = .ok (.aaload, 1) := by decide +kernel
theorem dX5_up_20 : decode cX5_up 20 = .ok (.astore_n 2, 1) := by decide +kernel
theorem dX5_up_21 : decode cX5_up 21 = .ok (.aload_n 0, 1) := by decide +kernel
theorem dX5_up_22 : decode cX5_up 22 = .ok (.iload_n 1, 1) := by decide +kernel
theorem dX5_up_23 : decode cX5_up 23 = .ok (.aload_n 2, 1) := by decide +kernel
theorem dX5_up_24 : decode cX5_up 24 = .ok (.invokestatic 239, 3) := by decide +kernel
theorem dX5_up_27 : decode cX5_up 27 = .ok (.ifCond .eq 18, 3) := by decide +kernel
theorem dX5_up_30 : decode cX5_up 30 = .ok (.aload_n 2, 1) := by decide +kernel
theorem dX5_up_31 : decode cX5_up 31 = .ok (.invokestatic 242, 3) := by decide +kernel
theorem dX5_up_34 : decode cX5_up 34 = .ok (.ifCond .ne 11, 3) := by decide +kernel
theorem dX5_up_37 : decode cX5_up 37 = .ok (.aload_n 2, 1) := by decide +kernel
theorem dX5_up_38 : decode cX5_up 38 = .ok (.iconst (-1), 1) := by decide +kernel
theorem dX5_up_39 : decode cX5_up 39 = .ok (.invokestatic 245, 3) := by decide +kernel
theorem dX5_up_42 : decode cX5_up 42 = .ok (.goto 4, 3) := by decide +kernel
theorem dX5_up_45 : decode cX5_up 45 = .ok (.aconst_null, 1) := by decide +kernel
theorem dX5_up_46 : decode cX5_up 46 = .ok (.invokevirtual 101, 3) := by decide +kernel
theorem dX5_up_49 : decode cX5_up 49 = .ok (.ireturn, 1) := by decide +kernel
theorem dX5_below_0 : decode cX5_below 0 = .ok (.aload_n 0, 1) := by decide +kernel
theorem dX5_below_1 : decode cX5_below 1 = .ok (.iconst 1, 1) := by decide +kernel
theorem dX5_below_2 : decode cX5_below 2 = .ok (.invokestatic 245, 3) := by decide +kernel
theorem dX5_below_5 : decode cX5_below 5 = .ok (.astore_n 2, 1) := by decide +kernel
theorem dX5_below_6 : decode cX5_below 6 = .ok (.aload_n 0, 1) := by decide +kernel
theorem dX5_below_7 : decode cX5_below 7 = .ok (.invokestatic 196, 3) := by decide +kernel
theorem dX5_below_10 : decode cX5_below 10 = .ok (.astore_n 3, 1) := by decide +kernel
theorem dX5_below_11 : decode cX5_below 11 = .ok (.aload_n 3, 1) := by decide +kernel
theorem dX5_below_12 : decode cX5_below 12 = .ok (.invokevirtual 204, 3) := by decide +kernel
theorem dX5_below_15 : decode cX5_below 15 = .ok (.iconst 1, 1) := by decide +kernel
theorem dX5_below_16 : decode cX5_below 16 = .ok (.isub, 1) := by decide +kernel
theorem dX5_below_17 : decode cX5_below 17 = .ok (.istore 4, 2) := by decide +kernel
theorem dX5_below_19 : decode cX5_below 19 = .ok (.aload_n 3, 1) := by decide +kernel
theorem dX5_below_20 : decode cX5_below 20 = .ok (.iload 4, 2) := by decide +kernel
theorem dX5_below_22 : decode cX5_below 22 = .ok (.aload_n 3, 1) := by decide +kernel
theorem dX5_below_23 : decode cX5_below 23 = .ok (.iload 4, 2) := by decide +kernel
theorem dX5_below_25 : decode cX5_below 25 = .ok (.invokevirtual 165, 3) := by decide +kernel
theorem dX5_below_28 : decode cX5_below 28 = .ok (.checkcast 142, 3) := by decide +kernel
theorem dX5_below_31 : decode cX5_below 31 = .ok (.invokevirtual 169, 3) := by decide +kernel
theorem dX5_below_34 : decode cX5_below 34 = .ok (.lconst 1, 1) := by decide +kernel
theorem dX5_below_35 : decode cX5_below 35 = .ok (.lsub, 1) := by decide +kernel
theorem dX5_below_36 : decode cX5_below 36 = .ok (.invokestatic 157, 3) := by decide +kernel
theorem dX5_below_39 : decode cX5_below 39 = .ok (.invokevirtual 235, 3) := by decide +kernel
theorem dX5_below_42 : decode cX5_below 42 = .ok (.pop, 1) := by decide +kernel
theorem dX5_below_43 : decode cX5_below 43 = .ok (.aload_n 3, 1) := by decide +kernel
theorem dX5_below_44 : decode cX5_below 44 = .ok (.ldc2_w 248, 3) := by decide +kernel
theorem dX5_below_47 : decode cX5_below 47 = .ok (.invokestatic 157, 3) := by decide +kernel
theorem dX5_below_50 : decode cX5_below 50 = .ok (.invokevirtual 161, 3) := by decide +kernel
theorem dX5_below_53 : decode cX5_below 53 = .ok (.pop, 1) := by decide +kernel
theorem dX5_below_54 : decode cX5_below 54 = .ok (.aload_n 3, 1) := by decide +kernel
theorem dX5_below_55 : decode cX5_below 55 = .ok (.iload 4, 2) := by decide +kernel
theorem dX5_below_57 : decode cX5_below 57 = .ok (.iconst 2, 1) := by decide +kernel
theorem dX5_below_58 : decode cX5_below 58 = .ok (.iadd, 1) := by decide +kernel
theorem dX5_below_59 : decode cX5_below 59 = .ok (.invokestatic 207, 3) := by decide +kernel
theorem dX5_below_62 : decode cX5_below 62 = .ok (.astore 5, 2) := by decide +kernel
theorem dX5_below_64 : decode cX5_below 64 = .ok (.aload_n 2, 1) := by decide +kernel
theorem dX5_below_65 : decode cX5_below 65 = .ok (.aload 5, 2) := by decide +kernel
theorem dX5_below_67 : decode cX5_below 67 = .ok (.invokestatic 93, 3) := by decide +kernel
theorem dX5_below_70 : decode cX5_below 70 = .ok (.ifCond .le 7, 3) := by decide +kernel
theorem dX5_below_73 : decode cX5_below 73 = .ok (.iconst 1, 1) := by decide +kernel
theorem dX5_below_74 : decode cX5_below 74 = .ok (.goto 4, 3) := by decide +kernel
theorem dX5_below_77 : decode cX5_below 77 = .ok (.iconst 0, 1) := by decide +kernel
theorem dX5_below_78 : decode cX5_below 78 = .ok (.iload_n 1, 1) := by decide +kernel
theorem dX5_below_79 : decode cX5_below 79 = .ok (.if_icmp .ne 7, 3) := by decide +kernel
theorem dX5_below_82 : decode cX5_below 82 = .ok (.aload_n 2, 1) := by decide +kernel
theorem dX5_below_83 : decode cX5_below 83 = .ok (.goto 5, 3) := by decide +kernel
theorem dX5_below_86 : decode cX5_below 86 = .ok (.aload 5, 2) := by decide +kernel
theorem dX5_below_88 : decode cX5_below 88 = .ok (.areturn, 1) := by decide +kernel
theorem dX5_down_0 : decode cX5_down 0 = .ok (.aload_n 0, 1) := by decide +kernel
theorem dX5_down_1 : decode cX5_down 1 = .ok (.iload_n 1, 1) := by decide +kernel
theorem dX5_down_2 : decode cX5_down 2 = .ok (.invokestatic 40, 3) := by decide +kernel
theorem dX5_down_5 : decode cX5_down 5 = .ok (.iconst 0, 1) := by decide +kernel
theorem dX5_down_6 : decode cX5_down 6 = .ok (.invokevirtual 97, 3) := by decide +kernel
theorem dX5_down_9 : decode cX5_down 9 = .ok (.ifCond .eq 5, 3) := by decide +kernel
theorem dX5_down_12 : decode cX5_down 12 = .ok (.iconst 0, 1) := by decide +kernel
theorem dX5_down_13 : decode cX5_down 13 = .ok (.ireturn, 1) := by decide +kernel
theorem dX5_down_14 : decode cX5_down 14 = .ok (.aload_n 0, 1) := by decide +kernel
theorem dX5_down_15 : decode cX5_down 15 = .ok (.iload_n 1, 1) := by decide +kernel
theorem dX5_down_16 : decode cX5_down 16 = .ok (.aload_n 0, 1) := by decide +kernel
theorem dX5_down_17 : decode cX5_down 17 = .ok (.getfield 11, 3) := by decide +kernel
theorem dX5_down_20 : decode cX5_down 20 = .ok (.iload_n 1, 1) := by decide +kernel
theorem dX5_down_21 : decode cX5_down 21 = .ok (.aaload, 1) := by decide +kernel
theorem dX5_down_22 : decode cX5_down 22 = .ok (.invokestatic 239, 3) := by decide +kernel
theorem dX5_down_25 : decode cX5_down 25 = .ok (.ifCond .eq 16, 3) := by decide +kernel
theorem dX5_down_28 : decode cX5_down 28 = .ok (.aload_n 0, 1) := by decide +kernel
theorem dX5_down_29 : decode cX5_down 29 = .ok (.getfield 11, 3) := by decide +kernel
theorem dX5_down_32 : decode cX5_down 32 = .ok (.iload_n 1, 1) := by decide +kernel
theorem dX5_down_33 : decode cX5_down 33 = .ok (.aaload, 1) := by decide +kernel
theorem dX5_down_34 : decode cX5_down 34 = .ok (.iload_n 2, 1) := by decide +kernel
theorem dX5_down_35 : decode cX5_down 35 = .ok (.invokestatic 250, 3) := by decide +kernel
theorem dX5_down_38 : decode cX5_down 38 = .ok (.goto 4, 3) := by decide +kernel
theorem dX5_down_41 : decode cX5_down 41 = .ok (.aconst_null, 1) := by decide +kernel
theorem dX5_down_42 : decode cX5_down 42 = .ok (.invokevirtual 101, 3) := by decide +kernel
theorem dX5_down_45 : decode cX5_down 45 = .ok (.ireturn, 1) := by decide +kernel
theorem dX5_depthNow_0 : decode cX5_depthNow 0 = .ok (.aload_n 0, 1) := by decide +kernel
theorem dX5_depthNow_1 : decode cX5_depthNow 1 = .ok (.getfield 11, 3) := by decide +kernel
theorem dX5_depthNow_4 : decode cX5_depthNow 4 = .ok (.iload_n 1, 1) := by decide +kernel
theorem dX5_depthNow_5 : decode cX5_depthNow 5 = .ok (.aaload, 1) := by decide +kernel
theorem dX5_depthNow_6 : decode cX5_depthNow 6 = .ok (.invokestatic 239, 3) := by decide +kernel
theorem dX5_depthNow_9 : decode cX5_depthNow 9 = .ok (.ifCond .ne 6, 3) := by decide +kernel
theorem dX5_depthNow_12 : decode cX5_depthNow 12 = .ok (.bipush (-9), 2) := by decide +kernel
theorem dX5_depthNow_14 : decode cX5_depthNow 14 = .ok (.ireturn, 1) := by decide +kernel
theorem dX5_depthNow_15 : decode cX5_depthNow 15 = .ok (.ldc2_w 54, 3) := by decide +kernel
theorem dX5_depthNow_18 : decode cX5_depthNow 18 = .ok (.lstore_n 2, 1) := by decide +kernel
theorem dX5_depthNow_19 : decode cX5_depthNow 19 = .ok (.aload_n 0, 1) := by decide +kernel
theorem dX5_depthNow_20 : decode cX5_depthNow 20 = .ok (.getfield 11, 3) := by decide +kernel
theorem dX5_depthNow_23 : decode cX5_depthNow 23 = .ok (.iload_n 1, 1) := by decide +kernel
theorem dX5_depthNow_24 : decode cX5_depthNow 24 = .ok (.aaload, 1) := by decide +kernel
theorem dX5_depthNow_25 : decode cX5_depthNow 25 = .ok (.invokestatic 196, 3) := by decide +kernel
theorem dX5_depthNow_28 : decode cX5_depthNow 28 = .ok (.invokevirtual 175, 3) := by decide +kernel
theorem dX5_depthNow_31 : decode cX5_depthNow 31 = .ok (.astore 4, 2) := by decide +kernel
theorem dX5_depthNow_33 : decode cX5_depthNow 33 = .ok (.aload 4, 2) := by decide +kernel
theorem dX5_depthNow_35 : decode cX5_depthNow 35 = .ok (.invokeinterface 179 1, 5) := by decide +kernel
theorem dX5_depthNow_40 : decode cX5_depthNow 40 = .ok (.ifCond .eq 26, 3) := by decide +kernel
theorem dX5_depthNow_43 : decode cX5_depthNow 43 = .ok (.aload 4, 2) := by decide +kernel
theorem dX5_depthNow_45 : decode cX5_depthNow 45 = .ok (.invokeinterface 185 1, 5) := by decide +kernel
theorem dX5_depthNow_50 : decode cX5_depthNow 50 = .ok (.checkcast 142, 3) := by decide +kernel
theorem dX5_depthNow_53 : decode cX5_depthNow 53 = .ok (.invokevirtual 169, 3) := by decide +kernel
theorem dX5_depthNow_56 : decode cX5_depthNow 56 = .ok (.lstore 5, 2) := by decide +kernel
theorem dX5_depthNow_58 : decode cX5_depthNow 58 = .ok (.lload_n 2, 1) := by decide +kernel
theorem dX5_depthNow_59 : decode cX5_depthNow 59 = .ok (.lload 5, 2) := by decide +kernel
theorem dX5_depthNow_61 : decode cX5_depthNow 61 = .ok (.ladd, 1) := by decide +kernel
theorem dX5_depthNow_62 : decode cX5_depthNow 62 = .ok (.lstore_n 2, 1) := by decide +kernel
theorem dX5_depthNow_63 : decode cX5_depthNow 63 = .ok (.goto (-30), 3) := by decide +kernel
theorem dX5_depthNow_66 : decode cX5_depthNow 66 = .ok (.lload_n 2, 1) := by decide +kernel
theorem dX5_depthNow_67 : decode cX5_depthNow 67 = .ok (.l2i, 1) := by decide +kernel
theorem dX5_depthNow_68 : decode cX5_depthNow 68 = .ok (.ireturn, 1) := by decide +kernel
theorem dX5_depth_0 : decode cX5_depth 0 = .ok (.aload_n 0, 1) := by decide +kernel
theorem dX5_depth_1 : decode cX5_depth 1 = .ok (.iload_n 1, 1) := by decide +kernel
theorem dX5_depth_2 : decode cX5_depth 2 = .ok (.invokestatic 40, 3) := by decide +kernel
theorem dX5_depth_5 : decode cX5_depth 5 = .ok (.iconst 0, 1) := by decide +kernel
theorem dX5_depth_6 : decode cX5_depth 6 = .ok (.invokevirtual 97, 3) := by decide +kernel
theorem dX5_depth_9 : decode cX5_depth 9 = .ok (.ifCond .eq 7, 3) := by decide +kernel
theorem dX5_depth_12 : decode cX5_depth 12 = .ok (.iconst 0, 1) := by decide +kernel
theorem dX5_depth_13 : decode cX5_depth 13 = .ok (.goto 8, 3) := by decide +kernel
theorem dX5_depth_16 : decode cX5_depth 16 = .ok (.aload_n 0, 1) := by decide +kernel
theorem dX5_depth_17 : decode cX5_depth 17 = .ok (.iload_n 1, 1) := by decide +kernel
theorem dX5_depth_18 : decode cX5_depth 18 = .ok (.invokevirtual 254, 3) := by decide +kernel
theorem dX5_depth_21 : decode cX5_depth 21 = .ok (.ireturn, 1) := by decide +kernel
theorem dX5_wayNow_0 : decode cX5_wayNow 0 = .ok (.aload_n 0, 1) := by decide +kernel
theorem dX5_wayNow_1 : decode cX5_wayNow 1 = .ok (.getfield 11, 3) := by decide +kernel
theorem dX5_wayNow_4 : decode cX5_wayNow 4 = .ok (.iload_n 1, 1) := by decide +kernel
theorem dX5_wayNow_5 : decode cX5_wayNow 5 = .ok (.aaload, 1) := by decide +kernel
theorem dX5_wayNow_6 : decode cX5_wayNow 6 = .ok (.invokestatic 239, 3) := by decide +kernel
theorem dX5_wayNow_9 : decode cX5_wayNow 9 = .ok (.ifCond .ne 7, 3) := by decide +kernel
theorem dX5_wayNow_12 : decode cX5_wayNow 12 = .ok (.ldc_w 257, 3) := by decide +kernel
theorem dX5_wayNow_15 : decode cX5_wayNow 15 = .ok (.areturn, 1) := by decide +kernel
theorem dX5_wayNow_16 : decode cX5_wayNow 16 = .ok (.aload_n 0, 1) := by decide +kernel
theorem dX5_wayNow_17 : decode cX5_wayNow 17 = .ok (.getfield 11, 3) := by decide +kernel
theorem dX5_wayNow_20 : decode cX5_wayNow 20 = .ok (.iload_n 1, 1) := by decide +kernel
theorem dX5_wayNow_21 : decode cX5_wayNow 21 = .ok (.aaload, 1) := by decide +kernel
theorem dX5_wayNow_22 : decode cX5_wayNow 22 = .ok (.invokestatic 196, 3) := by decide +kernel
theorem dX5_wayNow_25 : decode cX5_wayNow 25 = .ok (.astore_n 2, 1) := by decide +kernel
theorem dX5_wayNow_26 : decode cX5_wayNow 26 = .ok (.ldc 67, 2) := by decide +kernel
theorem dX5_wayNow_28 : decode cX5_wayNow 28 = .ok (.astore_n 3, 1) := by decide +kernel
theorem dX5_wayNow_29 : decode cX5_wayNow 29 = .ok (.iconst 0, 1) := by decide +kernel
theorem dX5_wayNow_30 : decode cX5_wayNow 30 = .ok (.istore 4, 2) := by decide +kernel
theorem dX5_wayNow_32 : decode cX5_wayNow 32 = .ok (.iload 4, 2) := by decide +kernel
theorem dX5_wayNow_34 : decode cX5_wayNow 34 = .ok (.aload_n 2, 1) := by decide +kernel
theorem dX5_wayNow_35 : decode cX5_wayNow 35 = .ok (.invokevirtual 204, 3) := by decide +kernel
theorem dX5_wayNow_38 : decode cX5_wayNow 38 = .ok (.if_icmp .ge 107, 3) := by decide +kernel
theorem dX5_wayNow_41 : decode cX5_wayNow 41 = .ok (.aload_n 2, 1) := by decide +kernel
theorem dX5_wayNow_42 : decode cX5_wayNow 42 = .ok (.iload 4, 2) := by decide +kernel
theorem dX5_wayNow_44 : decode cX5_wayNow 44 = .ok (.invokevirtual 165, 3) := by decide +kernel
theorem dX5_wayNow_47 : decode cX5_wayNow 47 = .ok (.checkcast 142, 3) := by decide +kernel
theorem dX5_wayNow_50 : decode cX5_wayNow 50 = .ok (.invokevirtual 169, 3) := by decide +kernel
theorem dX5_wayNow_53 : decode cX5_wayNow 53 = .ok (.iload 4, 2) := by decide +kernel
theorem dX5_wayNow_55 : decode cX5_wayNow 55 = .ok (.aload_n 2, 1) := by decide +kernel
theorem dX5_wayNow_56 : decode cX5_wayNow 56 = .ok (.invokevirtual 204, 3) := by decide +kernel
theorem dX5_wayNow_59 : decode cX5_wayNow 59 = .ok (.iconst 1, 1) := by decide +kernel
theorem dX5_wayNow_60 : decode cX5_wayNow 60 = .ok (.isub, 1) := by decide +kernel
theorem dX5_wayNow_61 : decode cX5_wayNow 61 = .ok (.if_icmp .ne 7, 3) := by decide +kernel
theorem dX5_wayNow_64 : decode cX5_wayNow 64 = .ok (.iconst 1, 1) := by decide +kernel
theorem dX5_wayNow_65 : decode cX5_wayNow 65 = .ok (.goto 4, 3) := by decide +kernel
theorem dX5_wayNow_68 : decode cX5_wayNow 68 = .ok (.iconst 0, 1) := by decide +kernel
theorem dX5_wayNow_69 : decode cX5_wayNow 69 = .ok (.invokestatic 60, 3) := by decide +kernel
theorem dX5_wayNow_72 : decode cX5_wayNow 72 = .ok (.i2l, 1) := by decide +kernel
theorem dX5_wayNow_73 : decode cX5_wayNow 73 = .ok (.lsub, 1) := by decide +kernel
theorem dX5_wayNow_74 : decode cX5_wayNow 74 = .ok (.lstore 5, 2) := by decide +kernel
theorem dX5_wayNow_76 : decode cX5_wayNow 76 = .ok (.lload 5, 2) := by decide +kernel
theorem dX5_wayNow_78 : decode cX5_wayNow 78 = .ok (.lconst 0, 1) := by decide +kernel
theorem dX5_wayNow_79 : decode cX5_wayNow 79 = .ok (.lcmp, 1) := by decide +kernel
theorem dX5_wayNow_80 : decode cX5_wayNow 80 = .ok (.ifCond .le 59, 3) := by decide +kernel
theorem dX5_wayNow_83 : decode cX5_wayNow 83 = .ok (.new 64, 3) := by decide +kernel
theorem dX5_wayNow_86 : decode cX5_wayNow 86 = .ok (.dup, 1) := by decide +kernel
theorem dX5_wayNow_87 : decode cX5_wayNow 87 = .ok (.invokespecial 66, 3) := by decide +kernel
theorem dX5_wayNow_90 : decode cX5_wayNow 90 = .ok (.aload_n 3, 1) := by decide +kernel
theorem dX5_wayNow_91 : decode cX5_wayNow 91 = .ok (.invokevirtual 69, 3) := by decide +kernel
theorem dX5_wayNow_94 : decode cX5_wayNow 94 = .ok (.aload_n 3, 1) := by decide +kernel
theorem dX5_wayNow_95 : decode cX5_wayNow 95 = .ok (.invokevirtual 189, 3) := by decide +kernel
theorem dX5_wayNow_98 : decode cX5_wayNow 98 = .ok (.ifCond .eq 8, 3) := by decide +kernel
theorem dX5_wayNow_101 : decode cX5_wayNow 101 = .ok (.ldc 67, 2) := by decide +kernel
theorem dX5_wayNow_103 : decode cX5_wayNow 103 = .ok (.goto 5, 3) := by decide +kernel
theorem dX5_wayNow_106 : decode cX5_wayNow 106 = .ok (.ldc 194, 2) := by decide +kernel
theorem dX5_wayNow_108 : decode cX5_wayNow 108 = .ok (.invokevirtual 69, 3) := by decide +kernel
theorem dX5_wayNow_111 : decode cX5_wayNow 111 = .ok (.iload 4, 2) := by decide +kernel
theorem dX5_wayNow_113 : decode cX5_wayNow 113 = .ok (.iconst 2, 1) := by decide +kernel
theorem dX5_wayNow_114 : decode cX5_wayNow 114 = .ok (.irem, 1) := by decide +kernel
theorem dX5_wayNow_115 : decode cX5_wayNow 115 = .ok (.ifCond .ne 9, 3) := by decide +kernel
theorem dX5_wayNow_118 : decode cX5_wayNow 118 = .ok (.ldc_w 259, 3) := by decide +kernel
theorem dX5_wayNow_121 : decode cX5_wayNow 121 = .ok (.goto 6, 3) := by decide +kernel
theorem dX5_wayNow_124 : decode cX5_wayNow 124 = .ok (.ldc_w 261, 3) := by decide +kernel
theorem dX5_wayNow_127 : decode cX5_wayNow 127 = .ok (.invokevirtual 69, 3) := by decide +kernel
theorem dX5_wayNow_130 : decode cX5_wayNow 130 = .ok (.lload 5, 2) := by decide +kernel
theorem dX5_wayNow_132 : decode cX5_wayNow 132 = .ok (.invokevirtual 73, 3) := by decide +kernel
theorem dX5_wayNow_135 : decode cX5_wayNow 135 = .ok (.invokevirtual 76, 3) := by decide +kernel
theorem dX5_wayNow_138 : decode cX5_wayNow 138 = .ok (.astore_n 3, 1) := by decide +kernel
theorem dX5_wayNow_139 : decode cX5_wayNow 139 = .ok (.iinc 4 1, 3) := by decide +kernel
theorem dX5_wayNow_142 : decode cX5_wayNow 142 = .ok (.goto (-110), 3) := by decide +kernel
theorem dX5_wayNow_145 : decode cX5_wayNow 145 = .ok (.aload_n 3, 1) := by decide +kernel
theorem dX5_wayNow_146 : decode cX5_wayNow 146 = .ok (.areturn, 1) := by decide +kernel
theorem dX5_way_0 : decode cX5_way 0 = .ok (.aload_n 0, 1) := by decide +kernel
theorem dX5_way_1 : decode cX5_way 1 = .ok (.iload_n 1, 1) := by decide +kernel
theorem dX5_way_2 : decode cX5_way 2 = .ok (.invokestatic 40, 3) := by decide +kernel
theorem dX5_way_5 : decode cX5_way 5 = .ok (.iconst 0, 1) := by decide +kernel
theorem dX5_way_6 : decode cX5_way 6 = .ok (.invokevirtual 97, 3) := by decide +kernel
theorem dX5_way_9 : decode cX5_way 9 = .ok (.ifCond .eq 8, 3) := by decide +kernel
theorem dX5_way_12 : decode cX5_way 12 = .ok (.ldc 67, 2) := by decide +kernel
theorem dX5_way_14 : decode cX5_way 14 = .ok (.goto 8, 3) := by decide +kernel
theorem dX5_way_17 : decode cX5_way 17 = .ok (.aload_n 0, 1) := by decide +kernel
theorem dX5_way_18 : decode cX5_way 18 = .ok (.iload_n 1, 1) := by decide +kernel
theorem dX5_way_19 : decode cX5_way 19 = .ok (.invokevirtual 263, 3) := by decide +kernel
theorem dX5_way_22 : decode cX5_way 22 = .ok (.areturn, 1) := by decide +kernel
theorem dX5_nextOf_0 : decode cX5_nextOf 0 = .ok (.aload_n 0, 1) := by decide +kernel
theorem dX5_nextOf_1 : decode cX5_nextOf 1 = .ok (.iconst 1, 1) := by decide +kernel
theorem dX5_nextOf_2 : decode cX5_nextOf 2 = .ok (.laload, 1) := by decide +kernel
theorem dX5_nextOf_3 : decode cX5_nextOf 3 = .ok (.ldc2_w 248, 3) := by decide +kernel
theorem dX5_nextOf_6 : decode cX5_nextOf 6 = .ok (.aload_n 0, 1) := by decide +kernel
theorem dX5_nextOf_7 : decode cX5_nextOf 7 = .ok (.iconst 0, 1) := by decide +kernel
theorem dX5_nextOf_8 : decode cX5_nextOf 8 = .ok (.laload, 1) := by decide +kernel
theorem dX5_nextOf_9 : decode cX5_nextOf 9 = .ok (.aload_n 0, 1) := by decide +kernel
theorem dX5_nextOf_10 : decode cX5_nextOf 10 = .ok (.iconst 1, 1) := by decide +kernel
theorem dX5_nextOf_11 : decode cX5_nextOf 11 = .ok (.laload, 1) := by decide +kernel
theorem dX5_nextOf_12 : decode cX5_nextOf 12 = .ok (.invokestatic 147, 3) := by decide +kernel
theorem dX5_nextOf_15 : decode cX5_nextOf 15 = .ok (.lmul, 1) := by decide +kernel
theorem dX5_nextOf_16 : decode cX5_nextOf 16 = .ok (.lconst 1, 1) := by decide +kernel
theorem dX5_nextOf_17 : decode cX5_nextOf 17 = .ok (.ladd, 1) := by decide +kernel
theorem dX5_nextOf_18 : decode cX5_nextOf 18 = .ok (.aload_n 0, 1) := by decide +kernel
theorem dX5_nextOf_19 : decode cX5_nextOf 19 = .ok (.iconst 1, 1) := by decide +kernel
theorem dX5_nextOf_20 : decode cX5_nextOf 20 = .ok (.laload, 1) := by decide +kernel
theorem dX5_nextOf_21 : decode cX5_nextOf 21 = .ok (.lmul, 1) := by decide +kernel
theorem dX5_nextOf_22 : decode cX5_nextOf 22 = .ok (.aload_n 0, 1) := by decide +kernel
theorem dX5_nextOf_23 : decode cX5_nextOf 23 = .ok (.iconst 0, 1) := by decide +kernel
theorem dX5_nextOf_24 : decode cX5_nextOf 24 = .ok (.laload, 1) := by decide +kernel
theorem dX5_nextOf_25 : decode cX5_nextOf 25 = .ok (.lsub, 1) := by decide +kernel
theorem dX5_nextOf_26 : decode cX5_nextOf 26 = .ok (.invokestatic 28, 3) := by decide +kernel
theorem dX5_nextOf_29 : decode cX5_nextOf 29 = .ok (.areturn, 1) := by decide +kernel
theorem dX5_next_0 : decode cX5_next 0 = .ok (.aload_n 0, 1) := by decide +kernel
theorem dX5_next_1 : decode cX5_next 1 = .ok (.iload_n 1, 1) := by decide +kernel
theorem dX5_next_2 : decode cX5_next 2 = .ok (.invokestatic 40, 3) := by decide +kernel
theorem dX5_next_5 : decode cX5_next 5 = .ok (.iload_n 2, 1) := by decide +kernel
theorem dX5_next_6 : decode cX5_next 6 = .ok (.iconst 1, 1) := by decide +kernel
theorem dX5_next_7 : decode cX5_next 7 = .ok (.bipush 50, 2) := by decide +kernel
theorem dX5_next_9 : decode cX5_next 9 = .ok (.invokestatic 36, 3) := by decide +kernel
theorem dX5_next_12 : decode cX5_next 12 = .ok (.ifCond .ne 7, 3) := by decide +kernel
theorem dX5_next_15 : decode cX5_next 15 = .ok (.iconst 1, 1) := by decide +kernel
theorem dX5_next_16 : decode cX5_next 16 = .ok (.goto 4, 3) := by decide +kernel
theorem dX5_next_19 : decode cX5_next 19 = .ok (.iconst 0, 1) := by decide +kernel
theorem dX5_next_20 : decode cX5_next 20 = .ok (.invokevirtual 97, 3) := by decide +kernel
theorem dX5_next_23 : decode cX5_next 23 = .ok (.ifCond .eq 5, 3) := by decide +kernel
theorem dX5_next_26 : decode cX5_next 26 = .ok (.iconst 0, 1) := by decide +kernel
theorem dX5_next_27 : decode cX5_next 27 = .ok (.ireturn, 1) := by decide +kernel
theorem dX5_next_28 : decode cX5_next 28 = .ok (.aload_n 0, 1) := by decide +kernel
theorem dX5_next_29 : decode cX5_next 29 = .ok (.getfield 11, 3) := by decide +kernel
theorem dX5_next_32 : decode cX5_next 32 = .ok (.iload_n 1, 1) := by decide +kernel
theorem dX5_next_33 : decode cX5_next 33 = .ok (.aaload, 1) := by decide +kernel
theorem dX5_next_34 : decode cX5_next 34 = .ok (.invokestatic 239, 3) := by decide +kernel
theorem dX5_next_37 : decode cX5_next 37 = .ok (.ifCond .eq 12, 3) := by decide +kernel
theorem dX5_next_40 : decode cX5_next 40 = .ok (.aload_n 0, 1) := by decide +kernel
theorem dX5_next_41 : decode cX5_next 41 = .ok (.getfield 11, 3) := by decide +kernel
theorem dX5_next_44 : decode cX5_next 44 = .ok (.iload_n 1, 1) := by decide +kernel
theorem dX5_next_45 : decode cX5_next 45 = .ok (.aaload, 1) := by decide +kernel
theorem dX5_next_46 : decode cX5_next 46 = .ok (.goto 4, 3) := by decide +kernel
theorem dX5_next_49 : decode cX5_next 49 = .ok (.aconst_null, 1) := by decide +kernel
theorem dX5_next_50 : decode cX5_next 50 = .ok (.astore_n 3, 1) := by decide +kernel
theorem dX5_next_51 : decode cX5_next 51 = .ok (.iconst 0, 1) := by decide +kernel
theorem dX5_next_52 : decode cX5_next 52 = .ok (.istore 4, 2) := by decide +kernel
theorem dX5_next_54 : decode cX5_next 54 = .ok (.iload 4, 2) := by decide +kernel
theorem dX5_next_56 : decode cX5_next 56 = .ok (.iload_n 2, 1) := by decide +kernel
theorem dX5_next_57 : decode cX5_next 57 = .ok (.if_icmp .ge 21, 3) := by decide +kernel
theorem dX5_next_60 : decode cX5_next 60 = .ok (.aload_n 3, 1) := by decide +kernel
theorem dX5_next_61 : decode cX5_next 61 = .ok (.invokestatic 85, 3) := by decide +kernel
theorem dX5_next_64 : decode cX5_next 64 = .ok (.ifCond .eq 14, 3) := by decide +kernel
theorem dX5_next_67 : decode cX5_next 67 = .ok (.aload_n 3, 1) := by decide +kernel
theorem dX5_next_68 : decode cX5_next 68 = .ok (.invokestatic 267, 3) := by decide +kernel
theorem dX5_next_71 : decode cX5_next 71 = .ok (.astore_n 3, 1) := by decide +kernel
theorem dX5_next_72 : decode cX5_next 72 = .ok (.iinc 4 1, 3) := by decide +kernel
theorem dX5_next_75 : decode cX5_next 75 = .ok (.goto (-21), 3) := by decide +kernel
theorem dX5_next_78 : decode cX5_next 78 = .ok (.aload_n 3, 1) := by decide +kernel
theorem dX5_next_79 : decode cX5_next 79 = .ok (.invokestatic 85, 3) := by decide +kernel
theorem dX5_next_82 : decode cX5_next 82 = .ok (.ifCond .eq 14, 3) := by decide +kernel
theorem dX5_next_85 : decode cX5_next 85 = .ok (.aload_n 0, 1) := by decide +kernel
theorem dX5_next_86 : decode cX5_next 86 = .ok (.iload_n 1, 1) := by decide +kernel
theorem dX5_next_87 : decode cX5_next 87 = .ok (.aload_n 3, 1) := by decide +kernel
theorem dX5_next_88 : decode cX5_next 88 = .ok (.invokevirtual 101, 3) := by decide +kernel
theorem dX5_next_91 : decode cX5_next 91 = .ok (.iconst 1, 1) := by decide +kernel
theorem dX5_next_92 : decode cX5_next 92 = .ok (.ior, 1) := by decide +kernel
theorem dX5_next_93 : decode cX5_next 93 = .ok (.goto 7, 3) := by decide +kernel
theorem dX5_next_96 : decode cX5_next 96 = .ok (.aload_n 0, 1) := by decide +kernel
theorem dX5_next_97 : decode cX5_next 97 = .ok (.invokevirtual 89, 3) := by decide +kernel
theorem dX5_next_100 : decode cX5_next 100 = .ok (.ireturn, 1) := by decide +kernel
theorem dX5_before_0 : decode cX5_before 0 = .ok (.aload_n 0, 1) := by decide +kernel
theorem dX5_before_1 : decode cX5_before 1 = .ok (.iload_n 1, 1) := by decide +kernel
theorem dX5_before_2 : decode cX5_before 2 = .ok (.invokestatic 40, 3) := by decide +kernel
theorem dX5_before_5 : decode cX5_before 5 = .ok (.iconst 0, 1) := by decide +kernel
theorem dX5_before_6 : decode cX5_before 6 = .ok (.invokevirtual 97, 3) := by decide +kernel
theorem dX5_before_9 : decode cX5_before 9 = .ok (.ifCond .eq 5, 3) := by decide +kernel
theorem dX5_before_12 : decode cX5_before 12 = .ok (.iconst 0, 1) := by decide +kernel
theorem dX5_before_13 : decode cX5_before 13 = .ok (.ireturn, 1) := by decide +kernel
theorem dX5_before_14 : decode cX5_before 14 = .ok (.aload_n 0, 1) := by decide +kernel
theorem dX5_before_15 : decode cX5_before 15 = .ok (.getfield 11, 3) := by decide +kernel
theorem dX5_before_18 : decode cX5_before 18 = .ok (.iload_n 1, 1) := by decide +kernel
theorem dX5_before_19 : decode cX5_before 19 = .ok (.aaload, 1) := by decide +kernel
theorem dX5_before_20 : decode cX5_before 20 = .ok (.astore_n 2, 1) := by decide +kernel
theorem dX5_before_21 : decode cX5_before 21 = .ok (.aload_n 2, 1) := by decide +kernel
theorem dX5_before_22 : decode cX5_before 22 = .ok (.invokestatic 239, 3) := by decide +kernel
theorem dX5_before_25 : decode cX5_before 25 = .ok (.ifCond .eq 10, 3) := by decide +kernel
theorem dX5_before_28 : decode cX5_before 28 = .ok (.aload_n 2, 1) := by decide +kernel
theorem dX5_before_29 : decode cX5_before 29 = .ok (.invokestatic 242, 3) := by decide +kernel
theorem dX5_before_32 : decode cX5_before 32 = .ok (.ifCond .eq 8, 3) := by decide +kernel
theorem dX5_before_35 : decode cX5_before 35 = .ok (.aload_n 0, 1) := by decide +kernel
theorem dX5_before_36 : decode cX5_before 36 = .ok (.invokevirtual 89, 3) := by decide +kernel
theorem dX5_before_39 : decode cX5_before 39 = .ok (.ireturn, 1) := by decide +kernel
theorem dX5_before_40 : decode cX5_before 40 = .ok (.aload_n 2, 1) := by decide +kernel
theorem dX5_before_41 : decode cX5_before 41 = .ok (.iconst 1, 1) := by decide +kernel
theorem dX5_before_42 : decode cX5_before 42 = .ok (.laload, 1) := by decide +kernel
theorem dX5_before_43 : decode cX5_before 43 = .ok (.lneg, 1) := by decide +kernel
theorem dX5_before_44 : decode cX5_before 44 = .ok (.aload_n 2, 1) := by decide +kernel
theorem dX5_before_45 : decode cX5_before 45 = .ok (.iconst 0, 1) := by decide +kernel
theorem dX5_before_46 : decode cX5_before 46 = .ok (.laload, 1) := by decide +kernel
theorem dX5_before_47 : decode cX5_before 47 = .ok (.invokestatic 147, 3) := by decide +kernel
theorem dX5_before_50 : decode cX5_before 50 = .ok (.lneg, 1) := by decide +kernel
theorem dX5_before_51 : decode cX5_before 51 = .ok (.lstore_n 3, 1) := by decide +kernel
theorem dX5_before_52 : decode cX5_before 52 = .ok (.aload_n 0, 1) := by decide +kernel
theorem dX5_before_53 : decode cX5_before 53 = .ok (.iload_n 1, 1) := by decide +kernel
theorem dX5_before_54 : decode cX5_before 54 = .ok (.ldc2_w 248, 3) := by decide +kernel
theorem dX5_before_57 : decode cX5_before 57 = .ok (.lload_n 3, 1) := by decide +kernel
theorem dX5_before_58 : decode cX5_before 58 = .ok (.lmul, 1) := by decide +kernel
theorem dX5_before_59 : decode cX5_before 59 = .ok (.lconst 1, 1) := by decide +kernel
theorem dX5_before_60 : decode cX5_before 60 = .ok (.lsub, 1) := by decide +kernel
theorem dX5_before_61 : decode cX5_before 61 = .ok (.aload_n 2, 1) := by decide +kernel
theorem dX5_before_62 : decode cX5_before 62 = .ok (.iconst 0, 1) := by decide +kernel
theorem dX5_before_63 : decode cX5_before 63 = .ok (.laload, 1) := by decide +kernel
theorem dX5_before_64 : decode cX5_before 64 = .ok (.lmul, 1) := by decide +kernel
theorem dX5_before_65 : decode cX5_before 65 = .ok (.aload_n 2, 1) := by decide +kernel
theorem dX5_before_66 : decode cX5_before 66 = .ok (.iconst 1, 1) := by decide +kernel
theorem dX5_before_67 : decode cX5_before 67 = .ok (.laload, 1) := by decide +kernel
theorem dX5_before_68 : decode cX5_before 68 = .ok (.lsub, 1) := by decide +kernel
theorem dX5_before_69 : decode cX5_before 69 = .ok (.aload_n 2, 1) := by decide +kernel
theorem dX5_before_70 : decode cX5_before 70 = .ok (.iconst 0, 1) := by decide +kernel
theorem dX5_before_71 : decode cX5_before 71 = .ok (.laload, 1) := by decide +kernel
theorem dX5_before_72 : decode cX5_before 72 = .ok (.invokestatic 28, 3) := by decide +kernel
theorem dX5_before_75 : decode cX5_before 75 = .ok (.invokevirtual 101, 3) := by decide +kernel
theorem dX5_before_78 : decode cX5_before 78 = .ok (.ireturn, 1) := by decide +kernel
theorem dX5_cutOf_0 : decode cX5_cutOf 0 = .ok (.lload_n 0, 1) := by decide +kernel
theorem dX5_cutOf_1 : decode cX5_cutOf 1 = .ok (.iload 4, 2) := by decide +kernel
theorem dX5_cutOf_3 : decode cX5_cutOf 3 = .ok (.invokestatic 107, 3) := by decide +kernel
theorem dX5_cutOf_6 : decode cX5_cutOf 6 = .ok (.lmul, 1) := by decide +kernel
theorem dX5_cutOf_7 : decode cX5_cutOf 7 = .ok (.lstore 6, 2) := by decide +kernel
theorem dX5_cutOf_9 : decode cX5_cutOf 9 = .ok (.lload 6, 2) := by decide +kernel
theorem dX5_cutOf_11 : decode cX5_cutOf 11 = .ok (.lload_n 2, 1) := by decide +kernel
theorem dX5_cutOf_12 : decode cX5_cutOf 12 = .ok (.invokestatic 147, 3) := by decide +kernel
theorem dX5_cutOf_15 : decode cX5_cutOf 15 = .ok (.lstore 8, 2) := by decide +kernel
theorem dX5_cutOf_17 : decode cX5_cutOf 17 = .ok (.lload 6, 2) := by decide +kernel
theorem dX5_cutOf_19 : decode cX5_cutOf 19 = .ok (.lload 8, 2) := by decide +kernel
theorem dX5_cutOf_21 : decode cX5_cutOf 21 = .ok (.lload_n 2, 1) := by decide +kernel
theorem dX5_cutOf_22 : decode cX5_cutOf 22 = .ok (.lmul, 1) := by decide +kernel
theorem dX5_cutOf_23 : decode cX5_cutOf 23 = .ok (.lsub, 1) := by decide +kernel
theorem dX5_cutOf_24 : decode cX5_cutOf 24 = .ok (.lstore 10, 2) := by decide +kernel
theorem dX5_cutOf_26 : decode cX5_cutOf 26 = .ok (.lload 10, 2) := by decide +kernel
theorem dX5_cutOf_28 : decode cX5_cutOf 28 = .ok (.lconst 0, 1) := by decide +kernel
theorem dX5_cutOf_29 : decode cX5_cutOf 29 = .ok (.lcmp, 1) := by decide +kernel
theorem dX5_cutOf_30 : decode cX5_cutOf 30 = .ok (.ifCond .eq 9, 3) := by decide +kernel
theorem dX5_cutOf_33 : decode cX5_cutOf 33 = .ok (.iload 5, 2) := by decide +kernel
theorem dX5_cutOf_35 : decode cX5_cutOf 35 = .ok (.iconst 1, 1) := by decide +kernel
theorem dX5_cutOf_36 : decode cX5_cutOf 36 = .ok (.if_icmp .ne 6, 3) := by decide +kernel
theorem dX5_cutOf_39 : decode cX5_cutOf 39 = .ok (.lload 8, 2) := by decide +kernel
theorem dX5_cutOf_41 : decode cX5_cutOf 41 = .ok (.lreturn, 1) := by decide +kernel
theorem dX5_cutOf_42 : decode cX5_cutOf 42 = .ok (.iload 5, 2) := by decide +kernel
theorem dX5_cutOf_44 : decode cX5_cutOf 44 = .ok (.iconst 2, 1) := by decide +kernel
theorem dX5_cutOf_45 : decode cX5_cutOf 45 = .ok (.if_icmp .ne 8, 3) := by decide +kernel
theorem dX5_cutOf_48 : decode cX5_cutOf 48 = .ok (.lload 8, 2) := by decide +kernel
theorem dX5_cutOf_50 : decode cX5_cutOf 50 = .ok (.lconst 1, 1) := by decide +kernel
theorem dX5_cutOf_51 : decode cX5_cutOf 51 = .ok (.ladd, 1) := by decide +kernel
theorem dX5_cutOf_52 : decode cX5_cutOf 52 = .ok (.lreturn, 1) := by decide +kernel
theorem dX5_cutOf_53 : decode cX5_cutOf 53 = .ok (.iload 5, 2) := by decide +kernel
theorem dX5_cutOf_55 : decode cX5_cutOf 55 = .ok (.ifCond .ne 19, 3) := by decide +kernel
theorem dX5_cutOf_58 : decode cX5_cutOf 58 = .ok (.lload_n 0, 1) := by decide +kernel
theorem dX5_cutOf_59 : decode cX5_cutOf 59 = .ok (.lconst 0, 1) := by decide +kernel
theorem dX5_cutOf_60 : decode cX5_cutOf 60 = .ok (.lcmp, 1) := by decide +kernel
theorem dX5_cutOf_61 : decode cX5_cutOf 61 = .ok (.ifCond .ge 10, 3) := by decide +kernel
theorem dX5_cutOf_64 : decode cX5_cutOf 64 = .ok (.lload 8, 2) := by decide +kernel
theorem dX5_cutOf_66 : decode cX5_cutOf 66 = .ok (.lconst 1, 1) := by decide +kernel
theorem dX5_cutOf_67 : decode cX5_cutOf 67 = .ok (.ladd, 1) := by decide +kernel
theorem dX5_cutOf_68 : decode cX5_cutOf 68 = .ok (.goto 5, 3) := by decide +kernel
theorem dX5_cutOf_71 : decode cX5_cutOf 71 = .ok (.lload 8, 2) := by decide +kernel
theorem dX5_cutOf_73 : decode cX5_cutOf 73 = .ok (.lreturn, 1) := by decide +kernel
theorem dX5_cutOf_74 : decode cX5_cutOf 74 = .ok (.ldc2_w 248, 3) := by decide +kernel
theorem dX5_cutOf_77 : decode cX5_cutOf 77 = .ok (.lload 10, 2) := by decide +kernel
theorem dX5_cutOf_79 : decode cX5_cutOf 79 = .ok (.lmul, 1) := by decide +kernel
theorem dX5_cutOf_80 : decode cX5_cutOf 80 = .ok (.lload_n 2, 1) := by decide +kernel
theorem dX5_cutOf_81 : decode cX5_cutOf 81 = .ok (.lcmp, 1) := by decide +kernel
theorem dX5_cutOf_82 : decode cX5_cutOf 82 = .ok (.ifCond .eq 24, 3) := by decide +kernel
theorem dX5_cutOf_85 : decode cX5_cutOf 85 = .ok (.ldc2_w 248, 3) := by decide +kernel
theorem dX5_cutOf_88 : decode cX5_cutOf 88 = .ok (.lload 10, 2) := by decide +kernel
theorem dX5_cutOf_90 : decode cX5_cutOf 90 = .ok (.lmul, 1) := by decide +kernel
theorem dX5_cutOf_91 : decode cX5_cutOf 91 = .ok (.lload_n 2, 1) := by decide +kernel
theorem dX5_cutOf_92 : decode cX5_cutOf 92 = .ok (.lcmp, 1) := by decide +kernel
theorem dX5_cutOf_93 : decode cX5_cutOf 93 = .ok (.ifCond .ge 8, 3) := by decide +kernel
theorem dX5_cutOf_96 : decode cX5_cutOf 96 = .ok (.lload 8, 2) := by decide +kernel
theorem dX5_cutOf_98 : decode cX5_cutOf 98 = .ok (.goto 7, 3) := by decide +kernel
theorem dX5_cutOf_101 : decode cX5_cutOf 101 = .ok (.lload 8, 2) := by decide +kernel
theorem dX5_cutOf_103 : decode cX5_cutOf 103 = .ok (.lconst 1, 1) := by decide +kernel
theorem dX5_cutOf_104 : decode cX5_cutOf 104 = .ok (.ladd, 1) := by decide +kernel
theorem dX5_cutOf_105 : decode cX5_cutOf 105 = .ok (.lreturn, 1) := by decide +kernel
theorem dX5_cutOf_106 : decode cX5_cutOf 106 = .ok (.iload 5, 2) := by decide +kernel
theorem dX5_cutOf_108 : decode cX5_cutOf 108 = .ok (.iconst 3, 1) := by decide +kernel
theorem dX5_cutOf_109 : decode cX5_cutOf 109 = .ok (.if_icmp .ne 19, 3) := by decide +kernel
theorem dX5_cutOf_112 : decode cX5_cutOf 112 = .ok (.lload_n 0, 1) := by decide +kernel
theorem dX5_cutOf_113 : decode cX5_cutOf 113 = .ok (.lconst 0, 1) := by decide +kernel
theorem dX5_cutOf_114 : decode cX5_cutOf 114 = .ok (.lcmp, 1) := by decide +kernel
theorem dX5_cutOf_115 : decode cX5_cutOf 115 = .ok (.ifCond .ge 8, 3) := by decide +kernel
theorem dX5_cutOf_118 : decode cX5_cutOf 118 = .ok (.lload 8, 2) := by decide +kernel
theorem dX5_cutOf_120 : decode cX5_cutOf 120 = .ok (.goto 7, 3) := by decide +kernel
theorem dX5_cutOf_123 : decode cX5_cutOf 123 = .ok (.lload 8, 2) := by decide +kernel
theorem dX5_cutOf_125 : decode cX5_cutOf 125 = .ok (.lconst 1, 1) := by decide +kernel
theorem dX5_cutOf_126 : decode cX5_cutOf 126 = .ok (.ladd, 1) := by decide +kernel
theorem dX5_cutOf_127 : decode cX5_cutOf 127 = .ok (.lreturn, 1) := by decide +kernel
theorem dX5_cutOf_128 : decode cX5_cutOf 128 = .ok (.lload 8, 2) := by decide +kernel
theorem dX5_cutOf_130 : decode cX5_cutOf 130 = .ok (.ldc2_w 248, 3) := by decide +kernel
theorem dX5_cutOf_133 : decode cX5_cutOf 133 = .ok (.lrem, 1) := by decide +kernel
theorem dX5_cutOf_134 : decode cX5_cutOf 134 = .ok (.lconst 0, 1) := by decide +kernel
theorem dX5_cutOf_135 : decode cX5_cutOf 135 = .ok (.lcmp, 1) := by decide +kernel
theorem dX5_cutOf_136 : decode cX5_cutOf 136 = .ok (.ifCond .ne 8, 3) := by decide +kernel
theorem dX5_cutOf_139 : decode cX5_cutOf 139 = .ok (.lload 8, 2) := by decide +kernel
theorem dX5_cutOf_141 : decode cX5_cutOf 141 = .ok (.goto 7, 3) := by decide +kernel
theorem dX5_cutOf_144 : decode cX5_cutOf 144 = .ok (.lload 8, 2) := by decide +kernel
theorem dX5_cutOf_146 : decode cX5_cutOf 146 = .ok (.lconst 1, 1) := by decide +kernel
theorem dX5_cutOf_147 : decode cX5_cutOf 147 = .ok (.ladd, 1) := by decide +kernel
theorem dX5_cutOf_148 : decode cX5_cutOf 148 = .ok (.lreturn, 1) := by decide +kernel
theorem dX5_decimal_0 : decode cX5_decimal 0 = .ok (.new 64, 3) := by decide +kernel
theorem dX5_decimal_3 : decode cX5_decimal 3 = .ok (.dup, 1) := by decide +kernel
theorem dX5_decimal_4 : decode cX5_decimal 4 = .ok (.invokespecial 66, 3) := by decide +kernel
theorem dX5_decimal_7 : decode cX5_decimal 7 = .ok (.ldc 67, 2) := by decide +kernel
theorem dX5_decimal_9 : decode cX5_decimal 9 = .ok (.invokevirtual 69, 3) := by decide +kernel
theorem dX5_decimal_12 : decode cX5_decimal 12 = .ok (.lload_n 0, 1) := by decide +kernel
theorem dX5_decimal_13 : decode cX5_decimal 13 = .ok (.invokestatic 44, 3) := by decide +kernel
theorem dX5_decimal_16 : decode cX5_decimal 16 = .ok (.invokevirtual 73, 3) := by decide +kernel
theorem dX5_decimal_19 : decode cX5_decimal 19 = .ok (.invokevirtual 76, 3) := by decide +kernel
theorem dX5_decimal_22 : decode cX5_decimal 22 = .ok (.astore_n 3, 1) := by decide +kernel
theorem dX5_decimal_23 : decode cX5_decimal 23 = .ok (.aload_n 3, 1) := by decide +kernel
theorem dX5_decimal_24 : decode cX5_decimal 24 = .ok (.invokevirtual 270, 3) := by decide +kernel
theorem dX5_decimal_27 : decode cX5_decimal 27 = .ok (.iload_n 2, 1) := by decide +kernel
theorem dX5_decimal_28 : decode cX5_decimal 28 = .ok (.if_icmp .gt 27, 3) := by decide +kernel
theorem dX5_decimal_31 : decode cX5_decimal 31 = .ok (.new 64, 3) := by decide +kernel
theorem dX5_decimal_34 : decode cX5_decimal 34 = .ok (.dup, 1) := by decide +kernel
theorem dX5_decimal_35 : decode cX5_decimal 35 = .ok (.invokespecial 66, 3) := by decide +kernel
theorem dX5_decimal_38 : decode cX5_decimal 38 = .ok (.ldc_w 273, 3) := by decide +kernel
theorem dX5_decimal_41 : decode cX5_decimal 41 = .ok (.invokevirtual 69, 3) := by decide +kernel
theorem dX5_decimal_44 : decode cX5_decimal 44 = .ok (.aload_n 3, 1) := by decide +kernel
theorem dX5_decimal_45 : decode cX5_decimal 45 = .ok (.invokevirtual 69, 3) := by decide +kernel
theorem dX5_decimal_48 : decode cX5_decimal 48 = .ok (.invokevirtual 76, 3) := by decide +kernel
theorem dX5_decimal_51 : decode cX5_decimal 51 = .ok (.astore_n 3, 1) := by decide +kernel
theorem dX5_decimal_52 : decode cX5_decimal 52 = .ok (.goto (-29), 3) := by decide +kernel
theorem dX5_decimal_55 : decode cX5_decimal 55 = .ok (.aload_n 3, 1) := by decide +kernel
theorem dX5_decimal_56 : decode cX5_decimal 56 = .ok (.invokevirtual 270, 3) := by decide +kernel
theorem dX5_decimal_59 : decode cX5_decimal 59 = .ok (.iload_n 2, 1) := by decide +kernel
theorem dX5_decimal_60 : decode cX5_decimal 60 = .ok (.isub, 1) := by decide +kernel
theorem dX5_decimal_61 : decode cX5_decimal 61 = .ok (.istore 4, 2) := by decide +kernel
theorem dX5_decimal_63 : decode cX5_decimal 63 = .ok (.new 64, 3) := by decide +kernel
theorem dX5_decimal_66 : decode cX5_decimal 66 = .ok (.dup, 1) := by decide +kernel
theorem dX5_decimal_67 : decode cX5_decimal 67 = .ok (.invokespecial 66, 3) := by decide +kernel
theorem dX5_decimal_70 : decode cX5_decimal 70 = .ok (.lload_n 0, 1) := by decide +kernel
theorem dX5_decimal_71 : decode cX5_decimal 71 = .ok (.lconst 0, 1) := by decide +kernel
theorem dX5_decimal_72 : decode cX5_decimal 72 = .ok (.lcmp, 1) := by decide +kernel
theorem dX5_decimal_73 : decode cX5_decimal 73 = .ok (.ifCond .ge 9, 3) := by decide +kernel
theorem dX5_decimal_76 : decode cX5_decimal 76 = .ok (.ldc_w 275, 3) := by decide +kernel
theorem dX5_decimal_79 : decode cX5_decimal 79 = .ok (.goto 5, 3) := by decide +kernel
theorem dX5_decimal_82 : decode cX5_decimal 82 = .ok (.ldc 67, 2) := by decide +kernel
theorem dX5_decimal_84 : decode cX5_decimal 84 = .ok (.invokevirtual 69, 3) := by decide +kernel
theorem dX5_decimal_87 : decode cX5_decimal 87 = .ok (.aload_n 3, 1) := by decide +kernel
theorem dX5_decimal_88 : decode cX5_decimal 88 = .ok (.iconst 0, 1) := by decide +kernel
theorem dX5_decimal_89 : decode cX5_decimal 89 = .ok (.iload 4, 2) := by decide +kernel
theorem dX5_decimal_91 : decode cX5_decimal 91 = .ok (.invokevirtual 277, 3) := by decide +kernel
theorem dX5_decimal_94 : decode cX5_decimal 94 = .ok (.invokevirtual 69, 3) := by decide +kernel
theorem dX5_decimal_97 : decode cX5_decimal 97 = .ok (.iload_n 2, 1) := by decide +kernel
theorem dX5_decimal_98 : decode cX5_decimal 98 = .ok (.ifCond .le 31, 3) := by decide +kernel
theorem dX5_decimal_101 : decode cX5_decimal 101 = .ok (.new 64, 3) := by decide +kernel
theorem dX5_decimal_104 : decode cX5_decimal 104 = .ok (.dup, 1) := by decide +kernel
theorem dX5_decimal_105 : decode cX5_decimal 105 = .ok (.invokespecial 66, 3) := by decide +kernel
theorem dX5_decimal_108 : decode cX5_decimal 108 = .ok (.ldc_w 281, 3) := by decide +kernel
theorem dX5_decimal_111 : decode cX5_decimal 111 = .ok (.invokevirtual 69, 3) := by decide +kernel
theorem dX5_decimal_114 : decode cX5_decimal 114 = .ok (.aload_n 3, 1) := by decide +kernel
theorem dX5_decimal_115 : decode cX5_decimal 115 = .ok (.iload 4, 2) := by decide +kernel
theorem dX5_decimal_117 : decode cX5_decimal 117 = .ok (.invokevirtual 283, 3) := by decide +kernel
theorem dX5_decimal_120 : decode cX5_decimal 120 = .ok (.invokevirtual 69, 3) := by decide +kernel
theorem dX5_decimal_123 : decode cX5_decimal 123 = .ok (.invokevirtual 76, 3) := by decide +kernel
theorem dX5_decimal_126 : decode cX5_decimal 126 = .ok (.goto 5, 3) := by decide +kernel
theorem dX5_decimal_129 : decode cX5_decimal 129 = .ok (.ldc 67, 2) := by decide +kernel
theorem dX5_decimal_131 : decode cX5_decimal 131 = .ok (.invokevirtual 69, 3) := by decide +kernel
theorem dX5_decimal_134 : decode cX5_decimal 134 = .ok (.invokevirtual 76, 3) := by decide +kernel
theorem dX5_decimal_137 : decode cX5_decimal 137 = .ok (.areturn, 1) := by decide +kernel
theorem dX5_cutNow_0 : decode cX5_cutNow 0 = .ok (.aload_n 0, 1) := by decide +kernel
theorem dX5_cutNow_1 : decode cX5_cutNow 1 = .ok (.getfield 11, 3) := by decide +kernel
theorem dX5_cutNow_4 : decode cX5_cutNow 4 = .ok (.iload_n 1, 1) := by decide +kernel
theorem dX5_cutNow_5 : decode cX5_cutNow 5 = .ok (.aaload, 1) := by decide +kernel
theorem dX5_cutNow_6 : decode cX5_cutNow 6 = .ok (.iconst 0, 1) := by decide +kernel
theorem dX5_cutNow_7 : decode cX5_cutNow 7 = .ok (.laload, 1) := by decide +kernel
theorem dX5_cutNow_8 : decode cX5_cutNow 8 = .ok (.aload_n 0, 1) := by decide +kernel
theorem dX5_cutNow_9 : decode cX5_cutNow 9 = .ok (.getfield 11, 3) := by decide +kernel
theorem dX5_cutNow_12 : decode cX5_cutNow 12 = .ok (.iload_n 1, 1) := by decide +kernel
theorem dX5_cutNow_13 : decode cX5_cutNow 13 = .ok (.aaload, 1) := by decide +kernel
theorem dX5_cutNow_14 : decode cX5_cutNow 14 = .ok (.iconst 1, 1) := by decide +kernel
theorem dX5_cutNow_15 : decode cX5_cutNow 15 = .ok (.laload, 1) := by decide +kernel
theorem dX5_cutNow_16 : decode cX5_cutNow 16 = .ok (.iload_n 2, 1) := by decide +kernel
theorem dX5_cutNow_17 : decode cX5_cutNow 17 = .ok (.iload_n 3, 1) := by decide +kernel
theorem dX5_cutNow_18 : decode cX5_cutNow 18 = .ok (.invokestatic 285, 3) := by decide +kernel
theorem dX5_cutNow_21 : decode cX5_cutNow 21 = .ok (.iload_n 2, 1) := by decide +kernel
theorem dX5_cutNow_22 : decode cX5_cutNow 22 = .ok (.invokestatic 289, 3) := by decide +kernel
theorem dX5_cutNow_25 : decode cX5_cutNow 25 = .ok (.areturn, 1) := by decide +kernel
theorem dX5_cut_0 : decode cX5_cut 0 = .ok (.aload_n 0, 1) := by decide +kernel
theorem dX5_cut_1 : decode cX5_cut 1 = .ok (.iload_n 1, 1) := by decide +kernel
theorem dX5_cut_2 : decode cX5_cut 2 = .ok (.invokestatic 40, 3) := by decide +kernel
theorem dX5_cut_5 : decode cX5_cut 5 = .ok (.iload_n 2, 1) := by decide +kernel
theorem dX5_cut_6 : decode cX5_cut 6 = .ok (.iconst 0, 1) := by decide +kernel
theorem dX5_cut_7 : decode cX5_cut 7 = .ok (.bipush 9, 2) := by decide +kernel
theorem dX5_cut_9 : decode cX5_cut 9 = .ok (.invokestatic 36, 3) := by decide +kernel
theorem dX5_cut_12 : decode cX5_cut 12 = .ok (.ifCond .eq 12, 3) := by decide +kernel
theorem dX5_cut_15 : decode cX5_cut 15 = .ok (.iload_n 3, 1) := by decide +kernel
theorem dX5_cut_16 : decode cX5_cut 16 = .ok (.iconst 0, 1) := by decide +kernel
theorem dX5_cut_17 : decode cX5_cut 17 = .ok (.iconst 4, 1) := by decide +kernel
theorem dX5_cut_18 : decode cX5_cut 18 = .ok (.invokestatic 36, 3) := by decide +kernel
theorem dX5_cut_21 : decode cX5_cut 21 = .ok (.ifCond .ne 7, 3) := by decide +kernel
theorem dX5_cut_24 : decode cX5_cut 24 = .ok (.iconst 1, 1) := by decide +kernel
theorem dX5_cut_25 : decode cX5_cut 25 = .ok (.goto 4, 3) := by decide +kernel
theorem dX5_cut_28 : decode cX5_cut 28 = .ok (.iconst 0, 1) := by decide +kernel
theorem dX5_cut_29 : decode cX5_cut 29 = .ok (.invokevirtual 97, 3) := by decide +kernel
theorem dX5_cut_32 : decode cX5_cut 32 = .ok (.ifCond .eq 8, 3) := by decide +kernel
theorem dX5_cut_35 : decode cX5_cut 35 = .ok (.ldc 67, 2) := by decide +kernel
theorem dX5_cut_37 : decode cX5_cut 37 = .ok (.goto 10, 3) := by decide +kernel
theorem dX5_cut_40 : decode cX5_cut 40 = .ok (.aload_n 0, 1) := by decide +kernel
theorem dX5_cut_41 : decode cX5_cut 41 = .ok (.iload_n 1, 1) := by decide +kernel
theorem dX5_cut_42 : decode cX5_cut 42 = .ok (.iload_n 2, 1) := by decide +kernel
theorem dX5_cut_43 : decode cX5_cut 43 = .ok (.iload_n 3, 1) := by decide +kernel
theorem dX5_cut_44 : decode cX5_cut 44 = .ok (.invokevirtual 293, 3) := by decide +kernel
theorem dX5_cut_47 : decode cX5_cut 47 = .ok (.areturn, 1) := by decide +kernel
theorem dX5_simplestOf_0 : decode cX5_simplestOf 0 = .ok (.aload_n 0, 1) := by decide +kernel
theorem dX5_simplestOf_1 : decode cX5_simplestOf 1 = .ok (.iconst 0, 1) := by decide +kernel
theorem dX5_simplestOf_2 : decode cX5_simplestOf 2 = .ok (.laload, 1) := by decide +kernel
theorem dX5_simplestOf_3 : decode cX5_simplestOf 3 = .ok (.aload_n 0, 1) := by decide +kernel
theorem dX5_simplestOf_4 : decode cX5_simplestOf 4 = .ok (.iconst 1, 1) := by decide +kernel
theorem dX5_simplestOf_5 : decode cX5_simplestOf 5 = .ok (.laload, 1) := by decide +kernel
theorem dX5_simplestOf_6 : decode cX5_simplestOf 6 = .ok (.iload_n 1, 1) := by decide +kernel
theorem dX5_simplestOf_7 : decode cX5_simplestOf 7 = .ok (.iload_n 2, 1) := by decide +kernel
theorem dX5_simplestOf_8 : decode cX5_simplestOf 8 = .ok (.invokestatic 285, 3) := by decide +kernel
theorem dX5_simplestOf_11 : decode cX5_simplestOf 11 = .ok (.lstore_n 3, 1) := by decide +kernel
theorem dX5_simplestOf_12 : decode cX5_simplestOf 12 = .ok (.iload_n 1, 1) := by decide +kernel
theorem dX5_simplestOf_13 : decode cX5_simplestOf 13 = .ok (.invokestatic 107, 3) := by decide +kernel
theorem dX5_simplestOf_16 : decode cX5_simplestOf 16 = .ok (.lstore 5, 2) := by decide +kernel
theorem dX5_simplestOf_18 : decode cX5_simplestOf 18 = .ok (.iconst 1, 1) := by decide +kernel
theorem dX5_simplestOf_19 : decode cX5_simplestOf 19 = .ok (.istore 7, 2) := by decide +kernel
theorem dX5_simplestOf_21 : decode cX5_simplestOf 21 = .ok (.lload_n 3, 1) := by decide +kernel
theorem dX5_simplestOf_22 : decode cX5_simplestOf 22 = .ok (.lconst 1, 1) := by decide +kernel
theorem dX5_simplestOf_23 : decode cX5_simplestOf 23 = .ok (.lsub, 1) := by decide +kernel
theorem dX5_simplestOf_24 : decode cX5_simplestOf 24 = .ok (.iload 7, 2) := by decide +kernel
theorem dX5_simplestOf_26 : decode cX5_simplestOf 26 = .ok (.i2l, 1) := by decide +kernel
theorem dX5_simplestOf_27 : decode cX5_simplestOf 27 = .ok (.lmul, 1) := by decide +kernel
theorem dX5_simplestOf_28 : decode cX5_simplestOf 28 = .ok (.lload 5, 2) := by decide +kernel
theorem dX5_simplestOf_30 : decode cX5_simplestOf 30 = .ok (.invokestatic 147, 3) := by decide +kernel
theorem dX5_simplestOf_33 : decode cX5_simplestOf 33 = .ok (.lstore 8, 2) := by decide +kernel
theorem dX5_simplestOf_35 : decode cX5_simplestOf 35 = .ok (.lload 8, 2) := by decide +kernel
theorem dX5_simplestOf_37 : decode cX5_simplestOf 37 = .ok (.lload_n 3, 1) := by decide +kernel
theorem dX5_simplestOf_38 : decode cX5_simplestOf 38 = .ok (.lconst 1, 1) := by decide +kernel
theorem dX5_simplestOf_39 : decode cX5_simplestOf 39 = .ok (.ladd, 1) := by decide +kernel
theorem dX5_simplestOf_40 : decode cX5_simplestOf 40 = .ok (.iload 7, 2) := by decide +kernel
theorem dX5_simplestOf_42 : decode cX5_simplestOf 42 = .ok (.i2l, 1) := by decide +kernel
theorem dX5_simplestOf_43 : decode cX5_simplestOf 43 = .ok (.lmul, 1) := by decide +kernel
theorem dX5_simplestOf_44 : decode cX5_simplestOf 44 = .ok (.lload 5, 2) := by decide +kernel
theorem dX5_simplestOf_46 : decode cX5_simplestOf 46 = .ok (.invokestatic 147, 3) := by decide +kernel
theorem dX5_simplestOf_49 : decode cX5_simplestOf 49 = .ok (.lconst 1, 1) := by decide +kernel
theorem dX5_simplestOf_50 : decode cX5_simplestOf 50 = .ok (.ladd, 1) := by decide +kernel
theorem dX5_simplestOf_51 : decode cX5_simplestOf 51 = .ok (.lcmp, 1) := by decide +kernel
theorem dX5_simplestOf_52 : decode cX5_simplestOf 52 = .ok (.ifCond .gt 36, 3) := by decide +kernel
theorem dX5_simplestOf_55 : decode cX5_simplestOf 55 = .ok (.lload 8, 2) := by decide +kernel
theorem dX5_simplestOf_57 : decode cX5_simplestOf 57 = .ok (.iload 7, 2) := by decide +kernel
theorem dX5_simplestOf_59 : decode cX5_simplestOf 59 = .ok (.i2l, 1) := by decide +kernel
theorem dX5_simplestOf_60 : decode cX5_simplestOf 60 = .ok (.iload_n 1, 1) := by decide +kernel
theorem dX5_simplestOf_61 : decode cX5_simplestOf 61 = .ok (.iload_n 2, 1) := by decide +kernel
theorem dX5_simplestOf_62 : decode cX5_simplestOf 62 = .ok (.invokestatic 285, 3) := by decide +kernel
theorem dX5_simplestOf_65 : decode cX5_simplestOf 65 = .ok (.lload_n 3, 1) := by decide +kernel
theorem dX5_simplestOf_66 : decode cX5_simplestOf 66 = .ok (.lcmp, 1) := by decide +kernel
theorem dX5_simplestOf_67 : decode cX5_simplestOf 67 = .ok (.ifCond .ne 12, 3) := by decide +kernel
theorem dX5_simplestOf_70 : decode cX5_simplestOf 70 = .ok (.lload 8, 2) := by decide +kernel
theorem dX5_simplestOf_72 : decode cX5_simplestOf 72 = .ok (.iload 7, 2) := by decide +kernel
theorem dX5_simplestOf_74 : decode cX5_simplestOf 74 = .ok (.i2l, 1) := by decide +kernel
theorem dX5_simplestOf_75 : decode cX5_simplestOf 75 = .ok (.invokestatic 28, 3) := by decide +kernel
theorem dX5_simplestOf_78 : decode cX5_simplestOf 78 = .ok (.areturn, 1) := by decide +kernel
theorem dX5_simplestOf_79 : decode cX5_simplestOf 79 = .ok (.lload 8, 2) := by decide +kernel
theorem dX5_simplestOf_81 : decode cX5_simplestOf 81 = .ok (.lconst 1, 1) := by decide +kernel
theorem dX5_simplestOf_82 : decode cX5_simplestOf 82 = .ok (.ladd, 1) := by decide +kernel
theorem dX5_simplestOf_83 : decode cX5_simplestOf 83 = .ok (.lstore 8, 2) := by decide +kernel
theorem dX5_simplestOf_85 : decode cX5_simplestOf 85 = .ok (.goto (-50), 3) := by decide +kernel
theorem dX5_simplestOf_88 : decode cX5_simplestOf 88 = .ok (.iinc 7 1, 3) := by decide +kernel
theorem dX5_simplestOf_91 : decode cX5_simplestOf 91 = .ok (.goto (-70), 3) := by decide +kernel
theorem dX5_simplest_0 : decode cX5_simplest 0 = .ok (.aload_n 0, 1) := by decide +kernel
theorem dX5_simplest_1 : decode cX5_simplest 1 = .ok (.iload_n 1, 1) := by decide +kernel
theorem dX5_simplest_2 : decode cX5_simplest 2 = .ok (.iload_n 2, 1) := by decide +kernel
theorem dX5_simplest_3 : decode cX5_simplest 3 = .ok (.invokestatic 111, 3) := by decide +kernel
theorem dX5_simplest_6 : decode cX5_simplest 6 = .ok (.iload_n 3, 1) := by decide +kernel
theorem dX5_simplest_7 : decode cX5_simplest 7 = .ok (.iconst 0, 1) := by decide +kernel
theorem dX5_simplest_8 : decode cX5_simplest 8 = .ok (.iconst 2, 1) := by decide +kernel
theorem dX5_simplest_9 : decode cX5_simplest 9 = .ok (.invokestatic 36, 3) := by decide +kernel
theorem dX5_simplest_12 : decode cX5_simplest 12 = .ok (.ifCond .eq 13, 3) := by decide +kernel
theorem dX5_simplest_15 : decode cX5_simplest 15 = .ok (.iload 4, 2) := by decide +kernel
theorem dX5_simplest_17 : decode cX5_simplest 17 = .ok (.iconst 0, 1) := by decide +kernel
theorem dX5_simplest_18 : decode cX5_simplest 18 = .ok (.iconst 4, 1) := by decide +kernel
theorem dX5_simplest_19 : decode cX5_simplest 19 = .ok (.invokestatic 36, 3) := by decide +kernel
theorem dX5_simplest_22 : decode cX5_simplest 22 = .ok (.ifCond .ne 7, 3) := by decide +kernel
theorem dX5_simplest_25 : decode cX5_simplest 25 = .ok (.iconst 1, 1) := by decide +kernel
theorem dX5_simplest_26 : decode cX5_simplest 26 = .ok (.goto 4, 3) := by decide +kernel
theorem dX5_simplest_29 : decode cX5_simplest 29 = .ok (.iconst 0, 1) := by decide +kernel
theorem dX5_simplest_30 : decode cX5_simplest 30 = .ok (.invokevirtual 97, 3) := by decide +kernel
theorem dX5_simplest_33 : decode cX5_simplest 33 = .ok (.ifCond .eq 7, 3) := by decide +kernel
theorem dX5_simplest_36 : decode cX5_simplest 36 = .ok (.iconst 0, 1) := by decide +kernel
theorem dX5_simplest_37 : decode cX5_simplest 37 = .ok (.goto 20, 3) := by decide +kernel
theorem dX5_simplest_40 : decode cX5_simplest 40 = .ok (.aload_n 0, 1) := by decide +kernel
theorem dX5_simplest_41 : decode cX5_simplest 41 = .ok (.iload_n 1, 1) := by decide +kernel
theorem dX5_simplest_42 : decode cX5_simplest 42 = .ok (.aload_n 0, 1) := by decide +kernel
theorem dX5_simplest_43 : decode cX5_simplest 43 = .ok (.getfield 11, 3) := by decide +kernel
theorem dX5_simplest_46 : decode cX5_simplest 46 = .ok (.iload_n 2, 1) := by decide +kernel
theorem dX5_simplest_47 : decode cX5_simplest 47 = .ok (.aaload, 1) := by decide +kernel
theorem dX5_simplest_48 : decode cX5_simplest 48 = .ok (.iload_n 3, 1) := by decide +kernel
theorem dX5_simplest_49 : decode cX5_simplest 49 = .ok (.iload 4, 2) := by decide +kernel
theorem dX5_simplest_51 : decode cX5_simplest 51 = .ok (.invokestatic 297, 3) := by decide +kernel
theorem dX5_simplest_54 : decode cX5_simplest 54 = .ok (.invokevirtual 101, 3) := by decide +kernel
theorem dX5_simplest_57 : decode cX5_simplest 57 = .ok (.ireturn, 1) := by decide +kernel
theorem dX5_tally_0 : decode cX5_tally 0 = .ok (.aload_n 0, 1) := by decide +kernel
theorem dX5_tally_1 : decode cX5_tally 1 = .ok (.iload_n 1, 1) := by decide +kernel
theorem dX5_tally_2 : decode cX5_tally 2 = .ok (.invokestatic 40, 3) := by decide +kernel
theorem dX5_tally_5 : decode cX5_tally 5 = .ok (.iload_n 2, 1) := by decide +kernel
theorem dX5_tally_6 : decode cX5_tally 6 = .ok (.iconst 0, 1) := by decide +kernel
theorem dX5_tally_7 : decode cX5_tally 7 = .ok (.iconst 4, 1) := by decide +kernel
theorem dX5_tally_8 : decode cX5_tally 8 = .ok (.invokestatic 36, 3) := by decide +kernel
theorem dX5_tally_11 : decode cX5_tally 11 = .ok (.ifCond .eq 12, 3) := by decide +kernel
theorem dX5_tally_14 : decode cX5_tally 14 = .ok (.iload_n 3, 1) := by decide +kernel
theorem dX5_tally_15 : decode cX5_tally 15 = .ok (.iconst 0, 1) := by decide +kernel
theorem dX5_tally_16 : decode cX5_tally 16 = .ok (.iconst 4, 1) := by decide +kernel
theorem dX5_tally_17 : decode cX5_tally 17 = .ok (.invokestatic 36, 3) := by decide +kernel
theorem dX5_tally_20 : decode cX5_tally 20 = .ok (.ifCond .ne 7, 3) := by decide +kernel
theorem dX5_tally_23 : decode cX5_tally 23 = .ok (.iconst 1, 1) := by decide +kernel
theorem dX5_tally_24 : decode cX5_tally 24 = .ok (.goto 4, 3) := by decide +kernel
theorem dX5_tally_27 : decode cX5_tally 27 = .ok (.iconst 0, 1) := by decide +kernel
theorem dX5_tally_28 : decode cX5_tally 28 = .ok (.invokevirtual 97, 3) := by decide +kernel
theorem dX5_tally_31 : decode cX5_tally 31 = .ok (.ifCond .eq 5, 3) := by decide +kernel
theorem dX5_tally_34 : decode cX5_tally 34 = .ok (.iconst 0, 1) := by decide +kernel
theorem dX5_tally_35 : decode cX5_tally 35 = .ok (.ireturn, 1) := by decide +kernel
theorem dX5_tally_36 : decode cX5_tally 36 = .ok (.aload_n 0, 1) := by decide +kernel
theorem dX5_tally_37 : decode cX5_tally 37 = .ok (.getfield 11, 3) := by decide +kernel
theorem dX5_tally_40 : decode cX5_tally 40 = .ok (.iload_n 1, 1) := by decide +kernel
theorem dX5_tally_41 : decode cX5_tally 41 = .ok (.aaload, 1) := by decide +kernel
theorem dX5_tally_42 : decode cX5_tally 42 = .ok (.astore 4, 2) := by decide +kernel
theorem dX5_tally_44 : decode cX5_tally 44 = .ok (.aload_n 0, 1) := by decide +kernel
theorem dX5_tally_45 : decode cX5_tally 45 = .ok (.getfield 22, 3) := by decide +kernel
theorem dX5_tally_48 : decode cX5_tally 48 = .ok (.aload 4, 2) := by decide +kernel
theorem dX5_tally_50 : decode cX5_tally 50 = .ok (.iconst 1, 1) := by decide +kernel
theorem dX5_tally_51 : decode cX5_tally 51 = .ok (.invokestatic 115, 3) := by decide +kernel
theorem dX5_tally_54 : decode cX5_tally 54 = .ok (.astore 5, 2) := by decide +kernel
theorem dX5_tally_56 : decode cX5_tally 56 = .ok (.aload_n 0, 1) := by decide +kernel
theorem dX5_tally_57 : decode cX5_tally 57 = .ok (.getfield 25, 3) := by decide +kernel
theorem dX5_tally_60 : decode cX5_tally 60 = .ok (.aload 4, 2) := by decide +kernel
theorem dX5_tally_62 : decode cX5_tally 62 = .ok (.iconst 0, 1) := by decide +kernel
theorem dX5_tally_63 : decode cX5_tally 63 = .ok (.laload, 1) := by decide +kernel
theorem dX5_tally_64 : decode cX5_tally 64 = .ok (.aload 4, 2) := by decide +kernel
theorem dX5_tally_66 : decode cX5_tally 66 = .ok (.iconst 1, 1) := by decide +kernel
theorem dX5_tally_67 : decode cX5_tally 67 = .ok (.laload, 1) := by decide +kernel
theorem dX5_tally_68 : decode cX5_tally 68 = .ok (.iload_n 2, 1) := by decide +kernel
theorem dX5_tally_69 : decode cX5_tally 69 = .ok (.iload_n 3, 1) := by decide +kernel
theorem dX5_tally_70 : decode cX5_tally 70 = .ok (.invokestatic 285, 3) := by decide +kernel
theorem dX5_tally_73 : decode cX5_tally 73 = .ok (.iload_n 2, 1) := by decide +kernel
theorem dX5_tally_74 : decode cX5_tally 74 = .ok (.invokestatic 107, 3) := by decide +kernel
theorem dX5_tally_77 : decode cX5_tally 77 = .ok (.invokestatic 28, 3) := by decide +kernel
theorem dX5_tally_80 : decode cX5_tally 80 = .ok (.iconst 1, 1) := by decide +kernel
theorem dX5_tally_81 : decode cX5_tally 81 = .ok (.invokestatic 115, 3) := by decide +kernel
theorem dX5_tally_84 : decode cX5_tally 84 = .ok (.astore 6, 2) := by decide +kernel
theorem dX5_tally_86 : decode cX5_tally 86 = .ok (.aload 5, 2) := by decide +kernel
theorem dX5_tally_88 : decode cX5_tally 88 = .ok (.invokestatic 85, 3) := by decide +kernel
theorem dX5_tally_91 : decode cX5_tally 91 = .ok (.ifCond .eq 25, 3) := by decide +kernel
theorem dX5_tally_94 : decode cX5_tally 94 = .ok (.aload 6, 2) := by decide +kernel
theorem dX5_tally_96 : decode cX5_tally 96 = .ok (.invokestatic 85, 3) := by decide +kernel
theorem dX5_tally_99 : decode cX5_tally 99 = .ok (.ifCond .eq 17, 3) := by decide +kernel
theorem dX5_tally_102 : decode cX5_tally 102 = .ok (.aload 5, 2) := by decide +kernel
theorem dX5_tally_104 : decode cX5_tally 104 = .ok (.aload 6, 2) := by decide +kernel
theorem dX5_tally_106 : decode cX5_tally 106 = .ok (.iconst (-1), 1) := by decide +kernel
theorem dX5_tally_107 : decode cX5_tally 107 = .ok (.invokestatic 115, 3) := by decide +kernel
theorem dX5_tally_110 : decode cX5_tally 110 = .ok (.invokestatic 85, 3) := by decide +kernel
theorem dX5_tally_113 : decode cX5_tally 113 = .ok (.ifCond .ne 8, 3) := by decide +kernel
theorem dX5_tally_116 : decode cX5_tally 116 = .ok (.aload_n 0, 1) := by decide +kernel
theorem dX5_tally_117 : decode cX5_tally 117 = .ok (.invokevirtual 89, 3) := by decide +kernel
theorem dX5_tally_120 : decode cX5_tally 120 = .ok (.ireturn, 1) := by decide +kernel
theorem dX5_tally_121 : decode cX5_tally 121 = .ok (.aload_n 0, 1) := by decide +kernel
theorem dX5_tally_122 : decode cX5_tally 122 = .ok (.aload 5, 2) := by decide +kernel
theorem dX5_tally_124 : decode cX5_tally 124 = .ok (.putfield 22, 3) := by decide +kernel
theorem dX5_tally_127 : decode cX5_tally 127 = .ok (.aload_n 0, 1) := by decide +kernel
theorem dX5_tally_128 : decode cX5_tally 128 = .ok (.aload 6, 2) := by decide +kernel
theorem dX5_tally_130 : decode cX5_tally 130 = .ok (.putfield 25, 3) := by decide +kernel
theorem dX5_tally_133 : decode cX5_tally 133 = .ok (.aload_n 0, 1) := by decide +kernel
theorem dX5_tally_134 : decode cX5_tally 134 = .ok (.aload_n 0, 1) := by decide +kernel
theorem dX5_tally_135 : decode cX5_tally 135 = .ok (.getfield 301, 3) := by decide +kernel
theorem dX5_tally_138 : decode cX5_tally 138 = .ok (.iload_n 2, 1) := by decide +kernel
theorem dX5_tally_139 : decode cX5_tally 139 = .ok (.invokestatic 304, 3) := by decide +kernel
theorem dX5_tally_142 : decode cX5_tally 142 = .ok (.putfield 301, 3) := by decide +kernel
theorem dX5_tally_145 : decode cX5_tally 145 = .ok (.aload_n 0, 1) := by decide +kernel
theorem dX5_tally_146 : decode cX5_tally 146 = .ok (.dup, 1) := by decide +kernel
theorem dX5_tally_147 : decode cX5_tally 147 = .ok (.getfield 307, 3) := by decide +kernel
theorem dX5_tally_150 : decode cX5_tally 150 = .ok (.iconst 1, 1) := by decide +kernel
theorem dX5_tally_151 : decode cX5_tally 151 = .ok (.iadd, 1) := by decide +kernel
theorem dX5_tally_152 : decode cX5_tally 152 = .ok (.putfield 307, 3) := by decide +kernel
theorem dX5_tally_155 : decode cX5_tally 155 = .ok (.aload_n 0, 1) := by decide +kernel
theorem dX5_tally_156 : decode cX5_tally 156 = .ok (.getfield 307, 3) := by decide +kernel
theorem dX5_tally_159 : decode cX5_tally 159 = .ok (.ireturn, 1) := by decide +kernel
theorem dX5_wipe_0 : decode cX5_wipe 0 = .ok (.aload_n 0, 1) := by decide +kernel
theorem dX5_wipe_1 : decode cX5_wipe 1 = .ok (.iconst 0, 1) := by decide +kernel
theorem dX5_wipe_2 : decode cX5_wipe 2 = .ok (.putfield 32, 3) := by decide +kernel
theorem dX5_wipe_5 : decode cX5_wipe 5 = .ok (.aload_n 0, 1) := by decide +kernel
theorem dX5_wipe_6 : decode cX5_wipe 6 = .ok (.getfield 307, 3) := by decide +kernel
theorem dX5_wipe_9 : decode cX5_wipe 9 = .ok (.istore_n 1, 1) := by decide +kernel
theorem dX5_wipe_10 : decode cX5_wipe 10 = .ok (.aload_n 0, 1) := by decide +kernel
theorem dX5_wipe_11 : decode cX5_wipe 11 = .ok (.lconst 0, 1) := by decide +kernel
theorem dX5_wipe_12 : decode cX5_wipe 12 = .ok (.lconst 1, 1) := by decide +kernel
theorem dX5_wipe_13 : decode cX5_wipe 13 = .ok (.invokestatic 28, 3) := by decide +kernel
theorem dX5_wipe_16 : decode cX5_wipe 16 = .ok (.putfield 22, 3) := by decide +kernel
theorem dX5_wipe_19 : decode cX5_wipe 19 = .ok (.aload_n 0, 1) := by decide +kernel
theorem dX5_wipe_20 : decode cX5_wipe 20 = .ok (.lconst 0, 1) := by decide +kernel
theorem dX5_wipe_21 : decode cX5_wipe 21 = .ok (.lconst 1, 1) := by decide +kernel
theorem dX5_wipe_22 : decode cX5_wipe 22 = .ok (.invokestatic 28, 3) := by decide +kernel
theorem dX5_wipe_25 : decode cX5_wipe 25 = .ok (.putfield 25, 3) := by decide +kernel
theorem dX5_wipe_28 : decode cX5_wipe 28 = .ok (.aload_n 0, 1) := by decide +kernel
theorem dX5_wipe_29 : decode cX5_wipe 29 = .ok (.iconst 0, 1) := by decide +kernel
theorem dX5_wipe_30 : decode cX5_wipe 30 = .ok (.putfield 301, 3) := by decide +kernel
theorem dX5_wipe_33 : decode cX5_wipe 33 = .ok (.aload_n 0, 1) := by decide +kernel
theorem dX5_wipe_34 : decode cX5_wipe 34 = .ok (.iconst 0, 1) := by decide +kernel
theorem dX5_wipe_35 : decode cX5_wipe 35 = .ok (.putfield 307, 3) := by decide +kernel
theorem dX5_wipe_38 : decode cX5_wipe 38 = .ok (.iload_n 1, 1) := by decide +kernel
theorem dX5_wipe_39 : decode cX5_wipe 39 = .ok (.ireturn, 1) := by decide +kernel
theorem dX5_exact_0 : decode cX5_exact 0 = .ok (.aload_n 0, 1) := by decide +kernel
theorem dX5_exact_1 : decode cX5_exact 1 = .ok (.iconst 0, 1) := by decide +kernel
theorem dX5_exact_2 : decode cX5_exact 2 = .ok (.putfield 32, 3) := by decide +kernel
theorem dX5_exact_5 : decode cX5_exact 5 = .ok (.aload_n 0, 1) := by decide +kernel
theorem dX5_exact_6 : decode cX5_exact 6 = .ok (.getfield 22, 3) := by decide +kernel
theorem dX5_exact_9 : decode cX5_exact 9 = .ok (.invokestatic 137, 3) := by decide +kernel
theorem dX5_exact_12 : decode cX5_exact 12 = .ok (.areturn, 1) := by decide +kernel
theorem dX5_roundedNow_0 : decode cX5_roundedNow 0 = .ok (.aload_n 0, 1) := by decide +kernel
theorem dX5_roundedNow_1 : decode cX5_roundedNow 1 = .ok (.getfield 25, 3) := by decide +kernel
theorem dX5_roundedNow_4 : decode cX5_roundedNow 4 = .ok (.iconst 0, 1) := by decide +kernel
theorem dX5_roundedNow_5 : decode cX5_roundedNow 5 = .ok (.laload, 1) := by decide +kernel
theorem dX5_roundedNow_6 : decode cX5_roundedNow 6 = .ok (.aload_n 0, 1) := by decide +kernel
theorem dX5_roundedNow_7 : decode cX5_roundedNow 7 = .ok (.getfield 301, 3) := by decide +kernel
theorem dX5_roundedNow_10 : decode cX5_roundedNow 10 = .ok (.invokestatic 107, 3) := by decide +kernel
theorem dX5_roundedNow_13 : decode cX5_roundedNow 13 = .ok (.aload_n 0, 1) := by decide +kernel
theorem dX5_roundedNow_14 : decode cX5_roundedNow 14 = .ok (.getfield 25, 3) := by decide +kernel
theorem dX5_roundedNow_17 : decode cX5_roundedNow 17 = .ok (.iconst 1, 1) := by decide +kernel
theorem dX5_roundedNow_18 : decode cX5_roundedNow 18 = .ok (.laload, 1) := by decide +kernel
theorem dX5_roundedNow_19 : decode cX5_roundedNow 19 = .ok (.ldiv, 1) := by decide +kernel
theorem dX5_roundedNow_20 : decode cX5_roundedNow 20 = .ok (.lmul, 1) := by decide +kernel
theorem dX5_roundedNow_21 : decode cX5_roundedNow 21 = .ok (.aload_n 0, 1) := by decide +kernel
theorem dX5_roundedNow_22 : decode cX5_roundedNow 22 = .ok (.getfield 301, 3) := by decide +kernel
theorem dX5_roundedNow_25 : decode cX5_roundedNow 25 = .ok (.invokestatic 289, 3) := by decide +kernel
theorem dX5_roundedNow_28 : decode cX5_roundedNow 28 = .ok (.areturn, 1) := by decide +kernel
theorem dX5_rounded_0 : decode cX5_rounded 0 = .ok (.aload_n 0, 1) := by decide +kernel
theorem dX5_rounded_1 : decode cX5_rounded 1 = .ok (.iconst 0, 1) := by decide +kernel
theorem dX5_rounded_2 : decode cX5_rounded 2 = .ok (.putfield 32, 3) := by decide +kernel
theorem dX5_rounded_5 : decode cX5_rounded 5 = .ok (.aload_n 0, 1) := by decide +kernel
theorem dX5_rounded_6 : decode cX5_rounded 6 = .ok (.invokevirtual 310, 3) := by decide +kernel
theorem dX5_rounded_9 : decode cX5_rounded 9 = .ok (.areturn, 1) := by decide +kernel
theorem dX5_errorNow_0 : decode cX5_errorNow 0 = .ok (.aload_n 0, 1) := by decide +kernel
theorem dX5_errorNow_1 : decode cX5_errorNow 1 = .ok (.getfield 22, 3) := by decide +kernel
theorem dX5_errorNow_4 : decode cX5_errorNow 4 = .ok (.aload_n 0, 1) := by decide +kernel
theorem dX5_errorNow_5 : decode cX5_errorNow 5 = .ok (.getfield 25, 3) := by decide +kernel
theorem dX5_errorNow_8 : decode cX5_errorNow 8 = .ok (.iconst (-1), 1) := by decide +kernel
theorem dX5_errorNow_9 : decode cX5_errorNow 9 = .ok (.invokestatic 115, 3) := by decide +kernel
theorem dX5_errorNow_12 : decode cX5_errorNow 12 = .ok (.invokestatic 137, 3) := by decide +kernel
theorem dX5_errorNow_15 : decode cX5_errorNow 15 = .ok (.areturn, 1) := by decide +kernel
theorem dX5_error_0 : decode cX5_error 0 = .ok (.aload_n 0, 1) := by decide +kernel
theorem dX5_error_1 : decode cX5_error 1 = .ok (.iconst 0, 1) := by decide +kernel
theorem dX5_error_2 : decode cX5_error 2 = .ok (.putfield 32, 3) := by decide +kernel
theorem dX5_error_5 : decode cX5_error 5 = .ok (.aload_n 0, 1) := by decide +kernel
theorem dX5_error_6 : decode cX5_error 6 = .ok (.invokevirtual 313, 3) := by decide +kernel
theorem dX5_error_9 : decode cX5_error 9 = .ok (.areturn, 1) := by decide +kernel
theorem dX5_knock_0 : decode cX5_knock 0 = .ok (.aload_n 0, 1) := by decide +kernel
theorem dX5_knock_1 : decode cX5_knock 1 = .ok (.iconst 0, 1) := by decide +kernel
theorem dX5_knock_2 : decode cX5_knock 2 = .ok (.putfield 32, 3) := by decide +kernel
theorem dX5_knock_5 : decode cX5_knock 5 = .ok (.aload_n 0, 1) := by decide +kernel
theorem dX5_knock_6 : decode cX5_knock 6 = .ok (.dup, 1) := by decide +kernel
theorem dX5_knock_7 : decode cX5_knock 7 = .ok (.getfield 316, 3) := by decide +kernel
theorem dX5_knock_10 : decode cX5_knock 10 = .ok (.iconst 1, 1) := by decide +kernel
theorem dX5_knock_11 : decode cX5_knock 11 = .ok (.iadd, 1) := by decide +kernel
theorem dX5_knock_12 : decode cX5_knock 12 = .ok (.putfield 316, 3) := by decide +kernel
theorem dX5_knock_15 : decode cX5_knock 15 = .ok (.aload_n 0, 1) := by decide +kernel
theorem dX5_knock_16 : decode cX5_knock 16 = .ok (.getfield 316, 3) := by decide +kernel
theorem dX5_knock_19 : decode cX5_knock 19 = .ok (.ireturn, 1) := by decide +kernel
theorem dX5_houseNow_0 : decode cX5_houseNow 0 = .ok (.iconst 0, 1) := by decide +kernel
theorem dX5_houseNow_1 : decode cX5_houseNow 1 = .ok (.istore_n 2, 1) := by decide +kernel
theorem dX5_houseNow_2 : decode cX5_houseNow 2 = .ok (.aload_n 0, 1) := by decide +kernel
theorem dX5_houseNow_3 : decode cX5_houseNow 3 = .ok (.getfield 11, 3) := by decide +kernel
theorem dX5_houseNow_6 : decode cX5_houseNow 6 = .ok (.astore_n 3, 1) := by decide +kernel
theorem dX5_houseNow_7 : decode cX5_houseNow 7 = .ok (.aload_n 3, 1) := by decide +kernel
theorem dX5_houseNow_8 : decode cX5_houseNow 8 = .ok (.arraylength, 1) := by decide +kernel
theorem dX5_houseNow_9 : decode cX5_houseNow 9 = .ok (.istore 4, 2) := by decide +kernel
theorem dX5_houseNow_11 : decode cX5_houseNow 11 = .ok (.iconst 0, 1) := by decide +kernel
theorem dX5_houseNow_12 : decode cX5_houseNow 12 = .ok (.istore 5, 2) := by decide +kernel
theorem dX5_houseNow_14 : decode cX5_houseNow 14 = .ok (.iload 5, 2) := by decide +kernel
theorem dX5_houseNow_16 : decode cX5_houseNow 16 = .ok (.iload 4, 2) := by decide +kernel
theorem dX5_houseNow_18 : decode cX5_houseNow 18 = .ok (.if_icmp .ge 35, 3) := by decide +kernel
theorem dX5_houseNow_21 : decode cX5_houseNow 21 = .ok (.aload_n 3, 1) := by decide +kernel
theorem dX5_houseNow_22 : decode cX5_houseNow 22 = .ok (.iload 5, 2) := by decide +kernel
theorem dX5_houseNow_24 : decode cX5_houseNow 24 = .ok (.aaload, 1) := by decide +kernel
theorem dX5_houseNow_25 : decode cX5_houseNow 25 = .ok (.astore 6, 2) := by decide +kernel
theorem dX5_houseNow_27 : decode cX5_houseNow 27 = .ok (.iload_n 2, 1) := by decide +kernel
theorem dX5_houseNow_28 : decode cX5_houseNow 28 = .ok (.aload 6, 2) := by decide +kernel
theorem dX5_houseNow_30 : decode cX5_houseNow 30 = .ok (.iconst 1, 1) := by decide +kernel
theorem dX5_houseNow_31 : decode cX5_houseNow 31 = .ok (.laload, 1) := by decide +kernel
theorem dX5_houseNow_32 : decode cX5_houseNow 32 = .ok (.lconst 1, 1) := by decide +kernel
theorem dX5_houseNow_33 : decode cX5_houseNow 33 = .ok (.lcmp, 1) := by decide +kernel
theorem dX5_houseNow_34 : decode cX5_houseNow 34 = .ok (.ifCond .ne 7, 3) := by decide +kernel
theorem dX5_houseNow_37 : decode cX5_houseNow 37 = .ok (.iconst 1, 1) := by decide +kernel
theorem dX5_houseNow_38 : decode cX5_houseNow 38 = .ok (.goto 4, 3) := by decide +kernel
theorem dX5_houseNow_41 : decode cX5_houseNow 41 = .ok (.iconst 0, 1) := by decide +kernel
theorem dX5_houseNow_42 : decode cX5_houseNow 42 = .ok (.invokestatic 60, 3) := by decide +kernel
theorem dX5_houseNow_45 : decode cX5_houseNow 45 = .ok (.iadd, 1) := by decide +kernel
theorem dX5_houseNow_46 : decode cX5_houseNow 46 = .ok (.istore_n 2, 1) := by decide +kernel
theorem dX5_houseNow_47 : decode cX5_houseNow 47 = .ok (.iinc 5 1, 3) := by decide +kernel
theorem dX5_houseNow_50 : decode cX5_houseNow 50 = .ok (.goto (-36), 3) := by decide +kernel
theorem dX5_houseNow_53 : decode cX5_houseNow 53 = .ok (.iconst 5, 1) := by decide +kernel
theorem dX5_houseNow_54 : decode cX5_houseNow 54 = .ok (.newarray .int, 2) := by decide +kernel
theorem dX5_houseNow_56 : decode cX5_houseNow 56 = .ok (.dup, 1) := by decide +kernel
theorem dX5_houseNow_57 : decode cX5_houseNow 57 = .ok (.iconst 0, 1) := by decide +kernel
theorem dX5_houseNow_58 : decode cX5_houseNow 58 = .ok (.iload_n 2, 1) := by decide +kernel
theorem dX5_houseNow_59 : decode cX5_houseNow 59 = .ok (.iastore, 1) := by decide +kernel
theorem dX5_houseNow_60 : decode cX5_houseNow 60 = .ok (.dup, 1) := by decide +kernel
theorem dX5_houseNow_61 : decode cX5_houseNow 61 = .ok (.iconst 1, 1) := by decide +kernel
theorem dX5_houseNow_62 : decode cX5_houseNow 62 = .ok (.aload_n 0, 1) := by decide +kernel
theorem dX5_houseNow_63 : decode cX5_houseNow 63 = .ok (.getfield 82, 3) := by decide +kernel
theorem dX5_houseNow_66 : decode cX5_houseNow 66 = .ok (.iastore, 1) := by decide +kernel
theorem dX5_houseNow_67 : decode cX5_houseNow 67 = .ok (.dup, 1) := by decide +kernel
theorem dX5_houseNow_68 : decode cX5_houseNow 68 = .ok (.iconst 2, 1) := by decide +kernel
theorem dX5_houseNow_69 : decode cX5_houseNow 69 = .ok (.aload_n 0, 1) := by decide +kernel
theorem dX5_houseNow_70 : decode cX5_houseNow 70 = .ok (.getfield 316, 3) := by decide +kernel
theorem dX5_houseNow_73 : decode cX5_houseNow 73 = .ok (.iastore, 1) := by decide +kernel
theorem dX5_houseNow_74 : decode cX5_houseNow 74 = .ok (.dup, 1) := by decide +kernel
theorem dX5_houseNow_75 : decode cX5_houseNow 75 = .ok (.iconst 3, 1) := by decide +kernel
theorem dX5_houseNow_76 : decode cX5_houseNow 76 = .ok (.aload_n 0, 1) := by decide +kernel
theorem dX5_houseNow_77 : decode cX5_houseNow 77 = .ok (.getfield 18, 3) := by decide +kernel
theorem dX5_houseNow_80 : decode cX5_houseNow 80 = .ok (.invokevirtual 204, 3) := by decide +kernel
theorem dX5_houseNow_83 : decode cX5_houseNow 83 = .ok (.iastore, 1) := by decide +kernel
theorem dX5_houseNow_84 : decode cX5_houseNow 84 = .ok (.dup, 1) := by decide +kernel
theorem dX5_houseNow_85 : decode cX5_houseNow 85 = .ok (.iconst 4, 1) := by decide +kernel
theorem dX5_houseNow_86 : decode cX5_houseNow 86 = .ok (.aload_n 0, 1) := by decide +kernel
theorem dX5_houseNow_87 : decode cX5_houseNow 87 = .ok (.getfield 307, 3) := by decide +kernel
theorem dX5_houseNow_90 : decode cX5_houseNow 90 = .ok (.iastore, 1) := by decide +kernel
theorem dX5_houseNow_91 : decode cX5_houseNow 91 = .ok (.astore_n 3, 1) := by decide +kernel
theorem dX5_houseNow_92 : decode cX5_houseNow 92 = .ok (.aload_n 3, 1) := by decide +kernel
theorem dX5_houseNow_93 : decode cX5_houseNow 93 = .ok (.iload_n 1, 1) := by decide +kernel
theorem dX5_houseNow_94 : decode cX5_houseNow 94 = .ok (.iaload, 1) := by decide +kernel
theorem dX5_houseNow_95 : decode cX5_houseNow 95 = .ok (.ireturn, 1) := by decide +kernel
theorem dX5_house_0 : decode cX5_house 0 = .ok (.aload_n 0, 1) := by decide +kernel
theorem dX5_house_1 : decode cX5_house 1 = .ok (.iload_n 1, 1) := by decide +kernel
theorem dX5_house_2 : decode cX5_house 2 = .ok (.iconst 0, 1) := by decide +kernel
theorem dX5_house_3 : decode cX5_house 3 = .ok (.iconst 4, 1) := by decide +kernel
theorem dX5_house_4 : decode cX5_house 4 = .ok (.invokestatic 36, 3) := by decide +kernel
theorem dX5_house_7 : decode cX5_house 7 = .ok (.ifCond .ne 7, 3) := by decide +kernel
theorem dX5_house_10 : decode cX5_house 10 = .ok (.iconst 1, 1) := by decide +kernel
theorem dX5_house_11 : decode cX5_house 11 = .ok (.goto 4, 3) := by decide +kernel
theorem dX5_house_14 : decode cX5_house 14 = .ok (.iconst 0, 1) := by decide +kernel
theorem dX5_house_15 : decode cX5_house 15 = .ok (.iconst 0, 1) := by decide +kernel
theorem dX5_house_16 : decode cX5_house 16 = .ok (.invokevirtual 97, 3) := by decide +kernel
theorem dX5_house_19 : decode cX5_house 19 = .ok (.ifCond .eq 7, 3) := by decide +kernel
theorem dX5_house_22 : decode cX5_house 22 = .ok (.iconst 0, 1) := by decide +kernel
theorem dX5_house_23 : decode cX5_house 23 = .ok (.goto 8, 3) := by decide +kernel
theorem dX5_house_26 : decode cX5_house 26 = .ok (.aload_n 0, 1) := by decide +kernel
theorem dX5_house_27 : decode cX5_house 27 = .ok (.iload_n 1, 1) := by decide +kernel
theorem dX5_house_28 : decode cX5_house 28 = .ok (.invokevirtual 319, 3) := by decide +kernel
theorem dX5_house_31 : decode cX5_house 31 = .ok (.ireturn, 1) := by decide +kernel
theorem dX5_isSound_0 : decode cX5_isSound 0 = .ok (.aload_n 0, 1) := by decide +kernel
theorem dX5_isSound_1 : decode cX5_isSound 1 = .ok (.iconst 0, 1) := by decide +kernel
theorem dX5_isSound_2 : decode cX5_isSound 2 = .ok (.putfield 32, 3) := by decide +kernel
theorem dX5_isSound_5 : decode cX5_isSound 5 = .ok (.iconst 1, 1) := by decide +kernel
theorem dX5_isSound_6 : decode cX5_isSound 6 = .ok (.ireturn, 1) := by decide +kernel
theorem dX5_add_0 : decode cX5_add 0 = .ok (.lload_n 0, 1) := by decide +kernel
theorem dX5_add_1 : decode cX5_add 1 = .ok (.ldc2_w 322, 3) := by decide +kernel
theorem dX5_add_4 : decode cX5_add 4 = .ok (.lmul, 1) := by decide +kernel
theorem dX5_add_5 : decode cX5_add 5 = .ok (.lload_n 2, 1) := by decide +kernel
theorem dX5_add_6 : decode cX5_add 6 = .ok (.ladd, 1) := by decide +kernel
theorem dX5_add_7 : decode cX5_add 7 = .ok (.lreturn, 1) := by decide +kernel
theorem dX5_digest_0 : decode cX5_digest 0 = .ok (.aload_n 0, 1) := by decide +kernel
theorem dX5_digest_1 : decode cX5_digest 1 = .ok (.iconst 0, 1) := by decide +kernel
theorem dX5_digest_2 : decode cX5_digest 2 = .ok (.putfield 32, 3) := by decide +kernel
theorem dX5_digest_5 : decode cX5_digest 5 = .ok (.ldc2_w 324, 3) := by decide +kernel
theorem dX5_digest_8 : decode cX5_digest 8 = .ok (.lstore_n 1, 1) := by decide +kernel
theorem dX5_digest_9 : decode cX5_digest 9 = .ok (.iconst 0, 1) := by decide +kernel
theorem dX5_digest_10 : decode cX5_digest 10 = .ok (.istore_n 3, 1) := by decide +kernel
theorem dX5_digest_11 : decode cX5_digest 11 = .ok (.iload_n 3, 1) := by decide +kernel
theorem dX5_digest_12 : decode cX5_digest 12 = .ok (.iconst 5, 1) := by decide +kernel
theorem dX5_digest_13 : decode cX5_digest 13 = .ok (.if_icmp .ge 20, 3) := by decide +kernel
theorem dX5_digest_16 : decode cX5_digest 16 = .ok (.lload_n 1, 1) := by decide +kernel
theorem dX5_digest_17 : decode cX5_digest 17 = .ok (.aload_n 0, 1) := by decide +kernel
theorem dX5_digest_18 : decode cX5_digest 18 = .ok (.iload_n 3, 1) := by decide +kernel
theorem dX5_digest_19 : decode cX5_digest 19 = .ok (.invokevirtual 319, 3) := by decide +kernel
theorem dX5_digest_22 : decode cX5_digest 22 = .ok (.i2l, 1) := by decide +kernel
theorem dX5_digest_23 : decode cX5_digest 23 = .ok (.invokestatic 326, 3) := by decide +kernel
theorem dX5_digest_26 : decode cX5_digest 26 = .ok (.lstore_n 1, 1) := by decide +kernel
theorem dX5_digest_27 : decode cX5_digest 27 = .ok (.iinc 3 1, 3) := by decide +kernel
theorem dX5_digest_30 : decode cX5_digest 30 = .ok (.goto (-19), 3) := by decide +kernel
theorem dX5_digest_33 : decode cX5_digest 33 = .ok (.iconst 0, 1) := by decide +kernel
theorem dX5_digest_34 : decode cX5_digest 34 = .ok (.istore_n 3, 1) := by decide +kernel
theorem dX5_digest_35 : decode cX5_digest 35 = .ok (.iload_n 3, 1) := by decide +kernel
theorem dX5_digest_36 : decode cX5_digest 36 = .ok (.bipush 6, 2) := by decide +kernel
theorem dX5_digest_38 : decode cX5_digest 38 = .ok (.if_icmp .ge 108, 3) := by decide +kernel
theorem dX5_digest_41 : decode cX5_digest 41 = .ok (.iconst 0, 1) := by decide +kernel
theorem dX5_digest_42 : decode cX5_digest 42 = .ok (.istore 4, 2) := by decide +kernel
theorem dX5_digest_44 : decode cX5_digest 44 = .ok (.iload 4, 2) := by decide +kernel
theorem dX5_digest_46 : decode cX5_digest 46 = .ok (.iconst 4, 1) := by decide +kernel
theorem dX5_digest_47 : decode cX5_digest 47 = .ok (.if_icmp .ge 22, 3) := by decide +kernel
theorem dX5_digest_50 : decode cX5_digest 50 = .ok (.lload_n 1, 1) := by decide +kernel
theorem dX5_digest_51 : decode cX5_digest 51 = .ok (.aload_n 0, 1) := by decide +kernel
theorem dX5_digest_52 : decode cX5_digest 52 = .ok (.iload_n 3, 1) := by decide +kernel
theorem dX5_digest_53 : decode cX5_digest 53 = .ok (.iload 4, 2) := by decide +kernel
theorem dX5_digest_55 : decode cX5_digest 55 = .ok (.invokevirtual 150, 3) := by decide +kernel
theorem dX5_digest_58 : decode cX5_digest 58 = .ok (.i2l, 1) := by decide +kernel
theorem dX5_digest_59 : decode cX5_digest 59 = .ok (.invokestatic 326, 3) := by decide +kernel
theorem dX5_digest_62 : decode cX5_digest 62 = .ok (.lstore_n 1, 1) := by decide +kernel
theorem dX5_digest_63 : decode cX5_digest 63 = .ok (.iinc 4 1, 3) := by decide +kernel
theorem dX5_digest_66 : decode cX5_digest 66 = .ok (.goto (-22), 3) := by decide +kernel
theorem dX5_digest_69 : decode cX5_digest 69 = .ok (.lload_n 1, 1) := by decide +kernel
theorem dX5_digest_70 : decode cX5_digest 70 = .ok (.aload_n 0, 1) := by decide +kernel
theorem dX5_digest_71 : decode cX5_digest 71 = .ok (.getfield 11, 3) := by decide +kernel
theorem dX5_digest_74 : decode cX5_digest 74 = .ok (.iload_n 3, 1) := by decide +kernel
theorem dX5_digest_75 : decode cX5_digest 75 = .ok (.aaload, 1) := by decide +kernel
theorem dX5_digest_76 : decode cX5_digest 76 = .ok (.invokestatic 196, 3) := by decide +kernel
theorem dX5_digest_79 : decode cX5_digest 79 = .ok (.invokevirtual 204, 3) := by decide +kernel
theorem dX5_digest_82 : decode cX5_digest 82 = .ok (.i2l, 1) := by decide +kernel
theorem dX5_digest_83 : decode cX5_digest 83 = .ok (.invokestatic 326, 3) := by decide +kernel
theorem dX5_digest_86 : decode cX5_digest 86 = .ok (.aload_n 0, 1) := by decide +kernel
theorem dX5_digest_87 : decode cX5_digest 87 = .ok (.iload_n 3, 1) := by decide +kernel
theorem dX5_digest_88 : decode cX5_digest 88 = .ok (.invokevirtual 254, 3) := by decide +kernel
theorem dX5_digest_91 : decode cX5_digest 91 = .ok (.i2l, 1) := by decide +kernel
theorem dX5_digest_92 : decode cX5_digest 92 = .ok (.invokestatic 326, 3) := by decide +kernel
theorem dX5_digest_95 : decode cX5_digest 95 = .ok (.aload_n 0, 1) := by decide +kernel
theorem dX5_digest_96 : decode cX5_digest 96 = .ok (.iload_n 3, 1) := by decide +kernel
theorem dX5_digest_97 : decode cX5_digest 97 = .ok (.invokevirtual 263, 3) := by decide +kernel
theorem dX5_digest_100 : decode cX5_digest 100 = .ok (.invokevirtual 270, 3) := by decide +kernel
theorem dX5_digest_103 : decode cX5_digest 103 = .ok (.i2l, 1) := by decide +kernel
theorem dX5_digest_104 : decode cX5_digest 104 = .ok (.invokestatic 326, 3) := by decide +kernel
theorem dX5_digest_107 : decode cX5_digest 107 = .ok (.lstore_n 1, 1) := by decide +kernel
theorem dX5_digest_108 : decode cX5_digest 108 = .ok (.iconst 0, 1) := by decide +kernel
theorem dX5_digest_109 : decode cX5_digest 109 = .ok (.istore 4, 2) := by decide +kernel
theorem dX5_digest_111 : decode cX5_digest 111 = .ok (.iload 4, 2) := by decide +kernel
theorem dX5_digest_113 : decode cX5_digest 113 = .ok (.iconst 5, 1) := by decide +kernel
theorem dX5_digest_114 : decode cX5_digest 114 = .ok (.if_icmp .ge 26, 3) := by decide +kernel
theorem dX5_digest_117 : decode cX5_digest 117 = .ok (.lload_n 1, 1) := by decide +kernel
theorem dX5_digest_118 : decode cX5_digest 118 = .ok (.aload_n 0, 1) := by decide +kernel
theorem dX5_digest_119 : decode cX5_digest 119 = .ok (.iload_n 3, 1) := by decide +kernel
theorem dX5_digest_120 : decode cX5_digest 120 = .ok (.iconst 3, 1) := by decide +kernel
theorem dX5_digest_121 : decode cX5_digest 121 = .ok (.iload 4, 2) := by decide +kernel
theorem dX5_digest_123 : decode cX5_digest 123 = .ok (.invokevirtual 293, 3) := by decide +kernel
theorem dX5_digest_126 : decode cX5_digest 126 = .ok (.invokevirtual 270, 3) := by decide +kernel
theorem dX5_digest_129 : decode cX5_digest 129 = .ok (.i2l, 1) := by decide +kernel
theorem dX5_digest_130 : decode cX5_digest 130 = .ok (.invokestatic 326, 3) := by decide +kernel
theorem dX5_digest_133 : decode cX5_digest 133 = .ok (.lstore_n 1, 1) := by decide +kernel
theorem dX5_digest_134 : decode cX5_digest 134 = .ok (.iinc 4 1, 3) := by decide +kernel
theorem dX5_digest_137 : decode cX5_digest 137 = .ok (.goto (-26), 3) := by decide +kernel
theorem dX5_digest_140 : decode cX5_digest 140 = .ok (.iinc 3 1, 3) := by decide +kernel
theorem dX5_digest_143 : decode cX5_digest 143 = .ok (.goto (-108), 3) := by decide +kernel
theorem dX5_digest_146 : decode cX5_digest 146 = .ok (.iconst 0, 1) := by decide +kernel
theorem dX5_digest_147 : decode cX5_digest 147 = .ok (.istore_n 3, 1) := by decide +kernel
theorem dX5_digest_148 : decode cX5_digest 148 = .ok (.iload_n 3, 1) := by decide +kernel
theorem dX5_digest_149 : decode cX5_digest 149 = .ok (.bipush 6, 2) := by decide +kernel
theorem dX5_digest_151 : decode cX5_digest 151 = .ok (.if_icmp .ge 63, 3) := by decide +kernel
theorem dX5_digest_154 : decode cX5_digest 154 = .ok (.iload_n 3, 1) := by decide +kernel
theorem dX5_digest_155 : decode cX5_digest 155 = .ok (.iconst 1, 1) := by decide +kernel
theorem dX5_digest_156 : decode cX5_digest 156 = .ok (.iadd, 1) := by decide +kernel
theorem dX5_digest_157 : decode cX5_digest 157 = .ok (.istore 4, 2) := by decide +kernel
theorem dX5_digest_159 : decode cX5_digest 159 = .ok (.iload 4, 2) := by decide +kernel
theorem dX5_digest_161 : decode cX5_digest 161 = .ok (.bipush 6, 2) := by decide +kernel
theorem dX5_digest_163 : decode cX5_digest 163 = .ok (.if_icmp .ge 45, 3) := by decide +kernel
theorem dX5_digest_166 : decode cX5_digest 166 = .ok (.lload_n 1, 1) := by decide +kernel
theorem dX5_digest_167 : decode cX5_digest 167 = .ok (.aload_n 0, 1) := by decide +kernel
theorem dX5_digest_168 : decode cX5_digest 168 = .ok (.getfield 11, 3) := by decide +kernel
theorem dX5_digest_171 : decode cX5_digest 171 = .ok (.iload_n 3, 1) := by decide +kernel
theorem dX5_digest_172 : decode cX5_digest 172 = .ok (.aaload, 1) := by decide +kernel
theorem dX5_digest_173 : decode cX5_digest 173 = .ok (.aload_n 0, 1) := by decide +kernel
theorem dX5_digest_174 : decode cX5_digest 174 = .ok (.getfield 11, 3) := by decide +kernel
theorem dX5_digest_177 : decode cX5_digest 177 = .ok (.iload 4, 2) := by decide +kernel
theorem dX5_digest_179 : decode cX5_digest 179 = .ok (.aaload, 1) := by decide +kernel
theorem dX5_digest_180 : decode cX5_digest 180 = .ok (.invokestatic 93, 3) := by decide +kernel
theorem dX5_digest_183 : decode cX5_digest 183 = .ok (.i2l, 1) := by decide +kernel
theorem dX5_digest_184 : decode cX5_digest 184 = .ok (.invokestatic 326, 3) := by decide +kernel
theorem dX5_digest_187 : decode cX5_digest 187 = .ok (.aload_n 0, 1) := by decide +kernel
theorem dX5_digest_188 : decode cX5_digest 188 = .ok (.iload_n 3, 1) := by decide +kernel
theorem dX5_digest_189 : decode cX5_digest 189 = .ok (.iload 4, 2) := by decide +kernel
theorem dX5_digest_191 : decode cX5_digest 191 = .ok (.invokevirtual 154, 3) := by decide +kernel
theorem dX5_digest_194 : decode cX5_digest 194 = .ok (.invokestatic 60, 3) := by decide +kernel
theorem dX5_digest_197 : decode cX5_digest 197 = .ok (.i2l, 1) := by decide +kernel
theorem dX5_digest_198 : decode cX5_digest 198 = .ok (.invokestatic 326, 3) := by decide +kernel
theorem dX5_digest_201 : decode cX5_digest 201 = .ok (.lstore_n 1, 1) := by decide +kernel
theorem dX5_digest_202 : decode cX5_digest 202 = .ok (.iinc 4 1, 3) := by decide +kernel
theorem dX5_digest_205 : decode cX5_digest 205 = .ok (.goto (-46), 3) := by decide +kernel
theorem dX5_digest_208 : decode cX5_digest 208 = .ok (.iinc 3 1, 3) := by decide +kernel
theorem dX5_digest_211 : decode cX5_digest 211 = .ok (.goto (-63), 3) := by decide +kernel
theorem dX5_digest_214 : decode cX5_digest 214 = .ok (.aload_n 0, 1) := by decide +kernel
theorem dX5_digest_215 : decode cX5_digest 215 = .ok (.getfield 18, 3) := by decide +kernel
theorem dX5_digest_218 : decode cX5_digest 218 = .ok (.invokevirtual 175, 3) := by decide +kernel
theorem dX5_digest_221 : decode cX5_digest 221 = .ok (.astore_n 3, 1) := by decide +kernel
theorem dX5_digest_222 : decode cX5_digest 222 = .ok (.aload_n 3, 1) := by decide +kernel
theorem dX5_digest_223 : decode cX5_digest 223 = .ok (.invokeinterface 179 1, 5) := by decide +kernel
theorem dX5_digest_228 : decode cX5_digest 228 = .ok (.ifCond .eq 28, 3) := by decide +kernel
theorem dX5_digest_231 : decode cX5_digest 231 = .ok (.aload_n 3, 1) := by decide +kernel
theorem dX5_digest_232 : decode cX5_digest 232 = .ok (.invokeinterface 185 1, 5) := by decide +kernel
theorem dX5_digest_237 : decode cX5_digest 237 = .ok (.checkcast 214, 3) := by decide +kernel
theorem dX5_digest_240 : decode cX5_digest 240 = .ok (.invokevirtual 221, 3) := by decide +kernel
theorem dX5_digest_243 : decode cX5_digest 243 = .ok (.istore 4, 2) := by decide +kernel
theorem dX5_digest_245 : decode cX5_digest 245 = .ok (.lload_n 1, 1) := by decide +kernel
theorem dX5_digest_246 : decode cX5_digest 246 = .ok (.iload 4, 2) := by decide +kernel
theorem dX5_digest_248 : decode cX5_digest 248 = .ok (.i2l, 1) := by decide +kernel
theorem dX5_digest_249 : decode cX5_digest 249 = .ok (.invokestatic 326, 3) := by decide +kernel
theorem dX5_digest_252 : decode cX5_digest 252 = .ok (.lstore_n 1, 1) := by decide +kernel
theorem dX5_digest_253 : decode cX5_digest 253 = .ok (.goto (-31), 3) := by decide +kernel
theorem dX5_digest_256 : decode cX5_digest 256 = .ok (.lload_n 1, 1) := by decide +kernel
theorem dX5_digest_257 : decode cX5_digest 257 = .ok (.aload_n 0, 1) := by decide +kernel
theorem dX5_digest_258 : decode cX5_digest 258 = .ok (.getfield 22, 3) := by decide +kernel
theorem dX5_digest_261 : decode cX5_digest 261 = .ok (.invokestatic 137, 3) := by decide +kernel
theorem dX5_digest_264 : decode cX5_digest 264 = .ok (.invokevirtual 270, 3) := by decide +kernel
theorem dX5_digest_267 : decode cX5_digest 267 = .ok (.i2l, 1) := by decide +kernel
theorem dX5_digest_268 : decode cX5_digest 268 = .ok (.invokestatic 326, 3) := by decide +kernel
theorem dX5_digest_271 : decode cX5_digest 271 = .ok (.aload_n 0, 1) := by decide +kernel
theorem dX5_digest_272 : decode cX5_digest 272 = .ok (.invokevirtual 310, 3) := by decide +kernel
theorem dX5_digest_275 : decode cX5_digest 275 = .ok (.invokevirtual 270, 3) := by decide +kernel
theorem dX5_digest_278 : decode cX5_digest 278 = .ok (.i2l, 1) := by decide +kernel
theorem dX5_digest_279 : decode cX5_digest 279 = .ok (.invokestatic 326, 3) := by decide +kernel
theorem dX5_digest_282 : decode cX5_digest 282 = .ok (.aload_n 0, 1) := by decide +kernel
theorem dX5_digest_283 : decode cX5_digest 283 = .ok (.invokevirtual 313, 3) := by decide +kernel
theorem dX5_digest_286 : decode cX5_digest 286 = .ok (.invokevirtual 270, 3) := by decide +kernel
theorem dX5_digest_289 : decode cX5_digest 289 = .ok (.i2l, 1) := by decide +kernel
theorem dX5_digest_290 : decode cX5_digest 290 = .ok (.invokestatic 326, 3) := by decide +kernel
theorem dX5_digest_293 : decode cX5_digest 293 = .ok (.lstore_n 1, 1) := by decide +kernel
theorem dX5_digest_294 : decode cX5_digest 294 = .ok (.lload_n 1, 1) := by decide +kernel
theorem dX5_digest_295 : decode cX5_digest 295 = .ok (.lconst 1, 1) := by decide +kernel
theorem dX5_digest_296 : decode cX5_digest 296 = .ok (.invokestatic 326, 3) := by decide +kernel
theorem dX5_digest_299 : decode cX5_digest 299 = .ok (.lreturn, 1) := by decide +kernel
