theorem dX0_init_0 : decode cX0_init 0 = .ok (.aload_n 0, 1) := by decide +kernel
theorem dX0_init_1 : decode cX0_init 1 = .ok (.invokespecial 3, 3) := by decide +kernel
theorem dX0_init_4 : decode cX0_init 4 = .ok (.aload_n 0, 1) := by decide +kernel
theorem dX0_init_5 : decode cX0_init 5 = .ok (.lconst 0, 1) := by decide +kernel
theorem dX0_init_6 : decode cX0_init 6 = .ok (.putfield 9, 3) := by decide +kernel
theorem dX0_init_9 : decode cX0_init 9 = .ok (.aload_n 0, 1) := by decide +kernel
theorem dX0_init_10 : decode cX0_init 10 = .ok (.lconst 1, 1) := by decide +kernel
theorem dX0_init_11 : decode cX0_init 11 = .ok (.putfield 15, 3) := by decide +kernel
theorem dX0_init_14 : decode cX0_init 14 = .ok (.return_, 1) := by decide +kernel
theorem dX0_assign_0 : decode cX0_assign 0 = .ok (.aload_n 0, 1) := by decide +kernel
theorem dX0_assign_1 : decode cX0_assign 1 = .ok (.aload_n 1, 1) := by decide +kernel
theorem dX0_assign_2 : decode cX0_assign 2 = .ok (.getfield 9, 3) := by decide +kernel
theorem dX0_assign_5 : decode cX0_assign 5 = .ok (.putfield 9, 3) := by decide +kernel
theorem dX0_assign_8 : decode cX0_assign 8 = .ok (.aload_n 0, 1) := by decide +kernel
theorem dX0_assign_9 : decode cX0_assign 9 = .ok (.aload_n 1, 1) := by decide +kernel
theorem dX0_assign_10 : decode cX0_assign 10 = .ok (.getfield 15, 3) := by decide +kernel
theorem dX0_assign_13 : decode cX0_assign 13 = .ok (.putfield 15, 3) := by decide +kernel
theorem dX0_assign_16 : decode cX0_assign 16 = .ok (.return_, 1) := by decide +kernel
theorem dX0_become_0 : decode cX0_become 0 = .ok (.lload_n 3, 1) := by decide +kernel
theorem dX0_become_1 : decode cX0_become 1 = .ok (.lconst 0, 1) := by decide +kernel
theorem dX0_become_2 : decode cX0_become 2 = .ok (.lcmp, 1) := by decide +kernel
theorem dX0_become_3 : decode cX0_become 3 = .ok (.ifCond .ne 4, 3) := by decide +kernel
theorem dX0_become_6 : decode cX0_become 6 = .ok (.return_, 1) := by decide +kernel
theorem dX0_become_7 : decode cX0_become 7 = .ok (.lload_n 1, 1) := by decide +kernel
theorem dX0_become_8 : decode cX0_become 8 = .ok (.lload_n 3, 1) := by decide +kernel
theorem dX0_become_9 : decode cX0_become 9 = .ok (.invokestatic 18, 3) := by decide +kernel
theorem dX0_become_12 : decode cX0_become 12 = .ok (.lstore 5, 2) := by decide +kernel
theorem dX0_become_14 : decode cX0_become 14 = .ok (.lload_n 3, 1) := by decide +kernel
theorem dX0_become_15 : decode cX0_become 15 = .ok (.lconst 0, 1) := by decide +kernel
theorem dX0_become_16 : decode cX0_become 16 = .ok (.lcmp, 1) := by decide +kernel
theorem dX0_become_17 : decode cX0_become 17 = .ok (.ifCond .ge 9, 3) := by decide +kernel
theorem dX0_become_20 : decode cX0_become 20 = .ok (.lload 5, 2) := by decide +kernel
theorem dX0_become_22 : decode cX0_become 22 = .ok (.lneg, 1) := by decide +kernel
theorem dX0_become_23 : decode cX0_become 23 = .ok (.goto 5, 3) := by decide +kernel
theorem dX0_become_26 : decode cX0_become 26 = .ok (.lload 5, 2) := by decide +kernel
theorem dX0_become_28 : decode cX0_become 28 = .ok (.lstore 7, 2) := by decide +kernel
theorem dX0_become_30 : decode cX0_become 30 = .ok (.aload_n 0, 1) := by decide +kernel
theorem dX0_become_31 : decode cX0_become 31 = .ok (.lload_n 1, 1) := by decide +kernel
theorem dX0_become_32 : decode cX0_become 32 = .ok (.lload 7, 2) := by decide +kernel
theorem dX0_become_34 : decode cX0_become 34 = .ok (.invokestatic 22, 3) := by decide +kernel
theorem dX0_become_37 : decode cX0_become 37 = .ok (.putfield 9, 3) := by decide +kernel
theorem dX0_become_40 : decode cX0_become 40 = .ok (.aload_n 0, 1) := by decide +kernel
theorem dX0_become_41 : decode cX0_become 41 = .ok (.lload_n 3, 1) := by decide +kernel
theorem dX0_become_42 : decode cX0_become 42 = .ok (.lload 7, 2) := by decide +kernel
theorem dX0_become_44 : decode cX0_become 44 = .ok (.invokestatic 22, 3) := by decide +kernel
theorem dX0_become_47 : decode cX0_become 47 = .ok (.putfield 15, 3) := by decide +kernel
theorem dX0_become_50 : decode cX0_become 50 = .ok (.return_, 1) := by decide +kernel
theorem dX0_isFitting_0 : decode cX0_isFitting 0 = .ok (.aload_n 0, 1) := by decide +kernel
theorem dX0_isFitting_1 : decode cX0_isFitting 1 = .ok (.getfield 9, 3) := by decide +kernel
theorem dX0_isFitting_4 : decode cX0_isFitting 4 = .ok (.ldc2_w 25, 3) := by decide +kernel
theorem dX0_isFitting_7 : decode cX0_isFitting 7 = .ok (.lcmp, 1) := by decide +kernel
theorem dX0_isFitting_8 : decode cX0_isFitting 8 = .ok (.ifCond .lt 29, 3) := by decide +kernel
theorem dX0_isFitting_11 : decode cX0_isFitting 11 = .ok (.aload_n 0, 1) := by decide +kernel
theorem dX0_isFitting_12 : decode cX0_isFitting 12 = .ok (.getfield 9, 3) := by decide +kernel
theorem dX0_isFitting_15 : decode cX0_isFitting 15 = .ok (.ldc2_w 27, 3) := by decide +kernel
theorem dX0_isFitting_18 : decode cX0_isFitting 18 = .ok (.lcmp, 1) := by decide +kernel
theorem dX0_isFitting_19 : decode cX0_isFitting 19 = .ok (.ifCond .gt 18, 3) := by decide +kernel
theorem dX0_isFitting_22 : decode cX0_isFitting 22 = .ok (.aload_n 0, 1) := by decide +kernel
theorem dX0_isFitting_23 : decode cX0_isFitting 23 = .ok (.getfield 15, 3) := by decide +kernel
theorem dX0_isFitting_26 : decode cX0_isFitting 26 = .ok (.ldc2_w 27, 3) := by decide +kernel
theorem dX0_isFitting_29 : decode cX0_isFitting 29 = .ok (.lcmp, 1) := by decide +kernel
theorem dX0_isFitting_30 : decode cX0_isFitting 30 = .ok (.ifCond .gt 7, 3) := by decide +kernel
theorem dX0_isFitting_33 : decode cX0_isFitting 33 = .ok (.iconst 1, 1) := by decide +kernel
theorem dX0_isFitting_34 : decode cX0_isFitting 34 = .ok (.goto 4, 3) := by decide +kernel
theorem dX0_isFitting_37 : decode cX0_isFitting 37 = .ok (.iconst 0, 1) := by decide +kernel
theorem dX0_isFitting_38 : decode cX0_isFitting 38 = .ok (.ireturn, 1) := by decide +kernel
theorem dX0_isSameAs_0 : decode cX0_isSameAs 0 = .ok (.aload_n 0, 1) := by decide +kernel
theorem dX0_isSameAs_1 : decode cX0_isSameAs 1 = .ok (.getfield 9, 3) := by decide +kernel
theorem dX0_isSameAs_4 : decode cX0_isSameAs 4 = .ok (.aload_n 1, 1) := by decide +kernel
theorem dX0_isSameAs_5 : decode cX0_isSameAs 5 = .ok (.getfield 9, 3) := by decide +kernel
theorem dX0_isSameAs_8 : decode cX0_isSameAs 8 = .ok (.lcmp, 1) := by decide +kernel
theorem dX0_isSameAs_9 : decode cX0_isSameAs 9 = .ok (.ifCond .ne 19, 3) := by decide +kernel
theorem dX0_isSameAs_12 : decode cX0_isSameAs 12 = .ok (.aload_n 0, 1) := by decide +kernel
theorem dX0_isSameAs_13 : decode cX0_isSameAs 13 = .ok (.getfield 15, 3) := by decide +kernel
theorem dX0_isSameAs_16 : decode cX0_isSameAs 16 = .ok (.aload_n 1, 1) := by decide +kernel
theorem dX0_isSameAs_17 : decode cX0_isSameAs 17 = .ok (.getfield 15, 3) := by decide +kernel
theorem dX0_isSameAs_20 : decode cX0_isSameAs 20 = .ok (.lcmp, 1) := by decide +kernel
theorem dX0_isSameAs_21 : decode cX0_isSameAs 21 = .ok (.ifCond .ne 7, 3) := by decide +kernel
theorem dX0_isSameAs_24 : decode cX0_isSameAs 24 = .ok (.iconst 1, 1) := by decide +kernel
theorem dX0_isSameAs_25 : decode cX0_isSameAs 25 = .ok (.goto 4, 3) := by decide +kernel
theorem dX0_isSameAs_28 : decode cX0_isSameAs 28 = .ok (.iconst 0, 1) := by decide +kernel
theorem dX0_isSameAs_29 : decode cX0_isSameAs 29 = .ok (.ireturn, 1) := by decide +kernel
theorem dX0_isOne_0 : decode cX0_isOne 0 = .ok (.aload_n 0, 1) := by decide +kernel
theorem dX0_isOne_1 : decode cX0_isOne 1 = .ok (.getfield 9, 3) := by decide +kernel
theorem dX0_isOne_4 : decode cX0_isOne 4 = .ok (.lconst 1, 1) := by decide +kernel
theorem dX0_isOne_5 : decode cX0_isOne 5 = .ok (.lcmp, 1) := by decide +kernel
theorem dX0_isOne_6 : decode cX0_isOne 6 = .ok (.ifCond .ne 16, 3) := by decide +kernel
theorem dX0_isOne_9 : decode cX0_isOne 9 = .ok (.aload_n 0, 1) := by decide +kernel
theorem dX0_isOne_10 : decode cX0_isOne 10 = .ok (.getfield 15, 3) := by decide +kernel
theorem dX0_isOne_13 : decode cX0_isOne 13 = .ok (.lconst 1, 1) := by decide +kernel
theorem dX0_isOne_14 : decode cX0_isOne 14 = .ok (.lcmp, 1) := by decide +kernel
theorem dX0_isOne_15 : decode cX0_isOne 15 = .ok (.ifCond .ne 7, 3) := by decide +kernel
theorem dX0_isOne_18 : decode cX0_isOne 18 = .ok (.iconst 1, 1) := by decide +kernel
theorem dX0_isOne_19 : decode cX0_isOne 19 = .ok (.goto 4, 3) := by decide +kernel
theorem dX0_isOne_22 : decode cX0_isOne 22 = .ok (.iconst 0, 1) := by decide +kernel
theorem dX0_isOne_23 : decode cX0_isOne 23 = .ok (.ireturn, 1) := by decide +kernel
theorem dX0_sign_0 : decode cX0_sign 0 = .ok (.aload_n 0, 1) := by decide +kernel
theorem dX0_sign_1 : decode cX0_sign 1 = .ok (.getfield 9, 3) := by decide +kernel
theorem dX0_sign_4 : decode cX0_sign 4 = .ok (.lconst 0, 1) := by decide +kernel
theorem dX0_sign_5 : decode cX0_sign 5 = .ok (.invokestatic 29, 3) := by decide +kernel
theorem dX0_sign_8 : decode cX0_sign 8 = .ok (.ireturn, 1) := by decide +kernel
theorem dX0_floorPart_0 : decode cX0_floorPart 0 = .ok (.aload_n 0, 1) := by decide +kernel
theorem dX0_floorPart_1 : decode cX0_floorPart 1 = .ok (.getfield 9, 3) := by decide +kernel
theorem dX0_floorPart_4 : decode cX0_floorPart 4 = .ok (.aload_n 0, 1) := by decide +kernel
theorem dX0_floorPart_5 : decode cX0_floorPart 5 = .ok (.getfield 15, 3) := by decide +kernel
theorem dX0_floorPart_8 : decode cX0_floorPart 8 = .ok (.invokestatic 22, 3) := by decide +kernel
theorem dX0_floorPart_11 : decode cX0_floorPart 11 = .ok (.lreturn, 1) := by decide +kernel
theorem dX0_cutTo_0 : decode cX0_cutTo 0 = .ok (.aload_n 0, 1) := by decide +kernel
theorem dX0_cutTo_1 : decode cX0_cutTo 1 = .ok (.getfield 9, 3) := by decide +kernel
theorem dX0_cutTo_4 : decode cX0_cutTo 4 = .ok (.aload_n 0, 1) := by decide +kernel
theorem dX0_cutTo_5 : decode cX0_cutTo 5 = .ok (.getfield 15, 3) := by decide +kernel
theorem dX0_cutTo_8 : decode cX0_cutTo 8 = .ok (.iload_n 1, 1) := by decide +kernel
theorem dX0_cutTo_9 : decode cX0_cutTo 9 = .ok (.iload_n 2, 1) := by decide +kernel
theorem dX0_cutTo_10 : decode cX0_cutTo 10 = .ok (.invokestatic 35, 3) := by decide +kernel
theorem dX0_cutTo_13 : decode cX0_cutTo 13 = .ok (.lreturn, 1) := by decide +kernel
theorem dX0_compareWith_0 : decode cX0_compareWith 0 = .ok (.aload_n 0, 1) := by decide +kernel
theorem dX0_compareWith_1 : decode cX0_compareWith 1 = .ok (.getfield 9, 3) := by decide +kernel
theorem dX0_compareWith_4 : decode cX0_compareWith 4 = .ok (.aload_n 1, 1) := by decide +kernel
theorem dX0_compareWith_5 : decode cX0_compareWith 5 = .ok (.getfield 15, 3) := by decide +kernel
theorem dX0_compareWith_8 : decode cX0_compareWith 8 = .ok (.lmul, 1) := by decide +kernel
theorem dX0_compareWith_9 : decode cX0_compareWith 9 = .ok (.aload_n 1, 1) := by decide +kernel
theorem dX0_compareWith_10 : decode cX0_compareWith 10 = .ok (.getfield 9, 3) := by decide +kernel
theorem dX0_compareWith_13 : decode cX0_compareWith 13 = .ok (.aload_n 0, 1) := by decide +kernel
theorem dX0_compareWith_14 : decode cX0_compareWith 14 = .ok (.getfield 15, 3) := by decide +kernel
theorem dX0_compareWith_17 : decode cX0_compareWith 17 = .ok (.lmul, 1) := by decide +kernel
theorem dX0_compareWith_18 : decode cX0_compareWith 18 = .ok (.invokestatic 29, 3) := by decide +kernel
theorem dX0_compareWith_21 : decode cX0_compareWith 21 = .ok (.ireturn, 1) := by decide +kernel
theorem dX0_isNextTo_0 : decode cX0_isNextTo 0 = .ok (.aload_n 0, 1) := by decide +kernel
theorem dX0_isNextTo_1 : decode cX0_isNextTo 1 = .ok (.getfield 9, 3) := by decide +kernel
theorem dX0_isNextTo_4 : decode cX0_isNextTo 4 = .ok (.aload_n 1, 1) := by decide +kernel
theorem dX0_isNextTo_5 : decode cX0_isNextTo 5 = .ok (.getfield 15, 3) := by decide +kernel
theorem dX0_isNextTo_8 : decode cX0_isNextTo 8 = .ok (.lmul, 1) := by decide +kernel
theorem dX0_isNextTo_9 : decode cX0_isNextTo 9 = .ok (.aload_n 1, 1) := by decide +kernel
theorem dX0_isNextTo_10 : decode cX0_isNextTo 10 = .ok (.getfield 9, 3) := by decide +kernel
theorem dX0_isNextTo_13 : decode cX0_isNextTo 13 = .ok (.aload_n 0, 1) := by decide +kernel
theorem dX0_isNextTo_14 : decode cX0_isNextTo 14 = .ok (.getfield 15, 3) := by decide +kernel
theorem dX0_isNextTo_17 : decode cX0_isNextTo 17 = .ok (.lmul, 1) := by decide +kernel
theorem dX0_isNextTo_18 : decode cX0_isNextTo 18 = .ok (.lsub, 1) := by decide +kernel
theorem dX0_isNextTo_19 : decode cX0_isNextTo 19 = .ok (.lstore_n 2, 1) := by decide +kernel
theorem dX0_isNextTo_20 : decode cX0_isNextTo 20 = .ok (.lload_n 2, 1) := by decide +kernel
theorem dX0_isNextTo_21 : decode cX0_isNextTo 21 = .ok (.lconst 1, 1) := by decide +kernel
theorem dX0_isNextTo_22 : decode cX0_isNextTo 22 = .ok (.lcmp, 1) := by decide +kernel
theorem dX0_isNextTo_23 : decode cX0_isNextTo 23 = .ok (.ifCond .eq 11, 3) := by decide +kernel
theorem dX0_isNextTo_26 : decode cX0_isNextTo 26 = .ok (.lload_n 2, 1) := by decide +kernel
theorem dX0_isNextTo_27 : decode cX0_isNextTo 27 = .ok (.ldc2_w 39, 3) := by decide +kernel
theorem dX0_isNextTo_30 : decode cX0_isNextTo 30 = .ok (.lcmp, 1) := by decide +kernel
theorem dX0_isNextTo_31 : decode cX0_isNextTo 31 = .ok (.ifCond .ne 7, 3) := by decide +kernel
theorem dX0_isNextTo_34 : decode cX0_isNextTo 34 = .ok (.iconst 1, 1) := by decide +kernel
theorem dX0_isNextTo_35 : decode cX0_isNextTo 35 = .ok (.goto 4, 3) := by decide +kernel
theorem dX0_isNextTo_38 : decode cX0_isNextTo 38 = .ok (.iconst 0, 1) := by decide +kernel
theorem dX0_isNextTo_39 : decode cX0_isNextTo 39 = .ok (.ireturn, 1) := by decide +kernel
theorem dX0_becomeSum_0 : decode cX0_becomeSum 0 = .ok (.aload_n 0, 1) := by decide +kernel
theorem dX0_becomeSum_1 : decode cX0_becomeSum 1 = .ok (.aload_n 1, 1) := by decide +kernel
theorem dX0_becomeSum_2 : decode cX0_becomeSum 2 = .ok (.aload_n 2, 1) := by decide +kernel
theorem dX0_becomeSum_3 : decode cX0_becomeSum 3 = .ok (.getfield 9, 3) := by decide +kernel
theorem dX0_becomeSum_6 : decode cX0_becomeSum 6 = .ok (.aload_n 2, 1) := by decide +kernel
theorem dX0_becomeSum_7 : decode cX0_becomeSum 7 = .ok (.getfield 15, 3) := by decide +kernel
theorem dX0_becomeSum_10 : decode cX0_becomeSum 10 = .ok (.invokevirtual 41, 3) := by decide +kernel
theorem dX0_becomeSum_13 : decode cX0_becomeSum 13 = .ok (.return_, 1) := by decide +kernel
theorem dX0_becomeDifference_0 : decode cX0_becomeDifference 0 = .ok (.aload_n 0, 1) := by decide +kernel
theorem dX0_becomeDifference_1 : decode cX0_becomeDifference 1 = .ok (.aload_n 1, 1) := by decide +kernel
theorem dX0_becomeDifference_2 : decode cX0_becomeDifference 2 = .ok (.aload_n 2, 1) := by decide +kernel
theorem dX0_becomeDifference_3 : decode cX0_becomeDifference 3 = .ok (.getfield 9, 3) := by decide +kernel
theorem dX0_becomeDifference_6 : decode cX0_becomeDifference 6 = .ok (.lneg, 1) := by decide +kernel
theorem dX0_becomeDifference_7 : decode cX0_becomeDifference 7 = .ok (.aload_n 2, 1) := by decide +kernel
theorem dX0_becomeDifference_8 : decode cX0_becomeDifference 8 = .ok (.getfield 15, 3) := by decide +kernel
theorem dX0_becomeDifference_11 : decode cX0_becomeDifference 11 = .ok (.invokevirtual 41, 3) := by decide +kernel
theorem dX0_becomeDifference_14 : decode cX0_becomeDifference 14 = .ok (.return_, 1) := by decide +kernel
theorem dX0_gather_0 : decode cX0_gather 0 = .ok (.aload_n 1, 1) := by decide +kernel
theorem dX0_gather_1 : decode cX0_gather 1 = .ok (.getfield 15, 3) := by decide +kernel
theorem dX0_gather_4 : decode cX0_gather 4 = .ok (.lload 4, 2) := by decide +kernel
theorem dX0_gather_6 : decode cX0_gather 6 = .ok (.invokestatic 18, 3) := by decide +kernel
theorem dX0_gather_9 : decode cX0_gather 9 = .ok (.lstore 6, 2) := by decide +kernel
theorem dX0_gather_11 : decode cX0_gather 11 = .ok (.aload_n 1, 1) := by decide +kernel
theorem dX0_gather_12 : decode cX0_gather 12 = .ok (.getfield 15, 3) := by decide +kernel
theorem dX0_gather_15 : decode cX0_gather 15 = .ok (.lload 6, 2) := by decide +kernel
theorem dX0_gather_17 : decode cX0_gather 17 = .ok (.invokestatic 22, 3) := by decide +kernel
theorem dX0_gather_20 : decode cX0_gather 20 = .ok (.lstore 8, 2) := by decide +kernel
theorem dX0_gather_22 : decode cX0_gather 22 = .ok (.lload 4, 2) := by decide +kernel
theorem dX0_gather_24 : decode cX0_gather 24 = .ok (.lload 6, 2) := by decide +kernel
theorem dX0_gather_26 : decode cX0_gather 26 = .ok (.invokestatic 22, 3) := by decide +kernel
theorem dX0_gather_29 : decode cX0_gather 29 = .ok (.lstore 10, 2) := by decide +kernel
theorem dX0_gather_31 : decode cX0_gather 31 = .ok (.aload_n 0, 1) := by decide +kernel
theorem dX0_gather_32 : decode cX0_gather 32 = .ok (.aload_n 1, 1) := by decide +kernel
theorem dX0_gather_33 : decode cX0_gather 33 = .ok (.getfield 9, 3) := by decide +kernel
theorem dX0_gather_36 : decode cX0_gather 36 = .ok (.lload 10, 2) := by decide +kernel
theorem dX0_gather_38 : decode cX0_gather 38 = .ok (.lmul, 1) := by decide +kernel
theorem dX0_gather_39 : decode cX0_gather 39 = .ok (.lload_n 2, 1) := by decide +kernel
theorem dX0_gather_40 : decode cX0_gather 40 = .ok (.lload 8, 2) := by decide +kernel
theorem dX0_gather_42 : decode cX0_gather 42 = .ok (.lmul, 1) := by decide +kernel
theorem dX0_gather_43 : decode cX0_gather 43 = .ok (.ladd, 1) := by decide +kernel
theorem dX0_gather_44 : decode cX0_gather 44 = .ok (.lload 8, 2) := by decide +kernel
theorem dX0_gather_46 : decode cX0_gather 46 = .ok (.lload 4, 2) := by decide +kernel
theorem dX0_gather_48 : decode cX0_gather 48 = .ok (.lmul, 1) := by decide +kernel
theorem dX0_gather_49 : decode cX0_gather 49 = .ok (.invokevirtual 45, 3) := by decide +kernel
theorem dX0_gather_52 : decode cX0_gather 52 = .ok (.return_, 1) := by decide +kernel
theorem dX0_becomeProduct_0 : decode cX0_becomeProduct 0 = .ok (.aload_n 0, 1) := by decide +kernel
theorem dX0_becomeProduct_1 : decode cX0_becomeProduct 1 = .ok (.aload_n 1, 1) := by decide +kernel
theorem dX0_becomeProduct_2 : decode cX0_becomeProduct 2 = .ok (.getfield 9, 3) := by decide +kernel
theorem dX0_becomeProduct_5 : decode cX0_becomeProduct 5 = .ok (.aload_n 2, 1) := by decide +kernel
theorem dX0_becomeProduct_6 : decode cX0_becomeProduct 6 = .ok (.getfield 9, 3) := by decide +kernel
theorem dX0_becomeProduct_9 : decode cX0_becomeProduct 9 = .ok (.lmul, 1) := by decide +kernel
theorem dX0_becomeProduct_10 : decode cX0_becomeProduct 10 = .ok (.aload_n 1, 1) := by decide +kernel
theorem dX0_becomeProduct_11 : decode cX0_becomeProduct 11 = .ok (.getfield 15, 3) := by decide +kernel
theorem dX0_becomeProduct_14 : decode cX0_becomeProduct 14 = .ok (.aload_n 2, 1) := by decide +kernel
theorem dX0_becomeProduct_15 : decode cX0_becomeProduct 15 = .ok (.getfield 15, 3) := by decide +kernel
theorem dX0_becomeProduct_18 : decode cX0_becomeProduct 18 = .ok (.lmul, 1) := by decide +kernel
theorem dX0_becomeProduct_19 : decode cX0_becomeProduct 19 = .ok (.invokevirtual 45, 3) := by decide +kernel
theorem dX0_becomeProduct_22 : decode cX0_becomeProduct 22 = .ok (.return_, 1) := by decide +kernel
theorem dX0_becomeQuotient_0 : decode cX0_becomeQuotient 0 = .ok (.aload_n 0, 1) := by decide +kernel
theorem dX0_becomeQuotient_1 : decode cX0_becomeQuotient 1 = .ok (.aload_n 1, 1) := by decide +kernel
theorem dX0_becomeQuotient_2 : decode cX0_becomeQuotient 2 = .ok (.getfield 9, 3) := by decide +kernel
theorem dX0_becomeQuotient_5 : decode cX0_becomeQuotient 5 = .ok (.aload_n 2, 1) := by decide +kernel
theorem dX0_becomeQuotient_6 : decode cX0_becomeQuotient 6 = .ok (.getfield 15, 3) := by decide +kernel
theorem dX0_becomeQuotient_9 : decode cX0_becomeQuotient 9 = .ok (.lmul, 1) := by decide +kernel
theorem dX0_becomeQuotient_10 : decode cX0_becomeQuotient 10 = .ok (.aload_n 1, 1) := by decide +kernel
theorem dX0_becomeQuotient_11 : decode cX0_becomeQuotient 11 = .ok (.getfield 15, 3) := by decide +kernel
theorem dX0_becomeQuotient_14 : decode cX0_becomeQuotient 14 = .ok (.aload_n 2, 1) := by decide +kernel
theorem dX0_becomeQuotient_15 : decode cX0_becomeQuotient 15 = .ok (.getfield 9, 3) := by decide +kernel
theorem dX0_becomeQuotient_18 : decode cX0_becomeQuotient 18 = .ok (.lmul, 1) := by decide +kernel
theorem dX0_becomeQuotient_19 : decode cX0_becomeQuotient 19 = .ok (.invokevirtual 45, 3) := by decide +kernel
theorem dX0_becomeQuotient_22 : decode cX0_becomeQuotient 22 = .ok (.return_, 1) := by decide +kernel
theorem dX0_becomeMediant_0 : decode cX0_becomeMediant 0 = .ok (.aload_n 0, 1) := by decide +kernel
theorem dX0_becomeMediant_1 : decode cX0_becomeMediant 1 = .ok (.aload_n 1, 1) := by decide +kernel
theorem dX0_becomeMediant_2 : decode cX0_becomeMediant 2 = .ok (.getfield 9, 3) := by decide +kernel
theorem dX0_becomeMediant_5 : decode cX0_becomeMediant 5 = .ok (.aload_n 2, 1) := by decide +kernel
theorem dX0_becomeMediant_6 : decode cX0_becomeMediant 6 = .ok (.getfield 9, 3) := by decide +kernel
theorem dX0_becomeMediant_9 : decode cX0_becomeMediant 9 = .ok (.ladd, 1) := by decide +kernel
theorem dX0_becomeMediant_10 : decode cX0_becomeMediant 10 = .ok (.aload_n 1, 1) := by decide +kernel
theorem dX0_becomeMediant_11 : decode cX0_becomeMediant 11 = .ok (.getfield 15, 3) := by decide +kernel
theorem dX0_becomeMediant_14 : decode cX0_becomeMediant 14 = .ok (.aload_n 2, 1) := by decide +kernel
theorem dX0_becomeMediant_15 : decode cX0_becomeMediant 15 = .ok (.getfield 15, 3) := by decide +kernel
theorem dX0_becomeMediant_18 : decode cX0_becomeMediant 18 = .ok (.ladd, 1) := by decide +kernel
theorem dX0_becomeMediant_19 : decode cX0_becomeMediant 19 = .ok (.invokevirtual 45, 3) := by decide +kernel
theorem dX0_becomeMediant_22 : decode cX0_becomeMediant 22 = .ok (.return_, 1) := by decide +kernel
theorem dX0_becomePower_0 : decode cX0_becomePower 0 = .ok (.iload_n 2, 1) := by decide +kernel
theorem dX0_becomePower_1 : decode cX0_becomePower 1 = .ok (.ifCond .ge 8, 3) := by decide +kernel
theorem dX0_becomePower_4 : decode cX0_becomePower 4 = .ok (.iload_n 2, 1) := by decide +kernel
theorem dX0_becomePower_5 : decode cX0_becomePower 5 = .ok (.ineg, 1) := by decide +kernel
theorem dX0_becomePower_6 : decode cX0_becomePower 6 = .ok (.goto 4, 3) := by decide +kernel
theorem dX0_becomePower_9 : decode cX0_becomePower 9 = .ok (.iload_n 2, 1) := by decide +kernel
theorem dX0_becomePower_10 : decode cX0_becomePower 10 = .ok (.istore_n 3, 1) := by decide +kernel
theorem dX0_becomePower_11 : decode cX0_becomePower 11 = .ok (.aload_n 1, 1) := by decide +kernel
theorem dX0_becomePower_12 : decode cX0_becomePower 12 = .ok (.getfield 9, 3) := by decide +kernel
theorem dX0_becomePower_15 : decode cX0_becomePower 15 = .ok (.lconst 0, 1) := by decide +kernel
theorem dX0_becomePower_16 : decode cX0_becomePower 16 = .ok (.lcmp, 1) := by decide +kernel
theorem dX0_becomePower_17 : decode cX0_becomePower 17 = .ok (.ifCond .ge 11, 3) := by decide +kernel
theorem dX0_becomePower_20 : decode cX0_becomePower 20 = .ok (.aload_n 1, 1) := by decide +kernel
theorem dX0_becomePower_21 : decode cX0_becomePower 21 = .ok (.getfield 9, 3) := by decide +kernel
theorem dX0_becomePower_24 : decode cX0_becomePower 24 = .ok (.lneg, 1) := by decide +kernel
theorem dX0_becomePower_25 : decode cX0_becomePower 25 = .ok (.goto 7, 3) := by decide +kernel
theorem dX0_becomePower_28 : decode cX0_becomePower 28 = .ok (.aload_n 1, 1) := by decide +kernel
theorem dX0_becomePower_29 : decode cX0_becomePower 29 = .ok (.getfield 9, 3) := by decide +kernel
theorem dX0_becomePower_32 : decode cX0_becomePower 32 = .ok (.iload_n 3, 1) := by decide +kernel
theorem dX0_becomePower_33 : decode cX0_becomePower 33 = .ok (.invokestatic 49, 3) := by decide +kernel
theorem dX0_becomePower_36 : decode cX0_becomePower 36 = .ok (.lstore 4, 2) := by decide +kernel
theorem dX0_becomePower_38 : decode cX0_becomePower 38 = .ok (.aload_n 1, 1) := by decide +kernel
theorem dX0_becomePower_39 : decode cX0_becomePower 39 = .ok (.getfield 15, 3) := by decide +kernel
theorem dX0_becomePower_42 : decode cX0_becomePower 42 = .ok (.iload_n 3, 1) := by decide +kernel
theorem dX0_becomePower_43 : decode cX0_becomePower 43 = .ok (.invokestatic 49, 3) := by decide +kernel
theorem dX0_becomePower_46 : decode cX0_becomePower 46 = .ok (.lstore 6, 2) := by decide +kernel
theorem dX0_becomePower_48 : decode cX0_becomePower 48 = .ok (.aload_n 1, 1) := by decide +kernel
theorem dX0_becomePower_49 : decode cX0_becomePower 49 = .ok (.getfield 9, 3) := by decide +kernel
theorem dX0_becomePower_52 : decode cX0_becomePower 52 = .ok (.lconst 0, 1) := by decide +kernel
theorem dX0_becomePower_53 : decode cX0_becomePower 53 = .ok (.lcmp, 1) := by decide +kernel
theorem dX0_becomePower_54 : decode cX0_becomePower 54 = .ok (.ifCond .ge 15, 3) := by decide +kernel
theorem dX0_becomePower_57 : decode cX0_becomePower 57 = .ok (.iload_n 3, 1) := by decide +kernel
theorem dX0_becomePower_58 : decode cX0_becomePower 58 = .ok (.iconst 1, 1) := by decide +kernel
theorem dX0_becomePower_59 : decode cX0_becomePower 59 = .ok (.iand, 1) := by decide +kernel
theorem dX0_becomePower_60 : decode cX0_becomePower 60 = .ok (.iconst 1, 1) := by decide +kernel
theorem dX0_becomePower_61 : decode cX0_becomePower 61 = .ok (.if_icmp .ne 8, 3) := by decide +kernel
theorem dX0_becomePower_64 : decode cX0_becomePower 64 = .ok (.lload 4, 2) := by decide +kernel
theorem dX0_becomePower_66 : decode cX0_becomePower 66 = .ok (.lneg, 1) := by decide +kernel
theorem dX0_becomePower_67 : decode cX0_becomePower 67 = .ok (.lstore 4, 2) := by decide +kernel
theorem dX0_becomePower_69 : decode cX0_becomePower 69 = .ok (.iload_n 2, 1) := by decide +kernel
theorem dX0_becomePower_70 : decode cX0_becomePower 70 = .ok (.ifCond .ge 14, 3) := by decide +kernel
theorem dX0_becomePower_73 : decode cX0_becomePower 73 = .ok (.aload_n 0, 1) := by decide +kernel
theorem dX0_becomePower_74 : decode cX0_becomePower 74 = .ok (.lload 6, 2) := by decide +kernel
theorem dX0_becomePower_76 : decode cX0_becomePower 76 = .ok (.lload 4, 2) := by decide +kernel
theorem dX0_becomePower_78 : decode cX0_becomePower 78 = .ok (.invokevirtual 45, 3) := by decide +kernel
theorem dX0_becomePower_81 : decode cX0_becomePower 81 = .ok (.goto 11, 3) := by decide +kernel
theorem dX0_becomePower_84 : decode cX0_becomePower 84 = .ok (.aload_n 0, 1) := by decide +kernel
theorem dX0_becomePower_85 : decode cX0_becomePower 85 = .ok (.lload 4, 2) := by decide +kernel
theorem dX0_becomePower_87 : decode cX0_becomePower 87 = .ok (.lload 6, 2) := by decide +kernel
theorem dX0_becomePower_89 : decode cX0_becomePower 89 = .ok (.invokevirtual 45, 3) := by decide +kernel
theorem dX0_becomePower_92 : decode cX0_becomePower 92 = .ok (.return_, 1) := by decide +kernel
theorem dX0_becomeNeighbour_0 : decode cX0_becomeNeighbour 0 = .ok (.iload_n 3, 1) := by decide +kernel
theorem dX0_becomeNeighbour_1 : decode cX0_becomeNeighbour 1 = .ok (.i2l, 1) := by decide +kernel
theorem dX0_becomeNeighbour_2 : decode cX0_becomeNeighbour 2 = .ok (.aload_n 1, 1) := by decide +kernel
theorem dX0_becomeNeighbour_3 : decode cX0_becomeNeighbour 3 = .ok (.getfield 9, 3) := by decide +kernel
theorem dX0_becomeNeighbour_6 : decode cX0_becomeNeighbour 6 = .ok (.lmul, 1) := by decide +kernel
theorem dX0_becomeNeighbour_7 : decode cX0_becomeNeighbour 7 = .ok (.lstore 4, 2) := by decide +kernel
theorem dX0_becomeNeighbour_9 : decode cX0_becomeNeighbour 9 = .ok (.lload 4, 2) := by decide +kernel
theorem dX0_becomeNeighbour_11 : decode cX0_becomeNeighbour 11 = .ok (.aload_n 1, 1) := by decide +kernel
theorem dX0_becomeNeighbour_12 : decode cX0_becomeNeighbour 12 = .ok (.getfield 15, 3) := by decide +kernel
theorem dX0_becomeNeighbour_15 : decode cX0_becomeNeighbour 15 = .ok (.invokestatic 22, 3) := by decide +kernel
theorem dX0_becomeNeighbour_18 : decode cX0_becomeNeighbour 18 = .ok (.lstore 6, 2) := by decide +kernel
theorem dX0_becomeNeighbour_20 : decode cX0_becomeNeighbour 20 = .ok (.lconst 1, 1) := by decide +kernel
theorem dX0_becomeNeighbour_21 : decode cX0_becomeNeighbour 21 = .ok (.lstore 8, 2) := by decide +kernel
theorem dX0_becomeNeighbour_23 : decode cX0_becomeNeighbour 23 = .ok (.ldc2_w 53, 3) := by decide +kernel
theorem dX0_becomeNeighbour_26 : decode cX0_becomeNeighbour 26 = .ok (.lstore 10, 2) := by decide +kernel
theorem dX0_becomeNeighbour_28 : decode cX0_becomeNeighbour 28 = .ok (.lload 10, 2) := by decide +kernel
theorem dX0_becomeNeighbour_30 : decode cX0_becomeNeighbour 30 = .ok (.iload_n 2, 1) := by decide +kernel
theorem dX0_becomeNeighbour_31 : decode cX0_becomeNeighbour 31 = .ok (.i2l, 1) := by decide +kernel
theorem dX0_becomeNeighbour_32 : decode cX0_becomeNeighbour 32 = .ok (.lcmp, 1) := by decide +kernel
theorem dX0_becomeNeighbour_33 : decode cX0_becomeNeighbour 33 = .ok (.ifCond .gt 48, 3) := by decide +kernel
theorem dX0_becomeNeighbour_36 : decode cX0_becomeNeighbour 36 = .ok (.lload 4, 2) := by decide +kernel
theorem dX0_becomeNeighbour_38 : decode cX0_becomeNeighbour 38 = .ok (.lload 10, 2) := by decide +kernel
theorem dX0_becomeNeighbour_40 : decode cX0_becomeNeighbour 40 = .ok (.lmul, 1) := by decide +kernel
theorem dX0_becomeNeighbour_41 : decode cX0_becomeNeighbour 41 = .ok (.aload_n 1, 1) := by decide +kernel
theorem dX0_becomeNeighbour_42 : decode cX0_becomeNeighbour 42 = .ok (.getfield 15, 3) := by decide +kernel
theorem dX0_becomeNeighbour_45 : decode cX0_becomeNeighbour 45 = .ok (.invokestatic 22, 3) := by decide +kernel
theorem dX0_becomeNeighbour_48 : decode cX0_becomeNeighbour 48 = .ok (.lstore 12, 2) := by decide +kernel
theorem dX0_becomeNeighbour_50 : decode cX0_becomeNeighbour 50 = .ok (.lload 12, 2) := by decide +kernel
theorem dX0_becomeNeighbour_52 : decode cX0_becomeNeighbour 52 = .ok (.lload 8, 2) := by decide +kernel
theorem dX0_becomeNeighbour_54 : decode cX0_becomeNeighbour 54 = .ok (.lmul, 1) := by decide +kernel
theorem dX0_becomeNeighbour_55 : decode cX0_becomeNeighbour 55 = .ok (.lload 6, 2) := by decide +kernel
theorem dX0_becomeNeighbour_57 : decode cX0_becomeNeighbour 57 = .ok (.lload 10, 2) := by decide +kernel
theorem dX0_becomeNeighbour_59 : decode cX0_becomeNeighbour 59 = .ok (.lmul, 1) := by decide +kernel
theorem dX0_becomeNeighbour_60 : decode cX0_becomeNeighbour 60 = .ok (.lcmp, 1) := by decide +kernel
theorem dX0_becomeNeighbour_61 : decode cX0_becomeNeighbour 61 = .ok (.ifCond .le 11, 3) := by decide +kernel
theorem dX0_becomeNeighbour_64 : decode cX0_becomeNeighbour 64 = .ok (.lload 12, 2) := by decide +kernel
theorem dX0_becomeNeighbour_66 : decode cX0_becomeNeighbour 66 = .ok (.lstore 6, 2) := by decide +kernel
theorem dX0_becomeNeighbour_68 : decode cX0_becomeNeighbour 68 = .ok (.lload 10, 2) := by decide +kernel
theorem dX0_becomeNeighbour_70 : decode cX0_becomeNeighbour 70 = .ok (.lstore 8, 2) := by decide +kernel
theorem dX0_becomeNeighbour_72 : decode cX0_becomeNeighbour 72 = .ok (.lload 10, 2) := by decide +kernel
theorem dX0_becomeNeighbour_74 : decode cX0_becomeNeighbour 74 = .ok (.lconst 1, 1) := by decide +kernel
theorem dX0_becomeNeighbour_75 : decode cX0_becomeNeighbour 75 = .ok (.ladd, 1) := by decide +kernel
theorem dX0_becomeNeighbour_76 : decode cX0_becomeNeighbour 76 = .ok (.lstore 10, 2) := by decide +kernel
theorem dX0_becomeNeighbour_78 : decode cX0_becomeNeighbour 78 = .ok (.goto (-50), 3) := by decide +kernel
theorem dX0_becomeNeighbour_81 : decode cX0_becomeNeighbour 81 = .ok (.aload_n 0, 1) := by decide +kernel
theorem dX0_becomeNeighbour_82 : decode cX0_becomeNeighbour 82 = .ok (.iload_n 3, 1) := by decide +kernel
theorem dX0_becomeNeighbour_83 : decode cX0_becomeNeighbour 83 = .ok (.i2l, 1) := by decide +kernel
theorem dX0_becomeNeighbour_84 : decode cX0_becomeNeighbour 84 = .ok (.lload 6, 2) := by decide +kernel
theorem dX0_becomeNeighbour_86 : decode cX0_becomeNeighbour 86 = .ok (.lmul, 1) := by decide +kernel
theorem dX0_becomeNeighbour_87 : decode cX0_becomeNeighbour 87 = .ok (.lload 8, 2) := by decide +kernel
theorem dX0_becomeNeighbour_89 : decode cX0_becomeNeighbour 89 = .ok (.invokevirtual 45, 3) := by decide +kernel
theorem dX0_becomeNeighbour_92 : decode cX0_becomeNeighbour 92 = .ok (.return_, 1) := by decide +kernel
theorem dX0_becomeFollower_0 : decode cX0_becomeFollower 0 = .ok (.aload_n 1, 1) := by decide +kernel
theorem dX0_becomeFollower_1 : decode cX0_becomeFollower 1 = .ok (.invokevirtual 55, 3) := by decide +kernel
theorem dX0_becomeFollower_4 : decode cX0_becomeFollower 4 = .ok (.lstore_n 2, 1) := by decide +kernel
theorem dX0_becomeFollower_5 : decode cX0_becomeFollower 5 = .ok (.aload_n 0, 1) := by decide +kernel
theorem dX0_becomeFollower_6 : decode cX0_becomeFollower 6 = .ok (.aload_n 1, 1) := by decide +kernel
theorem dX0_becomeFollower_7 : decode cX0_becomeFollower 7 = .ok (.getfield 15, 3) := by decide +kernel
theorem dX0_becomeFollower_10 : decode cX0_becomeFollower 10 = .ok (.ldc2_w 53, 3) := by decide +kernel
theorem dX0_becomeFollower_13 : decode cX0_becomeFollower 13 = .ok (.lload_n 2, 1) := by decide +kernel
theorem dX0_becomeFollower_14 : decode cX0_becomeFollower 14 = .ok (.lmul, 1) := by decide +kernel
theorem dX0_becomeFollower_15 : decode cX0_becomeFollower 15 = .ok (.lconst 1, 1) := by decide +kernel
theorem dX0_becomeFollower_16 : decode cX0_becomeFollower 16 = .ok (.ladd, 1) := by decide +kernel
theorem dX0_becomeFollower_17 : decode cX0_becomeFollower 17 = .ok (.aload_n 1, 1) := by decide +kernel
theorem dX0_becomeFollower_18 : decode cX0_becomeFollower 18 = .ok (.getfield 15, 3) := by decide +kernel
theorem dX0_becomeFollower_21 : decode cX0_becomeFollower 21 = .ok (.lmul, 1) := by decide +kernel
theorem dX0_becomeFollower_22 : decode cX0_becomeFollower 22 = .ok (.aload_n 1, 1) := by decide +kernel
theorem dX0_becomeFollower_23 : decode cX0_becomeFollower 23 = .ok (.getfield 9, 3) := by decide +kernel
theorem dX0_becomeFollower_26 : decode cX0_becomeFollower 26 = .ok (.lsub, 1) := by decide +kernel
theorem dX0_becomeFollower_27 : decode cX0_becomeFollower 27 = .ok (.invokevirtual 45, 3) := by decide +kernel
theorem dX0_becomeFollower_30 : decode cX0_becomeFollower 30 = .ok (.return_, 1) := by decide +kernel
theorem dX0_becomeForerunner_0 : decode cX0_becomeForerunner 0 = .ok (.aload_n 1, 1) := by decide +kernel
theorem dX0_becomeForerunner_1 : decode cX0_becomeForerunner 1 = .ok (.getfield 15, 3) := by decide +kernel
theorem dX0_becomeForerunner_4 : decode cX0_becomeForerunner 4 = .ok (.lconst 1, 1) := by decide +kernel
theorem dX0_becomeForerunner_5 : decode cX0_becomeForerunner 5 = .ok (.lsub, 1) := by decide +kernel
theorem dX0_becomeForerunner_6 : decode cX0_becomeForerunner 6 = .ok (.aload_n 1, 1) := by decide +kernel
theorem dX0_becomeForerunner_7 : decode cX0_becomeForerunner 7 = .ok (.getfield 9, 3) := by decide +kernel
theorem dX0_becomeForerunner_10 : decode cX0_becomeForerunner 10 = .ok (.invokestatic 22, 3) := by decide +kernel
theorem dX0_becomeForerunner_13 : decode cX0_becomeForerunner 13 = .ok (.lstore_n 2, 1) := by decide +kernel
theorem dX0_becomeForerunner_14 : decode cX0_becomeForerunner 14 = .ok (.aload_n 0, 1) := by decide +kernel
theorem dX0_becomeForerunner_15 : decode cX0_becomeForerunner 15 = .ok (.ldc2_w 53, 3) := by decide +kernel
theorem dX0_becomeForerunner_18 : decode cX0_becomeForerunner 18 = .ok (.lload_n 2, 1) := by decide +kernel
theorem dX0_becomeForerunner_19 : decode cX0_becomeForerunner 19 = .ok (.lmul, 1) := by decide +kernel
theorem dX0_becomeForerunner_20 : decode cX0_becomeForerunner 20 = .ok (.lconst 1, 1) := by decide +kernel
theorem dX0_becomeForerunner_21 : decode cX0_becomeForerunner 21 = .ok (.ladd, 1) := by decide +kernel
theorem dX0_becomeForerunner_22 : decode cX0_becomeForerunner 22 = .ok (.aload_n 1, 1) := by decide +kernel
theorem dX0_becomeForerunner_23 : decode cX0_becomeForerunner 23 = .ok (.getfield 9, 3) := by decide +kernel
theorem dX0_becomeForerunner_26 : decode cX0_becomeForerunner 26 = .ok (.lmul, 1) := by decide +kernel
theorem dX0_becomeForerunner_27 : decode cX0_becomeForerunner 27 = .ok (.aload_n 1, 1) := by decide +kernel
theorem dX0_becomeForerunner_28 : decode cX0_becomeForerunner 28 = .ok (.getfield 15, 3) := by decide +kernel
theorem dX0_becomeForerunner_31 : decode cX0_becomeForerunner 31 = .ok (.lsub, 1) := by decide +kernel
theorem dX0_becomeForerunner_32 : decode cX0_becomeForerunner 32 = .ok (.aload_n 1, 1) := by decide +kernel
theorem dX0_becomeForerunner_33 : decode cX0_becomeForerunner 33 = .ok (.getfield 9, 3) := by decide +kernel
theorem dX0_becomeForerunner_36 : decode cX0_becomeForerunner 36 = .ok (.invokevirtual 45, 3) := by decide +kernel
theorem dX0_becomeForerunner_39 : decode cX0_becomeForerunner 39 = .ok (.return_, 1) := by decide +kernel
theorem dX0_becomeSimplest_0 : decode cX0_becomeSimplest 0 = .ok (.aload_n 1, 1) := by decide +kernel
theorem dX0_becomeSimplest_1 : decode cX0_becomeSimplest 1 = .ok (.iload_n 2, 1) := by decide +kernel
theorem dX0_becomeSimplest_2 : decode cX0_becomeSimplest 2 = .ok (.iload_n 3, 1) := by decide +kernel
theorem dX0_becomeSimplest_3 : decode cX0_becomeSimplest 3 = .ok (.invokevirtual 59, 3) := by decide +kernel
theorem dX0_becomeSimplest_6 : decode cX0_becomeSimplest 6 = .ok (.lstore 4, 2) := by decide +kernel
theorem dX0_becomeSimplest_8 : decode cX0_becomeSimplest 8 = .ok (.iload_n 2, 1) := by decide +kernel
theorem dX0_becomeSimplest_9 : decode cX0_becomeSimplest 9 = .ok (.invokestatic 63, 3) := by decide +kernel
theorem dX0_becomeSimplest_12 : decode cX0_becomeSimplest 12 = .ok (.lstore 6, 2) := by decide +kernel
theorem dX0_becomeSimplest_14 : decode cX0_becomeSimplest 14 = .ok (.lconst 1, 1) := by decide +kernel
theorem dX0_becomeSimplest_15 : decode cX0_becomeSimplest 15 = .ok (.lstore 8, 2) := by decide +kernel
theorem dX0_becomeSimplest_17 : decode cX0_becomeSimplest 17 = .ok (.lload 8, 2) := by decide +kernel
theorem dX0_becomeSimplest_19 : decode cX0_becomeSimplest 19 = .ok (.lload 6, 2) := by decide +kernel
theorem dX0_becomeSimplest_21 : decode cX0_becomeSimplest 21 = .ok (.lcmp, 1) := by decide +kernel
theorem dX0_becomeSimplest_22 : decode cX0_becomeSimplest 22 = .ok (.ifCond .gt 75, 3) := by decide +kernel
theorem dX0_becomeSimplest_25 : decode cX0_becomeSimplest 25 = .ok (.aload_n 1, 1) := by decide +kernel
theorem dX0_becomeSimplest_26 : decode cX0_becomeSimplest 26 = .ok (.getfield 9, 3) := by decide +kernel
theorem dX0_becomeSimplest_29 : decode cX0_becomeSimplest 29 = .ok (.lload 8, 2) := by decide +kernel
theorem dX0_becomeSimplest_31 : decode cX0_becomeSimplest 31 = .ok (.lmul, 1) := by decide +kernel
theorem dX0_becomeSimplest_32 : decode cX0_becomeSimplest 32 = .ok (.aload_n 1, 1) := by decide +kernel
theorem dX0_becomeSimplest_33 : decode cX0_becomeSimplest 33 = .ok (.getfield 15, 3) := by decide +kernel
theorem dX0_becomeSimplest_36 : decode cX0_becomeSimplest 36 = .ok (.invokestatic 22, 3) := by decide +kernel
theorem dX0_becomeSimplest_39 : decode cX0_becomeSimplest 39 = .ok (.lstore 10, 2) := by decide +kernel
theorem dX0_becomeSimplest_41 : decode cX0_becomeSimplest 41 = .ok (.lload 10, 2) := by decide +kernel
theorem dX0_becomeSimplest_43 : decode cX0_becomeSimplest 43 = .ok (.lstore 12, 2) := by decide +kernel
theorem dX0_becomeSimplest_45 : decode cX0_becomeSimplest 45 = .ok (.lload 12, 2) := by decide +kernel
theorem dX0_becomeSimplest_47 : decode cX0_becomeSimplest 47 = .ok (.lload 10, 2) := by decide +kernel
theorem dX0_becomeSimplest_49 : decode cX0_becomeSimplest 49 = .ok (.lconst 1, 1) := by decide +kernel
theorem dX0_becomeSimplest_50 : decode cX0_becomeSimplest 50 = .ok (.ladd, 1) := by decide +kernel
theorem dX0_becomeSimplest_51 : decode cX0_becomeSimplest 51 = .ok (.lcmp, 1) := by decide +kernel
theorem dX0_becomeSimplest_52 : decode cX0_becomeSimplest 52 = .ok (.ifCond .gt 36, 3) := by decide +kernel
theorem dX0_becomeSimplest_55 : decode cX0_becomeSimplest 55 = .ok (.lload 12, 2) := by decide +kernel
theorem dX0_becomeSimplest_57 : decode cX0_becomeSimplest 57 = .ok (.lload 8, 2) := by decide +kernel
theorem dX0_becomeSimplest_59 : decode cX0_becomeSimplest 59 = .ok (.iload_n 2, 1) := by decide +kernel
theorem dX0_becomeSimplest_60 : decode cX0_becomeSimplest 60 = .ok (.iload_n 3, 1) := by decide +kernel
theorem dX0_becomeSimplest_61 : decode cX0_becomeSimplest 61 = .ok (.invokestatic 35, 3) := by decide +kernel
theorem dX0_becomeSimplest_64 : decode cX0_becomeSimplest 64 = .ok (.lload 4, 2) := by decide +kernel
theorem dX0_becomeSimplest_66 : decode cX0_becomeSimplest 66 = .ok (.lcmp, 1) := by decide +kernel
theorem dX0_becomeSimplest_67 : decode cX0_becomeSimplest 67 = .ok (.ifCond .ne 12, 3) := by decide +kernel
theorem dX0_becomeSimplest_70 : decode cX0_becomeSimplest 70 = .ok (.aload_n 0, 1) := by decide +kernel
theorem dX0_becomeSimplest_71 : decode cX0_becomeSimplest 71 = .ok (.lload 12, 2) := by decide +kernel
theorem dX0_becomeSimplest_73 : decode cX0_becomeSimplest 73 = .ok (.lload 8, 2) := by decide +kernel
theorem dX0_becomeSimplest_75 : decode cX0_becomeSimplest 75 = .ok (.invokevirtual 45, 3) := by decide +kernel
theorem dX0_becomeSimplest_78 : decode cX0_becomeSimplest 78 = .ok (.return_, 1) := by decide +kernel
theorem dX0_becomeSimplest_79 : decode cX0_becomeSimplest 79 = .ok (.lload 12, 2) := by decide +kernel
theorem dX0_becomeSimplest_81 : decode cX0_becomeSimplest 81 = .ok (.lconst 1, 1) := by decide +kernel
theorem dX0_becomeSimplest_82 : decode cX0_becomeSimplest 82 = .ok (.ladd, 1) := by decide +kernel
theorem dX0_becomeSimplest_83 : decode cX0_becomeSimplest 83 = .ok (.lstore 12, 2) := by decide +kernel
theorem dX0_becomeSimplest_85 : decode cX0_becomeSimplest 85 = .ok (.goto (-40), 3) := by decide +kernel
theorem dX0_becomeSimplest_88 : decode cX0_becomeSimplest 88 = .ok (.lload 8, 2) := by decide +kernel
theorem dX0_becomeSimplest_90 : decode cX0_becomeSimplest 90 = .ok (.lconst 1, 1) := by decide +kernel
theorem dX0_becomeSimplest_91 : decode cX0_becomeSimplest 91 = .ok (.ladd, 1) := by decide +kernel
theorem dX0_becomeSimplest_92 : decode cX0_becomeSimplest 92 = .ok (.lstore 8, 2) := by decide +kernel
theorem dX0_becomeSimplest_94 : decode cX0_becomeSimplest 94 = .ok (.goto (-77), 3) := by decide +kernel
theorem dX0_becomeSimplest_97 : decode cX0_becomeSimplest 97 = .ok (.return_, 1) := by decide +kernel
theorem dX1_init_0 : decode cX1_init 0 = .ok (.aload_n 0, 1) := by decide +kernel
theorem dX1_init_1 : decode cX1_init 1 = .ok (.invokespecial 1, 3) := by decide +kernel
theorem dX1_init_4 : decode cX1_init 4 = .ok (.aload_n 0, 1) := by decide +kernel
theorem dX1_init_5 : decode cX1_init 5 = .ok (.new 7, 3) := by decide +kernel
theorem dX1_init_8 : decode cX1_init 8 = .ok (.dup, 1) := by decide +kernel
theorem dX1_init_9 : decode cX1_init 9 = .ok (.invokespecial 9, 3) := by decide +kernel
theorem dX1_init_12 : decode cX1_init 12 = .ok (.putfield 10, 3) := by decide +kernel
theorem dX1_init_15 : decode cX1_init 15 = .ok (.aload_n 0, 1) := by decide +kernel
theorem dX1_init_16 : decode cX1_init 16 = .ok (.new 7, 3) := by decide +kernel
theorem dX1_init_19 : decode cX1_init 19 = .ok (.dup, 1) := by decide +kernel
theorem dX1_init_20 : decode cX1_init 20 = .ok (.invokespecial 9, 3) := by decide +kernel
theorem dX1_init_23 : decode cX1_init 23 = .ok (.putfield 16, 3) := by decide +kernel
theorem dX1_init_26 : decode cX1_init 26 = .ok (.aload_n 0, 1) := by decide +kernel
theorem dX1_init_27 : decode cX1_init 27 = .ok (.new 7, 3) := by decide +kernel
theorem dX1_init_30 : decode cX1_init 30 = .ok (.dup, 1) := by decide +kernel
theorem dX1_init_31 : decode cX1_init 31 = .ok (.invokespecial 9, 3) := by decide +kernel
theorem dX1_init_34 : decode cX1_init 34 = .ok (.putfield 19, 3) := by decide +kernel
theorem dX1_init_37 : decode cX1_init 37 = .ok (.aload_n 0, 1) := by decide +kernel
theorem dX1_init_38 : decode cX1_init 38 = .ok (.new 7, 3) := by decide +kernel
theorem dX1_init_41 : decode cX1_init 41 = .ok (.dup, 1) := by decide +kernel
theorem dX1_init_42 : decode cX1_init 42 = .ok (.invokespecial 9, 3) := by decide +kernel
theorem dX1_init_45 : decode cX1_init 45 = .ok (.putfield 22, 3) := by decide +kernel
theorem dX1_init_48 : decode cX1_init 48 = .ok (.aload_n 0, 1) := by decide +kernel
theorem dX1_init_49 : decode cX1_init 49 = .ok (.new 7, 3) := by decide +kernel
theorem dX1_init_52 : decode cX1_init 52 = .ok (.dup, 1) := by decide +kernel
theorem dX1_init_53 : decode cX1_init 53 = .ok (.invokespecial 9, 3) := by decide +kernel
theorem dX1_init_56 : decode cX1_init 56 = .ok (.putfield 25, 3) := by decide +kernel
theorem dX1_init_59 : decode cX1_init 59 = .ok (.aload_n 0, 1) := by decide +kernel
theorem dX1_init_60 : decode cX1_init 60 = .ok (.new 7, 3) := by decide +kernel
theorem dX1_init_63 : decode cX1_init 63 = .ok (.dup, 1) := by decide +kernel
theorem dX1_init_64 : decode cX1_init 64 = .ok (.invokespecial 9, 3) := by decide +kernel
theorem dX1_init_67 : decode cX1_init 67 = .ok (.putfield 28, 3) := by decide +kernel
theorem dX1_init_70 : decode cX1_init 70 = .ok (.aload_n 0, 1) := by decide +kernel
theorem dX1_init_71 : decode cX1_init 71 = .ok (.iconst 0, 1) := by decide +kernel
theorem dX1_init_72 : decode cX1_init 72 = .ok (.putfield 31, 3) := by decide +kernel
theorem dX1_init_75 : decode cX1_init 75 = .ok (.aload_n 0, 1) := by decide +kernel
theorem dX1_init_76 : decode cX1_init 76 = .ok (.iconst 0, 1) := by decide +kernel
theorem dX1_init_77 : decode cX1_init 77 = .ok (.putfield 35, 3) := by decide +kernel
theorem dX1_init_80 : decode cX1_init 80 = .ok (.return_, 1) := by decide +kernel
theorem dX1_clear_0 : decode cX1_clear 0 = .ok (.aload_n 0, 1) := by decide +kernel
theorem dX1_clear_1 : decode cX1_clear 1 = .ok (.getfield 10, 3) := by decide +kernel
theorem dX1_clear_4 : decode cX1_clear 4 = .ok (.lconst 0, 1) := by decide +kernel
theorem dX1_clear_5 : decode cX1_clear 5 = .ok (.lconst 1, 1) := by decide +kernel
theorem dX1_clear_6 : decode cX1_clear 6 = .ok (.invokevirtual 38, 3) := by decide +kernel
theorem dX1_clear_9 : decode cX1_clear 9 = .ok (.aload_n 0, 1) := by decide +kernel
theorem dX1_clear_10 : decode cX1_clear 10 = .ok (.getfield 16, 3) := by decide +kernel
theorem dX1_clear_13 : decode cX1_clear 13 = .ok (.lconst 0, 1) := by decide +kernel
theorem dX1_clear_14 : decode cX1_clear 14 = .ok (.lconst 1, 1) := by decide +kernel
theorem dX1_clear_15 : decode cX1_clear 15 = .ok (.invokevirtual 38, 3) := by decide +kernel
theorem dX1_clear_18 : decode cX1_clear 18 = .ok (.aload_n 0, 1) := by decide +kernel
theorem dX1_clear_19 : decode cX1_clear 19 = .ok (.getfield 19, 3) := by decide +kernel
theorem dX1_clear_22 : decode cX1_clear 22 = .ok (.lconst 0, 1) := by decide +kernel
theorem dX1_clear_23 : decode cX1_clear 23 = .ok (.lconst 1, 1) := by decide +kernel
theorem dX1_clear_24 : decode cX1_clear 24 = .ok (.invokevirtual 38, 3) := by decide +kernel
theorem dX1_clear_27 : decode cX1_clear 27 = .ok (.aload_n 0, 1) := by decide +kernel
theorem dX1_clear_28 : decode cX1_clear 28 = .ok (.iconst 0, 1) := by decide +kernel
theorem dX1_clear_29 : decode cX1_clear 29 = .ok (.putfield 31, 3) := by decide +kernel
theorem dX1_clear_32 : decode cX1_clear 32 = .ok (.aload_n 0, 1) := by decide +kernel
theorem dX1_clear_33 : decode cX1_clear 33 = .ok (.iconst 0, 1) := by decide +kernel
theorem dX1_clear_34 : decode cX1_clear 34 = .ok (.putfield 35, 3) := by decide +kernel
theorem dX1_clear_37 : decode cX1_clear 37 = .ok (.return_, 1) := by decide +kernel
theorem dX1_takeIn_0 : decode cX1_takeIn 0 = .ok (.aload_n 0, 1) := by decide +kernel
theorem dX1_takeIn_1 : decode cX1_takeIn 1 = .ok (.getfield 22, 3) := by decide +kernel
theorem dX1_takeIn_4 : decode cX1_takeIn 4 = .ok (.aload_n 0, 1) := by decide +kernel
theorem dX1_takeIn_5 : decode cX1_takeIn 5 = .ok (.getfield 10, 3) := by decide +kernel
theorem dX1_takeIn_8 : decode cX1_takeIn 8 = .ok (.aload_n 1, 1) := by decide +kernel
theorem dX1_takeIn_9 : decode cX1_takeIn 9 = .ok (.invokevirtual 42, 3) := by decide +kernel
theorem dX1_takeIn_12 : decode cX1_takeIn 12 = .ok (.aload_n 0, 1) := by decide +kernel
theorem dX1_takeIn_13 : decode cX1_takeIn 13 = .ok (.getfield 25, 3) := by decide +kernel
theorem dX1_takeIn_16 : decode cX1_takeIn 16 = .ok (.aload_n 0, 1) := by decide +kernel
theorem dX1_takeIn_17 : decode cX1_takeIn 17 = .ok (.getfield 16, 3) := by decide +kernel
theorem dX1_takeIn_20 : decode cX1_takeIn 20 = .ok (.aload_n 1, 1) := by decide +kernel
theorem dX1_takeIn_21 : decode cX1_takeIn 21 = .ok (.iload_n 2, 1) := by decide +kernel
theorem dX1_takeIn_22 : decode cX1_takeIn 22 = .ok (.iload_n 3, 1) := by decide +kernel
theorem dX1_takeIn_23 : decode cX1_takeIn 23 = .ok (.invokevirtual 46, 3) := by decide +kernel
theorem dX1_takeIn_26 : decode cX1_takeIn 26 = .ok (.iload_n 2, 1) := by decide +kernel
theorem dX1_takeIn_27 : decode cX1_takeIn 27 = .ok (.invokestatic 50, 3) := by decide +kernel
theorem dX1_takeIn_30 : decode cX1_takeIn 30 = .ok (.invokevirtual 56, 3) := by decide +kernel
theorem dX1_takeIn_33 : decode cX1_takeIn 33 = .ok (.aload_n 0, 1) := by decide +kernel
theorem dX1_takeIn_34 : decode cX1_takeIn 34 = .ok (.getfield 22, 3) := by decide +kernel
theorem dX1_takeIn_37 : decode cX1_takeIn 37 = .ok (.invokevirtual 60, 3) := by decide +kernel
theorem dX1_takeIn_40 : decode cX1_takeIn 40 = .ok (.ifCond .eq 13, 3) := by decide +kernel
theorem dX1_takeIn_43 : decode cX1_takeIn 43 = .ok (.aload_n 0, 1) := by decide +kernel
theorem dX1_takeIn_44 : decode cX1_takeIn 44 = .ok (.getfield 25, 3) := by decide +kernel
theorem dX1_takeIn_47 : decode cX1_takeIn 47 = .ok (.invokevirtual 60, 3) := by decide +kernel
theorem dX1_takeIn_50 : decode cX1_takeIn 50 = .ok (.ifCond .ne 5, 3) := by decide +kernel
theorem dX1_takeIn_53 : decode cX1_takeIn 53 = .ok (.iconst 0, 1) := by decide +kernel
theorem dX1_takeIn_54 : decode cX1_takeIn 54 = .ok (.ireturn, 1) := by decide +kernel
theorem dX1_takeIn_55 : decode cX1_takeIn 55 = .ok (.aload_n 0, 1) := by decide +kernel
theorem dX1_takeIn_56 : decode cX1_takeIn 56 = .ok (.getfield 28, 3) := by decide +kernel
theorem dX1_takeIn_59 : decode cX1_takeIn 59 = .ok (.aload_n 0, 1) := by decide +kernel
theorem dX1_takeIn_60 : decode cX1_takeIn 60 = .ok (.getfield 22, 3) := by decide +kernel
theorem dX1_takeIn_63 : decode cX1_takeIn 63 = .ok (.aload_n 0, 1) := by decide +kernel
theorem dX1_takeIn_64 : decode cX1_takeIn 64 = .ok (.getfield 25, 3) := by decide +kernel
theorem dX1_takeIn_67 : decode cX1_takeIn 67 = .ok (.invokevirtual 64, 3) := by decide +kernel
theorem dX1_takeIn_70 : decode cX1_takeIn 70 = .ok (.aload_n 0, 1) := by decide +kernel
theorem dX1_takeIn_71 : decode cX1_takeIn 71 = .ok (.getfield 28, 3) := by decide +kernel
theorem dX1_takeIn_74 : decode cX1_takeIn 74 = .ok (.invokevirtual 60, 3) := by decide +kernel
theorem dX1_takeIn_77 : decode cX1_takeIn 77 = .ok (.ifCond .ne 5, 3) := by decide +kernel
theorem dX1_takeIn_80 : decode cX1_takeIn 80 = .ok (.iconst 0, 1) := by decide +kernel
theorem dX1_takeIn_81 : decode cX1_takeIn 81 = .ok (.ireturn, 1) := by decide +kernel
theorem dX1_takeIn_82 : decode cX1_takeIn 82 = .ok (.aload_n 0, 1) := by decide +kernel
theorem dX1_takeIn_83 : decode cX1_takeIn 83 = .ok (.getfield 10, 3) := by decide +kernel
theorem dX1_takeIn_86 : decode cX1_takeIn 86 = .ok (.aload_n 0, 1) := by decide +kernel
theorem dX1_takeIn_87 : decode cX1_takeIn 87 = .ok (.getfield 22, 3) := by decide +kernel
theorem dX1_takeIn_90 : decode cX1_takeIn 90 = .ok (.invokevirtual 67, 3) := by decide +kernel
theorem dX1_takeIn_93 : decode cX1_takeIn 93 = .ok (.aload_n 0, 1) := by decide +kernel
theorem dX1_takeIn_94 : decode cX1_takeIn 94 = .ok (.getfield 16, 3) := by decide +kernel
theorem dX1_takeIn_97 : decode cX1_takeIn 97 = .ok (.aload_n 0, 1) := by decide +kernel
theorem dX1_takeIn_98 : decode cX1_takeIn 98 = .ok (.getfield 25, 3) := by decide +kernel
theorem dX1_takeIn_101 : decode cX1_takeIn 101 = .ok (.invokevirtual 67, 3) := by decide +kernel
theorem dX1_takeIn_104 : decode cX1_takeIn 104 = .ok (.aload_n 0, 1) := by decide +kernel
theorem dX1_takeIn_105 : decode cX1_takeIn 105 = .ok (.getfield 19, 3) := by decide +kernel
theorem dX1_takeIn_108 : decode cX1_takeIn 108 = .ok (.aload_n 0, 1) := by decide +kernel
theorem dX1_takeIn_109 : decode cX1_takeIn 109 = .ok (.getfield 28, 3) := by decide +kernel
theorem dX1_takeIn_112 : decode cX1_takeIn 112 = .ok (.invokevirtual 67, 3) := by decide +kernel
theorem dX1_takeIn_115 : decode cX1_takeIn 115 = .ok (.aload_n 0, 1) := by decide +kernel
theorem dX1_takeIn_116 : decode cX1_takeIn 116 = .ok (.aload_n 0, 1) := by decide +kernel
theorem dX1_takeIn_117 : decode cX1_takeIn 117 = .ok (.getfield 35, 3) := by decide +kernel
theorem dX1_takeIn_120 : decode cX1_takeIn 120 = .ok (.iload_n 2, 1) := by decide +kernel
theorem dX1_takeIn_121 : decode cX1_takeIn 121 = .ok (.invokestatic 71, 3) := by decide +kernel
theorem dX1_takeIn_124 : decode cX1_takeIn 124 = .ok (.putfield 35, 3) := by decide +kernel
theorem dX1_takeIn_127 : decode cX1_takeIn 127 = .ok (.aload_n 0, 1) := by decide +kernel
theorem dX1_takeIn_128 : decode cX1_takeIn 128 = .ok (.dup, 1) := by decide +kernel
theorem dX1_takeIn_129 : decode cX1_takeIn 129 = .ok (.getfield 31, 3) := by decide +kernel
theorem dX1_takeIn_132 : decode cX1_takeIn 132 = .ok (.iconst 1, 1) := by decide +kernel
theorem dX1_takeIn_133 : decode cX1_takeIn 133 = .ok (.iadd, 1) := by decide +kernel
theorem dX1_takeIn_134 : decode cX1_takeIn 134 = .ok (.putfield 31, 3) := by decide +kernel
theorem dX1_takeIn_137 : decode cX1_takeIn 137 = .ok (.iconst 1, 1) := by decide +kernel
theorem dX1_takeIn_138 : decode cX1_takeIn 138 = .ok (.ireturn, 1) := by decide +kernel
theorem dX1_isEven_0 : decode cX1_isEven 0 = .ok (.aload_n 1, 1) := by decide +kernel
theorem dX1_isEven_1 : decode cX1_isEven 1 = .ok (.aload_n 0, 1) := by decide +kernel
theorem dX1_isEven_2 : decode cX1_isEven 2 = .ok (.getfield 16, 3) := by decide +kernel
theorem dX1_isEven_5 : decode cX1_isEven 5 = .ok (.aload_n 0, 1) := by decide +kernel
theorem dX1_isEven_6 : decode cX1_isEven 6 = .ok (.getfield 19, 3) := by decide +kernel
theorem dX1_isEven_9 : decode cX1_isEven 9 = .ok (.invokevirtual 42, 3) := by decide +kernel
theorem dX1_isEven_12 : decode cX1_isEven 12 = .ok (.aload_n 1, 1) := by decide +kernel
theorem dX1_isEven_13 : decode cX1_isEven 13 = .ok (.aload_n 0, 1) := by decide +kernel
theorem dX1_isEven_14 : decode cX1_isEven 14 = .ok (.getfield 10, 3) := by decide +kernel
theorem dX1_isEven_17 : decode cX1_isEven 17 = .ok (.invokevirtual 77, 3) := by decide +kernel
theorem dX1_isEven_20 : decode cX1_isEven 20 = .ok (.ireturn, 1) := by decide +kernel
theorem dX2_init_0 : decode cX2_init 0 = .ok (.aload_n 0, 1) := by decide +kernel
theorem dX2_init_1 : decode cX2_init 1 = .ok (.invokespecial 3, 3) := by decide +kernel
theorem dX2_init_4 : decode cX2_init 4 = .ok (.aload_n 0, 1) := by decide +kernel
theorem dX2_init_5 : decode cX2_init 5 = .ok (.bipush 64, 2) := by decide +kernel
theorem dX2_init_7 : decode cX2_init 7 = .ok (.newarray .long, 2) := by decide +kernel
theorem dX2_init_9 : decode cX2_init 9 = .ok (.putfield 9, 3) := by decide +kernel
theorem dX2_init_12 : decode cX2_init 12 = .ok (.aload_n 0, 1) := by decide +kernel
theorem dX2_init_13 : decode cX2_init 13 = .ok (.iconst 0, 1) := by decide +kernel
theorem dX2_init_14 : decode cX2_init 14 = .ok (.putfield 15, 3) := by decide +kernel
theorem dX2_init_17 : decode cX2_init 17 = .ok (.return_, 1) := by decide +kernel
theorem dX2_at_0 : decode cX2_at 0 = .ok (.iload_n 1, 1) := by decide +kernel
theorem dX2_at_1 : decode cX2_at 1 = .ok (.ifCond .lt 29, 3) := by decide +kernel
theorem dX2_at_4 : decode cX2_at 4 = .ok (.iload_n 1, 1) := by decide +kernel
theorem dX2_at_5 : decode cX2_at 5 = .ok (.aload_n 0, 1) := by decide +kernel
theorem dX2_at_6 : decode cX2_at 6 = .ok (.getfield 15, 3) := by decide +kernel
theorem dX2_at_9 : decode cX2_at 9 = .ok (.if_icmp .ge 21, 3) := by decide +kernel
theorem dX2_at_12 : decode cX2_at 12 = .ok (.iload_n 1, 1) := by decide +kernel
theorem dX2_at_13 : decode cX2_at 13 = .ok (.aload_n 0, 1) := by decide +kernel
theorem dX2_at_14 : decode cX2_at 14 = .ok (.getfield 9, 3) := by decide +kernel
theorem dX2_at_17 : decode cX2_at 17 = .ok (.arraylength, 1) := by decide +kernel
theorem dX2_at_18 : decode cX2_at 18 = .ok (.if_icmp .ge 12, 3) := by decide +kernel
theorem dX2_at_21 : decode cX2_at 21 = .ok (.aload_n 0, 1) := by decide +kernel
theorem dX2_at_22 : decode cX2_at 22 = .ok (.getfield 9, 3) := by decide +kernel
theorem dX2_at_25 : decode cX2_at 25 = .ok (.iload_n 1, 1) := by decide +kernel
theorem dX2_at_26 : decode cX2_at 26 = .ok (.laload, 1) := by decide +kernel
theorem dX2_at_27 : decode cX2_at 27 = .ok (.goto 4, 3) := by decide +kernel
theorem dX2_at_30 : decode cX2_at 30 = .ok (.lconst 0, 1) := by decide +kernel
theorem dX2_at_31 : decode cX2_at 31 = .ok (.lreturn, 1) := by decide +kernel
theorem dX2_addLast_0 : decode cX2_addLast 0 = .ok (.aload_n 0, 1) := by decide +kernel
theorem dX2_addLast_1 : decode cX2_addLast 1 = .ok (.getfield 15, 3) := by decide +kernel
theorem dX2_addLast_4 : decode cX2_addLast 4 = .ok (.ifCond .lt 35, 3) := by decide +kernel
theorem dX2_addLast_7 : decode cX2_addLast 7 = .ok (.aload_n 0, 1) := by decide +kernel
theorem dX2_addLast_8 : decode cX2_addLast 8 = .ok (.getfield 15, 3) := by decide +kernel
theorem dX2_addLast_11 : decode cX2_addLast 11 = .ok (.aload_n 0, 1) := by decide +kernel
theorem dX2_addLast_12 : decode cX2_addLast 12 = .ok (.getfield 9, 3) := by decide +kernel
theorem dX2_addLast_15 : decode cX2_addLast 15 = .ok (.arraylength, 1) := by decide +kernel
theorem dX2_addLast_16 : decode cX2_addLast 16 = .ok (.if_icmp .ge 23, 3) := by decide +kernel
theorem dX2_addLast_19 : decode cX2_addLast 19 = .ok (.aload_n 0, 1) := by decide +kernel
theorem dX2_addLast_20 : decode cX2_addLast 20 = .ok (.getfield 9, 3) := by decide +kernel
theorem dX2_addLast_23 : decode cX2_addLast 23 = .ok (.aload_n 0, 1) := by decide +kernel
theorem dX2_addLast_24 : decode cX2_addLast 24 = .ok (.getfield 15, 3) := by decide +kernel
theorem dX2_addLast_27 : decode cX2_addLast 27 = .ok (.lload_n 1, 1) := by decide +kernel
theorem dX2_addLast_28 : decode cX2_addLast 28 = .ok (.lastore, 1) := by decide +kernel
theorem dX2_addLast_29 : decode cX2_addLast 29 = .ok (.aload_n 0, 1) := by decide +kernel
theorem dX2_addLast_30 : decode cX2_addLast 30 = .ok (.dup, 1) := by decide +kernel
theorem dX2_addLast_31 : decode cX2_addLast 31 = .ok (.getfield 15, 3) := by decide +kernel
theorem dX2_addLast_34 : decode cX2_addLast 34 = .ok (.iconst 1, 1) := by decide +kernel
theorem dX2_addLast_35 : decode cX2_addLast 35 = .ok (.iadd, 1) := by decide +kernel
theorem dX2_addLast_36 : decode cX2_addLast 36 = .ok (.putfield 15, 3) := by decide +kernel
theorem dX2_addLast_39 : decode cX2_addLast 39 = .ok (.return_, 1) := by decide +kernel
theorem dX2_addToLast_0 : decode cX2_addToLast 0 = .ok (.aload_n 0, 1) := by decide +kernel
theorem dX2_addToLast_1 : decode cX2_addToLast 1 = .ok (.getfield 15, 3) := by decide +kernel
theorem dX2_addToLast_4 : decode cX2_addToLast 4 = .ok (.iconst 1, 1) := by decide +kernel
theorem dX2_addToLast_5 : decode cX2_addToLast 5 = .ok (.isub, 1) := by decide +kernel
theorem dX2_addToLast_6 : decode cX2_addToLast 6 = .ok (.istore_n 3, 1) := by decide +kernel
theorem dX2_addToLast_7 : decode cX2_addToLast 7 = .ok (.iload_n 3, 1) := by decide +kernel
theorem dX2_addToLast_8 : decode cX2_addToLast 8 = .ok (.ifCond .lt 22, 3) := by decide +kernel
theorem dX2_addToLast_11 : decode cX2_addToLast 11 = .ok (.iload_n 3, 1) := by decide +kernel
theorem dX2_addToLast_12 : decode cX2_addToLast 12 = .ok (.aload_n 0, 1) := by decide +kernel
theorem dX2_addToLast_13 : decode cX2_addToLast 13 = .ok (.getfield 9, 3) := by decide +kernel
theorem dX2_addToLast_16 : decode cX2_addToLast 16 = .ok (.arraylength, 1) := by decide +kernel
theorem dX2_addToLast_17 : decode cX2_addToLast 17 = .ok (.if_icmp .ge 13, 3) := by decide +kernel
theorem dX2_addToLast_20 : decode cX2_addToLast 20 = .ok (.aload_n 0, 1) := by decide +kernel
theorem dX2_addToLast_21 : decode cX2_addToLast 21 = .ok (.getfield 9, 3) := by decide +kernel
theorem dX2_addToLast_24 : decode cX2_addToLast 24 = .ok (.iload_n 3, 1) := by decide +kernel
theorem dX2_addToLast_25 : decode cX2_addToLast 25 = .ok (.dup2, 1) := by decide +kernel
theorem dX2_addToLast_26 : decode cX2_addToLast 26 = .ok (.laload, 1) := by decide +kernel
theorem dX2_addToLast_27 : decode cX2_addToLast 27 = .ok (.lload_n 1, 1) := by decide +kernel
theorem dX2_addToLast_28 : decode cX2_addToLast 28 = .ok (.ladd, 1) := by decide +kernel
theorem dX2_addToLast_29 : decode cX2_addToLast 29 = .ok (.lastore, 1) := by decide +kernel
theorem dX2_addToLast_30 : decode cX2_addToLast 30 = .ok (.return_, 1) := by decide +kernel
theorem dX2_keepFirst_0 : decode cX2_keepFirst 0 = .ok (.iload_n 1, 1) := by decide +kernel
theorem dX2_keepFirst_1 : decode cX2_keepFirst 1 = .ok (.ifCond .lt 16, 3) := by decide +kernel
theorem dX2_keepFirst_4 : decode cX2_keepFirst 4 = .ok (.iload_n 1, 1) := by decide +kernel
theorem dX2_keepFirst_5 : decode cX2_keepFirst 5 = .ok (.aload_n 0, 1) := by decide +kernel
theorem dX2_keepFirst_6 : decode cX2_keepFirst 6 = .ok (.getfield 15, 3) := by decide +kernel
theorem dX2_keepFirst_9 : decode cX2_keepFirst 9 = .ok (.if_icmp .ge 8, 3) := by decide +kernel
theorem dX2_keepFirst_12 : decode cX2_keepFirst 12 = .ok (.aload_n 0, 1) := by decide +kernel
theorem dX2_keepFirst_13 : decode cX2_keepFirst 13 = .ok (.iload_n 1, 1) := by decide +kernel
theorem dX2_keepFirst_14 : decode cX2_keepFirst 14 = .ok (.putfield 15, 3) := by decide +kernel
theorem dX2_keepFirst_17 : decode cX2_keepFirst 17 = .ok (.return_, 1) := by decide +kernel
theorem dX2_total_0 : decode cX2_total 0 = .ok (.lconst 0, 1) := by decide +kernel
theorem dX2_total_1 : decode cX2_total 1 = .ok (.lstore_n 1, 1) := by decide +kernel
theorem dX2_total_2 : decode cX2_total 2 = .ok (.iconst 0, 1) := by decide +kernel
theorem dX2_total_3 : decode cX2_total 3 = .ok (.istore_n 3, 1) := by decide +kernel
theorem dX2_total_4 : decode cX2_total 4 = .ok (.iload_n 3, 1) := by decide +kernel
theorem dX2_total_5 : decode cX2_total 5 = .ok (.aload_n 0, 1) := by decide +kernel
theorem dX2_total_6 : decode cX2_total 6 = .ok (.getfield 15, 3) := by decide +kernel
theorem dX2_total_9 : decode cX2_total 9 = .ok (.if_icmp .ge 17, 3) := by decide +kernel
theorem dX2_total_12 : decode cX2_total 12 = .ok (.lload_n 1, 1) := by decide +kernel
theorem dX2_total_13 : decode cX2_total 13 = .ok (.aload_n 0, 1) := by decide +kernel
theorem dX2_total_14 : decode cX2_total 14 = .ok (.iload_n 3, 1) := by decide +kernel
theorem dX2_total_15 : decode cX2_total 15 = .ok (.invokevirtual 19, 3) := by decide +kernel
theorem dX2_total_18 : decode cX2_total 18 = .ok (.ladd, 1) := by decide +kernel
theorem dX2_total_19 : decode cX2_total 19 = .ok (.lstore_n 1, 1) := by decide +kernel
theorem dX2_total_20 : decode cX2_total 20 = .ok (.iinc 3 1, 3) := by decide +kernel
theorem dX2_total_23 : decode cX2_total 23 = .ok (.goto (-19), 3) := by decide +kernel
theorem dX2_total_26 : decode cX2_total 26 = .ok (.lload_n 1, 1) := by decide +kernel
theorem dX2_total_27 : decode cX2_total 27 = .ok (.lreturn, 1) := by decide +kernel
theorem dX2_takeApart_0 : decode cX2_takeApart 0 = .ok (.aload_n 0, 1) := by decide +kernel
theorem dX2_takeApart_1 : decode cX2_takeApart 1 = .ok (.iconst 0, 1) := by decide +kernel
theorem dX2_takeApart_2 : decode cX2_takeApart 2 = .ok (.putfield 15, 3) := by decide +kernel
theorem dX2_takeApart_5 : decode cX2_takeApart 5 = .ok (.aload_n 1, 1) := by decide +kernel
theorem dX2_takeApart_6 : decode cX2_takeApart 6 = .ok (.getfield 23, 3) := by decide +kernel
theorem dX2_takeApart_9 : decode cX2_takeApart 9 = .ok (.lstore_n 2, 1) := by decide +kernel
theorem dX2_takeApart_10 : decode cX2_takeApart 10 = .ok (.aload_n 1, 1) := by decide +kernel
theorem dX2_takeApart_11 : decode cX2_takeApart 11 = .ok (.getfield 29, 3) := by decide +kernel
theorem dX2_takeApart_14 : decode cX2_takeApart 14 = .ok (.lstore 4, 2) := by decide +kernel
theorem dX2_takeApart_16 : decode cX2_takeApart 16 = .ok (.iconst 0, 1) := by decide +kernel
theorem dX2_takeApart_17 : decode cX2_takeApart 17 = .ok (.istore 6, 2) := by decide +kernel
theorem dX2_takeApart_19 : decode cX2_takeApart 19 = .ok (.iload 6, 2) := by decide +kernel
theorem dX2_takeApart_21 : decode cX2_takeApart 21 = .ok (.aload_n 0, 1) := by decide +kernel
theorem dX2_takeApart_22 : decode cX2_takeApart 22 = .ok (.getfield 9, 3) := by decide +kernel
theorem dX2_takeApart_25 : decode cX2_takeApart 25 = .ok (.arraylength, 1) := by decide +kernel
theorem dX2_takeApart_26 : decode cX2_takeApart 26 = .ok (.if_icmp .ge 46, 3) := by decide +kernel
theorem dX2_takeApart_29 : decode cX2_takeApart 29 = .ok (.lload 4, 2) := by decide +kernel
theorem dX2_takeApart_31 : decode cX2_takeApart 31 = .ok (.lconst 0, 1) := by decide +kernel
theorem dX2_takeApart_32 : decode cX2_takeApart 32 = .ok (.lcmp, 1) := by decide +kernel
theorem dX2_takeApart_33 : decode cX2_takeApart 33 = .ok (.ifCond .eq 39, 3) := by decide +kernel
theorem dX2_takeApart_36 : decode cX2_takeApart 36 = .ok (.lload_n 2, 1) := by decide +kernel
theorem dX2_takeApart_37 : decode cX2_takeApart 37 = .ok (.lload 4, 2) := by decide +kernel
theorem dX2_takeApart_39 : decode cX2_takeApart 39 = .ok (.invokestatic 32, 3) := by decide +kernel
theorem dX2_takeApart_42 : decode cX2_takeApart 42 = .ok (.lstore 7, 2) := by decide +kernel
theorem dX2_takeApart_44 : decode cX2_takeApart 44 = .ok (.lload_n 2, 1) := by decide +kernel
theorem dX2_takeApart_45 : decode cX2_takeApart 45 = .ok (.lload 7, 2) := by decide +kernel
theorem dX2_takeApart_47 : decode cX2_takeApart 47 = .ok (.lload 4, 2) := by decide +kernel
theorem dX2_takeApart_49 : decode cX2_takeApart 49 = .ok (.lmul, 1) := by decide +kernel
theorem dX2_takeApart_50 : decode cX2_takeApart 50 = .ok (.lsub, 1) := by decide +kernel
theorem dX2_takeApart_51 : decode cX2_takeApart 51 = .ok (.lstore 9, 2) := by decide +kernel
theorem dX2_takeApart_53 : decode cX2_takeApart 53 = .ok (.aload_n 0, 1) := by decide +kernel
theorem dX2_takeApart_54 : decode cX2_takeApart 54 = .ok (.lload 7, 2) := by decide +kernel
theorem dX2_takeApart_56 : decode cX2_takeApart 56 = .ok (.invokevirtual 36, 3) := by decide +kernel
theorem dX2_takeApart_59 : decode cX2_takeApart 59 = .ok (.lload 4, 2) := by decide +kernel
theorem dX2_takeApart_61 : decode cX2_takeApart 61 = .ok (.lstore_n 2, 1) := by decide +kernel
theorem dX2_takeApart_62 : decode cX2_takeApart 62 = .ok (.lload 9, 2) := by decide +kernel
theorem dX2_takeApart_64 : decode cX2_takeApart 64 = .ok (.lstore 4, 2) := by decide +kernel
theorem dX2_takeApart_66 : decode cX2_takeApart 66 = .ok (.iinc 6 1, 3) := by decide +kernel
theorem dX2_takeApart_69 : decode cX2_takeApart 69 = .ok (.goto (-50), 3) := by decide +kernel
theorem dX2_takeApart_72 : decode cX2_takeApart 72 = .ok (.return_, 1) := by decide +kernel
theorem dX2_foldInto_0 : decode cX2_foldInto 0 = .ok (.aload_n 0, 1) := by decide +kernel
theorem dX2_foldInto_1 : decode cX2_foldInto 1 = .ok (.getfield 15, 3) := by decide +kernel
theorem dX2_foldInto_4 : decode cX2_foldInto 4 = .ok (.iconst 1, 1) := by decide +kernel
theorem dX2_foldInto_5 : decode cX2_foldInto 5 = .ok (.if_icmp .ge 5, 3) := by decide +kernel
theorem dX2_foldInto_8 : decode cX2_foldInto 8 = .ok (.iconst 0, 1) := by decide +kernel
theorem dX2_foldInto_9 : decode cX2_foldInto 9 = .ok (.ireturn, 1) := by decide +kernel
theorem dX2_foldInto_10 : decode cX2_foldInto 10 = .ok (.aload_n 0, 1) := by decide +kernel
theorem dX2_foldInto_11 : decode cX2_foldInto 11 = .ok (.aload_n 0, 1) := by decide +kernel
theorem dX2_foldInto_12 : decode cX2_foldInto 12 = .ok (.getfield 15, 3) := by decide +kernel
theorem dX2_foldInto_15 : decode cX2_foldInto 15 = .ok (.iconst 1, 1) := by decide +kernel
theorem dX2_foldInto_16 : decode cX2_foldInto 16 = .ok (.isub, 1) := by decide +kernel
theorem dX2_foldInto_17 : decode cX2_foldInto 17 = .ok (.invokevirtual 19, 3) := by decide +kernel
theorem dX2_foldInto_20 : decode cX2_foldInto 20 = .ok (.lstore_n 2, 1) := by decide +kernel
theorem dX2_foldInto_21 : decode cX2_foldInto 21 = .ok (.lconst 1, 1) := by decide +kernel
theorem dX2_foldInto_22 : decode cX2_foldInto 22 = .ok (.lstore 4, 2) := by decide +kernel
theorem dX2_foldInto_24 : decode cX2_foldInto 24 = .ok (.aload_n 0, 1) := by decide +kernel
theorem dX2_foldInto_25 : decode cX2_foldInto 25 = .ok (.getfield 15, 3) := by decide +kernel
theorem dX2_foldInto_28 : decode cX2_foldInto 28 = .ok (.iconst 2, 1) := by decide +kernel
theorem dX2_foldInto_29 : decode cX2_foldInto 29 = .ok (.isub, 1) := by decide +kernel
theorem dX2_foldInto_30 : decode cX2_foldInto 30 = .ok (.istore 6, 2) := by decide +kernel
theorem dX2_foldInto_32 : decode cX2_foldInto 32 = .ok (.iload 6, 2) := by decide +kernel
theorem dX2_foldInto_34 : decode cX2_foldInto 34 = .ok (.ifCond .lt 51, 3) := by decide +kernel
theorem dX2_foldInto_37 : decode cX2_foldInto 37 = .ok (.aload_n 0, 1) := by decide +kernel
theorem dX2_foldInto_38 : decode cX2_foldInto 38 = .ok (.iload 6, 2) := by decide +kernel
theorem dX2_foldInto_40 : decode cX2_foldInto 40 = .ok (.iconst 1, 1) := by decide +kernel
theorem dX2_foldInto_41 : decode cX2_foldInto 41 = .ok (.iadd, 1) := by decide +kernel
theorem dX2_foldInto_42 : decode cX2_foldInto 42 = .ok (.invokevirtual 19, 3) := by decide +kernel
theorem dX2_foldInto_45 : decode cX2_foldInto 45 = .ok (.lconst 1, 1) := by decide +kernel
theorem dX2_foldInto_46 : decode cX2_foldInto 46 = .ok (.lcmp, 1) := by decide +kernel
theorem dX2_foldInto_47 : decode cX2_foldInto 47 = .ok (.ifCond .lt 11, 3) := by decide +kernel
theorem dX2_foldInto_50 : decode cX2_foldInto 50 = .ok (.lload_n 2, 1) := by decide +kernel
theorem dX2_foldInto_51 : decode cX2_foldInto 51 = .ok (.ldc2_w 40, 3) := by decide +kernel
theorem dX2_foldInto_54 : decode cX2_foldInto 54 = .ok (.lcmp, 1) := by decide +kernel
theorem dX2_foldInto_55 : decode cX2_foldInto 55 = .ok (.ifCond .le 5, 3) := by decide +kernel
theorem dX2_foldInto_58 : decode cX2_foldInto 58 = .ok (.iconst 0, 1) := by decide +kernel
theorem dX2_foldInto_59 : decode cX2_foldInto 59 = .ok (.ireturn, 1) := by decide +kernel
theorem dX2_foldInto_60 : decode cX2_foldInto 60 = .ok (.aload_n 0, 1) := by decide +kernel
theorem dX2_foldInto_61 : decode cX2_foldInto 61 = .ok (.iload 6, 2) := by decide +kernel
theorem dX2_foldInto_63 : decode cX2_foldInto 63 = .ok (.invokevirtual 19, 3) := by decide +kernel
theorem dX2_foldInto_66 : decode cX2_foldInto 66 = .ok (.lload_n 2, 1) := by decide +kernel
theorem dX2_foldInto_67 : decode cX2_foldInto 67 = .ok (.lmul, 1) := by decide +kernel
theorem dX2_foldInto_68 : decode cX2_foldInto 68 = .ok (.lload 4, 2) := by decide +kernel
theorem dX2_foldInto_70 : decode cX2_foldInto 70 = .ok (.ladd, 1) := by decide +kernel
theorem dX2_foldInto_71 : decode cX2_foldInto 71 = .ok (.lstore 7, 2) := by decide +kernel
theorem dX2_foldInto_73 : decode cX2_foldInto 73 = .ok (.lload_n 2, 1) := by decide +kernel
theorem dX2_foldInto_74 : decode cX2_foldInto 74 = .ok (.lstore 4, 2) := by decide +kernel
theorem dX2_foldInto_76 : decode cX2_foldInto 76 = .ok (.lload 7, 2) := by decide +kernel
theorem dX2_foldInto_78 : decode cX2_foldInto 78 = .ok (.lstore_n 2, 1) := by decide +kernel
theorem dX2_foldInto_79 : decode cX2_foldInto 79 = .ok (.iinc 6 (-1), 3) := by decide +kernel
theorem dX2_foldInto_82 : decode cX2_foldInto 82 = .ok (.goto (-50), 3) := by decide +kernel
theorem dX2_foldInto_85 : decode cX2_foldInto 85 = .ok (.aload_n 1, 1) := by decide +kernel
theorem dX2_foldInto_86 : decode cX2_foldInto 86 = .ok (.lload_n 2, 1) := by decide +kernel
theorem dX2_foldInto_87 : decode cX2_foldInto 87 = .ok (.lload 4, 2) := by decide +kernel
theorem dX2_foldInto_89 : decode cX2_foldInto 89 = .ok (.invokevirtual 42, 3) := by decide +kernel
theorem dX2_foldInto_92 : decode cX2_foldInto 92 = .ok (.iconst 1, 1) := by decide +kernel
theorem dX2_foldInto_93 : decode cX2_foldInto 93 = .ok (.ireturn, 1) := by decide +kernel
theorem dX3_init_0 : decode cX3_init 0 = .ok (.aload_n 0, 1) := by decide +kernel
theorem dX3_init_1 : decode cX3_init 1 = .ok (.invokespecial 3, 3) := by decide +kernel
theorem dX3_init_4 : decode cX3_init 4 = .ok (.aload_n 0, 1) := by decide +kernel
theorem dX3_init_5 : decode cX3_init 5 = .ok (.bipush 6, 2) := by decide +kernel
theorem dX3_init_7 : decode cX3_init 7 = .ok (.anewarray 9, 3) := by decide +kernel
theorem dX3_init_10 : decode cX3_init 10 = .ok (.putfield 11, 3) := by decide +kernel
theorem dX3_init_13 : decode cX3_init 13 = .ok (.iconst 0, 1) := by decide +kernel
theorem dX3_init_14 : decode cX3_init 14 = .ok (.istore_n 1, 1) := by decide +kernel
theorem dX3_init_15 : decode cX3_init 15 = .ok (.iload_n 1, 1) := by decide +kernel
theorem dX3_init_16 : decode cX3_init 16 = .ok (.aload_n 0, 1) := by decide +kernel
theorem dX3_init_17 : decode cX3_init 17 = .ok (.getfield 11, 3) := by decide +kernel
theorem dX3_init_20 : decode cX3_init 20 = .ok (.arraylength, 1) := by decide +kernel
theorem dX3_init_21 : decode cX3_init 21 = .ok (.if_icmp .ge 22, 3) := by decide +kernel
theorem dX3_init_24 : decode cX3_init 24 = .ok (.aload_n 0, 1) := by decide +kernel
theorem dX3_init_25 : decode cX3_init 25 = .ok (.getfield 11, 3) := by decide +kernel
theorem dX3_init_28 : decode cX3_init 28 = .ok (.iload_n 1, 1) := by decide +kernel
theorem dX3_init_29 : decode cX3_init 29 = .ok (.new 9, 3) := by decide +kernel
theorem dX3_init_32 : decode cX3_init 32 = .ok (.dup, 1) := by decide +kernel
theorem dX3_init_33 : decode cX3_init 33 = .ok (.invokespecial 15, 3) := by decide +kernel
theorem dX3_init_36 : decode cX3_init 36 = .ok (.aastore, 1) := by decide +kernel
theorem dX3_init_37 : decode cX3_init 37 = .ok (.iinc 1 1, 3) := by decide +kernel
theorem dX3_init_40 : decode cX3_init 40 = .ok (.goto (-25), 3) := by decide +kernel
theorem dX3_init_43 : decode cX3_init 43 = .ok (.aload_n 0, 1) := by decide +kernel
theorem dX3_init_44 : decode cX3_init 44 = .ok (.new 16, 3) := by decide +kernel
theorem dX3_init_47 : decode cX3_init 47 = .ok (.dup, 1) := by decide +kernel
theorem dX3_init_48 : decode cX3_init 48 = .ok (.invokespecial 18, 3) := by decide +kernel
theorem dX3_init_51 : decode cX3_init 51 = .ok (.putfield 19, 3) := by decide +kernel
theorem dX3_init_54 : decode cX3_init 54 = .ok (.aload_n 0, 1) := by decide +kernel
theorem dX3_init_55 : decode cX3_init 55 = .ok (.new 23, 3) := by decide +kernel
theorem dX3_init_58 : decode cX3_init 58 = .ok (.dup, 1) := by decide +kernel
theorem dX3_init_59 : decode cX3_init 59 = .ok (.invokespecial 25, 3) := by decide +kernel
theorem dX3_init_62 : decode cX3_init 62 = .ok (.putfield 26, 3) := by decide +kernel
theorem dX3_init_65 : decode cX3_init 65 = .ok (.aload_n 0, 1) := by decide +kernel
theorem dX3_init_66 : decode cX3_init 66 = .ok (.iconst 0, 1) := by decide +kernel
theorem dX3_init_67 : decode cX3_init 67 = .ok (.putfield 30, 3) := by decide +kernel
theorem dX3_init_70 : decode cX3_init 70 = .ok (.aload_n 0, 1) := by decide +kernel
theorem dX3_init_71 : decode cX3_init 71 = .ok (.iconst 0, 1) := by decide +kernel
theorem dX3_init_72 : decode cX3_init 72 = .ok (.putfield 34, 3) := by decide +kernel
theorem dX3_init_75 : decode cX3_init 75 = .ok (.aload_n 0, 1) := by decide +kernel
theorem dX3_init_76 : decode cX3_init 76 = .ok (.new 9, 3) := by decide +kernel
theorem dX3_init_79 : decode cX3_init 79 = .ok (.dup, 1) := by decide +kernel
theorem dX3_init_80 : decode cX3_init 80 = .ok (.invokespecial 15, 3) := by decide +kernel
theorem dX3_init_83 : decode cX3_init 83 = .ok (.putfield 37, 3) := by decide +kernel
theorem dX3_init_86 : decode cX3_init 86 = .ok (.aload_n 0, 1) := by decide +kernel
theorem dX3_init_87 : decode cX3_init 87 = .ok (.new 9, 3) := by decide +kernel
theorem dX3_init_90 : decode cX3_init 90 = .ok (.dup, 1) := by decide +kernel
theorem dX3_init_91 : decode cX3_init 91 = .ok (.invokespecial 15, 3) := by decide +kernel
theorem dX3_init_94 : decode cX3_init 94 = .ok (.putfield 41, 3) := by decide +kernel
theorem dX3_init_97 : decode cX3_init 97 = .ok (.aload_n 0, 1) := by decide +kernel
theorem dX3_init_98 : decode cX3_init 98 = .ok (.new 9, 3) := by decide +kernel
theorem dX3_init_101 : decode cX3_init 101 = .ok (.dup, 1) := by decide +kernel
theorem dX3_init_102 : decode cX3_init 102 = .ok (.invokespecial 15, 3) := by decide +kernel
theorem dX3_init_105 : decode cX3_init 105 = .ok (.putfield 44, 3) := by decide +kernel
theorem dX3_init_108 : decode cX3_init 108 = .ok (.aload_n 0, 1) := by decide +kernel
theorem dX3_init_109 : decode cX3_init 109 = .ok (.new 16, 3) := by decide +kernel
theorem dX3_init_112 : decode cX3_init 112 = .ok (.dup, 1) := by decide +kernel
theorem dX3_init_113 : decode cX3_init 113 = .ok (.invokespecial 18, 3) := by decide +kernel
theorem dX3_init_116 : decode cX3_init 116 = .ok (.putfield 47, 3) := by decide +kernel
theorem dX3_init_119 : decode cX3_init 119 = .ok (.return_, 1) := by decide +kernel
theorem dX3_put_0 : decode cX3_put 0 = .ok (.aload_n 0, 1) := by decide +kernel
theorem dX3_put_1 : decode cX3_put 1 = .ok (.iload_n 1, 1) := by decide +kernel
theorem dX3_put_2 : decode cX3_put 2 = .ok (.invokevirtual 50, 3) := by decide +kernel
theorem dX3_put_5 : decode cX3_put 5 = .ok (.astore 4, 2) := by decide +kernel
theorem dX3_put_7 : decode cX3_put 7 = .ok (.iload_n 3, 1) := by decide +kernel
theorem dX3_put_8 : decode cX3_put 8 = .ok (.ifCond .ne 13, 3) := by decide +kernel
theorem dX3_put_11 : decode cX3_put 11 = .ok (.new 54, 3) := by decide +kernel
theorem dX3_put_14 : decode cX3_put 14 = .ok (.dup, 1) := by decide +kernel
theorem dX3_put_15 : decode cX3_put 15 = .ok (.ldc 56, 2) := by decide +kernel
theorem dX3_put_17 : decode cX3_put 17 = .ok (.invokespecial 58, 3) := by decide +kernel
theorem dX3_put_20 : decode cX3_put 20 = .ok (.athrow, 1) := by decide +kernel
theorem dX3_put_21 : decode cX3_put 21 = .ok (.aload_n 0, 1) := by decide +kernel
theorem dX3_put_22 : decode cX3_put 22 = .ok (.getfield 37, 3) := by decide +kernel
theorem dX3_put_25 : decode cX3_put 25 = .ok (.iload_n 2, 1) := by decide +kernel
theorem dX3_put_26 : decode cX3_put 26 = .ok (.i2l, 1) := by decide +kernel
theorem dX3_put_27 : decode cX3_put 27 = .ok (.iload_n 3, 1) := by decide +kernel
theorem dX3_put_28 : decode cX3_put 28 = .ok (.i2l, 1) := by decide +kernel
theorem dX3_put_29 : decode cX3_put 29 = .ok (.invokevirtual 61, 3) := by decide +kernel
theorem dX3_put_32 : decode cX3_put 32 = .ok (.aload_n 0, 1) := by decide +kernel
theorem dX3_put_33 : decode cX3_put 33 = .ok (.aload 4, 2) := by decide +kernel
theorem dX3_put_35 : decode cX3_put 35 = .ok (.invokevirtual 65, 3) := by decide +kernel
theorem dX3_put_38 : decode cX3_put 38 = .ok (.ireturn, 1) := by decide +kernel
theorem dX3_putDecimal_0 : decode cX3_putDecimal 0 = .ok (.aload_n 0, 1) := by decide +kernel
theorem dX3_putDecimal_1 : decode cX3_putDecimal 1 = .ok (.iload_n 1, 1) := by decide +kernel
theorem dX3_putDecimal_2 : decode cX3_putDecimal 2 = .ok (.invokevirtual 50, 3) := by decide +kernel
theorem dX3_putDecimal_5 : decode cX3_putDecimal 5 = .ok (.astore 4, 2) := by decide +kernel
theorem dX3_putDecimal_7 : decode cX3_putDecimal 7 = .ok (.iload_n 3, 1) := by decide +kernel
theorem dX3_putDecimal_8 : decode cX3_putDecimal 8 = .ok (.iconst 0, 1) := by decide +kernel
theorem dX3_putDecimal_9 : decode cX3_putDecimal 9 = .ok (.bipush 9, 2) := by decide +kernel
theorem dX3_putDecimal_11 : decode cX3_putDecimal 11 = .ok (.invokestatic 69, 3) := by decide +kernel
theorem dX3_putDecimal_14 : decode cX3_putDecimal 14 = .ok (.aload_n 0, 1) := by decide +kernel
theorem dX3_putDecimal_15 : decode cX3_putDecimal 15 = .ok (.getfield 37, 3) := by decide +kernel
theorem dX3_putDecimal_18 : decode cX3_putDecimal 18 = .ok (.iload_n 2, 1) := by decide +kernel
theorem dX3_putDecimal_19 : decode cX3_putDecimal 19 = .ok (.i2l, 1) := by decide +kernel
theorem dX3_putDecimal_20 : decode cX3_putDecimal 20 = .ok (.iload_n 3, 1) := by decide +kernel
theorem dX3_putDecimal_21 : decode cX3_putDecimal 21 = .ok (.invokestatic 73, 3) := by decide +kernel
theorem dX3_putDecimal_24 : decode cX3_putDecimal 24 = .ok (.invokevirtual 61, 3) := by decide +kernel
theorem dX3_putDecimal_27 : decode cX3_putDecimal 27 = .ok (.aload_n 0, 1) := by decide +kernel
theorem dX3_putDecimal_28 : decode cX3_putDecimal 28 = .ok (.aload 4, 2) := by decide +kernel
theorem dX3_putDecimal_30 : decode cX3_putDecimal 30 = .ok (.invokevirtual 65, 3) := by decide +kernel
theorem dX3_putDecimal_33 : decode cX3_putDecimal 33 = .ok (.ireturn, 1) := by decide +kernel
theorem dX3_copy_0 : decode cX3_copy 0 = .ok (.aload_n 0, 1) := by decide +kernel
theorem dX3_copy_1 : decode cX3_copy 1 = .ok (.iload_n 1, 1) := by decide +kernel
theorem dX3_copy_2 : decode cX3_copy 2 = .ok (.invokevirtual 50, 3) := by decide +kernel
theorem dX3_copy_5 : decode cX3_copy 5 = .ok (.astore_n 3, 1) := by decide +kernel
theorem dX3_copy_6 : decode cX3_copy 6 = .ok (.aload_n 0, 1) := by decide +kernel
theorem dX3_copy_7 : decode cX3_copy 7 = .ok (.getfield 37, 3) := by decide +kernel
theorem dX3_copy_10 : decode cX3_copy 10 = .ok (.aload_n 0, 1) := by decide +kernel
theorem dX3_copy_11 : decode cX3_copy 11 = .ok (.iload_n 2, 1) := by decide +kernel
theorem dX3_copy_12 : decode cX3_copy 12 = .ok (.invokevirtual 50, 3) := by decide +kernel
theorem dX3_copy_15 : decode cX3_copy 15 = .ok (.invokevirtual 77, 3) := by decide +kernel
theorem dX3_copy_18 : decode cX3_copy 18 = .ok (.aload_n 0, 1) := by decide +kernel
theorem dX3_copy_19 : decode cX3_copy 19 = .ok (.aload_n 3, 1) := by decide +kernel
theorem dX3_copy_20 : decode cX3_copy 20 = .ok (.invokevirtual 65, 3) := by decide +kernel
theorem dX3_copy_23 : decode cX3_copy 23 = .ok (.ireturn, 1) := by decide +kernel
theorem dX3_swap_0 : decode cX3_swap 0 = .ok (.aload_n 0, 1) := by decide +kernel
theorem dX3_swap_1 : decode cX3_swap 1 = .ok (.iload_n 1, 1) := by decide +kernel
theorem dX3_swap_2 : decode cX3_swap 2 = .ok (.invokevirtual 50, 3) := by decide +kernel
theorem dX3_swap_5 : decode cX3_swap 5 = .ok (.astore_n 3, 1) := by decide +kernel
theorem dX3_swap_6 : decode cX3_swap 6 = .ok (.aload_n 0, 1) := by decide +kernel
theorem dX3_swap_7 : decode cX3_swap 7 = .ok (.iload_n 2, 1) := by decide +kernel
theorem dX3_swap_8 : decode cX3_swap 8 = .ok (.invokevirtual 50, 3) := by decide +kernel
theorem dX3_swap_11 : decode cX3_swap 11 = .ok (.astore 4, 2) := by decide +kernel
theorem dX3_swap_13 : decode cX3_swap 13 = .ok (.aload_n 0, 1) := by decide +kernel
theorem dX3_swap_14 : decode cX3_swap 14 = .ok (.getfield 37, 3) := by decide +kernel
theorem dX3_swap_17 : decode cX3_swap 17 = .ok (.aload 4, 2) := by decide +kernel
theorem dX3_swap_19 : decode cX3_swap 19 = .ok (.invokevirtual 77, 3) := by decide +kernel
theorem dX3_swap_22 : decode cX3_swap 22 = .ok (.aload 4, 2) := by decide +kernel
theorem dX3_swap_24 : decode cX3_swap 24 = .ok (.aload_n 3, 1) := by decide +kernel
theorem dX3_swap_25 : decode cX3_swap 25 = .ok (.invokevirtual 77, 3) := by decide +kernel
theorem dX3_swap_28 : decode cX3_swap 28 = .ok (.aload_n 0, 1) := by decide +kernel
theorem dX3_swap_29 : decode cX3_swap 29 = .ok (.aload_n 3, 1) := by decide +kernel
theorem dX3_swap_30 : decode cX3_swap 30 = .ok (.invokevirtual 65, 3) := by decide +kernel
theorem dX3_swap_33 : decode cX3_swap 33 = .ok (.ireturn, 1) := by decide +kernel
theorem dX3_plus_0 : decode cX3_plus 0 = .ok (.aload_n 0, 1) := by decide +kernel
theorem dX3_plus_1 : decode cX3_plus 1 = .ok (.iload_n 1, 1) := by decide +kernel
theorem dX3_plus_2 : decode cX3_plus 2 = .ok (.invokevirtual 50, 3) := by decide +kernel
theorem dX3_plus_5 : decode cX3_plus 5 = .ok (.astore 4, 2) := by decide +kernel
theorem dX3_plus_7 : decode cX3_plus 7 = .ok (.aload_n 0, 1) := by decide +kernel
theorem dX3_plus_8 : decode cX3_plus 8 = .ok (.getfield 37, 3) := by decide +kernel
theorem dX3_plus_11 : decode cX3_plus 11 = .ok (.aload_n 0, 1) := by decide +kernel
theorem dX3_plus_12 : decode cX3_plus 12 = .ok (.iload_n 2, 1) := by decide +kernel
theorem dX3_plus_13 : decode cX3_plus 13 = .ok (.invokevirtual 50, 3) := by decide +kernel
theorem dX3_plus_16 : decode cX3_plus 16 = .ok (.aload_n 0, 1) := by decide +kernel
theorem dX3_plus_17 : decode cX3_plus 17 = .ok (.iload_n 3, 1) := by decide +kernel
theorem dX3_plus_18 : decode cX3_plus 18 = .ok (.invokevirtual 50, 3) := by decide +kernel
theorem dX3_plus_21 : decode cX3_plus 21 = .ok (.invokevirtual 81, 3) := by decide +kernel
theorem dX3_plus_24 : decode cX3_plus 24 = .ok (.aload_n 0, 1) := by decide +kernel
theorem dX3_plus_25 : decode cX3_plus 25 = .ok (.aload 4, 2) := by decide +kernel
theorem dX3_plus_27 : decode cX3_plus 27 = .ok (.invokevirtual 65, 3) := by decide +kernel
theorem dX3_plus_30 : decode cX3_plus 30 = .ok (.ireturn, 1) := by decide +kernel
theorem dX3_minus_0 : decode cX3_minus 0 = .ok (.aload_n 0, 1) := by decide +kernel
theorem dX3_minus_1 : decode cX3_minus 1 = .ok (.iload_n 1, 1) := by decide +kernel
theorem dX3_minus_2 : decode cX3_minus 2 = .ok (.invokevirtual 50, 3) := by decide +kernel
theorem dX3_minus_5 : decode cX3_minus 5 = .ok (.astore 4, 2) := by decide +kernel
theorem dX3_minus_7 : decode cX3_minus 7 = .ok (.aload_n 0, 1) := by decide +kernel
theorem dX3_minus_8 : decode cX3_minus 8 = .ok (.getfield 37, 3) := by decide +kernel
theorem dX3_minus_11 : decode cX3_minus 11 = .ok (.aload_n 0, 1) := by decide +kernel
theorem dX3_minus_12 : decode cX3_minus 12 = .ok (.iload_n 2, 1) := by decide +kernel
theorem dX3_minus_13 : decode cX3_minus 13 = .ok (.invokevirtual 50, 3) := by decide +kernel
theorem dX3_minus_16 : decode cX3_minus 16 = .ok (.aload_n 0, 1) := by decide +kernel
theorem dX3_minus_17 : decode cX3_minus 17 = .ok (.iload_n 3, 1) := by decide +kernel
theorem dX3_minus_18 : decode cX3_minus 18 = .ok (.invokevirtual 50, 3) := by decide +kernel
theorem dX3_minus_21 : decode cX3_minus 21 = .ok (.invokevirtual 85, 3) := by decide +kernel
theorem dX3_minus_24 : decode cX3_minus 24 = .ok (.aload_n 0, 1) := by decide +kernel
theorem dX3_minus_25 : decode cX3_minus 25 = .ok (.aload 4, 2) := by decide +kernel
theorem dX3_minus_27 : decode cX3_minus 27 = .ok (.invokevirtual 65, 3) := by decide +kernel
theorem dX3_minus_30 : decode cX3_minus 30 = .ok (.ireturn, 1) := by decide +kernel
theorem dX3_times_0 : decode cX3_times 0 = .ok (.aload_n 0, 1) := by decide +kernel
theorem dX3_times_1 : decode cX3_times 1 = .ok (.iload_n 1, 1) := by decide +kernel
theorem dX3_times_2 : decode cX3_times 2 = .ok (.invokevirtual 50, 3) := by decide +kernel
theorem dX3_times_5 : decode cX3_times 5 = .ok (.astore 4, 2) := by decide +kernel
theorem dX3_times_7 : decode cX3_times 7 = .ok (.aload_n 0, 1) := by decide +kernel
theorem dX3_times_8 : decode cX3_times 8 = .ok (.getfield 37, 3) := by decide +kernel
theorem dX3_times_11 : decode cX3_times 11 = .ok (.aload_n 0, 1) := by decide +kernel
theorem dX3_times_12 : decode cX3_times 12 = .ok (.iload_n 2, 1) := by decide +kernel
theorem dX3_times_13 : decode cX3_times 13 = .ok (.invokevirtual 50, 3) := by decide +kernel
theorem dX3_times_16 : decode cX3_times 16 = .ok (.aload_n 0, 1) := by decide +kernel
theorem dX3_times_17 : decode cX3_times 17 = .ok (.iload_n 3, 1) := by decide +kernel
theorem dX3_times_18 : decode cX3_times 18 = .ok (.invokevirtual 50, 3) := by decide +kernel
theorem dX3_times_21 : decode cX3_times 21 = .ok (.invokevirtual 88, 3) := by decide +kernel
theorem dX3_times_24 : decode cX3_times 24 = .ok (.aload_n 0, 1) := by decide +kernel
theorem dX3_times_25 : decode cX3_times 25 = .ok (.aload 4, 2) := by decide +kernel
theorem dX3_times_27 : decode cX3_times 27 = .ok (.invokevirtual 65, 3) := by decide +kernel
theorem dX3_times_30 : decode cX3_times 30 = .ok (.ireturn, 1) := by decide +kernel
theorem dX3_over_0 : decode cX3_over 0 = .ok (.aload_n 0, 1) := by decide +kernel
theorem dX3_over_1 : decode cX3_over 1 = .ok (.iload_n 1, 1) := by decide +kernel
theorem dX3_over_2 : decode cX3_over 2 = .ok (.invokevirtual 50, 3) := by decide +kernel
theorem dX3_over_5 : decode cX3_over 5 = .ok (.astore 4, 2) := by decide +kernel
theorem dX3_over_7 : decode cX3_over 7 = .ok (.aload_n 0, 1) := by decide +kernel
theorem dX3_over_8 : decode cX3_over 8 = .ok (.iload_n 2, 1) := by decide +kernel
theorem dX3_over_9 : decode cX3_over 9 = .ok (.invokevirtual 50, 3) := by decide +kernel
theorem dX3_over_12 : decode cX3_over 12 = .ok (.astore 5, 2) := by decide +kernel
theorem dX3_over_14 : decode cX3_over 14 = .ok (.aload_n 0, 1) := by decide +kernel
theorem dX3_over_15 : decode cX3_over 15 = .ok (.iload_n 3, 1) := by decide +kernel
theorem dX3_over_16 : decode cX3_over 16 = .ok (.invokevirtual 50, 3) := by decide +kernel
theorem dX3_over_19 : decode cX3_over 19 = .ok (.astore 6, 2) := by decide +kernel
theorem dX3_over_21 : decode cX3_over 21 = .ok (.aload 6, 2) := by decide +kernel
theorem dX3_over_23 : decode cX3_over 23 = .ok (.invokevirtual 91, 3) := by decide +kernel
theorem dX3_over_26 : decode cX3_over 26 = .ok (.ifCond .ne 8, 3) := by decide +kernel
theorem dX3_over_29 : decode cX3_over 29 = .ok (.aload_n 0, 1) := by decide +kernel
theorem dX3_over_30 : decode cX3_over 30 = .ok (.invokevirtual 95, 3) := by decide +kernel
theorem dX3_over_33 : decode cX3_over 33 = .ok (.ireturn, 1) := by decide +kernel
theorem dX3_over_34 : decode cX3_over 34 = .ok (.aload_n 0, 1) := by decide +kernel
theorem dX3_over_35 : decode cX3_over 35 = .ok (.getfield 37, 3) := by decide +kernel
theorem dX3_over_38 : decode cX3_over 38 = .ok (.aload 5, 2) := by decide +kernel
theorem dX3_over_40 : decode cX3_over 40 = .ok (.aload 6, 2) := by decide +kernel
theorem dX3_over_42 : decode cX3_over 42 = .ok (.invokevirtual 98, 3) := by decide +kernel
theorem dX3_over_45 : decode cX3_over 45 = .ok (.aload_n 0, 1) := by decide +kernel
theorem dX3_over_46 : decode cX3_over 46 = .ok (.aload 4, 2) := by decide +kernel
theorem dX3_over_48 : decode cX3_over 48 = .ok (.invokevirtual 65, 3) := by decide +kernel
theorem dX3_over_51 : decode cX3_over 51 = .ok (.ireturn, 1) := by decide +kernel
theorem dX3_negate_0 : decode cX3_negate 0 = .ok (.aload_n 0, 1) := by decide +kernel
theorem dX3_negate_1 : decode cX3_negate 1 = .ok (.iload_n 1, 1) := by decide +kernel
theorem dX3_negate_2 : decode cX3_negate 2 = .ok (.invokevirtual 50, 3) := by decide +kernel
theorem dX3_negate_5 : decode cX3_negate 5 = .ok (.astore_n 2, 1) := by decide +kernel
theorem dX3_negate_6 : decode cX3_negate 6 = .ok (.aload_n 0, 1) := by decide +kernel
theorem dX3_negate_7 : decode cX3_negate 7 = .ok (.getfield 37, 3) := by decide +kernel
theorem dX3_negate_10 : decode cX3_negate 10 = .ok (.aload_n 2, 1) := by decide +kernel
theorem dX3_negate_11 : decode cX3_negate 11 = .ok (.getfield 101, 3) := by decide +kernel
theorem dX3_negate_14 : decode cX3_negate 14 = .ok (.lneg, 1) := by decide +kernel
theorem dX3_negate_15 : decode cX3_negate 15 = .ok (.aload_n 2, 1) := by decide +kernel
theorem dX3_negate_16 : decode cX3_negate 16 = .ok (.getfield 105, 3) := by decide +kernel
theorem dX3_negate_19 : decode cX3_negate 19 = .ok (.invokevirtual 61, 3) := by decide +kernel
theorem dX3_negate_22 : decode cX3_negate 22 = .ok (.aload_n 0, 1) := by decide +kernel
theorem dX3_negate_23 : decode cX3_negate 23 = .ok (.aload_n 2, 1) := by decide +kernel
theorem dX3_negate_24 : decode cX3_negate 24 = .ok (.invokevirtual 65, 3) := by decide +kernel
theorem dX3_negate_27 : decode cX3_negate 27 = .ok (.ireturn, 1) := by decide +kernel
theorem dX3_invert_0 : decode cX3_invert 0 = .ok (.aload_n 0, 1) := by decide +kernel
theorem dX3_invert_1 : decode cX3_invert 1 = .ok (.iload_n 1, 1) := by decide +kernel
theorem dX3_invert_2 : decode cX3_invert 2 = .ok (.invokevirtual 50, 3) := by decide +kernel
theorem dX3_invert_5 : decode cX3_invert 5 = .ok (.astore_n 2, 1) := by decide +kernel
theorem dX3_invert_6 : decode cX3_invert 6 = .ok (.aload_n 2, 1) := by decide +kernel
theorem dX3_invert_7 : decode cX3_invert 7 = .ok (.invokevirtual 91, 3) := by decide +kernel
theorem dX3_invert_10 : decode cX3_invert 10 = .ok (.ifCond .ne 8, 3) := by decide +kernel
theorem dX3_invert_13 : decode cX3_invert 13 = .ok (.aload_n 0, 1) := by decide +kernel
theorem dX3_invert_14 : decode cX3_invert 14 = .ok (.invokevirtual 95, 3) := by decide +kernel
theorem dX3_invert_17 : decode cX3_invert 17 = .ok (.ireturn, 1) := by decide +kernel
theorem dX3_invert_18 : decode cX3_invert 18 = .ok (.aload_n 0, 1) := by decide +kernel
theorem dX3_invert_19 : decode cX3_invert 19 = .ok (.getfield 37, 3) := by decide +kernel
theorem dX3_invert_22 : decode cX3_invert 22 = .ok (.aload_n 2, 1) := by decide +kernel
theorem dX3_invert_23 : decode cX3_invert 23 = .ok (.getfield 105, 3) := by decide +kernel
theorem dX3_invert_26 : decode cX3_invert 26 = .ok (.aload_n 2, 1) := by decide +kernel
theorem dX3_invert_27 : decode cX3_invert 27 = .ok (.getfield 101, 3) := by decide +kernel
theorem dX3_invert_30 : decode cX3_invert 30 = .ok (.invokevirtual 61, 3) := by decide +kernel
theorem dX3_invert_33 : decode cX3_invert 33 = .ok (.aload_n 0, 1) := by decide +kernel
theorem dX3_invert_34 : decode cX3_invert 34 = .ok (.aload_n 2, 1) := by decide +kernel
theorem dX3_invert_35 : decode cX3_invert 35 = .ok (.invokevirtual 65, 3) := by decide +kernel
theorem dX3_invert_38 : decode cX3_invert 38 = .ok (.ireturn, 1) := by decide +kernel
theorem dX3_raise_0 : decode cX3_raise 0 = .ok (.aload_n 0, 1) := by decide +kernel
theorem dX3_raise_1 : decode cX3_raise 1 = .ok (.iload_n 1, 1) := by decide +kernel
theorem dX3_raise_2 : decode cX3_raise 2 = .ok (.invokevirtual 50, 3) := by decide +kernel
theorem dX3_raise_5 : decode cX3_raise 5 = .ok (.astore_n 3, 1) := by decide +kernel
theorem dX3_raise_6 : decode cX3_raise 6 = .ok (.iload_n 2, 1) := by decide +kernel
theorem dX3_raise_7 : decode cX3_raise 7 = .ok (.bipush (-6), 2) := by decide +kernel
theorem dX3_raise_9 : decode cX3_raise 9 = .ok (.bipush 6, 2) := by decide +kernel
theorem dX3_raise_11 : decode cX3_raise 11 = .ok (.invokestatic 69, 3) := by decide +kernel
theorem dX3_raise_14 : decode cX3_raise 14 = .ok (.iload_n 2, 1) := by decide +kernel
theorem dX3_raise_15 : decode cX3_raise 15 = .ok (.ifCond .ge 15, 3) := by decide +kernel
theorem dX3_raise_18 : decode cX3_raise 18 = .ok (.aload_n 3, 1) := by decide +kernel
theorem dX3_raise_19 : decode cX3_raise 19 = .ok (.invokevirtual 91, 3) := by decide +kernel
theorem dX3_raise_22 : decode cX3_raise 22 = .ok (.ifCond .ne 8, 3) := by decide +kernel
theorem dX3_raise_25 : decode cX3_raise 25 = .ok (.aload_n 0, 1) := by decide +kernel
theorem dX3_raise_26 : decode cX3_raise 26 = .ok (.invokevirtual 95, 3) := by decide +kernel
theorem dX3_raise_29 : decode cX3_raise 29 = .ok (.ireturn, 1) := by decide +kernel
theorem dX3_raise_30 : decode cX3_raise 30 = .ok (.aload_n 0, 1) := by decide +kernel
theorem dX3_raise_31 : decode cX3_raise 31 = .ok (.getfield 37, 3) := by decide +kernel
theorem dX3_raise_34 : decode cX3_raise 34 = .ok (.aload_n 3, 1) := by decide +kernel
theorem dX3_raise_35 : decode cX3_raise 35 = .ok (.iload_n 2, 1) := by decide +kernel
theorem dX3_raise_36 : decode cX3_raise 36 = .ok (.invokevirtual 108, 3) := by decide +kernel
theorem dX3_raise_39 : decode cX3_raise 39 = .ok (.aload_n 0, 1) := by decide +kernel
theorem dX3_raise_40 : decode cX3_raise 40 = .ok (.aload_n 3, 1) := by decide +kernel
theorem dX3_raise_41 : decode cX3_raise 41 = .ok (.invokevirtual 65, 3) := by decide +kernel
theorem dX3_raise_44 : decode cX3_raise 44 = .ok (.ireturn, 1) := by decide +kernel
theorem dX3_mediant_0 : decode cX3_mediant 0 = .ok (.aload_n 0, 1) := by decide +kernel
theorem dX3_mediant_1 : decode cX3_mediant 1 = .ok (.iload_n 1, 1) := by decide +kernel
theorem dX3_mediant_2 : decode cX3_mediant 2 = .ok (.invokevirtual 50, 3) := by decide +kernel
theorem dX3_mediant_5 : decode cX3_mediant 5 = .ok (.astore 4, 2) := by decide +kernel
theorem dX3_mediant_7 : decode cX3_mediant 7 = .ok (.aload_n 0, 1) := by decide +kernel
theorem dX3_mediant_8 : decode cX3_mediant 8 = .ok (.getfield 37, 3) := by decide +kernel
theorem dX3_mediant_11 : decode cX3_mediant 11 = .ok (.aload_n 0, 1) := by decide +kernel
theorem dX3_mediant_12 : decode cX3_mediant 12 = .ok (.iload_n 2, 1) := by decide +kernel
theorem dX3_mediant_13 : decode cX3_mediant 13 = .ok (.invokevirtual 50, 3) := by decide +kernel
theorem dX3_mediant_16 : decode cX3_mediant 16 = .ok (.aload_n 0, 1) := by decide +kernel
theorem dX3_mediant_17 : decode cX3_mediant 17 = .ok (.iload_n 3, 1) := by decide +kernel
theorem dX3_mediant_18 : decode cX3_mediant 18 = .ok (.invokevirtual 50, 3) := by decide +kernel
theorem dX3_mediant_21 : decode cX3_mediant 21 = .ok (.invokevirtual 112, 3) := by decide +kernel
theorem dX3_mediant_24 : decode cX3_mediant 24 = .ok (.aload_n 0, 1) := by decide +kernel
theorem dX3_mediant_25 : decode cX3_mediant 25 = .ok (.aload 4, 2) := by decide +kernel
theorem dX3_mediant_27 : decode cX3_mediant 27 = .ok (.invokevirtual 65, 3) := by decide +kernel
theorem dX3_mediant_30 : decode cX3_mediant 30 = .ok (.ireturn, 1) := by decide +kernel
theorem dX3_text_0 : decode cX3_text 0 = .ok (.aload_n 0, 1) := by decide +kernel
theorem dX3_text_1 : decode cX3_text 1 = .ok (.iload_n 1, 1) := by decide +kernel
theorem dX3_text_2 : decode cX3_text 2 = .ok (.invokevirtual 50, 3) := by decide +kernel
theorem dX3_text_5 : decode cX3_text 5 = .ok (.invokestatic 115, 3) := by decide +kernel
theorem dX3_text_8 : decode cX3_text 8 = .ok (.areturn, 1) := by decide +kernel
theorem dX3_part_0 : decode cX3_part 0 = .ok (.aload_n 0, 1) := by decide +kernel
theorem dX3_part_1 : decode cX3_part 1 = .ok (.iload_n 1, 1) := by decide +kernel
theorem dX3_part_2 : decode cX3_part 2 = .ok (.invokevirtual 50, 3) := by decide +kernel
theorem dX3_part_5 : decode cX3_part 5 = .ok (.astore_n 3, 1) := by decide +kernel
theorem dX3_part_6 : decode cX3_part 6 = .ok (.iload_n 2, 1) := by decide +kernel
theorem dX3_part_7 : decode cX3_part 7 = .ok (.iconst 0, 1) := by decide +kernel
theorem dX3_part_8 : decode cX3_part 8 = .ok (.iconst 3, 1) := by decide +kernel
theorem dX3_part_9 : decode cX3_part 9 = .ok (.invokestatic 69, 3) := by decide +kernel
theorem dX3_part_12 : decode cX3_part 12 = .ok (.aload_n 3, 1) := by decide +kernel
theorem dX3_part_13 : decode cX3_part 13 = .ok (.iload_n 2, 1) := by decide +kernel
theorem dX3_part_14 : decode cX3_part 14 = .ok (.invokestatic 119, 3) := by decide +kernel
theorem dX3_part_17 : decode cX3_part 17 = .ok (.l2i, 1) := by decide +kernel
theorem dX3_part_18 : decode cX3_part 18 = .ok (.ireturn, 1) := by decide +kernel
theorem dX3_compare_0 : decode cX3_compare 0 = .ok (.aload_n 0, 1) := by decide +kernel
theorem dX3_compare_1 : decode cX3_compare 1 = .ok (.iload_n 1, 1) := by decide +kernel
theorem dX3_compare_2 : decode cX3_compare 2 = .ok (.invokevirtual 50, 3) := by decide +kernel
theorem dX3_compare_5 : decode cX3_compare 5 = .ok (.aload_n 0, 1) := by decide +kernel
theorem dX3_compare_6 : decode cX3_compare 6 = .ok (.iload_n 2, 1) := by decide +kernel
theorem dX3_compare_7 : decode cX3_compare 7 = .ok (.invokevirtual 50, 3) := by decide +kernel
theorem dX3_compare_10 : decode cX3_compare 10 = .ok (.invokevirtual 123, 3) := by decide +kernel
theorem dX3_compare_13 : decode cX3_compare 13 = .ok (.ireturn, 1) := by decide +kernel
theorem dX3_areNext_0 : decode cX3_areNext 0 = .ok (.aload_n 0, 1) := by decide +kernel
theorem dX3_areNext_1 : decode cX3_areNext 1 = .ok (.iload_n 1, 1) := by decide +kernel
theorem dX3_areNext_2 : decode cX3_areNext 2 = .ok (.invokevirtual 50, 3) := by decide +kernel
theorem dX3_areNext_5 : decode cX3_areNext 5 = .ok (.aload_n 0, 1) := by decide +kernel
theorem dX3_areNext_6 : decode cX3_areNext 6 = .ok (.iload_n 2, 1) := by decide +kernel
theorem dX3_areNext_7 : decode cX3_areNext 7 = .ok (.invokevirtual 50, 3) := by decide +kernel
theorem dX3_areNext_10 : decode cX3_areNext 10 = .ok (.invokevirtual 126, 3) := by decide +kernel
theorem dX3_areNext_13 : decode cX3_areNext 13 = .ok (.ireturn, 1) := by decide +kernel
theorem dX3_terms_0 : decode cX3_terms 0 = .ok (.aload_n 0, 1) := by decide +kernel
theorem dX3_terms_1 : decode cX3_terms 1 = .ok (.getfield 47, 3) := by decide +kernel
theorem dX3_terms_4 : decode cX3_terms 4 = .ok (.aload_n 0, 1) := by decide +kernel
theorem dX3_terms_5 : decode cX3_terms 5 = .ok (.iload_n 1, 1) := by decide +kernel
theorem dX3_terms_6 : decode cX3_terms 6 = .ok (.invokevirtual 50, 3) := by decide +kernel
theorem dX3_terms_9 : decode cX3_terms 9 = .ok (.invokevirtual 130, 3) := by decide +kernel
theorem dX3_terms_12 : decode cX3_terms 12 = .ok (.aload_n 0, 1) := by decide +kernel
theorem dX3_terms_13 : decode cX3_terms 13 = .ok (.getfield 47, 3) := by decide +kernel
theorem dX3_terms_16 : decode cX3_terms 16 = .ok (.invokestatic 133, 3) := by decide +kernel
theorem dX3_terms_19 : decode cX3_terms 19 = .ok (.areturn, 1) := by decide +kernel
theorem dX3_term_0 : decode cX3_term 0 = .ok (.aload_n 0, 1) := by decide +kernel
theorem dX3_term_1 : decode cX3_term 1 = .ok (.iload_n 1, 1) := by decide +kernel
theorem dX3_term_2 : decode cX3_term 2 = .ok (.invokevirtual 50, 3) := by decide +kernel
theorem dX3_term_5 : decode cX3_term 5 = .ok (.astore_n 3, 1) := by decide +kernel
theorem dX3_term_6 : decode cX3_term 6 = .ok (.iload_n 2, 1) := by decide +kernel
theorem dX3_term_7 : decode cX3_term 7 = .ok (.invokestatic 137, 3) := by decide +kernel
theorem dX3_term_10 : decode cX3_term 10 = .ok (.aload_n 0, 1) := by decide +kernel
theorem dX3_term_11 : decode cX3_term 11 = .ok (.getfield 47, 3) := by decide +kernel
theorem dX3_term_14 : decode cX3_term 14 = .ok (.aload_n 3, 1) := by decide +kernel
theorem dX3_term_15 : decode cX3_term 15 = .ok (.invokevirtual 130, 3) := by decide +kernel
theorem dX3_term_18 : decode cX3_term 18 = .ok (.iload_n 2, 1) := by decide +kernel
theorem dX3_term_19 : decode cX3_term 19 = .ok (.aload_n 0, 1) := by decide +kernel
theorem dX3_term_20 : decode cX3_term 20 = .ok (.getfield 47, 3) := by decide +kernel
theorem dX3_term_23 : decode cX3_term 23 = .ok (.getfield 141, 3) := by decide +kernel
theorem dX3_term_26 : decode cX3_term 26 = .ok (.if_icmp .ge 15, 3) := by decide +kernel
theorem dX3_term_29 : decode cX3_term 29 = .ok (.aload_n 0, 1) := by decide +kernel
theorem dX3_term_30 : decode cX3_term 30 = .ok (.getfield 47, 3) := by decide +kernel
theorem dX3_term_33 : decode cX3_term 33 = .ok (.iload_n 2, 1) := by decide +kernel
theorem dX3_term_34 : decode cX3_term 34 = .ok (.invokevirtual 144, 3) := by decide +kernel
theorem dX3_term_37 : decode cX3_term 37 = .ok (.l2i, 1) := by decide +kernel
theorem dX3_term_38 : decode cX3_term 38 = .ok (.goto 5, 3) := by decide +kernel
theorem dX3_term_41 : decode cX3_term 41 = .ok (.bipush (-9), 2) := by decide +kernel
theorem dX3_term_43 : decode cX3_term 43 = .ok (.ireturn, 1) := by decide +kernel
theorem dX3_convergent_0 : decode cX3_convergent 0 = .ok (.aload_n 0, 1) := by decide +kernel
theorem dX3_convergent_1 : decode cX3_convergent 1 = .ok (.iload_n 1, 1) := by decide +kernel
theorem dX3_convergent_2 : decode cX3_convergent 2 = .ok (.invokevirtual 50, 3) := by decide +kernel
theorem dX3_convergent_5 : decode cX3_convergent 5 = .ok (.astore 4, 2) := by decide +kernel
theorem dX3_convergent_7 : decode cX3_convergent 7 = .ok (.aload_n 0, 1) := by decide +kernel
theorem dX3_convergent_8 : decode cX3_convergent 8 = .ok (.iload_n 2, 1) := by decide +kernel
theorem dX3_convergent_9 : decode cX3_convergent 9 = .ok (.invokevirtual 50, 3) := by decide +kernel
theorem dX3_convergent_12 : decode cX3_convergent 12 = .ok (.astore 5, 2) := by decide +kernel
theorem dX3_convergent_14 : decode cX3_convergent 14 = .ok (.iload_n 3, 1) := by decide +kernel
theorem dX3_convergent_15 : decode cX3_convergent 15 = .ok (.invokestatic 137, 3) := by decide +kernel
theorem dX3_convergent_18 : decode cX3_convergent 18 = .ok (.aload_n 0, 1) := by decide +kernel
theorem dX3_convergent_19 : decode cX3_convergent 19 = .ok (.getfield 47, 3) := by decide +kernel
theorem dX3_convergent_22 : decode cX3_convergent 22 = .ok (.aload 5, 2) := by decide +kernel
theorem dX3_convergent_24 : decode cX3_convergent 24 = .ok (.invokevirtual 130, 3) := by decide +kernel
theorem dX3_convergent_27 : decode cX3_convergent 27 = .ok (.iload_n 3, 1) := by decide +kernel
theorem dX3_convergent_28 : decode cX3_convergent 28 = .ok (.aload_n 0, 1) := by decide +kernel
theorem dX3_convergent_29 : decode cX3_convergent 29 = .ok (.getfield 47, 3) := by decide +kernel
theorem dX3_convergent_32 : decode cX3_convergent 32 = .ok (.getfield 141, 3) := by decide +kernel
theorem dX3_convergent_35 : decode cX3_convergent 35 = .ok (.if_icmp .lt 8, 3) := by decide +kernel
theorem dX3_convergent_38 : decode cX3_convergent 38 = .ok (.aload_n 0, 1) := by decide +kernel
theorem dX3_convergent_39 : decode cX3_convergent 39 = .ok (.invokevirtual 95, 3) := by decide +kernel
theorem dX3_convergent_42 : decode cX3_convergent 42 = .ok (.ireturn, 1) := by decide +kernel
theorem dX3_convergent_43 : decode cX3_convergent 43 = .ok (.aload_n 0, 1) := by decide +kernel
theorem dX3_convergent_44 : decode cX3_convergent 44 = .ok (.getfield 47, 3) := by decide +kernel
theorem dX3_convergent_47 : decode cX3_convergent 47 = .ok (.iload_n 3, 1) := by decide +kernel
theorem dX3_convergent_48 : decode cX3_convergent 48 = .ok (.iconst 1, 1) := by decide +kernel
theorem dX3_convergent_49 : decode cX3_convergent 49 = .ok (.iadd, 1) := by decide +kernel
theorem dX3_convergent_50 : decode cX3_convergent 50 = .ok (.invokevirtual 147, 3) := by decide +kernel
theorem dX3_convergent_53 : decode cX3_convergent 53 = .ok (.aload_n 0, 1) := by decide +kernel
theorem dX3_convergent_54 : decode cX3_convergent 54 = .ok (.getfield 47, 3) := by decide +kernel
theorem dX3_convergent_57 : decode cX3_convergent 57 = .ok (.aload_n 0, 1) := by decide +kernel
theorem dX3_convergent_58 : decode cX3_convergent 58 = .ok (.getfield 37, 3) := by decide +kernel
theorem dX3_convergent_61 : decode cX3_convergent 61 = .ok (.invokevirtual 150, 3) := by decide +kernel
theorem dX3_convergent_64 : decode cX3_convergent 64 = .ok (.ifCond .eq 12, 3) := by decide +kernel
theorem dX3_convergent_67 : decode cX3_convergent 67 = .ok (.aload_n 0, 1) := by decide +kernel
theorem dX3_convergent_68 : decode cX3_convergent 68 = .ok (.aload 4, 2) := by decide +kernel
theorem dX3_convergent_70 : decode cX3_convergent 70 = .ok (.invokevirtual 65, 3) := by decide +kernel
theorem dX3_convergent_73 : decode cX3_convergent 73 = .ok (.goto 7, 3) := by decide +kernel
theorem dX3_convergent_76 : decode cX3_convergent 76 = .ok (.aload_n 0, 1) := by decide +kernel
theorem dX3_convergent_77 : decode cX3_convergent 77 = .ok (.invokevirtual 95, 3) := by decide +kernel
theorem dX3_convergent_80 : decode cX3_convergent 80 = .ok (.ireturn, 1) := by decide +kernel
theorem dX3_say_0 : decode cX3_say 0 = .ok (.iload_n 1, 1) := by decide +kernel
theorem dX3_say_1 : decode cX3_say 1 = .ok (.ldc 153, 2) := by decide +kernel
theorem dX3_say_3 : decode cX3_say 3 = .ok (.ldc 154, 2) := by decide +kernel
theorem dX3_say_5 : decode cX3_say 5 = .ok (.invokestatic 69, 3) := by decide +kernel
theorem dX3_say_8 : decode cX3_say 8 = .ok (.aload_n 0, 1) := by decide +kernel
theorem dX3_say_9 : decode cX3_say 9 = .ok (.getfield 19, 3) := by decide +kernel
theorem dX3_say_12 : decode cX3_say 12 = .ok (.getfield 141, 3) := by decide +kernel
theorem dX3_say_15 : decode cX3_say 15 = .ok (.bipush 16, 2) := by decide +kernel
theorem dX3_say_17 : decode cX3_say 17 = .ok (.if_icmp .lt 13, 3) := by decide +kernel
theorem dX3_say_20 : decode cX3_say 20 = .ok (.new 155, 3) := by decide +kernel
theorem dX3_say_23 : decode cX3_say 23 = .ok (.dup, 1) := by decide +kernel
theorem dX3_say_24 : decode cX3_say 24 = .ok (.ldc 157, 2) := by decide +kernel
theorem dX3_say_26 : decode cX3_say 26 = .ok (.invokespecial 159, 3) := by decide +kernel
theorem dX3_say_29 : decode cX3_say 29 = .ok (.athrow, 1) := by decide +kernel
theorem dX3_say_30 : decode cX3_say 30 = .ok (.aload_n 0, 1) := by decide +kernel
theorem dX3_say_31 : decode cX3_say 31 = .ok (.getfield 19, 3) := by decide +kernel
theorem dX3_say_34 : decode cX3_say 34 = .ok (.iload_n 1, 1) := by decide +kernel
theorem dX3_say_35 : decode cX3_say 35 = .ok (.i2l, 1) := by decide +kernel
theorem dX3_say_36 : decode cX3_say 36 = .ok (.invokevirtual 160, 3) := by decide +kernel
theorem dX3_say_39 : decode cX3_say 39 = .ok (.aload_n 0, 1) := by decide +kernel
theorem dX3_say_40 : decode cX3_say 40 = .ok (.getfield 19, 3) := by decide +kernel
theorem dX3_say_43 : decode cX3_say 43 = .ok (.getfield 141, 3) := by decide +kernel
theorem dX3_say_46 : decode cX3_say 46 = .ok (.ireturn, 1) := by decide +kernel
theorem dX3_unsay_0 : decode cX3_unsay 0 = .ok (.iload_n 1, 1) := by decide +kernel
theorem dX3_unsay_1 : decode cX3_unsay 1 = .ok (.iconst 0, 1) := by decide +kernel
theorem dX3_unsay_2 : decode cX3_unsay 2 = .ok (.bipush 16, 2) := by decide +kernel
theorem dX3_unsay_4 : decode cX3_unsay 4 = .ok (.invokestatic 69, 3) := by decide +kernel
theorem dX3_unsay_7 : decode cX3_unsay 7 = .ok (.aload_n 0, 1) := by decide +kernel
theorem dX3_unsay_8 : decode cX3_unsay 8 = .ok (.getfield 19, 3) := by decide +kernel
theorem dX3_unsay_11 : decode cX3_unsay 11 = .ok (.iload_n 1, 1) := by decide +kernel
theorem dX3_unsay_12 : decode cX3_unsay 12 = .ok (.aload_n 0, 1) := by decide +kernel
theorem dX3_unsay_13 : decode cX3_unsay 13 = .ok (.getfield 19, 3) := by decide +kernel
theorem dX3_unsay_16 : decode cX3_unsay 16 = .ok (.getfield 141, 3) := by decide +kernel
theorem dX3_unsay_19 : decode cX3_unsay 19 = .ok (.if_icmp .ge 15, 3) := by decide +kernel
theorem dX3_unsay_22 : decode cX3_unsay 22 = .ok (.aload_n 0, 1) := by decide +kernel
theorem dX3_unsay_23 : decode cX3_unsay 23 = .ok (.getfield 19, 3) := by decide +kernel
theorem dX3_unsay_26 : decode cX3_unsay 26 = .ok (.getfield 141, 3) := by decide +kernel
theorem dX3_unsay_29 : decode cX3_unsay 29 = .ok (.iload_n 1, 1) := by decide +kernel
theorem dX3_unsay_30 : decode cX3_unsay 30 = .ok (.isub, 1) := by decide +kernel
theorem dX3_unsay_31 : decode cX3_unsay 31 = .ok (.goto 4, 3) := by decide +kernel
theorem dX3_unsay_34 : decode cX3_unsay 34 = .ok (.iconst 0, 1) := by decide +kernel
theorem dX3_unsay_35 : decode cX3_unsay 35 = .ok (.invokevirtual 147, 3) := by decide +kernel
theorem dX3_unsay_38 : decode cX3_unsay 38 = .ok (.aload_n 0, 1) := by decide +kernel
theorem dX3_unsay_39 : decode cX3_unsay 39 = .ok (.getfield 19, 3) := by decide +kernel
theorem dX3_unsay_42 : decode cX3_unsay 42 = .ok (.getfield 141, 3) := by decide +kernel
theorem dX3_unsay_45 : decode cX3_unsay 45 = .ok (.ireturn, 1) := by decide +kernel
theorem dX3_row_0 : decode cX3_row 0 = .ok (.aload_n 0, 1) := by decide +kernel
theorem dX3_row_1 : decode cX3_row 1 = .ok (.getfield 19, 3) := by decide +kernel
theorem dX3_row_4 : decode cX3_row 4 = .ok (.invokestatic 133, 3) := by decide +kernel
theorem dX3_row_7 : decode cX3_row 7 = .ok (.areturn, 1) := by decide +kernel
theorem dX3_fold_0 : decode cX3_fold 0 = .ok (.aload_n 0, 1) := by decide +kernel
theorem dX3_fold_1 : decode cX3_fold 1 = .ok (.iload_n 1, 1) := by decide +kernel
theorem dX3_fold_2 : decode cX3_fold 2 = .ok (.invokevirtual 50, 3) := by decide +kernel
theorem dX3_fold_5 : decode cX3_fold 5 = .ok (.astore_n 2, 1) := by decide +kernel
theorem dX3_fold_6 : decode cX3_fold 6 = .ok (.aload_n 0, 1) := by decide +kernel
theorem dX3_fold_7 : decode cX3_fold 7 = .ok (.getfield 19, 3) := by decide +kernel
theorem dX3_fold_10 : decode cX3_fold 10 = .ok (.aload_n 0, 1) := by decide +kernel
theorem dX3_fold_11 : decode cX3_fold 11 = .ok (.getfield 37, 3) := by decide +kernel
theorem dX3_fold_14 : decode cX3_fold 14 = .ok (.invokevirtual 150, 3) := by decide +kernel
theorem dX3_fold_17 : decode cX3_fold 17 = .ok (.ifCond .eq 11, 3) := by decide +kernel
theorem dX3_fold_20 : decode cX3_fold 20 = .ok (.aload_n 0, 1) := by decide +kernel
theorem dX3_fold_21 : decode cX3_fold 21 = .ok (.aload_n 2, 1) := by decide +kernel
theorem dX3_fold_22 : decode cX3_fold 22 = .ok (.invokevirtual 65, 3) := by decide +kernel
theorem dX3_fold_25 : decode cX3_fold 25 = .ok (.goto 7, 3) := by decide +kernel
theorem dX3_fold_28 : decode cX3_fold 28 = .ok (.aload_n 0, 1) := by decide +kernel
theorem dX3_fold_29 : decode cX3_fold 29 = .ok (.invokevirtual 95, 3) := by decide +kernel
theorem dX3_fold_32 : decode cX3_fold 32 = .ok (.ireturn, 1) := by decide +kernel
theorem dX3_lower_0 : decode cX3_lower 0 = .ok (.aload_n 0, 1) := by decide +kernel
theorem dX3_lower_1 : decode cX3_lower 1 = .ok (.iload_n 1, 1) := by decide +kernel
theorem dX3_lower_2 : decode cX3_lower 2 = .ok (.iload_n 2, 1) := by decide +kernel
theorem dX3_lower_3 : decode cX3_lower 3 = .ok (.iload_n 3, 1) := by decide +kernel
theorem dX3_lower_4 : decode cX3_lower 4 = .ok (.iconst 1, 1) := by decide +kernel
theorem dX3_lower_5 : decode cX3_lower 5 = .ok (.invokevirtual 164, 3) := by decide +kernel
theorem dX3_lower_8 : decode cX3_lower 8 = .ok (.ireturn, 1) := by decide +kernel
theorem dX3_upper_0 : decode cX3_upper 0 = .ok (.aload_n 0, 1) := by decide +kernel
theorem dX3_upper_1 : decode cX3_upper 1 = .ok (.iload_n 1, 1) := by decide +kernel
theorem dX3_upper_2 : decode cX3_upper 2 = .ok (.iload_n 2, 1) := by decide +kernel
theorem dX3_upper_3 : decode cX3_upper 3 = .ok (.iload_n 3, 1) := by decide +kernel
theorem dX3_upper_4 : decode cX3_upper 4 = .ok (.iconst (-1), 1) := by decide +kernel
theorem dX3_upper_5 : decode cX3_upper 5 = .ok (.invokevirtual 164, 3) := by decide +kernel
theorem dX3_upper_8 : decode cX3_upper 8 = .ok (.ireturn, 1) := by decide +kernel
theorem dX3_best_0 : decode cX3_best 0 = .ok (.aload_n 0, 1) := by decide +kernel
theorem dX3_best_1 : decode cX3_best 1 = .ok (.iload_n 1, 1) := by decide +kernel
theorem dX3_best_2 : decode cX3_best 2 = .ok (.invokevirtual 50, 3) := by decide +kernel
theorem dX3_best_5 : decode cX3_best 5 = .ok (.astore 4, 2) := by decide +kernel
theorem dX3_best_7 : decode cX3_best 7 = .ok (.aload_n 0, 1) := by decide +kernel
theorem dX3_best_8 : decode cX3_best 8 = .ok (.iload_n 2, 1) := by decide +kernel
theorem dX3_best_9 : decode cX3_best 9 = .ok (.invokevirtual 50, 3) := by decide +kernel
theorem dX3_best_12 : decode cX3_best 12 = .ok (.astore 5, 2) := by decide +kernel
theorem dX3_best_14 : decode cX3_best 14 = .ok (.iload_n 3, 1) := by decide +kernel
theorem dX3_best_15 : decode cX3_best 15 = .ok (.iconst 1, 1) := by decide +kernel
theorem dX3_best_16 : decode cX3_best 16 = .ok (.sipush 200, 3) := by decide +kernel
theorem dX3_best_19 : decode cX3_best 19 = .ok (.invokestatic 69, 3) := by decide +kernel
theorem dX3_best_22 : decode cX3_best 22 = .ok (.aload_n 0, 1) := by decide +kernel
theorem dX3_best_23 : decode cX3_best 23 = .ok (.getfield 41, 3) := by decide +kernel
theorem dX3_best_26 : decode cX3_best 26 = .ok (.aload 5, 2) := by decide +kernel
theorem dX3_best_28 : decode cX3_best 28 = .ok (.iload_n 3, 1) := by decide +kernel
theorem dX3_best_29 : decode cX3_best 29 = .ok (.iconst 1, 1) := by decide +kernel
theorem dX3_best_30 : decode cX3_best 30 = .ok (.invokevirtual 168, 3) := by decide +kernel
theorem dX3_best_33 : decode cX3_best 33 = .ok (.aload_n 0, 1) := by decide +kernel
theorem dX3_best_34 : decode cX3_best 34 = .ok (.getfield 44, 3) := by decide +kernel
theorem dX3_best_37 : decode cX3_best 37 = .ok (.aload 5, 2) := by decide +kernel
theorem dX3_best_39 : decode cX3_best 39 = .ok (.iload_n 3, 1) := by decide +kernel
theorem dX3_best_40 : decode cX3_best 40 = .ok (.iconst (-1), 1) := by decide +kernel
theorem dX3_best_41 : decode cX3_best 41 = .ok (.invokevirtual 168, 3) := by decide +kernel
theorem dX3_best_44 : decode cX3_best 44 = .ok (.aload_n 0, 1) := by decide +kernel
theorem dX3_best_45 : decode cX3_best 45 = .ok (.getfield 37, 3) := by decide +kernel
theorem dX3_best_48 : decode cX3_best 48 = .ok (.aload_n 0, 1) := by decide +kernel
theorem dX3_best_49 : decode cX3_best 49 = .ok (.aload 5, 2) := by decide +kernel
theorem dX3_best_51 : decode cX3_best 51 = .ok (.invokevirtual 172, 3) := by decide +kernel
theorem dX3_best_54 : decode cX3_best 54 = .ok (.ifCond .eq 10, 3) := by decide +kernel
theorem dX3_best_57 : decode cX3_best 57 = .ok (.aload_n 0, 1) := by decide +kernel
theorem dX3_best_58 : decode cX3_best 58 = .ok (.getfield 41, 3) := by decide +kernel
theorem dX3_best_61 : decode cX3_best 61 = .ok (.goto 7, 3) := by decide +kernel
theorem dX3_best_64 : decode cX3_best 64 = .ok (.aload_n 0, 1) := by decide +kernel
theorem dX3_best_65 : decode cX3_best 65 = .ok (.getfield 44, 3) := by decide +kernel
theorem dX3_best_68 : decode cX3_best 68 = .ok (.invokevirtual 77, 3) := by decide +kernel
theorem dX3_best_71 : decode cX3_best 71 = .ok (.aload_n 0, 1) := by decide +kernel
theorem dX3_best_72 : decode cX3_best 72 = .ok (.aload 4, 2) := by decide +kernel
theorem dX3_best_74 : decode cX3_best 74 = .ok (.invokevirtual 65, 3) := by decide +kernel
theorem dX3_best_77 : decode cX3_best 77 = .ok (.ireturn, 1) := by decide +kernel
theorem dX3_up_0 : decode cX3_up 0 = .ok (.aload_n 0, 1) := by decide +kernel
theorem dX3_up_1 : decode cX3_up 1 = .ok (.iload_n 1, 1) := by decide +kernel
theorem dX3_up_2 : decode cX3_up 2 = .ok (.invokevirtual 50, 3) := by decide +kernel
theorem dX3_up_5 : decode cX3_up 5 = .ok (.astore_n 2, 1) := by decide +kernel
theorem dX3_up_6 : decode cX3_up 6 = .ok (.aload_n 2, 1) := by decide +kernel
theorem dX3_up_7 : decode cX3_up 7 = .ok (.invokevirtual 91, 3) := by decide +kernel
theorem dX3_up_10 : decode cX3_up 10 = .ok (.ifCond .le 10, 3) := by decide +kernel
theorem dX3_up_13 : decode cX3_up 13 = .ok (.aload_n 2, 1) := by decide +kernel
theorem dX3_up_14 : decode cX3_up 14 = .ok (.invokevirtual 175, 3) := by decide +kernel
theorem dX3_up_17 : decode cX3_up 17 = .ok (.ifCond .eq 8, 3) := by decide +kernel
theorem dX3_up_20 : decode cX3_up 20 = .ok (.aload_n 0, 1) := by decide +kernel
theorem dX3_up_21 : decode cX3_up 21 = .ok (.invokevirtual 95, 3) := by decide +kernel
theorem dX3_up_24 : decode cX3_up 24 = .ok (.ireturn, 1) := by decide +kernel
theorem dX3_up_25 : decode cX3_up 25 = .ok (.aload_n 0, 1) := by decide +kernel
theorem dX3_up_26 : decode cX3_up 26 = .ok (.aload_n 2, 1) := by decide +kernel
theorem dX3_up_27 : decode cX3_up 27 = .ok (.invokevirtual 179, 3) := by decide +kernel
theorem dX3_up_30 : decode cX3_up 30 = .ok (.ifCond .eq 11, 3) := by decide +kernel
theorem dX3_up_33 : decode cX3_up 33 = .ok (.aload_n 0, 1) := by decide +kernel
theorem dX3_up_34 : decode cX3_up 34 = .ok (.aload_n 2, 1) := by decide +kernel
theorem dX3_up_35 : decode cX3_up 35 = .ok (.invokevirtual 65, 3) := by decide +kernel
theorem dX3_up_38 : decode cX3_up 38 = .ok (.goto 7, 3) := by decide +kernel
theorem dX3_up_41 : decode cX3_up 41 = .ok (.aload_n 0, 1) := by decide +kernel
theorem dX3_up_42 : decode cX3_up 42 = .ok (.invokevirtual 95, 3) := by decide +kernel
theorem dX3_up_45 : decode cX3_up 45 = .ok (.ireturn, 1) := by decide +kernel
theorem dX3_down_0 : decode cX3_down 0 = .ok (.aload_n 0, 1) := by decide +kernel
theorem dX3_down_1 : decode cX3_down 1 = .ok (.iload_n 1, 1) := by decide +kernel
theorem dX3_down_2 : decode cX3_down 2 = .ok (.invokevirtual 50, 3) := by decide +kernel
theorem dX3_down_5 : decode cX3_down 5 = .ok (.astore_n 3, 1) := by decide +kernel
theorem dX3_down_6 : decode cX3_down 6 = .ok (.aload_n 3, 1) := by decide +kernel
theorem dX3_down_7 : decode cX3_down 7 = .ok (.invokevirtual 91, 3) := by decide +kernel
theorem dX3_down_10 : decode cX3_down 10 = .ok (.ifCond .gt 8, 3) := by decide +kernel
theorem dX3_down_13 : decode cX3_down 13 = .ok (.aload_n 0, 1) := by decide +kernel
theorem dX3_down_14 : decode cX3_down 14 = .ok (.invokevirtual 95, 3) := by decide +kernel
theorem dX3_down_17 : decode cX3_down 17 = .ok (.ireturn, 1) := by decide +kernel
theorem dX3_down_18 : decode cX3_down 18 = .ok (.aload_n 0, 1) := by decide +kernel
theorem dX3_down_19 : decode cX3_down 19 = .ok (.aload_n 3, 1) := by decide +kernel
theorem dX3_down_20 : decode cX3_down 20 = .ok (.iload_n 2, 1) := by decide +kernel
theorem dX3_down_21 : decode cX3_down 21 = .ok (.invokevirtual 182, 3) := by decide +kernel
theorem dX3_down_24 : decode cX3_down 24 = .ok (.ifCond .eq 11, 3) := by decide +kernel
theorem dX3_down_27 : decode cX3_down 27 = .ok (.aload_n 0, 1) := by decide +kernel
theorem dX3_down_28 : decode cX3_down 28 = .ok (.aload_n 3, 1) := by decide +kernel
theorem dX3_down_29 : decode cX3_down 29 = .ok (.invokevirtual 65, 3) := by decide +kernel
theorem dX3_down_32 : decode cX3_down 32 = .ok (.goto 7, 3) := by decide +kernel
theorem dX3_down_35 : decode cX3_down 35 = .ok (.aload_n 0, 1) := by decide +kernel
theorem dX3_down_36 : decode cX3_down 36 = .ok (.invokevirtual 95, 3) := by decide +kernel
theorem dX3_down_39 : decode cX3_down 39 = .ok (.ireturn, 1) := by decide +kernel
theorem dX3_depth_0 : decode cX3_depth 0 = .ok (.aload_n 0, 1) := by decide +kernel
theorem dX3_depth_1 : decode cX3_depth 1 = .ok (.aload_n 0, 1) := by decide +kernel
theorem dX3_depth_2 : decode cX3_depth 2 = .ok (.iload_n 1, 1) := by decide +kernel
theorem dX3_depth_3 : decode cX3_depth 3 = .ok (.invokevirtual 50, 3) := by decide +kernel
theorem dX3_depth_6 : decode cX3_depth 6 = .ok (.invokevirtual 186, 3) := by decide +kernel
theorem dX3_depth_9 : decode cX3_depth 9 = .ok (.l2i, 1) := by decide +kernel
theorem dX3_depth_10 : decode cX3_depth 10 = .ok (.ireturn, 1) := by decide +kernel
theorem dX3_way_0 : decode cX3_way 0 = .ok (.aload_n 0, 1) := by decide +kernel
theorem dX3_way_1 : decode cX3_way 1 = .ok (.iload_n 1, 1) := by decide +kernel
theorem dX3_way_2 : decode cX3_way 2 = .ok (.invokevirtual 50, 3) := by decide +kernel
theorem dX3_way_5 : decode cX3_way 5 = .ok (.astore_n 2, 1) := by decide +kernel
theorem dX3_way_6 : decode cX3_way 6 = .ok (.new 190, 3) := by decide +kernel
theorem dX3_way_9 : decode cX3_way 9 = .ok (.dup, 1) := by decide +kernel
theorem dX3_way_10 : decode cX3_way 10 = .ok (.invokespecial 192, 3) := by decide +kernel
theorem dX3_way_13 : decode cX3_way 13 = .ok (.astore_n 3, 1) := by decide +kernel
theorem dX3_way_14 : decode cX3_way 14 = .ok (.aload_n 0, 1) := by decide +kernel
theorem dX3_way_15 : decode cX3_way 15 = .ok (.aload_n 3, 1) := by decide +kernel
theorem dX3_way_16 : decode cX3_way 16 = .ok (.aload_n 2, 1) := by decide +kernel
theorem dX3_way_17 : decode cX3_way 17 = .ok (.invokevirtual 193, 3) := by decide +kernel
theorem dX3_way_20 : decode cX3_way 20 = .ok (.aload_n 3, 1) := by decide +kernel
theorem dX3_way_21 : decode cX3_way 21 = .ok (.invokevirtual 197, 3) := by decide +kernel
theorem dX3_way_24 : decode cX3_way 24 = .ok (.areturn, 1) := by decide +kernel
theorem dX3_next_0 : decode cX3_next 0 = .ok (.aload_n 0, 1) := by decide +kernel
theorem dX3_next_1 : decode cX3_next 1 = .ok (.iload_n 1, 1) := by decide +kernel
theorem dX3_next_2 : decode cX3_next 2 = .ok (.invokevirtual 50, 3) := by decide +kernel
theorem dX3_next_5 : decode cX3_next 5 = .ok (.astore_n 3, 1) := by decide +kernel
theorem dX3_next_6 : decode cX3_next 6 = .ok (.iload_n 2, 1) := by decide +kernel
theorem dX3_next_7 : decode cX3_next 7 = .ok (.iconst 1, 1) := by decide +kernel
theorem dX3_next_8 : decode cX3_next 8 = .ok (.bipush 50, 2) := by decide +kernel
theorem dX3_next_10 : decode cX3_next 10 = .ok (.invokestatic 69, 3) := by decide +kernel
theorem dX3_next_13 : decode cX3_next 13 = .ok (.aload_n 3, 1) := by decide +kernel
theorem dX3_next_14 : decode cX3_next 14 = .ok (.invokevirtual 91, 3) := by decide +kernel
theorem dX3_next_17 : decode cX3_next 17 = .ok (.ifCond .gt 8, 3) := by decide +kernel
theorem dX3_next_20 : decode cX3_next 20 = .ok (.aload_n 0, 1) := by decide +kernel
theorem dX3_next_21 : decode cX3_next 21 = .ok (.invokevirtual 95, 3) := by decide +kernel
theorem dX3_next_24 : decode cX3_next 24 = .ok (.ireturn, 1) := by decide +kernel
theorem dX3_next_25 : decode cX3_next 25 = .ok (.aload_n 0, 1) := by decide +kernel
theorem dX3_next_26 : decode cX3_next 26 = .ok (.getfield 37, 3) := by decide +kernel
theorem dX3_next_29 : decode cX3_next 29 = .ok (.aload_n 3, 1) := by decide +kernel
theorem dX3_next_30 : decode cX3_next 30 = .ok (.invokevirtual 77, 3) := by decide +kernel
theorem dX3_next_33 : decode cX3_next 33 = .ok (.iconst 0, 1) := by decide +kernel
theorem dX3_next_34 : decode cX3_next 34 = .ok (.istore 4, 2) := by decide +kernel
theorem dX3_next_36 : decode cX3_next 36 = .ok (.iload 4, 2) := by decide +kernel
theorem dX3_next_38 : decode cX3_next 38 = .ok (.iload_n 2, 1) := by decide +kernel
theorem dX3_next_39 : decode cX3_next 39 = .ok (.if_icmp .ge 35, 3) := by decide +kernel
theorem dX3_next_42 : decode cX3_next 42 = .ok (.aload_n 0, 1) := by decide +kernel
theorem dX3_next_43 : decode cX3_next 43 = .ok (.getfield 37, 3) := by decide +kernel
theorem dX3_next_46 : decode cX3_next 46 = .ok (.aload_n 0, 1) := by decide +kernel
theorem dX3_next_47 : decode cX3_next 47 = .ok (.getfield 37, 3) := by decide +kernel
theorem dX3_next_50 : decode cX3_next 50 = .ok (.invokevirtual 201, 3) := by decide +kernel
theorem dX3_next_53 : decode cX3_next 53 = .ok (.aload_n 0, 1) := by decide +kernel
theorem dX3_next_54 : decode cX3_next 54 = .ok (.getfield 37, 3) := by decide +kernel
theorem dX3_next_57 : decode cX3_next 57 = .ok (.invokevirtual 204, 3) := by decide +kernel
theorem dX3_next_60 : decode cX3_next 60 = .ok (.ifCond .ne 8, 3) := by decide +kernel
theorem dX3_next_63 : decode cX3_next 63 = .ok (.aload_n 0, 1) := by decide +kernel
theorem dX3_next_64 : decode cX3_next 64 = .ok (.invokevirtual 95, 3) := by decide +kernel
theorem dX3_next_67 : decode cX3_next 67 = .ok (.ireturn, 1) := by decide +kernel
theorem dX3_next_68 : decode cX3_next 68 = .ok (.iinc 4 1, 3) := by decide +kernel
theorem dX3_next_71 : decode cX3_next 71 = .ok (.goto (-35), 3) := by decide +kernel
theorem dX3_next_74 : decode cX3_next 74 = .ok (.aload_n 0, 1) := by decide +kernel
theorem dX3_next_75 : decode cX3_next 75 = .ok (.aload_n 3, 1) := by decide +kernel
theorem dX3_next_76 : decode cX3_next 76 = .ok (.invokevirtual 65, 3) := by decide +kernel
theorem dX3_next_79 : decode cX3_next 79 = .ok (.ireturn, 1) := by decide +kernel
theorem dX3_before_0 : decode cX3_before 0 = .ok (.aload_n 0, 1) := by decide +kernel
theorem dX3_before_1 : decode cX3_before 1 = .ok (.iload_n 1, 1) := by decide +kernel
theorem dX3_before_2 : decode cX3_before 2 = .ok (.invokevirtual 50, 3) := by decide +kernel
theorem dX3_before_5 : decode cX3_before 5 = .ok (.astore_n 2, 1) := by decide +kernel
theorem dX3_before_6 : decode cX3_before 6 = .ok (.aload_n 2, 1) := by decide +kernel
theorem dX3_before_7 : decode cX3_before 7 = .ok (.invokevirtual 91, 3) := by decide +kernel
theorem dX3_before_10 : decode cX3_before 10 = .ok (.ifCond .le 10, 3) := by decide +kernel
theorem dX3_before_13 : decode cX3_before 13 = .ok (.aload_n 2, 1) := by decide +kernel
theorem dX3_before_14 : decode cX3_before 14 = .ok (.invokevirtual 175, 3) := by decide +kernel
theorem dX3_before_17 : decode cX3_before 17 = .ok (.ifCond .eq 8, 3) := by decide +kernel
theorem dX3_before_20 : decode cX3_before 20 = .ok (.aload_n 0, 1) := by decide +kernel
theorem dX3_before_21 : decode cX3_before 21 = .ok (.invokevirtual 95, 3) := by decide +kernel
theorem dX3_before_24 : decode cX3_before 24 = .ok (.ireturn, 1) := by decide +kernel
theorem dX3_before_25 : decode cX3_before 25 = .ok (.aload_n 0, 1) := by decide +kernel
theorem dX3_before_26 : decode cX3_before 26 = .ok (.getfield 37, 3) := by decide +kernel
theorem dX3_before_29 : decode cX3_before 29 = .ok (.aload_n 2, 1) := by decide +kernel
theorem dX3_before_30 : decode cX3_before 30 = .ok (.invokevirtual 207, 3) := by decide +kernel
theorem dX3_before_33 : decode cX3_before 33 = .ok (.aload_n 0, 1) := by decide +kernel
theorem dX3_before_34 : decode cX3_before 34 = .ok (.aload_n 2, 1) := by decide +kernel
theorem dX3_before_35 : decode cX3_before 35 = .ok (.invokevirtual 65, 3) := by decide +kernel
theorem dX3_before_38 : decode cX3_before 38 = .ok (.ireturn, 1) := by decide +kernel
theorem dX3_cut_0 : decode cX3_cut 0 = .ok (.aload_n 0, 1) := by decide +kernel
theorem dX3_cut_1 : decode cX3_cut 1 = .ok (.iload_n 1, 1) := by decide +kernel
theorem dX3_cut_2 : decode cX3_cut 2 = .ok (.invokevirtual 50, 3) := by decide +kernel
theorem dX3_cut_5 : decode cX3_cut 5 = .ok (.astore 4, 2) := by decide +kernel
theorem dX3_cut_7 : decode cX3_cut 7 = .ok (.iload_n 2, 1) := by decide +kernel
theorem dX3_cut_8 : decode cX3_cut 8 = .ok (.iconst 0, 1) := by decide +kernel
theorem dX3_cut_9 : decode cX3_cut 9 = .ok (.bipush 9, 2) := by decide +kernel
theorem dX3_cut_11 : decode cX3_cut 11 = .ok (.invokestatic 69, 3) := by decide +kernel
theorem dX3_cut_14 : decode cX3_cut 14 = .ok (.iload_n 3, 1) := by decide +kernel
theorem dX3_cut_15 : decode cX3_cut 15 = .ok (.iconst 0, 1) := by decide +kernel
theorem dX3_cut_16 : decode cX3_cut 16 = .ok (.iconst 4, 1) := by decide +kernel
theorem dX3_cut_17 : decode cX3_cut 17 = .ok (.invokestatic 69, 3) := by decide +kernel
theorem dX3_cut_20 : decode cX3_cut 20 = .ok (.new 190, 3) := by decide +kernel
theorem dX3_cut_23 : decode cX3_cut 23 = .ok (.dup, 1) := by decide +kernel
theorem dX3_cut_24 : decode cX3_cut 24 = .ok (.invokespecial 192, 3) := by decide +kernel
theorem dX3_cut_27 : decode cX3_cut 27 = .ok (.astore 5, 2) := by decide +kernel
theorem dX3_cut_29 : decode cX3_cut 29 = .ok (.aload 5, 2) := by decide +kernel
theorem dX3_cut_31 : decode cX3_cut 31 = .ok (.aload 4, 2) := by decide +kernel
theorem dX3_cut_33 : decode cX3_cut 33 = .ok (.iload_n 2, 1) := by decide +kernel
theorem dX3_cut_34 : decode cX3_cut 34 = .ok (.iload_n 3, 1) := by decide +kernel
theorem dX3_cut_35 : decode cX3_cut 35 = .ok (.invokevirtual 210, 3) := by decide +kernel
theorem dX3_cut_38 : decode cX3_cut 38 = .ok (.iload_n 2, 1) := by decide +kernel
theorem dX3_cut_39 : decode cX3_cut 39 = .ok (.invokestatic 214, 3) := by decide +kernel
theorem dX3_cut_42 : decode cX3_cut 42 = .ok (.aload 5, 2) := by decide +kernel
theorem dX3_cut_44 : decode cX3_cut 44 = .ok (.invokevirtual 197, 3) := by decide +kernel
theorem dX3_cut_47 : decode cX3_cut 47 = .ok (.areturn, 1) := by decide +kernel
theorem dX3_simplest_0 : decode cX3_simplest 0 = .ok (.aload_n 0, 1) := by decide +kernel
theorem dX3_simplest_1 : decode cX3_simplest 1 = .ok (.iload_n 1, 1) := by decide +kernel
theorem dX3_simplest_2 : decode cX3_simplest 2 = .ok (.invokevirtual 50, 3) := by decide +kernel
theorem dX3_simplest_5 : decode cX3_simplest 5 = .ok (.astore 5, 2) := by decide +kernel
theorem dX3_simplest_7 : decode cX3_simplest 7 = .ok (.aload_n 0, 1) := by decide +kernel
theorem dX3_simplest_8 : decode cX3_simplest 8 = .ok (.iload_n 2, 1) := by decide +kernel
theorem dX3_simplest_9 : decode cX3_simplest 9 = .ok (.invokevirtual 50, 3) := by decide +kernel
theorem dX3_simplest_12 : decode cX3_simplest 12 = .ok (.astore 6, 2) := by decide +kernel
theorem dX3_simplest_14 : decode cX3_simplest 14 = .ok (.iload_n 3, 1) := by decide +kernel
theorem dX3_simplest_15 : decode cX3_simplest 15 = .ok (.iconst 0, 1) := by decide +kernel
theorem dX3_simplest_16 : decode cX3_simplest 16 = .ok (.iconst 2, 1) := by decide +kernel
theorem dX3_simplest_17 : decode cX3_simplest 17 = .ok (.invokestatic 69, 3) := by decide +kernel
theorem dX3_simplest_20 : decode cX3_simplest 20 = .ok (.iload 4, 2) := by decide +kernel
theorem dX3_simplest_22 : decode cX3_simplest 22 = .ok (.iconst 0, 1) := by decide +kernel
theorem dX3_simplest_23 : decode cX3_simplest 23 = .ok (.iconst 4, 1) := by decide +kernel
theorem dX3_simplest_24 : decode cX3_simplest 24 = .ok (.invokestatic 69, 3) := by decide +kernel
theorem dX3_simplest_27 : decode cX3_simplest 27 = .ok (.aload_n 0, 1) := by decide +kernel
theorem dX3_simplest_28 : decode cX3_simplest 28 = .ok (.getfield 37, 3) := by decide +kernel
theorem dX3_simplest_31 : decode cX3_simplest 31 = .ok (.aload 6, 2) := by decide +kernel
theorem dX3_simplest_33 : decode cX3_simplest 33 = .ok (.iload_n 3, 1) := by decide +kernel
theorem dX3_simplest_34 : decode cX3_simplest 34 = .ok (.iload 4, 2) := by decide +kernel
theorem dX3_simplest_36 : decode cX3_simplest 36 = .ok (.invokevirtual 218, 3) := by decide +kernel
theorem dX3_simplest_39 : decode cX3_simplest 39 = .ok (.aload_n 0, 1) := by decide +kernel
theorem dX3_simplest_40 : decode cX3_simplest 40 = .ok (.aload 5, 2) := by decide +kernel
theorem dX3_simplest_42 : decode cX3_simplest 42 = .ok (.invokevirtual 65, 3) := by decide +kernel
theorem dX3_simplest_45 : decode cX3_simplest 45 = .ok (.ireturn, 1) := by decide +kernel
theorem dX3_tally_0 : decode cX3_tally 0 = .ok (.aload_n 0, 1) := by decide +kernel
theorem dX3_tally_1 : decode cX3_tally 1 = .ok (.iload_n 1, 1) := by decide +kernel
theorem dX3_tally_2 : decode cX3_tally 2 = .ok (.invokevirtual 50, 3) := by decide +kernel
theorem dX3_tally_5 : decode cX3_tally 5 = .ok (.astore 4, 2) := by decide +kernel
theorem dX3_tally_7 : decode cX3_tally 7 = .ok (.iload_n 2, 1) := by decide +kernel
theorem dX3_tally_8 : decode cX3_tally 8 = .ok (.iconst 0, 1) := by decide +kernel
theorem dX3_tally_9 : decode cX3_tally 9 = .ok (.iconst 4, 1) := by decide +kernel
theorem dX3_tally_10 : decode cX3_tally 10 = .ok (.invokestatic 69, 3) := by decide +kernel
theorem dX3_tally_13 : decode cX3_tally 13 = .ok (.iload_n 3, 1) := by decide +kernel
theorem dX3_tally_14 : decode cX3_tally 14 = .ok (.iconst 0, 1) := by decide +kernel
theorem dX3_tally_15 : decode cX3_tally 15 = .ok (.iconst 4, 1) := by decide +kernel
theorem dX3_tally_16 : decode cX3_tally 16 = .ok (.invokestatic 69, 3) := by decide +kernel
theorem dX3_tally_19 : decode cX3_tally 19 = .ok (.aload_n 0, 1) := by decide +kernel
theorem dX3_tally_20 : decode cX3_tally 20 = .ok (.getfield 26, 3) := by decide +kernel
theorem dX3_tally_23 : decode cX3_tally 23 = .ok (.aload 4, 2) := by decide +kernel
theorem dX3_tally_25 : decode cX3_tally 25 = .ok (.iload_n 2, 1) := by decide +kernel
theorem dX3_tally_26 : decode cX3_tally 26 = .ok (.iload_n 3, 1) := by decide +kernel
theorem dX3_tally_27 : decode cX3_tally 27 = .ok (.invokevirtual 221, 3) := by decide +kernel
theorem dX3_tally_30 : decode cX3_tally 30 = .ok (.ifCond .eq 13, 3) := by decide +kernel
theorem dX3_tally_33 : decode cX3_tally 33 = .ok (.aload_n 0, 1) := by decide +kernel
theorem dX3_tally_34 : decode cX3_tally 34 = .ok (.getfield 26, 3) := by decide +kernel
theorem dX3_tally_37 : decode cX3_tally 37 = .ok (.getfield 225, 3) := by decide +kernel
theorem dX3_tally_40 : decode cX3_tally 40 = .ok (.goto 7, 3) := by decide +kernel
theorem dX3_tally_43 : decode cX3_tally 43 = .ok (.aload_n 0, 1) := by decide +kernel
theorem dX3_tally_44 : decode cX3_tally 44 = .ok (.invokevirtual 95, 3) := by decide +kernel
theorem dX3_tally_47 : decode cX3_tally 47 = .ok (.ireturn, 1) := by decide +kernel
theorem dX3_wipe_0 : decode cX3_wipe 0 = .ok (.aload_n 0, 1) := by decide +kernel
theorem dX3_wipe_1 : decode cX3_wipe 1 = .ok (.getfield 26, 3) := by decide +kernel
theorem dX3_wipe_4 : decode cX3_wipe 4 = .ok (.getfield 225, 3) := by decide +kernel
theorem dX3_wipe_7 : decode cX3_wipe 7 = .ok (.istore_n 1, 1) := by decide +kernel
theorem dX3_wipe_8 : decode cX3_wipe 8 = .ok (.aload_n 0, 1) := by decide +kernel
theorem dX3_wipe_9 : decode cX3_wipe 9 = .ok (.getfield 26, 3) := by decide +kernel
theorem dX3_wipe_12 : decode cX3_wipe 12 = .ok (.invokevirtual 228, 3) := by decide +kernel
theorem dX3_wipe_15 : decode cX3_wipe 15 = .ok (.iload_n 1, 1) := by decide +kernel
theorem dX3_wipe_16 : decode cX3_wipe 16 = .ok (.ireturn, 1) := by decide +kernel
theorem dX3_exact_0 : decode cX3_exact 0 = .ok (.aload_n 0, 1) := by decide +kernel
theorem dX3_exact_1 : decode cX3_exact 1 = .ok (.getfield 26, 3) := by decide +kernel
theorem dX3_exact_4 : decode cX3_exact 4 = .ok (.getfield 231, 3) := by decide +kernel
theorem dX3_exact_7 : decode cX3_exact 7 = .ok (.invokestatic 115, 3) := by decide +kernel
theorem dX3_exact_10 : decode cX3_exact 10 = .ok (.areturn, 1) := by decide +kernel
theorem dX3_rounded_0 : decode cX3_rounded 0 = .ok (.new 190, 3) := by decide +kernel
theorem dX3_rounded_3 : decode cX3_rounded 3 = .ok (.dup, 1) := by decide +kernel
theorem dX3_rounded_4 : decode cX3_rounded 4 = .ok (.invokespecial 192, 3) := by decide +kernel
theorem dX3_rounded_7 : decode cX3_rounded 7 = .ok (.astore_n 1, 1) := by decide +kernel
theorem dX3_rounded_8 : decode cX3_rounded 8 = .ok (.aload_n 0, 1) := by decide +kernel
theorem dX3_rounded_9 : decode cX3_rounded 9 = .ok (.aload_n 1, 1) := by decide +kernel
theorem dX3_rounded_10 : decode cX3_rounded 10 = .ok (.invokevirtual 234, 3) := by decide +kernel
theorem dX3_rounded_13 : decode cX3_rounded 13 = .ok (.aload_n 1, 1) := by decide +kernel
theorem dX3_rounded_14 : decode cX3_rounded 14 = .ok (.invokevirtual 197, 3) := by decide +kernel
theorem dX3_rounded_17 : decode cX3_rounded 17 = .ok (.areturn, 1) := by decide +kernel
theorem dX3_error_0 : decode cX3_error 0 = .ok (.aload_n 0, 1) := by decide +kernel
theorem dX3_error_1 : decode cX3_error 1 = .ok (.getfield 26, 3) := by decide +kernel
theorem dX3_error_4 : decode cX3_error 4 = .ok (.getfield 238, 3) := by decide +kernel
theorem dX3_error_7 : decode cX3_error 7 = .ok (.invokestatic 115, 3) := by decide +kernel
theorem dX3_error_10 : decode cX3_error 10 = .ok (.areturn, 1) := by decide +kernel
theorem dX3_knock_0 : decode cX3_knock 0 = .ok (.aload_n 0, 1) := by decide +kernel
theorem dX3_knock_1 : decode cX3_knock 1 = .ok (.dup, 1) := by decide +kernel
theorem dX3_knock_2 : decode cX3_knock 2 = .ok (.getfield 34, 3) := by decide +kernel
theorem dX3_knock_5 : decode cX3_knock 5 = .ok (.iconst 1, 1) := by decide +kernel
theorem dX3_knock_6 : decode cX3_knock 6 = .ok (.iadd, 1) := by decide +kernel
theorem dX3_knock_7 : decode cX3_knock 7 = .ok (.putfield 34, 3) := by decide +kernel
theorem dX3_knock_10 : decode cX3_knock 10 = .ok (.aload_n 0, 1) := by decide +kernel
theorem dX3_knock_11 : decode cX3_knock 11 = .ok (.getfield 34, 3) := by decide +kernel
theorem dX3_knock_14 : decode cX3_knock 14 = .ok (.ireturn, 1) := by decide +kernel
theorem dX3_house_0 : decode cX3_house 0 = .ok (.iload_n 1, 1) := by decide +kernel
theorem dX3_house_1 : decode cX3_house 1 = .ok (.iconst 0, 1) := by decide +kernel
theorem dX3_house_2 : decode cX3_house 2 = .ok (.iconst 4, 1) := by decide +kernel
theorem dX3_house_3 : decode cX3_house 3 = .ok (.invokestatic 69, 3) := by decide +kernel
theorem dX3_house_6 : decode cX3_house 6 = .ok (.aload_n 0, 1) := by decide +kernel
theorem dX3_house_7 : decode cX3_house 7 = .ok (.iload_n 1, 1) := by decide +kernel
theorem dX3_house_8 : decode cX3_house 8 = .ok (.invokevirtual 241, 3) := by decide +kernel
theorem dX3_house_11 : decode cX3_house 11 = .ok (.ireturn, 1) := by decide +kernel
theorem dX3_isSound_0 : decode cX3_isSound 0 = .ok (.iconst 0, 1) := by decide +kernel
theorem dX3_isSound_1 : decode cX3_isSound 1 = .ok (.istore_n 1, 1) := by decide +kernel
theorem dX3_isSound_2 : decode cX3_isSound 2 = .ok (.iload_n 1, 1) := by decide +kernel
theorem dX3_isSound_3 : decode cX3_isSound 3 = .ok (.aload_n 0, 1) := by decide +kernel
theorem dX3_isSound_4 : decode cX3_isSound 4 = .ok (.getfield 11, 3) := by decide +kernel
theorem dX3_isSound_7 : decode cX3_isSound 7 = .ok (.arraylength, 1) := by decide +kernel
theorem dX3_isSound_8 : decode cX3_isSound 8 = .ok (.if_icmp .ge 58, 3) := by decide +kernel
theorem dX3_isSound_11 : decode cX3_isSound 11 = .ok (.aload_n 0, 1) := by decide +kernel
theorem dX3_isSound_12 : decode cX3_isSound 12 = .ok (.getfield 11, 3) := by decide +kernel
theorem dX3_isSound_15 : decode cX3_isSound 15 = .ok (.iload_n 1, 1) := by decide +kernel
theorem dX3_isSound_16 : decode cX3_isSound 16 = .ok (.aaload, 1) := by decide +kernel
theorem dX3_isSound_17 : decode cX3_isSound 17 = .ok (.astore_n 2, 1) := by decide +kernel
theorem dX3_isSound_18 : decode cX3_isSound 18 = .ok (.aload_n 0, 1) := by decide +kernel
theorem dX3_isSound_19 : decode cX3_isSound 19 = .ok (.aload_n 2, 1) := by decide +kernel
theorem dX3_isSound_20 : decode cX3_isSound 20 = .ok (.invokevirtual 245, 3) := by decide +kernel
theorem dX3_isSound_23 : decode cX3_isSound 23 = .ok (.ifCond .eq 35, 3) := by decide +kernel
theorem dX3_isSound_26 : decode cX3_isSound 26 = .ok (.aload_n 0, 1) := by decide +kernel
theorem dX3_isSound_27 : decode cX3_isSound 27 = .ok (.aload_n 2, 1) := by decide +kernel
theorem dX3_isSound_28 : decode cX3_isSound 28 = .ok (.invokevirtual 248, 3) := by decide +kernel
theorem dX3_isSound_31 : decode cX3_isSound 31 = .ok (.ifCond .eq 27, 3) := by decide +kernel
theorem dX3_isSound_34 : decode cX3_isSound 34 = .ok (.aload_n 2, 1) := by decide +kernel
theorem dX3_isSound_35 : decode cX3_isSound 35 = .ok (.iconst 0, 1) := by decide +kernel
theorem dX3_isSound_36 : decode cX3_isSound 36 = .ok (.invokestatic 251, 3) := by decide +kernel
theorem dX3_isSound_39 : decode cX3_isSound 39 = .ok (.ifCond .eq 19, 3) := by decide +kernel
theorem dX3_isSound_42 : decode cX3_isSound 42 = .ok (.aload_n 2, 1) := by decide +kernel
theorem dX3_isSound_43 : decode cX3_isSound 43 = .ok (.iconst 2, 1) := by decide +kernel
theorem dX3_isSound_44 : decode cX3_isSound 44 = .ok (.invokestatic 251, 3) := by decide +kernel
theorem dX3_isSound_47 : decode cX3_isSound 47 = .ok (.ifCond .eq 11, 3) := by decide +kernel
theorem dX3_isSound_50 : decode cX3_isSound 50 = .ok (.aload_n 0, 1) := by decide +kernel
theorem dX3_isSound_51 : decode cX3_isSound 51 = .ok (.aload_n 2, 1) := by decide +kernel
theorem dX3_isSound_52 : decode cX3_isSound 52 = .ok (.invokevirtual 255, 3) := by decide +kernel
theorem dX3_isSound_55 : decode cX3_isSound 55 = .ok (.ifCond .ne 5, 3) := by decide +kernel
theorem dX3_isSound_58 : decode cX3_isSound 58 = .ok (.iconst 0, 1) := by decide +kernel
theorem dX3_isSound_59 : decode cX3_isSound 59 = .ok (.ireturn, 1) := by decide +kernel
theorem dX3_isSound_60 : decode cX3_isSound 60 = .ok (.iinc 1 1, 3) := by decide +kernel
theorem dX3_isSound_63 : decode cX3_isSound 63 = .ok (.goto (-61), 3) := by decide +kernel
theorem dX3_isSound_66 : decode cX3_isSound 66 = .ok (.aload_n 0, 1) := by decide +kernel
theorem dX3_isSound_67 : decode cX3_isSound 67 = .ok (.invokevirtual 258, 3) := by decide +kernel
theorem dX3_isSound_70 : decode cX3_isSound 70 = .ok (.ifCond .eq 21, 3) := by decide +kernel
theorem dX3_isSound_73 : decode cX3_isSound 73 = .ok (.aload_n 0, 1) := by decide +kernel
theorem dX3_isSound_74 : decode cX3_isSound 74 = .ok (.getfield 26, 3) := by decide +kernel
theorem dX3_isSound_77 : decode cX3_isSound 77 = .ok (.aload_n 0, 1) := by decide +kernel
theorem dX3_isSound_78 : decode cX3_isSound 78 = .ok (.getfield 37, 3) := by decide +kernel
theorem dX3_isSound_81 : decode cX3_isSound 81 = .ok (.invokevirtual 261, 3) := by decide +kernel
theorem dX3_isSound_84 : decode cX3_isSound 84 = .ok (.ifCond .eq 7, 3) := by decide +kernel
theorem dX3_isSound_87 : decode cX3_isSound 87 = .ok (.iconst 1, 1) := by decide +kernel
theorem dX3_isSound_88 : decode cX3_isSound 88 = .ok (.goto 4, 3) := by decide +kernel
theorem dX3_isSound_91 : decode cX3_isSound 91 = .ok (.iconst 0, 1) := by decide +kernel
theorem dX3_isSound_92 : decode cX3_isSound 92 = .ok (.ireturn, 1) := by decide +kernel
theorem dX3_digest_0 : decode cX3_digest 0 = .ok (.new 190, 3) := by decide +kernel
theorem dX3_digest_3 : decode cX3_digest 3 = .ok (.dup, 1) := by decide +kernel
theorem dX3_digest_4 : decode cX3_digest 4 = .ok (.invokespecial 192, 3) := by decide +kernel
theorem dX3_digest_7 : decode cX3_digest 7 = .ok (.astore_n 1, 1) := by decide +kernel
theorem dX3_digest_8 : decode cX3_digest 8 = .ok (.ldc2_w 264, 3) := by decide +kernel
theorem dX3_digest_11 : decode cX3_digest 11 = .ok (.lstore_n 2, 1) := by decide +kernel
theorem dX3_digest_12 : decode cX3_digest 12 = .ok (.iconst 0, 1) := by decide +kernel
theorem dX3_digest_13 : decode cX3_digest 13 = .ok (.istore 4, 2) := by decide +kernel
theorem dX3_digest_15 : decode cX3_digest 15 = .ok (.iload 4, 2) := by decide +kernel
theorem dX3_digest_17 : decode cX3_digest 17 = .ok (.iconst 4, 1) := by decide +kernel
theorem dX3_digest_18 : decode cX3_digest 18 = .ok (.if_icmp .gt 21, 3) := by decide +kernel
theorem dX3_digest_21 : decode cX3_digest 21 = .ok (.lload_n 2, 1) := by decide +kernel
theorem dX3_digest_22 : decode cX3_digest 22 = .ok (.aload_n 0, 1) := by decide +kernel
theorem dX3_digest_23 : decode cX3_digest 23 = .ok (.iload 4, 2) := by decide +kernel
theorem dX3_digest_25 : decode cX3_digest 25 = .ok (.invokevirtual 241, 3) := by decide +kernel
theorem dX3_digest_28 : decode cX3_digest 28 = .ok (.i2l, 1) := by decide +kernel
theorem dX3_digest_29 : decode cX3_digest 29 = .ok (.invokestatic 266, 3) := by decide +kernel
theorem dX3_digest_32 : decode cX3_digest 32 = .ok (.lstore_n 2, 1) := by decide +kernel
theorem dX3_digest_33 : decode cX3_digest 33 = .ok (.iinc 4 1, 3) := by decide +kernel
theorem dX3_digest_36 : decode cX3_digest 36 = .ok (.goto (-21), 3) := by decide +kernel
theorem dX3_digest_39 : decode cX3_digest 39 = .ok (.iconst 0, 1) := by decide +kernel
theorem dX3_digest_40 : decode cX3_digest 40 = .ok (.istore 4, 2) := by decide +kernel
theorem dX3_digest_42 : decode cX3_digest 42 = .ok (.iload 4, 2) := by decide +kernel
theorem dX3_digest_44 : decode cX3_digest 44 = .ok (.aload_n 0, 1) := by decide +kernel
theorem dX3_digest_45 : decode cX3_digest 45 = .ok (.getfield 11, 3) := by decide +kernel
theorem dX3_digest_48 : decode cX3_digest 48 = .ok (.arraylength, 1) := by decide +kernel
theorem dX3_digest_49 : decode cX3_digest 49 = .ok (.if_icmp .ge 23, 3) := by decide +kernel
theorem dX3_digest_52 : decode cX3_digest 52 = .ok (.aload_n 0, 1) := by decide +kernel
theorem dX3_digest_53 : decode cX3_digest 53 = .ok (.lload_n 2, 1) := by decide +kernel
theorem dX3_digest_54 : decode cX3_digest 54 = .ok (.aload_n 0, 1) := by decide +kernel
theorem dX3_digest_55 : decode cX3_digest 55 = .ok (.getfield 11, 3) := by decide +kernel
theorem dX3_digest_58 : decode cX3_digest 58 = .ok (.iload 4, 2) := by decide +kernel
theorem dX3_digest_60 : decode cX3_digest 60 = .ok (.aaload, 1) := by decide +kernel
theorem dX3_digest_61 : decode cX3_digest 61 = .ok (.aload_n 1, 1) := by decide +kernel
theorem dX3_digest_62 : decode cX3_digest 62 = .ok (.invokevirtual 270, 3) := by decide +kernel
theorem dX3_digest_65 : decode cX3_digest 65 = .ok (.lstore_n 2, 1) := by decide +kernel
theorem dX3_digest_66 : decode cX3_digest 66 = .ok (.iinc 4 1, 3) := by decide +kernel
theorem dX3_digest_69 : decode cX3_digest 69 = .ok (.goto (-27), 3) := by decide +kernel
theorem dX3_digest_72 : decode cX3_digest 72 = .ok (.aload_n 0, 1) := by decide +kernel
theorem dX3_digest_73 : decode cX3_digest 73 = .ok (.lload_n 2, 1) := by decide +kernel
theorem dX3_digest_74 : decode cX3_digest 74 = .ok (.invokevirtual 274, 3) := by decide +kernel
theorem dX3_digest_77 : decode cX3_digest 77 = .ok (.lstore_n 2, 1) := by decide +kernel
theorem dX3_digest_78 : decode cX3_digest 78 = .ok (.iconst 0, 1) := by decide +kernel
theorem dX3_digest_79 : decode cX3_digest 79 = .ok (.istore 4, 2) := by decide +kernel
theorem dX3_digest_81 : decode cX3_digest 81 = .ok (.iload 4, 2) := by decide +kernel
theorem dX3_digest_83 : decode cX3_digest 83 = .ok (.aload_n 0, 1) := by decide +kernel
theorem dX3_digest_84 : decode cX3_digest 84 = .ok (.getfield 19, 3) := by decide +kernel
theorem dX3_digest_87 : decode cX3_digest 87 = .ok (.getfield 141, 3) := by decide +kernel
theorem dX3_digest_90 : decode cX3_digest 90 = .ok (.if_icmp .ge 23, 3) := by decide +kernel
theorem dX3_digest_93 : decode cX3_digest 93 = .ok (.lload_n 2, 1) := by decide +kernel
theorem dX3_digest_94 : decode cX3_digest 94 = .ok (.aload_n 0, 1) := by decide +kernel
theorem dX3_digest_95 : decode cX3_digest 95 = .ok (.getfield 19, 3) := by decide +kernel
theorem dX3_digest_98 : decode cX3_digest 98 = .ok (.iload 4, 2) := by decide +kernel
theorem dX3_digest_100 : decode cX3_digest 100 = .ok (.invokevirtual 144, 3) := by decide +kernel
theorem dX3_digest_103 : decode cX3_digest 103 = .ok (.invokestatic 266, 3) := by decide +kernel
theorem dX3_digest_106 : decode cX3_digest 106 = .ok (.lstore_n 2, 1) := by decide +kernel
theorem dX3_digest_107 : decode cX3_digest 107 = .ok (.iinc 4 1, 3) := by decide +kernel
theorem dX3_digest_110 : decode cX3_digest 110 = .ok (.goto (-29), 3) := by decide +kernel
theorem dX3_digest_113 : decode cX3_digest 113 = .ok (.aload_n 0, 1) := by decide +kernel
theorem dX3_digest_114 : decode cX3_digest 114 = .ok (.lload_n 2, 1) := by decide +kernel
theorem dX3_digest_115 : decode cX3_digest 115 = .ok (.aload_n 1, 1) := by decide +kernel
theorem dX3_digest_116 : decode cX3_digest 116 = .ok (.invokevirtual 278, 3) := by decide +kernel
theorem dX3_digest_119 : decode cX3_digest 119 = .ok (.lstore_n 2, 1) := by decide +kernel
theorem dX3_digest_120 : decode cX3_digest 120 = .ok (.lload_n 2, 1) := by decide +kernel
theorem dX3_digest_121 : decode cX3_digest 121 = .ok (.aload_n 0, 1) := by decide +kernel
theorem dX3_digest_122 : decode cX3_digest 122 = .ok (.invokevirtual 282, 3) := by decide +kernel
theorem dX3_digest_125 : decode cX3_digest 125 = .ok (.ifCond .eq 7, 3) := by decide +kernel
theorem dX3_digest_128 : decode cX3_digest 128 = .ok (.lconst 1, 1) := by decide +kernel
theorem dX3_digest_129 : decode cX3_digest 129 = .ok (.goto 4, 3) := by decide +kernel
theorem dX3_digest_132 : decode cX3_digest 132 = .ok (.lconst 0, 1) := by decide +kernel
theorem dX3_digest_133 : decode cX3_digest 133 = .ok (.invokestatic 266, 3) := by decide +kernel
theorem dX3_digest_136 : decode cX3_digest 136 = .ok (.lreturn, 1) := by decide +kernel
theorem dX3_ratioAt_0 : decode cX3_ratioAt 0 = .ok (.iload_n 1, 1) := by decide +kernel
theorem dX3_ratioAt_1 : decode cX3_ratioAt 1 = .ok (.ifCond .lt 12, 3) := by decide +kernel
theorem dX3_ratioAt_4 : decode cX3_ratioAt 4 = .ok (.iload_n 1, 1) := by decide +kernel
theorem dX3_ratioAt_5 : decode cX3_ratioAt 5 = .ok (.aload_n 0, 1) := by decide +kernel
theorem dX3_ratioAt_6 : decode cX3_ratioAt 6 = .ok (.getfield 11, 3) := by decide +kernel
theorem dX3_ratioAt_9 : decode cX3_ratioAt 9 = .ok (.arraylength, 1) := by decide +kernel
theorem dX3_ratioAt_10 : decode cX3_ratioAt 10 = .ok (.if_icmp .lt 14, 3) := by decide +kernel
theorem dX3_ratioAt_13 : decode cX3_ratioAt 13 = .ok (.new 285, 3) := by decide +kernel
theorem dX3_ratioAt_16 : decode cX3_ratioAt 16 = .ok (.dup, 1) := by decide +kernel
theorem dX3_ratioAt_17 : decode cX3_ratioAt 17 = .ok (.ldc_w 287, 3) := by decide +kernel
theorem dX3_ratioAt_20 : decode cX3_ratioAt 20 = .ok (.invokespecial 289, 3) := by decide +kernel
theorem dX3_ratioAt_23 : decode cX3_ratioAt 23 = .ok (.athrow, 1) := by decide +kernel
theorem dX3_ratioAt_24 : decode cX3_ratioAt 24 = .ok (.aload_n 0, 1) := by decide +kernel
theorem dX3_ratioAt_25 : decode cX3_ratioAt 25 = .ok (.getfield 11, 3) := by decide +kernel
theorem dX3_ratioAt_28 : decode cX3_ratioAt 28 = .ok (.iload_n 1, 1) := by decide +kernel
theorem dX3_ratioAt_29 : decode cX3_ratioAt 29 = .ok (.aaload, 1) := by decide +kernel
theorem dX3_ratioAt_30 : decode cX3_ratioAt 30 = .ok (.areturn, 1) := by decide +kernel
theorem dX3_requireWithin_0 : decode cX3_requireWithin 0 = .ok (.iload_n 0, 1) := by decide +kernel
theorem dX3_requireWithin_1 : decode cX3_requireWithin 1 = .ok (.iload_n 1, 1) := by decide +kernel
theorem dX3_requireWithin_2 : decode cX3_requireWithin 2 = .ok (.if_icmp .lt 8, 3) := by decide +kernel
theorem dX3_requireWithin_5 : decode cX3_requireWithin 5 = .ok (.iload_n 0, 1) := by decide +kernel
theorem dX3_requireWithin_6 : decode cX3_requireWithin 6 = .ok (.iload_n 2, 1) := by decide +kernel
theorem dX3_requireWithin_7 : decode cX3_requireWithin 7 = .ok (.if_icmp .le 14, 3) := by decide +kernel
theorem dX3_requireWithin_10 : decode cX3_requireWithin 10 = .ok (.new 54, 3) := by decide +kernel
theorem dX3_requireWithin_13 : decode cX3_requireWithin 13 = .ok (.dup, 1) := by decide +kernel
theorem dX3_requireWithin_14 : decode cX3_requireWithin 14 = .ok (.ldc_w 290, 3) := by decide +kernel
theorem dX3_requireWithin_17 : decode cX3_requireWithin 17 = .ok (.invokespecial 58, 3) := by decide +kernel
theorem dX3_requireWithin_20 : decode cX3_requireWithin 20 = .ok (.athrow, 1) := by decide +kernel
theorem dX3_requireWithin_21 : decode cX3_requireWithin 21 = .ok (.return_, 1) := by decide +kernel
theorem dX3_requireNotBelow0_0 : decode cX3_requireNotBelow0 0 = .ok (.iload_n 0, 1) := by decide +kernel
theorem dX3_requireNotBelow0_1 : decode cX3_requireNotBelow0 1 = .ok (.ifCond .ge 14, 3) := by decide +kernel
theorem dX3_requireNotBelow0_4 : decode cX3_requireNotBelow0 4 = .ok (.new 54, 3) := by decide +kernel
theorem dX3_requireNotBelow0_7 : decode cX3_requireNotBelow0 7 = .ok (.dup, 1) := by decide +kernel
theorem dX3_requireNotBelow0_8 : decode cX3_requireNotBelow0 8 = .ok (.ldc_w 292, 3) := by decide +kernel
theorem dX3_requireNotBelow0_11 : decode cX3_requireNotBelow0 11 = .ok (.invokespecial 58, 3) := by decide +kernel
theorem dX3_requireNotBelow0_14 : decode cX3_requireNotBelow0 14 = .ok (.athrow, 1) := by decide +kernel
theorem dX3_requireNotBelow0_15 : decode cX3_requireNotBelow0 15 = .ok (.return_, 1) := by decide +kernel
theorem dX3_refuse_0 : decode cX3_refuse 0 = .ok (.aload_n 0, 1) := by decide +kernel
theorem dX3_refuse_1 : decode cX3_refuse 1 = .ok (.dup, 1) := by decide +kernel
theorem dX3_refuse_2 : decode cX3_refuse 2 = .ok (.getfield 30, 3) := by decide +kernel
theorem dX3_refuse_5 : decode cX3_refuse 5 = .ok (.iconst 1, 1) := by decide +kernel
theorem dX3_refuse_6 : decode cX3_refuse 6 = .ok (.iadd, 1) := by decide +kernel
theorem dX3_refuse_7 : decode cX3_refuse 7 = .ok (.putfield 30, 3) := by decide +kernel
theorem dX3_refuse_10 : decode cX3_refuse 10 = .ok (.bipush (-9), 2) := by decide +kernel
theorem dX3_refuse_12 : decode cX3_refuse 12 = .ok (.ireturn, 1) := by decide +kernel
theorem dX3_settle_0 : decode cX3_settle 0 = .ok (.aload_n 0, 1) := by decide +kernel
theorem dX3_settle_1 : decode cX3_settle 1 = .ok (.getfield 37, 3) := by decide +kernel
theorem dX3_settle_4 : decode cX3_settle 4 = .ok (.invokevirtual 204, 3) := by decide +kernel
theorem dX3_settle_7 : decode cX3_settle 7 = .ok (.ifCond .ne 8, 3) := by decide +kernel
theorem dX3_settle_10 : decode cX3_settle 10 = .ok (.aload_n 0, 1) := by decide +kernel
theorem dX3_settle_11 : decode cX3_settle 11 = .ok (.invokevirtual 95, 3) := by decide +kernel
theorem dX3_settle_14 : decode cX3_settle 14 = .ok (.ireturn, 1) := by decide +kernel
theorem dX3_settle_15 : decode cX3_settle 15 = .ok (.aload_n 0, 1) := by decide +kernel
theorem dX3_settle_16 : decode cX3_settle 16 = .ok (.getfield 37, 3) := by decide +kernel
theorem dX3_settle_19 : decode cX3_settle 19 = .ok (.aload_n 1, 1) := by decide +kernel
theorem dX3_settle_20 : decode cX3_settle 20 = .ok (.invokevirtual 294, 3) := by decide +kernel
theorem dX3_settle_23 : decode cX3_settle 23 = .ok (.ifCond .eq 5, 3) := by decide +kernel
theorem dX3_settle_26 : decode cX3_settle 26 = .ok (.iconst 0, 1) := by decide +kernel
theorem dX3_settle_27 : decode cX3_settle 27 = .ok (.ireturn, 1) := by decide +kernel
theorem dX3_settle_28 : decode cX3_settle 28 = .ok (.aload_n 1, 1) := by decide +kernel
theorem dX3_settle_29 : decode cX3_settle 29 = .ok (.aload_n 0, 1) := by decide +kernel
theorem dX3_settle_30 : decode cX3_settle 30 = .ok (.getfield 37, 3) := by decide +kernel
theorem dX3_settle_33 : decode cX3_settle 33 = .ok (.invokevirtual 77, 3) := by decide +kernel
theorem dX3_settle_36 : decode cX3_settle 36 = .ok (.iconst 1, 1) := by decide +kernel
theorem dX3_settle_37 : decode cX3_settle 37 = .ok (.ireturn, 1) := by decide +kernel
theorem dX3_partOf_0 : decode cX3_partOf 0 = .ok (.iload_n 1, 1) := by decide +kernel
theorem dX3_partOf_1 : decode cX3_partOf 1 = .ok (.tableswitch 43 0 2 #[27, 32, 37], 27) := by decide +kernel
theorem dX3_partOf_28 : decode cX3_partOf 28 = .ok (.aload_n 0, 1) := by decide +kernel
theorem dX3_partOf_29 : decode cX3_partOf 29 = .ok (.getfield 101, 3) := by decide +kernel
theorem dX3_partOf_32 : decode cX3_partOf 32 = .ok (.lreturn, 1) := by decide +kernel
theorem dX3_partOf_33 : decode cX3_partOf 33 = .ok (.aload_n 0, 1) := by decide +kernel
theorem dX3_partOf_34 : decode cX3_partOf 34 = .ok (.getfield 105, 3) := by decide +kernel
theorem dX3_partOf_37 : decode cX3_partOf 37 = .ok (.lreturn, 1) := by decide +kernel
theorem dX3_partOf_38 : decode cX3_partOf 38 = .ok (.aload_n 0, 1) := by decide +kernel
theorem dX3_partOf_39 : decode cX3_partOf 39 = .ok (.invokevirtual 91, 3) := by decide +kernel
theorem dX3_partOf_42 : decode cX3_partOf 42 = .ok (.i2l, 1) := by decide +kernel
theorem dX3_partOf_43 : decode cX3_partOf 43 = .ok (.lreturn, 1) := by decide +kernel
theorem dX3_partOf_44 : decode cX3_partOf 44 = .ok (.aload_n 0, 1) := by decide +kernel
theorem dX3_partOf_45 : decode cX3_partOf 45 = .ok (.invokevirtual 297, 3) := by decide +kernel
theorem dX3_partOf_48 : decode cX3_partOf 48 = .ok (.lreturn, 1) := by decide +kernel
theorem dX3_countOf_0 : decode cX3_countOf 0 = .ok (.iload_n 1, 1) := by decide +kernel
theorem dX3_countOf_1 : decode cX3_countOf 1 = .ok (.tableswitch 54 0 3 #[31, 36, 41, 46], 31) := by decide +kernel
theorem dX3_countOf_32 : decode cX3_countOf 32 = .ok (.aload_n 0, 1) := by decide +kernel
theorem dX3_countOf_33 : decode cX3_countOf 33 = .ok (.invokevirtual 301, 3) := by decide +kernel
theorem dX3_countOf_36 : decode cX3_countOf 36 = .ok (.ireturn, 1) := by decide +kernel
theorem dX3_countOf_37 : decode cX3_countOf 37 = .ok (.aload_n 0, 1) := by decide +kernel
theorem dX3_countOf_38 : decode cX3_countOf 38 = .ok (.getfield 30, 3) := by decide +kernel
theorem dX3_countOf_41 : decode cX3_countOf 41 = .ok (.ireturn, 1) := by decide +kernel
theorem dX3_countOf_42 : decode cX3_countOf 42 = .ok (.aload_n 0, 1) := by decide +kernel
theorem dX3_countOf_43 : decode cX3_countOf 43 = .ok (.getfield 34, 3) := by decide +kernel
theorem dX3_countOf_46 : decode cX3_countOf 46 = .ok (.ireturn, 1) := by decide +kernel
theorem dX3_countOf_47 : decode cX3_countOf 47 = .ok (.aload_n 0, 1) := by decide +kernel
theorem dX3_countOf_48 : decode cX3_countOf 48 = .ok (.getfield 19, 3) := by decide +kernel
theorem dX3_countOf_51 : decode cX3_countOf 51 = .ok (.getfield 141, 3) := by decide +kernel
theorem dX3_countOf_54 : decode cX3_countOf 54 = .ok (.ireturn, 1) := by decide +kernel
theorem dX3_countOf_55 : decode cX3_countOf 55 = .ok (.aload_n 0, 1) := by decide +kernel
theorem dX3_countOf_56 : decode cX3_countOf 56 = .ok (.getfield 26, 3) := by decide +kernel
theorem dX3_countOf_59 : decode cX3_countOf 59 = .ok (.getfield 225, 3) := by decide +kernel
theorem dX3_countOf_62 : decode cX3_countOf 62 = .ok (.ireturn, 1) := by decide +kernel
theorem dX3_wholeCount_0 : decode cX3_wholeCount 0 = .ok (.iconst 0, 1) := by decide +kernel
theorem dX3_wholeCount_1 : decode cX3_wholeCount 1 = .ok (.istore_n 1, 1) := by decide +kernel
theorem dX3_wholeCount_2 : decode cX3_wholeCount 2 = .ok (.iconst 0, 1) := by decide +kernel
theorem dX3_wholeCount_3 : decode cX3_wholeCount 3 = .ok (.istore_n 2, 1) := by decide +kernel
theorem dX3_wholeCount_4 : decode cX3_wholeCount 4 = .ok (.iload_n 2, 1) := by decide +kernel
theorem dX3_wholeCount_5 : decode cX3_wholeCount 5 = .ok (.aload_n 0, 1) := by decide +kernel
theorem dX3_wholeCount_6 : decode cX3_wholeCount 6 = .ok (.getfield 11, 3) := by decide +kernel
theorem dX3_wholeCount_9 : decode cX3_wholeCount 9 = .ok (.arraylength, 1) := by decide +kernel
theorem dX3_wholeCount_10 : decode cX3_wholeCount 10 = .ok (.if_icmp .ge 26, 3) := by decide +kernel
theorem dX3_wholeCount_13 : decode cX3_wholeCount 13 = .ok (.aload_n 0, 1) := by decide +kernel
theorem dX3_wholeCount_14 : decode cX3_wholeCount 14 = .ok (.getfield 11, 3) := by decide +kernel
theorem dX3_wholeCount_17 : decode cX3_wholeCount 17 = .ok (.iload_n 2, 1) := by decide +kernel
theorem dX3_wholeCount_18 : decode cX3_wholeCount 18 = .ok (.aaload, 1) := by decide +kernel
theorem dX3_wholeCount_19 : decode cX3_wholeCount 19 = .ok (.getfield 105, 3) := by decide +kernel
theorem dX3_wholeCount_22 : decode cX3_wholeCount 22 = .ok (.lconst 1, 1) := by decide +kernel
theorem dX3_wholeCount_23 : decode cX3_wholeCount 23 = .ok (.lcmp, 1) := by decide +kernel
theorem dX3_wholeCount_24 : decode cX3_wholeCount 24 = .ok (.ifCond .ne 6, 3) := by decide +kernel
theorem dX3_wholeCount_27 : decode cX3_wholeCount 27 = .ok (.iinc 1 1, 3) := by decide +kernel
theorem dX3_wholeCount_30 : decode cX3_wholeCount 30 = .ok (.iinc 2 1, 3) := by decide +kernel
theorem dX3_wholeCount_33 : decode cX3_wholeCount 33 = .ok (.goto (-29), 3) := by decide +kernel
theorem dX3_wholeCount_36 : decode cX3_wholeCount 36 = .ok (.iload_n 1, 1) := by decide +kernel
theorem dX3_wholeCount_37 : decode cX3_wholeCount 37 = .ok (.ireturn, 1) := by decide +kernel
theorem dX3_takeNeighbour_0 : decode cX3_takeNeighbour 0 = .ok (.aload_n 0, 1) := by decide +kernel
theorem dX3_takeNeighbour_1 : decode cX3_takeNeighbour 1 = .ok (.iload_n 1, 1) := by decide +kernel
theorem dX3_takeNeighbour_2 : decode cX3_takeNeighbour 2 = .ok (.invokevirtual 50, 3) := by decide +kernel
theorem dX3_takeNeighbour_5 : decode cX3_takeNeighbour 5 = .ok (.astore 5, 2) := by decide +kernel
theorem dX3_takeNeighbour_7 : decode cX3_takeNeighbour 7 = .ok (.aload_n 0, 1) := by decide +kernel
theorem dX3_takeNeighbour_8 : decode cX3_takeNeighbour 8 = .ok (.iload_n 2, 1) := by decide +kernel
theorem dX3_takeNeighbour_9 : decode cX3_takeNeighbour 9 = .ok (.invokevirtual 50, 3) := by decide +kernel
theorem dX3_takeNeighbour_12 : decode cX3_takeNeighbour 12 = .ok (.astore 6, 2) := by decide +kernel
theorem dX3_takeNeighbour_14 : decode cX3_takeNeighbour 14 = .ok (.iload_n 3, 1) := by decide +kernel
theorem dX3_takeNeighbour_15 : decode cX3_takeNeighbour 15 = .ok (.iconst 1, 1) := by decide +kernel
theorem dX3_takeNeighbour_16 : decode cX3_takeNeighbour 16 = .ok (.sipush 200, 3) := by decide +kernel
theorem dX3_takeNeighbour_19 : decode cX3_takeNeighbour 19 = .ok (.invokestatic 69, 3) := by decide +kernel
theorem dX3_takeNeighbour_22 : decode cX3_takeNeighbour 22 = .ok (.aload_n 0, 1) := by decide +kernel
theorem dX3_takeNeighbour_23 : decode cX3_takeNeighbour 23 = .ok (.getfield 37, 3) := by decide +kernel
theorem dX3_takeNeighbour_26 : decode cX3_takeNeighbour 26 = .ok (.aload 6, 2) := by decide +kernel
theorem dX3_takeNeighbour_28 : decode cX3_takeNeighbour 28 = .ok (.iload_n 3, 1) := by decide +kernel
theorem dX3_takeNeighbour_29 : decode cX3_takeNeighbour 29 = .ok (.iload 4, 2) := by decide +kernel
theorem dX3_takeNeighbour_31 : decode cX3_takeNeighbour 31 = .ok (.invokevirtual 168, 3) := by decide +kernel
theorem dX3_takeNeighbour_34 : decode cX3_takeNeighbour 34 = .ok (.aload_n 0, 1) := by decide +kernel
theorem dX3_takeNeighbour_35 : decode cX3_takeNeighbour 35 = .ok (.aload 5, 2) := by decide +kernel
theorem dX3_takeNeighbour_37 : decode cX3_takeNeighbour 37 = .ok (.invokevirtual 65, 3) := by decide +kernel
theorem dX3_takeNeighbour_40 : decode cX3_takeNeighbour 40 = .ok (.ireturn, 1) := by decide +kernel
theorem dX3_isLowerBetter_0 : decode cX3_isLowerBetter 0 = .ok (.aload_n 1, 1) := by decide +kernel
theorem dX3_isLowerBetter_1 : decode cX3_isLowerBetter 1 = .ok (.getfield 101, 3) := by decide +kernel
theorem dX3_isLowerBetter_4 : decode cX3_isLowerBetter 4 = .ok (.aload_n 0, 1) := by decide +kernel
theorem dX3_isLowerBetter_5 : decode cX3_isLowerBetter 5 = .ok (.getfield 41, 3) := by decide +kernel
theorem dX3_isLowerBetter_8 : decode cX3_isLowerBetter 8 = .ok (.getfield 105, 3) := by decide +kernel
theorem dX3_isLowerBetter_11 : decode cX3_isLowerBetter 11 = .ok (.lmul, 1) := by decide +kernel
theorem dX3_isLowerBetter_12 : decode cX3_isLowerBetter 12 = .ok (.aload_n 0, 1) := by decide +kernel
theorem dX3_isLowerBetter_13 : decode cX3_isLowerBetter 13 = .ok (.getfield 41, 3) := by decide +kernel
theorem dX3_isLowerBetter_16 : decode cX3_isLowerBetter 16 = .ok (.getfield 101, 3) := by decide +kernel
theorem dX3_isLowerBetter_19 : decode cX3_isLowerBetter 19 = .ok (.aload_n 1, 1) := by decide +kernel
theorem dX3_isLowerBetter_20 : decode cX3_isLowerBetter 20 = .ok (.getfield 105, 3) := by decide +kernel
theorem dX3_isLowerBetter_23 : decode cX3_isLowerBetter 23 = .ok (.lmul, 1) := by decide +kernel
theorem dX3_isLowerBetter_24 : decode cX3_isLowerBetter 24 = .ok (.lsub, 1) := by decide +kernel
theorem dX3_isLowerBetter_25 : decode cX3_isLowerBetter 25 = .ok (.aload_n 0, 1) := by decide +kernel
theorem dX3_isLowerBetter_26 : decode cX3_isLowerBetter 26 = .ok (.getfield 44, 3) := by decide +kernel
theorem dX3_isLowerBetter_29 : decode cX3_isLowerBetter 29 = .ok (.getfield 105, 3) := by decide +kernel
theorem dX3_isLowerBetter_32 : decode cX3_isLowerBetter 32 = .ok (.lmul, 1) := by decide +kernel
theorem dX3_isLowerBetter_33 : decode cX3_isLowerBetter 33 = .ok (.lstore_n 2, 1) := by decide +kernel
theorem dX3_isLowerBetter_34 : decode cX3_isLowerBetter 34 = .ok (.aload_n 0, 1) := by decide +kernel
theorem dX3_isLowerBetter_35 : decode cX3_isLowerBetter 35 = .ok (.getfield 44, 3) := by decide +kernel
theorem dX3_isLowerBetter_38 : decode cX3_isLowerBetter 38 = .ok (.getfield 101, 3) := by decide +kernel
theorem dX3_isLowerBetter_41 : decode cX3_isLowerBetter 41 = .ok (.aload_n 1, 1) := by decide +kernel
theorem dX3_isLowerBetter_42 : decode cX3_isLowerBetter 42 = .ok (.getfield 105, 3) := by decide +kernel
theorem dX3_isLowerBetter_45 : decode cX3_isLowerBetter 45 = .ok (.lmul, 1) := by decide +kernel
theorem dX3_isLowerBetter_46 : decode cX3_isLowerBetter 46 = .ok (.aload_n 1, 1) := by decide +kernel
theorem dX3_isLowerBetter_47 : decode cX3_isLowerBetter 47 = .ok (.getfield 101, 3) := by decide +kernel
theorem dX3_isLowerBetter_50 : decode cX3_isLowerBetter 50 = .ok (.aload_n 0, 1) := by decide +kernel
theorem dX3_isLowerBetter_51 : decode cX3_isLowerBetter 51 = .ok (.getfield 44, 3) := by decide +kernel
theorem dX3_isLowerBetter_54 : decode cX3_isLowerBetter 54 = .ok (.getfield 105, 3) := by decide +kernel
theorem dX3_isLowerBetter_57 : decode cX3_isLowerBetter 57 = .ok (.lmul, 1) := by decide +kernel
theorem dX3_isLowerBetter_58 : decode cX3_isLowerBetter 58 = .ok (.lsub, 1) := by decide +kernel
theorem dX3_isLowerBetter_59 : decode cX3_isLowerBetter 59 = .ok (.aload_n 0, 1) := by decide +kernel
theorem dX3_isLowerBetter_60 : decode cX3_isLowerBetter 60 = .ok (.getfield 41, 3) := by decide +kernel
theorem dX3_isLowerBetter_63 : decode cX3_isLowerBetter 63 = .ok (.getfield 105, 3) := by decide +kernel
theorem dX3_isLowerBetter_66 : decode cX3_isLowerBetter 66 = .ok (.lmul, 1) := by decide +kernel
theorem dX3_isLowerBetter_67 : decode cX3_isLowerBetter 67 = .ok (.lstore 4, 2) := by decide +kernel
theorem dX3_isLowerBetter_69 : decode cX3_isLowerBetter 69 = .ok (.lload_n 2, 1) := by decide +kernel
theorem dX3_isLowerBetter_70 : decode cX3_isLowerBetter 70 = .ok (.lload 4, 2) := by decide +kernel
theorem dX3_isLowerBetter_72 : decode cX3_isLowerBetter 72 = .ok (.lcmp, 1) := by decide +kernel
theorem dX3_isLowerBetter_73 : decode cX3_isLowerBetter 73 = .ok (.ifCond .eq 16, 3) := by decide +kernel
theorem dX3_isLowerBetter_76 : decode cX3_isLowerBetter 76 = .ok (.lload_n 2, 1) := by decide +kernel
theorem dX3_isLowerBetter_77 : decode cX3_isLowerBetter 77 = .ok (.lload 4, 2) := by decide +kernel
theorem dX3_isLowerBetter_79 : decode cX3_isLowerBetter 79 = .ok (.lcmp, 1) := by decide +kernel
theorem dX3_isLowerBetter_80 : decode cX3_isLowerBetter 80 = .ok (.ifCond .ge 7, 3) := by decide +kernel
theorem dX3_isLowerBetter_83 : decode cX3_isLowerBetter 83 = .ok (.iconst 1, 1) := by decide +kernel
theorem dX3_isLowerBetter_84 : decode cX3_isLowerBetter 84 = .ok (.goto 4, 3) := by decide +kernel
theorem dX3_isLowerBetter_87 : decode cX3_isLowerBetter 87 = .ok (.iconst 0, 1) := by decide +kernel
theorem dX3_isLowerBetter_88 : decode cX3_isLowerBetter 88 = .ok (.ireturn, 1) := by decide +kernel
theorem dX3_isLowerBetter_89 : decode cX3_isLowerBetter 89 = .ok (.aload_n 0, 1) := by decide +kernel
theorem dX3_isLowerBetter_90 : decode cX3_isLowerBetter 90 = .ok (.getfield 41, 3) := by decide +kernel
theorem dX3_isLowerBetter_93 : decode cX3_isLowerBetter 93 = .ok (.getfield 105, 3) := by decide +kernel
theorem dX3_isLowerBetter_96 : decode cX3_isLowerBetter 96 = .ok (.aload_n 0, 1) := by decide +kernel
theorem dX3_isLowerBetter_97 : decode cX3_isLowerBetter 97 = .ok (.getfield 44, 3) := by decide +kernel
theorem dX3_isLowerBetter_100 : decode cX3_isLowerBetter 100 = .ok (.getfield 105, 3) := by decide +kernel
theorem dX3_isLowerBetter_103 : decode cX3_isLowerBetter 103 = .ok (.lcmp, 1) := by decide +kernel
theorem dX3_isLowerBetter_104 : decode cX3_isLowerBetter 104 = .ok (.ifCond .gt 7, 3) := by decide +kernel
theorem dX3_isLowerBetter_107 : decode cX3_isLowerBetter 107 = .ok (.iconst 1, 1) := by decide +kernel
theorem dX3_isLowerBetter_108 : decode cX3_isLowerBetter 108 = .ok (.goto 4, 3) := by decide +kernel
theorem dX3_isLowerBetter_111 : decode cX3_isLowerBetter 111 = .ok (.iconst 0, 1) := by decide +kernel
theorem dX3_isLowerBetter_112 : decode cX3_isLowerBetter 112 = .ok (.ireturn, 1) := by decide +kernel
theorem dX3_stepUp_0 : decode cX3_stepUp 0 = .ok (.aload_n 0, 1) := by decide +kernel
theorem dX3_stepUp_1 : decode cX3_stepUp 1 = .ok (.getfield 47, 3) := by decide +kernel
theorem dX3_stepUp_4 : decode cX3_stepUp 4 = .ok (.aload_n 1, 1) := by decide +kernel
theorem dX3_stepUp_5 : decode cX3_stepUp 5 = .ok (.invokevirtual 130, 3) := by decide +kernel
theorem dX3_stepUp_8 : decode cX3_stepUp 8 = .ok (.aload_n 0, 1) := by decide +kernel
theorem dX3_stepUp_9 : decode cX3_stepUp 9 = .ok (.getfield 47, 3) := by decide +kernel
theorem dX3_stepUp_12 : decode cX3_stepUp 12 = .ok (.ldc2_w 304, 3) := by decide +kernel
theorem dX3_stepUp_15 : decode cX3_stepUp 15 = .ok (.invokevirtual 306, 3) := by decide +kernel
theorem dX3_stepUp_18 : decode cX3_stepUp 18 = .ok (.aload_n 0, 1) := by decide +kernel
theorem dX3_stepUp_19 : decode cX3_stepUp 19 = .ok (.getfield 47, 3) := by decide +kernel
theorem dX3_stepUp_22 : decode cX3_stepUp 22 = .ok (.aload_n 0, 1) := by decide +kernel
theorem dX3_stepUp_23 : decode cX3_stepUp 23 = .ok (.getfield 37, 3) := by decide +kernel
theorem dX3_stepUp_26 : decode cX3_stepUp 26 = .ok (.invokevirtual 150, 3) := by decide +kernel
theorem dX3_stepUp_29 : decode cX3_stepUp 29 = .ok (.ireturn, 1) := by decide +kernel
theorem dX3_stepDown_0 : decode cX3_stepDown 0 = .ok (.aload_n 0, 1) := by decide +kernel
theorem dX3_stepDown_1 : decode cX3_stepDown 1 = .ok (.getfield 47, 3) := by decide +kernel
theorem dX3_stepDown_4 : decode cX3_stepDown 4 = .ok (.aload_n 1, 1) := by decide +kernel
theorem dX3_stepDown_5 : decode cX3_stepDown 5 = .ok (.invokevirtual 130, 3) := by decide +kernel
theorem dX3_stepDown_8 : decode cX3_stepDown 8 = .ok (.aload_n 0, 1) := by decide +kernel
theorem dX3_stepDown_9 : decode cX3_stepDown 9 = .ok (.getfield 47, 3) := by decide +kernel
theorem dX3_stepDown_12 : decode cX3_stepDown 12 = .ok (.getfield 141, 3) := by decide +kernel
theorem dX3_stepDown_15 : decode cX3_stepDown 15 = .ok (.iconst 1, 1) := by decide +kernel
theorem dX3_stepDown_16 : decode cX3_stepDown 16 = .ok (.iand, 1) := by decide +kernel
theorem dX3_stepDown_17 : decode cX3_stepDown 17 = .ok (.iconst 1, 1) := by decide +kernel
theorem dX3_stepDown_18 : decode cX3_stepDown 18 = .ok (.if_icmp .ne 7, 3) := by decide +kernel
theorem dX3_stepDown_21 : decode cX3_stepDown 21 = .ok (.iconst 1, 1) := by decide +kernel
theorem dX3_stepDown_22 : decode cX3_stepDown 22 = .ok (.goto 4, 3) := by decide +kernel
theorem dX3_stepDown_25 : decode cX3_stepDown 25 = .ok (.iconst 0, 1) := by decide +kernel
theorem dX3_stepDown_26 : decode cX3_stepDown 26 = .ok (.istore_n 3, 1) := by decide +kernel
theorem dX3_stepDown_27 : decode cX3_stepDown 27 = .ok (.iload_n 2, 1) := by decide +kernel
theorem dX3_stepDown_28 : decode cX3_stepDown 28 = .ok (.iload_n 3, 1) := by decide +kernel
theorem dX3_stepDown_29 : decode cX3_stepDown 29 = .ok (.if_icmp .ne 14, 3) := by decide +kernel
theorem dX3_stepDown_32 : decode cX3_stepDown 32 = .ok (.aload_n 0, 1) := by decide +kernel
theorem dX3_stepDown_33 : decode cX3_stepDown 33 = .ok (.getfield 47, 3) := by decide +kernel
theorem dX3_stepDown_36 : decode cX3_stepDown 36 = .ok (.lconst 1, 1) := by decide +kernel
theorem dX3_stepDown_37 : decode cX3_stepDown 37 = .ok (.invokevirtual 306, 3) := by decide +kernel
theorem dX3_stepDown_40 : decode cX3_stepDown 40 = .ok (.goto 23, 3) := by decide +kernel
theorem dX3_stepDown_43 : decode cX3_stepDown 43 = .ok (.aload_n 0, 1) := by decide +kernel
theorem dX3_stepDown_44 : decode cX3_stepDown 44 = .ok (.getfield 47, 3) := by decide +kernel
theorem dX3_stepDown_47 : decode cX3_stepDown 47 = .ok (.ldc2_w 304, 3) := by decide +kernel
theorem dX3_stepDown_50 : decode cX3_stepDown 50 = .ok (.invokevirtual 306, 3) := by decide +kernel
theorem dX3_stepDown_53 : decode cX3_stepDown 53 = .ok (.aload_n 0, 1) := by decide +kernel
theorem dX3_stepDown_54 : decode cX3_stepDown 54 = .ok (.getfield 47, 3) := by decide +kernel
theorem dX3_stepDown_57 : decode cX3_stepDown 57 = .ok (.ldc2_w 309, 3) := by decide +kernel
theorem dX3_stepDown_60 : decode cX3_stepDown 60 = .ok (.invokevirtual 160, 3) := by decide +kernel
theorem dX3_stepDown_63 : decode cX3_stepDown 63 = .ok (.aload_n 0, 1) := by decide +kernel
theorem dX3_stepDown_64 : decode cX3_stepDown 64 = .ok (.getfield 47, 3) := by decide +kernel
theorem dX3_stepDown_67 : decode cX3_stepDown 67 = .ok (.aload_n 0, 1) := by decide +kernel
theorem dX3_stepDown_68 : decode cX3_stepDown 68 = .ok (.getfield 37, 3) := by decide +kernel
theorem dX3_stepDown_71 : decode cX3_stepDown 71 = .ok (.invokevirtual 150, 3) := by decide +kernel
theorem dX3_stepDown_74 : decode cX3_stepDown 74 = .ok (.ireturn, 1) := by decide +kernel
theorem dX3_depthOf_0 : decode cX3_depthOf 0 = .ok (.aload_n 1, 1) := by decide +kernel
theorem dX3_depthOf_1 : decode cX3_depthOf 1 = .ok (.invokevirtual 91, 3) := by decide +kernel
theorem dX3_depthOf_4 : decode cX3_depthOf 4 = .ok (.ifCond .gt 7, 3) := by decide +kernel
theorem dX3_depthOf_7 : decode cX3_depthOf 7 = .ok (.ldc2_w 311, 3) := by decide +kernel
theorem dX3_depthOf_10 : decode cX3_depthOf 10 = .ok (.lreturn, 1) := by decide +kernel
theorem dX3_depthOf_11 : decode cX3_depthOf 11 = .ok (.aload_n 0, 1) := by decide +kernel
theorem dX3_depthOf_12 : decode cX3_depthOf 12 = .ok (.getfield 47, 3) := by decide +kernel
theorem dX3_depthOf_15 : decode cX3_depthOf 15 = .ok (.aload_n 1, 1) := by decide +kernel
theorem dX3_depthOf_16 : decode cX3_depthOf 16 = .ok (.invokevirtual 130, 3) := by decide +kernel
theorem dX3_depthOf_19 : decode cX3_depthOf 19 = .ok (.aload_n 0, 1) := by decide +kernel
theorem dX3_depthOf_20 : decode cX3_depthOf 20 = .ok (.getfield 47, 3) := by decide +kernel
theorem dX3_depthOf_23 : decode cX3_depthOf 23 = .ok (.invokevirtual 313, 3) := by decide +kernel
theorem dX3_depthOf_26 : decode cX3_depthOf 26 = .ok (.lconst 1, 1) := by decide +kernel
theorem dX3_depthOf_27 : decode cX3_depthOf 27 = .ok (.lsub, 1) := by decide +kernel
theorem dX3_depthOf_28 : decode cX3_depthOf 28 = .ok (.lreturn, 1) := by decide +kernel
theorem dX3_writeWay_0 : decode cX3_writeWay 0 = .ok (.aload_n 2, 1) := by decide +kernel
theorem dX3_writeWay_1 : decode cX3_writeWay 1 = .ok (.invokevirtual 91, 3) := by decide +kernel
theorem dX3_writeWay_4 : decode cX3_writeWay 4 = .ok (.ifCond .gt 12, 3) := by decide +kernel
theorem dX3_writeWay_7 : decode cX3_writeWay 7 = .ok (.aload_n 1, 1) := by decide +kernel
theorem dX3_writeWay_8 : decode cX3_writeWay 8 = .ok (.ldc_w 316, 3) := by decide +kernel
theorem dX3_writeWay_11 : decode cX3_writeWay 11 = .ok (.invokevirtual 318, 3) := by decide +kernel
theorem dX3_writeWay_14 : decode cX3_writeWay 14 = .ok (.pop, 1) := by decide +kernel
theorem dX3_writeWay_15 : decode cX3_writeWay 15 = .ok (.return_, 1) := by decide +kernel
theorem dX3_writeWay_16 : decode cX3_writeWay 16 = .ok (.aload_n 0, 1) := by decide +kernel
theorem dX3_writeWay_17 : decode cX3_writeWay 17 = .ok (.getfield 47, 3) := by decide +kernel
theorem dX3_writeWay_20 : decode cX3_writeWay 20 = .ok (.aload_n 2, 1) := by decide +kernel
theorem dX3_writeWay_21 : decode cX3_writeWay 21 = .ok (.invokevirtual 130, 3) := by decide +kernel
theorem dX3_writeWay_24 : decode cX3_writeWay 24 = .ok (.aload_n 0, 1) := by decide +kernel
theorem dX3_writeWay_25 : decode cX3_writeWay 25 = .ok (.getfield 47, 3) := by decide +kernel
theorem dX3_writeWay_28 : decode cX3_writeWay 28 = .ok (.ldc2_w 304, 3) := by decide +kernel
theorem dX3_writeWay_31 : decode cX3_writeWay 31 = .ok (.invokevirtual 306, 3) := by decide +kernel
theorem dX3_writeWay_34 : decode cX3_writeWay 34 = .ok (.iconst 0, 1) := by decide +kernel
theorem dX3_writeWay_35 : decode cX3_writeWay 35 = .ok (.istore_n 3, 1) := by decide +kernel
theorem dX3_writeWay_36 : decode cX3_writeWay 36 = .ok (.iload_n 3, 1) := by decide +kernel
theorem dX3_writeWay_37 : decode cX3_writeWay 37 = .ok (.aload_n 0, 1) := by decide +kernel
theorem dX3_writeWay_38 : decode cX3_writeWay 38 = .ok (.getfield 47, 3) := by decide +kernel
theorem dX3_writeWay_41 : decode cX3_writeWay 41 = .ok (.getfield 141, 3) := by decide +kernel
theorem dX3_writeWay_44 : decode cX3_writeWay 44 = .ok (.if_icmp .ge 70, 3) := by decide +kernel
theorem dX3_writeWay_47 : decode cX3_writeWay 47 = .ok (.aload_n 0, 1) := by decide +kernel
theorem dX3_writeWay_48 : decode cX3_writeWay 48 = .ok (.getfield 47, 3) := by decide +kernel
theorem dX3_writeWay_51 : decode cX3_writeWay 51 = .ok (.iload_n 3, 1) := by decide +kernel
theorem dX3_writeWay_52 : decode cX3_writeWay 52 = .ok (.invokevirtual 144, 3) := by decide +kernel
theorem dX3_writeWay_55 : decode cX3_writeWay 55 = .ok (.lstore 4, 2) := by decide +kernel
theorem dX3_writeWay_57 : decode cX3_writeWay 57 = .ok (.lload 4, 2) := by decide +kernel
theorem dX3_writeWay_59 : decode cX3_writeWay 59 = .ok (.lconst 0, 1) := by decide +kernel
theorem dX3_writeWay_60 : decode cX3_writeWay 60 = .ok (.lcmp, 1) := by decide +kernel
theorem dX3_writeWay_61 : decode cX3_writeWay 61 = .ok (.ifCond .le 47, 3) := by decide +kernel
theorem dX3_writeWay_64 : decode cX3_writeWay 64 = .ok (.aload_n 1, 1) := by decide +kernel
theorem dX3_writeWay_65 : decode cX3_writeWay 65 = .ok (.invokevirtual 322, 3) := by decide +kernel
theorem dX3_writeWay_68 : decode cX3_writeWay 68 = .ok (.ifCond .le 10, 3) := by decide +kernel
theorem dX3_writeWay_71 : decode cX3_writeWay 71 = .ok (.aload_n 1, 1) := by decide +kernel
theorem dX3_writeWay_72 : decode cX3_writeWay 72 = .ok (.bipush 32, 2) := by decide +kernel
theorem dX3_writeWay_74 : decode cX3_writeWay 74 = .ok (.invokevirtual 325, 3) := by decide +kernel
theorem dX3_writeWay_77 : decode cX3_writeWay 77 = .ok (.pop, 1) := by decide +kernel
theorem dX3_writeWay_78 : decode cX3_writeWay 78 = .ok (.iload_n 3, 1) := by decide +kernel
theorem dX3_writeWay_79 : decode cX3_writeWay 79 = .ok (.iconst 1, 1) := by decide +kernel
theorem dX3_writeWay_80 : decode cX3_writeWay 80 = .ok (.iand, 1) := by decide +kernel
theorem dX3_writeWay_81 : decode cX3_writeWay 81 = .ok (.ifCond .ne 8, 3) := by decide +kernel
theorem dX3_writeWay_84 : decode cX3_writeWay 84 = .ok (.bipush 82, 2) := by decide +kernel
theorem dX3_writeWay_86 : decode cX3_writeWay 86 = .ok (.goto 5, 3) := by decide +kernel
theorem dX3_writeWay_89 : decode cX3_writeWay 89 = .ok (.bipush 76, 2) := by decide +kernel
theorem dX3_writeWay_91 : decode cX3_writeWay 91 = .ok (.istore 6, 2) := by decide +kernel
theorem dX3_writeWay_93 : decode cX3_writeWay 93 = .ok (.aload_n 1, 1) := by decide +kernel
theorem dX3_writeWay_94 : decode cX3_writeWay 94 = .ok (.iload 6, 2) := by decide +kernel
theorem dX3_writeWay_96 : decode cX3_writeWay 96 = .ok (.invokevirtual 325, 3) := by decide +kernel
theorem dX3_writeWay_99 : decode cX3_writeWay 99 = .ok (.pop, 1) := by decide +kernel
theorem dX3_writeWay_100 : decode cX3_writeWay 100 = .ok (.aload_n 1, 1) := by decide +kernel
theorem dX3_writeWay_101 : decode cX3_writeWay 101 = .ok (.lload 4, 2) := by decide +kernel
theorem dX3_writeWay_103 : decode cX3_writeWay 103 = .ok (.l2i, 1) := by decide +kernel
theorem dX3_writeWay_104 : decode cX3_writeWay 104 = .ok (.invokevirtual 328, 3) := by decide +kernel
theorem dX3_writeWay_107 : decode cX3_writeWay 107 = .ok (.pop, 1) := by decide +kernel
theorem dX3_writeWay_108 : decode cX3_writeWay 108 = .ok (.iinc 3 1, 3) := by decide +kernel
theorem dX3_writeWay_111 : decode cX3_writeWay 111 = .ok (.goto (-75), 3) := by decide +kernel
theorem dX3_writeWay_114 : decode cX3_writeWay 114 = .ok (.return_, 1) := by decide +kernel
theorem dX3_textOf_0 : decode cX3_textOf 0 = .ok (.new 190, 3) := by decide +kernel
theorem dX3_textOf_3 : decode cX3_textOf 3 = .ok (.dup, 1) := by decide +kernel
theorem dX3_textOf_4 : decode cX3_textOf 4 = .ok (.invokespecial 192, 3) := by decide +kernel
theorem dX3_textOf_7 : decode cX3_textOf 7 = .ok (.astore_n 1, 1) := by decide +kernel
theorem dX3_textOf_8 : decode cX3_textOf 8 = .ok (.aload_n 1, 1) := by decide +kernel
theorem dX3_textOf_9 : decode cX3_textOf 9 = .ok (.aload_n 0, 1) := by decide +kernel
theorem dX3_textOf_10 : decode cX3_textOf 10 = .ok (.invokestatic 331, 3) := by decide +kernel
theorem dX3_textOf_13 : decode cX3_textOf 13 = .ok (.aload_n 1, 1) := by decide +kernel
theorem dX3_textOf_14 : decode cX3_textOf 14 = .ok (.invokevirtual 197, 3) := by decide +kernel
theorem dX3_textOf_17 : decode cX3_textOf 17 = .ok (.areturn, 1) := by decide +kernel
theorem dX3_rowText_0 : decode cX3_rowText 0 = .ok (.new 190, 3) := by decide +kernel
theorem dX3_rowText_3 : decode cX3_rowText 3 = .ok (.dup, 1) := by decide +kernel
theorem dX3_rowText_4 : decode cX3_rowText 4 = .ok (.invokespecial 192, 3) := by decide +kernel
theorem dX3_rowText_7 : decode cX3_rowText 7 = .ok (.astore_n 1, 1) := by decide +kernel
theorem dX3_rowText_8 : decode cX3_rowText 8 = .ok (.iconst 0, 1) := by decide +kernel
theorem dX3_rowText_9 : decode cX3_rowText 9 = .ok (.istore_n 2, 1) := by decide +kernel
theorem dX3_rowText_10 : decode cX3_rowText 10 = .ok (.iload_n 2, 1) := by decide +kernel
theorem dX3_rowText_11 : decode cX3_rowText 11 = .ok (.aload_n 0, 1) := by decide +kernel
theorem dX3_rowText_12 : decode cX3_rowText 12 = .ok (.getfield 141, 3) := by decide +kernel
theorem dX3_rowText_15 : decode cX3_rowText 15 = .ok (.if_icmp .ge 31, 3) := by decide +kernel
theorem dX3_rowText_18 : decode cX3_rowText 18 = .ok (.iload_n 2, 1) := by decide +kernel
theorem dX3_rowText_19 : decode cX3_rowText 19 = .ok (.ifCond .le 10, 3) := by decide +kernel
theorem dX3_rowText_22 : decode cX3_rowText 22 = .ok (.aload_n 1, 1) := by decide +kernel
theorem dX3_rowText_23 : decode cX3_rowText 23 = .ok (.bipush 32, 2) := by decide +kernel
theorem dX3_rowText_25 : decode cX3_rowText 25 = .ok (.invokevirtual 325, 3) := by decide +kernel
theorem dX3_rowText_28 : decode cX3_rowText 28 = .ok (.pop, 1) := by decide +kernel
theorem dX3_rowText_29 : decode cX3_rowText 29 = .ok (.aload_n 1, 1) := by decide +kernel
theorem dX3_rowText_30 : decode cX3_rowText 30 = .ok (.aload_n 0, 1) := by decide +kernel
theorem dX3_rowText_31 : decode cX3_rowText 31 = .ok (.iload_n 2, 1) := by decide +kernel
theorem dX3_rowText_32 : decode cX3_rowText 32 = .ok (.invokevirtual 144, 3) := by decide +kernel
theorem dX3_rowText_35 : decode cX3_rowText 35 = .ok (.l2i, 1) := by decide +kernel
theorem dX3_rowText_36 : decode cX3_rowText 36 = .ok (.invokevirtual 328, 3) := by decide +kernel
theorem dX3_rowText_39 : decode cX3_rowText 39 = .ok (.pop, 1) := by decide +kernel
theorem dX3_rowText_40 : decode cX3_rowText 40 = .ok (.iinc 2 1, 3) := by decide +kernel
theorem dX3_rowText_43 : decode cX3_rowText 43 = .ok (.goto (-33), 3) := by decide +kernel
theorem dX3_rowText_46 : decode cX3_rowText 46 = .ok (.aload_n 1, 1) := by decide +kernel
theorem dX3_rowText_47 : decode cX3_rowText 47 = .ok (.invokevirtual 197, 3) := by decide +kernel
theorem dX3_rowText_50 : decode cX3_rowText 50 = .ok (.areturn, 1) := by decide +kernel
theorem dX3_writeFraction_0 : decode cX3_writeFraction 0 = .ok (.aload_n 0, 1) := by decide +kernel
theorem dX3_writeFraction_1 : decode cX3_writeFraction 1 = .ok (.aload_n 1, 1) := by decide +kernel
theorem dX3_writeFraction_2 : decode cX3_writeFraction 2 = .ok (.getfield 101, 3) := by decide +kernel
theorem dX3_writeFraction_5 : decode cX3_writeFraction 5 = .ok (.l2i, 1) := by decide +kernel
theorem dX3_writeFraction_6 : decode cX3_writeFraction 6 = .ok (.invokevirtual 328, 3) := by decide +kernel
theorem dX3_writeFraction_9 : decode cX3_writeFraction 9 = .ok (.pop, 1) := by decide +kernel
theorem dX3_writeFraction_10 : decode cX3_writeFraction 10 = .ok (.aload_n 1, 1) := by decide +kernel
theorem dX3_writeFraction_11 : decode cX3_writeFraction 11 = .ok (.getfield 105, 3) := by decide +kernel
theorem dX3_writeFraction_14 : decode cX3_writeFraction 14 = .ok (.lconst 1, 1) := by decide +kernel
theorem dX3_writeFraction_15 : decode cX3_writeFraction 15 = .ok (.lcmp, 1) := by decide +kernel
theorem dX3_writeFraction_16 : decode cX3_writeFraction 16 = .ok (.ifCond .eq 20, 3) := by decide +kernel
theorem dX3_writeFraction_19 : decode cX3_writeFraction 19 = .ok (.aload_n 0, 1) := by decide +kernel
theorem dX3_writeFraction_20 : decode cX3_writeFraction 20 = .ok (.bipush 47, 2) := by decide +kernel
theorem dX3_writeFraction_22 : decode cX3_writeFraction 22 = .ok (.invokevirtual 325, 3) := by decide +kernel
theorem dX3_writeFraction_25 : decode cX3_writeFraction 25 = .ok (.pop, 1) := by decide +kernel
theorem dX3_writeFraction_26 : decode cX3_writeFraction 26 = .ok (.aload_n 0, 1) := by decide +kernel
theorem dX3_writeFraction_27 : decode cX3_writeFraction 27 = .ok (.aload_n 1, 1) := by decide +kernel
theorem dX3_writeFraction_28 : decode cX3_writeFraction 28 = .ok (.getfield 105, 3) := by decide +kernel
theorem dX3_writeFraction_31 : decode cX3_writeFraction 31 = .ok (.l2i, 1) := by decide +kernel
theorem dX3_writeFraction_32 : decode cX3_writeFraction 32 = .ok (.invokevirtual 328, 3) := by decide +kernel
theorem dX3_writeFraction_35 : decode cX3_writeFraction 35 = .ok (.pop, 1) := by decide +kernel
theorem dX3_writeFraction_36 : decode cX3_writeFraction 36 = .ok (.return_, 1) := by decide +kernel
theorem dX3_writeRounded_0 : decode cX3_writeRounded 0 = .ok (.aload_n 1, 1) := by decide +kernel
theorem dX3_writeRounded_1 : decode cX3_writeRounded 1 = .ok (.aload_n 0, 1) := by decide +kernel
theorem dX3_writeRounded_2 : decode cX3_writeRounded 2 = .ok (.getfield 26, 3) := by decide +kernel
theorem dX3_writeRounded_5 : decode cX3_writeRounded 5 = .ok (.getfield 334, 3) := by decide +kernel
theorem dX3_writeRounded_8 : decode cX3_writeRounded 8 = .ok (.aload_n 0, 1) := by decide +kernel
theorem dX3_writeRounded_9 : decode cX3_writeRounded 9 = .ok (.getfield 26, 3) := by decide +kernel
theorem dX3_writeRounded_12 : decode cX3_writeRounded 12 = .ok (.getfield 337, 3) := by decide +kernel
theorem dX3_writeRounded_15 : decode cX3_writeRounded 15 = .ok (.iconst 0, 1) := by decide +kernel
theorem dX3_writeRounded_16 : decode cX3_writeRounded 16 = .ok (.invokevirtual 210, 3) := by decide +kernel
theorem dX3_writeRounded_19 : decode cX3_writeRounded 19 = .ok (.aload_n 0, 1) := by decide +kernel
theorem dX3_writeRounded_20 : decode cX3_writeRounded 20 = .ok (.getfield 26, 3) := by decide +kernel
theorem dX3_writeRounded_23 : decode cX3_writeRounded 23 = .ok (.getfield 337, 3) := by decide +kernel
theorem dX3_writeRounded_26 : decode cX3_writeRounded 26 = .ok (.invokestatic 214, 3) := by decide +kernel
theorem dX3_writeRounded_29 : decode cX3_writeRounded 29 = .ok (.return_, 1) := by decide +kernel
theorem dX3_writeDecimal_0 : decode cX3_writeDecimal 0 = .ok (.lload_n 1, 1) := by decide +kernel
theorem dX3_writeDecimal_1 : decode cX3_writeDecimal 1 = .ok (.lconst 0, 1) := by decide +kernel
theorem dX3_writeDecimal_2 : decode cX3_writeDecimal 2 = .ok (.lcmp, 1) := by decide +kernel
theorem dX3_writeDecimal_3 : decode cX3_writeDecimal 3 = .ok (.ifCond .ge 8, 3) := by decide +kernel
theorem dX3_writeDecimal_6 : decode cX3_writeDecimal 6 = .ok (.lload_n 1, 1) := by decide +kernel
theorem dX3_writeDecimal_7 : decode cX3_writeDecimal 7 = .ok (.lneg, 1) := by decide +kernel
theorem dX3_writeDecimal_8 : decode cX3_writeDecimal 8 = .ok (.goto 4, 3) := by decide +kernel
theorem dX3_writeDecimal_11 : decode cX3_writeDecimal 11 = .ok (.lload_n 1, 1) := by decide +kernel
theorem dX3_writeDecimal_12 : decode cX3_writeDecimal 12 = .ok (.lstore 4, 2) := by decide +kernel
theorem dX3_writeDecimal_14 : decode cX3_writeDecimal 14 = .ok (.lload_n 1, 1) := by decide +kernel
theorem dX3_writeDecimal_15 : decode cX3_writeDecimal 15 = .ok (.lconst 0, 1) := by decide +kernel
theorem dX3_writeDecimal_16 : decode cX3_writeDecimal 16 = .ok (.lcmp, 1) := by decide +kernel
theorem dX3_writeDecimal_17 : decode cX3_writeDecimal 17 = .ok (.ifCond .ge 10, 3) := by decide +kernel
theorem dX3_writeDecimal_20 : decode cX3_writeDecimal 20 = .ok (.aload_n 0, 1) := by decide +kernel
theorem dX3_writeDecimal_21 : decode cX3_writeDecimal 21 = .ok (.bipush 45, 2) := by decide +kernel
theorem dX3_writeDecimal_23 : decode cX3_writeDecimal 23 = .ok (.invokevirtual 325, 3) := by decide +kernel
theorem dX3_writeDecimal_26 : decode cX3_writeDecimal 26 = .ok (.pop, 1) := by decide +kernel
theorem dX3_writeDecimal_27 : decode cX3_writeDecimal 27 = .ok (.aload_n 0, 1) := by decide +kernel
theorem dX3_writeDecimal_28 : decode cX3_writeDecimal 28 = .ok (.lload 4, 2) := by decide +kernel
theorem dX3_writeDecimal_30 : decode cX3_writeDecimal 30 = .ok (.iload_n 3, 1) := by decide +kernel
theorem dX3_writeDecimal_31 : decode cX3_writeDecimal 31 = .ok (.invokestatic 73, 3) := by decide +kernel
theorem dX3_writeDecimal_34 : decode cX3_writeDecimal 34 = .ok (.invokestatic 340, 3) := by decide +kernel
theorem dX3_writeDecimal_37 : decode cX3_writeDecimal 37 = .ok (.l2i, 1) := by decide +kernel
theorem dX3_writeDecimal_38 : decode cX3_writeDecimal 38 = .ok (.invokevirtual 328, 3) := by decide +kernel
theorem dX3_writeDecimal_41 : decode cX3_writeDecimal 41 = .ok (.pop, 1) := by decide +kernel
theorem dX3_writeDecimal_42 : decode cX3_writeDecimal 42 = .ok (.iload_n 3, 1) := by decide +kernel
theorem dX3_writeDecimal_43 : decode cX3_writeDecimal 43 = .ok (.ifCond .le 10, 3) := by decide +kernel
theorem dX3_writeDecimal_46 : decode cX3_writeDecimal 46 = .ok (.aload_n 0, 1) := by decide +kernel
theorem dX3_writeDecimal_47 : decode cX3_writeDecimal 47 = .ok (.bipush 46, 2) := by decide +kernel
theorem dX3_writeDecimal_49 : decode cX3_writeDecimal 49 = .ok (.invokevirtual 325, 3) := by decide +kernel
theorem dX3_writeDecimal_52 : decode cX3_writeDecimal 52 = .ok (.pop, 1) := by decide +kernel
theorem dX3_writeDecimal_53 : decode cX3_writeDecimal 53 = .ok (.iload_n 3, 1) := by decide +kernel
theorem dX3_writeDecimal_54 : decode cX3_writeDecimal 54 = .ok (.iconst 1, 1) := by decide +kernel
theorem dX3_writeDecimal_55 : decode cX3_writeDecimal 55 = .ok (.isub, 1) := by decide +kernel
theorem dX3_writeDecimal_56 : decode cX3_writeDecimal 56 = .ok (.istore 6, 2) := by decide +kernel
theorem dX3_writeDecimal_58 : decode cX3_writeDecimal 58 = .ok (.iload 6, 2) := by decide +kernel
theorem dX3_writeDecimal_60 : decode cX3_writeDecimal 60 = .ok (.ifCond .lt 38, 3) := by decide +kernel
theorem dX3_writeDecimal_63 : decode cX3_writeDecimal 63 = .ok (.lload 4, 2) := by decide +kernel
theorem dX3_writeDecimal_65 : decode cX3_writeDecimal 65 = .ok (.iload 6, 2) := by decide +kernel
theorem dX3_writeDecimal_67 : decode cX3_writeDecimal 67 = .ok (.invokestatic 73, 3) := by decide +kernel
theorem dX3_writeDecimal_70 : decode cX3_writeDecimal 70 = .ok (.invokestatic 340, 3) := by decide +kernel
theorem dX3_writeDecimal_73 : decode cX3_writeDecimal 73 = .ok (.ldc2_w 343, 3) := by decide +kernel
theorem dX3_writeDecimal_76 : decode cX3_writeDecimal 76 = .ok (.lrem, 1) := by decide +kernel
theorem dX3_writeDecimal_77 : decode cX3_writeDecimal 77 = .ok (.lstore 7, 2) := by decide +kernel
theorem dX3_writeDecimal_79 : decode cX3_writeDecimal 79 = .ok (.aload_n 0, 1) := by decide +kernel
theorem dX3_writeDecimal_80 : decode cX3_writeDecimal 80 = .ok (.ldc2_w 345, 3) := by decide +kernel
theorem dX3_writeDecimal_83 : decode cX3_writeDecimal 83 = .ok (.lload 7, 2) := by decide +kernel
theorem dX3_writeDecimal_85 : decode cX3_writeDecimal 85 = .ok (.ladd, 1) := by decide +kernel
theorem dX3_writeDecimal_86 : decode cX3_writeDecimal 86 = .ok (.l2i, 1) := by decide +kernel
theorem dX3_writeDecimal_87 : decode cX3_writeDecimal 87 = .ok (.i2c, 1) := by decide +kernel
theorem dX3_writeDecimal_88 : decode cX3_writeDecimal 88 = .ok (.invokevirtual 325, 3) := by decide +kernel
theorem dX3_writeDecimal_91 : decode cX3_writeDecimal 91 = .ok (.pop, 1) := by decide +kernel
theorem dX3_writeDecimal_92 : decode cX3_writeDecimal 92 = .ok (.iinc 6 (-1), 3) := by decide +kernel
theorem dX3_writeDecimal_95 : decode cX3_writeDecimal 95 = .ok (.goto (-37), 3) := by decide +kernel
theorem dX3_writeDecimal_98 : decode cX3_writeDecimal 98 = .ok (.return_, 1) := by decide +kernel
theorem dX3_isFoldSound_0 : decode cX3_isFoldSound 0 = .ok (.aload_n 0, 1) := by decide +kernel
theorem dX3_isFoldSound_1 : decode cX3_isFoldSound 1 = .ok (.getfield 47, 3) := by decide +kernel
theorem dX3_isFoldSound_4 : decode cX3_isFoldSound 4 = .ok (.aload_n 1, 1) := by decide +kernel
theorem dX3_isFoldSound_5 : decode cX3_isFoldSound 5 = .ok (.invokevirtual 130, 3) := by decide +kernel
theorem dX3_isFoldSound_8 : decode cX3_isFoldSound 8 = .ok (.aload_n 1, 1) := by decide +kernel
theorem dX3_isFoldSound_9 : decode cX3_isFoldSound 9 = .ok (.getfield 101, 3) := by decide +kernel
theorem dX3_isFoldSound_12 : decode cX3_isFoldSound 12 = .ok (.aload_n 1, 1) := by decide +kernel
theorem dX3_isFoldSound_13 : decode cX3_isFoldSound 13 = .ok (.getfield 105, 3) := by decide +kernel
theorem dX3_isFoldSound_16 : decode cX3_isFoldSound 16 = .ok (.invokestatic 347, 3) := by decide +kernel
theorem dX3_isFoldSound_19 : decode cX3_isFoldSound 19 = .ok (.lconst 1, 1) := by decide +kernel
theorem dX3_isFoldSound_20 : decode cX3_isFoldSound 20 = .ok (.lcmp, 1) := by decide +kernel
theorem dX3_isFoldSound_21 : decode cX3_isFoldSound 21 = .ok (.ifCond .ne 32, 3) := by decide +kernel
theorem dX3_isFoldSound_24 : decode cX3_isFoldSound 24 = .ok (.aload_n 0, 1) := by decide +kernel
theorem dX3_isFoldSound_25 : decode cX3_isFoldSound 25 = .ok (.getfield 47, 3) := by decide +kernel
theorem dX3_isFoldSound_28 : decode cX3_isFoldSound 28 = .ok (.aload_n 0, 1) := by decide +kernel
theorem dX3_isFoldSound_29 : decode cX3_isFoldSound 29 = .ok (.getfield 37, 3) := by decide +kernel
theorem dX3_isFoldSound_32 : decode cX3_isFoldSound 32 = .ok (.invokevirtual 150, 3) := by decide +kernel
theorem dX3_isFoldSound_35 : decode cX3_isFoldSound 35 = .ok (.ifCond .eq 18, 3) := by decide +kernel
theorem dX3_isFoldSound_38 : decode cX3_isFoldSound 38 = .ok (.aload_n 0, 1) := by decide +kernel
theorem dX3_isFoldSound_39 : decode cX3_isFoldSound 39 = .ok (.getfield 37, 3) := by decide +kernel
theorem dX3_isFoldSound_42 : decode cX3_isFoldSound 42 = .ok (.aload_n 1, 1) := by decide +kernel
theorem dX3_isFoldSound_43 : decode cX3_isFoldSound 43 = .ok (.invokevirtual 294, 3) := by decide +kernel
theorem dX3_isFoldSound_46 : decode cX3_isFoldSound 46 = .ok (.ifCond .eq 7, 3) := by decide +kernel
theorem dX3_isFoldSound_49 : decode cX3_isFoldSound 49 = .ok (.iconst 1, 1) := by decide +kernel
theorem dX3_isFoldSound_50 : decode cX3_isFoldSound 50 = .ok (.goto 4, 3) := by decide +kernel
theorem dX3_isFoldSound_53 : decode cX3_isFoldSound 53 = .ok (.iconst 0, 1) := by decide +kernel
theorem dX3_isFoldSound_54 : decode cX3_isFoldSound 54 = .ok (.ireturn, 1) := by decide +kernel
theorem dX3_areNeighboursSound_0 : decode cX3_areNeighboursSound 0 = .ok (.iconst 1, 1) := by decide +kernel
theorem dX3_areNeighboursSound_1 : decode cX3_areNeighboursSound 1 = .ok (.istore_n 2, 1) := by decide +kernel
theorem dX3_areNeighboursSound_2 : decode cX3_areNeighboursSound 2 = .ok (.iload_n 2, 1) := by decide +kernel
theorem dX3_areNeighboursSound_3 : decode cX3_areNeighboursSound 3 = .ok (.bipush 12, 2) := by decide +kernel
theorem dX3_areNeighboursSound_5 : decode cX3_areNeighboursSound 5 = .ok (.if_icmp .gt 144, 3) := by decide +kernel
theorem dX3_areNeighboursSound_8 : decode cX3_areNeighboursSound 8 = .ok (.aload_n 0, 1) := by decide +kernel
theorem dX3_areNeighboursSound_9 : decode cX3_areNeighboursSound 9 = .ok (.getfield 41, 3) := by decide +kernel
theorem dX3_areNeighboursSound_12 : decode cX3_areNeighboursSound 12 = .ok (.aload_n 1, 1) := by decide +kernel
theorem dX3_areNeighboursSound_13 : decode cX3_areNeighboursSound 13 = .ok (.iload_n 2, 1) := by decide +kernel
theorem dX3_areNeighboursSound_14 : decode cX3_areNeighboursSound 14 = .ok (.iconst 1, 1) := by decide +kernel
theorem dX3_areNeighboursSound_15 : decode cX3_areNeighboursSound 15 = .ok (.invokevirtual 168, 3) := by decide +kernel
theorem dX3_areNeighboursSound_18 : decode cX3_areNeighboursSound 18 = .ok (.aload_n 0, 1) := by decide +kernel
theorem dX3_areNeighboursSound_19 : decode cX3_areNeighboursSound 19 = .ok (.getfield 44, 3) := by decide +kernel
theorem dX3_areNeighboursSound_22 : decode cX3_areNeighboursSound 22 = .ok (.aload_n 1, 1) := by decide +kernel
theorem dX3_areNeighboursSound_23 : decode cX3_areNeighboursSound 23 = .ok (.iload_n 2, 1) := by decide +kernel
theorem dX3_areNeighboursSound_24 : decode cX3_areNeighboursSound 24 = .ok (.iconst (-1), 1) := by decide +kernel
theorem dX3_areNeighboursSound_25 : decode cX3_areNeighboursSound 25 = .ok (.invokevirtual 168, 3) := by decide +kernel
theorem dX3_areNeighboursSound_28 : decode cX3_areNeighboursSound 28 = .ok (.aload_n 0, 1) := by decide +kernel
theorem dX3_areNeighboursSound_29 : decode cX3_areNeighboursSound 29 = .ok (.getfield 41, 3) := by decide +kernel
theorem dX3_areNeighboursSound_32 : decode cX3_areNeighboursSound 32 = .ok (.aload_n 1, 1) := by decide +kernel
theorem dX3_areNeighboursSound_33 : decode cX3_areNeighboursSound 33 = .ok (.invokevirtual 123, 3) := by decide +kernel
theorem dX3_areNeighboursSound_36 : decode cX3_areNeighboursSound 36 = .ok (.ifCond .gt 18, 3) := by decide +kernel
theorem dX3_areNeighboursSound_39 : decode cX3_areNeighboursSound 39 = .ok (.aload_n 0, 1) := by decide +kernel
theorem dX3_areNeighboursSound_40 : decode cX3_areNeighboursSound 40 = .ok (.getfield 44, 3) := by decide +kernel
theorem dX3_areNeighboursSound_43 : decode cX3_areNeighboursSound 43 = .ok (.aload_n 1, 1) := by decide +kernel
theorem dX3_areNeighboursSound_44 : decode cX3_areNeighboursSound 44 = .ok (.invokevirtual 123, 3) := by decide +kernel
theorem dX3_areNeighboursSound_47 : decode cX3_areNeighboursSound 47 = .ok (.ifCond .lt 7, 3) := by decide +kernel
theorem dX3_areNeighboursSound_50 : decode cX3_areNeighboursSound 50 = .ok (.iconst 1, 1) := by decide +kernel
theorem dX3_areNeighboursSound_51 : decode cX3_areNeighboursSound 51 = .ok (.goto 4, 3) := by decide +kernel
theorem dX3_areNeighboursSound_54 : decode cX3_areNeighboursSound 54 = .ok (.iconst 0, 1) := by decide +kernel
theorem dX3_areNeighboursSound_55 : decode cX3_areNeighboursSound 55 = .ok (.istore_n 3, 1) := by decide +kernel
theorem dX3_areNeighboursSound_56 : decode cX3_areNeighboursSound 56 = .ok (.aload_n 0, 1) := by decide +kernel
theorem dX3_areNeighboursSound_57 : decode cX3_areNeighboursSound 57 = .ok (.getfield 41, 3) := by decide +kernel
theorem dX3_areNeighboursSound_60 : decode cX3_areNeighboursSound 60 = .ok (.aload_n 1, 1) := by decide +kernel
theorem dX3_areNeighboursSound_61 : decode cX3_areNeighboursSound 61 = .ok (.invokevirtual 294, 3) := by decide +kernel
theorem dX3_areNeighboursSound_64 : decode cX3_areNeighboursSound 64 = .ok (.ifCond .eq 18, 3) := by decide +kernel
theorem dX3_areNeighboursSound_67 : decode cX3_areNeighboursSound 67 = .ok (.aload_n 0, 1) := by decide +kernel
theorem dX3_areNeighboursSound_68 : decode cX3_areNeighboursSound 68 = .ok (.getfield 44, 3) := by decide +kernel
theorem dX3_areNeighboursSound_71 : decode cX3_areNeighboursSound 71 = .ok (.aload_n 1, 1) := by decide +kernel
theorem dX3_areNeighboursSound_72 : decode cX3_areNeighboursSound 72 = .ok (.invokevirtual 294, 3) := by decide +kernel
theorem dX3_areNeighboursSound_75 : decode cX3_areNeighboursSound 75 = .ok (.ifCond .eq 7, 3) := by decide +kernel
theorem dX3_areNeighboursSound_78 : decode cX3_areNeighboursSound 78 = .ok (.iconst 1, 1) := by decide +kernel
theorem dX3_areNeighboursSound_79 : decode cX3_areNeighboursSound 79 = .ok (.goto 4, 3) := by decide +kernel
theorem dX3_areNeighboursSound_82 : decode cX3_areNeighboursSound 82 = .ok (.iconst 0, 1) := by decide +kernel
theorem dX3_areNeighboursSound_83 : decode cX3_areNeighboursSound 83 = .ok (.istore 4, 2) := by decide +kernel
theorem dX3_areNeighboursSound_85 : decode cX3_areNeighboursSound 85 = .ok (.aload_n 0, 1) := by decide +kernel
theorem dX3_areNeighboursSound_86 : decode cX3_areNeighboursSound 86 = .ok (.getfield 41, 3) := by decide +kernel
theorem dX3_areNeighboursSound_89 : decode cX3_areNeighboursSound 89 = .ok (.aload_n 0, 1) := by decide +kernel
theorem dX3_areNeighboursSound_90 : decode cX3_areNeighboursSound 90 = .ok (.getfield 44, 3) := by decide +kernel
theorem dX3_areNeighboursSound_93 : decode cX3_areNeighboursSound 93 = .ok (.invokevirtual 126, 3) := by decide +kernel
theorem dX3_areNeighboursSound_96 : decode cX3_areNeighboursSound 96 = .ok (.ifCond .eq 28, 3) := by decide +kernel
theorem dX3_areNeighboursSound_99 : decode cX3_areNeighboursSound 99 = .ok (.aload_n 0, 1) := by decide +kernel
theorem dX3_areNeighboursSound_100 : decode cX3_areNeighboursSound 100 = .ok (.getfield 41, 3) := by decide +kernel
theorem dX3_areNeighboursSound_103 : decode cX3_areNeighboursSound 103 = .ok (.getfield 105, 3) := by decide +kernel
theorem dX3_areNeighboursSound_106 : decode cX3_areNeighboursSound 106 = .ok (.aload_n 0, 1) := by decide +kernel
theorem dX3_areNeighboursSound_107 : decode cX3_areNeighboursSound 107 = .ok (.getfield 44, 3) := by decide +kernel
theorem dX3_areNeighboursSound_110 : decode cX3_areNeighboursSound 110 = .ok (.getfield 105, 3) := by decide +kernel
theorem dX3_areNeighboursSound_113 : decode cX3_areNeighboursSound 113 = .ok (.ladd, 1) := by decide +kernel
theorem dX3_areNeighboursSound_114 : decode cX3_areNeighboursSound 114 = .ok (.iload_n 2, 1) := by decide +kernel
theorem dX3_areNeighboursSound_115 : decode cX3_areNeighboursSound 115 = .ok (.i2l, 1) := by decide +kernel
theorem dX3_areNeighboursSound_116 : decode cX3_areNeighboursSound 116 = .ok (.lcmp, 1) := by decide +kernel
theorem dX3_areNeighboursSound_117 : decode cX3_areNeighboursSound 117 = .ok (.ifCond .le 7, 3) := by decide +kernel
theorem dX3_areNeighboursSound_120 : decode cX3_areNeighboursSound 120 = .ok (.iconst 1, 1) := by decide +kernel
theorem dX3_areNeighboursSound_121 : decode cX3_areNeighboursSound 121 = .ok (.goto 4, 3) := by decide +kernel
theorem dX3_areNeighboursSound_124 : decode cX3_areNeighboursSound 124 = .ok (.iconst 0, 1) := by decide +kernel
theorem dX3_areNeighboursSound_125 : decode cX3_areNeighboursSound 125 = .ok (.istore 5, 2) := by decide +kernel
theorem dX3_areNeighboursSound_127 : decode cX3_areNeighboursSound 127 = .ok (.iload_n 3, 1) := by decide +kernel
theorem dX3_areNeighboursSound_128 : decode cX3_areNeighboursSound 128 = .ok (.ifCond .eq 13, 3) := by decide +kernel
theorem dX3_areNeighboursSound_131 : decode cX3_areNeighboursSound 131 = .ok (.iload 4, 2) := by decide +kernel
theorem dX3_areNeighboursSound_133 : decode cX3_areNeighboursSound 133 = .ok (.ifCond .ne 10, 3) := by decide +kernel
theorem dX3_areNeighboursSound_136 : decode cX3_areNeighboursSound 136 = .ok (.iload 5, 2) := by decide +kernel
theorem dX3_areNeighboursSound_138 : decode cX3_areNeighboursSound 138 = .ok (.ifCond .ne 5, 3) := by decide +kernel
theorem dX3_areNeighboursSound_141 : decode cX3_areNeighboursSound 141 = .ok (.iconst 0, 1) := by decide +kernel
theorem dX3_areNeighboursSound_142 : decode cX3_areNeighboursSound 142 = .ok (.ireturn, 1) := by decide +kernel
theorem dX3_areNeighboursSound_143 : decode cX3_areNeighboursSound 143 = .ok (.iinc 2 1, 3) := by decide +kernel
theorem dX3_areNeighboursSound_146 : decode cX3_areNeighboursSound 146 = .ok (.goto (-144), 3) := by decide +kernel
theorem dX3_areNeighboursSound_149 : decode cX3_areNeighboursSound 149 = .ok (.iconst 1, 1) := by decide +kernel
theorem dX3_areNeighboursSound_150 : decode cX3_areNeighboursSound 150 = .ok (.ireturn, 1) := by decide +kernel
theorem dX3_isCutSound_0 : decode cX3_isCutSound 0 = .ok (.aload_n 0, 1) := by decide +kernel
theorem dX3_isCutSound_1 : decode cX3_isCutSound 1 = .ok (.getfield 101, 3) := by decide +kernel
theorem dX3_isCutSound_4 : decode cX3_isCutSound 4 = .ok (.iload_n 1, 1) := by decide +kernel
theorem dX3_isCutSound_5 : decode cX3_isCutSound 5 = .ok (.invokestatic 73, 3) := by decide +kernel
theorem dX3_isCutSound_8 : decode cX3_isCutSound 8 = .ok (.lmul, 1) := by decide +kernel
theorem dX3_isCutSound_9 : decode cX3_isCutSound 9 = .ok (.lstore_n 2, 1) := by decide +kernel
theorem dX3_isCutSound_10 : decode cX3_isCutSound 10 = .ok (.lload_n 2, 1) := by decide +kernel
theorem dX3_isCutSound_11 : decode cX3_isCutSound 11 = .ok (.aload_n 0, 1) := by decide +kernel
theorem dX3_isCutSound_12 : decode cX3_isCutSound 12 = .ok (.iload_n 1, 1) := by decide +kernel
theorem dX3_isCutSound_13 : decode cX3_isCutSound 13 = .ok (.iconst 1, 1) := by decide +kernel
theorem dX3_isCutSound_14 : decode cX3_isCutSound 14 = .ok (.invokevirtual 210, 3) := by decide +kernel
theorem dX3_isCutSound_17 : decode cX3_isCutSound 17 = .ok (.aload_n 0, 1) := by decide +kernel
theorem dX3_isCutSound_18 : decode cX3_isCutSound 18 = .ok (.getfield 105, 3) := by decide +kernel
theorem dX3_isCutSound_21 : decode cX3_isCutSound 21 = .ok (.lmul, 1) := by decide +kernel
theorem dX3_isCutSound_22 : decode cX3_isCutSound 22 = .ok (.lsub, 1) := by decide +kernel
theorem dX3_isCutSound_23 : decode cX3_isCutSound 23 = .ok (.lstore 4, 2) := by decide +kernel
theorem dX3_isCutSound_25 : decode cX3_isCutSound 25 = .ok (.aload_n 0, 1) := by decide +kernel
theorem dX3_isCutSound_26 : decode cX3_isCutSound 26 = .ok (.iload_n 1, 1) := by decide +kernel
theorem dX3_isCutSound_27 : decode cX3_isCutSound 27 = .ok (.iconst 2, 1) := by decide +kernel
theorem dX3_isCutSound_28 : decode cX3_isCutSound 28 = .ok (.invokevirtual 210, 3) := by decide +kernel
theorem dX3_isCutSound_31 : decode cX3_isCutSound 31 = .ok (.aload_n 0, 1) := by decide +kernel
theorem dX3_isCutSound_32 : decode cX3_isCutSound 32 = .ok (.getfield 105, 3) := by decide +kernel
theorem dX3_isCutSound_35 : decode cX3_isCutSound 35 = .ok (.lmul, 1) := by decide +kernel
theorem dX3_isCutSound_36 : decode cX3_isCutSound 36 = .ok (.lload_n 2, 1) := by decide +kernel
theorem dX3_isCutSound_37 : decode cX3_isCutSound 37 = .ok (.lsub, 1) := by decide +kernel
theorem dX3_isCutSound_38 : decode cX3_isCutSound 38 = .ok (.lstore 6, 2) := by decide +kernel
theorem dX3_isCutSound_40 : decode cX3_isCutSound 40 = .ok (.lload 4, 2) := by decide +kernel
theorem dX3_isCutSound_42 : decode cX3_isCutSound 42 = .ok (.lconst 0, 1) := by decide +kernel
theorem dX3_isCutSound_43 : decode cX3_isCutSound 43 = .ok (.lcmp, 1) := by decide +kernel
theorem dX3_isCutSound_44 : decode cX3_isCutSound 44 = .ok (.ifCond .lt 34, 3) := by decide +kernel
theorem dX3_isCutSound_47 : decode cX3_isCutSound 47 = .ok (.lload 4, 2) := by decide +kernel
theorem dX3_isCutSound_49 : decode cX3_isCutSound 49 = .ok (.aload_n 0, 1) := by decide +kernel
theorem dX3_isCutSound_50 : decode cX3_isCutSound 50 = .ok (.getfield 105, 3) := by decide +kernel
theorem dX3_isCutSound_53 : decode cX3_isCutSound 53 = .ok (.lcmp, 1) := by decide +kernel
theorem dX3_isCutSound_54 : decode cX3_isCutSound 54 = .ok (.ifCond .ge 24, 3) := by decide +kernel
theorem dX3_isCutSound_57 : decode cX3_isCutSound 57 = .ok (.lload 6, 2) := by decide +kernel
theorem dX3_isCutSound_59 : decode cX3_isCutSound 59 = .ok (.lconst 0, 1) := by decide +kernel
theorem dX3_isCutSound_60 : decode cX3_isCutSound 60 = .ok (.lcmp, 1) := by decide +kernel
theorem dX3_isCutSound_61 : decode cX3_isCutSound 61 = .ok (.ifCond .lt 17, 3) := by decide +kernel
theorem dX3_isCutSound_64 : decode cX3_isCutSound 64 = .ok (.lload 6, 2) := by decide +kernel
theorem dX3_isCutSound_66 : decode cX3_isCutSound 66 = .ok (.aload_n 0, 1) := by decide +kernel
theorem dX3_isCutSound_67 : decode cX3_isCutSound 67 = .ok (.getfield 105, 3) := by decide +kernel
theorem dX3_isCutSound_70 : decode cX3_isCutSound 70 = .ok (.lcmp, 1) := by decide +kernel
theorem dX3_isCutSound_71 : decode cX3_isCutSound 71 = .ok (.ifCond .ge 7, 3) := by decide +kernel
theorem dX3_isCutSound_74 : decode cX3_isCutSound 74 = .ok (.iconst 1, 1) := by decide +kernel
theorem dX3_isCutSound_75 : decode cX3_isCutSound 75 = .ok (.goto 4, 3) := by decide +kernel
theorem dX3_isCutSound_78 : decode cX3_isCutSound 78 = .ok (.iconst 0, 1) := by decide +kernel
theorem dX3_isCutSound_79 : decode cX3_isCutSound 79 = .ok (.ireturn, 1) := by decide +kernel
theorem dX3_isTreeSound_0 : decode cX3_isTreeSound 0 = .ok (.aload_n 1, 1) := by decide +kernel
theorem dX3_isTreeSound_1 : decode cX3_isTreeSound 1 = .ok (.invokevirtual 91, 3) := by decide +kernel
theorem dX3_isTreeSound_4 : decode cX3_isTreeSound 4 = .ok (.ifCond .gt 5, 3) := by decide +kernel
theorem dX3_isTreeSound_7 : decode cX3_isTreeSound 7 = .ok (.iconst 1, 1) := by decide +kernel
theorem dX3_isTreeSound_8 : decode cX3_isTreeSound 8 = .ok (.ireturn, 1) := by decide +kernel
theorem dX3_isTreeSound_9 : decode cX3_isTreeSound 9 = .ok (.iconst 0, 1) := by decide +kernel
theorem dX3_isTreeSound_10 : decode cX3_isTreeSound 10 = .ok (.istore_n 2, 1) := by decide +kernel
theorem dX3_isTreeSound_11 : decode cX3_isTreeSound 11 = .ok (.iload_n 2, 1) := by decide +kernel
theorem dX3_isTreeSound_12 : decode cX3_isTreeSound 12 = .ok (.iconst 1, 1) := by decide +kernel
theorem dX3_isTreeSound_13 : decode cX3_isTreeSound 13 = .ok (.if_icmp .gt 64, 3) := by decide +kernel
theorem dX3_isTreeSound_16 : decode cX3_isTreeSound 16 = .ok (.aload_n 0, 1) := by decide +kernel
theorem dX3_isTreeSound_17 : decode cX3_isTreeSound 17 = .ok (.aload_n 1, 1) := by decide +kernel
theorem dX3_isTreeSound_18 : decode cX3_isTreeSound 18 = .ok (.iload_n 2, 1) := by decide +kernel
theorem dX3_isTreeSound_19 : decode cX3_isTreeSound 19 = .ok (.iconst 1, 1) := by decide +kernel
theorem dX3_isTreeSound_20 : decode cX3_isTreeSound 20 = .ok (.if_icmp .ne 7, 3) := by decide +kernel
theorem dX3_isTreeSound_23 : decode cX3_isTreeSound 23 = .ok (.iconst 1, 1) := by decide +kernel
theorem dX3_isTreeSound_24 : decode cX3_isTreeSound 24 = .ok (.goto 4, 3) := by decide +kernel
theorem dX3_isTreeSound_27 : decode cX3_isTreeSound 27 = .ok (.iconst 0, 1) := by decide +kernel
theorem dX3_isTreeSound_28 : decode cX3_isTreeSound 28 = .ok (.invokevirtual 182, 3) := by decide +kernel
theorem dX3_isTreeSound_31 : decode cX3_isTreeSound 31 = .ok (.ifCond .ne 5, 3) := by decide +kernel
theorem dX3_isTreeSound_34 : decode cX3_isTreeSound 34 = .ok (.iconst 0, 1) := by decide +kernel
theorem dX3_isTreeSound_35 : decode cX3_isTreeSound 35 = .ok (.ireturn, 1) := by decide +kernel
theorem dX3_isTreeSound_36 : decode cX3_isTreeSound 36 = .ok (.aload_n 0, 1) := by decide +kernel
theorem dX3_isTreeSound_37 : decode cX3_isTreeSound 37 = .ok (.getfield 41, 3) := by decide +kernel
theorem dX3_isTreeSound_40 : decode cX3_isTreeSound 40 = .ok (.aload_n 0, 1) := by decide +kernel
theorem dX3_isTreeSound_41 : decode cX3_isTreeSound 41 = .ok (.getfield 37, 3) := by decide +kernel
theorem dX3_isTreeSound_44 : decode cX3_isTreeSound 44 = .ok (.invokevirtual 77, 3) := by decide +kernel
theorem dX3_isTreeSound_47 : decode cX3_isTreeSound 47 = .ok (.aload_n 0, 1) := by decide +kernel
theorem dX3_isTreeSound_48 : decode cX3_isTreeSound 48 = .ok (.aload_n 0, 1) := by decide +kernel
theorem dX3_isTreeSound_49 : decode cX3_isTreeSound 49 = .ok (.getfield 41, 3) := by decide +kernel
theorem dX3_isTreeSound_52 : decode cX3_isTreeSound 52 = .ok (.invokevirtual 179, 3) := by decide +kernel
theorem dX3_isTreeSound_55 : decode cX3_isTreeSound 55 = .ok (.ifCond .eq 14, 3) := by decide +kernel
theorem dX3_isTreeSound_58 : decode cX3_isTreeSound 58 = .ok (.aload_n 0, 1) := by decide +kernel
theorem dX3_isTreeSound_59 : decode cX3_isTreeSound 59 = .ok (.getfield 37, 3) := by decide +kernel
theorem dX3_isTreeSound_62 : decode cX3_isTreeSound 62 = .ok (.aload_n 1, 1) := by decide +kernel
theorem dX3_isTreeSound_63 : decode cX3_isTreeSound 63 = .ok (.invokevirtual 294, 3) := by decide +kernel
theorem dX3_isTreeSound_66 : decode cX3_isTreeSound 66 = .ok (.ifCond .ne 5, 3) := by decide +kernel
theorem dX3_isTreeSound_69 : decode cX3_isTreeSound 69 = .ok (.iconst 0, 1) := by decide +kernel
theorem dX3_isTreeSound_70 : decode cX3_isTreeSound 70 = .ok (.ireturn, 1) := by decide +kernel
theorem dX3_isTreeSound_71 : decode cX3_isTreeSound 71 = .ok (.iinc 2 1, 3) := by decide +kernel
theorem dX3_isTreeSound_74 : decode cX3_isTreeSound 74 = .ok (.goto (-63), 3) := by decide +kernel
theorem dX3_isTreeSound_77 : decode cX3_isTreeSound 77 = .ok (.aload_n 0, 1) := by decide +kernel
theorem dX3_isTreeSound_78 : decode cX3_isTreeSound 78 = .ok (.getfield 41, 3) := by decide +kernel
theorem dX3_isTreeSound_81 : decode cX3_isTreeSound 81 = .ok (.aload_n 1, 1) := by decide +kernel
theorem dX3_isTreeSound_82 : decode cX3_isTreeSound 82 = .ok (.invokevirtual 201, 3) := by decide +kernel
theorem dX3_isTreeSound_85 : decode cX3_isTreeSound 85 = .ok (.aload_n 0, 1) := by decide +kernel
theorem dX3_isTreeSound_86 : decode cX3_isTreeSound 86 = .ok (.getfield 37, 3) := by decide +kernel
theorem dX3_isTreeSound_89 : decode cX3_isTreeSound 89 = .ok (.aload_n 0, 1) := by decide +kernel
theorem dX3_isTreeSound_90 : decode cX3_isTreeSound 90 = .ok (.getfield 41, 3) := by decide +kernel
theorem dX3_isTreeSound_93 : decode cX3_isTreeSound 93 = .ok (.invokevirtual 207, 3) := by decide +kernel
theorem dX3_isTreeSound_96 : decode cX3_isTreeSound 96 = .ok (.aload_n 0, 1) := by decide +kernel
theorem dX3_isTreeSound_97 : decode cX3_isTreeSound 97 = .ok (.getfield 37, 3) := by decide +kernel
theorem dX3_isTreeSound_100 : decode cX3_isTreeSound 100 = .ok (.aload_n 1, 1) := by decide +kernel
theorem dX3_isTreeSound_101 : decode cX3_isTreeSound 101 = .ok (.invokevirtual 294, 3) := by decide +kernel
theorem dX3_isTreeSound_104 : decode cX3_isTreeSound 104 = .ok (.ireturn, 1) := by decide +kernel
theorem dX3_areSoundInPairs_0 : decode cX3_areSoundInPairs 0 = .ok (.iconst 0, 1) := by decide +kernel
theorem dX3_areSoundInPairs_1 : decode cX3_areSoundInPairs 1 = .ok (.istore_n 1, 1) := by decide +kernel
theorem dX3_areSoundInPairs_2 : decode cX3_areSoundInPairs 2 = .ok (.iload_n 1, 1) := by decide +kernel
theorem dX3_areSoundInPairs_3 : decode cX3_areSoundInPairs 3 = .ok (.aload_n 0, 1) := by decide +kernel
theorem dX3_areSoundInPairs_4 : decode cX3_areSoundInPairs 4 = .ok (.getfield 11, 3) := by decide +kernel
theorem dX3_areSoundInPairs_7 : decode cX3_areSoundInPairs 7 = .ok (.arraylength, 1) := by decide +kernel
theorem dX3_areSoundInPairs_8 : decode cX3_areSoundInPairs 8 = .ok (.if_icmp .ge 82, 3) := by decide +kernel
theorem dX3_areSoundInPairs_11 : decode cX3_areSoundInPairs 11 = .ok (.iload_n 1, 1) := by decide +kernel
theorem dX3_areSoundInPairs_12 : decode cX3_areSoundInPairs 12 = .ok (.iconst 1, 1) := by decide +kernel
theorem dX3_areSoundInPairs_13 : decode cX3_areSoundInPairs 13 = .ok (.iadd, 1) := by decide +kernel
theorem dX3_areSoundInPairs_14 : decode cX3_areSoundInPairs 14 = .ok (.istore_n 2, 1) := by decide +kernel
theorem dX3_areSoundInPairs_15 : decode cX3_areSoundInPairs 15 = .ok (.iload_n 2, 1) := by decide +kernel
theorem dX3_areSoundInPairs_16 : decode cX3_areSoundInPairs 16 = .ok (.aload_n 0, 1) := by decide +kernel
theorem dX3_areSoundInPairs_17 : decode cX3_areSoundInPairs 17 = .ok (.getfield 11, 3) := by decide +kernel
theorem dX3_areSoundInPairs_20 : decode cX3_areSoundInPairs 20 = .ok (.arraylength, 1) := by decide +kernel
theorem dX3_areSoundInPairs_21 : decode cX3_areSoundInPairs 21 = .ok (.if_icmp .ge 63, 3) := by decide +kernel
theorem dX3_areSoundInPairs_24 : decode cX3_areSoundInPairs 24 = .ok (.aload_n 0, 1) := by decide +kernel
theorem dX3_areSoundInPairs_25 : decode cX3_areSoundInPairs 25 = .ok (.getfield 41, 3) := by decide +kernel
theorem dX3_areSoundInPairs_28 : decode cX3_areSoundInPairs 28 = .ok (.aload_n 0, 1) := by decide +kernel
theorem dX3_areSoundInPairs_29 : decode cX3_areSoundInPairs 29 = .ok (.getfield 11, 3) := by decide +kernel
theorem dX3_areSoundInPairs_32 : decode cX3_areSoundInPairs 32 = .ok (.iload_n 1, 1) := by decide +kernel
theorem dX3_areSoundInPairs_33 : decode cX3_areSoundInPairs 33 = .ok (.aaload, 1) := by decide +kernel
theorem dX3_areSoundInPairs_34 : decode cX3_areSoundInPairs 34 = .ok (.aload_n 0, 1) := by decide +kernel
theorem dX3_areSoundInPairs_35 : decode cX3_areSoundInPairs 35 = .ok (.getfield 11, 3) := by decide +kernel
theorem dX3_areSoundInPairs_38 : decode cX3_areSoundInPairs 38 = .ok (.iload_n 2, 1) := by decide +kernel
theorem dX3_areSoundInPairs_39 : decode cX3_areSoundInPairs 39 = .ok (.aaload, 1) := by decide +kernel
theorem dX3_areSoundInPairs_40 : decode cX3_areSoundInPairs 40 = .ok (.invokevirtual 81, 3) := by decide +kernel
theorem dX3_areSoundInPairs_43 : decode cX3_areSoundInPairs 43 = .ok (.aload_n 0, 1) := by decide +kernel
theorem dX3_areSoundInPairs_44 : decode cX3_areSoundInPairs 44 = .ok (.getfield 37, 3) := by decide +kernel
theorem dX3_areSoundInPairs_47 : decode cX3_areSoundInPairs 47 = .ok (.aload_n 0, 1) := by decide +kernel
theorem dX3_areSoundInPairs_48 : decode cX3_areSoundInPairs 48 = .ok (.getfield 41, 3) := by decide +kernel
theorem dX3_areSoundInPairs_51 : decode cX3_areSoundInPairs 51 = .ok (.aload_n 0, 1) := by decide +kernel
theorem dX3_areSoundInPairs_52 : decode cX3_areSoundInPairs 52 = .ok (.getfield 11, 3) := by decide +kernel
theorem dX3_areSoundInPairs_55 : decode cX3_areSoundInPairs 55 = .ok (.iload_n 2, 1) := by decide +kernel
theorem dX3_areSoundInPairs_56 : decode cX3_areSoundInPairs 56 = .ok (.aaload, 1) := by decide +kernel
theorem dX3_areSoundInPairs_57 : decode cX3_areSoundInPairs 57 = .ok (.invokevirtual 85, 3) := by decide +kernel
theorem dX3_areSoundInPairs_60 : decode cX3_areSoundInPairs 60 = .ok (.aload_n 0, 1) := by decide +kernel
theorem dX3_areSoundInPairs_61 : decode cX3_areSoundInPairs 61 = .ok (.getfield 37, 3) := by decide +kernel
theorem dX3_areSoundInPairs_64 : decode cX3_areSoundInPairs 64 = .ok (.aload_n 0, 1) := by decide +kernel
theorem dX3_areSoundInPairs_65 : decode cX3_areSoundInPairs 65 = .ok (.getfield 11, 3) := by decide +kernel
theorem dX3_areSoundInPairs_68 : decode cX3_areSoundInPairs 68 = .ok (.iload_n 1, 1) := by decide +kernel
theorem dX3_areSoundInPairs_69 : decode cX3_areSoundInPairs 69 = .ok (.aaload, 1) := by decide +kernel
theorem dX3_areSoundInPairs_70 : decode cX3_areSoundInPairs 70 = .ok (.invokevirtual 294, 3) := by decide +kernel
theorem dX3_areSoundInPairs_73 : decode cX3_areSoundInPairs 73 = .ok (.ifCond .ne 5, 3) := by decide +kernel
theorem dX3_areSoundInPairs_76 : decode cX3_areSoundInPairs 76 = .ok (.iconst 0, 1) := by decide +kernel
theorem dX3_areSoundInPairs_77 : decode cX3_areSoundInPairs 77 = .ok (.ireturn, 1) := by decide +kernel
theorem dX3_areSoundInPairs_78 : decode cX3_areSoundInPairs 78 = .ok (.iinc 2 1, 3) := by decide +kernel
theorem dX3_areSoundInPairs_81 : decode cX3_areSoundInPairs 81 = .ok (.goto (-66), 3) := by decide +kernel
theorem dX3_areSoundInPairs_84 : decode cX3_areSoundInPairs 84 = .ok (.iinc 1 1, 3) := by decide +kernel
theorem dX3_areSoundInPairs_87 : decode cX3_areSoundInPairs 87 = .ok (.goto (-85), 3) := by decide +kernel
theorem dX3_areSoundInPairs_90 : decode cX3_areSoundInPairs 90 = .ok (.iconst 1, 1) := by decide +kernel
theorem dX3_areSoundInPairs_91 : decode cX3_areSoundInPairs 91 = .ok (.ireturn, 1) := by decide +kernel
theorem dX3_mixed_0 : decode cX3_mixed 0 = .ok (.lload_n 0, 1) := by decide +kernel
theorem dX3_mixed_1 : decode cX3_mixed 1 = .ok (.ldc2_w 350, 3) := by decide +kernel
theorem dX3_mixed_4 : decode cX3_mixed 4 = .ok (.lmul, 1) := by decide +kernel
theorem dX3_mixed_5 : decode cX3_mixed 5 = .ok (.lload_n 2, 1) := by decide +kernel
theorem dX3_mixed_6 : decode cX3_mixed 6 = .ok (.ladd, 1) := by decide +kernel
theorem dX3_mixed_7 : decode cX3_mixed 7 = .ok (.lreturn, 1) := by decide +kernel
theorem dX3_mixedWithRatio_0 : decode cX3_mixedWithRatio 0 = .ok (.lload_n 1, 1) := by decide +kernel
theorem dX3_mixedWithRatio_1 : decode cX3_mixedWithRatio 1 = .ok (.lstore 5, 2) := by decide +kernel
theorem dX3_mixedWithRatio_3 : decode cX3_mixedWithRatio 3 = .ok (.iconst 0, 1) := by decide +kernel
theorem dX3_mixedWithRatio_4 : decode cX3_mixedWithRatio 4 = .ok (.istore 7, 2) := by decide +kernel
theorem dX3_mixedWithRatio_6 : decode cX3_mixedWithRatio 6 = .ok (.iload 7, 2) := by decide +kernel
theorem dX3_mixedWithRatio_8 : decode cX3_mixedWithRatio 8 = .ok (.iconst 3, 1) := by decide +kernel
theorem dX3_mixedWithRatio_9 : decode cX3_mixedWithRatio 9 = .ok (.if_icmp .gt 22, 3) := by decide +kernel
theorem dX3_mixedWithRatio_12 : decode cX3_mixedWithRatio 12 = .ok (.lload 5, 2) := by decide +kernel
theorem dX3_mixedWithRatio_14 : decode cX3_mixedWithRatio 14 = .ok (.aload_n 3, 1) := by decide +kernel
theorem dX3_mixedWithRatio_15 : decode cX3_mixedWithRatio 15 = .ok (.iload 7, 2) := by decide +kernel
theorem dX3_mixedWithRatio_17 : decode cX3_mixedWithRatio 17 = .ok (.invokestatic 119, 3) := by decide +kernel
theorem dX3_mixedWithRatio_20 : decode cX3_mixedWithRatio 20 = .ok (.invokestatic 266, 3) := by decide +kernel
theorem dX3_mixedWithRatio_23 : decode cX3_mixedWithRatio 23 = .ok (.lstore 5, 2) := by decide +kernel
theorem dX3_mixedWithRatio_25 : decode cX3_mixedWithRatio 25 = .ok (.iinc 7 1, 3) := by decide +kernel
theorem dX3_mixedWithRatio_28 : decode cX3_mixedWithRatio 28 = .ok (.goto (-22), 3) := by decide +kernel
theorem dX3_mixedWithRatio_31 : decode cX3_mixedWithRatio 31 = .ok (.aload_n 0, 1) := by decide +kernel
theorem dX3_mixedWithRatio_32 : decode cX3_mixedWithRatio 32 = .ok (.getfield 47, 3) := by decide +kernel
theorem dX3_mixedWithRatio_35 : decode cX3_mixedWithRatio 35 = .ok (.aload_n 3, 1) := by decide +kernel
theorem dX3_mixedWithRatio_36 : decode cX3_mixedWithRatio 36 = .ok (.invokevirtual 130, 3) := by decide +kernel
theorem dX3_mixedWithRatio_39 : decode cX3_mixedWithRatio 39 = .ok (.lload 5, 2) := by decide +kernel
theorem dX3_mixedWithRatio_41 : decode cX3_mixedWithRatio 41 = .ok (.aload_n 0, 1) := by decide +kernel
theorem dX3_mixedWithRatio_42 : decode cX3_mixedWithRatio 42 = .ok (.getfield 47, 3) := by decide +kernel
theorem dX3_mixedWithRatio_45 : decode cX3_mixedWithRatio 45 = .ok (.getfield 141, 3) := by decide +kernel
theorem dX3_mixedWithRatio_48 : decode cX3_mixedWithRatio 48 = .ok (.i2l, 1) := by decide +kernel
theorem dX3_mixedWithRatio_49 : decode cX3_mixedWithRatio 49 = .ok (.invokestatic 266, 3) := by decide +kernel
theorem dX3_mixedWithRatio_52 : decode cX3_mixedWithRatio 52 = .ok (.lstore 5, 2) := by decide +kernel
theorem dX3_mixedWithRatio_54 : decode cX3_mixedWithRatio 54 = .ok (.lload 5, 2) := by decide +kernel
theorem dX3_mixedWithRatio_56 : decode cX3_mixedWithRatio 56 = .ok (.aload_n 0, 1) := by decide +kernel
theorem dX3_mixedWithRatio_57 : decode cX3_mixedWithRatio 57 = .ok (.aload_n 3, 1) := by decide +kernel
theorem dX3_mixedWithRatio_58 : decode cX3_mixedWithRatio 58 = .ok (.invokevirtual 186, 3) := by decide +kernel
theorem dX3_mixedWithRatio_61 : decode cX3_mixedWithRatio 61 = .ok (.invokestatic 266, 3) := by decide +kernel
theorem dX3_mixedWithRatio_64 : decode cX3_mixedWithRatio 64 = .ok (.lstore 5, 2) := by decide +kernel
theorem dX3_mixedWithRatio_66 : decode cX3_mixedWithRatio 66 = .ok (.aload 4, 2) := by decide +kernel
theorem dX3_mixedWithRatio_68 : decode cX3_mixedWithRatio 68 = .ok (.iconst 0, 1) := by decide +kernel
theorem dX3_mixedWithRatio_69 : decode cX3_mixedWithRatio 69 = .ok (.invokevirtual 352, 3) := by decide +kernel
theorem dX3_mixedWithRatio_72 : decode cX3_mixedWithRatio 72 = .ok (.aload_n 0, 1) := by decide +kernel
theorem dX3_mixedWithRatio_73 : decode cX3_mixedWithRatio 73 = .ok (.aload 4, 2) := by decide +kernel
theorem dX3_mixedWithRatio_75 : decode cX3_mixedWithRatio 75 = .ok (.aload_n 3, 1) := by decide +kernel
theorem dX3_mixedWithRatio_76 : decode cX3_mixedWithRatio 76 = .ok (.invokevirtual 193, 3) := by decide +kernel
theorem dX3_mixedWithRatio_79 : decode cX3_mixedWithRatio 79 = .ok (.lload 5, 2) := by decide +kernel
theorem dX3_mixedWithRatio_81 : decode cX3_mixedWithRatio 81 = .ok (.aload 4, 2) := by decide +kernel
theorem dX3_mixedWithRatio_83 : decode cX3_mixedWithRatio 83 = .ok (.invokevirtual 322, 3) := by decide +kernel
theorem dX3_mixedWithRatio_86 : decode cX3_mixedWithRatio 86 = .ok (.i2l, 1) := by decide +kernel
theorem dX3_mixedWithRatio_87 : decode cX3_mixedWithRatio 87 = .ok (.invokestatic 266, 3) := by decide +kernel
theorem dX3_mixedWithRatio_90 : decode cX3_mixedWithRatio 90 = .ok (.lstore 5, 2) := by decide +kernel
theorem dX3_mixedWithRatio_92 : decode cX3_mixedWithRatio 92 = .ok (.iconst 0, 1) := by decide +kernel
theorem dX3_mixedWithRatio_93 : decode cX3_mixedWithRatio 93 = .ok (.istore 7, 2) := by decide +kernel
theorem dX3_mixedWithRatio_95 : decode cX3_mixedWithRatio 95 = .ok (.iload 7, 2) := by decide +kernel
theorem dX3_mixedWithRatio_97 : decode cX3_mixedWithRatio 97 = .ok (.iconst 4, 1) := by decide +kernel
theorem dX3_mixedWithRatio_98 : decode cX3_mixedWithRatio 98 = .ok (.if_icmp .gt 41, 3) := by decide +kernel
theorem dX3_mixedWithRatio_101 : decode cX3_mixedWithRatio 101 = .ok (.aload 4, 2) := by decide +kernel
theorem dX3_mixedWithRatio_103 : decode cX3_mixedWithRatio 103 = .ok (.iconst 0, 1) := by decide +kernel
theorem dX3_mixedWithRatio_104 : decode cX3_mixedWithRatio 104 = .ok (.invokevirtual 352, 3) := by decide +kernel
theorem dX3_mixedWithRatio_107 : decode cX3_mixedWithRatio 107 = .ok (.aload 4, 2) := by decide +kernel
theorem dX3_mixedWithRatio_109 : decode cX3_mixedWithRatio 109 = .ok (.aload_n 3, 1) := by decide +kernel
theorem dX3_mixedWithRatio_110 : decode cX3_mixedWithRatio 110 = .ok (.iconst 3, 1) := by decide +kernel
theorem dX3_mixedWithRatio_111 : decode cX3_mixedWithRatio 111 = .ok (.iload 7, 2) := by decide +kernel
theorem dX3_mixedWithRatio_113 : decode cX3_mixedWithRatio 113 = .ok (.invokevirtual 210, 3) := by decide +kernel
theorem dX3_mixedWithRatio_116 : decode cX3_mixedWithRatio 116 = .ok (.iconst 3, 1) := by decide +kernel
theorem dX3_mixedWithRatio_117 : decode cX3_mixedWithRatio 117 = .ok (.invokestatic 214, 3) := by decide +kernel
theorem dX3_mixedWithRatio_120 : decode cX3_mixedWithRatio 120 = .ok (.lload 5, 2) := by decide +kernel
theorem dX3_mixedWithRatio_122 : decode cX3_mixedWithRatio 122 = .ok (.aload 4, 2) := by decide +kernel
theorem dX3_mixedWithRatio_124 : decode cX3_mixedWithRatio 124 = .ok (.invokevirtual 322, 3) := by decide +kernel
theorem dX3_mixedWithRatio_127 : decode cX3_mixedWithRatio 127 = .ok (.i2l, 1) := by decide +kernel
theorem dX3_mixedWithRatio_128 : decode cX3_mixedWithRatio 128 = .ok (.invokestatic 266, 3) := by decide +kernel
theorem dX3_mixedWithRatio_131 : decode cX3_mixedWithRatio 131 = .ok (.lstore 5, 2) := by decide +kernel
theorem dX3_mixedWithRatio_133 : decode cX3_mixedWithRatio 133 = .ok (.iinc 7 1, 3) := by decide +kernel
theorem dX3_mixedWithRatio_136 : decode cX3_mixedWithRatio 136 = .ok (.goto (-41), 3) := by decide +kernel
theorem dX3_mixedWithRatio_139 : decode cX3_mixedWithRatio 139 = .ok (.lload 5, 2) := by decide +kernel
theorem dX3_mixedWithRatio_141 : decode cX3_mixedWithRatio 141 = .ok (.lreturn, 1) := by decide +kernel
theorem dX3_mixedWithPairs_0 : decode cX3_mixedWithPairs 0 = .ok (.lload_n 1, 1) := by decide +kernel
theorem dX3_mixedWithPairs_1 : decode cX3_mixedWithPairs 1 = .ok (.lstore_n 3, 1) := by decide +kernel
theorem dX3_mixedWithPairs_2 : decode cX3_mixedWithPairs 2 = .ok (.iconst 0, 1) := by decide +kernel
theorem dX3_mixedWithPairs_3 : decode cX3_mixedWithPairs 3 = .ok (.istore 5, 2) := by decide +kernel
theorem dX3_mixedWithPairs_5 : decode cX3_mixedWithPairs 5 = .ok (.iload 5, 2) := by decide +kernel
theorem dX3_mixedWithPairs_7 : decode cX3_mixedWithPairs 7 = .ok (.aload_n 0, 1) := by decide +kernel
theorem dX3_mixedWithPairs_8 : decode cX3_mixedWithPairs 8 = .ok (.getfield 11, 3) := by decide +kernel
theorem dX3_mixedWithPairs_11 : decode cX3_mixedWithPairs 11 = .ok (.arraylength, 1) := by decide +kernel
theorem dX3_mixedWithPairs_12 : decode cX3_mixedWithPairs 12 = .ok (.if_icmp .ge 84, 3) := by decide +kernel
theorem dX3_mixedWithPairs_15 : decode cX3_mixedWithPairs 15 = .ok (.iload 5, 2) := by decide +kernel
theorem dX3_mixedWithPairs_17 : decode cX3_mixedWithPairs 17 = .ok (.iconst 1, 1) := by decide +kernel
theorem dX3_mixedWithPairs_18 : decode cX3_mixedWithPairs 18 = .ok (.iadd, 1) := by decide +kernel
theorem dX3_mixedWithPairs_19 : decode cX3_mixedWithPairs 19 = .ok (.istore 6, 2) := by decide +kernel
theorem dX3_mixedWithPairs_21 : decode cX3_mixedWithPairs 21 = .ok (.iload 6, 2) := by decide +kernel
theorem dX3_mixedWithPairs_23 : decode cX3_mixedWithPairs 23 = .ok (.aload_n 0, 1) := by decide +kernel
theorem dX3_mixedWithPairs_24 : decode cX3_mixedWithPairs 24 = .ok (.getfield 11, 3) := by decide +kernel
theorem dX3_mixedWithPairs_27 : decode cX3_mixedWithPairs 27 = .ok (.arraylength, 1) := by decide +kernel
theorem dX3_mixedWithPairs_28 : decode cX3_mixedWithPairs 28 = .ok (.if_icmp .ge 62, 3) := by decide +kernel
theorem dX3_mixedWithPairs_31 : decode cX3_mixedWithPairs 31 = .ok (.lload_n 3, 1) := by decide +kernel
theorem dX3_mixedWithPairs_32 : decode cX3_mixedWithPairs 32 = .ok (.aload_n 0, 1) := by decide +kernel
theorem dX3_mixedWithPairs_33 : decode cX3_mixedWithPairs 33 = .ok (.getfield 11, 3) := by decide +kernel
theorem dX3_mixedWithPairs_36 : decode cX3_mixedWithPairs 36 = .ok (.iload 5, 2) := by decide +kernel
theorem dX3_mixedWithPairs_38 : decode cX3_mixedWithPairs 38 = .ok (.aaload, 1) := by decide +kernel
theorem dX3_mixedWithPairs_39 : decode cX3_mixedWithPairs 39 = .ok (.aload_n 0, 1) := by decide +kernel
theorem dX3_mixedWithPairs_40 : decode cX3_mixedWithPairs 40 = .ok (.getfield 11, 3) := by decide +kernel
theorem dX3_mixedWithPairs_43 : decode cX3_mixedWithPairs 43 = .ok (.iload 6, 2) := by decide +kernel
theorem dX3_mixedWithPairs_45 : decode cX3_mixedWithPairs 45 = .ok (.aaload, 1) := by decide +kernel
theorem dX3_mixedWithPairs_46 : decode cX3_mixedWithPairs 46 = .ok (.invokevirtual 123, 3) := by decide +kernel
theorem dX3_mixedWithPairs_49 : decode cX3_mixedWithPairs 49 = .ok (.i2l, 1) := by decide +kernel
theorem dX3_mixedWithPairs_50 : decode cX3_mixedWithPairs 50 = .ok (.invokestatic 266, 3) := by decide +kernel
theorem dX3_mixedWithPairs_53 : decode cX3_mixedWithPairs 53 = .ok (.lstore_n 3, 1) := by decide +kernel
theorem dX3_mixedWithPairs_54 : decode cX3_mixedWithPairs 54 = .ok (.lload_n 3, 1) := by decide +kernel
theorem dX3_mixedWithPairs_55 : decode cX3_mixedWithPairs 55 = .ok (.aload_n 0, 1) := by decide +kernel
theorem dX3_mixedWithPairs_56 : decode cX3_mixedWithPairs 56 = .ok (.getfield 11, 3) := by decide +kernel
theorem dX3_mixedWithPairs_59 : decode cX3_mixedWithPairs 59 = .ok (.iload 5, 2) := by decide +kernel
theorem dX3_mixedWithPairs_61 : decode cX3_mixedWithPairs 61 = .ok (.aaload, 1) := by decide +kernel
theorem dX3_mixedWithPairs_62 : decode cX3_mixedWithPairs 62 = .ok (.aload_n 0, 1) := by decide +kernel
theorem dX3_mixedWithPairs_63 : decode cX3_mixedWithPairs 63 = .ok (.getfield 11, 3) := by decide +kernel
theorem dX3_mixedWithPairs_66 : decode cX3_mixedWithPairs 66 = .ok (.iload 6, 2) := by decide +kernel
theorem dX3_mixedWithPairs_68 : decode cX3_mixedWithPairs 68 = .ok (.aaload, 1) := by decide +kernel
theorem dX3_mixedWithPairs_69 : decode cX3_mixedWithPairs 69 = .ok (.invokevirtual 126, 3) := by decide +kernel
theorem dX3_mixedWithPairs_72 : decode cX3_mixedWithPairs 72 = .ok (.ifCond .eq 7, 3) := by decide +kernel
theorem dX3_mixedWithPairs_75 : decode cX3_mixedWithPairs 75 = .ok (.lconst 1, 1) := by decide +kernel
theorem dX3_mixedWithPairs_76 : decode cX3_mixedWithPairs 76 = .ok (.goto 4, 3) := by decide +kernel
theorem dX3_mixedWithPairs_79 : decode cX3_mixedWithPairs 79 = .ok (.lconst 0, 1) := by decide +kernel
theorem dX3_mixedWithPairs_80 : decode cX3_mixedWithPairs 80 = .ok (.invokestatic 266, 3) := by decide +kernel
theorem dX3_mixedWithPairs_83 : decode cX3_mixedWithPairs 83 = .ok (.lstore_n 3, 1) := by decide +kernel
theorem dX3_mixedWithPairs_84 : decode cX3_mixedWithPairs 84 = .ok (.iinc 6 1, 3) := by decide +kernel
theorem dX3_mixedWithPairs_87 : decode cX3_mixedWithPairs 87 = .ok (.goto (-66), 3) := by decide +kernel
theorem dX3_mixedWithPairs_90 : decode cX3_mixedWithPairs 90 = .ok (.iinc 5 1, 3) := by decide +kernel
theorem dX3_mixedWithPairs_93 : decode cX3_mixedWithPairs 93 = .ok (.goto (-88), 3) := by decide +kernel
theorem dX3_mixedWithPairs_96 : decode cX3_mixedWithPairs 96 = .ok (.lload_n 3, 1) := by decide +kernel
theorem dX3_mixedWithPairs_97 : decode cX3_mixedWithPairs 97 = .ok (.lreturn, 1) := by decide +kernel
theorem dX3_mixedWithTally_0 : decode cX3_mixedWithTally 0 = .ok (.aload_n 3, 1) := by decide +kernel
theorem dX3_mixedWithTally_1 : decode cX3_mixedWithTally 1 = .ok (.iconst 0, 1) := by decide +kernel
theorem dX3_mixedWithTally_2 : decode cX3_mixedWithTally 2 = .ok (.invokevirtual 352, 3) := by decide +kernel
theorem dX3_mixedWithTally_5 : decode cX3_mixedWithTally 5 = .ok (.aload_n 3, 1) := by decide +kernel
theorem dX3_mixedWithTally_6 : decode cX3_mixedWithTally 6 = .ok (.aload_n 0, 1) := by decide +kernel
theorem dX3_mixedWithTally_7 : decode cX3_mixedWithTally 7 = .ok (.getfield 26, 3) := by decide +kernel
theorem dX3_mixedWithTally_10 : decode cX3_mixedWithTally 10 = .ok (.getfield 231, 3) := by decide +kernel
theorem dX3_mixedWithTally_13 : decode cX3_mixedWithTally 13 = .ok (.invokestatic 331, 3) := by decide +kernel
theorem dX3_mixedWithTally_16 : decode cX3_mixedWithTally 16 = .ok (.lload_n 1, 1) := by decide +kernel
theorem dX3_mixedWithTally_17 : decode cX3_mixedWithTally 17 = .ok (.aload_n 3, 1) := by decide +kernel
theorem dX3_mixedWithTally_18 : decode cX3_mixedWithTally 18 = .ok (.invokevirtual 322, 3) := by decide +kernel
theorem dX3_mixedWithTally_21 : decode cX3_mixedWithTally 21 = .ok (.i2l, 1) := by decide +kernel
theorem dX3_mixedWithTally_22 : decode cX3_mixedWithTally 22 = .ok (.invokestatic 266, 3) := by decide +kernel
theorem dX3_mixedWithTally_25 : decode cX3_mixedWithTally 25 = .ok (.lstore 4, 2) := by decide +kernel
theorem dX3_mixedWithTally_27 : decode cX3_mixedWithTally 27 = .ok (.aload_n 3, 1) := by decide +kernel
theorem dX3_mixedWithTally_28 : decode cX3_mixedWithTally 28 = .ok (.iconst 0, 1) := by decide +kernel
theorem dX3_mixedWithTally_29 : decode cX3_mixedWithTally 29 = .ok (.invokevirtual 352, 3) := by decide +kernel
theorem dX3_mixedWithTally_32 : decode cX3_mixedWithTally 32 = .ok (.aload_n 0, 1) := by decide +kernel
theorem dX3_mixedWithTally_33 : decode cX3_mixedWithTally 33 = .ok (.aload_n 3, 1) := by decide +kernel
theorem dX3_mixedWithTally_34 : decode cX3_mixedWithTally 34 = .ok (.invokevirtual 234, 3) := by decide +kernel
theorem dX3_mixedWithTally_37 : decode cX3_mixedWithTally 37 = .ok (.lload 4, 2) := by decide +kernel
theorem dX3_mixedWithTally_39 : decode cX3_mixedWithTally 39 = .ok (.aload_n 3, 1) := by decide +kernel
theorem dX3_mixedWithTally_40 : decode cX3_mixedWithTally 40 = .ok (.invokevirtual 322, 3) := by decide +kernel
theorem dX3_mixedWithTally_43 : decode cX3_mixedWithTally 43 = .ok (.i2l, 1) := by decide +kernel
theorem dX3_mixedWithTally_44 : decode cX3_mixedWithTally 44 = .ok (.invokestatic 266, 3) := by decide +kernel
theorem dX3_mixedWithTally_47 : decode cX3_mixedWithTally 47 = .ok (.lstore 4, 2) := by decide +kernel
theorem dX3_mixedWithTally_49 : decode cX3_mixedWithTally 49 = .ok (.aload_n 3, 1) := by decide +kernel
theorem dX3_mixedWithTally_50 : decode cX3_mixedWithTally 50 = .ok (.iconst 0, 1) := by decide +kernel
theorem dX3_mixedWithTally_51 : decode cX3_mixedWithTally 51 = .ok (.invokevirtual 352, 3) := by decide +kernel
theorem dX3_mixedWithTally_54 : decode cX3_mixedWithTally 54 = .ok (.aload_n 3, 1) := by decide +kernel
theorem dX3_mixedWithTally_55 : decode cX3_mixedWithTally 55 = .ok (.aload_n 0, 1) := by decide +kernel
theorem dX3_mixedWithTally_56 : decode cX3_mixedWithTally 56 = .ok (.getfield 26, 3) := by decide +kernel
theorem dX3_mixedWithTally_59 : decode cX3_mixedWithTally 59 = .ok (.getfield 238, 3) := by decide +kernel
theorem dX3_mixedWithTally_62 : decode cX3_mixedWithTally 62 = .ok (.invokestatic 331, 3) := by decide +kernel
theorem dX3_mixedWithTally_65 : decode cX3_mixedWithTally 65 = .ok (.lload 4, 2) := by decide +kernel
theorem dX3_mixedWithTally_67 : decode cX3_mixedWithTally 67 = .ok (.aload_n 3, 1) := by decide +kernel
theorem dX3_mixedWithTally_68 : decode cX3_mixedWithTally 68 = .ok (.invokevirtual 322, 3) := by decide +kernel
theorem dX3_mixedWithTally_71 : decode cX3_mixedWithTally 71 = .ok (.i2l, 1) := by decide +kernel
theorem dX3_mixedWithTally_72 : decode cX3_mixedWithTally 72 = .ok (.invokestatic 266, 3) := by decide +kernel
theorem dX3_mixedWithTally_75 : decode cX3_mixedWithTally 75 = .ok (.lreturn, 1) := by decide +kernel
theorem dX3_floorOf_0 : decode cX3_floorOf 0 = .ok (.lload_n 2, 1) := by decide +kernel
theorem dX3_floorOf_1 : decode cX3_floorOf 1 = .ok (.lconst 0, 1) := by decide +kernel
theorem dX3_floorOf_2 : decode cX3_floorOf 2 = .ok (.lcmp, 1) := by decide +kernel
theorem dX3_floorOf_3 : decode cX3_floorOf 3 = .ok (.ifCond .ne 7, 3) := by decide +kernel
theorem dX3_floorOf_6 : decode cX3_floorOf 6 = .ok (.lconst 0, 1) := by decide +kernel
theorem dX3_floorOf_7 : decode cX3_floorOf 7 = .ok (.goto 8, 3) := by decide +kernel
theorem dX3_floorOf_10 : decode cX3_floorOf 10 = .ok (.lload_n 0, 1) := by decide +kernel
theorem dX3_floorOf_11 : decode cX3_floorOf 11 = .ok (.lload_n 2, 1) := by decide +kernel
theorem dX3_floorOf_12 : decode cX3_floorOf 12 = .ok (.invokestatic 355, 3) := by decide +kernel
theorem dX3_floorOf_15 : decode cX3_floorOf 15 = .ok (.lreturn, 1) := by decide +kernel
theorem dX3_commonDivisor_0 : decode cX3_commonDivisor 0 = .ok (.lload_n 0, 1) := by decide +kernel
theorem dX3_commonDivisor_1 : decode cX3_commonDivisor 1 = .ok (.lconst 0, 1) := by decide +kernel
theorem dX3_commonDivisor_2 : decode cX3_commonDivisor 2 = .ok (.lcmp, 1) := by decide +kernel
theorem dX3_commonDivisor_3 : decode cX3_commonDivisor 3 = .ok (.ifCond .ge 8, 3) := by decide +kernel
theorem dX3_commonDivisor_6 : decode cX3_commonDivisor 6 = .ok (.lload_n 0, 1) := by decide +kernel
theorem dX3_commonDivisor_7 : decode cX3_commonDivisor 7 = .ok (.lneg, 1) := by decide +kernel
theorem dX3_commonDivisor_8 : decode cX3_commonDivisor 8 = .ok (.goto 4, 3) := by decide +kernel
theorem dX3_commonDivisor_11 : decode cX3_commonDivisor 11 = .ok (.lload_n 0, 1) := by decide +kernel
theorem dX3_commonDivisor_12 : decode cX3_commonDivisor 12 = .ok (.lstore 4, 2) := by decide +kernel
theorem dX3_commonDivisor_14 : decode cX3_commonDivisor 14 = .ok (.lload_n 2, 1) := by decide +kernel
theorem dX3_commonDivisor_15 : decode cX3_commonDivisor 15 = .ok (.lconst 0, 1) := by decide +kernel
theorem dX3_commonDivisor_16 : decode cX3_commonDivisor 16 = .ok (.lcmp, 1) := by decide +kernel
theorem dX3_commonDivisor_17 : decode cX3_commonDivisor 17 = .ok (.ifCond .ge 8, 3) := by decide +kernel
theorem dX3_commonDivisor_20 : decode cX3_commonDivisor 20 = .ok (.lload_n 2, 1) := by decide +kernel
theorem dX3_commonDivisor_21 : decode cX3_commonDivisor 21 = .ok (.lneg, 1) := by decide +kernel
theorem dX3_commonDivisor_22 : decode cX3_commonDivisor 22 = .ok (.goto 4, 3) := by decide +kernel
theorem dX3_commonDivisor_25 : decode cX3_commonDivisor 25 = .ok (.lload_n 2, 1) := by decide +kernel
theorem dX3_commonDivisor_26 : decode cX3_commonDivisor 26 = .ok (.lstore 6, 2) := by decide +kernel
theorem dX3_commonDivisor_28 : decode cX3_commonDivisor 28 = .ok (.iconst 0, 1) := by decide +kernel
theorem dX3_commonDivisor_29 : decode cX3_commonDivisor 29 = .ok (.istore 8, 2) := by decide +kernel
theorem dX3_commonDivisor_31 : decode cX3_commonDivisor 31 = .ok (.iload 8, 2) := by decide +kernel
theorem dX3_commonDivisor_33 : decode cX3_commonDivisor 33 = .ok (.sipush 200, 3) := by decide +kernel
theorem dX3_commonDivisor_36 : decode cX3_commonDivisor 36 = .ok (.if_icmp .ge 31, 3) := by decide +kernel
theorem dX3_commonDivisor_39 : decode cX3_commonDivisor 39 = .ok (.lload 6, 2) := by decide +kernel
theorem dX3_commonDivisor_41 : decode cX3_commonDivisor 41 = .ok (.lconst 0, 1) := by decide +kernel
theorem dX3_commonDivisor_42 : decode cX3_commonDivisor 42 = .ok (.lcmp, 1) := by decide +kernel
theorem dX3_commonDivisor_43 : decode cX3_commonDivisor 43 = .ok (.ifCond .eq 24, 3) := by decide +kernel
theorem dX3_commonDivisor_46 : decode cX3_commonDivisor 46 = .ok (.lload 4, 2) := by decide +kernel
theorem dX3_commonDivisor_48 : decode cX3_commonDivisor 48 = .ok (.lload 6, 2) := by decide +kernel
theorem dX3_commonDivisor_50 : decode cX3_commonDivisor 50 = .ok (.lrem, 1) := by decide +kernel
theorem dX3_commonDivisor_51 : decode cX3_commonDivisor 51 = .ok (.lstore 9, 2) := by decide +kernel
theorem dX3_commonDivisor_53 : decode cX3_commonDivisor 53 = .ok (.lload 6, 2) := by decide +kernel
theorem dX3_commonDivisor_55 : decode cX3_commonDivisor 55 = .ok (.lstore 4, 2) := by decide +kernel
theorem dX3_commonDivisor_57 : decode cX3_commonDivisor 57 = .ok (.lload 9, 2) := by decide +kernel
theorem dX3_commonDivisor_59 : decode cX3_commonDivisor 59 = .ok (.lstore 6, 2) := by decide +kernel
theorem dX3_commonDivisor_61 : decode cX3_commonDivisor 61 = .ok (.iinc 8 1, 3) := by decide +kernel
theorem dX3_commonDivisor_64 : decode cX3_commonDivisor 64 = .ok (.goto (-33), 3) := by decide +kernel
theorem dX3_commonDivisor_67 : decode cX3_commonDivisor 67 = .ok (.lload 4, 2) := by decide +kernel
theorem dX3_commonDivisor_69 : decode cX3_commonDivisor 69 = .ok (.lreturn, 1) := by decide +kernel
theorem dX3_powerOfTen_0 : decode cX3_powerOfTen 0 = .ok (.iload_n 0, 1) := by decide +kernel
theorem dX3_powerOfTen_1 : decode cX3_powerOfTen 1 = .ok (.ifCond .lt 19, 3) := by decide +kernel
theorem dX3_powerOfTen_4 : decode cX3_powerOfTen 4 = .ok (.iload_n 0, 1) := by decide +kernel
theorem dX3_powerOfTen_5 : decode cX3_powerOfTen 5 = .ok (.getstatic 360, 3) := by decide +kernel
theorem dX3_powerOfTen_8 : decode cX3_powerOfTen 8 = .ok (.arraylength, 1) := by decide +kernel
theorem dX3_powerOfTen_9 : decode cX3_powerOfTen 9 = .ok (.if_icmp .ge 11, 3) := by decide +kernel
theorem dX3_powerOfTen_12 : decode cX3_powerOfTen 12 = .ok (.getstatic 360, 3) := by decide +kernel
theorem dX3_powerOfTen_15 : decode cX3_powerOfTen 15 = .ok (.iload_n 0, 1) := by decide +kernel
theorem dX3_powerOfTen_16 : decode cX3_powerOfTen 16 = .ok (.laload, 1) := by decide +kernel
theorem dX3_powerOfTen_17 : decode cX3_powerOfTen 17 = .ok (.goto 4, 3) := by decide +kernel
theorem dX3_powerOfTen_20 : decode cX3_powerOfTen 20 = .ok (.lconst 1, 1) := by decide +kernel
theorem dX3_powerOfTen_21 : decode cX3_powerOfTen 21 = .ok (.lreturn, 1) := by decide +kernel
theorem dX3_powerToLimit_0 : decode cX3_powerToLimit 0 = .ok (.lconst 1, 1) := by decide +kernel
theorem dX3_powerToLimit_1 : decode cX3_powerToLimit 1 = .ok (.lstore_n 3, 1) := by decide +kernel
theorem dX3_powerToLimit_2 : decode cX3_powerToLimit 2 = .ok (.iconst 0, 1) := by decide +kernel
theorem dX3_powerToLimit_3 : decode cX3_powerToLimit 3 = .ok (.istore 5, 2) := by decide +kernel
theorem dX3_powerToLimit_5 : decode cX3_powerToLimit 5 = .ok (.iload 5, 2) := by decide +kernel
theorem dX3_powerToLimit_7 : decode cX3_powerToLimit 7 = .ok (.iload_n 2, 1) := by decide +kernel
theorem dX3_powerToLimit_8 : decode cX3_powerToLimit 8 = .ok (.if_icmp .ge 21, 3) := by decide +kernel
theorem dX3_powerToLimit_11 : decode cX3_powerToLimit 11 = .ok (.lload_n 3, 1) := by decide +kernel
theorem dX3_powerToLimit_12 : decode cX3_powerToLimit 12 = .ok (.ldc2_w 364, 3) := by decide +kernel
theorem dX3_powerToLimit_15 : decode cX3_powerToLimit 15 = .ok (.lcmp, 1) := by decide +kernel
theorem dX3_powerToLimit_16 : decode cX3_powerToLimit 16 = .ok (.ifCond .gt 13, 3) := by decide +kernel
theorem dX3_powerToLimit_19 : decode cX3_powerToLimit 19 = .ok (.lload_n 3, 1) := by decide +kernel
theorem dX3_powerToLimit_20 : decode cX3_powerToLimit 20 = .ok (.lload_n 0, 1) := by decide +kernel
theorem dX3_powerToLimit_21 : decode cX3_powerToLimit 21 = .ok (.lmul, 1) := by decide +kernel
theorem dX3_powerToLimit_22 : decode cX3_powerToLimit 22 = .ok (.lstore_n 3, 1) := by decide +kernel
theorem dX3_powerToLimit_23 : decode cX3_powerToLimit 23 = .ok (.iinc 5 1, 3) := by decide +kernel
theorem dX3_powerToLimit_26 : decode cX3_powerToLimit 26 = .ok (.goto (-21), 3) := by decide +kernel
theorem dX3_powerToLimit_29 : decode cX3_powerToLimit 29 = .ok (.lload_n 3, 1) := by decide +kernel
theorem dX3_powerToLimit_30 : decode cX3_powerToLimit 30 = .ok (.lreturn, 1) := by decide +kernel
theorem dX3_cutNumber_0 : decode cX3_cutNumber 0 = .ok (.lload_n 0, 1) := by decide +kernel
theorem dX3_cutNumber_1 : decode cX3_cutNumber 1 = .ok (.iload 4, 2) := by decide +kernel
theorem dX3_cutNumber_3 : decode cX3_cutNumber 3 = .ok (.invokestatic 73, 3) := by decide +kernel
theorem dX3_cutNumber_6 : decode cX3_cutNumber 6 = .ok (.lmul, 1) := by decide +kernel
theorem dX3_cutNumber_7 : decode cX3_cutNumber 7 = .ok (.lstore 6, 2) := by decide +kernel
theorem dX3_cutNumber_9 : decode cX3_cutNumber 9 = .ok (.lload 6, 2) := by decide +kernel
theorem dX3_cutNumber_11 : decode cX3_cutNumber 11 = .ok (.lload_n 2, 1) := by decide +kernel
theorem dX3_cutNumber_12 : decode cX3_cutNumber 12 = .ok (.invokestatic 340, 3) := by decide +kernel
theorem dX3_cutNumber_15 : decode cX3_cutNumber 15 = .ok (.lstore 8, 2) := by decide +kernel
theorem dX3_cutNumber_17 : decode cX3_cutNumber 17 = .ok (.lload 6, 2) := by decide +kernel
theorem dX3_cutNumber_19 : decode cX3_cutNumber 19 = .ok (.lload 8, 2) := by decide +kernel
theorem dX3_cutNumber_21 : decode cX3_cutNumber 21 = .ok (.lload_n 2, 1) := by decide +kernel
theorem dX3_cutNumber_22 : decode cX3_cutNumber 22 = .ok (.lmul, 1) := by decide +kernel
theorem dX3_cutNumber_23 : decode cX3_cutNumber 23 = .ok (.lsub, 1) := by decide +kernel
theorem dX3_cutNumber_24 : decode cX3_cutNumber 24 = .ok (.lstore 10, 2) := by decide +kernel
theorem dX3_cutNumber_26 : decode cX3_cutNumber 26 = .ok (.lload 10, 2) := by decide +kernel
theorem dX3_cutNumber_28 : decode cX3_cutNumber 28 = .ok (.lconst 0, 1) := by decide +kernel
theorem dX3_cutNumber_29 : decode cX3_cutNumber 29 = .ok (.lcmp, 1) := by decide +kernel
theorem dX3_cutNumber_30 : decode cX3_cutNumber 30 = .ok (.ifCond .le 23, 3) := by decide +kernel
theorem dX3_cutNumber_33 : decode cX3_cutNumber 33 = .ok (.lload 8, 2) := by decide +kernel
theorem dX3_cutNumber_35 : decode cX3_cutNumber 35 = .ok (.lload 10, 2) := by decide +kernel
theorem dX3_cutNumber_37 : decode cX3_cutNumber 37 = .ok (.lload_n 2, 1) := by decide +kernel
theorem dX3_cutNumber_38 : decode cX3_cutNumber 38 = .ok (.iload 5, 2) := by decide +kernel
theorem dX3_cutNumber_40 : decode cX3_cutNumber 40 = .ok (.invokestatic 366, 3) := by decide +kernel
theorem dX3_cutNumber_43 : decode cX3_cutNumber 43 = .ok (.ifCond .eq 10, 3) := by decide +kernel
theorem dX3_cutNumber_46 : decode cX3_cutNumber 46 = .ok (.lload 8, 2) := by decide +kernel
theorem dX3_cutNumber_48 : decode cX3_cutNumber 48 = .ok (.lconst 1, 1) := by decide +kernel
theorem dX3_cutNumber_49 : decode cX3_cutNumber 49 = .ok (.ladd, 1) := by decide +kernel
theorem dX3_cutNumber_50 : decode cX3_cutNumber 50 = .ok (.goto 5, 3) := by decide +kernel
theorem dX3_cutNumber_53 : decode cX3_cutNumber 53 = .ok (.lload 8, 2) := by decide +kernel
theorem dX3_cutNumber_55 : decode cX3_cutNumber 55 = .ok (.lreturn, 1) := by decide +kernel
theorem dX3_isCutUpward_0 : decode cX3_isCutUpward 0 = .ok (.iload 6, 2) := by decide +kernel
theorem dX3_isCutUpward_2 : decode cX3_isCutUpward 2 = .ok (.tableswitch 80 0 3 #[30, 42, 44, 46], 30) := by decide +kernel
theorem dX3_isCutUpward_32 : decode cX3_isCutUpward 32 = .ok (.lload_n 0, 1) := by decide +kernel
theorem dX3_isCutUpward_33 : decode cX3_isCutUpward 33 = .ok (.lconst 0, 1) := by decide +kernel
theorem dX3_isCutUpward_34 : decode cX3_isCutUpward 34 = .ok (.lcmp, 1) := by decide +kernel
theorem dX3_isCutUpward_35 : decode cX3_isCutUpward 35 = .ok (.ifCond .ge 7, 3) := by decide +kernel
theorem dX3_isCutUpward_38 : decode cX3_isCutUpward 38 = .ok (.iconst 1, 1) := by decide +kernel
theorem dX3_isCutUpward_39 : decode cX3_isCutUpward 39 = .ok (.goto 4, 3) := by decide +kernel
theorem dX3_isCutUpward_42 : decode cX3_isCutUpward 42 = .ok (.iconst 0, 1) := by decide +kernel
theorem dX3_isCutUpward_43 : decode cX3_isCutUpward 43 = .ok (.ireturn, 1) := by decide +kernel
theorem dX3_isCutUpward_44 : decode cX3_isCutUpward 44 = .ok (.iconst 0, 1) := by decide +kernel
theorem dX3_isCutUpward_45 : decode cX3_isCutUpward 45 = .ok (.ireturn, 1) := by decide +kernel
theorem dX3_isCutUpward_46 : decode cX3_isCutUpward 46 = .ok (.iconst 1, 1) := by decide +kernel
theorem dX3_isCutUpward_47 : decode cX3_isCutUpward 47 = .ok (.ireturn, 1) := by decide +kernel
theorem dX3_isCutUpward_48 : decode cX3_isCutUpward 48 = .ok (.ldc2_w 309, 3) := by decide +kernel
theorem dX3_isCutUpward_51 : decode cX3_isCutUpward 51 = .ok (.lload_n 2, 1) := by decide +kernel
theorem dX3_isCutUpward_52 : decode cX3_isCutUpward 52 = .ok (.lmul, 1) := by decide +kernel
theorem dX3_isCutUpward_53 : decode cX3_isCutUpward 53 = .ok (.lload 4, 2) := by decide +kernel
theorem dX3_isCutUpward_55 : decode cX3_isCutUpward 55 = .ok (.lcmp, 1) := by decide +kernel
theorem dX3_isCutUpward_56 : decode cX3_isCutUpward 56 = .ok (.ifCond .gt 20, 3) := by decide +kernel
theorem dX3_isCutUpward_59 : decode cX3_isCutUpward 59 = .ok (.ldc2_w 309, 3) := by decide +kernel
theorem dX3_isCutUpward_62 : decode cX3_isCutUpward 62 = .ok (.lload_n 2, 1) := by decide +kernel
theorem dX3_isCutUpward_63 : decode cX3_isCutUpward 63 = .ok (.lmul, 1) := by decide +kernel
theorem dX3_isCutUpward_64 : decode cX3_isCutUpward 64 = .ok (.lload 4, 2) := by decide +kernel
theorem dX3_isCutUpward_66 : decode cX3_isCutUpward 66 = .ok (.lcmp, 1) := by decide +kernel
theorem dX3_isCutUpward_67 : decode cX3_isCutUpward 67 = .ok (.ifCond .ne 13, 3) := by decide +kernel
theorem dX3_isCutUpward_70 : decode cX3_isCutUpward 70 = .ok (.lload_n 0, 1) := by decide +kernel
theorem dX3_isCutUpward_71 : decode cX3_isCutUpward 71 = .ok (.lconst 0, 1) := by decide +kernel
theorem dX3_isCutUpward_72 : decode cX3_isCutUpward 72 = .ok (.lcmp, 1) := by decide +kernel
theorem dX3_isCutUpward_73 : decode cX3_isCutUpward 73 = .ok (.ifCond .lt 7, 3) := by decide +kernel
theorem dX3_isCutUpward_76 : decode cX3_isCutUpward 76 = .ok (.iconst 1, 1) := by decide +kernel
theorem dX3_isCutUpward_77 : decode cX3_isCutUpward 77 = .ok (.goto 4, 3) := by decide +kernel
theorem dX3_isCutUpward_80 : decode cX3_isCutUpward 80 = .ok (.iconst 0, 1) := by decide +kernel
theorem dX3_isCutUpward_81 : decode cX3_isCutUpward 81 = .ok (.ireturn, 1) := by decide +kernel
theorem dX3_isCutUpward_82 : decode cX3_isCutUpward 82 = .ok (.ldc2_w 309, 3) := by decide +kernel
theorem dX3_isCutUpward_85 : decode cX3_isCutUpward 85 = .ok (.lload_n 2, 1) := by decide +kernel
theorem dX3_isCutUpward_86 : decode cX3_isCutUpward 86 = .ok (.lmul, 1) := by decide +kernel
theorem dX3_isCutUpward_87 : decode cX3_isCutUpward 87 = .ok (.lload 4, 2) := by decide +kernel
theorem dX3_isCutUpward_89 : decode cX3_isCutUpward 89 = .ok (.lcmp, 1) := by decide +kernel
theorem dX3_isCutUpward_90 : decode cX3_isCutUpward 90 = .ok (.ifCond .gt 22, 3) := by decide +kernel
theorem dX3_isCutUpward_93 : decode cX3_isCutUpward 93 = .ok (.ldc2_w 309, 3) := by decide +kernel
theorem dX3_isCutUpward_96 : decode cX3_isCutUpward 96 = .ok (.lload_n 2, 1) := by decide +kernel
theorem dX3_isCutUpward_97 : decode cX3_isCutUpward 97 = .ok (.lmul, 1) := by decide +kernel
theorem dX3_isCutUpward_98 : decode cX3_isCutUpward 98 = .ok (.lload 4, 2) := by decide +kernel
theorem dX3_isCutUpward_100 : decode cX3_isCutUpward 100 = .ok (.lcmp, 1) := by decide +kernel
theorem dX3_isCutUpward_101 : decode cX3_isCutUpward 101 = .ok (.ifCond .ne 15, 3) := by decide +kernel
theorem dX3_isCutUpward_104 : decode cX3_isCutUpward 104 = .ok (.lload_n 0, 1) := by decide +kernel
theorem dX3_isCutUpward_105 : decode cX3_isCutUpward 105 = .ok (.lconst 1, 1) := by decide +kernel
theorem dX3_isCutUpward_106 : decode cX3_isCutUpward 106 = .ok (.land, 1) := by decide +kernel
theorem dX3_isCutUpward_107 : decode cX3_isCutUpward 107 = .ok (.lconst 1, 1) := by decide +kernel
theorem dX3_isCutUpward_108 : decode cX3_isCutUpward 108 = .ok (.lcmp, 1) := by decide +kernel
theorem dX3_isCutUpward_109 : decode cX3_isCutUpward 109 = .ok (.ifCond .ne 7, 3) := by decide +kernel
theorem dX3_isCutUpward_112 : decode cX3_isCutUpward 112 = .ok (.iconst 1, 1) := by decide +kernel
theorem dX3_isCutUpward_113 : decode cX3_isCutUpward 113 = .ok (.goto 4, 3) := by decide +kernel
theorem dX3_isCutUpward_116 : decode cX3_isCutUpward 116 = .ok (.iconst 0, 1) := by decide +kernel
theorem dX3_isCutUpward_117 : decode cX3_isCutUpward 117 = .ok (.ireturn, 1) := by decide +kernel
theorem dX4_init_0 : decode cX4_init 0 = .ok (.aload_n 0, 1) := by decide +kernel
theorem dX4_init_1 : decode cX4_init 1 = .ok (.invokespecial 1, 3) := by decide +kernel
theorem dX4_init_4 : decode cX4_init 4 = .ok (.return_, 1) := by decide +kernel
