theorem dX1_init_0 : decode cX1_init 0 = .ok (.aload_n 0, 1) := by decide +kernel
theorem dX1_init_1 : decode cX1_init 1 = .ok (.invokespecial 3, 3) := by decide +kernel
theorem dX1_init_4 : decode cX1_init 4 = .ok (.aload_n 0, 1) := by decide +kernel
theorem dX1_init_5 : decode cX1_init 5 = .ok (.bipush 8, 2) := by decide +kernel
theorem dX1_init_7 : decode cX1_init 7 = .ok (.newarray .int, 2) := by decide +kernel
theorem dX1_init_9 : decode cX1_init 9 = .ok (.putfield 9, 3) := by decide +kernel
theorem dX1_init_12 : decode cX1_init 12 = .ok (.aload_n 0, 1) := by decide +kernel
theorem dX1_init_13 : decode cX1_init 13 = .ok (.sipush 128, 3) := by decide +kernel
theorem dX1_init_16 : decode cX1_init 16 = .ok (.newarray .int, 2) := by decide +kernel
theorem dX1_init_18 : decode cX1_init 18 = .ok (.putfield 15, 3) := by decide +kernel
theorem dX1_init_21 : decode cX1_init 21 = .ok (.return_, 1) := by decide +kernel
theorem dX1_solve_0 : decode cX1_solve 0 = .ok (.aload_n 1, 1) := by decide +kernel
theorem dX1_solve_1 : decode cX1_solve 1 = .ok (.getfield 18, 3) := by decide +kernel
theorem dX1_solve_4 : decode cX1_solve 4 = .ok (.istore_n 2, 1) := by decide +kernel
theorem dX1_solve_5 : decode cX1_solve 5 = .ok (.iconst 0, 1) := by decide +kernel
theorem dX1_solve_6 : decode cX1_solve 6 = .ok (.istore_n 3, 1) := by decide +kernel
theorem dX1_solve_7 : decode cX1_solve 7 = .ok (.iconst 0, 1) := by decide +kernel
theorem dX1_solve_8 : decode cX1_solve 8 = .ok (.istore 4, 2) := by decide +kernel
theorem dX1_solve_10 : decode cX1_solve 10 = .ok (.iload 4, 2) := by decide +kernel
theorem dX1_solve_12 : decode cX1_solve 12 = .ok (.iconst 1, 1) := by decide +kernel
theorem dX1_solve_13 : decode cX1_solve 13 = .ok (.iload_n 2, 1) := by decide +kernel
theorem dX1_solve_14 : decode cX1_solve 14 = .ok (.ishl, 1) := by decide +kernel
theorem dX1_solve_15 : decode cX1_solve 15 = .ok (.if_icmp .ge 36, 3) := by decide +kernel
theorem dX1_solve_18 : decode cX1_solve 18 = .ok (.aload_n 0, 1) := by decide +kernel
theorem dX1_solve_19 : decode cX1_solve 19 = .ok (.aload_n 1, 1) := by decide +kernel
theorem dX1_solve_20 : decode cX1_solve 20 = .ok (.iload 4, 2) := by decide +kernel
theorem dX1_solve_22 : decode cX1_solve 22 = .ok (.invokevirtual 24, 3) := by decide +kernel
theorem dX1_solve_25 : decode cX1_solve 25 = .ok (.ifCond .eq 20, 3) := by decide +kernel
theorem dX1_solve_28 : decode cX1_solve 28 = .ok (.iload_n 3, 1) := by decide +kernel
theorem dX1_solve_29 : decode cX1_solve 29 = .ok (.ifCond .ne 13, 3) := by decide +kernel
theorem dX1_solve_32 : decode cX1_solve 32 = .ok (.iload 4, 2) := by decide +kernel
theorem dX1_solve_34 : decode cX1_solve 34 = .ok (.iload_n 2, 1) := by decide +kernel
theorem dX1_solve_35 : decode cX1_solve 35 = .ok (.aload_n 1, 1) := by decide +kernel
theorem dX1_solve_36 : decode cX1_solve 36 = .ok (.getfield 28, 3) := by decide +kernel
theorem dX1_solve_39 : decode cX1_solve 39 = .ok (.invokestatic 32, 3) := by decide +kernel
theorem dX1_solve_42 : decode cX1_solve 42 = .ok (.iinc 3 1, 3) := by decide +kernel
theorem dX1_solve_45 : decode cX1_solve 45 = .ok (.iinc 4 1, 3) := by decide +kernel
theorem dX1_solve_48 : decode cX1_solve 48 = .ok (.goto (-38), 3) := by decide +kernel
theorem dX1_solve_51 : decode cX1_solve 51 = .ok (.aload_n 1, 1) := by decide +kernel
theorem dX1_solve_52 : decode cX1_solve 52 = .ok (.iload_n 3, 1) := by decide +kernel
theorem dX1_solve_53 : decode cX1_solve 53 = .ok (.ifCond .le 7, 3) := by decide +kernel
theorem dX1_solve_56 : decode cX1_solve 56 = .ok (.iconst 1, 1) := by decide +kernel
theorem dX1_solve_57 : decode cX1_solve 57 = .ok (.goto 4, 3) := by decide +kernel
theorem dX1_solve_60 : decode cX1_solve 60 = .ok (.iconst 0, 1) := by decide +kernel
theorem dX1_solve_61 : decode cX1_solve 61 = .ok (.iload_n 3, 1) := by decide +kernel
theorem dX1_solve_62 : decode cX1_solve 62 = .ok (.invokevirtual 36, 3) := by decide +kernel
theorem dX1_solve_65 : decode cX1_solve 65 = .ok (.iload_n 3, 1) := by decide +kernel
theorem dX1_solve_66 : decode cX1_solve 66 = .ok (.ifCond .ne 12, 3) := by decide +kernel
theorem dX1_solve_69 : decode cX1_solve 69 = .ok (.aload_n 0, 1) := by decide +kernel
theorem dX1_solve_70 : decode cX1_solve 70 = .ok (.aload_n 1, 1) := by decide +kernel
theorem dX1_solve_71 : decode cX1_solve 71 = .ok (.aload_n 1, 1) := by decide +kernel
theorem dX1_solve_72 : decode cX1_solve 72 = .ok (.getfield 28, 3) := by decide +kernel
theorem dX1_solve_75 : decode cX1_solve 75 = .ok (.invokevirtual 40, 3) := by decide +kernel
theorem dX1_solve_78 : decode cX1_solve 78 = .ok (.return_, 1) := by decide +kernel
theorem dX1_isFulfilled_0 : decode cX1_isFulfilled 0 = .ok (.aload_n 0, 1) := by decide +kernel
theorem dX1_isFulfilled_1 : decode cX1_isFulfilled 1 = .ok (.aload_n 1, 1) := by decide +kernel
theorem dX1_isFulfilled_2 : decode cX1_isFulfilled 2 = .ok (.getfield 18, 3) := by decide +kernel
theorem dX1_isFulfilled_5 : decode cX1_isFulfilled 5 = .ok (.putfield 44, 3) := by decide +kernel
theorem dX1_isFulfilled_8 : decode cX1_isFulfilled 8 = .ok (.aload_n 0, 1) := by decide +kernel
theorem dX1_isFulfilled_9 : decode cX1_isFulfilled 9 = .ok (.iconst 0, 1) := by decide +kernel
theorem dX1_isFulfilled_10 : decode cX1_isFulfilled 10 = .ok (.putfield 47, 3) := by decide +kernel
theorem dX1_isFulfilled_13 : decode cX1_isFulfilled 13 = .ok (.iconst 0, 1) := by decide +kernel
theorem dX1_isFulfilled_14 : decode cX1_isFulfilled 14 = .ok (.istore_n 3, 1) := by decide +kernel
theorem dX1_isFulfilled_15 : decode cX1_isFulfilled 15 = .ok (.iload_n 3, 1) := by decide +kernel
theorem dX1_isFulfilled_16 : decode cX1_isFulfilled 16 = .ok (.aload_n 0, 1) := by decide +kernel
theorem dX1_isFulfilled_17 : decode cX1_isFulfilled 17 = .ok (.getfield 44, 3) := by decide +kernel
theorem dX1_isFulfilled_20 : decode cX1_isFulfilled 20 = .ok (.if_icmp .ge 36, 3) := by decide +kernel
theorem dX1_isFulfilled_23 : decode cX1_isFulfilled 23 = .ok (.iload_n 2, 1) := by decide +kernel
theorem dX1_isFulfilled_24 : decode cX1_isFulfilled 24 = .ok (.aload_n 0, 1) := by decide +kernel
theorem dX1_isFulfilled_25 : decode cX1_isFulfilled 25 = .ok (.getfield 44, 3) := by decide +kernel
theorem dX1_isFulfilled_28 : decode cX1_isFulfilled 28 = .ok (.iconst 1, 1) := by decide +kernel
theorem dX1_isFulfilled_29 : decode cX1_isFulfilled 29 = .ok (.isub, 1) := by decide +kernel
theorem dX1_isFulfilled_30 : decode cX1_isFulfilled 30 = .ok (.iload_n 3, 1) := by decide +kernel
theorem dX1_isFulfilled_31 : decode cX1_isFulfilled 31 = .ok (.isub, 1) := by decide +kernel
theorem dX1_isFulfilled_32 : decode cX1_isFulfilled 32 = .ok (.invokestatic 50, 3) := by decide +kernel
theorem dX1_isFulfilled_35 : decode cX1_isFulfilled 35 = .ok (.ifCond .eq 15, 3) := by decide +kernel
theorem dX1_isFulfilled_38 : decode cX1_isFulfilled 38 = .ok (.aload_n 0, 1) := by decide +kernel
theorem dX1_isFulfilled_39 : decode cX1_isFulfilled 39 = .ok (.dup, 1) := by decide +kernel
theorem dX1_isFulfilled_40 : decode cX1_isFulfilled 40 = .ok (.getfield 47, 3) := by decide +kernel
theorem dX1_isFulfilled_43 : decode cX1_isFulfilled 43 = .ok (.iconst 1, 1) := by decide +kernel
theorem dX1_isFulfilled_44 : decode cX1_isFulfilled 44 = .ok (.iload_n 3, 1) := by decide +kernel
theorem dX1_isFulfilled_45 : decode cX1_isFulfilled 45 = .ok (.ishl, 1) := by decide +kernel
theorem dX1_isFulfilled_46 : decode cX1_isFulfilled 46 = .ok (.ior, 1) := by decide +kernel
theorem dX1_isFulfilled_47 : decode cX1_isFulfilled 47 = .ok (.putfield 47, 3) := by decide +kernel
theorem dX1_isFulfilled_50 : decode cX1_isFulfilled 50 = .ok (.iinc 3 1, 3) := by decide +kernel
theorem dX1_isFulfilled_53 : decode cX1_isFulfilled 53 = .ok (.goto (-38), 3) := by decide +kernel
theorem dX1_isFulfilled_56 : decode cX1_isFulfilled 56 = .ok (.aload_n 0, 1) := by decide +kernel
theorem dX1_isFulfilled_57 : decode cX1_isFulfilled 57 = .ok (.getfield 47, 3) := by decide +kernel
theorem dX1_isFulfilled_60 : decode cX1_isFulfilled 60 = .ok (.invokestatic 54, 3) := by decide +kernel
theorem dX1_isFulfilled_63 : decode cX1_isFulfilled 63 = .ok (.aload_n 1, 1) := by decide +kernel
theorem dX1_isFulfilled_64 : decode cX1_isFulfilled 64 = .ok (.getfield 60, 3) := by decide +kernel
theorem dX1_isFulfilled_67 : decode cX1_isFulfilled 67 = .ok (.if_icmp .gt 15, 3) := by decide +kernel
theorem dX1_isFulfilled_70 : decode cX1_isFulfilled 70 = .ok (.aload_n 0, 1) := by decide +kernel
theorem dX1_isFulfilled_71 : decode cX1_isFulfilled 71 = .ok (.aload_n 1, 1) := by decide +kernel
theorem dX1_isFulfilled_72 : decode cX1_isFulfilled 72 = .ok (.invokevirtual 63, 3) := by decide +kernel
theorem dX1_isFulfilled_75 : decode cX1_isFulfilled 75 = .ok (.ifCond .ge 7, 3) := by decide +kernel
theorem dX1_isFulfilled_78 : decode cX1_isFulfilled 78 = .ok (.iconst 1, 1) := by decide +kernel
theorem dX1_isFulfilled_79 : decode cX1_isFulfilled 79 = .ok (.goto 4, 3) := by decide +kernel
theorem dX1_isFulfilled_82 : decode cX1_isFulfilled 82 = .ok (.iconst 0, 1) := by decide +kernel
theorem dX1_isFulfilled_83 : decode cX1_isFulfilled 83 = .ok (.ireturn, 1) := by decide +kernel
theorem dX1_writeTruths_0 : decode cX1_writeTruths 0 = .ok (.iconst 0, 1) := by decide +kernel
theorem dX1_writeTruths_1 : decode cX1_writeTruths 1 = .ok (.istore_n 3, 1) := by decide +kernel
theorem dX1_writeTruths_2 : decode cX1_writeTruths 2 = .ok (.iload_n 3, 1) := by decide +kernel
theorem dX1_writeTruths_3 : decode cX1_writeTruths 3 = .ok (.iload_n 1, 1) := by decide +kernel
theorem dX1_writeTruths_4 : decode cX1_writeTruths 4 = .ok (.if_icmp .ge 30, 3) := by decide +kernel
theorem dX1_writeTruths_7 : decode cX1_writeTruths 7 = .ok (.aload_n 2, 1) := by decide +kernel
theorem dX1_writeTruths_8 : decode cX1_writeTruths 8 = .ok (.iload_n 0, 1) := by decide +kernel
theorem dX1_writeTruths_9 : decode cX1_writeTruths 9 = .ok (.iload_n 1, 1) := by decide +kernel
theorem dX1_writeTruths_10 : decode cX1_writeTruths 10 = .ok (.iconst 1, 1) := by decide +kernel
theorem dX1_writeTruths_11 : decode cX1_writeTruths 11 = .ok (.isub, 1) := by decide +kernel
theorem dX1_writeTruths_12 : decode cX1_writeTruths 12 = .ok (.iload_n 3, 1) := by decide +kernel
theorem dX1_writeTruths_13 : decode cX1_writeTruths 13 = .ok (.isub, 1) := by decide +kernel
theorem dX1_writeTruths_14 : decode cX1_writeTruths 14 = .ok (.invokestatic 50, 3) := by decide +kernel
theorem dX1_writeTruths_17 : decode cX1_writeTruths 17 = .ok (.ifCond .eq 7, 3) := by decide +kernel
theorem dX1_writeTruths_20 : decode cX1_writeTruths 20 = .ok (.iconst 1, 1) := by decide +kernel
theorem dX1_writeTruths_21 : decode cX1_writeTruths 21 = .ok (.goto 4, 3) := by decide +kernel
theorem dX1_writeTruths_24 : decode cX1_writeTruths 24 = .ok (.iconst 0, 1) := by decide +kernel
theorem dX1_writeTruths_25 : decode cX1_writeTruths 25 = .ok (.invokevirtual 67, 3) := by decide +kernel
theorem dX1_writeTruths_28 : decode cX1_writeTruths 28 = .ok (.iinc 3 1, 3) := by decide +kernel
theorem dX1_writeTruths_31 : decode cX1_writeTruths 31 = .ok (.goto (-29), 3) := by decide +kernel
theorem dX1_writeTruths_34 : decode cX1_writeTruths 34 = .ok (.return_, 1) := by decide +kernel
theorem dX1_brokenItem_0 : decode cX1_brokenItem 0 = .ok (.iconst 0, 1) := by decide +kernel
theorem dX1_brokenItem_1 : decode cX1_brokenItem 1 = .ok (.istore_n 2, 1) := by decide +kernel
theorem dX1_brokenItem_2 : decode cX1_brokenItem 2 = .ok (.iload_n 2, 1) := by decide +kernel
theorem dX1_brokenItem_3 : decode cX1_brokenItem 3 = .ok (.aload_n 1, 1) := by decide +kernel
theorem dX1_brokenItem_4 : decode cX1_brokenItem 4 = .ok (.getfield 73, 3) := by decide +kernel
theorem dX1_brokenItem_7 : decode cX1_brokenItem 7 = .ok (.if_icmp .ge 20, 3) := by decide +kernel
theorem dX1_brokenItem_10 : decode cX1_brokenItem 10 = .ok (.aload_n 0, 1) := by decide +kernel
theorem dX1_brokenItem_11 : decode cX1_brokenItem 11 = .ok (.aload_n 1, 1) := by decide +kernel
theorem dX1_brokenItem_12 : decode cX1_brokenItem 12 = .ok (.iload_n 2, 1) := by decide +kernel
theorem dX1_brokenItem_13 : decode cX1_brokenItem 13 = .ok (.invokevirtual 76, 3) := by decide +kernel
theorem dX1_brokenItem_16 : decode cX1_brokenItem 16 = .ok (.ifCond .eq 5, 3) := by decide +kernel
theorem dX1_brokenItem_19 : decode cX1_brokenItem 19 = .ok (.iload_n 2, 1) := by decide +kernel
theorem dX1_brokenItem_20 : decode cX1_brokenItem 20 = .ok (.ireturn, 1) := by decide +kernel
theorem dX1_brokenItem_21 : decode cX1_brokenItem 21 = .ok (.iinc 2 1, 3) := by decide +kernel
theorem dX1_brokenItem_24 : decode cX1_brokenItem 24 = .ok (.goto (-22), 3) := by decide +kernel
theorem dX1_brokenItem_27 : decode cX1_brokenItem 27 = .ok (.iconst (-1), 1) := by decide +kernel
theorem dX1_brokenItem_28 : decode cX1_brokenItem 28 = .ok (.ireturn, 1) := by decide +kernel
theorem dX1_isBroken_0 : decode cX1_isBroken 0 = .ok (.iconst 0, 1) := by decide +kernel
theorem dX1_isBroken_1 : decode cX1_isBroken 1 = .ok (.istore_n 3, 1) := by decide +kernel
theorem dX1_isBroken_2 : decode cX1_isBroken 2 = .ok (.iload_n 3, 1) := by decide +kernel
theorem dX1_isBroken_3 : decode cX1_isBroken 3 = .ok (.iconst 3, 1) := by decide +kernel
theorem dX1_isBroken_4 : decode cX1_isBroken 4 = .ok (.if_icmp .ge 64, 3) := by decide +kernel
theorem dX1_isBroken_7 : decode cX1_isBroken 7 = .ok (.aload_n 1, 1) := by decide +kernel
theorem dX1_isBroken_8 : decode cX1_isBroken 8 = .ok (.iload_n 2, 1) := by decide +kernel
theorem dX1_isBroken_9 : decode cX1_isBroken 9 = .ok (.iload_n 3, 1) := by decide +kernel
theorem dX1_isBroken_10 : decode cX1_isBroken 10 = .ok (.invokevirtual 79, 3) := by decide +kernel
theorem dX1_isBroken_13 : decode cX1_isBroken 13 = .ok (.istore 4, 2) := by decide +kernel
theorem dX1_isBroken_15 : decode cX1_isBroken 15 = .ok (.iload 4, 2) := by decide +kernel
theorem dX1_isBroken_17 : decode cX1_isBroken 17 = .ok (.invokestatic 83, 3) := by decide +kernel
theorem dX1_isBroken_20 : decode cX1_isBroken 20 = .ok (.iconst 1, 1) := by decide +kernel
theorem dX1_isBroken_21 : decode cX1_isBroken 21 = .ok (.isub, 1) := by decide +kernel
theorem dX1_isBroken_22 : decode cX1_isBroken 22 = .ok (.istore 5, 2) := by decide +kernel
theorem dX1_isBroken_24 : decode cX1_isBroken 24 = .ok (.iload 4, 2) := by decide +kernel
theorem dX1_isBroken_26 : decode cX1_isBroken 26 = .ok (.ifCond .eq 36, 3) := by decide +kernel
theorem dX1_isBroken_29 : decode cX1_isBroken 29 = .ok (.iload 5, 2) := by decide +kernel
theorem dX1_isBroken_31 : decode cX1_isBroken 31 = .ok (.aload_n 0, 1) := by decide +kernel
theorem dX1_isBroken_32 : decode cX1_isBroken 32 = .ok (.getfield 44, 3) := by decide +kernel
theorem dX1_isBroken_35 : decode cX1_isBroken 35 = .ok (.if_icmp .ge 25, 3) := by decide +kernel
theorem dX1_isBroken_38 : decode cX1_isBroken 38 = .ok (.aload_n 0, 1) := by decide +kernel
theorem dX1_isBroken_39 : decode cX1_isBroken 39 = .ok (.getfield 47, 3) := by decide +kernel
theorem dX1_isBroken_42 : decode cX1_isBroken 42 = .ok (.iload 5, 2) := by decide +kernel
theorem dX1_isBroken_44 : decode cX1_isBroken 44 = .ok (.invokestatic 50, 3) := by decide +kernel
theorem dX1_isBroken_47 : decode cX1_isBroken 47 = .ok (.iload 4, 2) := by decide +kernel
theorem dX1_isBroken_49 : decode cX1_isBroken 49 = .ok (.ifCond .le 7, 3) := by decide +kernel
theorem dX1_isBroken_52 : decode cX1_isBroken 52 = .ok (.iconst 1, 1) := by decide +kernel
theorem dX1_isBroken_53 : decode cX1_isBroken 53 = .ok (.goto 4, 3) := by decide +kernel
theorem dX1_isBroken_56 : decode cX1_isBroken 56 = .ok (.iconst 0, 1) := by decide +kernel
theorem dX1_isBroken_57 : decode cX1_isBroken 57 = .ok (.if_icmp .ne 5, 3) := by decide +kernel
theorem dX1_isBroken_60 : decode cX1_isBroken 60 = .ok (.iconst 0, 1) := by decide +kernel
theorem dX1_isBroken_61 : decode cX1_isBroken 61 = .ok (.ireturn, 1) := by decide +kernel
theorem dX1_isBroken_62 : decode cX1_isBroken 62 = .ok (.iinc 3 1, 3) := by decide +kernel
theorem dX1_isBroken_65 : decode cX1_isBroken 65 = .ok (.goto (-63), 3) := by decide +kernel
theorem dX1_isBroken_68 : decode cX1_isBroken 68 = .ok (.iconst 1, 1) := by decide +kernel
theorem dX1_isBroken_69 : decode cX1_isBroken 69 = .ok (.ireturn, 1) := by decide +kernel
theorem dX1_begin_0 : decode cX1_begin 0 = .ok (.aload_n 0, 1) := by decide +kernel
theorem dX1_begin_1 : decode cX1_begin 1 = .ok (.iconst 0, 1) := by decide +kernel
theorem dX1_begin_2 : decode cX1_begin 2 = .ok (.putfield 44, 3) := by decide +kernel
theorem dX1_begin_5 : decode cX1_begin 5 = .ok (.aload_n 0, 1) := by decide +kernel
theorem dX1_begin_6 : decode cX1_begin 6 = .ok (.iconst 0, 1) := by decide +kernel
theorem dX1_begin_7 : decode cX1_begin 7 = .ok (.putfield 47, 3) := by decide +kernel
theorem dX1_begin_10 : decode cX1_begin 10 = .ok (.aload_n 0, 1) := by decide +kernel
theorem dX1_begin_11 : decode cX1_begin 11 = .ok (.iconst 0, 1) := by decide +kernel
theorem dX1_begin_12 : decode cX1_begin 12 = .ok (.putfield 88, 3) := by decide +kernel
theorem dX1_begin_15 : decode cX1_begin 15 = .ok (.aload_n 0, 1) := by decide +kernel
theorem dX1_begin_16 : decode cX1_begin 16 = .ok (.iconst 0, 1) := by decide +kernel
theorem dX1_begin_17 : decode cX1_begin 17 = .ok (.putfield 92, 3) := by decide +kernel
theorem dX1_begin_20 : decode cX1_begin 20 = .ok (.aload_n 0, 1) := by decide +kernel
theorem dX1_begin_21 : decode cX1_begin 21 = .ok (.iconst 0, 1) := by decide +kernel
theorem dX1_begin_22 : decode cX1_begin 22 = .ok (.putfield 95, 3) := by decide +kernel
theorem dX1_begin_25 : decode cX1_begin 25 = .ok (.return_, 1) := by decide +kernel
theorem dX1_goThrough_0 : decode cX1_goThrough 0 = .ok (.aload_n 0, 1) := by decide +kernel
theorem dX1_goThrough_1 : decode cX1_goThrough 1 = .ok (.invokevirtual 98, 3) := by decide +kernel
theorem dX1_goThrough_4 : decode cX1_goThrough 4 = .ok (.iconst 0, 1) := by decide +kernel
theorem dX1_goThrough_5 : decode cX1_goThrough 5 = .ok (.istore_n 3, 1) := by decide +kernel
theorem dX1_goThrough_6 : decode cX1_goThrough 6 = .ok (.iload_n 3, 1) := by decide +kernel
theorem dX1_goThrough_7 : decode cX1_goThrough 7 = .ok (.sipush 128, 3) := by decide +kernel
theorem dX1_goThrough_10 : decode cX1_goThrough 10 = .ok (.if_icmp .ge 94, 3) := by decide +kernel
theorem dX1_goThrough_13 : decode cX1_goThrough 13 = .ok (.aload_n 0, 1) := by decide +kernel
theorem dX1_goThrough_14 : decode cX1_goThrough 14 = .ok (.getfield 88, 3) := by decide +kernel
theorem dX1_goThrough_17 : decode cX1_goThrough 17 = .ok (.ifCond .ne 87, 3) := by decide +kernel
theorem dX1_goThrough_20 : decode cX1_goThrough 20 = .ok (.aload_n 0, 1) := by decide +kernel
theorem dX1_goThrough_21 : decode cX1_goThrough 21 = .ok (.aload_n 1, 1) := by decide +kernel
theorem dX1_goThrough_22 : decode cX1_goThrough 22 = .ok (.invokevirtual 63, 3) := by decide +kernel
theorem dX1_goThrough_25 : decode cX1_goThrough 25 = .ok (.istore 4, 2) := by decide +kernel
theorem dX1_goThrough_27 : decode cX1_goThrough 27 = .ok (.iload 4, 2) := by decide +kernel
theorem dX1_goThrough_29 : decode cX1_goThrough 29 = .ok (.ifCond .ge 17, 3) := by decide +kernel
theorem dX1_goThrough_32 : decode cX1_goThrough 32 = .ok (.aload_n 0, 1) := by decide +kernel
theorem dX1_goThrough_33 : decode cX1_goThrough 33 = .ok (.getfield 47, 3) := by decide +kernel
theorem dX1_goThrough_36 : decode cX1_goThrough 36 = .ok (.invokestatic 54, 3) := by decide +kernel
theorem dX1_goThrough_39 : decode cX1_goThrough 39 = .ok (.aload_n 1, 1) := by decide +kernel
theorem dX1_goThrough_40 : decode cX1_goThrough 40 = .ok (.getfield 60, 3) := by decide +kernel
theorem dX1_goThrough_43 : decode cX1_goThrough 43 = .ok (.if_icmp .le 45, 3) := by decide +kernel
theorem dX1_goThrough_46 : decode cX1_goThrough 46 = .ok (.aload_n 2, 1) := by decide +kernel
theorem dX1_goThrough_47 : decode cX1_goThrough 47 = .ok (.ifnull 9, 3) := by decide +kernel
theorem dX1_goThrough_50 : decode cX1_goThrough 50 = .ok (.aload_n 2, 1) := by decide +kernel
theorem dX1_goThrough_51 : decode cX1_goThrough 51 = .ok (.iload 4, 2) := by decide +kernel
theorem dX1_goThrough_53 : decode cX1_goThrough 53 = .ok (.invokevirtual 67, 3) := by decide +kernel
theorem dX1_goThrough_56 : decode cX1_goThrough 56 = .ok (.aload_n 0, 1) := by decide +kernel
theorem dX1_goThrough_57 : decode cX1_goThrough 57 = .ok (.iload 4, 2) := by decide +kernel
theorem dX1_goThrough_59 : decode cX1_goThrough 59 = .ok (.ifCond .lt 12, 3) := by decide +kernel
theorem dX1_goThrough_62 : decode cX1_goThrough 62 = .ok (.aload_n 1, 1) := by decide +kernel
theorem dX1_goThrough_63 : decode cX1_goThrough 63 = .ok (.iload 4, 2) := by decide +kernel
theorem dX1_goThrough_65 : decode cX1_goThrough 65 = .ok (.invokestatic 101, 3) := by decide +kernel
theorem dX1_goThrough_68 : decode cX1_goThrough 68 = .ok (.goto 10, 3) := by decide +kernel
theorem dX1_goThrough_71 : decode cX1_goThrough 71 = .ok (.aload_n 0, 1) := by decide +kernel
theorem dX1_goThrough_72 : decode cX1_goThrough 72 = .ok (.getfield 47, 3) := by decide +kernel
theorem dX1_goThrough_75 : decode cX1_goThrough 75 = .ok (.bipush 64, 2) := by decide +kernel
theorem dX1_goThrough_77 : decode cX1_goThrough 77 = .ok (.imul, 1) := by decide +kernel
theorem dX1_goThrough_78 : decode cX1_goThrough 78 = .ok (.invokevirtual 105, 3) := by decide +kernel
theorem dX1_goThrough_81 : decode cX1_goThrough 81 = .ok (.aload_n 0, 1) := by decide +kernel
theorem dX1_goThrough_82 : decode cX1_goThrough 82 = .ok (.invokevirtual 108, 3) := by decide +kernel
theorem dX1_goThrough_85 : decode cX1_goThrough 85 = .ok (.goto 13, 3) := by decide +kernel
theorem dX1_goThrough_88 : decode cX1_goThrough 88 = .ok (.aload_n 0, 1) := by decide +kernel
theorem dX1_goThrough_89 : decode cX1_goThrough 89 = .ok (.dup, 1) := by decide +kernel
theorem dX1_goThrough_90 : decode cX1_goThrough 90 = .ok (.getfield 44, 3) := by decide +kernel
theorem dX1_goThrough_93 : decode cX1_goThrough 93 = .ok (.iconst 1, 1) := by decide +kernel
theorem dX1_goThrough_94 : decode cX1_goThrough 94 = .ok (.iadd, 1) := by decide +kernel
theorem dX1_goThrough_95 : decode cX1_goThrough 95 = .ok (.putfield 44, 3) := by decide +kernel
theorem dX1_goThrough_98 : decode cX1_goThrough 98 = .ok (.iinc 3 1, 3) := by decide +kernel
theorem dX1_goThrough_101 : decode cX1_goThrough 101 = .ok (.goto (-95), 3) := by decide +kernel
theorem dX1_goThrough_104 : decode cX1_goThrough 104 = .ok (.return_, 1) := by decide +kernel
theorem dX1_goBack_0 : decode cX1_goBack 0 = .ok (.aload_n 0, 1) := by decide +kernel
theorem dX1_goBack_1 : decode cX1_goBack 1 = .ok (.getfield 44, 3) := by decide +kernel
theorem dX1_goBack_4 : decode cX1_goBack 4 = .ok (.ifCond .le 57, 3) := by decide +kernel
theorem dX1_goBack_7 : decode cX1_goBack 7 = .ok (.aload_n 0, 1) := by decide +kernel
theorem dX1_goBack_8 : decode cX1_goBack 8 = .ok (.getfield 47, 3) := by decide +kernel
theorem dX1_goBack_11 : decode cX1_goBack 11 = .ok (.aload_n 0, 1) := by decide +kernel
theorem dX1_goBack_12 : decode cX1_goBack 12 = .ok (.getfield 44, 3) := by decide +kernel
theorem dX1_goBack_15 : decode cX1_goBack 15 = .ok (.iconst 1, 1) := by decide +kernel
theorem dX1_goBack_16 : decode cX1_goBack 16 = .ok (.isub, 1) := by decide +kernel
theorem dX1_goBack_17 : decode cX1_goBack 17 = .ok (.invokestatic 50, 3) := by decide +kernel
theorem dX1_goBack_20 : decode cX1_goBack 20 = .ok (.ifCond .eq 41, 3) := by decide +kernel
theorem dX1_goBack_23 : decode cX1_goBack 23 = .ok (.aload_n 0, 1) := by decide +kernel
theorem dX1_goBack_24 : decode cX1_goBack 24 = .ok (.dup, 1) := by decide +kernel
theorem dX1_goBack_25 : decode cX1_goBack 25 = .ok (.getfield 44, 3) := by decide +kernel
theorem dX1_goBack_28 : decode cX1_goBack 28 = .ok (.iconst 1, 1) := by decide +kernel
theorem dX1_goBack_29 : decode cX1_goBack 29 = .ok (.isub, 1) := by decide +kernel
theorem dX1_goBack_30 : decode cX1_goBack 30 = .ok (.putfield 44, 3) := by decide +kernel
theorem dX1_goBack_33 : decode cX1_goBack 33 = .ok (.aload_n 0, 1) := by decide +kernel
theorem dX1_goBack_34 : decode cX1_goBack 34 = .ok (.dup, 1) := by decide +kernel
theorem dX1_goBack_35 : decode cX1_goBack 35 = .ok (.getfield 47, 3) := by decide +kernel
theorem dX1_goBack_38 : decode cX1_goBack 38 = .ok (.iconst 1, 1) := by decide +kernel
theorem dX1_goBack_39 : decode cX1_goBack 39 = .ok (.aload_n 0, 1) := by decide +kernel
theorem dX1_goBack_40 : decode cX1_goBack 40 = .ok (.getfield 44, 3) := by decide +kernel
theorem dX1_goBack_43 : decode cX1_goBack 43 = .ok (.ishl, 1) := by decide +kernel
theorem dX1_goBack_44 : decode cX1_goBack 44 = .ok (.iconst (-1), 1) := by decide +kernel
theorem dX1_goBack_45 : decode cX1_goBack 45 = .ok (.ixor, 1) := by decide +kernel
theorem dX1_goBack_46 : decode cX1_goBack 46 = .ok (.iand, 1) := by decide +kernel
theorem dX1_goBack_47 : decode cX1_goBack 47 = .ok (.putfield 47, 3) := by decide +kernel
theorem dX1_goBack_50 : decode cX1_goBack 50 = .ok (.aload_n 0, 1) := by decide +kernel
theorem dX1_goBack_51 : decode cX1_goBack 51 = .ok (.aload_n 0, 1) := by decide +kernel
theorem dX1_goBack_52 : decode cX1_goBack 52 = .ok (.getfield 44, 3) := by decide +kernel
theorem dX1_goBack_55 : decode cX1_goBack 55 = .ok (.invokevirtual 111, 3) := by decide +kernel
theorem dX1_goBack_58 : decode cX1_goBack 58 = .ok (.goto (-58), 3) := by decide +kernel
theorem dX1_goBack_61 : decode cX1_goBack 61 = .ok (.aload_n 0, 1) := by decide +kernel
theorem dX1_goBack_62 : decode cX1_goBack 62 = .ok (.getfield 44, 3) := by decide +kernel
theorem dX1_goBack_65 : decode cX1_goBack 65 = .ok (.ifCond .ne 11, 3) := by decide +kernel
theorem dX1_goBack_68 : decode cX1_goBack 68 = .ok (.aload_n 0, 1) := by decide +kernel
theorem dX1_goBack_69 : decode cX1_goBack 69 = .ok (.iconst 1, 1) := by decide +kernel
theorem dX1_goBack_70 : decode cX1_goBack 70 = .ok (.putfield 88, 3) := by decide +kernel
theorem dX1_goBack_73 : decode cX1_goBack 73 = .ok (.goto 20, 3) := by decide +kernel
theorem dX1_goBack_76 : decode cX1_goBack 76 = .ok (.aload_n 0, 1) := by decide +kernel
theorem dX1_goBack_77 : decode cX1_goBack 77 = .ok (.dup, 1) := by decide +kernel
theorem dX1_goBack_78 : decode cX1_goBack 78 = .ok (.getfield 47, 3) := by decide +kernel
theorem dX1_goBack_81 : decode cX1_goBack 81 = .ok (.iconst 1, 1) := by decide +kernel
theorem dX1_goBack_82 : decode cX1_goBack 82 = .ok (.aload_n 0, 1) := by decide +kernel
theorem dX1_goBack_83 : decode cX1_goBack 83 = .ok (.getfield 44, 3) := by decide +kernel
theorem dX1_goBack_86 : decode cX1_goBack 86 = .ok (.iconst 1, 1) := by decide +kernel
theorem dX1_goBack_87 : decode cX1_goBack 87 = .ok (.isub, 1) := by decide +kernel
theorem dX1_goBack_88 : decode cX1_goBack 88 = .ok (.ishl, 1) := by decide +kernel
theorem dX1_goBack_89 : decode cX1_goBack 89 = .ok (.ior, 1) := by decide +kernel
theorem dX1_goBack_90 : decode cX1_goBack 90 = .ok (.putfield 47, 3) := by decide +kernel
theorem dX1_goBack_93 : decode cX1_goBack 93 = .ok (.return_, 1) := by decide +kernel
theorem dX1_codeOf_0 : decode cX1_codeOf 0 = .ok (.iconst 0, 1) := by decide +kernel
theorem dX1_codeOf_1 : decode cX1_codeOf 1 = .ok (.istore_n 2, 1) := by decide +kernel
theorem dX1_codeOf_2 : decode cX1_codeOf 2 = .ok (.iconst 0, 1) := by decide +kernel
theorem dX1_codeOf_3 : decode cX1_codeOf 3 = .ok (.istore_n 3, 1) := by decide +kernel
theorem dX1_codeOf_4 : decode cX1_codeOf 4 = .ok (.iload_n 3, 1) := by decide +kernel
theorem dX1_codeOf_5 : decode cX1_codeOf 5 = .ok (.iconst 3, 1) := by decide +kernel
theorem dX1_codeOf_6 : decode cX1_codeOf 6 = .ok (.if_icmp .ge 50, 3) := by decide +kernel
theorem dX1_codeOf_9 : decode cX1_codeOf 9 = .ok (.aload_n 0, 1) := by decide +kernel
theorem dX1_codeOf_10 : decode cX1_codeOf 10 = .ok (.iload_n 1, 1) := by decide +kernel
theorem dX1_codeOf_11 : decode cX1_codeOf 11 = .ok (.iload_n 3, 1) := by decide +kernel
theorem dX1_codeOf_12 : decode cX1_codeOf 12 = .ok (.invokevirtual 79, 3) := by decide +kernel
theorem dX1_codeOf_15 : decode cX1_codeOf 15 = .ok (.istore 4, 2) := by decide +kernel
theorem dX1_codeOf_17 : decode cX1_codeOf 17 = .ok (.iload 4, 2) := by decide +kernel
theorem dX1_codeOf_19 : decode cX1_codeOf 19 = .ok (.ifCond .le 15, 3) := by decide +kernel
theorem dX1_codeOf_22 : decode cX1_codeOf 22 = .ok (.iload_n 2, 1) := by decide +kernel
theorem dX1_codeOf_23 : decode cX1_codeOf 23 = .ok (.iconst 1, 1) := by decide +kernel
theorem dX1_codeOf_24 : decode cX1_codeOf 24 = .ok (.iload 4, 2) := by decide +kernel
theorem dX1_codeOf_26 : decode cX1_codeOf 26 = .ok (.iconst 1, 1) := by decide +kernel
theorem dX1_codeOf_27 : decode cX1_codeOf 27 = .ok (.isub, 1) := by decide +kernel
theorem dX1_codeOf_28 : decode cX1_codeOf 28 = .ok (.ishl, 1) := by decide +kernel
theorem dX1_codeOf_29 : decode cX1_codeOf 29 = .ok (.ior, 1) := by decide +kernel
theorem dX1_codeOf_30 : decode cX1_codeOf 30 = .ok (.istore_n 2, 1) := by decide +kernel
theorem dX1_codeOf_31 : decode cX1_codeOf 31 = .ok (.goto 19, 3) := by decide +kernel
theorem dX1_codeOf_34 : decode cX1_codeOf 34 = .ok (.iload 4, 2) := by decide +kernel
theorem dX1_codeOf_36 : decode cX1_codeOf 36 = .ok (.ifCond .ge 14, 3) := by decide +kernel
theorem dX1_codeOf_39 : decode cX1_codeOf 39 = .ok (.iload_n 2, 1) := by decide +kernel
theorem dX1_codeOf_40 : decode cX1_codeOf 40 = .ok (.bipush 64, 2) := by decide +kernel
theorem dX1_codeOf_42 : decode cX1_codeOf 42 = .ok (.iload 4, 2) := by decide +kernel
theorem dX1_codeOf_44 : decode cX1_codeOf 44 = .ok (.ineg, 1) := by decide +kernel
theorem dX1_codeOf_45 : decode cX1_codeOf 45 = .ok (.iconst 1, 1) := by decide +kernel
theorem dX1_codeOf_46 : decode cX1_codeOf 46 = .ok (.isub, 1) := by decide +kernel
theorem dX1_codeOf_47 : decode cX1_codeOf 47 = .ok (.ishl, 1) := by decide +kernel
theorem dX1_codeOf_48 : decode cX1_codeOf 48 = .ok (.ior, 1) := by decide +kernel
theorem dX1_codeOf_49 : decode cX1_codeOf 49 = .ok (.istore_n 2, 1) := by decide +kernel
theorem dX1_codeOf_50 : decode cX1_codeOf 50 = .ok (.iinc 3 1, 3) := by decide +kernel
theorem dX1_codeOf_53 : decode cX1_codeOf 53 = .ok (.goto (-49), 3) := by decide +kernel
theorem dX1_codeOf_56 : decode cX1_codeOf 56 = .ok (.iload_n 2, 1) := by decide +kernel
theorem dX1_codeOf_57 : decode cX1_codeOf 57 = .ok (.ireturn, 1) := by decide +kernel
theorem dX1_derive_0 : decode cX1_derive 0 = .ok (.aload_n 0, 1) := by decide +kernel
theorem dX1_derive_1 : decode cX1_derive 1 = .ok (.getfield 92, 3) := by decide +kernel
theorem dX1_derive_4 : decode cX1_derive 4 = .ok (.sipush 128, 3) := by decide +kernel
theorem dX1_derive_7 : decode cX1_derive 7 = .ok (.if_icmp .ge 23, 3) := by decide +kernel
theorem dX1_derive_10 : decode cX1_derive 10 = .ok (.aload_n 0, 1) := by decide +kernel
theorem dX1_derive_11 : decode cX1_derive 11 = .ok (.getfield 15, 3) := by decide +kernel
theorem dX1_derive_14 : decode cX1_derive 14 = .ok (.aload_n 0, 1) := by decide +kernel
theorem dX1_derive_15 : decode cX1_derive 15 = .ok (.getfield 92, 3) := by decide +kernel
theorem dX1_derive_18 : decode cX1_derive 18 = .ok (.iload_n 1, 1) := by decide +kernel
theorem dX1_derive_19 : decode cX1_derive 19 = .ok (.iastore, 1) := by decide +kernel
theorem dX1_derive_20 : decode cX1_derive 20 = .ok (.aload_n 0, 1) := by decide +kernel
theorem dX1_derive_21 : decode cX1_derive 21 = .ok (.dup, 1) := by decide +kernel
theorem dX1_derive_22 : decode cX1_derive 22 = .ok (.getfield 92, 3) := by decide +kernel
theorem dX1_derive_25 : decode cX1_derive 25 = .ok (.iconst 1, 1) := by decide +kernel
theorem dX1_derive_26 : decode cX1_derive 26 = .ok (.iadd, 1) := by decide +kernel
theorem dX1_derive_27 : decode cX1_derive 27 = .ok (.putfield 92, 3) := by decide +kernel
theorem dX1_derive_30 : decode cX1_derive 30 = .ok (.aload_n 0, 1) := by decide +kernel
theorem dX1_derive_31 : decode cX1_derive 31 = .ok (.getfield 95, 3) := by decide +kernel
theorem dX1_derive_34 : decode cX1_derive 34 = .ok (.aload_n 0, 1) := by decide +kernel
theorem dX1_derive_35 : decode cX1_derive 35 = .ok (.getfield 9, 3) := by decide +kernel
theorem dX1_derive_38 : decode cX1_derive 38 = .ok (.arraylength, 1) := by decide +kernel
theorem dX1_derive_39 : decode cX1_derive 39 = .ok (.if_icmp .ge 23, 3) := by decide +kernel
theorem dX1_derive_42 : decode cX1_derive 42 = .ok (.aload_n 0, 1) := by decide +kernel
theorem dX1_derive_43 : decode cX1_derive 43 = .ok (.getfield 9, 3) := by decide +kernel
theorem dX1_derive_46 : decode cX1_derive 46 = .ok (.aload_n 0, 1) := by decide +kernel
theorem dX1_derive_47 : decode cX1_derive 47 = .ok (.getfield 95, 3) := by decide +kernel
theorem dX1_derive_50 : decode cX1_derive 50 = .ok (.iload_n 1, 1) := by decide +kernel
theorem dX1_derive_51 : decode cX1_derive 51 = .ok (.iastore, 1) := by decide +kernel
theorem dX1_derive_52 : decode cX1_derive 52 = .ok (.aload_n 0, 1) := by decide +kernel
theorem dX1_derive_53 : decode cX1_derive 53 = .ok (.dup, 1) := by decide +kernel
theorem dX1_derive_54 : decode cX1_derive 54 = .ok (.getfield 95, 3) := by decide +kernel
theorem dX1_derive_57 : decode cX1_derive 57 = .ok (.iconst 1, 1) := by decide +kernel
theorem dX1_derive_58 : decode cX1_derive 58 = .ok (.iadd, 1) := by decide +kernel
theorem dX1_derive_59 : decode cX1_derive 59 = .ok (.putfield 95, 3) := by decide +kernel
theorem dX1_derive_62 : decode cX1_derive 62 = .ok (.return_, 1) := by decide +kernel
theorem dX1_deriveAt_0 : decode cX1_deriveAt 0 = .ok (.aload_n 0, 1) := by decide +kernel
theorem dX1_deriveAt_1 : decode cX1_deriveAt 1 = .ok (.getfield 95, 3) := by decide +kernel
theorem dX1_deriveAt_4 : decode cX1_deriveAt 4 = .ok (.iconst 2, 1) := by decide +kernel
theorem dX1_deriveAt_5 : decode cX1_deriveAt 5 = .ok (.if_icmp .ge 4, 3) := by decide +kernel
theorem dX1_deriveAt_8 : decode cX1_deriveAt 8 = .ok (.return_, 1) := by decide +kernel
theorem dX1_deriveAt_9 : decode cX1_deriveAt 9 = .ok (.aload_n 0, 1) := by decide +kernel
theorem dX1_deriveAt_10 : decode cX1_deriveAt 10 = .ok (.getfield 9, 3) := by decide +kernel
theorem dX1_deriveAt_13 : decode cX1_deriveAt 13 = .ok (.aload_n 0, 1) := by decide +kernel
theorem dX1_deriveAt_14 : decode cX1_deriveAt 14 = .ok (.getfield 95, 3) := by decide +kernel
theorem dX1_deriveAt_17 : decode cX1_deriveAt 17 = .ok (.iconst 2, 1) := by decide +kernel
theorem dX1_deriveAt_18 : decode cX1_deriveAt 18 = .ok (.isub, 1) := by decide +kernel
theorem dX1_deriveAt_19 : decode cX1_deriveAt 19 = .ok (.iaload, 1) := by decide +kernel
theorem dX1_deriveAt_20 : decode cX1_deriveAt 20 = .ok (.istore_n 2, 1) := by decide +kernel
theorem dX1_deriveAt_21 : decode cX1_deriveAt 21 = .ok (.aload_n 0, 1) := by decide +kernel
theorem dX1_deriveAt_22 : decode cX1_deriveAt 22 = .ok (.getfield 9, 3) := by decide +kernel
theorem dX1_deriveAt_25 : decode cX1_deriveAt 25 = .ok (.aload_n 0, 1) := by decide +kernel
theorem dX1_deriveAt_26 : decode cX1_deriveAt 26 = .ok (.getfield 95, 3) := by decide +kernel
theorem dX1_deriveAt_29 : decode cX1_deriveAt 29 = .ok (.iconst 1, 1) := by decide +kernel
theorem dX1_deriveAt_30 : decode cX1_deriveAt 30 = .ok (.isub, 1) := by decide +kernel
theorem dX1_deriveAt_31 : decode cX1_deriveAt 31 = .ok (.iaload, 1) := by decide +kernel
theorem dX1_deriveAt_32 : decode cX1_deriveAt 32 = .ok (.istore_n 3, 1) := by decide +kernel
theorem dX1_deriveAt_33 : decode cX1_deriveAt 33 = .ok (.iconst 1, 1) := by decide +kernel
theorem dX1_deriveAt_34 : decode cX1_deriveAt 34 = .ok (.iload_n 1, 1) := by decide +kernel
theorem dX1_deriveAt_35 : decode cX1_deriveAt 35 = .ok (.ishl, 1) := by decide +kernel
theorem dX1_deriveAt_36 : decode cX1_deriveAt 36 = .ok (.istore 4, 2) := by decide +kernel
theorem dX1_deriveAt_38 : decode cX1_deriveAt 38 = .ok (.bipush 64, 2) := by decide +kernel
theorem dX1_deriveAt_40 : decode cX1_deriveAt 40 = .ok (.iload_n 1, 1) := by decide +kernel
theorem dX1_deriveAt_41 : decode cX1_deriveAt 41 = .ok (.ishl, 1) := by decide +kernel
theorem dX1_deriveAt_42 : decode cX1_deriveAt 42 = .ok (.istore 5, 2) := by decide +kernel
theorem dX1_deriveAt_44 : decode cX1_deriveAt 44 = .ok (.aload_n 0, 1) := by decide +kernel
theorem dX1_deriveAt_45 : decode cX1_deriveAt 45 = .ok (.dup, 1) := by decide +kernel
theorem dX1_deriveAt_46 : decode cX1_deriveAt 46 = .ok (.getfield 95, 3) := by decide +kernel
theorem dX1_deriveAt_49 : decode cX1_deriveAt 49 = .ok (.iconst 2, 1) := by decide +kernel
theorem dX1_deriveAt_50 : decode cX1_deriveAt 50 = .ok (.isub, 1) := by decide +kernel
theorem dX1_deriveAt_51 : decode cX1_deriveAt 51 = .ok (.putfield 95, 3) := by decide +kernel
theorem dX1_deriveAt_54 : decode cX1_deriveAt 54 = .ok (.iload_n 2, 1) := by decide +kernel
theorem dX1_deriveAt_55 : decode cX1_deriveAt 55 = .ok (.iload 4, 2) := by decide +kernel
theorem dX1_deriveAt_57 : decode cX1_deriveAt 57 = .ok (.iand, 1) := by decide +kernel
theorem dX1_deriveAt_58 : decode cX1_deriveAt 58 = .ok (.ifCond .ne 11, 3) := by decide +kernel
theorem dX1_deriveAt_61 : decode cX1_deriveAt 61 = .ok (.aload_n 0, 1) := by decide +kernel
theorem dX1_deriveAt_62 : decode cX1_deriveAt 62 = .ok (.iload_n 2, 1) := by decide +kernel
theorem dX1_deriveAt_63 : decode cX1_deriveAt 63 = .ok (.invokevirtual 105, 3) := by decide +kernel
theorem dX1_deriveAt_66 : decode cX1_deriveAt 66 = .ok (.goto 35, 3) := by decide +kernel
theorem dX1_deriveAt_69 : decode cX1_deriveAt 69 = .ok (.iload_n 3, 1) := by decide +kernel
theorem dX1_deriveAt_70 : decode cX1_deriveAt 70 = .ok (.iload 5, 2) := by decide +kernel
theorem dX1_deriveAt_72 : decode cX1_deriveAt 72 = .ok (.iand, 1) := by decide +kernel
theorem dX1_deriveAt_73 : decode cX1_deriveAt 73 = .ok (.ifCond .ne 11, 3) := by decide +kernel
theorem dX1_deriveAt_76 : decode cX1_deriveAt 76 = .ok (.aload_n 0, 1) := by decide +kernel
theorem dX1_deriveAt_77 : decode cX1_deriveAt 77 = .ok (.iload_n 3, 1) := by decide +kernel
theorem dX1_deriveAt_78 : decode cX1_deriveAt 78 = .ok (.invokevirtual 105, 3) := by decide +kernel
theorem dX1_deriveAt_81 : decode cX1_deriveAt 81 = .ok (.goto 20, 3) := by decide +kernel
theorem dX1_deriveAt_84 : decode cX1_deriveAt 84 = .ok (.aload_n 0, 1) := by decide +kernel
theorem dX1_deriveAt_85 : decode cX1_deriveAt 85 = .ok (.iload_n 2, 1) := by decide +kernel
theorem dX1_deriveAt_86 : decode cX1_deriveAt 86 = .ok (.iload 4, 2) := by decide +kernel
theorem dX1_deriveAt_88 : decode cX1_deriveAt 88 = .ok (.iconst (-1), 1) := by decide +kernel
theorem dX1_deriveAt_89 : decode cX1_deriveAt 89 = .ok (.ixor, 1) := by decide +kernel
theorem dX1_deriveAt_90 : decode cX1_deriveAt 90 = .ok (.iand, 1) := by decide +kernel
theorem dX1_deriveAt_91 : decode cX1_deriveAt 91 = .ok (.iload_n 3, 1) := by decide +kernel
theorem dX1_deriveAt_92 : decode cX1_deriveAt 92 = .ok (.iload 5, 2) := by decide +kernel
theorem dX1_deriveAt_94 : decode cX1_deriveAt 94 = .ok (.iconst (-1), 1) := by decide +kernel
theorem dX1_deriveAt_95 : decode cX1_deriveAt 95 = .ok (.ixor, 1) := by decide +kernel
theorem dX1_deriveAt_96 : decode cX1_deriveAt 96 = .ok (.iand, 1) := by decide +kernel
theorem dX1_deriveAt_97 : decode cX1_deriveAt 97 = .ok (.ior, 1) := by decide +kernel
theorem dX1_deriveAt_98 : decode cX1_deriveAt 98 = .ok (.invokevirtual 105, 3) := by decide +kernel
theorem dX1_deriveAt_101 : decode cX1_deriveAt 101 = .ok (.return_, 1) := by decide +kernel
theorem dX1_judgeTruths_0 : decode cX1_judgeTruths 0 = .ok (.aload_n 2, 1) := by decide +kernel
theorem dX1_judgeTruths_1 : decode cX1_judgeTruths 1 = .ok (.getfield 118, 3) := by decide +kernel
theorem dX1_judgeTruths_4 : decode cX1_judgeTruths 4 = .ok (.aload_n 1, 1) := by decide +kernel
theorem dX1_judgeTruths_5 : decode cX1_judgeTruths 5 = .ok (.getfield 18, 3) := by decide +kernel
theorem dX1_judgeTruths_8 : decode cX1_judgeTruths 8 = .ok (.if_icmp .ne 13, 3) := by decide +kernel
theorem dX1_judgeTruths_11 : decode cX1_judgeTruths 11 = .ok (.aload_n 2, 1) := by decide +kernel
theorem dX1_judgeTruths_12 : decode cX1_judgeTruths 12 = .ok (.iconst 0, 1) := by decide +kernel
theorem dX1_judgeTruths_13 : decode cX1_judgeTruths 13 = .ok (.iconst 0, 1) := by decide +kernel
theorem dX1_judgeTruths_14 : decode cX1_judgeTruths 14 = .ok (.iconst 1, 1) := by decide +kernel
theorem dX1_judgeTruths_15 : decode cX1_judgeTruths 15 = .ok (.invokevirtual 121, 3) := by decide +kernel
theorem dX1_judgeTruths_18 : decode cX1_judgeTruths 18 = .ok (.ifCond .ne 5, 3) := by decide +kernel
theorem dX1_judgeTruths_21 : decode cX1_judgeTruths 21 = .ok (.iconst 1, 1) := by decide +kernel
theorem dX1_judgeTruths_22 : decode cX1_judgeTruths 22 = .ok (.ireturn, 1) := by decide +kernel
theorem dX1_judgeTruths_23 : decode cX1_judgeTruths 23 = .ok (.aload_n 0, 1) := by decide +kernel
theorem dX1_judgeTruths_24 : decode cX1_judgeTruths 24 = .ok (.aload_n 1, 1) := by decide +kernel
theorem dX1_judgeTruths_25 : decode cX1_judgeTruths 25 = .ok (.getfield 18, 3) := by decide +kernel
theorem dX1_judgeTruths_28 : decode cX1_judgeTruths 28 = .ok (.putfield 44, 3) := by decide +kernel
theorem dX1_judgeTruths_31 : decode cX1_judgeTruths 31 = .ok (.aload_n 0, 1) := by decide +kernel
theorem dX1_judgeTruths_32 : decode cX1_judgeTruths 32 = .ok (.iconst 0, 1) := by decide +kernel
theorem dX1_judgeTruths_33 : decode cX1_judgeTruths 33 = .ok (.putfield 47, 3) := by decide +kernel
theorem dX1_judgeTruths_36 : decode cX1_judgeTruths 36 = .ok (.iconst 0, 1) := by decide +kernel
theorem dX1_judgeTruths_37 : decode cX1_judgeTruths 37 = .ok (.istore_n 3, 1) := by decide +kernel
theorem dX1_judgeTruths_38 : decode cX1_judgeTruths 38 = .ok (.iload_n 3, 1) := by decide +kernel
theorem dX1_judgeTruths_39 : decode cX1_judgeTruths 39 = .ok (.aload_n 0, 1) := by decide +kernel
theorem dX1_judgeTruths_40 : decode cX1_judgeTruths 40 = .ok (.getfield 44, 3) := by decide +kernel
theorem dX1_judgeTruths_43 : decode cX1_judgeTruths 43 = .ok (.if_icmp .ge 25, 3) := by decide +kernel
theorem dX1_judgeTruths_46 : decode cX1_judgeTruths 46 = .ok (.aload_n 0, 1) := by decide +kernel
theorem dX1_judgeTruths_47 : decode cX1_judgeTruths 47 = .ok (.dup, 1) := by decide +kernel
theorem dX1_judgeTruths_48 : decode cX1_judgeTruths 48 = .ok (.getfield 47, 3) := by decide +kernel
theorem dX1_judgeTruths_51 : decode cX1_judgeTruths 51 = .ok (.aload_n 2, 1) := by decide +kernel
theorem dX1_judgeTruths_52 : decode cX1_judgeTruths 52 = .ok (.iload_n 3, 1) := by decide +kernel
theorem dX1_judgeTruths_53 : decode cX1_judgeTruths 53 = .ok (.invokevirtual 125, 3) := by decide +kernel
theorem dX1_judgeTruths_56 : decode cX1_judgeTruths 56 = .ok (.iload_n 3, 1) := by decide +kernel
theorem dX1_judgeTruths_57 : decode cX1_judgeTruths 57 = .ok (.ishl, 1) := by decide +kernel
theorem dX1_judgeTruths_58 : decode cX1_judgeTruths 58 = .ok (.ior, 1) := by decide +kernel
theorem dX1_judgeTruths_59 : decode cX1_judgeTruths 59 = .ok (.putfield 47, 3) := by decide +kernel
theorem dX1_judgeTruths_62 : decode cX1_judgeTruths 62 = .ok (.iinc 3 1, 3) := by decide +kernel
theorem dX1_judgeTruths_65 : decode cX1_judgeTruths 65 = .ok (.goto (-27), 3) := by decide +kernel
theorem dX1_judgeTruths_68 : decode cX1_judgeTruths 68 = .ok (.aload_n 0, 1) := by decide +kernel
theorem dX1_judgeTruths_69 : decode cX1_judgeTruths 69 = .ok (.getfield 47, 3) := by decide +kernel
theorem dX1_judgeTruths_72 : decode cX1_judgeTruths 72 = .ok (.invokestatic 54, 3) := by decide +kernel
theorem dX1_judgeTruths_75 : decode cX1_judgeTruths 75 = .ok (.aload_n 1, 1) := by decide +kernel
theorem dX1_judgeTruths_76 : decode cX1_judgeTruths 76 = .ok (.getfield 60, 3) := by decide +kernel
theorem dX1_judgeTruths_79 : decode cX1_judgeTruths 79 = .ok (.if_icmp .le 5, 3) := by decide +kernel
theorem dX1_judgeTruths_82 : decode cX1_judgeTruths 82 = .ok (.iconst 2, 1) := by decide +kernel
theorem dX1_judgeTruths_83 : decode cX1_judgeTruths 83 = .ok (.ireturn, 1) := by decide +kernel
theorem dX1_judgeTruths_84 : decode cX1_judgeTruths 84 = .ok (.aload_n 0, 1) := by decide +kernel
theorem dX1_judgeTruths_85 : decode cX1_judgeTruths 85 = .ok (.aload_n 1, 1) := by decide +kernel
theorem dX1_judgeTruths_86 : decode cX1_judgeTruths 86 = .ok (.invokevirtual 63, 3) := by decide +kernel
theorem dX1_judgeTruths_89 : decode cX1_judgeTruths 89 = .ok (.ifCond .ge 7, 3) := by decide +kernel
theorem dX1_judgeTruths_92 : decode cX1_judgeTruths 92 = .ok (.iconst 0, 1) := by decide +kernel
theorem dX1_judgeTruths_93 : decode cX1_judgeTruths 93 = .ok (.goto 4, 3) := by decide +kernel
theorem dX1_judgeTruths_96 : decode cX1_judgeTruths 96 = .ok (.iconst 3, 1) := by decide +kernel
theorem dX1_judgeTruths_97 : decode cX1_judgeTruths 97 = .ok (.ireturn, 1) := by decide +kernel
theorem dX1_judgeTree_0 : decode cX1_judgeTree 0 = .ok (.aload_n 2, 1) := by decide +kernel
theorem dX1_judgeTree_1 : decode cX1_judgeTree 1 = .ok (.iconst 0, 1) := by decide +kernel
theorem dX1_judgeTree_2 : decode cX1_judgeTree 2 = .ok (.iconst (-1), 1) := by decide +kernel
theorem dX1_judgeTree_3 : decode cX1_judgeTree 3 = .ok (.aload_n 1, 1) := by decide +kernel
theorem dX1_judgeTree_4 : decode cX1_judgeTree 4 = .ok (.getfield 73, 3) := by decide +kernel
theorem dX1_judgeTree_7 : decode cX1_judgeTree 7 = .ok (.iconst 1, 1) := by decide +kernel
theorem dX1_judgeTree_8 : decode cX1_judgeTree 8 = .ok (.isub, 1) := by decide +kernel
theorem dX1_judgeTree_9 : decode cX1_judgeTree 9 = .ok (.invokevirtual 121, 3) := by decide +kernel
theorem dX1_judgeTree_12 : decode cX1_judgeTree 12 = .ok (.ifCond .ne 5, 3) := by decide +kernel
theorem dX1_judgeTree_15 : decode cX1_judgeTree 15 = .ok (.iconst 1, 1) := by decide +kernel
theorem dX1_judgeTree_16 : decode cX1_judgeTree 16 = .ok (.ireturn, 1) := by decide +kernel
theorem dX1_judgeTree_17 : decode cX1_judgeTree 17 = .ok (.aload_n 0, 1) := by decide +kernel
theorem dX1_judgeTree_18 : decode cX1_judgeTree 18 = .ok (.invokevirtual 98, 3) := by decide +kernel
theorem dX1_judgeTree_21 : decode cX1_judgeTree 21 = .ok (.iconst 0, 1) := by decide +kernel
theorem dX1_judgeTree_22 : decode cX1_judgeTree 22 = .ok (.istore_n 3, 1) := by decide +kernel
theorem dX1_judgeTree_23 : decode cX1_judgeTree 23 = .ok (.iconst 0, 1) := by decide +kernel
theorem dX1_judgeTree_24 : decode cX1_judgeTree 24 = .ok (.istore 4, 2) := by decide +kernel
theorem dX1_judgeTree_26 : decode cX1_judgeTree 26 = .ok (.iload 4, 2) := by decide +kernel
theorem dX1_judgeTree_28 : decode cX1_judgeTree 28 = .ok (.sipush 128, 3) := by decide +kernel
theorem dX1_judgeTree_31 : decode cX1_judgeTree 31 = .ok (.if_icmp .ge 73, 3) := by decide +kernel
theorem dX1_judgeTree_34 : decode cX1_judgeTree 34 = .ok (.aload_n 0, 1) := by decide +kernel
theorem dX1_judgeTree_35 : decode cX1_judgeTree 35 = .ok (.getfield 88, 3) := by decide +kernel
theorem dX1_judgeTree_38 : decode cX1_judgeTree 38 = .ok (.ifCond .ne 66, 3) := by decide +kernel
theorem dX1_judgeTree_41 : decode cX1_judgeTree 41 = .ok (.iload_n 3, 1) := by decide +kernel
theorem dX1_judgeTree_42 : decode cX1_judgeTree 42 = .ok (.aload_n 2, 1) := by decide +kernel
theorem dX1_judgeTree_43 : decode cX1_judgeTree 43 = .ok (.getfield 118, 3) := by decide +kernel
theorem dX1_judgeTree_46 : decode cX1_judgeTree 46 = .ok (.if_icmp .ge 26, 3) := by decide +kernel
theorem dX1_judgeTree_49 : decode cX1_judgeTree 49 = .ok (.aload_n 0, 1) := by decide +kernel
theorem dX1_judgeTree_50 : decode cX1_judgeTree 50 = .ok (.aload_n 1, 1) := by decide +kernel
theorem dX1_judgeTree_51 : decode cX1_judgeTree 51 = .ok (.aload_n 2, 1) := by decide +kernel
theorem dX1_judgeTree_52 : decode cX1_judgeTree 52 = .ok (.iload_n 3, 1) := by decide +kernel
theorem dX1_judgeTree_53 : decode cX1_judgeTree 53 = .ok (.invokevirtual 125, 3) := by decide +kernel
theorem dX1_judgeTree_56 : decode cX1_judgeTree 56 = .ok (.invokevirtual 127, 3) := by decide +kernel
theorem dX1_judgeTree_59 : decode cX1_judgeTree 59 = .ok (.ifCond .eq 13, 3) := by decide +kernel
theorem dX1_judgeTree_62 : decode cX1_judgeTree 62 = .ok (.iinc 3 1, 3) := by decide +kernel
theorem dX1_judgeTree_65 : decode cX1_judgeTree 65 = .ok (.aload_n 0, 1) := by decide +kernel
theorem dX1_judgeTree_66 : decode cX1_judgeTree 66 = .ok (.invokevirtual 108, 3) := by decide +kernel
theorem dX1_judgeTree_69 : decode cX1_judgeTree 69 = .ok (.goto 29, 3) := by decide +kernel
theorem dX1_judgeTree_72 : decode cX1_judgeTree 72 = .ok (.aload_n 0, 1) := by decide +kernel
theorem dX1_judgeTree_73 : decode cX1_judgeTree 73 = .ok (.getfield 44, 3) := by decide +kernel
theorem dX1_judgeTree_76 : decode cX1_judgeTree 76 = .ok (.aload_n 1, 1) := by decide +kernel
theorem dX1_judgeTree_77 : decode cX1_judgeTree 77 = .ok (.getfield 18, 3) := by decide +kernel
theorem dX1_judgeTree_80 : decode cX1_judgeTree 80 = .ok (.if_icmp .ge 16, 3) := by decide +kernel
theorem dX1_judgeTree_83 : decode cX1_judgeTree 83 = .ok (.aload_n 0, 1) := by decide +kernel
theorem dX1_judgeTree_84 : decode cX1_judgeTree 84 = .ok (.dup, 1) := by decide +kernel
theorem dX1_judgeTree_85 : decode cX1_judgeTree 85 = .ok (.getfield 44, 3) := by decide +kernel
theorem dX1_judgeTree_88 : decode cX1_judgeTree 88 = .ok (.iconst 1, 1) := by decide +kernel
theorem dX1_judgeTree_89 : decode cX1_judgeTree 89 = .ok (.iadd, 1) := by decide +kernel
theorem dX1_judgeTree_90 : decode cX1_judgeTree 90 = .ok (.putfield 44, 3) := by decide +kernel
theorem dX1_judgeTree_93 : decode cX1_judgeTree 93 = .ok (.goto 5, 3) := by decide +kernel
theorem dX1_judgeTree_96 : decode cX1_judgeTree 96 = .ok (.iconst 2, 1) := by decide +kernel
theorem dX1_judgeTree_97 : decode cX1_judgeTree 97 = .ok (.ireturn, 1) := by decide +kernel
theorem dX1_judgeTree_98 : decode cX1_judgeTree 98 = .ok (.iinc 4 1, 3) := by decide +kernel
theorem dX1_judgeTree_101 : decode cX1_judgeTree 101 = .ok (.goto (-75), 3) := by decide +kernel
theorem dX1_judgeTree_104 : decode cX1_judgeTree 104 = .ok (.iload_n 3, 1) := by decide +kernel
theorem dX1_judgeTree_105 : decode cX1_judgeTree 105 = .ok (.aload_n 2, 1) := by decide +kernel
theorem dX1_judgeTree_106 : decode cX1_judgeTree 106 = .ok (.getfield 118, 3) := by decide +kernel
theorem dX1_judgeTree_109 : decode cX1_judgeTree 109 = .ok (.if_icmp .ne 7, 3) := by decide +kernel
theorem dX1_judgeTree_112 : decode cX1_judgeTree 112 = .ok (.iconst 0, 1) := by decide +kernel
theorem dX1_judgeTree_113 : decode cX1_judgeTree 113 = .ok (.goto 4, 3) := by decide +kernel
theorem dX1_judgeTree_116 : decode cX1_judgeTree 116 = .ok (.iconst 3, 1) := by decide +kernel
theorem dX1_judgeTree_117 : decode cX1_judgeTree 117 = .ok (.ireturn, 1) := by decide +kernel
theorem dX1_isLeaf_0 : decode cX1_isLeaf 0 = .ok (.iload_n 2, 1) := by decide +kernel
theorem dX1_isLeaf_1 : decode cX1_isLeaf 1 = .ok (.ifCond .lt 10, 3) := by decide +kernel
theorem dX1_isLeaf_4 : decode cX1_isLeaf 4 = .ok (.aload_n 0, 1) := by decide +kernel
theorem dX1_isLeaf_5 : decode cX1_isLeaf 5 = .ok (.aload_n 1, 1) := by decide +kernel
theorem dX1_isLeaf_6 : decode cX1_isLeaf 6 = .ok (.iload_n 2, 1) := by decide +kernel
theorem dX1_isLeaf_7 : decode cX1_isLeaf 7 = .ok (.invokevirtual 76, 3) := by decide +kernel
theorem dX1_isLeaf_10 : decode cX1_isLeaf 10 = .ok (.ireturn, 1) := by decide +kernel
theorem dX1_isLeaf_11 : decode cX1_isLeaf 11 = .ok (.aload_n 0, 1) := by decide +kernel
theorem dX1_isLeaf_12 : decode cX1_isLeaf 12 = .ok (.getfield 47, 3) := by decide +kernel
theorem dX1_isLeaf_15 : decode cX1_isLeaf 15 = .ok (.invokestatic 54, 3) := by decide +kernel
theorem dX1_isLeaf_18 : decode cX1_isLeaf 18 = .ok (.aload_n 1, 1) := by decide +kernel
theorem dX1_isLeaf_19 : decode cX1_isLeaf 19 = .ok (.getfield 60, 3) := by decide +kernel
theorem dX1_isLeaf_22 : decode cX1_isLeaf 22 = .ok (.if_icmp .le 7, 3) := by decide +kernel
theorem dX1_isLeaf_25 : decode cX1_isLeaf 25 = .ok (.iconst 1, 1) := by decide +kernel
theorem dX1_isLeaf_26 : decode cX1_isLeaf 26 = .ok (.goto 4, 3) := by decide +kernel
theorem dX1_isLeaf_29 : decode cX1_isLeaf 29 = .ok (.iconst 0, 1) := by decide +kernel
theorem dX1_isLeaf_30 : decode cX1_isLeaf 30 = .ok (.ireturn, 1) := by decide +kernel
