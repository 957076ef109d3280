theorem dX9_init_0 : decode cX9_init 0 = .ok (.aload_n 0, 1) := by decide +kernel
theorem dX9_init_1 : decode cX9_init 1 = .ok (.invokespecial 1, 3) := by decide +kernel
theorem dX9_init_4 : decode cX9_init 4 = .ok (.aload_n 0, 1) := by decide +kernel
theorem dX9_init_5 : decode cX9_init 5 = .ok (.bipush 16, 2) := by decide +kernel
theorem dX9_init_7 : decode cX9_init 7 = .ok (.newarray .int, 2) := by decide +kernel
theorem dX9_init_9 : decode cX9_init 9 = .ok (.putfield 7, 3) := by decide +kernel
theorem dX9_init_12 : decode cX9_init 12 = .ok (.return_, 1) := by decide +kernel
theorem dX9_clear_0 : decode cX9_clear 0 = .ok (.aload_n 0, 1) := by decide +kernel
theorem dX9_clear_1 : decode cX9_clear 1 = .ok (.iconst 0, 1) := by decide +kernel
theorem dX9_clear_2 : decode cX9_clear 2 = .ok (.putfield 13, 3) := by decide +kernel
theorem dX9_clear_5 : decode cX9_clear 5 = .ok (.return_, 1) := by decide +kernel
theorem dX9_add_0 : decode cX9_add 0 = .ok (.aload_n 0, 1) := by decide +kernel
theorem dX9_add_1 : decode cX9_add 1 = .ok (.getfield 13, 3) := by decide +kernel
theorem dX9_add_4 : decode cX9_add 4 = .ok (.sipush 1024, 3) := by decide +kernel
theorem dX9_add_7 : decode cX9_add 7 = .ok (.if_icmp .lt 4, 3) := by decide +kernel
theorem dX9_add_10 : decode cX9_add 10 = .ok (.return_, 1) := by decide +kernel
theorem dX9_add_11 : decode cX9_add 11 = .ok (.aload_n 0, 1) := by decide +kernel
theorem dX9_add_12 : decode cX9_add 12 = .ok (.getfield 13, 3) := by decide +kernel
theorem dX9_add_15 : decode cX9_add 15 = .ok (.aload_n 0, 1) := by decide +kernel
theorem dX9_add_16 : decode cX9_add 16 = .ok (.getfield 7, 3) := by decide +kernel
theorem dX9_add_19 : decode cX9_add 19 = .ok (.arraylength, 1) := by decide +kernel
theorem dX9_add_20 : decode cX9_add 20 = .ok (.if_icmp .lt 21, 3) := by decide +kernel
theorem dX9_add_23 : decode cX9_add 23 = .ok (.aload_n 0, 1) := by decide +kernel
theorem dX9_add_24 : decode cX9_add 24 = .ok (.aload_n 0, 1) := by decide +kernel
theorem dX9_add_25 : decode cX9_add 25 = .ok (.getfield 7, 3) := by decide +kernel
theorem dX9_add_28 : decode cX9_add 28 = .ok (.iconst 2, 1) := by decide +kernel
theorem dX9_add_29 : decode cX9_add 29 = .ok (.aload_n 0, 1) := by decide +kernel
theorem dX9_add_30 : decode cX9_add 30 = .ok (.getfield 7, 3) := by decide +kernel
theorem dX9_add_33 : decode cX9_add 33 = .ok (.arraylength, 1) := by decide +kernel
theorem dX9_add_34 : decode cX9_add 34 = .ok (.imul, 1) := by decide +kernel
theorem dX9_add_35 : decode cX9_add 35 = .ok (.invokestatic 17, 3) := by decide +kernel
theorem dX9_add_38 : decode cX9_add 38 = .ok (.putfield 7, 3) := by decide +kernel
theorem dX9_add_41 : decode cX9_add 41 = .ok (.aload_n 0, 1) := by decide +kernel
theorem dX9_add_42 : decode cX9_add 42 = .ok (.getfield 7, 3) := by decide +kernel
theorem dX9_add_45 : decode cX9_add 45 = .ok (.aload_n 0, 1) := by decide +kernel
theorem dX9_add_46 : decode cX9_add 46 = .ok (.getfield 13, 3) := by decide +kernel
theorem dX9_add_49 : decode cX9_add 49 = .ok (.iload_n 1, 1) := by decide +kernel
theorem dX9_add_50 : decode cX9_add 50 = .ok (.iastore, 1) := by decide +kernel
theorem dX9_add_51 : decode cX9_add 51 = .ok (.aload_n 0, 1) := by decide +kernel
theorem dX9_add_52 : decode cX9_add 52 = .ok (.dup, 1) := by decide +kernel
theorem dX9_add_53 : decode cX9_add 53 = .ok (.getfield 13, 3) := by decide +kernel
theorem dX9_add_56 : decode cX9_add 56 = .ok (.iconst 1, 1) := by decide +kernel
theorem dX9_add_57 : decode cX9_add 57 = .ok (.iadd, 1) := by decide +kernel
theorem dX9_add_58 : decode cX9_add 58 = .ok (.putfield 13, 3) := by decide +kernel
theorem dX9_add_61 : decode cX9_add 61 = .ok (.return_, 1) := by decide +kernel
theorem dX9_addBelow_0 : decode cX9_addBelow 0 = .ok (.aload_n 0, 1) := by decide +kernel
theorem dX9_addBelow_1 : decode cX9_addBelow 1 = .ok (.getfield 13, 3) := by decide +kernel
theorem dX9_addBelow_4 : decode cX9_addBelow 4 = .ok (.iload_n 1, 1) := by decide +kernel
theorem dX9_addBelow_5 : decode cX9_addBelow 5 = .ok (.if_icmp .ge 8, 3) := by decide +kernel
theorem dX9_addBelow_8 : decode cX9_addBelow 8 = .ok (.aload_n 0, 1) := by decide +kernel
theorem dX9_addBelow_9 : decode cX9_addBelow 9 = .ok (.iload_n 2, 1) := by decide +kernel
theorem dX9_addBelow_10 : decode cX9_addBelow 10 = .ok (.invokevirtual 23, 3) := by decide +kernel
theorem dX9_addBelow_13 : decode cX9_addBelow 13 = .ok (.return_, 1) := by decide +kernel
theorem dX9_at_0 : decode cX9_at 0 = .ok (.iload_n 1, 1) := by decide +kernel
theorem dX9_at_1 : decode cX9_at 1 = .ok (.ifCond .lt 20, 3) := by decide +kernel
theorem dX9_at_4 : decode cX9_at 4 = .ok (.iload_n 1, 1) := by decide +kernel
theorem dX9_at_5 : decode cX9_at 5 = .ok (.aload_n 0, 1) := by decide +kernel
theorem dX9_at_6 : decode cX9_at 6 = .ok (.getfield 13, 3) := by decide +kernel
theorem dX9_at_9 : decode cX9_at 9 = .ok (.if_icmp .ge 12, 3) := by decide +kernel
theorem dX9_at_12 : decode cX9_at 12 = .ok (.aload_n 0, 1) := by decide +kernel
theorem dX9_at_13 : decode cX9_at 13 = .ok (.getfield 7, 3) := by decide +kernel
theorem dX9_at_16 : decode cX9_at 16 = .ok (.iload_n 1, 1) := by decide +kernel
theorem dX9_at_17 : decode cX9_at 17 = .ok (.iaload, 1) := by decide +kernel
theorem dX9_at_18 : decode cX9_at 18 = .ok (.goto 4, 3) := by decide +kernel
theorem dX9_at_21 : decode cX9_at 21 = .ok (.iconst 0, 1) := by decide +kernel
theorem dX9_at_22 : decode cX9_at 22 = .ok (.ireturn, 1) := by decide +kernel
theorem dX9_set_0 : decode cX9_set 0 = .ok (.iload_n 1, 1) := by decide +kernel
theorem dX9_set_1 : decode cX9_set 1 = .ok (.ifCond .lt 18, 3) := by decide +kernel
theorem dX9_set_4 : decode cX9_set 4 = .ok (.iload_n 1, 1) := by decide +kernel
theorem dX9_set_5 : decode cX9_set 5 = .ok (.aload_n 0, 1) := by decide +kernel
theorem dX9_set_6 : decode cX9_set 6 = .ok (.getfield 13, 3) := by decide +kernel
theorem dX9_set_9 : decode cX9_set 9 = .ok (.if_icmp .ge 10, 3) := by decide +kernel
theorem dX9_set_12 : decode cX9_set 12 = .ok (.aload_n 0, 1) := by decide +kernel
theorem dX9_set_13 : decode cX9_set 13 = .ok (.getfield 7, 3) := by decide +kernel
theorem dX9_set_16 : decode cX9_set 16 = .ok (.iload_n 1, 1) := by decide +kernel
theorem dX9_set_17 : decode cX9_set 17 = .ok (.iload_n 2, 1) := by decide +kernel
theorem dX9_set_18 : decode cX9_set 18 = .ok (.iastore, 1) := by decide +kernel
theorem dX9_set_19 : decode cX9_set 19 = .ok (.return_, 1) := by decide +kernel
theorem dX9_copy_0 : decode cX9_copy 0 = .ok (.aload_n 0, 1) := by decide +kernel
theorem dX9_copy_1 : decode cX9_copy 1 = .ok (.getfield 7, 3) := by decide +kernel
theorem dX9_copy_4 : decode cX9_copy 4 = .ok (.arraylength, 1) := by decide +kernel
theorem dX9_copy_5 : decode cX9_copy 5 = .ok (.aload_n 1, 1) := by decide +kernel
theorem dX9_copy_6 : decode cX9_copy 6 = .ok (.getfield 13, 3) := by decide +kernel
theorem dX9_copy_9 : decode cX9_copy 9 = .ok (.if_icmp .ge 14, 3) := by decide +kernel
theorem dX9_copy_12 : decode cX9_copy 12 = .ok (.aload_n 0, 1) := by decide +kernel
theorem dX9_copy_13 : decode cX9_copy 13 = .ok (.aload_n 1, 1) := by decide +kernel
theorem dX9_copy_14 : decode cX9_copy 14 = .ok (.getfield 7, 3) := by decide +kernel
theorem dX9_copy_17 : decode cX9_copy 17 = .ok (.arraylength, 1) := by decide +kernel
theorem dX9_copy_18 : decode cX9_copy 18 = .ok (.newarray .int, 2) := by decide +kernel
theorem dX9_copy_20 : decode cX9_copy 20 = .ok (.putfield 7, 3) := by decide +kernel
theorem dX9_copy_23 : decode cX9_copy 23 = .ok (.aload_n 1, 1) := by decide +kernel
theorem dX9_copy_24 : decode cX9_copy 24 = .ok (.getfield 7, 3) := by decide +kernel
theorem dX9_copy_27 : decode cX9_copy 27 = .ok (.iconst 0, 1) := by decide +kernel
theorem dX9_copy_28 : decode cX9_copy 28 = .ok (.aload_n 0, 1) := by decide +kernel
theorem dX9_copy_29 : decode cX9_copy 29 = .ok (.getfield 7, 3) := by decide +kernel
theorem dX9_copy_32 : decode cX9_copy 32 = .ok (.iconst 0, 1) := by decide +kernel
theorem dX9_copy_33 : decode cX9_copy 33 = .ok (.aload_n 1, 1) := by decide +kernel
theorem dX9_copy_34 : decode cX9_copy 34 = .ok (.getfield 13, 3) := by decide +kernel
theorem dX9_copy_37 : decode cX9_copy 37 = .ok (.invokestatic 27, 3) := by decide +kernel
theorem dX9_copy_40 : decode cX9_copy 40 = .ok (.aload_n 0, 1) := by decide +kernel
theorem dX9_copy_41 : decode cX9_copy 41 = .ok (.aload_n 1, 1) := by decide +kernel
theorem dX9_copy_42 : decode cX9_copy 42 = .ok (.getfield 13, 3) := by decide +kernel
theorem dX9_copy_45 : decode cX9_copy 45 = .ok (.putfield 13, 3) := by decide +kernel
theorem dX9_copy_48 : decode cX9_copy 48 = .ok (.return_, 1) := by decide +kernel
theorem dX9_isLike_0 : decode cX9_isLike 0 = .ok (.aload_n 0, 1) := by decide +kernel
theorem dX9_isLike_1 : decode cX9_isLike 1 = .ok (.getfield 13, 3) := by decide +kernel
theorem dX9_isLike_4 : decode cX9_isLike 4 = .ok (.aload_n 1, 1) := by decide +kernel
theorem dX9_isLike_5 : decode cX9_isLike 5 = .ok (.getfield 13, 3) := by decide +kernel
theorem dX9_isLike_8 : decode cX9_isLike 8 = .ok (.if_icmp .ne 19, 3) := by decide +kernel
theorem dX9_isLike_11 : decode cX9_isLike 11 = .ok (.aload_n 0, 1) := by decide +kernel
theorem dX9_isLike_12 : decode cX9_isLike 12 = .ok (.aload_n 1, 1) := by decide +kernel
theorem dX9_isLike_13 : decode cX9_isLike 13 = .ok (.invokevirtual 33, 3) := by decide +kernel
theorem dX9_isLike_16 : decode cX9_isLike 16 = .ok (.aload_n 0, 1) := by decide +kernel
theorem dX9_isLike_17 : decode cX9_isLike 17 = .ok (.getfield 13, 3) := by decide +kernel
theorem dX9_isLike_20 : decode cX9_isLike 20 = .ok (.if_icmp .ne 7, 3) := by decide +kernel
theorem dX9_isLike_23 : decode cX9_isLike 23 = .ok (.iconst 1, 1) := by decide +kernel
theorem dX9_isLike_24 : decode cX9_isLike 24 = .ok (.goto 4, 3) := by decide +kernel
theorem dX9_isLike_27 : decode cX9_isLike 27 = .ok (.iconst 0, 1) := by decide +kernel
theorem dX9_isLike_28 : decode cX9_isLike 28 = .ok (.ireturn, 1) := by decide +kernel
theorem dX9_firstUnlike_0 : decode cX9_firstUnlike 0 = .ok (.aload_n 0, 1) := by decide +kernel
theorem dX9_firstUnlike_1 : decode cX9_firstUnlike 1 = .ok (.getfield 13, 3) := by decide +kernel
theorem dX9_firstUnlike_4 : decode cX9_firstUnlike 4 = .ok (.aload_n 1, 1) := by decide +kernel
theorem dX9_firstUnlike_5 : decode cX9_firstUnlike 5 = .ok (.getfield 13, 3) := by decide +kernel
theorem dX9_firstUnlike_8 : decode cX9_firstUnlike 8 = .ok (.invokestatic 37, 3) := by decide +kernel
theorem dX9_firstUnlike_11 : decode cX9_firstUnlike 11 = .ok (.istore_n 2, 1) := by decide +kernel
theorem dX9_firstUnlike_12 : decode cX9_firstUnlike 12 = .ok (.iconst 0, 1) := by decide +kernel
theorem dX9_firstUnlike_13 : decode cX9_firstUnlike 13 = .ok (.istore_n 3, 1) := by decide +kernel
theorem dX9_firstUnlike_14 : decode cX9_firstUnlike 14 = .ok (.iload_n 3, 1) := by decide +kernel
theorem dX9_firstUnlike_15 : decode cX9_firstUnlike 15 = .ok (.iload_n 2, 1) := by decide +kernel
theorem dX9_firstUnlike_16 : decode cX9_firstUnlike 16 = .ok (.if_icmp .ge 26, 3) := by decide +kernel
theorem dX9_firstUnlike_19 : decode cX9_firstUnlike 19 = .ok (.aload_n 0, 1) := by decide +kernel
theorem dX9_firstUnlike_20 : decode cX9_firstUnlike 20 = .ok (.getfield 7, 3) := by decide +kernel
theorem dX9_firstUnlike_23 : decode cX9_firstUnlike 23 = .ok (.iload_n 3, 1) := by decide +kernel
theorem dX9_firstUnlike_24 : decode cX9_firstUnlike 24 = .ok (.iaload, 1) := by decide +kernel
theorem dX9_firstUnlike_25 : decode cX9_firstUnlike 25 = .ok (.aload_n 1, 1) := by decide +kernel
theorem dX9_firstUnlike_26 : decode cX9_firstUnlike 26 = .ok (.getfield 7, 3) := by decide +kernel
theorem dX9_firstUnlike_29 : decode cX9_firstUnlike 29 = .ok (.iload_n 3, 1) := by decide +kernel
theorem dX9_firstUnlike_30 : decode cX9_firstUnlike 30 = .ok (.iaload, 1) := by decide +kernel
theorem dX9_firstUnlike_31 : decode cX9_firstUnlike 31 = .ok (.if_icmp .eq 5, 3) := by decide +kernel
theorem dX9_firstUnlike_34 : decode cX9_firstUnlike 34 = .ok (.iload_n 3, 1) := by decide +kernel
theorem dX9_firstUnlike_35 : decode cX9_firstUnlike 35 = .ok (.ireturn, 1) := by decide +kernel
theorem dX9_firstUnlike_36 : decode cX9_firstUnlike 36 = .ok (.iinc 3 1, 3) := by decide +kernel
theorem dX9_firstUnlike_39 : decode cX9_firstUnlike 39 = .ok (.goto (-25), 3) := by decide +kernel
theorem dX9_firstUnlike_42 : decode cX9_firstUnlike 42 = .ok (.iload_n 2, 1) := by decide +kernel
theorem dX9_firstUnlike_43 : decode cX9_firstUnlike 43 = .ok (.ireturn, 1) := by decide +kernel
theorem dX9_total_0 : decode cX9_total 0 = .ok (.ldc2_w 43, 3) := by decide +kernel
theorem dX9_total_3 : decode cX9_total 3 = .ok (.lstore_n 1, 1) := by decide +kernel
theorem dX9_total_4 : decode cX9_total 4 = .ok (.iconst 0, 1) := by decide +kernel
theorem dX9_total_5 : decode cX9_total 5 = .ok (.istore_n 3, 1) := by decide +kernel
theorem dX9_total_6 : decode cX9_total 6 = .ok (.iload_n 3, 1) := by decide +kernel
theorem dX9_total_7 : decode cX9_total 7 = .ok (.aload_n 0, 1) := by decide +kernel
theorem dX9_total_8 : decode cX9_total 8 = .ok (.getfield 13, 3) := by decide +kernel
theorem dX9_total_11 : decode cX9_total 11 = .ok (.if_icmp .ge 23, 3) := by decide +kernel
theorem dX9_total_14 : decode cX9_total 14 = .ok (.ldc2_w 45, 3) := by decide +kernel
theorem dX9_total_17 : decode cX9_total 17 = .ok (.lload_n 1, 1) := by decide +kernel
theorem dX9_total_18 : decode cX9_total 18 = .ok (.lmul, 1) := by decide +kernel
theorem dX9_total_19 : decode cX9_total 19 = .ok (.aload_n 0, 1) := by decide +kernel
theorem dX9_total_20 : decode cX9_total 20 = .ok (.getfield 7, 3) := by decide +kernel
theorem dX9_total_23 : decode cX9_total 23 = .ok (.iload_n 3, 1) := by decide +kernel
theorem dX9_total_24 : decode cX9_total 24 = .ok (.iaload, 1) := by decide +kernel
theorem dX9_total_25 : decode cX9_total 25 = .ok (.i2l, 1) := by decide +kernel
theorem dX9_total_26 : decode cX9_total 26 = .ok (.ladd, 1) := by decide +kernel
theorem dX9_total_27 : decode cX9_total 27 = .ok (.lstore_n 1, 1) := by decide +kernel
theorem dX9_total_28 : decode cX9_total 28 = .ok (.iinc 3 1, 3) := by decide +kernel
theorem dX9_total_31 : decode cX9_total 31 = .ok (.goto (-25), 3) := by decide +kernel
theorem dX9_total_34 : decode cX9_total 34 = .ok (.lload_n 1, 1) := by decide +kernel
theorem dX9_total_35 : decode cX9_total 35 = .ok (.lreturn, 1) := by decide +kernel
theorem dX9_liesWithin_0 : decode cX9_liesWithin 0 = .ok (.iload_n 1, 1) := by decide +kernel
theorem dX9_liesWithin_1 : decode cX9_liesWithin 1 = .ok (.istore 4, 2) := by decide +kernel
theorem dX9_liesWithin_3 : decode cX9_liesWithin 3 = .ok (.iload 4, 2) := by decide +kernel
theorem dX9_liesWithin_5 : decode cX9_liesWithin 5 = .ok (.aload_n 0, 1) := by decide +kernel
theorem dX9_liesWithin_6 : decode cX9_liesWithin 6 = .ok (.getfield 13, 3) := by decide +kernel
theorem dX9_liesWithin_9 : decode cX9_liesWithin 9 = .ok (.if_icmp .ge 33, 3) := by decide +kernel
theorem dX9_liesWithin_12 : decode cX9_liesWithin 12 = .ok (.aload_n 0, 1) := by decide +kernel
theorem dX9_liesWithin_13 : decode cX9_liesWithin 13 = .ok (.getfield 7, 3) := by decide +kernel
theorem dX9_liesWithin_16 : decode cX9_liesWithin 16 = .ok (.iload 4, 2) := by decide +kernel
theorem dX9_liesWithin_18 : decode cX9_liesWithin 18 = .ok (.iaload, 1) := by decide +kernel
theorem dX9_liesWithin_19 : decode cX9_liesWithin 19 = .ok (.iload_n 2, 1) := by decide +kernel
theorem dX9_liesWithin_20 : decode cX9_liesWithin 20 = .ok (.if_icmp .lt 14, 3) := by decide +kernel
theorem dX9_liesWithin_23 : decode cX9_liesWithin 23 = .ok (.aload_n 0, 1) := by decide +kernel
theorem dX9_liesWithin_24 : decode cX9_liesWithin 24 = .ok (.getfield 7, 3) := by decide +kernel
theorem dX9_liesWithin_27 : decode cX9_liesWithin 27 = .ok (.iload 4, 2) := by decide +kernel
theorem dX9_liesWithin_29 : decode cX9_liesWithin 29 = .ok (.iaload, 1) := by decide +kernel
theorem dX9_liesWithin_30 : decode cX9_liesWithin 30 = .ok (.iload_n 3, 1) := by decide +kernel
theorem dX9_liesWithin_31 : decode cX9_liesWithin 31 = .ok (.if_icmp .le 5, 3) := by decide +kernel
theorem dX9_liesWithin_34 : decode cX9_liesWithin 34 = .ok (.iconst 0, 1) := by decide +kernel
theorem dX9_liesWithin_35 : decode cX9_liesWithin 35 = .ok (.ireturn, 1) := by decide +kernel
theorem dX9_liesWithin_36 : decode cX9_liesWithin 36 = .ok (.iinc 4 1, 3) := by decide +kernel
theorem dX9_liesWithin_39 : decode cX9_liesWithin 39 = .ok (.goto (-36), 3) := by decide +kernel
theorem dX9_liesWithin_42 : decode cX9_liesWithin 42 = .ok (.iconst 1, 1) := by decide +kernel
theorem dX9_liesWithin_43 : decode cX9_liesWithin 43 = .ok (.ireturn, 1) := by decide +kernel
theorem dX9_isRising_0 : decode cX9_isRising 0 = .ok (.iload_n 1, 1) := by decide +kernel
theorem dX9_isRising_1 : decode cX9_isRising 1 = .ok (.iconst 1, 1) := by decide +kernel
theorem dX9_isRising_2 : decode cX9_isRising 2 = .ok (.iadd, 1) := by decide +kernel
theorem dX9_isRising_3 : decode cX9_isRising 3 = .ok (.istore_n 2, 1) := by decide +kernel
theorem dX9_isRising_4 : decode cX9_isRising 4 = .ok (.iload_n 2, 1) := by decide +kernel
theorem dX9_isRising_5 : decode cX9_isRising 5 = .ok (.aload_n 0, 1) := by decide +kernel
theorem dX9_isRising_6 : decode cX9_isRising 6 = .ok (.getfield 13, 3) := by decide +kernel
theorem dX9_isRising_9 : decode cX9_isRising 9 = .ok (.if_icmp .ge 28, 3) := by decide +kernel
theorem dX9_isRising_12 : decode cX9_isRising 12 = .ok (.aload_n 0, 1) := by decide +kernel
theorem dX9_isRising_13 : decode cX9_isRising 13 = .ok (.getfield 7, 3) := by decide +kernel
theorem dX9_isRising_16 : decode cX9_isRising 16 = .ok (.iload_n 2, 1) := by decide +kernel
theorem dX9_isRising_17 : decode cX9_isRising 17 = .ok (.iaload, 1) := by decide +kernel
theorem dX9_isRising_18 : decode cX9_isRising 18 = .ok (.aload_n 0, 1) := by decide +kernel
theorem dX9_isRising_19 : decode cX9_isRising 19 = .ok (.getfield 7, 3) := by decide +kernel
theorem dX9_isRising_22 : decode cX9_isRising 22 = .ok (.iload_n 2, 1) := by decide +kernel
theorem dX9_isRising_23 : decode cX9_isRising 23 = .ok (.iconst 1, 1) := by decide +kernel
theorem dX9_isRising_24 : decode cX9_isRising 24 = .ok (.isub, 1) := by decide +kernel
theorem dX9_isRising_25 : decode cX9_isRising 25 = .ok (.iaload, 1) := by decide +kernel
theorem dX9_isRising_26 : decode cX9_isRising 26 = .ok (.if_icmp .gt 5, 3) := by decide +kernel
theorem dX9_isRising_29 : decode cX9_isRising 29 = .ok (.iconst 0, 1) := by decide +kernel
theorem dX9_isRising_30 : decode cX9_isRising 30 = .ok (.ireturn, 1) := by decide +kernel
theorem dX9_isRising_31 : decode cX9_isRising 31 = .ok (.iinc 2 1, 3) := by decide +kernel
theorem dX9_isRising_34 : decode cX9_isRising 34 = .ok (.goto (-30), 3) := by decide +kernel
theorem dX9_isRising_37 : decode cX9_isRising 37 = .ok (.iconst 1, 1) := by decide +kernel
theorem dX9_isRising_38 : decode cX9_isRising 38 = .ok (.ireturn, 1) := by decide +kernel
theorem dX9_holds_0 : decode cX9_holds 0 = .ok (.iload_n 1, 1) := by decide +kernel
theorem dX9_holds_1 : decode cX9_holds 1 = .ok (.istore_n 3, 1) := by decide +kernel
theorem dX9_holds_2 : decode cX9_holds 2 = .ok (.aload_n 0, 1) := by decide +kernel
theorem dX9_holds_3 : decode cX9_holds 3 = .ok (.getfield 13, 3) := by decide +kernel
theorem dX9_holds_6 : decode cX9_holds 6 = .ok (.iconst 1, 1) := by decide +kernel
theorem dX9_holds_7 : decode cX9_holds 7 = .ok (.isub, 1) := by decide +kernel
theorem dX9_holds_8 : decode cX9_holds 8 = .ok (.istore 4, 2) := by decide +kernel
theorem dX9_holds_10 : decode cX9_holds 10 = .ok (.iconst 0, 1) := by decide +kernel
theorem dX9_holds_11 : decode cX9_holds 11 = .ok (.istore 5, 2) := by decide +kernel
theorem dX9_holds_13 : decode cX9_holds 13 = .ok (.iload 5, 2) := by decide +kernel
theorem dX9_holds_15 : decode cX9_holds 15 = .ok (.bipush 32, 2) := by decide +kernel
theorem dX9_holds_17 : decode cX9_holds 17 = .ok (.if_icmp .ge 61, 3) := by decide +kernel
theorem dX9_holds_20 : decode cX9_holds 20 = .ok (.iload_n 3, 1) := by decide +kernel
theorem dX9_holds_21 : decode cX9_holds 21 = .ok (.iload 4, 2) := by decide +kernel
theorem dX9_holds_23 : decode cX9_holds 23 = .ok (.if_icmp .gt 55, 3) := by decide +kernel
theorem dX9_holds_26 : decode cX9_holds 26 = .ok (.iload_n 3, 1) := by decide +kernel
theorem dX9_holds_27 : decode cX9_holds 27 = .ok (.iload 4, 2) := by decide +kernel
theorem dX9_holds_29 : decode cX9_holds 29 = .ok (.iadd, 1) := by decide +kernel
theorem dX9_holds_30 : decode cX9_holds 30 = .ok (.iconst 2, 1) := by decide +kernel
theorem dX9_holds_31 : decode cX9_holds 31 = .ok (.idiv, 1) := by decide +kernel
theorem dX9_holds_32 : decode cX9_holds 32 = .ok (.istore 6, 2) := by decide +kernel
theorem dX9_holds_34 : decode cX9_holds 34 = .ok (.aload_n 0, 1) := by decide +kernel
theorem dX9_holds_35 : decode cX9_holds 35 = .ok (.getfield 7, 3) := by decide +kernel
theorem dX9_holds_38 : decode cX9_holds 38 = .ok (.iload 6, 2) := by decide +kernel
theorem dX9_holds_40 : decode cX9_holds 40 = .ok (.iaload, 1) := by decide +kernel
theorem dX9_holds_41 : decode cX9_holds 41 = .ok (.iload_n 2, 1) := by decide +kernel
theorem dX9_holds_42 : decode cX9_holds 42 = .ok (.if_icmp .ne 5, 3) := by decide +kernel
theorem dX9_holds_45 : decode cX9_holds 45 = .ok (.iconst 1, 1) := by decide +kernel
theorem dX9_holds_46 : decode cX9_holds 46 = .ok (.ireturn, 1) := by decide +kernel
theorem dX9_holds_47 : decode cX9_holds 47 = .ok (.aload_n 0, 1) := by decide +kernel
theorem dX9_holds_48 : decode cX9_holds 48 = .ok (.getfield 7, 3) := by decide +kernel
theorem dX9_holds_51 : decode cX9_holds 51 = .ok (.iload 6, 2) := by decide +kernel
theorem dX9_holds_53 : decode cX9_holds 53 = .ok (.iaload, 1) := by decide +kernel
theorem dX9_holds_54 : decode cX9_holds 54 = .ok (.iload_n 2, 1) := by decide +kernel
theorem dX9_holds_55 : decode cX9_holds 55 = .ok (.if_icmp .ge 11, 3) := by decide +kernel
theorem dX9_holds_58 : decode cX9_holds 58 = .ok (.iload 6, 2) := by decide +kernel
theorem dX9_holds_60 : decode cX9_holds 60 = .ok (.iconst 1, 1) := by decide +kernel
theorem dX9_holds_61 : decode cX9_holds 61 = .ok (.iadd, 1) := by decide +kernel
theorem dX9_holds_62 : decode cX9_holds 62 = .ok (.istore_n 3, 1) := by decide +kernel
theorem dX9_holds_63 : decode cX9_holds 63 = .ok (.goto 9, 3) := by decide +kernel
theorem dX9_holds_66 : decode cX9_holds 66 = .ok (.iload 6, 2) := by decide +kernel
theorem dX9_holds_68 : decode cX9_holds 68 = .ok (.iconst 1, 1) := by decide +kernel
theorem dX9_holds_69 : decode cX9_holds 69 = .ok (.isub, 1) := by decide +kernel
theorem dX9_holds_70 : decode cX9_holds 70 = .ok (.istore 4, 2) := by decide +kernel
theorem dX9_holds_72 : decode cX9_holds 72 = .ok (.iinc 5 1, 3) := by decide +kernel
theorem dX9_holds_75 : decode cX9_holds 75 = .ok (.goto (-62), 3) := by decide +kernel
theorem dX9_holds_78 : decode cX9_holds 78 = .ok (.iconst 0, 1) := by decide +kernel
theorem dX9_holds_79 : decode cX9_holds 79 = .ok (.ireturn, 1) := by decide +kernel
