theorem dX10_init_0 : decode cX10_init 0 = .ok (.aload_n 0, 1) := by decide +kernel
theorem dX10_init_1 : decode cX10_init 1 = .ok (.invokespecial 3, 3) := by decide +kernel
theorem dX10_init_4 : decode cX10_init 4 = .ok (.aload_n 0, 1) := by decide +kernel
theorem dX10_init_5 : decode cX10_init 5 = .ok (.iconst 5, 1) := by decide +kernel
theorem dX10_init_6 : decode cX10_init 6 = .ok (.bipush 6, 2) := by decide +kernel
theorem dX10_init_8 : decode cX10_init 8 = .ok (.multianewarray 11 2, 4) := by decide +kernel
theorem dX10_init_12 : decode cX10_init 12 = .ok (.putfield 13, 3) := by decide +kernel
theorem dX10_init_15 : decode cX10_init 15 = .ok (.aload_n 0, 1) := by decide +kernel
theorem dX10_init_16 : decode cX10_init 16 = .ok (.bipush 6, 2) := by decide +kernel
theorem dX10_init_18 : decode cX10_init 18 = .ok (.newarray .int, 2) := by decide +kernel
theorem dX10_init_20 : decode cX10_init 20 = .ok (.putfield 16, 3) := by decide +kernel
theorem dX10_init_23 : decode cX10_init 23 = .ok (.aload_n 0, 1) := by decide +kernel
theorem dX10_init_24 : decode cX10_init 24 = .ok (.bipush 6, 2) := by decide +kernel
theorem dX10_init_26 : decode cX10_init 26 = .ok (.newarray .int, 2) := by decide +kernel
theorem dX10_init_28 : decode cX10_init 28 = .ok (.putfield 20, 3) := by decide +kernel
theorem dX10_init_31 : decode cX10_init 31 = .ok (.aload_n 0, 1) := by decide +kernel
theorem dX10_init_32 : decode cX10_init 32 = .ok (.bipush 6, 2) := by decide +kernel
theorem dX10_init_34 : decode cX10_init 34 = .ok (.newarray .int, 2) := by decide +kernel
theorem dX10_init_36 : decode cX10_init 36 = .ok (.putfield 23, 3) := by decide +kernel
theorem dX10_init_39 : decode cX10_init 39 = .ok (.aload_n 0, 1) := by decide +kernel
theorem dX10_init_40 : decode cX10_init 40 = .ok (.sipush 720, 3) := by decide +kernel
theorem dX10_init_43 : decode cX10_init 43 = .ok (.newarray .int, 2) := by decide +kernel
theorem dX10_init_45 : decode cX10_init 45 = .ok (.putfield 26, 3) := by decide +kernel
theorem dX10_init_48 : decode cX10_init 48 = .ok (.aload_n 0, 1) := by decide +kernel
theorem dX10_init_49 : decode cX10_init 49 = .ok (.sipush 720, 3) := by decide +kernel
theorem dX10_init_52 : decode cX10_init 52 = .ok (.newarray .int, 2) := by decide +kernel
theorem dX10_init_54 : decode cX10_init 54 = .ok (.putfield 29, 3) := by decide +kernel
theorem dX10_init_57 : decode cX10_init 57 = .ok (.aload_n 0, 1) := by decide +kernel
theorem dX10_init_58 : decode cX10_init 58 = .ok (.sipush 720, 3) := by decide +kernel
theorem dX10_init_61 : decode cX10_init 61 = .ok (.newarray .int, 2) := by decide +kernel
theorem dX10_init_63 : decode cX10_init 63 = .ok (.putfield 32, 3) := by decide +kernel
theorem dX10_init_66 : decode cX10_init 66 = .ok (.aload_n 0, 1) := by decide +kernel
theorem dX10_init_67 : decode cX10_init 67 = .ok (.sipush 256, 3) := by decide +kernel
theorem dX10_init_70 : decode cX10_init 70 = .ok (.newarray .int, 2) := by decide +kernel
theorem dX10_init_72 : decode cX10_init 72 = .ok (.putfield 35, 3) := by decide +kernel
theorem dX10_init_75 : decode cX10_init 75 = .ok (.aload_n 0, 1) := by decide +kernel
theorem dX10_init_76 : decode cX10_init 76 = .ok (.bipush 96, 2) := by decide +kernel
theorem dX10_init_78 : decode cX10_init 78 = .ok (.newarray .int, 2) := by decide +kernel
theorem dX10_init_80 : decode cX10_init 80 = .ok (.putfield 38, 3) := by decide +kernel
theorem dX10_init_83 : decode cX10_init 83 = .ok (.return_, 1) := by decide +kernel
theorem dX10_solvePermutations_0 : decode cX10_solvePermutations 0 = .ok (.aload_n 0, 1) := by decide +kernel
theorem dX10_solvePermutations_1 : decode cX10_solvePermutations 1 = .ok (.aload_n 1, 1) := by decide +kernel
theorem dX10_solvePermutations_2 : decode cX10_solvePermutations 2 = .ok (.invokevirtual 41, 3) := by decide +kernel
theorem dX10_solvePermutations_5 : decode cX10_solvePermutations 5 = .ok (.istore_n 2, 1) := by decide +kernel
theorem dX10_solvePermutations_6 : decode cX10_solvePermutations 6 = .ok (.aload_n 0, 1) := by decide +kernel
theorem dX10_solvePermutations_7 : decode cX10_solvePermutations 7 = .ok (.aload_n 0, 1) := by decide +kernel
theorem dX10_solvePermutations_8 : decode cX10_solvePermutations 8 = .ok (.getfield 16, 3) := by decide +kernel
theorem dX10_solvePermutations_11 : decode cX10_solvePermutations 11 = .ok (.invokevirtual 45, 3) := by decide +kernel
theorem dX10_solvePermutations_14 : decode cX10_solvePermutations 14 = .ok (.istore_n 3, 1) := by decide +kernel
theorem dX10_solvePermutations_15 : decode cX10_solvePermutations 15 = .ok (.aload_n 0, 1) := by decide +kernel
theorem dX10_solvePermutations_16 : decode cX10_solvePermutations 16 = .ok (.getfield 32, 3) := by decide +kernel
theorem dX10_solvePermutations_19 : decode cX10_solvePermutations 19 = .ok (.iload_n 3, 1) := by decide +kernel
theorem dX10_solvePermutations_20 : decode cX10_solvePermutations 20 = .ok (.iaload, 1) := by decide +kernel
theorem dX10_solvePermutations_21 : decode cX10_solvePermutations 21 = .ok (.ifCond .lt 7, 3) := by decide +kernel
theorem dX10_solvePermutations_24 : decode cX10_solvePermutations 24 = .ok (.iconst 1, 1) := by decide +kernel
theorem dX10_solvePermutations_25 : decode cX10_solvePermutations 25 = .ok (.goto 4, 3) := by decide +kernel
theorem dX10_solvePermutations_28 : decode cX10_solvePermutations 28 = .ok (.iconst 0, 1) := by decide +kernel
theorem dX10_solvePermutations_29 : decode cX10_solvePermutations 29 = .ok (.istore 4, 2) := by decide +kernel
theorem dX10_solvePermutations_31 : decode cX10_solvePermutations 31 = .ok (.aload_n 1, 1) := by decide +kernel
theorem dX10_solvePermutations_32 : decode cX10_solvePermutations 32 = .ok (.iload 4, 2) := by decide +kernel
theorem dX10_solvePermutations_34 : decode cX10_solvePermutations 34 = .ok (.iload_n 2, 1) := by decide +kernel
theorem dX10_solvePermutations_35 : decode cX10_solvePermutations 35 = .ok (.invokevirtual 49, 3) := by decide +kernel
theorem dX10_solvePermutations_38 : decode cX10_solvePermutations 38 = .ok (.iload 4, 2) := by decide +kernel
theorem dX10_solvePermutations_40 : decode cX10_solvePermutations 40 = .ok (.ifCond .eq 15, 3) := by decide +kernel
theorem dX10_solvePermutations_43 : decode cX10_solvePermutations 43 = .ok (.aload_n 0, 1) := by decide +kernel
theorem dX10_solvePermutations_44 : decode cX10_solvePermutations 44 = .ok (.iload_n 3, 1) := by decide +kernel
theorem dX10_solvePermutations_45 : decode cX10_solvePermutations 45 = .ok (.aload_n 1, 1) := by decide +kernel
theorem dX10_solvePermutations_46 : decode cX10_solvePermutations 46 = .ok (.getfield 55, 3) := by decide +kernel
theorem dX10_solvePermutations_49 : decode cX10_solvePermutations 49 = .ok (.invokevirtual 59, 3) := by decide +kernel
theorem dX10_solvePermutations_52 : decode cX10_solvePermutations 52 = .ok (.goto 11, 3) := by decide +kernel
theorem dX10_solvePermutations_55 : decode cX10_solvePermutations 55 = .ok (.aload_n 0, 1) := by decide +kernel
theorem dX10_solvePermutations_56 : decode cX10_solvePermutations 56 = .ok (.aload_n 1, 1) := by decide +kernel
theorem dX10_solvePermutations_57 : decode cX10_solvePermutations 57 = .ok (.getfield 55, 3) := by decide +kernel
theorem dX10_solvePermutations_60 : decode cX10_solvePermutations 60 = .ok (.invokevirtual 63, 3) := by decide +kernel
theorem dX10_solvePermutations_63 : decode cX10_solvePermutations 63 = .ok (.return_, 1) := by decide +kernel
theorem dX10_loadItems_0 : decode cX10_loadItems 0 = .ok (.aload_n 0, 1) := by decide +kernel
theorem dX10_loadItems_1 : decode cX10_loadItems 1 = .ok (.aload_n 1, 1) := by decide +kernel
theorem dX10_loadItems_2 : decode cX10_loadItems 2 = .ok (.getfield 67, 3) := by decide +kernel
theorem dX10_loadItems_5 : decode cX10_loadItems 5 = .ok (.putfield 71, 3) := by decide +kernel
theorem dX10_loadItems_8 : decode cX10_loadItems 8 = .ok (.aload_n 0, 1) := by decide +kernel
theorem dX10_loadItems_9 : decode cX10_loadItems 9 = .ok (.aload_n 1, 1) := by decide +kernel
theorem dX10_loadItems_10 : decode cX10_loadItems 10 = .ok (.getfield 72, 3) := by decide +kernel
theorem dX10_loadItems_13 : decode cX10_loadItems 13 = .ok (.aload_n 1, 1) := by decide +kernel
theorem dX10_loadItems_14 : decode cX10_loadItems 14 = .ok (.getfield 75, 3) := by decide +kernel
theorem dX10_loadItems_17 : decode cX10_loadItems 17 = .ok (.iconst 1, 1) := by decide +kernel
theorem dX10_loadItems_18 : decode cX10_loadItems 18 = .ok (.isub, 1) := by decide +kernel
theorem dX10_loadItems_19 : decode cX10_loadItems 19 = .ok (.invokestatic 78, 3) := by decide +kernel
theorem dX10_loadItems_22 : decode cX10_loadItems 22 = .ok (.putfield 84, 3) := by decide +kernel
theorem dX10_loadItems_25 : decode cX10_loadItems 25 = .ok (.iconst 0, 1) := by decide +kernel
theorem dX10_loadItems_26 : decode cX10_loadItems 26 = .ok (.istore_n 2, 1) := by decide +kernel
theorem dX10_loadItems_27 : decode cX10_loadItems 27 = .ok (.iload_n 2, 1) := by decide +kernel
theorem dX10_loadItems_28 : decode cX10_loadItems 28 = .ok (.bipush 6, 2) := by decide +kernel
theorem dX10_loadItems_30 : decode cX10_loadItems 30 = .ok (.if_icmp .ge 16, 3) := by decide +kernel
theorem dX10_loadItems_33 : decode cX10_loadItems 33 = .ok (.aload_n 0, 1) := by decide +kernel
theorem dX10_loadItems_34 : decode cX10_loadItems 34 = .ok (.getfield 16, 3) := by decide +kernel
theorem dX10_loadItems_37 : decode cX10_loadItems 37 = .ok (.iload_n 2, 1) := by decide +kernel
theorem dX10_loadItems_38 : decode cX10_loadItems 38 = .ok (.iload_n 2, 1) := by decide +kernel
theorem dX10_loadItems_39 : decode cX10_loadItems 39 = .ok (.iastore, 1) := by decide +kernel
theorem dX10_loadItems_40 : decode cX10_loadItems 40 = .ok (.iinc 2 1, 3) := by decide +kernel
theorem dX10_loadItems_43 : decode cX10_loadItems 43 = .ok (.goto (-16), 3) := by decide +kernel
theorem dX10_loadItems_46 : decode cX10_loadItems 46 = .ok (.iconst 0, 1) := by decide +kernel
theorem dX10_loadItems_47 : decode cX10_loadItems 47 = .ok (.istore_n 2, 1) := by decide +kernel
theorem dX10_loadItems_48 : decode cX10_loadItems 48 = .ok (.iload_n 2, 1) := by decide +kernel
theorem dX10_loadItems_49 : decode cX10_loadItems 49 = .ok (.aload_n 0, 1) := by decide +kernel
theorem dX10_loadItems_50 : decode cX10_loadItems 50 = .ok (.getfield 84, 3) := by decide +kernel
theorem dX10_loadItems_53 : decode cX10_loadItems 53 = .ok (.if_icmp .gt 20, 3) := by decide +kernel
theorem dX10_loadItems_56 : decode cX10_loadItems 56 = .ok (.aload_n 1, 1) := by decide +kernel
theorem dX10_loadItems_57 : decode cX10_loadItems 57 = .ok (.iload_n 2, 1) := by decide +kernel
theorem dX10_loadItems_58 : decode cX10_loadItems 58 = .ok (.aload_n 0, 1) := by decide +kernel
theorem dX10_loadItems_59 : decode cX10_loadItems 59 = .ok (.getfield 13, 3) := by decide +kernel
theorem dX10_loadItems_62 : decode cX10_loadItems 62 = .ok (.iload_n 2, 1) := by decide +kernel
theorem dX10_loadItems_63 : decode cX10_loadItems 63 = .ok (.aaload, 1) := by decide +kernel
theorem dX10_loadItems_64 : decode cX10_loadItems 64 = .ok (.invokestatic 87, 3) := by decide +kernel
theorem dX10_loadItems_67 : decode cX10_loadItems 67 = .ok (.iinc 2 1, 3) := by decide +kernel
theorem dX10_loadItems_70 : decode cX10_loadItems 70 = .ok (.goto (-22), 3) := by decide +kernel
theorem dX10_loadItems_73 : decode cX10_loadItems 73 = .ok (.aload_n 1, 1) := by decide +kernel
theorem dX10_loadItems_74 : decode cX10_loadItems 74 = .ok (.getfield 75, 3) := by decide +kernel
theorem dX10_loadItems_77 : decode cX10_loadItems 77 = .ok (.ifCond .le 12, 3) := by decide +kernel
theorem dX10_loadItems_80 : decode cX10_loadItems 80 = .ok (.aload_n 1, 1) := by decide +kernel
theorem dX10_loadItems_81 : decode cX10_loadItems 81 = .ok (.iconst 0, 1) := by decide +kernel
theorem dX10_loadItems_82 : decode cX10_loadItems 82 = .ok (.aload_n 0, 1) := by decide +kernel
theorem dX10_loadItems_83 : decode cX10_loadItems 83 = .ok (.getfield 16, 3) := by decide +kernel
theorem dX10_loadItems_86 : decode cX10_loadItems 86 = .ok (.invokestatic 87, 3) := by decide +kernel
theorem dX10_loadItems_89 : decode cX10_loadItems 89 = .ok (.return_, 1) := by decide +kernel
theorem dX10_loadPoints_0 : decode cX10_loadPoints 0 = .ok (.bipush 15, 2) := by decide +kernel
theorem dX10_loadPoints_2 : decode cX10_loadPoints 2 = .ok (.istore_n 3, 1) := by decide +kernel
theorem dX10_loadPoints_3 : decode cX10_loadPoints 3 = .ok (.iconst 0, 1) := by decide +kernel
theorem dX10_loadPoints_4 : decode cX10_loadPoints 4 = .ok (.istore 4, 2) := by decide +kernel
theorem dX10_loadPoints_6 : decode cX10_loadPoints 6 = .ok (.iload 4, 2) := by decide +kernel
theorem dX10_loadPoints_8 : decode cX10_loadPoints 8 = .ok (.aload_n 0, 1) := by decide +kernel
theorem dX10_loadPoints_9 : decode cX10_loadPoints 9 = .ok (.getfield 67, 3) := by decide +kernel
theorem dX10_loadPoints_12 : decode cX10_loadPoints 12 = .ok (.if_icmp .ge 33, 3) := by decide +kernel
theorem dX10_loadPoints_15 : decode cX10_loadPoints 15 = .ok (.iload 4, 2) := by decide +kernel
theorem dX10_loadPoints_17 : decode cX10_loadPoints 17 = .ok (.iconst 5, 1) := by decide +kernel
theorem dX10_loadPoints_18 : decode cX10_loadPoints 18 = .ok (.if_icmp .ge 27, 3) := by decide +kernel
theorem dX10_loadPoints_21 : decode cX10_loadPoints 21 = .ok (.aload_n 2, 1) := by decide +kernel
theorem dX10_loadPoints_22 : decode cX10_loadPoints 22 = .ok (.iload 4, 2) := by decide +kernel
theorem dX10_loadPoints_24 : decode cX10_loadPoints 24 = .ok (.aload_n 0, 1) := by decide +kernel
theorem dX10_loadPoints_25 : decode cX10_loadPoints 25 = .ok (.iload_n 1, 1) := by decide +kernel
theorem dX10_loadPoints_26 : decode cX10_loadPoints 26 = .ok (.iload 4, 2) := by decide +kernel
theorem dX10_loadPoints_28 : decode cX10_loadPoints 28 = .ok (.invokevirtual 91, 3) := by decide +kernel
theorem dX10_loadPoints_31 : decode cX10_loadPoints 31 = .ok (.iastore, 1) := by decide +kernel
theorem dX10_loadPoints_32 : decode cX10_loadPoints 32 = .ok (.iload_n 3, 1) := by decide +kernel
theorem dX10_loadPoints_33 : decode cX10_loadPoints 33 = .ok (.aload_n 2, 1) := by decide +kernel
theorem dX10_loadPoints_34 : decode cX10_loadPoints 34 = .ok (.iload 4, 2) := by decide +kernel
theorem dX10_loadPoints_36 : decode cX10_loadPoints 36 = .ok (.iaload, 1) := by decide +kernel
theorem dX10_loadPoints_37 : decode cX10_loadPoints 37 = .ok (.isub, 1) := by decide +kernel
theorem dX10_loadPoints_38 : decode cX10_loadPoints 38 = .ok (.istore_n 3, 1) := by decide +kernel
theorem dX10_loadPoints_39 : decode cX10_loadPoints 39 = .ok (.iinc 4 1, 3) := by decide +kernel
theorem dX10_loadPoints_42 : decode cX10_loadPoints 42 = .ok (.goto (-36), 3) := by decide +kernel
theorem dX10_loadPoints_45 : decode cX10_loadPoints 45 = .ok (.aload_n 0, 1) := by decide +kernel
theorem dX10_loadPoints_46 : decode cX10_loadPoints 46 = .ok (.getfield 67, 3) := by decide +kernel
theorem dX10_loadPoints_49 : decode cX10_loadPoints 49 = .ok (.bipush 6, 2) := by decide +kernel
theorem dX10_loadPoints_51 : decode cX10_loadPoints 51 = .ok (.if_icmp .ne 7, 3) := by decide +kernel
theorem dX10_loadPoints_54 : decode cX10_loadPoints 54 = .ok (.aload_n 2, 1) := by decide +kernel
theorem dX10_loadPoints_55 : decode cX10_loadPoints 55 = .ok (.iconst 5, 1) := by decide +kernel
theorem dX10_loadPoints_56 : decode cX10_loadPoints 56 = .ok (.iload_n 3, 1) := by decide +kernel
theorem dX10_loadPoints_57 : decode cX10_loadPoints 57 = .ok (.iastore, 1) := by decide +kernel
theorem dX10_loadPoints_58 : decode cX10_loadPoints 58 = .ok (.return_, 1) := by decide +kernel
theorem dX10_reachAll_0 : decode cX10_reachAll 0 = .ok (.aload_n 0, 1) := by decide +kernel
theorem dX10_reachAll_1 : decode cX10_reachAll 1 = .ok (.aload_n 1, 1) := by decide +kernel
theorem dX10_reachAll_2 : decode cX10_reachAll 2 = .ok (.invokevirtual 94, 3) := by decide +kernel
theorem dX10_reachAll_5 : decode cX10_reachAll 5 = .ok (.aload_n 0, 1) := by decide +kernel
theorem dX10_reachAll_6 : decode cX10_reachAll 6 = .ok (.getfield 32, 3) := by decide +kernel
theorem dX10_reachAll_9 : decode cX10_reachAll 9 = .ok (.iconst (-1), 1) := by decide +kernel
theorem dX10_reachAll_10 : decode cX10_reachAll 10 = .ok (.invokestatic 98, 3) := by decide +kernel
theorem dX10_reachAll_13 : decode cX10_reachAll 13 = .ok (.aload_n 0, 1) := by decide +kernel
theorem dX10_reachAll_14 : decode cX10_reachAll 14 = .ok (.getfield 26, 3) := by decide +kernel
theorem dX10_reachAll_17 : decode cX10_reachAll 17 = .ok (.iconst 0, 1) := by decide +kernel
theorem dX10_reachAll_18 : decode cX10_reachAll 18 = .ok (.iconst 0, 1) := by decide +kernel
theorem dX10_reachAll_19 : decode cX10_reachAll 19 = .ok (.iastore, 1) := by decide +kernel
theorem dX10_reachAll_20 : decode cX10_reachAll 20 = .ok (.aload_n 0, 1) := by decide +kernel
theorem dX10_reachAll_21 : decode cX10_reachAll 21 = .ok (.getfield 32, 3) := by decide +kernel
theorem dX10_reachAll_24 : decode cX10_reachAll 24 = .ok (.iconst 0, 1) := by decide +kernel
theorem dX10_reachAll_25 : decode cX10_reachAll 25 = .ok (.iconst 0, 1) := by decide +kernel
theorem dX10_reachAll_26 : decode cX10_reachAll 26 = .ok (.iastore, 1) := by decide +kernel
theorem dX10_reachAll_27 : decode cX10_reachAll 27 = .ok (.iconst 1, 1) := by decide +kernel
theorem dX10_reachAll_28 : decode cX10_reachAll 28 = .ok (.istore_n 2, 1) := by decide +kernel
theorem dX10_reachAll_29 : decode cX10_reachAll 29 = .ok (.iconst 0, 1) := by decide +kernel
theorem dX10_reachAll_30 : decode cX10_reachAll 30 = .ok (.istore_n 3, 1) := by decide +kernel
theorem dX10_reachAll_31 : decode cX10_reachAll 31 = .ok (.iload_n 3, 1) := by decide +kernel
theorem dX10_reachAll_32 : decode cX10_reachAll 32 = .ok (.iload_n 2, 1) := by decide +kernel
theorem dX10_reachAll_33 : decode cX10_reachAll 33 = .ok (.if_icmp .ge 141, 3) := by decide +kernel
theorem dX10_reachAll_36 : decode cX10_reachAll 36 = .ok (.aload_n 0, 1) := by decide +kernel
theorem dX10_reachAll_37 : decode cX10_reachAll 37 = .ok (.aload_n 0, 1) := by decide +kernel
theorem dX10_reachAll_38 : decode cX10_reachAll 38 = .ok (.getfield 26, 3) := by decide +kernel
theorem dX10_reachAll_41 : decode cX10_reachAll 41 = .ok (.iload_n 3, 1) := by decide +kernel
theorem dX10_reachAll_42 : decode cX10_reachAll 42 = .ok (.iaload, 1) := by decide +kernel
theorem dX10_reachAll_43 : decode cX10_reachAll 43 = .ok (.aload_n 0, 1) := by decide +kernel
theorem dX10_reachAll_44 : decode cX10_reachAll 44 = .ok (.getfield 20, 3) := by decide +kernel
theorem dX10_reachAll_47 : decode cX10_reachAll 47 = .ok (.invokevirtual 104, 3) := by decide +kernel
theorem dX10_reachAll_50 : decode cX10_reachAll 50 = .ok (.iconst 1, 1) := by decide +kernel
theorem dX10_reachAll_51 : decode cX10_reachAll 51 = .ok (.istore 4, 2) := by decide +kernel
theorem dX10_reachAll_53 : decode cX10_reachAll 53 = .ok (.iload 4, 2) := by decide +kernel
theorem dX10_reachAll_55 : decode cX10_reachAll 55 = .ok (.aload_n 0, 1) := by decide +kernel
theorem dX10_reachAll_56 : decode cX10_reachAll 56 = .ok (.getfield 84, 3) := by decide +kernel
theorem dX10_reachAll_59 : decode cX10_reachAll 59 = .ok (.if_icmp .gt 109, 3) := by decide +kernel
theorem dX10_reachAll_62 : decode cX10_reachAll 62 = .ok (.iconst 0, 1) := by decide +kernel
theorem dX10_reachAll_63 : decode cX10_reachAll 63 = .ok (.istore 5, 2) := by decide +kernel
theorem dX10_reachAll_65 : decode cX10_reachAll 65 = .ok (.iload 5, 2) := by decide +kernel
theorem dX10_reachAll_67 : decode cX10_reachAll 67 = .ok (.aload_n 0, 1) := by decide +kernel
theorem dX10_reachAll_68 : decode cX10_reachAll 68 = .ok (.getfield 71, 3) := by decide +kernel
theorem dX10_reachAll_71 : decode cX10_reachAll 71 = .ok (.if_icmp .ge 31, 3) := by decide +kernel
theorem dX10_reachAll_74 : decode cX10_reachAll 74 = .ok (.aload_n 0, 1) := by decide +kernel
theorem dX10_reachAll_75 : decode cX10_reachAll 75 = .ok (.getfield 23, 3) := by decide +kernel
theorem dX10_reachAll_78 : decode cX10_reachAll 78 = .ok (.iload 5, 2) := by decide +kernel
theorem dX10_reachAll_80 : decode cX10_reachAll 80 = .ok (.aload_n 0, 1) := by decide +kernel
theorem dX10_reachAll_81 : decode cX10_reachAll 81 = .ok (.getfield 13, 3) := by decide +kernel
theorem dX10_reachAll_84 : decode cX10_reachAll 84 = .ok (.iload 4, 2) := by decide +kernel
theorem dX10_reachAll_86 : decode cX10_reachAll 86 = .ok (.aaload, 1) := by decide +kernel
theorem dX10_reachAll_87 : decode cX10_reachAll 87 = .ok (.aload_n 0, 1) := by decide +kernel
theorem dX10_reachAll_88 : decode cX10_reachAll 88 = .ok (.getfield 20, 3) := by decide +kernel
theorem dX10_reachAll_91 : decode cX10_reachAll 91 = .ok (.iload 5, 2) := by decide +kernel
theorem dX10_reachAll_93 : decode cX10_reachAll 93 = .ok (.iaload, 1) := by decide +kernel
theorem dX10_reachAll_94 : decode cX10_reachAll 94 = .ok (.iaload, 1) := by decide +kernel
theorem dX10_reachAll_95 : decode cX10_reachAll 95 = .ok (.iastore, 1) := by decide +kernel
theorem dX10_reachAll_96 : decode cX10_reachAll 96 = .ok (.iinc 5 1, 3) := by decide +kernel
theorem dX10_reachAll_99 : decode cX10_reachAll 99 = .ok (.goto (-34), 3) := by decide +kernel
theorem dX10_reachAll_102 : decode cX10_reachAll 102 = .ok (.aload_n 0, 1) := by decide +kernel
theorem dX10_reachAll_103 : decode cX10_reachAll 103 = .ok (.aload_n 0, 1) := by decide +kernel
theorem dX10_reachAll_104 : decode cX10_reachAll 104 = .ok (.getfield 23, 3) := by decide +kernel
theorem dX10_reachAll_107 : decode cX10_reachAll 107 = .ok (.invokevirtual 45, 3) := by decide +kernel
theorem dX10_reachAll_110 : decode cX10_reachAll 110 = .ok (.istore 5, 2) := by decide +kernel
theorem dX10_reachAll_112 : decode cX10_reachAll 112 = .ok (.aload_n 0, 1) := by decide +kernel
theorem dX10_reachAll_113 : decode cX10_reachAll 113 = .ok (.getfield 32, 3) := by decide +kernel
theorem dX10_reachAll_116 : decode cX10_reachAll 116 = .ok (.iload 5, 2) := by decide +kernel
theorem dX10_reachAll_118 : decode cX10_reachAll 118 = .ok (.iaload, 1) := by decide +kernel
theorem dX10_reachAll_119 : decode cX10_reachAll 119 = .ok (.ifCond .ge 43, 3) := by decide +kernel
theorem dX10_reachAll_122 : decode cX10_reachAll 122 = .ok (.iload_n 2, 1) := by decide +kernel
theorem dX10_reachAll_123 : decode cX10_reachAll 123 = .ok (.sipush 720, 3) := by decide +kernel
theorem dX10_reachAll_126 : decode cX10_reachAll 126 = .ok (.if_icmp .ge 36, 3) := by decide +kernel
theorem dX10_reachAll_129 : decode cX10_reachAll 129 = .ok (.aload_n 0, 1) := by decide +kernel
theorem dX10_reachAll_130 : decode cX10_reachAll 130 = .ok (.getfield 32, 3) := by decide +kernel
theorem dX10_reachAll_133 : decode cX10_reachAll 133 = .ok (.iload 5, 2) := by decide +kernel
theorem dX10_reachAll_135 : decode cX10_reachAll 135 = .ok (.iload 4, 2) := by decide +kernel
theorem dX10_reachAll_137 : decode cX10_reachAll 137 = .ok (.iastore, 1) := by decide +kernel
theorem dX10_reachAll_138 : decode cX10_reachAll 138 = .ok (.aload_n 0, 1) := by decide +kernel
theorem dX10_reachAll_139 : decode cX10_reachAll 139 = .ok (.getfield 29, 3) := by decide +kernel
theorem dX10_reachAll_142 : decode cX10_reachAll 142 = .ok (.iload 5, 2) := by decide +kernel
theorem dX10_reachAll_144 : decode cX10_reachAll 144 = .ok (.aload_n 0, 1) := by decide +kernel
theorem dX10_reachAll_145 : decode cX10_reachAll 145 = .ok (.getfield 26, 3) := by decide +kernel
theorem dX10_reachAll_148 : decode cX10_reachAll 148 = .ok (.iload_n 3, 1) := by decide +kernel
theorem dX10_reachAll_149 : decode cX10_reachAll 149 = .ok (.iaload, 1) := by decide +kernel
theorem dX10_reachAll_150 : decode cX10_reachAll 150 = .ok (.iastore, 1) := by decide +kernel
theorem dX10_reachAll_151 : decode cX10_reachAll 151 = .ok (.aload_n 0, 1) := by decide +kernel
theorem dX10_reachAll_152 : decode cX10_reachAll 152 = .ok (.getfield 26, 3) := by decide +kernel
theorem dX10_reachAll_155 : decode cX10_reachAll 155 = .ok (.iload_n 2, 1) := by decide +kernel
theorem dX10_reachAll_156 : decode cX10_reachAll 156 = .ok (.iload 5, 2) := by decide +kernel
theorem dX10_reachAll_158 : decode cX10_reachAll 158 = .ok (.iastore, 1) := by decide +kernel
theorem dX10_reachAll_159 : decode cX10_reachAll 159 = .ok (.iinc 2 1, 3) := by decide +kernel
theorem dX10_reachAll_162 : decode cX10_reachAll 162 = .ok (.iinc 4 1, 3) := by decide +kernel
theorem dX10_reachAll_165 : decode cX10_reachAll 165 = .ok (.goto (-112), 3) := by decide +kernel
theorem dX10_reachAll_168 : decode cX10_reachAll 168 = .ok (.iinc 3 1, 3) := by decide +kernel
theorem dX10_reachAll_171 : decode cX10_reachAll 171 = .ok (.goto (-140), 3) := by decide +kernel
theorem dX10_reachAll_174 : decode cX10_reachAll 174 = .ok (.iload_n 2, 1) := by decide +kernel
theorem dX10_reachAll_175 : decode cX10_reachAll 175 = .ok (.ireturn, 1) := by decide +kernel
theorem dX10_rankOf_0 : decode cX10_rankOf 0 = .ok (.iconst 0, 1) := by decide +kernel
theorem dX10_rankOf_1 : decode cX10_rankOf 1 = .ok (.istore_n 2, 1) := by decide +kernel
theorem dX10_rankOf_2 : decode cX10_rankOf 2 = .ok (.iconst 0, 1) := by decide +kernel
theorem dX10_rankOf_3 : decode cX10_rankOf 3 = .ok (.istore_n 3, 1) := by decide +kernel
theorem dX10_rankOf_4 : decode cX10_rankOf 4 = .ok (.iload_n 3, 1) := by decide +kernel
theorem dX10_rankOf_5 : decode cX10_rankOf 5 = .ok (.aload_n 0, 1) := by decide +kernel
theorem dX10_rankOf_6 : decode cX10_rankOf 6 = .ok (.getfield 71, 3) := by decide +kernel
theorem dX10_rankOf_9 : decode cX10_rankOf 9 = .ok (.if_icmp .ge 57, 3) := by decide +kernel
theorem dX10_rankOf_12 : decode cX10_rankOf 12 = .ok (.iconst 0, 1) := by decide +kernel
theorem dX10_rankOf_13 : decode cX10_rankOf 13 = .ok (.istore 4, 2) := by decide +kernel
theorem dX10_rankOf_15 : decode cX10_rankOf 15 = .ok (.iload_n 3, 1) := by decide +kernel
theorem dX10_rankOf_16 : decode cX10_rankOf 16 = .ok (.iconst 1, 1) := by decide +kernel
theorem dX10_rankOf_17 : decode cX10_rankOf 17 = .ok (.iadd, 1) := by decide +kernel
theorem dX10_rankOf_18 : decode cX10_rankOf 18 = .ok (.istore 5, 2) := by decide +kernel
theorem dX10_rankOf_20 : decode cX10_rankOf 20 = .ok (.iload 5, 2) := by decide +kernel
theorem dX10_rankOf_22 : decode cX10_rankOf 22 = .ok (.aload_n 0, 1) := by decide +kernel
theorem dX10_rankOf_23 : decode cX10_rankOf 23 = .ok (.getfield 71, 3) := by decide +kernel
theorem dX10_rankOf_26 : decode cX10_rankOf 26 = .ok (.if_icmp .ge 22, 3) := by decide +kernel
theorem dX10_rankOf_29 : decode cX10_rankOf 29 = .ok (.aload_n 1, 1) := by decide +kernel
theorem dX10_rankOf_30 : decode cX10_rankOf 30 = .ok (.iload 5, 2) := by decide +kernel
theorem dX10_rankOf_32 : decode cX10_rankOf 32 = .ok (.iaload, 1) := by decide +kernel
theorem dX10_rankOf_33 : decode cX10_rankOf 33 = .ok (.aload_n 1, 1) := by decide +kernel
theorem dX10_rankOf_34 : decode cX10_rankOf 34 = .ok (.iload_n 3, 1) := by decide +kernel
theorem dX10_rankOf_35 : decode cX10_rankOf 35 = .ok (.iaload, 1) := by decide +kernel
theorem dX10_rankOf_36 : decode cX10_rankOf 36 = .ok (.if_icmp .ge 6, 3) := by decide +kernel
theorem dX10_rankOf_39 : decode cX10_rankOf 39 = .ok (.iinc 4 1, 3) := by decide +kernel
theorem dX10_rankOf_42 : decode cX10_rankOf 42 = .ok (.iinc 5 1, 3) := by decide +kernel
theorem dX10_rankOf_45 : decode cX10_rankOf 45 = .ok (.goto (-25), 3) := by decide +kernel
theorem dX10_rankOf_48 : decode cX10_rankOf 48 = .ok (.iload_n 2, 1) := by decide +kernel
theorem dX10_rankOf_49 : decode cX10_rankOf 49 = .ok (.aload_n 0, 1) := by decide +kernel
theorem dX10_rankOf_50 : decode cX10_rankOf 50 = .ok (.getfield 71, 3) := by decide +kernel
theorem dX10_rankOf_53 : decode cX10_rankOf 53 = .ok (.iload_n 3, 1) := by decide +kernel
theorem dX10_rankOf_54 : decode cX10_rankOf 54 = .ok (.isub, 1) := by decide +kernel
theorem dX10_rankOf_55 : decode cX10_rankOf 55 = .ok (.imul, 1) := by decide +kernel
theorem dX10_rankOf_56 : decode cX10_rankOf 56 = .ok (.iload 4, 2) := by decide +kernel
theorem dX10_rankOf_58 : decode cX10_rankOf 58 = .ok (.iadd, 1) := by decide +kernel
theorem dX10_rankOf_59 : decode cX10_rankOf 59 = .ok (.istore_n 2, 1) := by decide +kernel
theorem dX10_rankOf_60 : decode cX10_rankOf 60 = .ok (.iinc 3 1, 3) := by decide +kernel
theorem dX10_rankOf_63 : decode cX10_rankOf 63 = .ok (.goto (-59), 3) := by decide +kernel
theorem dX10_rankOf_66 : decode cX10_rankOf 66 = .ok (.iload_n 2, 1) := by decide +kernel
theorem dX10_rankOf_67 : decode cX10_rankOf 67 = .ok (.ireturn, 1) := by decide +kernel
theorem dX10_writePoints_0 : decode cX10_writePoints 0 = .ok (.iload_n 1, 1) := by decide +kernel
theorem dX10_writePoints_1 : decode cX10_writePoints 1 = .ok (.istore_n 3, 1) := by decide +kernel
theorem dX10_writePoints_2 : decode cX10_writePoints 2 = .ok (.aload_n 0, 1) := by decide +kernel
theorem dX10_writePoints_3 : decode cX10_writePoints 3 = .ok (.getfield 71, 3) := by decide +kernel
theorem dX10_writePoints_6 : decode cX10_writePoints 6 = .ok (.iconst 1, 1) := by decide +kernel
theorem dX10_writePoints_7 : decode cX10_writePoints 7 = .ok (.isub, 1) := by decide +kernel
theorem dX10_writePoints_8 : decode cX10_writePoints 8 = .ok (.istore 4, 2) := by decide +kernel
theorem dX10_writePoints_10 : decode cX10_writePoints 10 = .ok (.iload 4, 2) := by decide +kernel
theorem dX10_writePoints_12 : decode cX10_writePoints 12 = .ok (.ifCond .lt 32, 3) := by decide +kernel
theorem dX10_writePoints_15 : decode cX10_writePoints 15 = .ok (.aload_n 2, 1) := by decide +kernel
theorem dX10_writePoints_16 : decode cX10_writePoints 16 = .ok (.iload 4, 2) := by decide +kernel
theorem dX10_writePoints_18 : decode cX10_writePoints 18 = .ok (.iload_n 3, 1) := by decide +kernel
theorem dX10_writePoints_19 : decode cX10_writePoints 19 = .ok (.aload_n 0, 1) := by decide +kernel
theorem dX10_writePoints_20 : decode cX10_writePoints 20 = .ok (.getfield 71, 3) := by decide +kernel
theorem dX10_writePoints_23 : decode cX10_writePoints 23 = .ok (.iload 4, 2) := by decide +kernel
theorem dX10_writePoints_25 : decode cX10_writePoints 25 = .ok (.isub, 1) := by decide +kernel
theorem dX10_writePoints_26 : decode cX10_writePoints 26 = .ok (.irem, 1) := by decide +kernel
theorem dX10_writePoints_27 : decode cX10_writePoints 27 = .ok (.iastore, 1) := by decide +kernel
theorem dX10_writePoints_28 : decode cX10_writePoints 28 = .ok (.iload_n 3, 1) := by decide +kernel
theorem dX10_writePoints_29 : decode cX10_writePoints 29 = .ok (.aload_n 0, 1) := by decide +kernel
theorem dX10_writePoints_30 : decode cX10_writePoints 30 = .ok (.getfield 71, 3) := by decide +kernel
theorem dX10_writePoints_33 : decode cX10_writePoints 33 = .ok (.iload 4, 2) := by decide +kernel
theorem dX10_writePoints_35 : decode cX10_writePoints 35 = .ok (.isub, 1) := by decide +kernel
theorem dX10_writePoints_36 : decode cX10_writePoints 36 = .ok (.idiv, 1) := by decide +kernel
theorem dX10_writePoints_37 : decode cX10_writePoints 37 = .ok (.istore_n 3, 1) := by decide +kernel
theorem dX10_writePoints_38 : decode cX10_writePoints 38 = .ok (.iinc 4 (-1), 3) := by decide +kernel
theorem dX10_writePoints_41 : decode cX10_writePoints 41 = .ok (.goto (-31), 3) := by decide +kernel
theorem dX10_writePoints_44 : decode cX10_writePoints 44 = .ok (.iconst 0, 1) := by decide +kernel
theorem dX10_writePoints_45 : decode cX10_writePoints 45 = .ok (.istore 4, 2) := by decide +kernel
theorem dX10_writePoints_47 : decode cX10_writePoints 47 = .ok (.iconst 0, 1) := by decide +kernel
theorem dX10_writePoints_48 : decode cX10_writePoints 48 = .ok (.istore 5, 2) := by decide +kernel
theorem dX10_writePoints_50 : decode cX10_writePoints 50 = .ok (.iload 5, 2) := by decide +kernel
theorem dX10_writePoints_52 : decode cX10_writePoints 52 = .ok (.aload_n 0, 1) := by decide +kernel
theorem dX10_writePoints_53 : decode cX10_writePoints 53 = .ok (.getfield 71, 3) := by decide +kernel
theorem dX10_writePoints_56 : decode cX10_writePoints 56 = .ok (.if_icmp .ge 34, 3) := by decide +kernel
theorem dX10_writePoints_59 : decode cX10_writePoints 59 = .ok (.aload_n 2, 1) := by decide +kernel
theorem dX10_writePoints_60 : decode cX10_writePoints 60 = .ok (.iload 5, 2) := by decide +kernel
theorem dX10_writePoints_62 : decode cX10_writePoints 62 = .ok (.aload_n 0, 1) := by decide +kernel
theorem dX10_writePoints_63 : decode cX10_writePoints 63 = .ok (.iload 4, 2) := by decide +kernel
theorem dX10_writePoints_65 : decode cX10_writePoints 65 = .ok (.aload_n 2, 1) := by decide +kernel
theorem dX10_writePoints_66 : decode cX10_writePoints 66 = .ok (.iload 5, 2) := by decide +kernel
theorem dX10_writePoints_68 : decode cX10_writePoints 68 = .ok (.iaload, 1) := by decide +kernel
theorem dX10_writePoints_69 : decode cX10_writePoints 69 = .ok (.invokevirtual 108, 3) := by decide +kernel
theorem dX10_writePoints_72 : decode cX10_writePoints 72 = .ok (.iastore, 1) := by decide +kernel
theorem dX10_writePoints_73 : decode cX10_writePoints 73 = .ok (.iload 4, 2) := by decide +kernel
theorem dX10_writePoints_75 : decode cX10_writePoints 75 = .ok (.iconst 1, 1) := by decide +kernel
theorem dX10_writePoints_76 : decode cX10_writePoints 76 = .ok (.aload_n 2, 1) := by decide +kernel
theorem dX10_writePoints_77 : decode cX10_writePoints 77 = .ok (.iload 5, 2) := by decide +kernel
theorem dX10_writePoints_79 : decode cX10_writePoints 79 = .ok (.iaload, 1) := by decide +kernel
theorem dX10_writePoints_80 : decode cX10_writePoints 80 = .ok (.ishl, 1) := by decide +kernel
theorem dX10_writePoints_81 : decode cX10_writePoints 81 = .ok (.ior, 1) := by decide +kernel
theorem dX10_writePoints_82 : decode cX10_writePoints 82 = .ok (.istore 4, 2) := by decide +kernel
theorem dX10_writePoints_84 : decode cX10_writePoints 84 = .ok (.iinc 5 1, 3) := by decide +kernel
theorem dX10_writePoints_87 : decode cX10_writePoints 87 = .ok (.goto (-37), 3) := by decide +kernel
theorem dX10_writePoints_90 : decode cX10_writePoints 90 = .ok (.return_, 1) := by decide +kernel
theorem dX10_unusedPoint_0 : decode cX10_unusedPoint 0 = .ok (.iload_n 2, 1) := by decide +kernel
theorem dX10_unusedPoint_1 : decode cX10_unusedPoint 1 = .ok (.istore_n 3, 1) := by decide +kernel
theorem dX10_unusedPoint_2 : decode cX10_unusedPoint 2 = .ok (.iconst 0, 1) := by decide +kernel
theorem dX10_unusedPoint_3 : decode cX10_unusedPoint 3 = .ok (.istore 4, 2) := by decide +kernel
theorem dX10_unusedPoint_5 : decode cX10_unusedPoint 5 = .ok (.iload 4, 2) := by decide +kernel
theorem dX10_unusedPoint_7 : decode cX10_unusedPoint 7 = .ok (.aload_n 0, 1) := by decide +kernel
theorem dX10_unusedPoint_8 : decode cX10_unusedPoint 8 = .ok (.getfield 71, 3) := by decide +kernel
theorem dX10_unusedPoint_11 : decode cX10_unusedPoint 11 = .ok (.if_icmp .ge 28, 3) := by decide +kernel
theorem dX10_unusedPoint_14 : decode cX10_unusedPoint 14 = .ok (.iload_n 1, 1) := by decide +kernel
theorem dX10_unusedPoint_15 : decode cX10_unusedPoint 15 = .ok (.iload 4, 2) := by decide +kernel
theorem dX10_unusedPoint_17 : decode cX10_unusedPoint 17 = .ok (.invokestatic 111, 3) := by decide +kernel
theorem dX10_unusedPoint_20 : decode cX10_unusedPoint 20 = .ok (.ifCond .ne 13, 3) := by decide +kernel
theorem dX10_unusedPoint_23 : decode cX10_unusedPoint 23 = .ok (.iload_n 3, 1) := by decide +kernel
theorem dX10_unusedPoint_24 : decode cX10_unusedPoint 24 = .ok (.ifCond .ne 6, 3) := by decide +kernel
theorem dX10_unusedPoint_27 : decode cX10_unusedPoint 27 = .ok (.iload 4, 2) := by decide +kernel
theorem dX10_unusedPoint_29 : decode cX10_unusedPoint 29 = .ok (.ireturn, 1) := by decide +kernel
theorem dX10_unusedPoint_30 : decode cX10_unusedPoint 30 = .ok (.iinc 3 (-1), 3) := by decide +kernel
theorem dX10_unusedPoint_33 : decode cX10_unusedPoint 33 = .ok (.iinc 4 1, 3) := by decide +kernel
theorem dX10_unusedPoint_36 : decode cX10_unusedPoint 36 = .ok (.goto (-31), 3) := by decide +kernel
theorem dX10_unusedPoint_39 : decode cX10_unusedPoint 39 = .ok (.iconst 0, 1) := by decide +kernel
theorem dX10_unusedPoint_40 : decode cX10_unusedPoint 40 = .ok (.ireturn, 1) := by decide +kernel
theorem dX10_writeItems_0 : decode cX10_writeItems 0 = .ok (.iconst 0, 1) := by decide +kernel
theorem dX10_writeItems_1 : decode cX10_writeItems 1 = .ok (.istore_n 3, 1) := by decide +kernel
theorem dX10_writeItems_2 : decode cX10_writeItems 2 = .ok (.iload_n 1, 1) := by decide +kernel
theorem dX10_writeItems_3 : decode cX10_writeItems 3 = .ok (.istore 4, 2) := by decide +kernel
theorem dX10_writeItems_5 : decode cX10_writeItems 5 = .ok (.iload 4, 2) := by decide +kernel
theorem dX10_writeItems_7 : decode cX10_writeItems 7 = .ok (.ifCond .eq 38, 3) := by decide +kernel
theorem dX10_writeItems_10 : decode cX10_writeItems 10 = .ok (.iload_n 3, 1) := by decide +kernel
theorem dX10_writeItems_11 : decode cX10_writeItems 11 = .ok (.sipush 720, 3) := by decide +kernel
theorem dX10_writeItems_14 : decode cX10_writeItems 14 = .ok (.if_icmp .ge 31, 3) := by decide +kernel
theorem dX10_writeItems_17 : decode cX10_writeItems 17 = .ok (.aload_n 0, 1) := by decide +kernel
theorem dX10_writeItems_18 : decode cX10_writeItems 18 = .ok (.getfield 26, 3) := by decide +kernel
theorem dX10_writeItems_21 : decode cX10_writeItems 21 = .ok (.iload_n 3, 1) := by decide +kernel
theorem dX10_writeItems_22 : decode cX10_writeItems 22 = .ok (.aload_n 0, 1) := by decide +kernel
theorem dX10_writeItems_23 : decode cX10_writeItems 23 = .ok (.getfield 32, 3) := by decide +kernel
theorem dX10_writeItems_26 : decode cX10_writeItems 26 = .ok (.iload 4, 2) := by decide +kernel
theorem dX10_writeItems_28 : decode cX10_writeItems 28 = .ok (.iaload, 1) := by decide +kernel
theorem dX10_writeItems_29 : decode cX10_writeItems 29 = .ok (.iastore, 1) := by decide +kernel
theorem dX10_writeItems_30 : decode cX10_writeItems 30 = .ok (.iinc 3 1, 3) := by decide +kernel
theorem dX10_writeItems_33 : decode cX10_writeItems 33 = .ok (.aload_n 0, 1) := by decide +kernel
theorem dX10_writeItems_34 : decode cX10_writeItems 34 = .ok (.getfield 29, 3) := by decide +kernel
theorem dX10_writeItems_37 : decode cX10_writeItems 37 = .ok (.iload 4, 2) := by decide +kernel
theorem dX10_writeItems_39 : decode cX10_writeItems 39 = .ok (.iaload, 1) := by decide +kernel
theorem dX10_writeItems_40 : decode cX10_writeItems 40 = .ok (.istore 4, 2) := by decide +kernel
theorem dX10_writeItems_42 : decode cX10_writeItems 42 = .ok (.goto (-37), 3) := by decide +kernel
theorem dX10_writeItems_45 : decode cX10_writeItems 45 = .ok (.iload_n 3, 1) := by decide +kernel
theorem dX10_writeItems_46 : decode cX10_writeItems 46 = .ok (.iconst 1, 1) := by decide +kernel
theorem dX10_writeItems_47 : decode cX10_writeItems 47 = .ok (.isub, 1) := by decide +kernel
theorem dX10_writeItems_48 : decode cX10_writeItems 48 = .ok (.istore 5, 2) := by decide +kernel
theorem dX10_writeItems_50 : decode cX10_writeItems 50 = .ok (.iload 5, 2) := by decide +kernel
theorem dX10_writeItems_52 : decode cX10_writeItems 52 = .ok (.ifCond .lt 20, 3) := by decide +kernel
theorem dX10_writeItems_55 : decode cX10_writeItems 55 = .ok (.aload_n 2, 1) := by decide +kernel
theorem dX10_writeItems_56 : decode cX10_writeItems 56 = .ok (.aload_n 0, 1) := by decide +kernel
theorem dX10_writeItems_57 : decode cX10_writeItems 57 = .ok (.getfield 26, 3) := by decide +kernel
theorem dX10_writeItems_60 : decode cX10_writeItems 60 = .ok (.iload 5, 2) := by decide +kernel
theorem dX10_writeItems_62 : decode cX10_writeItems 62 = .ok (.iaload, 1) := by decide +kernel
theorem dX10_writeItems_63 : decode cX10_writeItems 63 = .ok (.invokevirtual 115, 3) := by decide +kernel
theorem dX10_writeItems_66 : decode cX10_writeItems 66 = .ok (.iinc 5 (-1), 3) := by decide +kernel
theorem dX10_writeItems_69 : decode cX10_writeItems 69 = .ok (.goto (-19), 3) := by decide +kernel
theorem dX10_writeItems_72 : decode cX10_writeItems 72 = .ok (.return_, 1) := by decide +kernel
theorem dX10_writeRows_0 : decode cX10_writeRows 0 = .ok (.iconst 1, 1) := by decide +kernel
theorem dX10_writeRows_1 : decode cX10_writeRows 1 = .ok (.istore_n 2, 1) := by decide +kernel
theorem dX10_writeRows_2 : decode cX10_writeRows 2 = .ok (.iload_n 2, 1) := by decide +kernel
theorem dX10_writeRows_3 : decode cX10_writeRows 3 = .ok (.aload_n 0, 1) := by decide +kernel
theorem dX10_writeRows_4 : decode cX10_writeRows 4 = .ok (.getfield 71, 3) := by decide +kernel
theorem dX10_writeRows_7 : decode cX10_writeRows 7 = .ok (.if_icmp .gt 107, 3) := by decide +kernel
theorem dX10_writeRows_10 : decode cX10_writeRows 10 = .ok (.aload_n 1, 1) := by decide +kernel
theorem dX10_writeRows_11 : decode cX10_writeRows 11 = .ok (.invokevirtual 121, 3) := by decide +kernel
theorem dX10_writeRows_14 : decode cX10_writeRows 14 = .ok (.aload_n 1, 1) := by decide +kernel
theorem dX10_writeRows_15 : decode cX10_writeRows 15 = .ok (.iload_n 2, 1) := by decide +kernel
theorem dX10_writeRows_16 : decode cX10_writeRows 16 = .ok (.invokevirtual 115, 3) := by decide +kernel
theorem dX10_writeRows_19 : decode cX10_writeRows 19 = .ok (.iconst 0, 1) := by decide +kernel
theorem dX10_writeRows_20 : decode cX10_writeRows 20 = .ok (.istore_n 3, 1) := by decide +kernel
theorem dX10_writeRows_21 : decode cX10_writeRows 21 = .ok (.iload_n 3, 1) := by decide +kernel
theorem dX10_writeRows_22 : decode cX10_writeRows 22 = .ok (.sipush 720, 3) := by decide +kernel
theorem dX10_writeRows_25 : decode cX10_writeRows 25 = .ok (.if_icmp .ge 66, 3) := by decide +kernel
theorem dX10_writeRows_28 : decode cX10_writeRows 28 = .ok (.aload_n 0, 1) := by decide +kernel
theorem dX10_writeRows_29 : decode cX10_writeRows 29 = .ok (.getfield 32, 3) := by decide +kernel
theorem dX10_writeRows_32 : decode cX10_writeRows 32 = .ok (.iload_n 3, 1) := by decide +kernel
theorem dX10_writeRows_33 : decode cX10_writeRows 33 = .ok (.iaload, 1) := by decide +kernel
theorem dX10_writeRows_34 : decode cX10_writeRows 34 = .ok (.ifCond .lt 51, 3) := by decide +kernel
theorem dX10_writeRows_37 : decode cX10_writeRows 37 = .ok (.aload_n 0, 1) := by decide +kernel
theorem dX10_writeRows_38 : decode cX10_writeRows 38 = .ok (.iload_n 3, 1) := by decide +kernel
theorem dX10_writeRows_39 : decode cX10_writeRows 39 = .ok (.aload_n 0, 1) := by decide +kernel
theorem dX10_writeRows_40 : decode cX10_writeRows 40 = .ok (.getfield 20, 3) := by decide +kernel
theorem dX10_writeRows_43 : decode cX10_writeRows 43 = .ok (.invokevirtual 104, 3) := by decide +kernel
theorem dX10_writeRows_46 : decode cX10_writeRows 46 = .ok (.aload_n 0, 1) := by decide +kernel
theorem dX10_writeRows_47 : decode cX10_writeRows 47 = .ok (.getfield 20, 3) := by decide +kernel
theorem dX10_writeRows_50 : decode cX10_writeRows 50 = .ok (.iload_n 2, 1) := by decide +kernel
theorem dX10_writeRows_51 : decode cX10_writeRows 51 = .ok (.invokestatic 124, 3) := by decide +kernel
theorem dX10_writeRows_54 : decode cX10_writeRows 54 = .ok (.istore 4, 2) := by decide +kernel
theorem dX10_writeRows_56 : decode cX10_writeRows 56 = .ok (.aload_n 1, 1) := by decide +kernel
theorem dX10_writeRows_57 : decode cX10_writeRows 57 = .ok (.getfield 128, 3) := by decide +kernel
theorem dX10_writeRows_60 : decode cX10_writeRows 60 = .ok (.iconst 1, 1) := by decide +kernel
theorem dX10_writeRows_61 : decode cX10_writeRows 61 = .ok (.if_icmp .eq 18, 3) := by decide +kernel
theorem dX10_writeRows_64 : decode cX10_writeRows 64 = .ok (.aload_n 1, 1) := by decide +kernel
theorem dX10_writeRows_65 : decode cX10_writeRows 65 = .ok (.aload_n 1, 1) := by decide +kernel
theorem dX10_writeRows_66 : decode cX10_writeRows 66 = .ok (.getfield 128, 3) := by decide +kernel
theorem dX10_writeRows_69 : decode cX10_writeRows 69 = .ok (.iconst 1, 1) := by decide +kernel
theorem dX10_writeRows_70 : decode cX10_writeRows 70 = .ok (.isub, 1) := by decide +kernel
theorem dX10_writeRows_71 : decode cX10_writeRows 71 = .ok (.invokevirtual 131, 3) := by decide +kernel
theorem dX10_writeRows_74 : decode cX10_writeRows 74 = .ok (.iload 4, 2) := by decide +kernel
theorem dX10_writeRows_76 : decode cX10_writeRows 76 = .ok (.if_icmp .eq 9, 3) := by decide +kernel
theorem dX10_writeRows_79 : decode cX10_writeRows 79 = .ok (.aload_n 1, 1) := by decide +kernel
theorem dX10_writeRows_80 : decode cX10_writeRows 80 = .ok (.iload 4, 2) := by decide +kernel
theorem dX10_writeRows_82 : decode cX10_writeRows 82 = .ok (.invokevirtual 115, 3) := by decide +kernel
theorem dX10_writeRows_85 : decode cX10_writeRows 85 = .ok (.iinc 3 1, 3) := by decide +kernel
theorem dX10_writeRows_88 : decode cX10_writeRows 88 = .ok (.goto (-67), 3) := by decide +kernel
theorem dX10_writeRows_91 : decode cX10_writeRows 91 = .ok (.aload_n 1, 1) := by decide +kernel
theorem dX10_writeRows_92 : decode cX10_writeRows 92 = .ok (.iconst 1, 1) := by decide +kernel
theorem dX10_writeRows_93 : decode cX10_writeRows 93 = .ok (.aload_n 0, 1) := by decide +kernel
theorem dX10_writeRows_94 : decode cX10_writeRows 94 = .ok (.getfield 16, 3) := by decide +kernel
theorem dX10_writeRows_97 : decode cX10_writeRows 97 = .ok (.iload_n 2, 1) := by decide +kernel
theorem dX10_writeRows_98 : decode cX10_writeRows 98 = .ok (.invokestatic 124, 3) := by decide +kernel
theorem dX10_writeRows_101 : decode cX10_writeRows 101 = .ok (.invokevirtual 134, 3) := by decide +kernel
theorem dX10_writeRows_104 : decode cX10_writeRows 104 = .ok (.ifCond .ne 4, 3) := by decide +kernel
theorem dX10_writeRows_107 : decode cX10_writeRows 107 = .ok (.return_, 1) := by decide +kernel
theorem dX10_writeRows_108 : decode cX10_writeRows 108 = .ok (.iinc 2 1, 3) := by decide +kernel
theorem dX10_writeRows_111 : decode cX10_writeRows 111 = .ok (.goto (-109), 3) := by decide +kernel
theorem dX10_writeRows_114 : decode cX10_writeRows 114 = .ok (.return_, 1) := by decide +kernel
theorem dX10_codeOf_0 : decode cX10_codeOf 0 = .ok (.iconst 0, 1) := by decide +kernel
theorem dX10_codeOf_1 : decode cX10_codeOf 1 = .ok (.istore_n 2, 1) := by decide +kernel
theorem dX10_codeOf_2 : decode cX10_codeOf 2 = .ok (.iconst 0, 1) := by decide +kernel
theorem dX10_codeOf_3 : decode cX10_codeOf 3 = .ok (.istore_n 3, 1) := by decide +kernel
theorem dX10_codeOf_4 : decode cX10_codeOf 4 = .ok (.iload_n 3, 1) := by decide +kernel
theorem dX10_codeOf_5 : decode cX10_codeOf 5 = .ok (.iload_n 1, 1) := by decide +kernel
theorem dX10_codeOf_6 : decode cX10_codeOf 6 = .ok (.if_icmp .ge 18, 3) := by decide +kernel
theorem dX10_codeOf_9 : decode cX10_codeOf 9 = .ok (.iload_n 2, 1) := by decide +kernel
theorem dX10_codeOf_10 : decode cX10_codeOf 10 = .ok (.bipush 6, 2) := by decide +kernel
theorem dX10_codeOf_12 : decode cX10_codeOf 12 = .ok (.imul, 1) := by decide +kernel
theorem dX10_codeOf_13 : decode cX10_codeOf 13 = .ok (.aload_n 0, 1) := by decide +kernel
theorem dX10_codeOf_14 : decode cX10_codeOf 14 = .ok (.iload_n 3, 1) := by decide +kernel
theorem dX10_codeOf_15 : decode cX10_codeOf 15 = .ok (.iaload, 1) := by decide +kernel
theorem dX10_codeOf_16 : decode cX10_codeOf 16 = .ok (.iadd, 1) := by decide +kernel
theorem dX10_codeOf_17 : decode cX10_codeOf 17 = .ok (.istore_n 2, 1) := by decide +kernel
theorem dX10_codeOf_18 : decode cX10_codeOf 18 = .ok (.iinc 3 1, 3) := by decide +kernel
theorem dX10_codeOf_21 : decode cX10_codeOf 21 = .ok (.goto (-17), 3) := by decide +kernel
theorem dX10_codeOf_24 : decode cX10_codeOf 24 = .ok (.iload_n 2, 1) := by decide +kernel
theorem dX10_codeOf_25 : decode cX10_codeOf 25 = .ok (.ireturn, 1) := by decide +kernel
theorem dX10_judgeItems_0 : decode cX10_judgeItems 0 = .ok (.aload_n 0, 1) := by decide +kernel
theorem dX10_judgeItems_1 : decode cX10_judgeItems 1 = .ok (.aload_n 1, 1) := by decide +kernel
theorem dX10_judgeItems_2 : decode cX10_judgeItems 2 = .ok (.invokevirtual 94, 3) := by decide +kernel
theorem dX10_judgeItems_5 : decode cX10_judgeItems 5 = .ok (.aload_n 2, 1) := by decide +kernel
theorem dX10_judgeItems_6 : decode cX10_judgeItems 6 = .ok (.iconst 0, 1) := by decide +kernel
theorem dX10_judgeItems_7 : decode cX10_judgeItems 7 = .ok (.iconst 1, 1) := by decide +kernel
theorem dX10_judgeItems_8 : decode cX10_judgeItems 8 = .ok (.aload_n 0, 1) := by decide +kernel
theorem dX10_judgeItems_9 : decode cX10_judgeItems 9 = .ok (.getfield 84, 3) := by decide +kernel
theorem dX10_judgeItems_12 : decode cX10_judgeItems 12 = .ok (.invokevirtual 142, 3) := by decide +kernel
theorem dX10_judgeItems_15 : decode cX10_judgeItems 15 = .ok (.ifCond .ne 5, 3) := by decide +kernel
theorem dX10_judgeItems_18 : decode cX10_judgeItems 18 = .ok (.iconst 1, 1) := by decide +kernel
theorem dX10_judgeItems_19 : decode cX10_judgeItems 19 = .ok (.ireturn, 1) := by decide +kernel
theorem dX10_judgeItems_20 : decode cX10_judgeItems 20 = .ok (.iconst 0, 1) := by decide +kernel
theorem dX10_judgeItems_21 : decode cX10_judgeItems 21 = .ok (.istore_n 3, 1) := by decide +kernel
theorem dX10_judgeItems_22 : decode cX10_judgeItems 22 = .ok (.iload_n 3, 1) := by decide +kernel
theorem dX10_judgeItems_23 : decode cX10_judgeItems 23 = .ok (.aload_n 0, 1) := by decide +kernel
theorem dX10_judgeItems_24 : decode cX10_judgeItems 24 = .ok (.getfield 71, 3) := by decide +kernel
theorem dX10_judgeItems_27 : decode cX10_judgeItems 27 = .ok (.if_icmp .ge 59, 3) := by decide +kernel
theorem dX10_judgeItems_30 : decode cX10_judgeItems 30 = .ok (.iload_n 3, 1) := by decide +kernel
theorem dX10_judgeItems_31 : decode cX10_judgeItems 31 = .ok (.istore 4, 2) := by decide +kernel
theorem dX10_judgeItems_33 : decode cX10_judgeItems 33 = .ok (.iconst 0, 1) := by decide +kernel
theorem dX10_judgeItems_34 : decode cX10_judgeItems 34 = .ok (.istore 5, 2) := by decide +kernel
theorem dX10_judgeItems_36 : decode cX10_judgeItems 36 = .ok (.iload 5, 2) := by decide +kernel
theorem dX10_judgeItems_38 : decode cX10_judgeItems 38 = .ok (.aload_n 2, 1) := by decide +kernel
theorem dX10_judgeItems_39 : decode cX10_judgeItems 39 = .ok (.getfield 128, 3) := by decide +kernel
theorem dX10_judgeItems_42 : decode cX10_judgeItems 42 = .ok (.if_icmp .ge 25, 3) := by decide +kernel
theorem dX10_judgeItems_45 : decode cX10_judgeItems 45 = .ok (.aload_n 0, 1) := by decide +kernel
theorem dX10_judgeItems_46 : decode cX10_judgeItems 46 = .ok (.getfield 13, 3) := by decide +kernel
theorem dX10_judgeItems_49 : decode cX10_judgeItems 49 = .ok (.aload_n 2, 1) := by decide +kernel
theorem dX10_judgeItems_50 : decode cX10_judgeItems 50 = .ok (.iload 5, 2) := by decide +kernel
theorem dX10_judgeItems_52 : decode cX10_judgeItems 52 = .ok (.invokevirtual 131, 3) := by decide +kernel
theorem dX10_judgeItems_55 : decode cX10_judgeItems 55 = .ok (.aaload, 1) := by decide +kernel
theorem dX10_judgeItems_56 : decode cX10_judgeItems 56 = .ok (.iload 4, 2) := by decide +kernel
theorem dX10_judgeItems_58 : decode cX10_judgeItems 58 = .ok (.iaload, 1) := by decide +kernel
theorem dX10_judgeItems_59 : decode cX10_judgeItems 59 = .ok (.istore 4, 2) := by decide +kernel
theorem dX10_judgeItems_61 : decode cX10_judgeItems 61 = .ok (.iinc 5 1, 3) := by decide +kernel
theorem dX10_judgeItems_64 : decode cX10_judgeItems 64 = .ok (.goto (-28), 3) := by decide +kernel
theorem dX10_judgeItems_67 : decode cX10_judgeItems 67 = .ok (.iload 4, 2) := by decide +kernel
theorem dX10_judgeItems_69 : decode cX10_judgeItems 69 = .ok (.aload_n 0, 1) := by decide +kernel
theorem dX10_judgeItems_70 : decode cX10_judgeItems 70 = .ok (.getfield 16, 3) := by decide +kernel
theorem dX10_judgeItems_73 : decode cX10_judgeItems 73 = .ok (.iload_n 3, 1) := by decide +kernel
theorem dX10_judgeItems_74 : decode cX10_judgeItems 74 = .ok (.iaload, 1) := by decide +kernel
theorem dX10_judgeItems_75 : decode cX10_judgeItems 75 = .ok (.if_icmp .eq 5, 3) := by decide +kernel
theorem dX10_judgeItems_78 : decode cX10_judgeItems 78 = .ok (.iconst 2, 1) := by decide +kernel
theorem dX10_judgeItems_79 : decode cX10_judgeItems 79 = .ok (.ireturn, 1) := by decide +kernel
theorem dX10_judgeItems_80 : decode cX10_judgeItems 80 = .ok (.iinc 3 1, 3) := by decide +kernel
theorem dX10_judgeItems_83 : decode cX10_judgeItems 83 = .ok (.goto (-61), 3) := by decide +kernel
theorem dX10_judgeItems_86 : decode cX10_judgeItems 86 = .ok (.iconst 0, 1) := by decide +kernel
theorem dX10_judgeItems_87 : decode cX10_judgeItems 87 = .ok (.ireturn, 1) := by decide +kernel
theorem dX10_judgeRows_0 : decode cX10_judgeRows 0 = .ok (.aload_n 0, 1) := by decide +kernel
theorem dX10_judgeRows_1 : decode cX10_judgeRows 1 = .ok (.aload_n 1, 1) := by decide +kernel
theorem dX10_judgeRows_2 : decode cX10_judgeRows 2 = .ok (.invokevirtual 94, 3) := by decide +kernel
theorem dX10_judgeRows_5 : decode cX10_judgeRows 5 = .ok (.aload_n 2, 1) := by decide +kernel
theorem dX10_judgeRows_6 : decode cX10_judgeRows 6 = .ok (.iconst 0, 1) := by decide +kernel
theorem dX10_judgeRows_7 : decode cX10_judgeRows 7 = .ok (.invokevirtual 131, 3) := by decide +kernel
theorem dX10_judgeRows_10 : decode cX10_judgeRows 10 = .ok (.istore_n 3, 1) := by decide +kernel
theorem dX10_judgeRows_11 : decode cX10_judgeRows 11 = .ok (.aload_n 2, 1) := by decide +kernel
theorem dX10_judgeRows_12 : decode cX10_judgeRows 12 = .ok (.getfield 128, 3) := by decide +kernel
theorem dX10_judgeRows_15 : decode cX10_judgeRows 15 = .ok (.ifCond .eq 33, 3) := by decide +kernel
theorem dX10_judgeRows_18 : decode cX10_judgeRows 18 = .ok (.iload_n 3, 1) := by decide +kernel
theorem dX10_judgeRows_19 : decode cX10_judgeRows 19 = .ok (.iconst 1, 1) := by decide +kernel
theorem dX10_judgeRows_20 : decode cX10_judgeRows 20 = .ok (.if_icmp .lt 28, 3) := by decide +kernel
theorem dX10_judgeRows_23 : decode cX10_judgeRows 23 = .ok (.iload_n 3, 1) := by decide +kernel
theorem dX10_judgeRows_24 : decode cX10_judgeRows 24 = .ok (.aload_n 0, 1) := by decide +kernel
theorem dX10_judgeRows_25 : decode cX10_judgeRows 25 = .ok (.getfield 71, 3) := by decide +kernel
theorem dX10_judgeRows_28 : decode cX10_judgeRows 28 = .ok (.if_icmp .gt 20, 3) := by decide +kernel
theorem dX10_judgeRows_31 : decode cX10_judgeRows 31 = .ok (.aload_n 2, 1) := by decide +kernel
theorem dX10_judgeRows_32 : decode cX10_judgeRows 32 = .ok (.iconst 1, 1) := by decide +kernel
theorem dX10_judgeRows_33 : decode cX10_judgeRows 33 = .ok (.invokevirtual 146, 3) := by decide +kernel
theorem dX10_judgeRows_36 : decode cX10_judgeRows 36 = .ok (.ifCond .eq 12, 3) := by decide +kernel
theorem dX10_judgeRows_39 : decode cX10_judgeRows 39 = .ok (.aload_n 0, 1) := by decide +kernel
theorem dX10_judgeRows_40 : decode cX10_judgeRows 40 = .ok (.aload_n 2, 1) := by decide +kernel
theorem dX10_judgeRows_41 : decode cX10_judgeRows 41 = .ok (.iload_n 3, 1) := by decide +kernel
theorem dX10_judgeRows_42 : decode cX10_judgeRows 42 = .ok (.invokevirtual 150, 3) := by decide +kernel
theorem dX10_judgeRows_45 : decode cX10_judgeRows 45 = .ok (.ifCond .ne 5, 3) := by decide +kernel
theorem dX10_judgeRows_48 : decode cX10_judgeRows 48 = .ok (.iconst 1, 1) := by decide +kernel
theorem dX10_judgeRows_49 : decode cX10_judgeRows 49 = .ok (.ireturn, 1) := by decide +kernel
theorem dX10_judgeRows_50 : decode cX10_judgeRows 50 = .ok (.iconst 0, 1) := by decide +kernel
theorem dX10_judgeRows_51 : decode cX10_judgeRows 51 = .ok (.istore 4, 2) := by decide +kernel
theorem dX10_judgeRows_53 : decode cX10_judgeRows 53 = .ok (.iload 4, 2) := by decide +kernel
theorem dX10_judgeRows_55 : decode cX10_judgeRows 55 = .ok (.aload_n 0, 1) := by decide +kernel
theorem dX10_judgeRows_56 : decode cX10_judgeRows 56 = .ok (.getfield 71, 3) := by decide +kernel
theorem dX10_judgeRows_59 : decode cX10_judgeRows 59 = .ok (.if_icmp .ge 18, 3) := by decide +kernel
theorem dX10_judgeRows_62 : decode cX10_judgeRows 62 = .ok (.aload_n 0, 1) := by decide +kernel
theorem dX10_judgeRows_63 : decode cX10_judgeRows 63 = .ok (.getfield 20, 3) := by decide +kernel
theorem dX10_judgeRows_66 : decode cX10_judgeRows 66 = .ok (.iload 4, 2) := by decide +kernel
theorem dX10_judgeRows_68 : decode cX10_judgeRows 68 = .ok (.iload 4, 2) := by decide +kernel
theorem dX10_judgeRows_70 : decode cX10_judgeRows 70 = .ok (.iastore, 1) := by decide +kernel
theorem dX10_judgeRows_71 : decode cX10_judgeRows 71 = .ok (.iinc 4 1, 3) := by decide +kernel
theorem dX10_judgeRows_74 : decode cX10_judgeRows 74 = .ok (.goto (-21), 3) := by decide +kernel
theorem dX10_judgeRows_77 : decode cX10_judgeRows 77 = .ok (.aload_n 2, 1) := by decide +kernel
theorem dX10_judgeRows_78 : decode cX10_judgeRows 78 = .ok (.iconst 1, 1) := by decide +kernel
theorem dX10_judgeRows_79 : decode cX10_judgeRows 79 = .ok (.aload_n 0, 1) := by decide +kernel
theorem dX10_judgeRows_80 : decode cX10_judgeRows 80 = .ok (.getfield 20, 3) := by decide +kernel
theorem dX10_judgeRows_83 : decode cX10_judgeRows 83 = .ok (.iload_n 3, 1) := by decide +kernel
theorem dX10_judgeRows_84 : decode cX10_judgeRows 84 = .ok (.invokestatic 124, 3) := by decide +kernel
theorem dX10_judgeRows_87 : decode cX10_judgeRows 87 = .ok (.invokevirtual 134, 3) := by decide +kernel
theorem dX10_judgeRows_90 : decode cX10_judgeRows 90 = .ok (.ifCond .ne 5, 3) := by decide +kernel
theorem dX10_judgeRows_93 : decode cX10_judgeRows 93 = .ok (.iconst 2, 1) := by decide +kernel
theorem dX10_judgeRows_94 : decode cX10_judgeRows 94 = .ok (.ireturn, 1) := by decide +kernel
theorem dX10_judgeRows_95 : decode cX10_judgeRows 95 = .ok (.iconst 1, 1) := by decide +kernel
theorem dX10_judgeRows_96 : decode cX10_judgeRows 96 = .ok (.istore 4, 2) := by decide +kernel
theorem dX10_judgeRows_98 : decode cX10_judgeRows 98 = .ok (.iload 4, 2) := by decide +kernel
theorem dX10_judgeRows_100 : decode cX10_judgeRows 100 = .ok (.aload_n 2, 1) := by decide +kernel
theorem dX10_judgeRows_101 : decode cX10_judgeRows 101 = .ok (.getfield 128, 3) := by decide +kernel
theorem dX10_judgeRows_104 : decode cX10_judgeRows 104 = .ok (.if_icmp .ge 22, 3) := by decide +kernel
theorem dX10_judgeRows_107 : decode cX10_judgeRows 107 = .ok (.aload_n 0, 1) := by decide +kernel
theorem dX10_judgeRows_108 : decode cX10_judgeRows 108 = .ok (.aload_n 2, 1) := by decide +kernel
theorem dX10_judgeRows_109 : decode cX10_judgeRows 109 = .ok (.iload 4, 2) := by decide +kernel
theorem dX10_judgeRows_111 : decode cX10_judgeRows 111 = .ok (.iload_n 3, 1) := by decide +kernel
theorem dX10_judgeRows_112 : decode cX10_judgeRows 112 = .ok (.invokevirtual 154, 3) := by decide +kernel
theorem dX10_judgeRows_115 : decode cX10_judgeRows 115 = .ok (.ifCond .ne 5, 3) := by decide +kernel
theorem dX10_judgeRows_118 : decode cX10_judgeRows 118 = .ok (.iconst 3, 1) := by decide +kernel
theorem dX10_judgeRows_119 : decode cX10_judgeRows 119 = .ok (.ireturn, 1) := by decide +kernel
theorem dX10_judgeRows_120 : decode cX10_judgeRows 120 = .ok (.iinc 4 1, 3) := by decide +kernel
theorem dX10_judgeRows_123 : decode cX10_judgeRows 123 = .ok (.goto (-25), 3) := by decide +kernel
theorem dX10_judgeRows_126 : decode cX10_judgeRows 126 = .ok (.aload_n 2, 1) := by decide +kernel
theorem dX10_judgeRows_127 : decode cX10_judgeRows 127 = .ok (.iconst 1, 1) := by decide +kernel
theorem dX10_judgeRows_128 : decode cX10_judgeRows 128 = .ok (.aload_n 0, 1) := by decide +kernel
theorem dX10_judgeRows_129 : decode cX10_judgeRows 129 = .ok (.getfield 16, 3) := by decide +kernel
theorem dX10_judgeRows_132 : decode cX10_judgeRows 132 = .ok (.iload_n 3, 1) := by decide +kernel
theorem dX10_judgeRows_133 : decode cX10_judgeRows 133 = .ok (.invokestatic 124, 3) := by decide +kernel
theorem dX10_judgeRows_136 : decode cX10_judgeRows 136 = .ok (.invokevirtual 134, 3) := by decide +kernel
theorem dX10_judgeRows_139 : decode cX10_judgeRows 139 = .ok (.ifCond .eq 7, 3) := by decide +kernel
theorem dX10_judgeRows_142 : decode cX10_judgeRows 142 = .ok (.iconst 4, 1) := by decide +kernel
theorem dX10_judgeRows_143 : decode cX10_judgeRows 143 = .ok (.goto 4, 3) := by decide +kernel
theorem dX10_judgeRows_146 : decode cX10_judgeRows 146 = .ok (.iconst 0, 1) := by decide +kernel
theorem dX10_judgeRows_147 : decode cX10_judgeRows 147 = .ok (.ireturn, 1) := by decide +kernel
theorem dX10_areRowsOf_0 : decode cX10_areRowsOf 0 = .ok (.iconst 1, 1) := by decide +kernel
theorem dX10_areRowsOf_1 : decode cX10_areRowsOf 1 = .ok (.istore_n 3, 1) := by decide +kernel
theorem dX10_areRowsOf_2 : decode cX10_areRowsOf 2 = .ok (.iload_n 3, 1) := by decide +kernel
theorem dX10_areRowsOf_3 : decode cX10_areRowsOf 3 = .ok (.aload_n 1, 1) := by decide +kernel
theorem dX10_areRowsOf_4 : decode cX10_areRowsOf 4 = .ok (.getfield 128, 3) := by decide +kernel
theorem dX10_areRowsOf_7 : decode cX10_areRowsOf 7 = .ok (.if_icmp .ge 79, 3) := by decide +kernel
theorem dX10_areRowsOf_10 : decode cX10_areRowsOf 10 = .ok (.aload_n 0, 1) := by decide +kernel
theorem dX10_areRowsOf_11 : decode cX10_areRowsOf 11 = .ok (.aload_n 1, 1) := by decide +kernel
theorem dX10_areRowsOf_12 : decode cX10_areRowsOf 12 = .ok (.iload_n 3, 1) := by decide +kernel
theorem dX10_areRowsOf_13 : decode cX10_areRowsOf 13 = .ok (.invokevirtual 131, 3) := by decide +kernel
theorem dX10_areRowsOf_16 : decode cX10_areRowsOf 16 = .ok (.iload_n 2, 1) := by decide +kernel
theorem dX10_areRowsOf_17 : decode cX10_areRowsOf 17 = .ok (.invokevirtual 158, 3) := by decide +kernel
theorem dX10_areRowsOf_20 : decode cX10_areRowsOf 20 = .ok (.istore 4, 2) := by decide +kernel
theorem dX10_areRowsOf_22 : decode cX10_areRowsOf 22 = .ok (.iconst 0, 1) := by decide +kernel
theorem dX10_areRowsOf_23 : decode cX10_areRowsOf 23 = .ok (.istore 5, 2) := by decide +kernel
theorem dX10_areRowsOf_25 : decode cX10_areRowsOf 25 = .ok (.iconst 0, 1) := by decide +kernel
theorem dX10_areRowsOf_26 : decode cX10_areRowsOf 26 = .ok (.istore 6, 2) := by decide +kernel
theorem dX10_areRowsOf_28 : decode cX10_areRowsOf 28 = .ok (.iload 6, 2) := by decide +kernel
theorem dX10_areRowsOf_30 : decode cX10_areRowsOf 30 = .ok (.iload_n 2, 1) := by decide +kernel
theorem dX10_areRowsOf_31 : decode cX10_areRowsOf 31 = .ok (.if_icmp .ge 23, 3) := by decide +kernel
theorem dX10_areRowsOf_34 : decode cX10_areRowsOf 34 = .ok (.iload 5, 2) := by decide +kernel
theorem dX10_areRowsOf_36 : decode cX10_areRowsOf 36 = .ok (.iconst 1, 1) := by decide +kernel
theorem dX10_areRowsOf_37 : decode cX10_areRowsOf 37 = .ok (.aload_n 0, 1) := by decide +kernel
theorem dX10_areRowsOf_38 : decode cX10_areRowsOf 38 = .ok (.getfield 20, 3) := by decide +kernel
theorem dX10_areRowsOf_41 : decode cX10_areRowsOf 41 = .ok (.iload 6, 2) := by decide +kernel
theorem dX10_areRowsOf_43 : decode cX10_areRowsOf 43 = .ok (.iaload, 1) := by decide +kernel
theorem dX10_areRowsOf_44 : decode cX10_areRowsOf 44 = .ok (.ishl, 1) := by decide +kernel
theorem dX10_areRowsOf_45 : decode cX10_areRowsOf 45 = .ok (.ior, 1) := by decide +kernel
theorem dX10_areRowsOf_46 : decode cX10_areRowsOf 46 = .ok (.istore 5, 2) := by decide +kernel
theorem dX10_areRowsOf_48 : decode cX10_areRowsOf 48 = .ok (.iinc 6 1, 3) := by decide +kernel
theorem dX10_areRowsOf_51 : decode cX10_areRowsOf 51 = .ok (.goto (-23), 3) := by decide +kernel
theorem dX10_areRowsOf_54 : decode cX10_areRowsOf 54 = .ok (.iload 4, 2) := by decide +kernel
theorem dX10_areRowsOf_56 : decode cX10_areRowsOf 56 = .ok (.ifCond .ne 22, 3) := by decide +kernel
theorem dX10_areRowsOf_59 : decode cX10_areRowsOf 59 = .ok (.iload 5, 2) := by decide +kernel
theorem dX10_areRowsOf_61 : decode cX10_areRowsOf 61 = .ok (.invokestatic 137, 3) := by decide +kernel
theorem dX10_areRowsOf_64 : decode cX10_areRowsOf 64 = .ok (.iload_n 2, 1) := by decide +kernel
theorem dX10_areRowsOf_65 : decode cX10_areRowsOf 65 = .ok (.if_icmp .ne 13, 3) := by decide +kernel
theorem dX10_areRowsOf_68 : decode cX10_areRowsOf 68 = .ok (.iload 5, 2) := by decide +kernel
theorem dX10_areRowsOf_70 : decode cX10_areRowsOf 70 = .ok (.aload_n 0, 1) := by decide +kernel
theorem dX10_areRowsOf_71 : decode cX10_areRowsOf 71 = .ok (.getfield 71, 3) := by decide +kernel
theorem dX10_areRowsOf_74 : decode cX10_areRowsOf 74 = .ok (.ishr, 1) := by decide +kernel
theorem dX10_areRowsOf_75 : decode cX10_areRowsOf 75 = .ok (.ifCond .eq 5, 3) := by decide +kernel
theorem dX10_areRowsOf_78 : decode cX10_areRowsOf 78 = .ok (.iconst 0, 1) := by decide +kernel
theorem dX10_areRowsOf_79 : decode cX10_areRowsOf 79 = .ok (.ireturn, 1) := by decide +kernel
theorem dX10_areRowsOf_80 : decode cX10_areRowsOf 80 = .ok (.iinc 3 1, 3) := by decide +kernel
theorem dX10_areRowsOf_83 : decode cX10_areRowsOf 83 = .ok (.goto (-81), 3) := by decide +kernel
theorem dX10_areRowsOf_86 : decode cX10_areRowsOf 86 = .ok (.iconst 1, 1) := by decide +kernel
theorem dX10_areRowsOf_87 : decode cX10_areRowsOf 87 = .ok (.ireturn, 1) := by decide +kernel
theorem dX10_readCode_0 : decode cX10_readCode 0 = .ok (.iload_n 1, 1) := by decide +kernel
theorem dX10_readCode_1 : decode cX10_readCode 1 = .ok (.istore_n 3, 1) := by decide +kernel
theorem dX10_readCode_2 : decode cX10_readCode 2 = .ok (.iload_n 2, 1) := by decide +kernel
theorem dX10_readCode_3 : decode cX10_readCode 3 = .ok (.iconst 1, 1) := by decide +kernel
theorem dX10_readCode_4 : decode cX10_readCode 4 = .ok (.isub, 1) := by decide +kernel
theorem dX10_readCode_5 : decode cX10_readCode 5 = .ok (.istore 4, 2) := by decide +kernel
theorem dX10_readCode_7 : decode cX10_readCode 7 = .ok (.iload 4, 2) := by decide +kernel
theorem dX10_readCode_9 : decode cX10_readCode 9 = .ok (.ifCond .lt 29, 3) := by decide +kernel
theorem dX10_readCode_12 : decode cX10_readCode 12 = .ok (.aload_n 0, 1) := by decide +kernel
theorem dX10_readCode_13 : decode cX10_readCode 13 = .ok (.getfield 20, 3) := by decide +kernel
theorem dX10_readCode_16 : decode cX10_readCode 16 = .ok (.iload 4, 2) := by decide +kernel
theorem dX10_readCode_18 : decode cX10_readCode 18 = .ok (.iload_n 3, 1) := by decide +kernel
theorem dX10_readCode_19 : decode cX10_readCode 19 = .ok (.bipush 6, 2) := by decide +kernel
theorem dX10_readCode_21 : decode cX10_readCode 21 = .ok (.invokestatic 161, 3) := by decide +kernel
theorem dX10_readCode_24 : decode cX10_readCode 24 = .ok (.iastore, 1) := by decide +kernel
theorem dX10_readCode_25 : decode cX10_readCode 25 = .ok (.iload_n 3, 1) := by decide +kernel
theorem dX10_readCode_26 : decode cX10_readCode 26 = .ok (.bipush 6, 2) := by decide +kernel
theorem dX10_readCode_28 : decode cX10_readCode 28 = .ok (.invokestatic 164, 3) := by decide +kernel
theorem dX10_readCode_31 : decode cX10_readCode 31 = .ok (.istore_n 3, 1) := by decide +kernel
theorem dX10_readCode_32 : decode cX10_readCode 32 = .ok (.iinc 4 (-1), 3) := by decide +kernel
theorem dX10_readCode_35 : decode cX10_readCode 35 = .ok (.goto (-28), 3) := by decide +kernel
theorem dX10_readCode_38 : decode cX10_readCode 38 = .ok (.iload_n 3, 1) := by decide +kernel
theorem dX10_readCode_39 : decode cX10_readCode 39 = .ok (.ireturn, 1) := by decide +kernel
theorem dX10_isLedWithin_0 : decode cX10_isLedWithin 0 = .ok (.aload_n 0, 1) := by decide +kernel
theorem dX10_isLedWithin_1 : decode cX10_isLedWithin 1 = .ok (.aload_n 1, 1) := by decide +kernel
theorem dX10_isLedWithin_2 : decode cX10_isLedWithin 2 = .ok (.iload_n 2, 1) := by decide +kernel
theorem dX10_isLedWithin_3 : decode cX10_isLedWithin 3 = .ok (.invokevirtual 131, 3) := by decide +kernel
theorem dX10_isLedWithin_6 : decode cX10_isLedWithin 6 = .ok (.iload_n 3, 1) := by decide +kernel
theorem dX10_isLedWithin_7 : decode cX10_isLedWithin 7 = .ok (.invokevirtual 158, 3) := by decide +kernel
theorem dX10_isLedWithin_10 : decode cX10_isLedWithin 10 = .ok (.pop, 1) := by decide +kernel
theorem dX10_isLedWithin_11 : decode cX10_isLedWithin 11 = .ok (.iconst 1, 1) := by decide +kernel
theorem dX10_isLedWithin_12 : decode cX10_isLedWithin 12 = .ok (.istore 4, 2) := by decide +kernel
theorem dX10_isLedWithin_14 : decode cX10_isLedWithin 14 = .ok (.iload 4, 2) := by decide +kernel
theorem dX10_isLedWithin_16 : decode cX10_isLedWithin 16 = .ok (.aload_n 0, 1) := by decide +kernel
theorem dX10_isLedWithin_17 : decode cX10_isLedWithin 17 = .ok (.getfield 84, 3) := by decide +kernel
theorem dX10_isLedWithin_20 : decode cX10_isLedWithin 20 = .ok (.if_icmp .gt 64, 3) := by decide +kernel
theorem dX10_isLedWithin_23 : decode cX10_isLedWithin 23 = .ok (.iconst 0, 1) := by decide +kernel
theorem dX10_isLedWithin_24 : decode cX10_isLedWithin 24 = .ok (.istore 5, 2) := by decide +kernel
theorem dX10_isLedWithin_26 : decode cX10_isLedWithin 26 = .ok (.iload 5, 2) := by decide +kernel
theorem dX10_isLedWithin_28 : decode cX10_isLedWithin 28 = .ok (.iload_n 3, 1) := by decide +kernel
theorem dX10_isLedWithin_29 : decode cX10_isLedWithin 29 = .ok (.if_icmp .ge 31, 3) := by decide +kernel
theorem dX10_isLedWithin_32 : decode cX10_isLedWithin 32 = .ok (.aload_n 0, 1) := by decide +kernel
theorem dX10_isLedWithin_33 : decode cX10_isLedWithin 33 = .ok (.getfield 23, 3) := by decide +kernel
theorem dX10_isLedWithin_36 : decode cX10_isLedWithin 36 = .ok (.iload 5, 2) := by decide +kernel
theorem dX10_isLedWithin_38 : decode cX10_isLedWithin 38 = .ok (.aload_n 0, 1) := by decide +kernel
theorem dX10_isLedWithin_39 : decode cX10_isLedWithin 39 = .ok (.getfield 13, 3) := by decide +kernel
theorem dX10_isLedWithin_42 : decode cX10_isLedWithin 42 = .ok (.iload 4, 2) := by decide +kernel
theorem dX10_isLedWithin_44 : decode cX10_isLedWithin 44 = .ok (.aaload, 1) := by decide +kernel
theorem dX10_isLedWithin_45 : decode cX10_isLedWithin 45 = .ok (.aload_n 0, 1) := by decide +kernel
theorem dX10_isLedWithin_46 : decode cX10_isLedWithin 46 = .ok (.getfield 20, 3) := by decide +kernel
theorem dX10_isLedWithin_49 : decode cX10_isLedWithin 49 = .ok (.iload 5, 2) := by decide +kernel
theorem dX10_isLedWithin_51 : decode cX10_isLedWithin 51 = .ok (.iaload, 1) := by decide +kernel
theorem dX10_isLedWithin_52 : decode cX10_isLedWithin 52 = .ok (.iaload, 1) := by decide +kernel
theorem dX10_isLedWithin_53 : decode cX10_isLedWithin 53 = .ok (.iastore, 1) := by decide +kernel
theorem dX10_isLedWithin_54 : decode cX10_isLedWithin 54 = .ok (.iinc 5 1, 3) := by decide +kernel
theorem dX10_isLedWithin_57 : decode cX10_isLedWithin 57 = .ok (.goto (-31), 3) := by decide +kernel
theorem dX10_isLedWithin_60 : decode cX10_isLedWithin 60 = .ok (.aload_n 1, 1) := by decide +kernel
theorem dX10_isLedWithin_61 : decode cX10_isLedWithin 61 = .ok (.iconst 1, 1) := by decide +kernel
theorem dX10_isLedWithin_62 : decode cX10_isLedWithin 62 = .ok (.aload_n 0, 1) := by decide +kernel
theorem dX10_isLedWithin_63 : decode cX10_isLedWithin 63 = .ok (.getfield 23, 3) := by decide +kernel
theorem dX10_isLedWithin_66 : decode cX10_isLedWithin 66 = .ok (.iload_n 3, 1) := by decide +kernel
theorem dX10_isLedWithin_67 : decode cX10_isLedWithin 67 = .ok (.invokestatic 124, 3) := by decide +kernel
theorem dX10_isLedWithin_70 : decode cX10_isLedWithin 70 = .ok (.invokevirtual 134, 3) := by decide +kernel
theorem dX10_isLedWithin_73 : decode cX10_isLedWithin 73 = .ok (.ifCond .ne 5, 3) := by decide +kernel
theorem dX10_isLedWithin_76 : decode cX10_isLedWithin 76 = .ok (.iconst 0, 1) := by decide +kernel
theorem dX10_isLedWithin_77 : decode cX10_isLedWithin 77 = .ok (.ireturn, 1) := by decide +kernel
theorem dX10_isLedWithin_78 : decode cX10_isLedWithin 78 = .ok (.iinc 4 1, 3) := by decide +kernel
theorem dX10_isLedWithin_81 : decode cX10_isLedWithin 81 = .ok (.goto (-67), 3) := by decide +kernel
theorem dX10_isLedWithin_84 : decode cX10_isLedWithin 84 = .ok (.iconst 1, 1) := by decide +kernel
theorem dX10_isLedWithin_85 : decode cX10_isLedWithin 85 = .ok (.ireturn, 1) := by decide +kernel
theorem dX10_firstWord_0 : decode cX10_firstWord 0 = .ok (.aload_n 0, 1) := by decide +kernel
theorem dX10_firstWord_1 : decode cX10_firstWord 1 = .ok (.getfield 75, 3) := by decide +kernel
theorem dX10_firstWord_4 : decode cX10_firstWord 4 = .ok (.ifCond .le 12, 3) := by decide +kernel
theorem dX10_firstWord_7 : decode cX10_firstWord 7 = .ok (.aload_n 0, 1) := by decide +kernel
theorem dX10_firstWord_8 : decode cX10_firstWord 8 = .ok (.iconst 0, 1) := by decide +kernel
theorem dX10_firstWord_9 : decode cX10_firstWord 9 = .ok (.iconst 0, 1) := by decide +kernel
theorem dX10_firstWord_10 : decode cX10_firstWord 10 = .ok (.invokevirtual 91, 3) := by decide +kernel
theorem dX10_firstWord_13 : decode cX10_firstWord 13 = .ok (.goto 4, 3) := by decide +kernel
theorem dX10_firstWord_16 : decode cX10_firstWord 16 = .ok (.iconst 1, 1) := by decide +kernel
theorem dX10_firstWord_17 : decode cX10_firstWord 17 = .ok (.ireturn, 1) := by decide +kernel
theorem dX10_secondWord_0 : decode cX10_secondWord 0 = .ok (.aload_n 0, 1) := by decide +kernel
theorem dX10_secondWord_1 : decode cX10_secondWord 1 = .ok (.getfield 75, 3) := by decide +kernel
theorem dX10_secondWord_4 : decode cX10_secondWord 4 = .ok (.ifCond .le 12, 3) := by decide +kernel
theorem dX10_secondWord_7 : decode cX10_secondWord 7 = .ok (.aload_n 0, 1) := by decide +kernel
theorem dX10_secondWord_8 : decode cX10_secondWord 8 = .ok (.iconst 0, 1) := by decide +kernel
theorem dX10_secondWord_9 : decode cX10_secondWord 9 = .ok (.iconst 1, 1) := by decide +kernel
theorem dX10_secondWord_10 : decode cX10_secondWord 10 = .ok (.invokevirtual 91, 3) := by decide +kernel
theorem dX10_secondWord_13 : decode cX10_secondWord 13 = .ok (.goto 4, 3) := by decide +kernel
theorem dX10_secondWord_16 : decode cX10_secondWord 16 = .ok (.iconst 1, 1) := by decide +kernel
theorem dX10_secondWord_17 : decode cX10_secondWord 17 = .ok (.ireturn, 1) := by decide +kernel
theorem dX10_beyondWords_0 : decode cX10_beyondWords 0 = .ok (.iconst 2, 1) := by decide +kernel
theorem dX10_beyondWords_1 : decode cX10_beyondWords 1 = .ok (.aload_n 0, 1) := by decide +kernel
theorem dX10_beyondWords_2 : decode cX10_beyondWords 2 = .ok (.getfield 72, 3) := by decide +kernel
theorem dX10_beyondWords_5 : decode cX10_beyondWords 5 = .ok (.ishl, 1) := by decide +kernel
theorem dX10_beyondWords_6 : decode cX10_beyondWords 6 = .ok (.ireturn, 1) := by decide +kernel
theorem dX10_solveWords_0 : decode cX10_solveWords 0 = .ok (.aload_n 1, 1) := by decide +kernel
theorem dX10_solveWords_1 : decode cX10_solveWords 1 = .ok (.invokestatic 167, 3) := by decide +kernel
theorem dX10_solveWords_4 : decode cX10_solveWords 4 = .ok (.istore_n 2, 1) := by decide +kernel
theorem dX10_solveWords_5 : decode cX10_solveWords 5 = .ok (.aload_n 1, 1) := by decide +kernel
theorem dX10_solveWords_6 : decode cX10_solveWords 6 = .ok (.invokestatic 170, 3) := by decide +kernel
theorem dX10_solveWords_9 : decode cX10_solveWords 9 = .ok (.istore_n 3, 1) := by decide +kernel
theorem dX10_solveWords_10 : decode cX10_solveWords 10 = .ok (.aload_n 1, 1) := by decide +kernel
theorem dX10_solveWords_11 : decode cX10_solveWords 11 = .ok (.invokestatic 173, 3) := by decide +kernel
theorem dX10_solveWords_14 : decode cX10_solveWords 14 = .ok (.istore 4, 2) := by decide +kernel
theorem dX10_solveWords_16 : decode cX10_solveWords 16 = .ok (.iload_n 2, 1) := by decide +kernel
theorem dX10_solveWords_17 : decode cX10_solveWords 17 = .ok (.iload 4, 2) := by decide +kernel
theorem dX10_solveWords_19 : decode cX10_solveWords 19 = .ok (.if_icmp .ge 12, 3) := by decide +kernel
theorem dX10_solveWords_22 : decode cX10_solveWords 22 = .ok (.aload_n 0, 1) := by decide +kernel
theorem dX10_solveWords_23 : decode cX10_solveWords 23 = .ok (.aload_n 1, 1) := by decide +kernel
theorem dX10_solveWords_24 : decode cX10_solveWords 24 = .ok (.iload_n 2, 1) := by decide +kernel
theorem dX10_solveWords_25 : decode cX10_solveWords 25 = .ok (.invokevirtual 176, 3) := by decide +kernel
theorem dX10_solveWords_28 : decode cX10_solveWords 28 = .ok (.goto 4, 3) := by decide +kernel
theorem dX10_solveWords_31 : decode cX10_solveWords 31 = .ok (.iconst 0, 1) := by decide +kernel
theorem dX10_solveWords_32 : decode cX10_solveWords 32 = .ok (.istore 5, 2) := by decide +kernel
theorem dX10_solveWords_34 : decode cX10_solveWords 34 = .ok (.iload_n 2, 1) := by decide +kernel
theorem dX10_solveWords_35 : decode cX10_solveWords 35 = .ok (.iload 4, 2) := by decide +kernel
theorem dX10_solveWords_37 : decode cX10_solveWords 37 = .ok (.if_icmp .ge 22, 3) := by decide +kernel
theorem dX10_solveWords_40 : decode cX10_solveWords 40 = .ok (.iload_n 3, 1) := by decide +kernel
theorem dX10_solveWords_41 : decode cX10_solveWords 41 = .ok (.iload 4, 2) := by decide +kernel
theorem dX10_solveWords_43 : decode cX10_solveWords 43 = .ok (.if_icmp .ge 16, 3) := by decide +kernel
theorem dX10_solveWords_46 : decode cX10_solveWords 46 = .ok (.aload_n 0, 1) := by decide +kernel
theorem dX10_solveWords_47 : decode cX10_solveWords 47 = .ok (.getfield 35, 3) := by decide +kernel
theorem dX10_solveWords_50 : decode cX10_solveWords 50 = .ok (.iload_n 3, 1) := by decide +kernel
theorem dX10_solveWords_51 : decode cX10_solveWords 51 = .ok (.iaload, 1) := by decide +kernel
theorem dX10_solveWords_52 : decode cX10_solveWords 52 = .ok (.ifCond .lt 7, 3) := by decide +kernel
theorem dX10_solveWords_55 : decode cX10_solveWords 55 = .ok (.iconst 1, 1) := by decide +kernel
theorem dX10_solveWords_56 : decode cX10_solveWords 56 = .ok (.goto 4, 3) := by decide +kernel
theorem dX10_solveWords_59 : decode cX10_solveWords 59 = .ok (.iconst 0, 1) := by decide +kernel
theorem dX10_solveWords_60 : decode cX10_solveWords 60 = .ok (.istore 6, 2) := by decide +kernel
theorem dX10_solveWords_62 : decode cX10_solveWords 62 = .ok (.aload_n 1, 1) := by decide +kernel
theorem dX10_solveWords_63 : decode cX10_solveWords 63 = .ok (.iload 6, 2) := by decide +kernel
theorem dX10_solveWords_65 : decode cX10_solveWords 65 = .ok (.iload 5, 2) := by decide +kernel
theorem dX10_solveWords_67 : decode cX10_solveWords 67 = .ok (.invokevirtual 49, 3) := by decide +kernel
theorem dX10_solveWords_70 : decode cX10_solveWords 70 = .ok (.iload 6, 2) := by decide +kernel
theorem dX10_solveWords_72 : decode cX10_solveWords 72 = .ok (.ifCond .eq 19, 3) := by decide +kernel
theorem dX10_solveWords_75 : decode cX10_solveWords 75 = .ok (.aload_n 0, 1) := by decide +kernel
theorem dX10_solveWords_76 : decode cX10_solveWords 76 = .ok (.aload_n 1, 1) := by decide +kernel
theorem dX10_solveWords_77 : decode cX10_solveWords 77 = .ok (.iload_n 3, 1) := by decide +kernel
theorem dX10_solveWords_78 : decode cX10_solveWords 78 = .ok (.invokevirtual 176, 3) := by decide +kernel
theorem dX10_solveWords_81 : decode cX10_solveWords 81 = .ok (.pop, 1) := by decide +kernel
theorem dX10_solveWords_82 : decode cX10_solveWords 82 = .ok (.aload_n 0, 1) := by decide +kernel
theorem dX10_solveWords_83 : decode cX10_solveWords 83 = .ok (.aload_n 1, 1) := by decide +kernel
theorem dX10_solveWords_84 : decode cX10_solveWords 84 = .ok (.iload_n 2, 1) := by decide +kernel
theorem dX10_solveWords_85 : decode cX10_solveWords 85 = .ok (.invokevirtual 180, 3) := by decide +kernel
theorem dX10_solveWords_88 : decode cX10_solveWords 88 = .ok (.goto 44, 3) := by decide +kernel
theorem dX10_solveWords_91 : decode cX10_solveWords 91 = .ok (.iload_n 2, 1) := by decide +kernel
theorem dX10_solveWords_92 : decode cX10_solveWords 92 = .ok (.iload 4, 2) := by decide +kernel
theorem dX10_solveWords_94 : decode cX10_solveWords 94 = .ok (.if_icmp .ge 38, 3) := by decide +kernel
theorem dX10_solveWords_97 : decode cX10_solveWords 97 = .ok (.iconst 1, 1) := by decide +kernel
theorem dX10_solveWords_98 : decode cX10_solveWords 98 = .ok (.istore 7, 2) := by decide +kernel
theorem dX10_solveWords_100 : decode cX10_solveWords 100 = .ok (.iload 7, 2) := by decide +kernel
theorem dX10_solveWords_102 : decode cX10_solveWords 102 = .ok (.iload 4, 2) := by decide +kernel
theorem dX10_solveWords_104 : decode cX10_solveWords 104 = .ok (.if_icmp .ge 28, 3) := by decide +kernel
theorem dX10_solveWords_107 : decode cX10_solveWords 107 = .ok (.aload_n 0, 1) := by decide +kernel
theorem dX10_solveWords_108 : decode cX10_solveWords 108 = .ok (.getfield 35, 3) := by decide +kernel
theorem dX10_solveWords_111 : decode cX10_solveWords 111 = .ok (.iload 7, 2) := by decide +kernel
theorem dX10_solveWords_113 : decode cX10_solveWords 113 = .ok (.iaload, 1) := by decide +kernel
theorem dX10_solveWords_114 : decode cX10_solveWords 114 = .ok (.ifCond .lt 12, 3) := by decide +kernel
theorem dX10_solveWords_117 : decode cX10_solveWords 117 = .ok (.aload_n 1, 1) := by decide +kernel
theorem dX10_solveWords_118 : decode cX10_solveWords 118 = .ok (.getfield 55, 3) := by decide +kernel
theorem dX10_solveWords_121 : decode cX10_solveWords 121 = .ok (.iload 7, 2) := by decide +kernel
theorem dX10_solveWords_123 : decode cX10_solveWords 123 = .ok (.invokevirtual 115, 3) := by decide +kernel
theorem dX10_solveWords_126 : decode cX10_solveWords 126 = .ok (.iinc 7 1, 3) := by decide +kernel
theorem dX10_solveWords_129 : decode cX10_solveWords 129 = .ok (.goto (-29), 3) := by decide +kernel
theorem dX10_solveWords_132 : decode cX10_solveWords 132 = .ok (.return_, 1) := by decide +kernel
theorem dX10_stepFrom_0 : decode cX10_stepFrom 0 = .ok (.aload_n 0, 1) := by decide +kernel
theorem dX10_stepFrom_1 : decode cX10_stepFrom 1 = .ok (.getfield 35, 3) := by decide +kernel
theorem dX10_stepFrom_4 : decode cX10_stepFrom 4 = .ok (.iconst (-1), 1) := by decide +kernel
theorem dX10_stepFrom_5 : decode cX10_stepFrom 5 = .ok (.invokestatic 98, 3) := by decide +kernel
theorem dX10_stepFrom_8 : decode cX10_stepFrom 8 = .ok (.aload_n 0, 1) := by decide +kernel
theorem dX10_stepFrom_9 : decode cX10_stepFrom 9 = .ok (.getfield 35, 3) := by decide +kernel
theorem dX10_stepFrom_12 : decode cX10_stepFrom 12 = .ok (.iload_n 2, 1) := by decide +kernel
theorem dX10_stepFrom_13 : decode cX10_stepFrom 13 = .ok (.iconst 0, 1) := by decide +kernel
theorem dX10_stepFrom_14 : decode cX10_stepFrom 14 = .ok (.iastore, 1) := by decide +kernel
theorem dX10_stepFrom_15 : decode cX10_stepFrom 15 = .ok (.aload_n 0, 1) := by decide +kernel
theorem dX10_stepFrom_16 : decode cX10_stepFrom 16 = .ok (.getfield 26, 3) := by decide +kernel
theorem dX10_stepFrom_19 : decode cX10_stepFrom 19 = .ok (.iconst 0, 1) := by decide +kernel
theorem dX10_stepFrom_20 : decode cX10_stepFrom 20 = .ok (.iload_n 2, 1) := by decide +kernel
theorem dX10_stepFrom_21 : decode cX10_stepFrom 21 = .ok (.iastore, 1) := by decide +kernel
theorem dX10_stepFrom_22 : decode cX10_stepFrom 22 = .ok (.iconst 1, 1) := by decide +kernel
theorem dX10_stepFrom_23 : decode cX10_stepFrom 23 = .ok (.istore_n 3, 1) := by decide +kernel
theorem dX10_stepFrom_24 : decode cX10_stepFrom 24 = .ok (.iconst 0, 1) := by decide +kernel
theorem dX10_stepFrom_25 : decode cX10_stepFrom 25 = .ok (.istore 4, 2) := by decide +kernel
theorem dX10_stepFrom_27 : decode cX10_stepFrom 27 = .ok (.iload 4, 2) := by decide +kernel
theorem dX10_stepFrom_29 : decode cX10_stepFrom 29 = .ok (.iload_n 3, 1) := by decide +kernel
theorem dX10_stepFrom_30 : decode cX10_stepFrom 30 = .ok (.if_icmp .ge 103, 3) := by decide +kernel
theorem dX10_stepFrom_33 : decode cX10_stepFrom 33 = .ok (.aload_n 0, 1) := by decide +kernel
theorem dX10_stepFrom_34 : decode cX10_stepFrom 34 = .ok (.aload_n 1, 1) := by decide +kernel
theorem dX10_stepFrom_35 : decode cX10_stepFrom 35 = .ok (.aload_n 0, 1) := by decide +kernel
theorem dX10_stepFrom_36 : decode cX10_stepFrom 36 = .ok (.getfield 26, 3) := by decide +kernel
theorem dX10_stepFrom_39 : decode cX10_stepFrom 39 = .ok (.iload 4, 2) := by decide +kernel
theorem dX10_stepFrom_41 : decode cX10_stepFrom 41 = .ok (.iaload, 1) := by decide +kernel
theorem dX10_stepFrom_42 : decode cX10_stepFrom 42 = .ok (.invokevirtual 184, 3) := by decide +kernel
theorem dX10_stepFrom_45 : decode cX10_stepFrom 45 = .ok (.iconst 0, 1) := by decide +kernel
theorem dX10_stepFrom_46 : decode cX10_stepFrom 46 = .ok (.istore 5, 2) := by decide +kernel
theorem dX10_stepFrom_48 : decode cX10_stepFrom 48 = .ok (.iload 5, 2) := by decide +kernel
theorem dX10_stepFrom_50 : decode cX10_stepFrom 50 = .ok (.aload_n 0, 1) := by decide +kernel
theorem dX10_stepFrom_51 : decode cX10_stepFrom 51 = .ok (.getfield 187, 3) := by decide +kernel
theorem dX10_stepFrom_54 : decode cX10_stepFrom 54 = .ok (.if_icmp .ge 73, 3) := by decide +kernel
theorem dX10_stepFrom_57 : decode cX10_stepFrom 57 = .ok (.aload_n 0, 1) := by decide +kernel
theorem dX10_stepFrom_58 : decode cX10_stepFrom 58 = .ok (.getfield 35, 3) := by decide +kernel
theorem dX10_stepFrom_61 : decode cX10_stepFrom 61 = .ok (.aload_n 0, 1) := by decide +kernel
theorem dX10_stepFrom_62 : decode cX10_stepFrom 62 = .ok (.getfield 38, 3) := by decide +kernel
theorem dX10_stepFrom_65 : decode cX10_stepFrom 65 = .ok (.iload 5, 2) := by decide +kernel
theorem dX10_stepFrom_67 : decode cX10_stepFrom 67 = .ok (.iaload, 1) := by decide +kernel
theorem dX10_stepFrom_68 : decode cX10_stepFrom 68 = .ok (.iaload, 1) := by decide +kernel
theorem dX10_stepFrom_69 : decode cX10_stepFrom 69 = .ok (.ifCond .ge 52, 3) := by decide +kernel
theorem dX10_stepFrom_72 : decode cX10_stepFrom 72 = .ok (.iload_n 3, 1) := by decide +kernel
theorem dX10_stepFrom_73 : decode cX10_stepFrom 73 = .ok (.sipush 256, 3) := by decide +kernel
theorem dX10_stepFrom_76 : decode cX10_stepFrom 76 = .ok (.if_icmp .ge 45, 3) := by decide +kernel
theorem dX10_stepFrom_79 : decode cX10_stepFrom 79 = .ok (.aload_n 0, 1) := by decide +kernel
theorem dX10_stepFrom_80 : decode cX10_stepFrom 80 = .ok (.getfield 35, 3) := by decide +kernel
theorem dX10_stepFrom_83 : decode cX10_stepFrom 83 = .ok (.aload_n 0, 1) := by decide +kernel
theorem dX10_stepFrom_84 : decode cX10_stepFrom 84 = .ok (.getfield 38, 3) := by decide +kernel
theorem dX10_stepFrom_87 : decode cX10_stepFrom 87 = .ok (.iload 5, 2) := by decide +kernel
theorem dX10_stepFrom_89 : decode cX10_stepFrom 89 = .ok (.iaload, 1) := by decide +kernel
theorem dX10_stepFrom_90 : decode cX10_stepFrom 90 = .ok (.aload_n 0, 1) := by decide +kernel
theorem dX10_stepFrom_91 : decode cX10_stepFrom 91 = .ok (.getfield 35, 3) := by decide +kernel
theorem dX10_stepFrom_94 : decode cX10_stepFrom 94 = .ok (.aload_n 0, 1) := by decide +kernel
theorem dX10_stepFrom_95 : decode cX10_stepFrom 95 = .ok (.getfield 26, 3) := by decide +kernel
theorem dX10_stepFrom_98 : decode cX10_stepFrom 98 = .ok (.iload 4, 2) := by decide +kernel
theorem dX10_stepFrom_100 : decode cX10_stepFrom 100 = .ok (.iaload, 1) := by decide +kernel
theorem dX10_stepFrom_101 : decode cX10_stepFrom 101 = .ok (.iaload, 1) := by decide +kernel
theorem dX10_stepFrom_102 : decode cX10_stepFrom 102 = .ok (.iconst 1, 1) := by decide +kernel
theorem dX10_stepFrom_103 : decode cX10_stepFrom 103 = .ok (.iadd, 1) := by decide +kernel
theorem dX10_stepFrom_104 : decode cX10_stepFrom 104 = .ok (.iastore, 1) := by decide +kernel
theorem dX10_stepFrom_105 : decode cX10_stepFrom 105 = .ok (.aload_n 0, 1) := by decide +kernel
theorem dX10_stepFrom_106 : decode cX10_stepFrom 106 = .ok (.getfield 26, 3) := by decide +kernel
theorem dX10_stepFrom_109 : decode cX10_stepFrom 109 = .ok (.iload_n 3, 1) := by decide +kernel
theorem dX10_stepFrom_110 : decode cX10_stepFrom 110 = .ok (.aload_n 0, 1) := by decide +kernel
theorem dX10_stepFrom_111 : decode cX10_stepFrom 111 = .ok (.getfield 38, 3) := by decide +kernel
theorem dX10_stepFrom_114 : decode cX10_stepFrom 114 = .ok (.iload 5, 2) := by decide +kernel
theorem dX10_stepFrom_116 : decode cX10_stepFrom 116 = .ok (.iaload, 1) := by decide +kernel
theorem dX10_stepFrom_117 : decode cX10_stepFrom 117 = .ok (.iastore, 1) := by decide +kernel
theorem dX10_stepFrom_118 : decode cX10_stepFrom 118 = .ok (.iinc 3 1, 3) := by decide +kernel
theorem dX10_stepFrom_121 : decode cX10_stepFrom 121 = .ok (.iinc 5 1, 3) := by decide +kernel
theorem dX10_stepFrom_124 : decode cX10_stepFrom 124 = .ok (.goto (-76), 3) := by decide +kernel
theorem dX10_stepFrom_127 : decode cX10_stepFrom 127 = .ok (.iinc 4 1, 3) := by decide +kernel
theorem dX10_stepFrom_130 : decode cX10_stepFrom 130 = .ok (.goto (-103), 3) := by decide +kernel
theorem dX10_stepFrom_133 : decode cX10_stepFrom 133 = .ok (.iload_n 3, 1) := by decide +kernel
theorem dX10_stepFrom_134 : decode cX10_stepFrom 134 = .ok (.ireturn, 1) := by decide +kernel
theorem dX10_findNext_0 : decode cX10_findNext 0 = .ok (.aload_n 0, 1) := by decide +kernel
theorem dX10_findNext_1 : decode cX10_findNext 1 = .ok (.iconst 0, 1) := by decide +kernel
theorem dX10_findNext_2 : decode cX10_findNext 2 = .ok (.putfield 187, 3) := by decide +kernel
theorem dX10_findNext_5 : decode cX10_findNext 5 = .ok (.iconst 1, 1) := by decide +kernel
theorem dX10_findNext_6 : decode cX10_findNext 6 = .ok (.istore_n 3, 1) := by decide +kernel
theorem dX10_findNext_7 : decode cX10_findNext 7 = .ok (.iload_n 3, 1) := by decide +kernel
theorem dX10_findNext_8 : decode cX10_findNext 8 = .ok (.aload_n 1, 1) := by decide +kernel
theorem dX10_findNext_9 : decode cX10_findNext 9 = .ok (.getfield 75, 3) := by decide +kernel
theorem dX10_findNext_12 : decode cX10_findNext 12 = .ok (.if_icmp .ge 45, 3) := by decide +kernel
theorem dX10_findNext_15 : decode cX10_findNext 15 = .ok (.aload_n 0, 1) := by decide +kernel
theorem dX10_findNext_16 : decode cX10_findNext 16 = .ok (.aload_n 1, 1) := by decide +kernel
theorem dX10_findNext_17 : decode cX10_findNext 17 = .ok (.iload_n 2, 1) := by decide +kernel
theorem dX10_findNext_18 : decode cX10_findNext 18 = .ok (.aload_n 1, 1) := by decide +kernel
theorem dX10_findNext_19 : decode cX10_findNext 19 = .ok (.iload_n 3, 1) := by decide +kernel
theorem dX10_findNext_20 : decode cX10_findNext 20 = .ok (.iconst 0, 1) := by decide +kernel
theorem dX10_findNext_21 : decode cX10_findNext 21 = .ok (.invokevirtual 91, 3) := by decide +kernel
theorem dX10_findNext_24 : decode cX10_findNext 24 = .ok (.aload_n 1, 1) := by decide +kernel
theorem dX10_findNext_25 : decode cX10_findNext 25 = .ok (.iload_n 3, 1) := by decide +kernel
theorem dX10_findNext_26 : decode cX10_findNext 26 = .ok (.iconst 1, 1) := by decide +kernel
theorem dX10_findNext_27 : decode cX10_findNext 27 = .ok (.invokevirtual 91, 3) := by decide +kernel
theorem dX10_findNext_30 : decode cX10_findNext 30 = .ok (.invokevirtual 190, 3) := by decide +kernel
theorem dX10_findNext_33 : decode cX10_findNext 33 = .ok (.aload_n 0, 1) := by decide +kernel
theorem dX10_findNext_34 : decode cX10_findNext 34 = .ok (.aload_n 1, 1) := by decide +kernel
theorem dX10_findNext_35 : decode cX10_findNext 35 = .ok (.iload_n 2, 1) := by decide +kernel
theorem dX10_findNext_36 : decode cX10_findNext 36 = .ok (.aload_n 1, 1) := by decide +kernel
theorem dX10_findNext_37 : decode cX10_findNext 37 = .ok (.iload_n 3, 1) := by decide +kernel
theorem dX10_findNext_38 : decode cX10_findNext 38 = .ok (.iconst 1, 1) := by decide +kernel
theorem dX10_findNext_39 : decode cX10_findNext 39 = .ok (.invokevirtual 91, 3) := by decide +kernel
theorem dX10_findNext_42 : decode cX10_findNext 42 = .ok (.aload_n 1, 1) := by decide +kernel
theorem dX10_findNext_43 : decode cX10_findNext 43 = .ok (.iload_n 3, 1) := by decide +kernel
theorem dX10_findNext_44 : decode cX10_findNext 44 = .ok (.iconst 0, 1) := by decide +kernel
theorem dX10_findNext_45 : decode cX10_findNext 45 = .ok (.invokevirtual 91, 3) := by decide +kernel
theorem dX10_findNext_48 : decode cX10_findNext 48 = .ok (.invokevirtual 190, 3) := by decide +kernel
theorem dX10_findNext_51 : decode cX10_findNext 51 = .ok (.iinc 3 1, 3) := by decide +kernel
theorem dX10_findNext_54 : decode cX10_findNext 54 = .ok (.goto (-47), 3) := by decide +kernel
theorem dX10_findNext_57 : decode cX10_findNext 57 = .ok (.return_, 1) := by decide +kernel
theorem dX10_replaceAll_0 : decode cX10_replaceAll 0 = .ok (.iload_n 2, 1) := by decide +kernel
theorem dX10_replaceAll_1 : decode cX10_replaceAll 1 = .ok (.invokestatic 194, 3) := by decide +kernel
theorem dX10_replaceAll_4 : decode cX10_replaceAll 4 = .ok (.istore 5, 2) := by decide +kernel
theorem dX10_replaceAll_6 : decode cX10_replaceAll 6 = .ok (.iload_n 3, 1) := by decide +kernel
theorem dX10_replaceAll_7 : decode cX10_replaceAll 7 = .ok (.invokestatic 194, 3) := by decide +kernel
theorem dX10_replaceAll_10 : decode cX10_replaceAll 10 = .ok (.istore 6, 2) := by decide +kernel
theorem dX10_replaceAll_12 : decode cX10_replaceAll 12 = .ok (.iload 4, 2) := by decide +kernel
theorem dX10_replaceAll_14 : decode cX10_replaceAll 14 = .ok (.invokestatic 194, 3) := by decide +kernel
theorem dX10_replaceAll_17 : decode cX10_replaceAll 17 = .ok (.istore 7, 2) := by decide +kernel
theorem dX10_replaceAll_19 : decode cX10_replaceAll 19 = .ok (.iload 5, 2) := by decide +kernel
theorem dX10_replaceAll_21 : decode cX10_replaceAll 21 = .ok (.iload 6, 2) := by decide +kernel
theorem dX10_replaceAll_23 : decode cX10_replaceAll 23 = .ok (.isub, 1) := by decide +kernel
theorem dX10_replaceAll_24 : decode cX10_replaceAll 24 = .ok (.iload 7, 2) := by decide +kernel
theorem dX10_replaceAll_26 : decode cX10_replaceAll 26 = .ok (.iadd, 1) := by decide +kernel
theorem dX10_replaceAll_27 : decode cX10_replaceAll 27 = .ok (.aload_n 1, 1) := by decide +kernel
theorem dX10_replaceAll_28 : decode cX10_replaceAll 28 = .ok (.getfield 72, 3) := by decide +kernel
theorem dX10_replaceAll_31 : decode cX10_replaceAll 31 = .ok (.if_icmp .le 4, 3) := by decide +kernel
theorem dX10_replaceAll_34 : decode cX10_replaceAll 34 = .ok (.return_, 1) := by decide +kernel
theorem dX10_replaceAll_35 : decode cX10_replaceAll 35 = .ok (.iload 5, 2) := by decide +kernel
theorem dX10_replaceAll_37 : decode cX10_replaceAll 37 = .ok (.iload 6, 2) := by decide +kernel
theorem dX10_replaceAll_39 : decode cX10_replaceAll 39 = .ok (.isub, 1) := by decide +kernel
theorem dX10_replaceAll_40 : decode cX10_replaceAll 40 = .ok (.istore 8, 2) := by decide +kernel
theorem dX10_replaceAll_42 : decode cX10_replaceAll 42 = .ok (.iload 8, 2) := by decide +kernel
theorem dX10_replaceAll_44 : decode cX10_replaceAll 44 = .ok (.ifCond .lt 75, 3) := by decide +kernel
theorem dX10_replaceAll_47 : decode cX10_replaceAll 47 = .ok (.iload_n 2, 1) := by decide +kernel
theorem dX10_replaceAll_48 : decode cX10_replaceAll 48 = .ok (.iload 8, 2) := by decide +kernel
theorem dX10_replaceAll_50 : decode cX10_replaceAll 50 = .ok (.ishr, 1) := by decide +kernel
theorem dX10_replaceAll_51 : decode cX10_replaceAll 51 = .ok (.iconst 1, 1) := by decide +kernel
theorem dX10_replaceAll_52 : decode cX10_replaceAll 52 = .ok (.iload 6, 2) := by decide +kernel
theorem dX10_replaceAll_54 : decode cX10_replaceAll 54 = .ok (.ishl, 1) := by decide +kernel
theorem dX10_replaceAll_55 : decode cX10_replaceAll 55 = .ok (.iconst 1, 1) := by decide +kernel
theorem dX10_replaceAll_56 : decode cX10_replaceAll 56 = .ok (.isub, 1) := by decide +kernel
theorem dX10_replaceAll_57 : decode cX10_replaceAll 57 = .ok (.iand, 1) := by decide +kernel
theorem dX10_replaceAll_58 : decode cX10_replaceAll 58 = .ok (.istore 9, 2) := by decide +kernel
theorem dX10_replaceAll_60 : decode cX10_replaceAll 60 = .ok (.iload 9, 2) := by decide +kernel
theorem dX10_replaceAll_62 : decode cX10_replaceAll 62 = .ok (.iconst 1, 1) := by decide +kernel
theorem dX10_replaceAll_63 : decode cX10_replaceAll 63 = .ok (.iload 6, 2) := by decide +kernel
theorem dX10_replaceAll_65 : decode cX10_replaceAll 65 = .ok (.ishl, 1) := by decide +kernel
theorem dX10_replaceAll_66 : decode cX10_replaceAll 66 = .ok (.iadd, 1) := by decide +kernel
theorem dX10_replaceAll_67 : decode cX10_replaceAll 67 = .ok (.iload_n 3, 1) := by decide +kernel
theorem dX10_replaceAll_68 : decode cX10_replaceAll 68 = .ok (.if_icmp .ne 45, 3) := by decide +kernel
theorem dX10_replaceAll_71 : decode cX10_replaceAll 71 = .ok (.iload_n 2, 1) := by decide +kernel
theorem dX10_replaceAll_72 : decode cX10_replaceAll 72 = .ok (.iload 8, 2) := by decide +kernel
theorem dX10_replaceAll_74 : decode cX10_replaceAll 74 = .ok (.iload 6, 2) := by decide +kernel
theorem dX10_replaceAll_76 : decode cX10_replaceAll 76 = .ok (.iadd, 1) := by decide +kernel
theorem dX10_replaceAll_77 : decode cX10_replaceAll 77 = .ok (.ishr, 1) := by decide +kernel
theorem dX10_replaceAll_78 : decode cX10_replaceAll 78 = .ok (.istore 10, 2) := by decide +kernel
theorem dX10_replaceAll_80 : decode cX10_replaceAll 80 = .ok (.iload 4, 2) := by decide +kernel
theorem dX10_replaceAll_82 : decode cX10_replaceAll 82 = .ok (.iconst 1, 1) := by decide +kernel
theorem dX10_replaceAll_83 : decode cX10_replaceAll 83 = .ok (.iload 7, 2) := by decide +kernel
theorem dX10_replaceAll_85 : decode cX10_replaceAll 85 = .ok (.ishl, 1) := by decide +kernel
theorem dX10_replaceAll_86 : decode cX10_replaceAll 86 = .ok (.isub, 1) := by decide +kernel
theorem dX10_replaceAll_87 : decode cX10_replaceAll 87 = .ok (.istore 11, 2) := by decide +kernel
theorem dX10_replaceAll_89 : decode cX10_replaceAll 89 = .ok (.aload_n 0, 1) := by decide +kernel
theorem dX10_replaceAll_90 : decode cX10_replaceAll 90 = .ok (.iload 10, 2) := by decide +kernel
theorem dX10_replaceAll_92 : decode cX10_replaceAll 92 = .ok (.iload 7, 2) := by decide +kernel
theorem dX10_replaceAll_94 : decode cX10_replaceAll 94 = .ok (.ishl, 1) := by decide +kernel
theorem dX10_replaceAll_95 : decode cX10_replaceAll 95 = .ok (.iload 11, 2) := by decide +kernel
theorem dX10_replaceAll_97 : decode cX10_replaceAll 97 = .ok (.ior, 1) := by decide +kernel
theorem dX10_replaceAll_98 : decode cX10_replaceAll 98 = .ok (.iload 8, 2) := by decide +kernel
theorem dX10_replaceAll_100 : decode cX10_replaceAll 100 = .ok (.ishl, 1) := by decide +kernel
theorem dX10_replaceAll_101 : decode cX10_replaceAll 101 = .ok (.iload_n 2, 1) := by decide +kernel
theorem dX10_replaceAll_102 : decode cX10_replaceAll 102 = .ok (.iconst 1, 1) := by decide +kernel
theorem dX10_replaceAll_103 : decode cX10_replaceAll 103 = .ok (.iload 8, 2) := by decide +kernel
theorem dX10_replaceAll_105 : decode cX10_replaceAll 105 = .ok (.ishl, 1) := by decide +kernel
theorem dX10_replaceAll_106 : decode cX10_replaceAll 106 = .ok (.iconst 1, 1) := by decide +kernel
theorem dX10_replaceAll_107 : decode cX10_replaceAll 107 = .ok (.isub, 1) := by decide +kernel
theorem dX10_replaceAll_108 : decode cX10_replaceAll 108 = .ok (.iand, 1) := by decide +kernel
theorem dX10_replaceAll_109 : decode cX10_replaceAll 109 = .ok (.ior, 1) := by decide +kernel
theorem dX10_replaceAll_110 : decode cX10_replaceAll 110 = .ok (.invokevirtual 197, 3) := by decide +kernel
theorem dX10_replaceAll_113 : decode cX10_replaceAll 113 = .ok (.iinc 8 (-1), 3) := by decide +kernel
theorem dX10_replaceAll_116 : decode cX10_replaceAll 116 = .ok (.goto (-74), 3) := by decide +kernel
theorem dX10_replaceAll_119 : decode cX10_replaceAll 119 = .ok (.return_, 1) := by decide +kernel
theorem dX10_addNext_0 : decode cX10_addNext 0 = .ok (.aload_n 0, 1) := by decide +kernel
theorem dX10_addNext_1 : decode cX10_addNext 1 = .ok (.getfield 187, 3) := by decide +kernel
theorem dX10_addNext_4 : decode cX10_addNext 4 = .ok (.bipush 96, 2) := by decide +kernel
theorem dX10_addNext_6 : decode cX10_addNext 6 = .ok (.if_icmp .ge 35, 3) := by decide +kernel
theorem dX10_addNext_9 : decode cX10_addNext 9 = .ok (.iload_n 1, 1) := by decide +kernel
theorem dX10_addNext_10 : decode cX10_addNext 10 = .ok (.iconst 1, 1) := by decide +kernel
theorem dX10_addNext_11 : decode cX10_addNext 11 = .ok (.if_icmp .lt 30, 3) := by decide +kernel
theorem dX10_addNext_14 : decode cX10_addNext 14 = .ok (.iload_n 1, 1) := by decide +kernel
theorem dX10_addNext_15 : decode cX10_addNext 15 = .ok (.sipush 256, 3) := by decide +kernel
theorem dX10_addNext_18 : decode cX10_addNext 18 = .ok (.if_icmp .ge 23, 3) := by decide +kernel
theorem dX10_addNext_21 : decode cX10_addNext 21 = .ok (.aload_n 0, 1) := by decide +kernel
theorem dX10_addNext_22 : decode cX10_addNext 22 = .ok (.getfield 38, 3) := by decide +kernel
theorem dX10_addNext_25 : decode cX10_addNext 25 = .ok (.aload_n 0, 1) := by decide +kernel
theorem dX10_addNext_26 : decode cX10_addNext 26 = .ok (.getfield 187, 3) := by decide +kernel
theorem dX10_addNext_29 : decode cX10_addNext 29 = .ok (.iload_n 1, 1) := by decide +kernel
theorem dX10_addNext_30 : decode cX10_addNext 30 = .ok (.iastore, 1) := by decide +kernel
theorem dX10_addNext_31 : decode cX10_addNext 31 = .ok (.aload_n 0, 1) := by decide +kernel
theorem dX10_addNext_32 : decode cX10_addNext 32 = .ok (.dup, 1) := by decide +kernel
theorem dX10_addNext_33 : decode cX10_addNext 33 = .ok (.getfield 187, 3) := by decide +kernel
theorem dX10_addNext_36 : decode cX10_addNext 36 = .ok (.iconst 1, 1) := by decide +kernel
theorem dX10_addNext_37 : decode cX10_addNext 37 = .ok (.iadd, 1) := by decide +kernel
theorem dX10_addNext_38 : decode cX10_addNext 38 = .ok (.putfield 187, 3) := by decide +kernel
theorem dX10_addNext_41 : decode cX10_addNext 41 = .ok (.return_, 1) := by decide +kernel
theorem dX10_lettersOf_0 : decode cX10_lettersOf 0 = .ok (.iconst 0, 1) := by decide +kernel
theorem dX10_lettersOf_1 : decode cX10_lettersOf 1 = .ok (.istore_n 1, 1) := by decide +kernel
theorem dX10_lettersOf_2 : decode cX10_lettersOf 2 = .ok (.iload_n 0, 1) := by decide +kernel
theorem dX10_lettersOf_3 : decode cX10_lettersOf 3 = .ok (.iconst 1, 1) := by decide +kernel
theorem dX10_lettersOf_4 : decode cX10_lettersOf 4 = .ok (.ishr, 1) := by decide +kernel
theorem dX10_lettersOf_5 : decode cX10_lettersOf 5 = .ok (.istore_n 2, 1) := by decide +kernel
theorem dX10_lettersOf_6 : decode cX10_lettersOf 6 = .ok (.iload_n 2, 1) := by decide +kernel
theorem dX10_lettersOf_7 : decode cX10_lettersOf 7 = .ok (.ifCond .le 13, 3) := by decide +kernel
theorem dX10_lettersOf_10 : decode cX10_lettersOf 10 = .ok (.iinc 1 1, 3) := by decide +kernel
theorem dX10_lettersOf_13 : decode cX10_lettersOf 13 = .ok (.iload_n 2, 1) := by decide +kernel
theorem dX10_lettersOf_14 : decode cX10_lettersOf 14 = .ok (.iconst 1, 1) := by decide +kernel
theorem dX10_lettersOf_15 : decode cX10_lettersOf 15 = .ok (.ishr, 1) := by decide +kernel
theorem dX10_lettersOf_16 : decode cX10_lettersOf 16 = .ok (.istore_n 2, 1) := by decide +kernel
theorem dX10_lettersOf_17 : decode cX10_lettersOf 17 = .ok (.goto (-11), 3) := by decide +kernel
theorem dX10_lettersOf_20 : decode cX10_lettersOf 20 = .ok (.iload_n 1, 1) := by decide +kernel
theorem dX10_lettersOf_21 : decode cX10_lettersOf 21 = .ok (.ireturn, 1) := by decide +kernel
theorem dX10_writeSteps_0 : decode cX10_writeSteps 0 = .ok (.iload_n 2, 1) := by decide +kernel
theorem dX10_writeSteps_1 : decode cX10_writeSteps 1 = .ok (.istore_n 3, 1) := by decide +kernel
theorem dX10_writeSteps_2 : decode cX10_writeSteps 2 = .ok (.aload_n 1, 1) := by decide +kernel
theorem dX10_writeSteps_3 : decode cX10_writeSteps 3 = .ok (.getfield 55, 3) := by decide +kernel
theorem dX10_writeSteps_6 : decode cX10_writeSteps 6 = .ok (.iload_n 3, 1) := by decide +kernel
theorem dX10_writeSteps_7 : decode cX10_writeSteps 7 = .ok (.invokevirtual 115, 3) := by decide +kernel
theorem dX10_writeSteps_10 : decode cX10_writeSteps 10 = .ok (.aload_n 0, 1) := by decide +kernel
theorem dX10_writeSteps_11 : decode cX10_writeSteps 11 = .ok (.getfield 35, 3) := by decide +kernel
theorem dX10_writeSteps_14 : decode cX10_writeSteps 14 = .ok (.iload_n 2, 1) := by decide +kernel
theorem dX10_writeSteps_15 : decode cX10_writeSteps 15 = .ok (.iaload, 1) := by decide +kernel
theorem dX10_writeSteps_16 : decode cX10_writeSteps 16 = .ok (.istore 4, 2) := by decide +kernel
theorem dX10_writeSteps_18 : decode cX10_writeSteps 18 = .ok (.iload 4, 2) := by decide +kernel
theorem dX10_writeSteps_20 : decode cX10_writeSteps 20 = .ok (.ifCond .le 82, 3) := by decide +kernel
theorem dX10_writeSteps_23 : decode cX10_writeSteps 23 = .ok (.aload_n 0, 1) := by decide +kernel
theorem dX10_writeSteps_24 : decode cX10_writeSteps 24 = .ok (.aload_n 1, 1) := by decide +kernel
theorem dX10_writeSteps_25 : decode cX10_writeSteps 25 = .ok (.iload_n 3, 1) := by decide +kernel
theorem dX10_writeSteps_26 : decode cX10_writeSteps 26 = .ok (.invokevirtual 184, 3) := by decide +kernel
theorem dX10_writeSteps_29 : decode cX10_writeSteps 29 = .ok (.sipush 256, 3) := by decide +kernel
theorem dX10_writeSteps_32 : decode cX10_writeSteps 32 = .ok (.istore 5, 2) := by decide +kernel
theorem dX10_writeSteps_34 : decode cX10_writeSteps 34 = .ok (.iconst 0, 1) := by decide +kernel
theorem dX10_writeSteps_35 : decode cX10_writeSteps 35 = .ok (.istore 6, 2) := by decide +kernel
theorem dX10_writeSteps_37 : decode cX10_writeSteps 37 = .ok (.iload 6, 2) := by decide +kernel
theorem dX10_writeSteps_39 : decode cX10_writeSteps 39 = .ok (.aload_n 0, 1) := by decide +kernel
theorem dX10_writeSteps_40 : decode cX10_writeSteps 40 = .ok (.getfield 187, 3) := by decide +kernel
theorem dX10_writeSteps_43 : decode cX10_writeSteps 43 = .ok (.if_icmp .ge 42, 3) := by decide +kernel
theorem dX10_writeSteps_46 : decode cX10_writeSteps 46 = .ok (.aload_n 0, 1) := by decide +kernel
theorem dX10_writeSteps_47 : decode cX10_writeSteps 47 = .ok (.getfield 35, 3) := by decide +kernel
theorem dX10_writeSteps_50 : decode cX10_writeSteps 50 = .ok (.aload_n 0, 1) := by decide +kernel
theorem dX10_writeSteps_51 : decode cX10_writeSteps 51 = .ok (.getfield 38, 3) := by decide +kernel
theorem dX10_writeSteps_54 : decode cX10_writeSteps 54 = .ok (.iload 6, 2) := by decide +kernel
theorem dX10_writeSteps_56 : decode cX10_writeSteps 56 = .ok (.iaload, 1) := by decide +kernel
theorem dX10_writeSteps_57 : decode cX10_writeSteps 57 = .ok (.iaload, 1) := by decide +kernel
theorem dX10_writeSteps_58 : decode cX10_writeSteps 58 = .ok (.iload 4, 2) := by decide +kernel
theorem dX10_writeSteps_60 : decode cX10_writeSteps 60 = .ok (.iconst 1, 1) := by decide +kernel
theorem dX10_writeSteps_61 : decode cX10_writeSteps 61 = .ok (.isub, 1) := by decide +kernel
theorem dX10_writeSteps_62 : decode cX10_writeSteps 62 = .ok (.if_icmp .ne 17, 3) := by decide +kernel
theorem dX10_writeSteps_65 : decode cX10_writeSteps 65 = .ok (.iload 5, 2) := by decide +kernel
theorem dX10_writeSteps_67 : decode cX10_writeSteps 67 = .ok (.aload_n 0, 1) := by decide +kernel
theorem dX10_writeSteps_68 : decode cX10_writeSteps 68 = .ok (.getfield 38, 3) := by decide +kernel
theorem dX10_writeSteps_71 : decode cX10_writeSteps 71 = .ok (.iload 6, 2) := by decide +kernel
theorem dX10_writeSteps_73 : decode cX10_writeSteps 73 = .ok (.iaload, 1) := by decide +kernel
theorem dX10_writeSteps_74 : decode cX10_writeSteps 74 = .ok (.invokestatic 78, 3) := by decide +kernel
theorem dX10_writeSteps_77 : decode cX10_writeSteps 77 = .ok (.istore 5, 2) := by decide +kernel
theorem dX10_writeSteps_79 : decode cX10_writeSteps 79 = .ok (.iinc 6 1, 3) := by decide +kernel
theorem dX10_writeSteps_82 : decode cX10_writeSteps 82 = .ok (.goto (-45), 3) := by decide +kernel
theorem dX10_writeSteps_85 : decode cX10_writeSteps 85 = .ok (.iload 5, 2) := by decide +kernel
theorem dX10_writeSteps_87 : decode cX10_writeSteps 87 = .ok (.istore_n 3, 1) := by decide +kernel
theorem dX10_writeSteps_88 : decode cX10_writeSteps 88 = .ok (.aload_n 1, 1) := by decide +kernel
theorem dX10_writeSteps_89 : decode cX10_writeSteps 89 = .ok (.getfield 55, 3) := by decide +kernel
theorem dX10_writeSteps_92 : decode cX10_writeSteps 92 = .ok (.iload_n 3, 1) := by decide +kernel
theorem dX10_writeSteps_93 : decode cX10_writeSteps 93 = .ok (.invokevirtual 115, 3) := by decide +kernel
theorem dX10_writeSteps_96 : decode cX10_writeSteps 96 = .ok (.iinc 4 (-1), 3) := by decide +kernel
theorem dX10_writeSteps_99 : decode cX10_writeSteps 99 = .ok (.goto (-81), 3) := by decide +kernel
theorem dX10_writeSteps_102 : decode cX10_writeSteps 102 = .ok (.return_, 1) := by decide +kernel
theorem dX10_judgeSteps_0 : decode cX10_judgeSteps 0 = .ok (.aload_n 2, 1) := by decide +kernel
theorem dX10_judgeSteps_1 : decode cX10_judgeSteps 1 = .ok (.getfield 128, 3) := by decide +kernel
theorem dX10_judgeSteps_4 : decode cX10_judgeSteps 4 = .ok (.iconst 1, 1) := by decide +kernel
theorem dX10_judgeSteps_5 : decode cX10_judgeSteps 5 = .ok (.isub, 1) := by decide +kernel
theorem dX10_judgeSteps_6 : decode cX10_judgeSteps 6 = .ok (.istore_n 3, 1) := by decide +kernel
theorem dX10_judgeSteps_7 : decode cX10_judgeSteps 7 = .ok (.iload_n 3, 1) := by decide +kernel
theorem dX10_judgeSteps_8 : decode cX10_judgeSteps 8 = .ok (.ifCond .lt 42, 3) := by decide +kernel
theorem dX10_judgeSteps_11 : decode cX10_judgeSteps 11 = .ok (.aload_n 2, 1) := by decide +kernel
theorem dX10_judgeSteps_12 : decode cX10_judgeSteps 12 = .ok (.iconst 0, 1) := by decide +kernel
theorem dX10_judgeSteps_13 : decode cX10_judgeSteps 13 = .ok (.iconst 1, 1) := by decide +kernel
theorem dX10_judgeSteps_14 : decode cX10_judgeSteps 14 = .ok (.aload_n 1, 1) := by decide +kernel
theorem dX10_judgeSteps_15 : decode cX10_judgeSteps 15 = .ok (.invokestatic 173, 3) := by decide +kernel
theorem dX10_judgeSteps_18 : decode cX10_judgeSteps 18 = .ok (.iconst 1, 1) := by decide +kernel
theorem dX10_judgeSteps_19 : decode cX10_judgeSteps 19 = .ok (.isub, 1) := by decide +kernel
theorem dX10_judgeSteps_20 : decode cX10_judgeSteps 20 = .ok (.invokevirtual 142, 3) := by decide +kernel
theorem dX10_judgeSteps_23 : decode cX10_judgeSteps 23 = .ok (.ifCond .eq 27, 3) := by decide +kernel
theorem dX10_judgeSteps_26 : decode cX10_judgeSteps 26 = .ok (.aload_n 2, 1) := by decide +kernel
theorem dX10_judgeSteps_27 : decode cX10_judgeSteps 27 = .ok (.iconst 0, 1) := by decide +kernel
theorem dX10_judgeSteps_28 : decode cX10_judgeSteps 28 = .ok (.invokevirtual 131, 3) := by decide +kernel
theorem dX10_judgeSteps_31 : decode cX10_judgeSteps 31 = .ok (.aload_n 1, 1) := by decide +kernel
theorem dX10_judgeSteps_32 : decode cX10_judgeSteps 32 = .ok (.invokestatic 167, 3) := by decide +kernel
theorem dX10_judgeSteps_35 : decode cX10_judgeSteps 35 = .ok (.if_icmp .ne 15, 3) := by decide +kernel
theorem dX10_judgeSteps_38 : decode cX10_judgeSteps 38 = .ok (.aload_n 2, 1) := by decide +kernel
theorem dX10_judgeSteps_39 : decode cX10_judgeSteps 39 = .ok (.iload_n 3, 1) := by decide +kernel
theorem dX10_judgeSteps_40 : decode cX10_judgeSteps 40 = .ok (.invokevirtual 131, 3) := by decide +kernel
theorem dX10_judgeSteps_43 : decode cX10_judgeSteps 43 = .ok (.aload_n 1, 1) := by decide +kernel
theorem dX10_judgeSteps_44 : decode cX10_judgeSteps 44 = .ok (.invokestatic 170, 3) := by decide +kernel
theorem dX10_judgeSteps_47 : decode cX10_judgeSteps 47 = .ok (.if_icmp .eq 5, 3) := by decide +kernel
theorem dX10_judgeSteps_50 : decode cX10_judgeSteps 50 = .ok (.iconst 1, 1) := by decide +kernel
theorem dX10_judgeSteps_51 : decode cX10_judgeSteps 51 = .ok (.ireturn, 1) := by decide +kernel
theorem dX10_judgeSteps_52 : decode cX10_judgeSteps 52 = .ok (.iconst 0, 1) := by decide +kernel
theorem dX10_judgeSteps_53 : decode cX10_judgeSteps 53 = .ok (.istore 4, 2) := by decide +kernel
theorem dX10_judgeSteps_55 : decode cX10_judgeSteps 55 = .ok (.iload 4, 2) := by decide +kernel
theorem dX10_judgeSteps_57 : decode cX10_judgeSteps 57 = .ok (.iload_n 3, 1) := by decide +kernel
theorem dX10_judgeSteps_58 : decode cX10_judgeSteps 58 = .ok (.if_icmp .ge 33, 3) := by decide +kernel
theorem dX10_judgeSteps_61 : decode cX10_judgeSteps 61 = .ok (.aload_n 0, 1) := by decide +kernel
theorem dX10_judgeSteps_62 : decode cX10_judgeSteps 62 = .ok (.aload_n 1, 1) := by decide +kernel
theorem dX10_judgeSteps_63 : decode cX10_judgeSteps 63 = .ok (.aload_n 2, 1) := by decide +kernel
theorem dX10_judgeSteps_64 : decode cX10_judgeSteps 64 = .ok (.iload 4, 2) := by decide +kernel
theorem dX10_judgeSteps_66 : decode cX10_judgeSteps 66 = .ok (.invokevirtual 131, 3) := by decide +kernel
theorem dX10_judgeSteps_69 : decode cX10_judgeSteps 69 = .ok (.aload_n 2, 1) := by decide +kernel
theorem dX10_judgeSteps_70 : decode cX10_judgeSteps 70 = .ok (.iload 4, 2) := by decide +kernel
theorem dX10_judgeSteps_72 : decode cX10_judgeSteps 72 = .ok (.iconst 1, 1) := by decide +kernel
theorem dX10_judgeSteps_73 : decode cX10_judgeSteps 73 = .ok (.iadd, 1) := by decide +kernel
theorem dX10_judgeSteps_74 : decode cX10_judgeSteps 74 = .ok (.invokevirtual 131, 3) := by decide +kernel
theorem dX10_judgeSteps_77 : decode cX10_judgeSteps 77 = .ok (.invokevirtual 200, 3) := by decide +kernel
theorem dX10_judgeSteps_80 : decode cX10_judgeSteps 80 = .ok (.ifCond .ne 5, 3) := by decide +kernel
theorem dX10_judgeSteps_83 : decode cX10_judgeSteps 83 = .ok (.iconst 2, 1) := by decide +kernel
theorem dX10_judgeSteps_84 : decode cX10_judgeSteps 84 = .ok (.ireturn, 1) := by decide +kernel
theorem dX10_judgeSteps_85 : decode cX10_judgeSteps 85 = .ok (.iinc 4 1, 3) := by decide +kernel
theorem dX10_judgeSteps_88 : decode cX10_judgeSteps 88 = .ok (.goto (-33), 3) := by decide +kernel
theorem dX10_judgeSteps_91 : decode cX10_judgeSteps 91 = .ok (.iconst 0, 1) := by decide +kernel
theorem dX10_judgeSteps_92 : decode cX10_judgeSteps 92 = .ok (.ireturn, 1) := by decide +kernel
theorem dX10_isNext_0 : decode cX10_isNext 0 = .ok (.aload_n 0, 1) := by decide +kernel
theorem dX10_isNext_1 : decode cX10_isNext 1 = .ok (.aload_n 1, 1) := by decide +kernel
theorem dX10_isNext_2 : decode cX10_isNext 2 = .ok (.iload_n 2, 1) := by decide +kernel
theorem dX10_isNext_3 : decode cX10_isNext 3 = .ok (.invokevirtual 184, 3) := by decide +kernel
theorem dX10_isNext_6 : decode cX10_isNext 6 = .ok (.iconst 0, 1) := by decide +kernel
theorem dX10_isNext_7 : decode cX10_isNext 7 = .ok (.istore 4, 2) := by decide +kernel
theorem dX10_isNext_9 : decode cX10_isNext 9 = .ok (.iload 4, 2) := by decide +kernel
theorem dX10_isNext_11 : decode cX10_isNext 11 = .ok (.aload_n 0, 1) := by decide +kernel
theorem dX10_isNext_12 : decode cX10_isNext 12 = .ok (.getfield 187, 3) := by decide +kernel
theorem dX10_isNext_15 : decode cX10_isNext 15 = .ok (.if_icmp .ge 22, 3) := by decide +kernel
theorem dX10_isNext_18 : decode cX10_isNext 18 = .ok (.aload_n 0, 1) := by decide +kernel
theorem dX10_isNext_19 : decode cX10_isNext 19 = .ok (.getfield 38, 3) := by decide +kernel
theorem dX10_isNext_22 : decode cX10_isNext 22 = .ok (.iload 4, 2) := by decide +kernel
theorem dX10_isNext_24 : decode cX10_isNext 24 = .ok (.iaload, 1) := by decide +kernel
theorem dX10_isNext_25 : decode cX10_isNext 25 = .ok (.iload_n 3, 1) := by decide +kernel
theorem dX10_isNext_26 : decode cX10_isNext 26 = .ok (.if_icmp .ne 5, 3) := by decide +kernel
theorem dX10_isNext_29 : decode cX10_isNext 29 = .ok (.iconst 1, 1) := by decide +kernel
theorem dX10_isNext_30 : decode cX10_isNext 30 = .ok (.ireturn, 1) := by decide +kernel
theorem dX10_isNext_31 : decode cX10_isNext 31 = .ok (.iinc 4 1, 3) := by decide +kernel
theorem dX10_isNext_34 : decode cX10_isNext 34 = .ok (.goto (-25), 3) := by decide +kernel
theorem dX10_isNext_37 : decode cX10_isNext 37 = .ok (.iconst 0, 1) := by decide +kernel
theorem dX10_isNext_38 : decode cX10_isNext 38 = .ok (.ireturn, 1) := by decide +kernel
theorem dX10_judgeClosure_0 : decode cX10_judgeClosure 0 = .ok (.aload_n 1, 1) := by decide +kernel
theorem dX10_judgeClosure_1 : decode cX10_judgeClosure 1 = .ok (.invokestatic 173, 3) := by decide +kernel
theorem dX10_judgeClosure_4 : decode cX10_judgeClosure 4 = .ok (.istore_n 3, 1) := by decide +kernel
theorem dX10_judgeClosure_5 : decode cX10_judgeClosure 5 = .ok (.aload_n 2, 1) := by decide +kernel
theorem dX10_judgeClosure_6 : decode cX10_judgeClosure 6 = .ok (.iconst 0, 1) := by decide +kernel
theorem dX10_judgeClosure_7 : decode cX10_judgeClosure 7 = .ok (.iconst 1, 1) := by decide +kernel
theorem dX10_judgeClosure_8 : decode cX10_judgeClosure 8 = .ok (.iload_n 3, 1) := by decide +kernel
theorem dX10_judgeClosure_9 : decode cX10_judgeClosure 9 = .ok (.iconst 1, 1) := by decide +kernel
theorem dX10_judgeClosure_10 : decode cX10_judgeClosure 10 = .ok (.isub, 1) := by decide +kernel
theorem dX10_judgeClosure_11 : decode cX10_judgeClosure 11 = .ok (.invokevirtual 142, 3) := by decide +kernel
theorem dX10_judgeClosure_14 : decode cX10_judgeClosure 14 = .ok (.ifCond .eq 11, 3) := by decide +kernel
theorem dX10_judgeClosure_17 : decode cX10_judgeClosure 17 = .ok (.aload_n 2, 1) := by decide +kernel
theorem dX10_judgeClosure_18 : decode cX10_judgeClosure 18 = .ok (.iconst 0, 1) := by decide +kernel
theorem dX10_judgeClosure_19 : decode cX10_judgeClosure 19 = .ok (.invokevirtual 146, 3) := by decide +kernel
theorem dX10_judgeClosure_22 : decode cX10_judgeClosure 22 = .ok (.ifCond .ne 5, 3) := by decide +kernel
theorem dX10_judgeClosure_25 : decode cX10_judgeClosure 25 = .ok (.iconst 1, 1) := by decide +kernel
theorem dX10_judgeClosure_26 : decode cX10_judgeClosure 26 = .ok (.ireturn, 1) := by decide +kernel
theorem dX10_judgeClosure_27 : decode cX10_judgeClosure 27 = .ok (.aload_n 1, 1) := by decide +kernel
theorem dX10_judgeClosure_28 : decode cX10_judgeClosure 28 = .ok (.invokestatic 167, 3) := by decide +kernel
theorem dX10_judgeClosure_31 : decode cX10_judgeClosure 31 = .ok (.istore 4, 2) := by decide +kernel
theorem dX10_judgeClosure_33 : decode cX10_judgeClosure 33 = .ok (.iload 4, 2) := by decide +kernel
theorem dX10_judgeClosure_35 : decode cX10_judgeClosure 35 = .ok (.iload_n 3, 1) := by decide +kernel
theorem dX10_judgeClosure_36 : decode cX10_judgeClosure 36 = .ok (.if_icmp .ge 13, 3) := by decide +kernel
theorem dX10_judgeClosure_39 : decode cX10_judgeClosure 39 = .ok (.aload_n 2, 1) := by decide +kernel
theorem dX10_judgeClosure_40 : decode cX10_judgeClosure 40 = .ok (.iconst 0, 1) := by decide +kernel
theorem dX10_judgeClosure_41 : decode cX10_judgeClosure 41 = .ok (.iload 4, 2) := by decide +kernel
theorem dX10_judgeClosure_43 : decode cX10_judgeClosure 43 = .ok (.invokevirtual 134, 3) := by decide +kernel
theorem dX10_judgeClosure_46 : decode cX10_judgeClosure 46 = .ok (.ifCond .eq 15, 3) := by decide +kernel
theorem dX10_judgeClosure_49 : decode cX10_judgeClosure 49 = .ok (.aload_n 2, 1) := by decide +kernel
theorem dX10_judgeClosure_50 : decode cX10_judgeClosure 50 = .ok (.iconst 0, 1) := by decide +kernel
theorem dX10_judgeClosure_51 : decode cX10_judgeClosure 51 = .ok (.aload_n 1, 1) := by decide +kernel
theorem dX10_judgeClosure_52 : decode cX10_judgeClosure 52 = .ok (.invokestatic 170, 3) := by decide +kernel
theorem dX10_judgeClosure_55 : decode cX10_judgeClosure 55 = .ok (.invokevirtual 134, 3) := by decide +kernel
theorem dX10_judgeClosure_58 : decode cX10_judgeClosure 58 = .ok (.ifCond .eq 5, 3) := by decide +kernel
theorem dX10_judgeClosure_61 : decode cX10_judgeClosure 61 = .ok (.iconst 2, 1) := by decide +kernel
theorem dX10_judgeClosure_62 : decode cX10_judgeClosure 62 = .ok (.ireturn, 1) := by decide +kernel
theorem dX10_judgeClosure_63 : decode cX10_judgeClosure 63 = .ok (.iconst 0, 1) := by decide +kernel
theorem dX10_judgeClosure_64 : decode cX10_judgeClosure 64 = .ok (.istore 5, 2) := by decide +kernel
theorem dX10_judgeClosure_66 : decode cX10_judgeClosure 66 = .ok (.iload 5, 2) := by decide +kernel
theorem dX10_judgeClosure_68 : decode cX10_judgeClosure 68 = .ok (.aload_n 2, 1) := by decide +kernel
theorem dX10_judgeClosure_69 : decode cX10_judgeClosure 69 = .ok (.getfield 128, 3) := by decide +kernel
theorem dX10_judgeClosure_72 : decode cX10_judgeClosure 72 = .ok (.if_icmp .ge 55, 3) := by decide +kernel
theorem dX10_judgeClosure_75 : decode cX10_judgeClosure 75 = .ok (.aload_n 0, 1) := by decide +kernel
theorem dX10_judgeClosure_76 : decode cX10_judgeClosure 76 = .ok (.aload_n 1, 1) := by decide +kernel
theorem dX10_judgeClosure_77 : decode cX10_judgeClosure 77 = .ok (.aload_n 2, 1) := by decide +kernel
theorem dX10_judgeClosure_78 : decode cX10_judgeClosure 78 = .ok (.iload 5, 2) := by decide +kernel
theorem dX10_judgeClosure_80 : decode cX10_judgeClosure 80 = .ok (.invokevirtual 131, 3) := by decide +kernel
theorem dX10_judgeClosure_83 : decode cX10_judgeClosure 83 = .ok (.invokevirtual 184, 3) := by decide +kernel
theorem dX10_judgeClosure_86 : decode cX10_judgeClosure 86 = .ok (.iconst 0, 1) := by decide +kernel
theorem dX10_judgeClosure_87 : decode cX10_judgeClosure 87 = .ok (.istore 6, 2) := by decide +kernel
theorem dX10_judgeClosure_89 : decode cX10_judgeClosure 89 = .ok (.iload 6, 2) := by decide +kernel
theorem dX10_judgeClosure_91 : decode cX10_judgeClosure 91 = .ok (.aload_n 0, 1) := by decide +kernel
theorem dX10_judgeClosure_92 : decode cX10_judgeClosure 92 = .ok (.getfield 187, 3) := by decide +kernel
theorem dX10_judgeClosure_95 : decode cX10_judgeClosure 95 = .ok (.if_icmp .ge 26, 3) := by decide +kernel
theorem dX10_judgeClosure_98 : decode cX10_judgeClosure 98 = .ok (.aload_n 2, 1) := by decide +kernel
theorem dX10_judgeClosure_99 : decode cX10_judgeClosure 99 = .ok (.iconst 0, 1) := by decide +kernel
theorem dX10_judgeClosure_100 : decode cX10_judgeClosure 100 = .ok (.aload_n 0, 1) := by decide +kernel
theorem dX10_judgeClosure_101 : decode cX10_judgeClosure 101 = .ok (.getfield 38, 3) := by decide +kernel
theorem dX10_judgeClosure_104 : decode cX10_judgeClosure 104 = .ok (.iload 6, 2) := by decide +kernel
theorem dX10_judgeClosure_106 : decode cX10_judgeClosure 106 = .ok (.iaload, 1) := by decide +kernel
theorem dX10_judgeClosure_107 : decode cX10_judgeClosure 107 = .ok (.invokevirtual 134, 3) := by decide +kernel
theorem dX10_judgeClosure_110 : decode cX10_judgeClosure 110 = .ok (.ifCond .ne 5, 3) := by decide +kernel
theorem dX10_judgeClosure_113 : decode cX10_judgeClosure 113 = .ok (.iconst 3, 1) := by decide +kernel
theorem dX10_judgeClosure_114 : decode cX10_judgeClosure 114 = .ok (.ireturn, 1) := by decide +kernel
theorem dX10_judgeClosure_115 : decode cX10_judgeClosure 115 = .ok (.iinc 6 1, 3) := by decide +kernel
theorem dX10_judgeClosure_118 : decode cX10_judgeClosure 118 = .ok (.goto (-29), 3) := by decide +kernel
theorem dX10_judgeClosure_121 : decode cX10_judgeClosure 121 = .ok (.iinc 5 1, 3) := by decide +kernel
theorem dX10_judgeClosure_124 : decode cX10_judgeClosure 124 = .ok (.goto (-58), 3) := by decide +kernel
theorem dX10_judgeClosure_127 : decode cX10_judgeClosure 127 = .ok (.iconst 0, 1) := by decide +kernel
theorem dX10_judgeClosure_128 : decode cX10_judgeClosure 128 = .ok (.ireturn, 1) := by decide +kernel
