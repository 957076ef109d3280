theorem dX2_init_0 : decode cX2_init 0 = .ok (.aload_n 0, 1) := by decide +kernel
theorem dX2_init_1 : decode cX2_init 1 = .ok (.invokespecial 1, 3) := by decide +kernel
theorem dX2_init_4 : decode cX2_init 4 = .ok (.aload_n 0, 1) := by decide +kernel
theorem dX2_init_5 : decode cX2_init 5 = .ok (.bipush 7, 2) := by decide +kernel
theorem dX2_init_7 : decode cX2_init 7 = .ok (.newarray .int, 2) := by decide +kernel
theorem dX2_init_9 : decode cX2_init 9 = .ok (.putfield 9, 3) := by decide +kernel
theorem dX2_init_12 : decode cX2_init 12 = .ok (.aload_n 0, 1) := by decide +kernel
theorem dX2_init_13 : decode cX2_init 13 = .ok (.bipush 7, 2) := by decide +kernel
theorem dX2_init_15 : decode cX2_init 15 = .ok (.newarray .int, 2) := by decide +kernel
theorem dX2_init_17 : decode cX2_init 17 = .ok (.putfield 13, 3) := by decide +kernel
theorem dX2_init_20 : decode cX2_init 20 = .ok (.aload_n 0, 1) := by decide +kernel
theorem dX2_init_21 : decode cX2_init 21 = .ok (.bipush 7, 2) := by decide +kernel
theorem dX2_init_23 : decode cX2_init 23 = .ok (.newarray .int, 2) := by decide +kernel
theorem dX2_init_25 : decode cX2_init 25 = .ok (.putfield 16, 3) := by decide +kernel
theorem dX2_init_28 : decode cX2_init 28 = .ok (.aload_n 0, 1) := by decide +kernel
theorem dX2_init_29 : decode cX2_init 29 = .ok (.bipush 22, 2) := by decide +kernel
theorem dX2_init_31 : decode cX2_init 31 = .ok (.newarray .int, 2) := by decide +kernel
theorem dX2_init_33 : decode cX2_init 33 = .ok (.putfield 19, 3) := by decide +kernel
theorem dX2_init_36 : decode cX2_init 36 = .ok (.aload_n 0, 1) := by decide +kernel
theorem dX2_init_37 : decode cX2_init 37 = .ok (.bipush 22, 2) := by decide +kernel
theorem dX2_init_39 : decode cX2_init 39 = .ok (.newarray .int, 2) := by decide +kernel
theorem dX2_init_41 : decode cX2_init 41 = .ok (.putfield 22, 3) := by decide +kernel
theorem dX2_init_44 : decode cX2_init 44 = .ok (.aload_n 0, 1) := by decide +kernel
theorem dX2_init_45 : decode cX2_init 45 = .ok (.bipush 49, 2) := by decide +kernel
theorem dX2_init_47 : decode cX2_init 47 = .ok (.newarray .int, 2) := by decide +kernel
theorem dX2_init_49 : decode cX2_init 49 = .ok (.putfield 25, 3) := by decide +kernel
theorem dX2_init_52 : decode cX2_init 52 = .ok (.aload_n 0, 1) := by decide +kernel
theorem dX2_init_53 : decode cX2_init 53 = .ok (.bipush 7, 2) := by decide +kernel
theorem dX2_init_55 : decode cX2_init 55 = .ok (.newarray .int, 2) := by decide +kernel
theorem dX2_init_57 : decode cX2_init 57 = .ok (.putfield 28, 3) := by decide +kernel
theorem dX2_init_60 : decode cX2_init 60 = .ok (.aload_n 0, 1) := by decide +kernel
theorem dX2_init_61 : decode cX2_init 61 = .ok (.bipush 7, 2) := by decide +kernel
theorem dX2_init_63 : decode cX2_init 63 = .ok (.newarray .int, 2) := by decide +kernel
theorem dX2_init_65 : decode cX2_init 65 = .ok (.putfield 31, 3) := by decide +kernel
theorem dX2_init_68 : decode cX2_init 68 = .ok (.return_, 1) := by decide +kernel
theorem dX2_solve_0 : decode cX2_solve 0 = .ok (.aload_n 1, 1) := by decide +kernel
theorem dX2_solve_1 : decode cX2_solve 1 = .ok (.invokestatic 34, 3) := by decide +kernel
theorem dX2_solve_4 : decode cX2_solve 4 = .ok (.istore_n 2, 1) := by decide +kernel
theorem dX2_solve_5 : decode cX2_solve 5 = .ok (.aload_n 0, 1) := by decide +kernel
theorem dX2_solve_6 : decode cX2_solve 6 = .ok (.aload_n 1, 1) := by decide +kernel
theorem dX2_solve_7 : decode cX2_solve 7 = .ok (.iload_n 2, 1) := by decide +kernel
theorem dX2_solve_8 : decode cX2_solve 8 = .ok (.invokevirtual 38, 3) := by decide +kernel
theorem dX2_solve_11 : decode cX2_solve 11 = .ok (.aload_n 0, 1) := by decide +kernel
theorem dX2_solve_12 : decode cX2_solve 12 = .ok (.iconst 0, 1) := by decide +kernel
theorem dX2_solve_13 : decode cX2_solve 13 = .ok (.invokevirtual 42, 3) := by decide +kernel
theorem dX2_solve_16 : decode cX2_solve 16 = .ok (.ifCond .eq 50, 3) := by decide +kernel
theorem dX2_solve_19 : decode cX2_solve 19 = .ok (.iconst 0, 1) := by decide +kernel
theorem dX2_solve_20 : decode cX2_solve 20 = .ok (.istore_n 3, 1) := by decide +kernel
theorem dX2_solve_21 : decode cX2_solve 21 = .ok (.iload_n 3, 1) := by decide +kernel
theorem dX2_solve_22 : decode cX2_solve 22 = .ok (.aload_n 0, 1) := by decide +kernel
theorem dX2_solve_23 : decode cX2_solve 23 = .ok (.getfield 46, 3) := by decide +kernel
theorem dX2_solve_26 : decode cX2_solve 26 = .ok (.if_icmp .ge 22, 3) := by decide +kernel
theorem dX2_solve_29 : decode cX2_solve 29 = .ok (.aload_n 1, 1) := by decide +kernel
theorem dX2_solve_30 : decode cX2_solve 30 = .ok (.getfield 50, 3) := by decide +kernel
theorem dX2_solve_33 : decode cX2_solve 33 = .ok (.aload_n 0, 1) := by decide +kernel
theorem dX2_solve_34 : decode cX2_solve 34 = .ok (.getfield 22, 3) := by decide +kernel
theorem dX2_solve_37 : decode cX2_solve 37 = .ok (.iload_n 3, 1) := by decide +kernel
theorem dX2_solve_38 : decode cX2_solve 38 = .ok (.iaload, 1) := by decide +kernel
theorem dX2_solve_39 : decode cX2_solve 39 = .ok (.invokevirtual 56, 3) := by decide +kernel
theorem dX2_solve_42 : decode cX2_solve 42 = .ok (.iinc 3 1, 3) := by decide +kernel
theorem dX2_solve_45 : decode cX2_solve 45 = .ok (.goto (-24), 3) := by decide +kernel
theorem dX2_solve_48 : decode cX2_solve 48 = .ok (.aload_n 1, 1) := by decide +kernel
theorem dX2_solve_49 : decode cX2_solve 49 = .ok (.iconst 1, 1) := by decide +kernel
theorem dX2_solve_50 : decode cX2_solve 50 = .ok (.aload_n 0, 1) := by decide +kernel
theorem dX2_solve_51 : decode cX2_solve 51 = .ok (.aload_n 0, 1) := by decide +kernel
theorem dX2_solve_52 : decode cX2_solve 52 = .ok (.getfield 62, 3) := by decide +kernel
theorem dX2_solve_55 : decode cX2_solve 55 = .ok (.iconst 1, 1) := by decide +kernel
theorem dX2_solve_56 : decode cX2_solve 56 = .ok (.isub, 1) := by decide +kernel
theorem dX2_solve_57 : decode cX2_solve 57 = .ok (.invokevirtual 65, 3) := by decide +kernel
theorem dX2_solve_60 : decode cX2_solve 60 = .ok (.invokevirtual 69, 3) := by decide +kernel
theorem dX2_solve_63 : decode cX2_solve 63 = .ok (.goto 15, 3) := by decide +kernel
theorem dX2_solve_66 : decode cX2_solve 66 = .ok (.aload_n 0, 1) := by decide +kernel
theorem dX2_solve_67 : decode cX2_solve 67 = .ok (.aload_n 1, 1) := by decide +kernel
theorem dX2_solve_68 : decode cX2_solve 68 = .ok (.iload_n 2, 1) := by decide +kernel
theorem dX2_solve_69 : decode cX2_solve 69 = .ok (.invokevirtual 73, 3) := by decide +kernel
theorem dX2_solve_72 : decode cX2_solve 72 = .ok (.aload_n 1, 1) := by decide +kernel
theorem dX2_solve_73 : decode cX2_solve 73 = .ok (.iconst 0, 1) := by decide +kernel
theorem dX2_solve_74 : decode cX2_solve 74 = .ok (.iconst 0, 1) := by decide +kernel
theorem dX2_solve_75 : decode cX2_solve 75 = .ok (.invokevirtual 69, 3) := by decide +kernel
theorem dX2_solve_78 : decode cX2_solve 78 = .ok (.return_, 1) := by decide +kernel
theorem dX2_countedItems_0 : decode cX2_countedItems 0 = .ok (.iconst 1, 1) := by decide +kernel
theorem dX2_countedItems_1 : decode cX2_countedItems 1 = .ok (.aload_n 0, 1) := by decide +kernel
theorem dX2_countedItems_2 : decode cX2_countedItems 2 = .ok (.getfield 76, 3) := by decide +kernel
theorem dX2_countedItems_5 : decode cX2_countedItems 5 = .ok (.aload_n 0, 1) := by decide +kernel
theorem dX2_countedItems_6 : decode cX2_countedItems 6 = .ok (.getfield 79, 3) := by decide +kernel
theorem dX2_countedItems_9 : decode cX2_countedItems 9 = .ok (.invokestatic 82, 3) := by decide +kernel
theorem dX2_countedItems_12 : decode cX2_countedItems 12 = .ok (.ishl, 1) := by decide +kernel
theorem dX2_countedItems_13 : decode cX2_countedItems 13 = .ok (.iconst 1, 1) := by decide +kernel
theorem dX2_countedItems_14 : decode cX2_countedItems 14 = .ok (.isub, 1) := by decide +kernel
theorem dX2_countedItems_15 : decode cX2_countedItems 15 = .ok (.ireturn, 1) := by decide +kernel
theorem dX2_loadEdges_0 : decode cX2_loadEdges 0 = .ok (.aload_n 1, 1) := by decide +kernel
theorem dX2_loadEdges_1 : decode cX2_loadEdges 1 = .ok (.aload_n 0, 1) := by decide +kernel
theorem dX2_loadEdges_2 : decode cX2_loadEdges 2 = .ok (.getfield 9, 3) := by decide +kernel
theorem dX2_loadEdges_5 : decode cX2_loadEdges 5 = .ok (.iload_n 2, 1) := by decide +kernel
theorem dX2_loadEdges_6 : decode cX2_loadEdges 6 = .ok (.invokevirtual 88, 3) := by decide +kernel
theorem dX2_loadEdges_9 : decode cX2_loadEdges 9 = .ok (.aload_n 0, 1) := by decide +kernel
theorem dX2_loadEdges_10 : decode cX2_loadEdges 10 = .ok (.getfield 13, 3) := by decide +kernel
theorem dX2_loadEdges_13 : decode cX2_loadEdges 13 = .ok (.iconst 0, 1) := by decide +kernel
theorem dX2_loadEdges_14 : decode cX2_loadEdges 14 = .ok (.invokestatic 92, 3) := by decide +kernel
theorem dX2_loadEdges_17 : decode cX2_loadEdges 17 = .ok (.aload_n 0, 1) := by decide +kernel
theorem dX2_loadEdges_18 : decode cX2_loadEdges 18 = .ok (.aload_n 1, 1) := by decide +kernel
theorem dX2_loadEdges_19 : decode cX2_loadEdges 19 = .ok (.getfield 97, 3) := by decide +kernel
theorem dX2_loadEdges_22 : decode cX2_loadEdges 22 = .ok (.putfield 62, 3) := by decide +kernel
theorem dX2_loadEdges_25 : decode cX2_loadEdges 25 = .ok (.aload_n 0, 1) := by decide +kernel
theorem dX2_loadEdges_26 : decode cX2_loadEdges 26 = .ok (.iconst 0, 1) := by decide +kernel
theorem dX2_loadEdges_27 : decode cX2_loadEdges 27 = .ok (.putfield 46, 3) := by decide +kernel
theorem dX2_loadEdges_30 : decode cX2_loadEdges 30 = .ok (.iconst 0, 1) := by decide +kernel
theorem dX2_loadEdges_31 : decode cX2_loadEdges 31 = .ok (.istore_n 3, 1) := by decide +kernel
theorem dX2_loadEdges_32 : decode cX2_loadEdges 32 = .ok (.iload_n 3, 1) := by decide +kernel
theorem dX2_loadEdges_33 : decode cX2_loadEdges 33 = .ok (.aload_n 0, 1) := by decide +kernel
theorem dX2_loadEdges_34 : decode cX2_loadEdges 34 = .ok (.getfield 62, 3) := by decide +kernel
theorem dX2_loadEdges_37 : decode cX2_loadEdges 37 = .ok (.if_icmp .ge 81, 3) := by decide +kernel
theorem dX2_loadEdges_40 : decode cX2_loadEdges 40 = .ok (.aload_n 0, 1) := by decide +kernel
theorem dX2_loadEdges_41 : decode cX2_loadEdges 41 = .ok (.getfield 16, 3) := by decide +kernel
theorem dX2_loadEdges_44 : decode cX2_loadEdges 44 = .ok (.iload_n 3, 1) := by decide +kernel
theorem dX2_loadEdges_45 : decode cX2_loadEdges 45 = .ok (.aload_n 0, 1) := by decide +kernel
theorem dX2_loadEdges_46 : decode cX2_loadEdges 46 = .ok (.getfield 46, 3) := by decide +kernel
theorem dX2_loadEdges_49 : decode cX2_loadEdges 49 = .ok (.iastore, 1) := by decide +kernel
theorem dX2_loadEdges_50 : decode cX2_loadEdges 50 = .ok (.aload_n 0, 1) := by decide +kernel
theorem dX2_loadEdges_51 : decode cX2_loadEdges 51 = .ok (.getfield 9, 3) := by decide +kernel
theorem dX2_loadEdges_54 : decode cX2_loadEdges 54 = .ok (.iload_n 3, 1) := by decide +kernel
theorem dX2_loadEdges_55 : decode cX2_loadEdges 55 = .ok (.iaload, 1) := by decide +kernel
theorem dX2_loadEdges_56 : decode cX2_loadEdges 56 = .ok (.invokestatic 100, 3) := by decide +kernel
theorem dX2_loadEdges_59 : decode cX2_loadEdges 59 = .ok (.istore 4, 2) := by decide +kernel
theorem dX2_loadEdges_61 : decode cX2_loadEdges 61 = .ok (.iload 4, 2) := by decide +kernel
theorem dX2_loadEdges_63 : decode cX2_loadEdges 63 = .ok (.ifCond .le 38, 3) := by decide +kernel
theorem dX2_loadEdges_66 : decode cX2_loadEdges 66 = .ok (.aload_n 0, 1) := by decide +kernel
theorem dX2_loadEdges_67 : decode cX2_loadEdges 67 = .ok (.getfield 46, 3) := by decide +kernel
theorem dX2_loadEdges_70 : decode cX2_loadEdges 70 = .ok (.bipush 22, 2) := by decide +kernel
theorem dX2_loadEdges_72 : decode cX2_loadEdges 72 = .ok (.if_icmp .ge 29, 3) := by decide +kernel
theorem dX2_loadEdges_75 : decode cX2_loadEdges 75 = .ok (.aload_n 0, 1) := by decide +kernel
theorem dX2_loadEdges_76 : decode cX2_loadEdges 76 = .ok (.getfield 19, 3) := by decide +kernel
theorem dX2_loadEdges_79 : decode cX2_loadEdges 79 = .ok (.aload_n 0, 1) := by decide +kernel
theorem dX2_loadEdges_80 : decode cX2_loadEdges 80 = .ok (.getfield 46, 3) := by decide +kernel
theorem dX2_loadEdges_83 : decode cX2_loadEdges 83 = .ok (.iload_n 3, 1) := by decide +kernel
theorem dX2_loadEdges_84 : decode cX2_loadEdges 84 = .ok (.iastore, 1) := by decide +kernel
theorem dX2_loadEdges_85 : decode cX2_loadEdges 85 = .ok (.aload_n 0, 1) := by decide +kernel
theorem dX2_loadEdges_86 : decode cX2_loadEdges 86 = .ok (.dup, 1) := by decide +kernel
theorem dX2_loadEdges_87 : decode cX2_loadEdges 87 = .ok (.getfield 46, 3) := by decide +kernel
theorem dX2_loadEdges_90 : decode cX2_loadEdges 90 = .ok (.iconst 1, 1) := by decide +kernel
theorem dX2_loadEdges_91 : decode cX2_loadEdges 91 = .ok (.iadd, 1) := by decide +kernel
theorem dX2_loadEdges_92 : decode cX2_loadEdges 92 = .ok (.putfield 46, 3) := by decide +kernel
theorem dX2_loadEdges_95 : decode cX2_loadEdges 95 = .ok (.iinc 4 (-1), 3) := by decide +kernel
theorem dX2_loadEdges_98 : decode cX2_loadEdges 98 = .ok (.goto (-37), 3) := by decide +kernel
theorem dX2_loadEdges_101 : decode cX2_loadEdges 101 = .ok (.aload_n 0, 1) := by decide +kernel
theorem dX2_loadEdges_102 : decode cX2_loadEdges 102 = .ok (.getfield 28, 3) := by decide +kernel
theorem dX2_loadEdges_105 : decode cX2_loadEdges 105 = .ok (.iload_n 3, 1) := by decide +kernel
theorem dX2_loadEdges_106 : decode cX2_loadEdges 106 = .ok (.aload_n 0, 1) := by decide +kernel
theorem dX2_loadEdges_107 : decode cX2_loadEdges 107 = .ok (.iload_n 3, 1) := by decide +kernel
theorem dX2_loadEdges_108 : decode cX2_loadEdges 108 = .ok (.invokevirtual 105, 3) := by decide +kernel
theorem dX2_loadEdges_111 : decode cX2_loadEdges 111 = .ok (.iastore, 1) := by decide +kernel
theorem dX2_loadEdges_112 : decode cX2_loadEdges 112 = .ok (.iinc 3 1, 3) := by decide +kernel
theorem dX2_loadEdges_115 : decode cX2_loadEdges 115 = .ok (.goto (-83), 3) := by decide +kernel
theorem dX2_loadEdges_118 : decode cX2_loadEdges 118 = .ok (.return_, 1) := by decide +kernel
theorem dX2_countWalksDue_0 : decode cX2_countWalksDue 0 = .ok (.iconst 2, 1) := by decide +kernel
theorem dX2_countWalksDue_1 : decode cX2_countWalksDue 1 = .ok (.iload_n 1, 1) := by decide +kernel
theorem dX2_countWalksDue_2 : decode cX2_countWalksDue 2 = .ok (.ishl, 1) := by decide +kernel
theorem dX2_countWalksDue_3 : decode cX2_countWalksDue 3 = .ok (.iconst 1, 1) := by decide +kernel
theorem dX2_countWalksDue_4 : decode cX2_countWalksDue 4 = .ok (.isub, 1) := by decide +kernel
theorem dX2_countWalksDue_5 : decode cX2_countWalksDue 5 = .ok (.istore_n 2, 1) := by decide +kernel
theorem dX2_countWalksDue_6 : decode cX2_countWalksDue 6 = .ok (.iconst 0, 1) := by decide +kernel
theorem dX2_countWalksDue_7 : decode cX2_countWalksDue 7 = .ok (.istore_n 3, 1) := by decide +kernel
theorem dX2_countWalksDue_8 : decode cX2_countWalksDue 8 = .ok (.iconst 0, 1) := by decide +kernel
theorem dX2_countWalksDue_9 : decode cX2_countWalksDue 9 = .ok (.istore 4, 2) := by decide +kernel
theorem dX2_countWalksDue_11 : decode cX2_countWalksDue 11 = .ok (.iconst 0, 1) := by decide +kernel
theorem dX2_countWalksDue_12 : decode cX2_countWalksDue 12 = .ok (.istore 5, 2) := by decide +kernel
theorem dX2_countWalksDue_14 : decode cX2_countWalksDue 14 = .ok (.iload_n 2, 1) := by decide +kernel
theorem dX2_countWalksDue_15 : decode cX2_countWalksDue 15 = .ok (.istore 6, 2) := by decide +kernel
theorem dX2_countWalksDue_17 : decode cX2_countWalksDue 17 = .ok (.iconst 0, 1) := by decide +kernel
theorem dX2_countWalksDue_18 : decode cX2_countWalksDue 18 = .ok (.istore 7, 2) := by decide +kernel
theorem dX2_countWalksDue_20 : decode cX2_countWalksDue 20 = .ok (.iload 7, 2) := by decide +kernel
theorem dX2_countWalksDue_22 : decode cX2_countWalksDue 22 = .ok (.iload_n 1, 1) := by decide +kernel
theorem dX2_countWalksDue_23 : decode cX2_countWalksDue 23 = .ok (.if_icmp .gt 66, 3) := by decide +kernel
theorem dX2_countWalksDue_26 : decode cX2_countWalksDue 26 = .ok (.aload_n 0, 1) := by decide +kernel
theorem dX2_countWalksDue_27 : decode cX2_countWalksDue 27 = .ok (.getfield 9, 3) := by decide +kernel
theorem dX2_countWalksDue_30 : decode cX2_countWalksDue 30 = .ok (.iload 7, 2) := by decide +kernel
theorem dX2_countWalksDue_32 : decode cX2_countWalksDue 32 = .ok (.iaload, 1) := by decide +kernel
theorem dX2_countWalksDue_33 : decode cX2_countWalksDue 33 = .ok (.iload_n 2, 1) := by decide +kernel
theorem dX2_countWalksDue_34 : decode cX2_countWalksDue 34 = .ok (.iand, 1) := by decide +kernel
theorem dX2_countWalksDue_35 : decode cX2_countWalksDue 35 = .ok (.invokestatic 100, 3) := by decide +kernel
theorem dX2_countWalksDue_38 : decode cX2_countWalksDue 38 = .ok (.istore 8, 2) := by decide +kernel
theorem dX2_countWalksDue_40 : decode cX2_countWalksDue 40 = .ok (.iload_n 3, 1) := by decide +kernel
theorem dX2_countWalksDue_41 : decode cX2_countWalksDue 41 = .ok (.iload 8, 2) := by decide +kernel
theorem dX2_countWalksDue_43 : decode cX2_countWalksDue 43 = .ok (.iadd, 1) := by decide +kernel
theorem dX2_countWalksDue_44 : decode cX2_countWalksDue 44 = .ok (.istore_n 3, 1) := by decide +kernel
theorem dX2_countWalksDue_45 : decode cX2_countWalksDue 45 = .ok (.iload 8, 2) := by decide +kernel
theorem dX2_countWalksDue_47 : decode cX2_countWalksDue 47 = .ok (.ifCond .le 36, 3) := by decide +kernel
theorem dX2_countWalksDue_50 : decode cX2_countWalksDue 50 = .ok (.iinc 4 1, 3) := by decide +kernel
theorem dX2_countWalksDue_53 : decode cX2_countWalksDue 53 = .ok (.iload 6, 2) := by decide +kernel
theorem dX2_countWalksDue_55 : decode cX2_countWalksDue 55 = .ok (.iload 7, 2) := by decide +kernel
theorem dX2_countWalksDue_57 : decode cX2_countWalksDue 57 = .ok (.ishr, 1) := by decide +kernel
theorem dX2_countWalksDue_58 : decode cX2_countWalksDue 58 = .ok (.iconst 1, 1) := by decide +kernel
theorem dX2_countWalksDue_59 : decode cX2_countWalksDue 59 = .ok (.iand, 1) := by decide +kernel
theorem dX2_countWalksDue_60 : decode cX2_countWalksDue 60 = .ok (.ifCond .eq 23, 3) := by decide +kernel
theorem dX2_countWalksDue_63 : decode cX2_countWalksDue 63 = .ok (.iload 6, 2) := by decide +kernel
theorem dX2_countWalksDue_65 : decode cX2_countWalksDue 65 = .ok (.aload_n 0, 1) := by decide +kernel
theorem dX2_countWalksDue_66 : decode cX2_countWalksDue 66 = .ok (.getfield 9, 3) := by decide +kernel
theorem dX2_countWalksDue_69 : decode cX2_countWalksDue 69 = .ok (.iload 7, 2) := by decide +kernel
theorem dX2_countWalksDue_71 : decode cX2_countWalksDue 71 = .ok (.iload_n 2, 1) := by decide +kernel
theorem dX2_countWalksDue_72 : decode cX2_countWalksDue 72 = .ok (.invokestatic 108, 3) := by decide +kernel
theorem dX2_countWalksDue_75 : decode cX2_countWalksDue 75 = .ok (.iconst (-1), 1) := by decide +kernel
theorem dX2_countWalksDue_76 : decode cX2_countWalksDue 76 = .ok (.ixor, 1) := by decide +kernel
theorem dX2_countWalksDue_77 : decode cX2_countWalksDue 77 = .ok (.iand, 1) := by decide +kernel
theorem dX2_countWalksDue_78 : decode cX2_countWalksDue 78 = .ok (.istore 6, 2) := by decide +kernel
theorem dX2_countWalksDue_80 : decode cX2_countWalksDue 80 = .ok (.iinc 5 1, 3) := by decide +kernel
theorem dX2_countWalksDue_83 : decode cX2_countWalksDue 83 = .ok (.iinc 7 1, 3) := by decide +kernel
theorem dX2_countWalksDue_86 : decode cX2_countWalksDue 86 = .ok (.goto (-66), 3) := by decide +kernel
theorem dX2_countWalksDue_89 : decode cX2_countWalksDue 89 = .ok (.iload_n 3, 1) := by decide +kernel
theorem dX2_countWalksDue_90 : decode cX2_countWalksDue 90 = .ok (.iconst 2, 1) := by decide +kernel
theorem dX2_countWalksDue_91 : decode cX2_countWalksDue 91 = .ok (.idiv, 1) := by decide +kernel
theorem dX2_countWalksDue_92 : decode cX2_countWalksDue 92 = .ok (.iload 4, 2) := by decide +kernel
theorem dX2_countWalksDue_94 : decode cX2_countWalksDue 94 = .ok (.isub, 1) := by decide +kernel
theorem dX2_countWalksDue_95 : decode cX2_countWalksDue 95 = .ok (.iconst 2, 1) := by decide +kernel
theorem dX2_countWalksDue_96 : decode cX2_countWalksDue 96 = .ok (.iload 5, 2) := by decide +kernel
theorem dX2_countWalksDue_98 : decode cX2_countWalksDue 98 = .ok (.imul, 1) := by decide +kernel
theorem dX2_countWalksDue_99 : decode cX2_countWalksDue 99 = .ok (.iadd, 1) := by decide +kernel
theorem dX2_countWalksDue_100 : decode cX2_countWalksDue 100 = .ok (.ireturn, 1) := by decide +kernel
theorem dX2_fillsFrom_0 : decode cX2_fillsFrom 0 = .ok (.iload_n 1, 1) := by decide +kernel
theorem dX2_fillsFrom_1 : decode cX2_fillsFrom 1 = .ok (.ifCond .le 32, 3) := by decide +kernel
theorem dX2_fillsFrom_4 : decode cX2_fillsFrom 4 = .ok (.iload_n 1, 1) := by decide +kernel
theorem dX2_fillsFrom_5 : decode cX2_fillsFrom 5 = .ok (.aload_n 0, 1) := by decide +kernel
theorem dX2_fillsFrom_6 : decode cX2_fillsFrom 6 = .ok (.getfield 46, 3) := by decide +kernel
theorem dX2_fillsFrom_9 : decode cX2_fillsFrom 9 = .ok (.if_icmp .eq 20, 3) := by decide +kernel
theorem dX2_fillsFrom_12 : decode cX2_fillsFrom 12 = .ok (.aload_n 0, 1) := by decide +kernel
theorem dX2_fillsFrom_13 : decode cX2_fillsFrom 13 = .ok (.getfield 19, 3) := by decide +kernel
theorem dX2_fillsFrom_16 : decode cX2_fillsFrom 16 = .ok (.iload_n 1, 1) := by decide +kernel
theorem dX2_fillsFrom_17 : decode cX2_fillsFrom 17 = .ok (.iaload, 1) := by decide +kernel
theorem dX2_fillsFrom_18 : decode cX2_fillsFrom 18 = .ok (.aload_n 0, 1) := by decide +kernel
theorem dX2_fillsFrom_19 : decode cX2_fillsFrom 19 = .ok (.getfield 19, 3) := by decide +kernel
theorem dX2_fillsFrom_22 : decode cX2_fillsFrom 22 = .ok (.iload_n 1, 1) := by decide +kernel
theorem dX2_fillsFrom_23 : decode cX2_fillsFrom 23 = .ok (.iconst 1, 1) := by decide +kernel
theorem dX2_fillsFrom_24 : decode cX2_fillsFrom 24 = .ok (.isub, 1) := by decide +kernel
theorem dX2_fillsFrom_25 : decode cX2_fillsFrom 25 = .ok (.iaload, 1) := by decide +kernel
theorem dX2_fillsFrom_26 : decode cX2_fillsFrom 26 = .ok (.if_icmp .eq 7, 3) := by decide +kernel
theorem dX2_fillsFrom_29 : decode cX2_fillsFrom 29 = .ok (.iconst 1, 1) := by decide +kernel
theorem dX2_fillsFrom_30 : decode cX2_fillsFrom 30 = .ok (.goto 4, 3) := by decide +kernel
theorem dX2_fillsFrom_33 : decode cX2_fillsFrom 33 = .ok (.iconst 0, 1) := by decide +kernel
theorem dX2_fillsFrom_34 : decode cX2_fillsFrom 34 = .ok (.istore_n 2, 1) := by decide +kernel
theorem dX2_fillsFrom_35 : decode cX2_fillsFrom 35 = .ok (.iload_n 2, 1) := by decide +kernel
theorem dX2_fillsFrom_36 : decode cX2_fillsFrom 36 = .ok (.ifCond .eq 33, 3) := by decide +kernel
theorem dX2_fillsFrom_39 : decode cX2_fillsFrom 39 = .ok (.aload_n 0, 1) := by decide +kernel
theorem dX2_fillsFrom_40 : decode cX2_fillsFrom 40 = .ok (.aload_n 0, 1) := by decide +kernel
theorem dX2_fillsFrom_41 : decode cX2_fillsFrom 41 = .ok (.getfield 19, 3) := by decide +kernel
theorem dX2_fillsFrom_44 : decode cX2_fillsFrom 44 = .ok (.iload_n 1, 1) := by decide +kernel
theorem dX2_fillsFrom_45 : decode cX2_fillsFrom 45 = .ok (.iconst 1, 1) := by decide +kernel
theorem dX2_fillsFrom_46 : decode cX2_fillsFrom 46 = .ok (.isub, 1) := by decide +kernel
theorem dX2_fillsFrom_47 : decode cX2_fillsFrom 47 = .ok (.iaload, 1) := by decide +kernel
theorem dX2_fillsFrom_48 : decode cX2_fillsFrom 48 = .ok (.invokevirtual 65, 3) := by decide +kernel
theorem dX2_fillsFrom_51 : decode cX2_fillsFrom 51 = .ok (.aload_n 0, 1) := by decide +kernel
theorem dX2_fillsFrom_52 : decode cX2_fillsFrom 52 = .ok (.getfield 28, 3) := by decide +kernel
theorem dX2_fillsFrom_55 : decode cX2_fillsFrom 55 = .ok (.aload_n 0, 1) := by decide +kernel
theorem dX2_fillsFrom_56 : decode cX2_fillsFrom 56 = .ok (.getfield 19, 3) := by decide +kernel
theorem dX2_fillsFrom_59 : decode cX2_fillsFrom 59 = .ok (.iload_n 1, 1) := by decide +kernel
theorem dX2_fillsFrom_60 : decode cX2_fillsFrom 60 = .ok (.iconst 1, 1) := by decide +kernel
theorem dX2_fillsFrom_61 : decode cX2_fillsFrom 61 = .ok (.isub, 1) := by decide +kernel
theorem dX2_fillsFrom_62 : decode cX2_fillsFrom 62 = .ok (.iaload, 1) := by decide +kernel
theorem dX2_fillsFrom_63 : decode cX2_fillsFrom 63 = .ok (.iaload, 1) := by decide +kernel
theorem dX2_fillsFrom_64 : decode cX2_fillsFrom 64 = .ok (.if_icmp .eq 5, 3) := by decide +kernel
theorem dX2_fillsFrom_67 : decode cX2_fillsFrom 67 = .ok (.iconst 0, 1) := by decide +kernel
theorem dX2_fillsFrom_68 : decode cX2_fillsFrom 68 = .ok (.ireturn, 1) := by decide +kernel
theorem dX2_fillsFrom_69 : decode cX2_fillsFrom 69 = .ok (.iload_n 1, 1) := by decide +kernel
theorem dX2_fillsFrom_70 : decode cX2_fillsFrom 70 = .ok (.aload_n 0, 1) := by decide +kernel
theorem dX2_fillsFrom_71 : decode cX2_fillsFrom 71 = .ok (.getfield 46, 3) := by decide +kernel
theorem dX2_fillsFrom_74 : decode cX2_fillsFrom 74 = .ok (.if_icmp .lt 5, 3) := by decide +kernel
theorem dX2_fillsFrom_77 : decode cX2_fillsFrom 77 = .ok (.iconst 1, 1) := by decide +kernel
theorem dX2_fillsFrom_78 : decode cX2_fillsFrom 78 = .ok (.ireturn, 1) := by decide +kernel
theorem dX2_fillsFrom_79 : decode cX2_fillsFrom 79 = .ok (.aload_n 0, 1) := by decide +kernel
theorem dX2_fillsFrom_80 : decode cX2_fillsFrom 80 = .ok (.getfield 19, 3) := by decide +kernel
theorem dX2_fillsFrom_83 : decode cX2_fillsFrom 83 = .ok (.iload_n 1, 1) := by decide +kernel
theorem dX2_fillsFrom_84 : decode cX2_fillsFrom 84 = .ok (.iaload, 1) := by decide +kernel
theorem dX2_fillsFrom_85 : decode cX2_fillsFrom 85 = .ok (.istore_n 3, 1) := by decide +kernel
theorem dX2_fillsFrom_86 : decode cX2_fillsFrom 86 = .ok (.iconst 0, 1) := by decide +kernel
theorem dX2_fillsFrom_87 : decode cX2_fillsFrom 87 = .ok (.istore 4, 2) := by decide +kernel
theorem dX2_fillsFrom_89 : decode cX2_fillsFrom 89 = .ok (.iload 4, 2) := by decide +kernel
theorem dX2_fillsFrom_91 : decode cX2_fillsFrom 91 = .ok (.aload_n 0, 1) := by decide +kernel
theorem dX2_fillsFrom_92 : decode cX2_fillsFrom 92 = .ok (.getfield 62, 3) := by decide +kernel
theorem dX2_fillsFrom_95 : decode cX2_fillsFrom 95 = .ok (.if_icmp .ge 91, 3) := by decide +kernel
theorem dX2_fillsFrom_98 : decode cX2_fillsFrom 98 = .ok (.aload_n 0, 1) := by decide +kernel
theorem dX2_fillsFrom_99 : decode cX2_fillsFrom 99 = .ok (.getfield 9, 3) := by decide +kernel
theorem dX2_fillsFrom_102 : decode cX2_fillsFrom 102 = .ok (.iload_n 3, 1) := by decide +kernel
theorem dX2_fillsFrom_103 : decode cX2_fillsFrom 103 = .ok (.iaload, 1) := by decide +kernel
theorem dX2_fillsFrom_104 : decode cX2_fillsFrom 104 = .ok (.aload_n 0, 1) := by decide +kernel
theorem dX2_fillsFrom_105 : decode cX2_fillsFrom 105 = .ok (.getfield 13, 3) := by decide +kernel
theorem dX2_fillsFrom_108 : decode cX2_fillsFrom 108 = .ok (.iload_n 3, 1) := by decide +kernel
theorem dX2_fillsFrom_109 : decode cX2_fillsFrom 109 = .ok (.iaload, 1) := by decide +kernel
theorem dX2_fillsFrom_110 : decode cX2_fillsFrom 110 = .ok (.iconst (-1), 1) := by decide +kernel
theorem dX2_fillsFrom_111 : decode cX2_fillsFrom 111 = .ok (.ixor, 1) := by decide +kernel
theorem dX2_fillsFrom_112 : decode cX2_fillsFrom 112 = .ok (.iand, 1) := by decide +kernel
theorem dX2_fillsFrom_113 : decode cX2_fillsFrom 113 = .ok (.iload 4, 2) := by decide +kernel
theorem dX2_fillsFrom_115 : decode cX2_fillsFrom 115 = .ok (.invokestatic 114, 3) := by decide +kernel
theorem dX2_fillsFrom_118 : decode cX2_fillsFrom 118 = .ok (.ifCond .eq 62, 3) := by decide +kernel
theorem dX2_fillsFrom_121 : decode cX2_fillsFrom 121 = .ok (.aload_n 0, 1) := by decide +kernel
theorem dX2_fillsFrom_122 : decode cX2_fillsFrom 122 = .ok (.iload_n 1, 1) := by decide +kernel
theorem dX2_fillsFrom_123 : decode cX2_fillsFrom 123 = .ok (.iload 4, 2) := by decide +kernel
theorem dX2_fillsFrom_125 : decode cX2_fillsFrom 125 = .ok (.invokevirtual 118, 3) := by decide +kernel
theorem dX2_fillsFrom_128 : decode cX2_fillsFrom 128 = .ok (.aload_n 0, 1) := by decide +kernel
theorem dX2_fillsFrom_129 : decode cX2_fillsFrom 129 = .ok (.getfield 13, 3) := by decide +kernel
theorem dX2_fillsFrom_132 : decode cX2_fillsFrom 132 = .ok (.iload_n 3, 1) := by decide +kernel
theorem dX2_fillsFrom_133 : decode cX2_fillsFrom 133 = .ok (.dup2, 1) := by decide +kernel
theorem dX2_fillsFrom_134 : decode cX2_fillsFrom 134 = .ok (.iaload, 1) := by decide +kernel
theorem dX2_fillsFrom_135 : decode cX2_fillsFrom 135 = .ok (.iconst 1, 1) := by decide +kernel
theorem dX2_fillsFrom_136 : decode cX2_fillsFrom 136 = .ok (.iload 4, 2) := by decide +kernel
theorem dX2_fillsFrom_138 : decode cX2_fillsFrom 138 = .ok (.ishl, 1) := by decide +kernel
theorem dX2_fillsFrom_139 : decode cX2_fillsFrom 139 = .ok (.ior, 1) := by decide +kernel
theorem dX2_fillsFrom_140 : decode cX2_fillsFrom 140 = .ok (.iastore, 1) := by decide +kernel
theorem dX2_fillsFrom_141 : decode cX2_fillsFrom 141 = .ok (.aload_n 0, 1) := by decide +kernel
theorem dX2_fillsFrom_142 : decode cX2_fillsFrom 142 = .ok (.iload_n 1, 1) := by decide +kernel
theorem dX2_fillsFrom_143 : decode cX2_fillsFrom 143 = .ok (.iconst 1, 1) := by decide +kernel
theorem dX2_fillsFrom_144 : decode cX2_fillsFrom 144 = .ok (.iadd, 1) := by decide +kernel
theorem dX2_fillsFrom_145 : decode cX2_fillsFrom 145 = .ok (.invokevirtual 42, 3) := by decide +kernel
theorem dX2_fillsFrom_148 : decode cX2_fillsFrom 148 = .ok (.ifCond .eq 5, 3) := by decide +kernel
theorem dX2_fillsFrom_151 : decode cX2_fillsFrom 151 = .ok (.iconst 1, 1) := by decide +kernel
theorem dX2_fillsFrom_152 : decode cX2_fillsFrom 152 = .ok (.ireturn, 1) := by decide +kernel
theorem dX2_fillsFrom_153 : decode cX2_fillsFrom 153 = .ok (.aload_n 0, 1) := by decide +kernel
theorem dX2_fillsFrom_154 : decode cX2_fillsFrom 154 = .ok (.getfield 13, 3) := by decide +kernel
theorem dX2_fillsFrom_157 : decode cX2_fillsFrom 157 = .ok (.iload_n 3, 1) := by decide +kernel
theorem dX2_fillsFrom_158 : decode cX2_fillsFrom 158 = .ok (.dup2, 1) := by decide +kernel
theorem dX2_fillsFrom_159 : decode cX2_fillsFrom 159 = .ok (.iaload, 1) := by decide +kernel
theorem dX2_fillsFrom_160 : decode cX2_fillsFrom 160 = .ok (.iconst 1, 1) := by decide +kernel
theorem dX2_fillsFrom_161 : decode cX2_fillsFrom 161 = .ok (.iload 4, 2) := by decide +kernel
theorem dX2_fillsFrom_163 : decode cX2_fillsFrom 163 = .ok (.ishl, 1) := by decide +kernel
theorem dX2_fillsFrom_164 : decode cX2_fillsFrom 164 = .ok (.iconst (-1), 1) := by decide +kernel
theorem dX2_fillsFrom_165 : decode cX2_fillsFrom 165 = .ok (.ixor, 1) := by decide +kernel
theorem dX2_fillsFrom_166 : decode cX2_fillsFrom 166 = .ok (.iand, 1) := by decide +kernel
theorem dX2_fillsFrom_167 : decode cX2_fillsFrom 167 = .ok (.iastore, 1) := by decide +kernel
theorem dX2_fillsFrom_168 : decode cX2_fillsFrom 168 = .ok (.iload_n 1, 1) := by decide +kernel
theorem dX2_fillsFrom_169 : decode cX2_fillsFrom 169 = .ok (.aload_n 0, 1) := by decide +kernel
theorem dX2_fillsFrom_170 : decode cX2_fillsFrom 170 = .ok (.getfield 16, 3) := by decide +kernel
theorem dX2_fillsFrom_173 : decode cX2_fillsFrom 173 = .ok (.iload_n 3, 1) := by decide +kernel
theorem dX2_fillsFrom_174 : decode cX2_fillsFrom 174 = .ok (.iaload, 1) := by decide +kernel
theorem dX2_fillsFrom_175 : decode cX2_fillsFrom 175 = .ok (.if_icmp .ne 5, 3) := by decide +kernel
theorem dX2_fillsFrom_178 : decode cX2_fillsFrom 178 = .ok (.iconst 0, 1) := by decide +kernel
theorem dX2_fillsFrom_179 : decode cX2_fillsFrom 179 = .ok (.ireturn, 1) := by decide +kernel
theorem dX2_fillsFrom_180 : decode cX2_fillsFrom 180 = .ok (.iinc 4 1, 3) := by decide +kernel
theorem dX2_fillsFrom_183 : decode cX2_fillsFrom 183 = .ok (.goto (-94), 3) := by decide +kernel
theorem dX2_fillsFrom_186 : decode cX2_fillsFrom 186 = .ok (.iconst 0, 1) := by decide +kernel
theorem dX2_fillsFrom_187 : decode cX2_fillsFrom 187 = .ok (.ireturn, 1) := by decide +kernel
theorem dX2_setPlace_0 : decode cX2_setPlace 0 = .ok (.aload_n 0, 1) := by decide +kernel
theorem dX2_setPlace_1 : decode cX2_setPlace 1 = .ok (.getfield 22, 3) := by decide +kernel
theorem dX2_setPlace_4 : decode cX2_setPlace 4 = .ok (.iload_n 1, 1) := by decide +kernel
theorem dX2_setPlace_5 : decode cX2_setPlace 5 = .ok (.iload_n 2, 1) := by decide +kernel
theorem dX2_setPlace_6 : decode cX2_setPlace 6 = .ok (.iastore, 1) := by decide +kernel
theorem dX2_setPlace_7 : decode cX2_setPlace 7 = .ok (.aload_n 0, 1) := by decide +kernel
theorem dX2_setPlace_8 : decode cX2_setPlace 8 = .ok (.getfield 25, 3) := by decide +kernel
theorem dX2_setPlace_11 : decode cX2_setPlace 11 = .ok (.aload_n 0, 1) := by decide +kernel
theorem dX2_setPlace_12 : decode cX2_setPlace 12 = .ok (.getfield 19, 3) := by decide +kernel
theorem dX2_setPlace_15 : decode cX2_setPlace 15 = .ok (.iload_n 1, 1) := by decide +kernel
theorem dX2_setPlace_16 : decode cX2_setPlace 16 = .ok (.iaload, 1) := by decide +kernel
theorem dX2_setPlace_17 : decode cX2_setPlace 17 = .ok (.bipush 7, 2) := by decide +kernel
theorem dX2_setPlace_19 : decode cX2_setPlace 19 = .ok (.imul, 1) := by decide +kernel
theorem dX2_setPlace_20 : decode cX2_setPlace 20 = .ok (.iload_n 2, 1) := by decide +kernel
theorem dX2_setPlace_21 : decode cX2_setPlace 21 = .ok (.iadd, 1) := by decide +kernel
theorem dX2_setPlace_22 : decode cX2_setPlace 22 = .ok (.iload_n 1, 1) := by decide +kernel
theorem dX2_setPlace_23 : decode cX2_setPlace 23 = .ok (.iastore, 1) := by decide +kernel
theorem dX2_setPlace_24 : decode cX2_setPlace 24 = .ok (.return_, 1) := by decide +kernel
theorem dX2_countWalks_0 : decode cX2_countWalks 0 = .ok (.iconst 0, 1) := by decide +kernel
theorem dX2_countWalks_1 : decode cX2_countWalks 1 = .ok (.istore_n 2, 1) := by decide +kernel
theorem dX2_countWalks_2 : decode cX2_countWalks 2 = .ok (.iconst 0, 1) := by decide +kernel
theorem dX2_countWalks_3 : decode cX2_countWalks 3 = .ok (.istore_n 3, 1) := by decide +kernel
theorem dX2_countWalks_4 : decode cX2_countWalks 4 = .ok (.iconst 0, 1) := by decide +kernel
theorem dX2_countWalks_5 : decode cX2_countWalks 5 = .ok (.istore 4, 2) := by decide +kernel
theorem dX2_countWalks_7 : decode cX2_countWalks 7 = .ok (.iload 4, 2) := by decide +kernel
theorem dX2_countWalks_9 : decode cX2_countWalks 9 = .ok (.aload_n 0, 1) := by decide +kernel
theorem dX2_countWalks_10 : decode cX2_countWalks 10 = .ok (.getfield 46, 3) := by decide +kernel
theorem dX2_countWalks_13 : decode cX2_countWalks 13 = .ok (.if_icmp .ge 88, 3) := by decide +kernel
theorem dX2_countWalks_16 : decode cX2_countWalks 16 = .ok (.aload_n 0, 1) := by decide +kernel
theorem dX2_countWalks_17 : decode cX2_countWalks 17 = .ok (.getfield 19, 3) := by decide +kernel
theorem dX2_countWalks_20 : decode cX2_countWalks 20 = .ok (.iload 4, 2) := by decide +kernel
theorem dX2_countWalks_22 : decode cX2_countWalks 22 = .ok (.iaload, 1) := by decide +kernel
theorem dX2_countWalks_23 : decode cX2_countWalks 23 = .ok (.iload_n 1, 1) := by decide +kernel
theorem dX2_countWalks_24 : decode cX2_countWalks 24 = .ok (.if_icmp .gt 77, 3) := by decide +kernel
theorem dX2_countWalks_27 : decode cX2_countWalks 27 = .ok (.aload_n 0, 1) := by decide +kernel
theorem dX2_countWalks_28 : decode cX2_countWalks 28 = .ok (.getfield 22, 3) := by decide +kernel
theorem dX2_countWalks_31 : decode cX2_countWalks 31 = .ok (.iload 4, 2) := by decide +kernel
theorem dX2_countWalks_33 : decode cX2_countWalks 33 = .ok (.iaload, 1) := by decide +kernel
theorem dX2_countWalks_34 : decode cX2_countWalks 34 = .ok (.iload_n 1, 1) := by decide +kernel
theorem dX2_countWalks_35 : decode cX2_countWalks 35 = .ok (.if_icmp .gt 60, 3) := by decide +kernel
theorem dX2_countWalks_38 : decode cX2_countWalks 38 = .ok (.iload_n 2, 1) := by decide +kernel
theorem dX2_countWalks_39 : decode cX2_countWalks 39 = .ok (.iload 4, 2) := by decide +kernel
theorem dX2_countWalks_41 : decode cX2_countWalks 41 = .ok (.ishr, 1) := by decide +kernel
theorem dX2_countWalks_42 : decode cX2_countWalks 42 = .ok (.iconst 1, 1) := by decide +kernel
theorem dX2_countWalks_43 : decode cX2_countWalks 43 = .ok (.iand, 1) := by decide +kernel
theorem dX2_countWalks_44 : decode cX2_countWalks 44 = .ok (.ifCond .ne 51, 3) := by decide +kernel
theorem dX2_countWalks_47 : decode cX2_countWalks 47 = .ok (.iload 4, 2) := by decide +kernel
theorem dX2_countWalks_49 : decode cX2_countWalks 49 = .ok (.istore 5, 2) := by decide +kernel
theorem dX2_countWalks_51 : decode cX2_countWalks 51 = .ok (.iconst 0, 1) := by decide +kernel
theorem dX2_countWalks_52 : decode cX2_countWalks 52 = .ok (.istore 6, 2) := by decide +kernel
theorem dX2_countWalks_54 : decode cX2_countWalks 54 = .ok (.iload 6, 2) := by decide +kernel
theorem dX2_countWalks_56 : decode cX2_countWalks 56 = .ok (.bipush 22, 2) := by decide +kernel
theorem dX2_countWalks_58 : decode cX2_countWalks 58 = .ok (.if_icmp .ge 34, 3) := by decide +kernel
theorem dX2_countWalks_61 : decode cX2_countWalks 61 = .ok (.iload_n 2, 1) := by decide +kernel
theorem dX2_countWalks_62 : decode cX2_countWalks 62 = .ok (.iload 5, 2) := by decide +kernel
theorem dX2_countWalks_64 : decode cX2_countWalks 64 = .ok (.ishr, 1) := by decide +kernel
theorem dX2_countWalks_65 : decode cX2_countWalks 65 = .ok (.iconst 1, 1) := by decide +kernel
theorem dX2_countWalks_66 : decode cX2_countWalks 66 = .ok (.iand, 1) := by decide +kernel
theorem dX2_countWalks_67 : decode cX2_countWalks 67 = .ok (.ifCond .ne 25, 3) := by decide +kernel
theorem dX2_countWalks_70 : decode cX2_countWalks 70 = .ok (.iload_n 2, 1) := by decide +kernel
theorem dX2_countWalks_71 : decode cX2_countWalks 71 = .ok (.iconst 1, 1) := by decide +kernel
theorem dX2_countWalks_72 : decode cX2_countWalks 72 = .ok (.iload 5, 2) := by decide +kernel
theorem dX2_countWalks_74 : decode cX2_countWalks 74 = .ok (.ishl, 1) := by decide +kernel
theorem dX2_countWalks_75 : decode cX2_countWalks 75 = .ok (.ior, 1) := by decide +kernel
theorem dX2_countWalks_76 : decode cX2_countWalks 76 = .ok (.istore_n 2, 1) := by decide +kernel
theorem dX2_countWalks_77 : decode cX2_countWalks 77 = .ok (.aload_n 0, 1) := by decide +kernel
theorem dX2_countWalks_78 : decode cX2_countWalks 78 = .ok (.iload 5, 2) := by decide +kernel
theorem dX2_countWalks_80 : decode cX2_countWalks 80 = .ok (.iload_n 1, 1) := by decide +kernel
theorem dX2_countWalks_81 : decode cX2_countWalks 81 = .ok (.invokevirtual 122, 3) := by decide +kernel
theorem dX2_countWalks_84 : decode cX2_countWalks 84 = .ok (.istore 5, 2) := by decide +kernel
theorem dX2_countWalks_86 : decode cX2_countWalks 86 = .ok (.iinc 6 1, 3) := by decide +kernel
theorem dX2_countWalks_89 : decode cX2_countWalks 89 = .ok (.goto (-35), 3) := by decide +kernel
theorem dX2_countWalks_92 : decode cX2_countWalks 92 = .ok (.iinc 3 1, 3) := by decide +kernel
theorem dX2_countWalks_95 : decode cX2_countWalks 95 = .ok (.iinc 4 1, 3) := by decide +kernel
theorem dX2_countWalks_98 : decode cX2_countWalks 98 = .ok (.goto (-91), 3) := by decide +kernel
theorem dX2_countWalks_101 : decode cX2_countWalks 101 = .ok (.iload_n 3, 1) := by decide +kernel
theorem dX2_countWalks_102 : decode cX2_countWalks 102 = .ok (.ireturn, 1) := by decide +kernel
theorem dX2_behind_0 : decode cX2_behind 0 = .ok (.aload_n 0, 1) := by decide +kernel
theorem dX2_behind_1 : decode cX2_behind 1 = .ok (.getfield 22, 3) := by decide +kernel
theorem dX2_behind_4 : decode cX2_behind 4 = .ok (.iload_n 1, 1) := by decide +kernel
theorem dX2_behind_5 : decode cX2_behind 5 = .ok (.iaload, 1) := by decide +kernel
theorem dX2_behind_6 : decode cX2_behind 6 = .ok (.istore_n 3, 1) := by decide +kernel
theorem dX2_behind_7 : decode cX2_behind 7 = .ok (.aload_n 0, 1) := by decide +kernel
theorem dX2_behind_8 : decode cX2_behind 8 = .ok (.getfield 25, 3) := by decide +kernel
theorem dX2_behind_11 : decode cX2_behind 11 = .ok (.iload_n 3, 1) := by decide +kernel
theorem dX2_behind_12 : decode cX2_behind 12 = .ok (.bipush 7, 2) := by decide +kernel
theorem dX2_behind_14 : decode cX2_behind 14 = .ok (.imul, 1) := by decide +kernel
theorem dX2_behind_15 : decode cX2_behind 15 = .ok (.aload_n 0, 1) := by decide +kernel
theorem dX2_behind_16 : decode cX2_behind 16 = .ok (.getfield 19, 3) := by decide +kernel
theorem dX2_behind_19 : decode cX2_behind 19 = .ok (.iload_n 1, 1) := by decide +kernel
theorem dX2_behind_20 : decode cX2_behind 20 = .ok (.iaload, 1) := by decide +kernel
theorem dX2_behind_21 : decode cX2_behind 21 = .ok (.iadd, 1) := by decide +kernel
theorem dX2_behind_22 : decode cX2_behind 22 = .ok (.iaload, 1) := by decide +kernel
theorem dX2_behind_23 : decode cX2_behind 23 = .ok (.istore 4, 2) := by decide +kernel
theorem dX2_behind_25 : decode cX2_behind 25 = .ok (.aload_n 0, 1) := by decide +kernel
theorem dX2_behind_26 : decode cX2_behind 26 = .ok (.getfield 9, 3) := by decide +kernel
theorem dX2_behind_29 : decode cX2_behind 29 = .ok (.iload_n 3, 1) := by decide +kernel
theorem dX2_behind_30 : decode cX2_behind 30 = .ok (.iaload, 1) := by decide +kernel
theorem dX2_behind_31 : decode cX2_behind 31 = .ok (.invokestatic 100, 3) := by decide +kernel
theorem dX2_behind_34 : decode cX2_behind 34 = .ok (.istore 5, 2) := by decide +kernel
theorem dX2_behind_36 : decode cX2_behind 36 = .ok (.iload 4, 2) := by decide +kernel
theorem dX2_behind_38 : decode cX2_behind 38 = .ok (.istore 6, 2) := by decide +kernel
theorem dX2_behind_40 : decode cX2_behind 40 = .ok (.iconst 0, 1) := by decide +kernel
theorem dX2_behind_41 : decode cX2_behind 41 = .ok (.istore 7, 2) := by decide +kernel
theorem dX2_behind_43 : decode cX2_behind 43 = .ok (.iload 7, 2) := by decide +kernel
theorem dX2_behind_45 : decode cX2_behind 45 = .ok (.iload 5, 2) := by decide +kernel
theorem dX2_behind_47 : decode cX2_behind 47 = .ok (.if_icmp .ge 48, 3) := by decide +kernel
theorem dX2_behind_50 : decode cX2_behind 50 = .ok (.iinc 6 1, 3) := by decide +kernel
theorem dX2_behind_53 : decode cX2_behind 53 = .ok (.iload 6, 2) := by decide +kernel
theorem dX2_behind_55 : decode cX2_behind 55 = .ok (.aload_n 0, 1) := by decide +kernel
theorem dX2_behind_56 : decode cX2_behind 56 = .ok (.getfield 16, 3) := by decide +kernel
theorem dX2_behind_59 : decode cX2_behind 59 = .ok (.iload_n 3, 1) := by decide +kernel
theorem dX2_behind_60 : decode cX2_behind 60 = .ok (.iaload, 1) := by decide +kernel
theorem dX2_behind_61 : decode cX2_behind 61 = .ok (.iload 5, 2) := by decide +kernel
theorem dX2_behind_63 : decode cX2_behind 63 = .ok (.iadd, 1) := by decide +kernel
theorem dX2_behind_64 : decode cX2_behind 64 = .ok (.if_icmp .lt 11, 3) := by decide +kernel
theorem dX2_behind_67 : decode cX2_behind 67 = .ok (.aload_n 0, 1) := by decide +kernel
theorem dX2_behind_68 : decode cX2_behind 68 = .ok (.getfield 16, 3) := by decide +kernel
theorem dX2_behind_71 : decode cX2_behind 71 = .ok (.iload_n 3, 1) := by decide +kernel
theorem dX2_behind_72 : decode cX2_behind 72 = .ok (.iaload, 1) := by decide +kernel
theorem dX2_behind_73 : decode cX2_behind 73 = .ok (.istore 6, 2) := by decide +kernel
theorem dX2_behind_75 : decode cX2_behind 75 = .ok (.aload_n 0, 1) := by decide +kernel
theorem dX2_behind_76 : decode cX2_behind 76 = .ok (.getfield 22, 3) := by decide +kernel
theorem dX2_behind_79 : decode cX2_behind 79 = .ok (.iload 6, 2) := by decide +kernel
theorem dX2_behind_81 : decode cX2_behind 81 = .ok (.iaload, 1) := by decide +kernel
theorem dX2_behind_82 : decode cX2_behind 82 = .ok (.iload_n 2, 1) := by decide +kernel
theorem dX2_behind_83 : decode cX2_behind 83 = .ok (.if_icmp .gt 6, 3) := by decide +kernel
theorem dX2_behind_86 : decode cX2_behind 86 = .ok (.iload 6, 2) := by decide +kernel
theorem dX2_behind_88 : decode cX2_behind 88 = .ok (.ireturn, 1) := by decide +kernel
theorem dX2_behind_89 : decode cX2_behind 89 = .ok (.iinc 7 1, 3) := by decide +kernel
theorem dX2_behind_92 : decode cX2_behind 92 = .ok (.goto (-49), 3) := by decide +kernel
theorem dX2_behind_95 : decode cX2_behind 95 = .ok (.iload 4, 2) := by decide +kernel
theorem dX2_behind_97 : decode cX2_behind 97 = .ok (.ireturn, 1) := by decide +kernel
theorem dX2_writeCore_0 : decode cX2_writeCore 0 = .ok (.iload_n 2, 1) := by decide +kernel
theorem dX2_writeCore_1 : decode cX2_writeCore 1 = .ok (.istore_n 3, 1) := by decide +kernel
theorem dX2_writeCore_2 : decode cX2_writeCore 2 = .ok (.aload_n 1, 1) := by decide +kernel
theorem dX2_writeCore_3 : decode cX2_writeCore 3 = .ok (.getfield 79, 3) := by decide +kernel
theorem dX2_writeCore_6 : decode cX2_writeCore 6 = .ok (.iconst 1, 1) := by decide +kernel
theorem dX2_writeCore_7 : decode cX2_writeCore 7 = .ok (.isub, 1) := by decide +kernel
theorem dX2_writeCore_8 : decode cX2_writeCore 8 = .ok (.istore 4, 2) := by decide +kernel
theorem dX2_writeCore_10 : decode cX2_writeCore 10 = .ok (.iload 4, 2) := by decide +kernel
theorem dX2_writeCore_12 : decode cX2_writeCore 12 = .ok (.ifCond .lt 48, 3) := by decide +kernel
theorem dX2_writeCore_15 : decode cX2_writeCore 15 = .ok (.iload_n 3, 1) := by decide +kernel
theorem dX2_writeCore_16 : decode cX2_writeCore 16 = .ok (.iload 4, 2) := by decide +kernel
theorem dX2_writeCore_18 : decode cX2_writeCore 18 = .ok (.invokestatic 114, 3) := by decide +kernel
theorem dX2_writeCore_21 : decode cX2_writeCore 21 = .ok (.ifCond .eq 33, 3) := by decide +kernel
theorem dX2_writeCore_24 : decode cX2_writeCore 24 = .ok (.aload_n 0, 1) := by decide +kernel
theorem dX2_writeCore_25 : decode cX2_writeCore 25 = .ok (.aload_n 1, 1) := by decide +kernel
theorem dX2_writeCore_26 : decode cX2_writeCore 26 = .ok (.iload_n 3, 1) := by decide +kernel
theorem dX2_writeCore_27 : decode cX2_writeCore 27 = .ok (.iconst 1, 1) := by decide +kernel
theorem dX2_writeCore_28 : decode cX2_writeCore 28 = .ok (.iload 4, 2) := by decide +kernel
theorem dX2_writeCore_30 : decode cX2_writeCore 30 = .ok (.ishl, 1) := by decide +kernel
theorem dX2_writeCore_31 : decode cX2_writeCore 31 = .ok (.iconst (-1), 1) := by decide +kernel
theorem dX2_writeCore_32 : decode cX2_writeCore 32 = .ok (.ixor, 1) := by decide +kernel
theorem dX2_writeCore_33 : decode cX2_writeCore 33 = .ok (.iand, 1) := by decide +kernel
theorem dX2_writeCore_34 : decode cX2_writeCore 34 = .ok (.invokevirtual 38, 3) := by decide +kernel
theorem dX2_writeCore_37 : decode cX2_writeCore 37 = .ok (.aload_n 0, 1) := by decide +kernel
theorem dX2_writeCore_38 : decode cX2_writeCore 38 = .ok (.iconst 0, 1) := by decide +kernel
theorem dX2_writeCore_39 : decode cX2_writeCore 39 = .ok (.invokevirtual 42, 3) := by decide +kernel
theorem dX2_writeCore_42 : decode cX2_writeCore 42 = .ok (.ifCond .ne 12, 3) := by decide +kernel
theorem dX2_writeCore_45 : decode cX2_writeCore 45 = .ok (.iload_n 3, 1) := by decide +kernel
theorem dX2_writeCore_46 : decode cX2_writeCore 46 = .ok (.iconst 1, 1) := by decide +kernel
theorem dX2_writeCore_47 : decode cX2_writeCore 47 = .ok (.iload 4, 2) := by decide +kernel
theorem dX2_writeCore_49 : decode cX2_writeCore 49 = .ok (.ishl, 1) := by decide +kernel
theorem dX2_writeCore_50 : decode cX2_writeCore 50 = .ok (.iconst (-1), 1) := by decide +kernel
theorem dX2_writeCore_51 : decode cX2_writeCore 51 = .ok (.ixor, 1) := by decide +kernel
theorem dX2_writeCore_52 : decode cX2_writeCore 52 = .ok (.iand, 1) := by decide +kernel
theorem dX2_writeCore_53 : decode cX2_writeCore 53 = .ok (.istore_n 3, 1) := by decide +kernel
theorem dX2_writeCore_54 : decode cX2_writeCore 54 = .ok (.iinc 4 (-1), 3) := by decide +kernel
theorem dX2_writeCore_57 : decode cX2_writeCore 57 = .ok (.goto (-47), 3) := by decide +kernel
theorem dX2_writeCore_60 : decode cX2_writeCore 60 = .ok (.aload_n 0, 1) := by decide +kernel
theorem dX2_writeCore_61 : decode cX2_writeCore 61 = .ok (.aload_n 1, 1) := by decide +kernel
theorem dX2_writeCore_62 : decode cX2_writeCore 62 = .ok (.iload_n 3, 1) := by decide +kernel
theorem dX2_writeCore_63 : decode cX2_writeCore 63 = .ok (.invokevirtual 38, 3) := by decide +kernel
theorem dX2_writeCore_66 : decode cX2_writeCore 66 = .ok (.aload_n 1, 1) := by decide +kernel
theorem dX2_writeCore_67 : decode cX2_writeCore 67 = .ok (.getfield 50, 3) := by decide +kernel
theorem dX2_writeCore_70 : decode cX2_writeCore 70 = .ok (.aload_n 0, 1) := by decide +kernel
theorem dX2_writeCore_71 : decode cX2_writeCore 71 = .ok (.iconst 2, 1) := by decide +kernel
theorem dX2_writeCore_72 : decode cX2_writeCore 72 = .ok (.invokevirtual 125, 3) := by decide +kernel
theorem dX2_writeCore_75 : decode cX2_writeCore 75 = .ok (.iconst 5, 1) := by decide +kernel
theorem dX2_writeCore_76 : decode cX2_writeCore 76 = .ok (.if_icmp .ne 7, 3) := by decide +kernel
theorem dX2_writeCore_79 : decode cX2_writeCore 79 = .ok (.iconst 5, 1) := by decide +kernel
theorem dX2_writeCore_80 : decode cX2_writeCore 80 = .ok (.goto 4, 3) := by decide +kernel
theorem dX2_writeCore_83 : decode cX2_writeCore 83 = .ok (.iconst 3, 1) := by decide +kernel
theorem dX2_writeCore_84 : decode cX2_writeCore 84 = .ok (.invokevirtual 56, 3) := by decide +kernel
theorem dX2_writeCore_87 : decode cX2_writeCore 87 = .ok (.iconst 0, 1) := by decide +kernel
theorem dX2_writeCore_88 : decode cX2_writeCore 88 = .ok (.istore 4, 2) := by decide +kernel
theorem dX2_writeCore_90 : decode cX2_writeCore 90 = .ok (.iload 4, 2) := by decide +kernel
theorem dX2_writeCore_92 : decode cX2_writeCore 92 = .ok (.aload_n 1, 1) := by decide +kernel
theorem dX2_writeCore_93 : decode cX2_writeCore 93 = .ok (.getfield 79, 3) := by decide +kernel
theorem dX2_writeCore_96 : decode cX2_writeCore 96 = .ok (.if_icmp .ge 27, 3) := by decide +kernel
theorem dX2_writeCore_99 : decode cX2_writeCore 99 = .ok (.iload_n 3, 1) := by decide +kernel
theorem dX2_writeCore_100 : decode cX2_writeCore 100 = .ok (.iload 4, 2) := by decide +kernel
theorem dX2_writeCore_102 : decode cX2_writeCore 102 = .ok (.invokestatic 114, 3) := by decide +kernel
theorem dX2_writeCore_105 : decode cX2_writeCore 105 = .ok (.ifCond .eq 12, 3) := by decide +kernel
theorem dX2_writeCore_108 : decode cX2_writeCore 108 = .ok (.aload_n 1, 1) := by decide +kernel
theorem dX2_writeCore_109 : decode cX2_writeCore 109 = .ok (.getfield 50, 3) := by decide +kernel
theorem dX2_writeCore_112 : decode cX2_writeCore 112 = .ok (.iload 4, 2) := by decide +kernel
theorem dX2_writeCore_114 : decode cX2_writeCore 114 = .ok (.invokevirtual 56, 3) := by decide +kernel
theorem dX2_writeCore_117 : decode cX2_writeCore 117 = .ok (.iinc 4 1, 3) := by decide +kernel
theorem dX2_writeCore_120 : decode cX2_writeCore 120 = .ok (.goto (-30), 3) := by decide +kernel
theorem dX2_writeCore_123 : decode cX2_writeCore 123 = .ok (.return_, 1) := by decide +kernel
theorem dX2_countBranches_0 : decode cX2_countBranches 0 = .ok (.iconst 0, 1) := by decide +kernel
theorem dX2_countBranches_1 : decode cX2_countBranches 1 = .ok (.istore_n 2, 1) := by decide +kernel
theorem dX2_countBranches_2 : decode cX2_countBranches 2 = .ok (.iconst 0, 1) := by decide +kernel
theorem dX2_countBranches_3 : decode cX2_countBranches 3 = .ok (.istore_n 3, 1) := by decide +kernel
theorem dX2_countBranches_4 : decode cX2_countBranches 4 = .ok (.iload_n 3, 1) := by decide +kernel
theorem dX2_countBranches_5 : decode cX2_countBranches 5 = .ok (.aload_n 0, 1) := by decide +kernel
theorem dX2_countBranches_6 : decode cX2_countBranches 6 = .ok (.getfield 62, 3) := by decide +kernel
theorem dX2_countBranches_9 : decode cX2_countBranches 9 = .ok (.if_icmp .ge 25, 3) := by decide +kernel
theorem dX2_countBranches_12 : decode cX2_countBranches 12 = .ok (.aload_n 0, 1) := by decide +kernel
theorem dX2_countBranches_13 : decode cX2_countBranches 13 = .ok (.getfield 9, 3) := by decide +kernel
theorem dX2_countBranches_16 : decode cX2_countBranches 16 = .ok (.iload_n 3, 1) := by decide +kernel
theorem dX2_countBranches_17 : decode cX2_countBranches 17 = .ok (.iaload, 1) := by decide +kernel
theorem dX2_countBranches_18 : decode cX2_countBranches 18 = .ok (.invokestatic 100, 3) := by decide +kernel
theorem dX2_countBranches_21 : decode cX2_countBranches 21 = .ok (.iload_n 1, 1) := by decide +kernel
theorem dX2_countBranches_22 : decode cX2_countBranches 22 = .ok (.if_icmp .le 6, 3) := by decide +kernel
theorem dX2_countBranches_25 : decode cX2_countBranches 25 = .ok (.iinc 2 1, 3) := by decide +kernel
theorem dX2_countBranches_28 : decode cX2_countBranches 28 = .ok (.iinc 3 1, 3) := by decide +kernel
theorem dX2_countBranches_31 : decode cX2_countBranches 31 = .ok (.goto (-27), 3) := by decide +kernel
theorem dX2_countBranches_34 : decode cX2_countBranches 34 = .ok (.iload_n 2, 1) := by decide +kernel
theorem dX2_countBranches_35 : decode cX2_countBranches 35 = .ok (.ireturn, 1) := by decide +kernel
theorem dX2_judgeDrawing_0 : decode cX2_judgeDrawing 0 = .ok (.aload_n 0, 1) := by decide +kernel
theorem dX2_judgeDrawing_1 : decode cX2_judgeDrawing 1 = .ok (.aload_n 1, 1) := by decide +kernel
theorem dX2_judgeDrawing_2 : decode cX2_judgeDrawing 2 = .ok (.aload_n 1, 1) := by decide +kernel
theorem dX2_judgeDrawing_3 : decode cX2_judgeDrawing 3 = .ok (.invokestatic 34, 3) := by decide +kernel
theorem dX2_judgeDrawing_6 : decode cX2_judgeDrawing 6 = .ok (.invokevirtual 38, 3) := by decide +kernel
theorem dX2_judgeDrawing_9 : decode cX2_judgeDrawing 9 = .ok (.aload_n 2, 1) := by decide +kernel
theorem dX2_judgeDrawing_10 : decode cX2_judgeDrawing 10 = .ok (.getfield 131, 3) := by decide +kernel
theorem dX2_judgeDrawing_13 : decode cX2_judgeDrawing 13 = .ok (.aload_n 0, 1) := by decide +kernel
theorem dX2_judgeDrawing_14 : decode cX2_judgeDrawing 14 = .ok (.getfield 46, 3) := by decide +kernel
theorem dX2_judgeDrawing_17 : decode cX2_judgeDrawing 17 = .ok (.if_icmp .eq 5, 3) := by decide +kernel
theorem dX2_judgeDrawing_20 : decode cX2_judgeDrawing 20 = .ok (.iconst 1, 1) := by decide +kernel
theorem dX2_judgeDrawing_21 : decode cX2_judgeDrawing 21 = .ok (.ireturn, 1) := by decide +kernel
theorem dX2_judgeDrawing_22 : decode cX2_judgeDrawing 22 = .ok (.iconst 0, 1) := by decide +kernel
theorem dX2_judgeDrawing_23 : decode cX2_judgeDrawing 23 = .ok (.istore_n 3, 1) := by decide +kernel
theorem dX2_judgeDrawing_24 : decode cX2_judgeDrawing 24 = .ok (.iload_n 3, 1) := by decide +kernel
theorem dX2_judgeDrawing_25 : decode cX2_judgeDrawing 25 = .ok (.aload_n 0, 1) := by decide +kernel
theorem dX2_judgeDrawing_26 : decode cX2_judgeDrawing 26 = .ok (.getfield 46, 3) := by decide +kernel
theorem dX2_judgeDrawing_29 : decode cX2_judgeDrawing 29 = .ok (.if_icmp .ge 114, 3) := by decide +kernel
theorem dX2_judgeDrawing_32 : decode cX2_judgeDrawing 32 = .ok (.aload_n 0, 1) := by decide +kernel
theorem dX2_judgeDrawing_33 : decode cX2_judgeDrawing 33 = .ok (.getfield 19, 3) := by decide +kernel
theorem dX2_judgeDrawing_36 : decode cX2_judgeDrawing 36 = .ok (.iload_n 3, 1) := by decide +kernel
theorem dX2_judgeDrawing_37 : decode cX2_judgeDrawing 37 = .ok (.iaload, 1) := by decide +kernel
theorem dX2_judgeDrawing_38 : decode cX2_judgeDrawing 38 = .ok (.istore 4, 2) := by decide +kernel
theorem dX2_judgeDrawing_40 : decode cX2_judgeDrawing 40 = .ok (.aload_n 2, 1) := by decide +kernel
theorem dX2_judgeDrawing_41 : decode cX2_judgeDrawing 41 = .ok (.iload_n 3, 1) := by decide +kernel
theorem dX2_judgeDrawing_42 : decode cX2_judgeDrawing 42 = .ok (.invokevirtual 128, 3) := by decide +kernel
theorem dX2_judgeDrawing_45 : decode cX2_judgeDrawing 45 = .ok (.istore 5, 2) := by decide +kernel
theorem dX2_judgeDrawing_47 : decode cX2_judgeDrawing 47 = .ok (.iload 5, 2) := by decide +kernel
theorem dX2_judgeDrawing_49 : decode cX2_judgeDrawing 49 = .ok (.ifCond .lt 37, 3) := by decide +kernel
theorem dX2_judgeDrawing_52 : decode cX2_judgeDrawing 52 = .ok (.iload 5, 2) := by decide +kernel
theorem dX2_judgeDrawing_54 : decode cX2_judgeDrawing 54 = .ok (.aload_n 0, 1) := by decide +kernel
theorem dX2_judgeDrawing_55 : decode cX2_judgeDrawing 55 = .ok (.getfield 62, 3) := by decide +kernel
theorem dX2_judgeDrawing_58 : decode cX2_judgeDrawing 58 = .ok (.if_icmp .ge 28, 3) := by decide +kernel
theorem dX2_judgeDrawing_61 : decode cX2_judgeDrawing 61 = .ok (.aload_n 0, 1) := by decide +kernel
theorem dX2_judgeDrawing_62 : decode cX2_judgeDrawing 62 = .ok (.getfield 9, 3) := by decide +kernel
theorem dX2_judgeDrawing_65 : decode cX2_judgeDrawing 65 = .ok (.iload 4, 2) := by decide +kernel
theorem dX2_judgeDrawing_67 : decode cX2_judgeDrawing 67 = .ok (.iaload, 1) := by decide +kernel
theorem dX2_judgeDrawing_68 : decode cX2_judgeDrawing 68 = .ok (.aload_n 0, 1) := by decide +kernel
theorem dX2_judgeDrawing_69 : decode cX2_judgeDrawing 69 = .ok (.getfield 13, 3) := by decide +kernel
theorem dX2_judgeDrawing_72 : decode cX2_judgeDrawing 72 = .ok (.iload 4, 2) := by decide +kernel
theorem dX2_judgeDrawing_74 : decode cX2_judgeDrawing 74 = .ok (.iaload, 1) := by decide +kernel
theorem dX2_judgeDrawing_75 : decode cX2_judgeDrawing 75 = .ok (.iconst (-1), 1) := by decide +kernel
theorem dX2_judgeDrawing_76 : decode cX2_judgeDrawing 76 = .ok (.ixor, 1) := by decide +kernel
theorem dX2_judgeDrawing_77 : decode cX2_judgeDrawing 77 = .ok (.iand, 1) := by decide +kernel
theorem dX2_judgeDrawing_78 : decode cX2_judgeDrawing 78 = .ok (.iload 5, 2) := by decide +kernel
theorem dX2_judgeDrawing_80 : decode cX2_judgeDrawing 80 = .ok (.invokestatic 114, 3) := by decide +kernel
theorem dX2_judgeDrawing_83 : decode cX2_judgeDrawing 83 = .ok (.ifCond .ne 5, 3) := by decide +kernel
theorem dX2_judgeDrawing_86 : decode cX2_judgeDrawing 86 = .ok (.iconst 2, 1) := by decide +kernel
theorem dX2_judgeDrawing_87 : decode cX2_judgeDrawing 87 = .ok (.ireturn, 1) := by decide +kernel
theorem dX2_judgeDrawing_88 : decode cX2_judgeDrawing 88 = .ok (.iload_n 3, 1) := by decide +kernel
theorem dX2_judgeDrawing_89 : decode cX2_judgeDrawing 89 = .ok (.aload_n 0, 1) := by decide +kernel
theorem dX2_judgeDrawing_90 : decode cX2_judgeDrawing 90 = .ok (.getfield 16, 3) := by decide +kernel
theorem dX2_judgeDrawing_93 : decode cX2_judgeDrawing 93 = .ok (.iload 4, 2) := by decide +kernel
theorem dX2_judgeDrawing_95 : decode cX2_judgeDrawing 95 = .ok (.iaload, 1) := by decide +kernel
theorem dX2_judgeDrawing_96 : decode cX2_judgeDrawing 96 = .ok (.if_icmp .ne 20, 3) := by decide +kernel
theorem dX2_judgeDrawing_99 : decode cX2_judgeDrawing 99 = .ok (.iload 5, 2) := by decide +kernel
theorem dX2_judgeDrawing_101 : decode cX2_judgeDrawing 101 = .ok (.aload_n 0, 1) := by decide +kernel
theorem dX2_judgeDrawing_102 : decode cX2_judgeDrawing 102 = .ok (.getfield 9, 3) := by decide +kernel
theorem dX2_judgeDrawing_105 : decode cX2_judgeDrawing 105 = .ok (.iload 4, 2) := by decide +kernel
theorem dX2_judgeDrawing_107 : decode cX2_judgeDrawing 107 = .ok (.iaload, 1) := by decide +kernel
theorem dX2_judgeDrawing_108 : decode cX2_judgeDrawing 108 = .ok (.invokestatic 134, 3) := by decide +kernel
theorem dX2_judgeDrawing_111 : decode cX2_judgeDrawing 111 = .ok (.if_icmp .eq 5, 3) := by decide +kernel
theorem dX2_judgeDrawing_114 : decode cX2_judgeDrawing 114 = .ok (.iconst 2, 1) := by decide +kernel
theorem dX2_judgeDrawing_115 : decode cX2_judgeDrawing 115 = .ok (.ireturn, 1) := by decide +kernel
theorem dX2_judgeDrawing_116 : decode cX2_judgeDrawing 116 = .ok (.aload_n 0, 1) := by decide +kernel
theorem dX2_judgeDrawing_117 : decode cX2_judgeDrawing 117 = .ok (.getfield 13, 3) := by decide +kernel
theorem dX2_judgeDrawing_120 : decode cX2_judgeDrawing 120 = .ok (.iload 4, 2) := by decide +kernel
theorem dX2_judgeDrawing_122 : decode cX2_judgeDrawing 122 = .ok (.dup2, 1) := by decide +kernel
theorem dX2_judgeDrawing_123 : decode cX2_judgeDrawing 123 = .ok (.iaload, 1) := by decide +kernel
theorem dX2_judgeDrawing_124 : decode cX2_judgeDrawing 124 = .ok (.iconst 1, 1) := by decide +kernel
theorem dX2_judgeDrawing_125 : decode cX2_judgeDrawing 125 = .ok (.iload 5, 2) := by decide +kernel
theorem dX2_judgeDrawing_127 : decode cX2_judgeDrawing 127 = .ok (.ishl, 1) := by decide +kernel
theorem dX2_judgeDrawing_128 : decode cX2_judgeDrawing 128 = .ok (.ior, 1) := by decide +kernel
theorem dX2_judgeDrawing_129 : decode cX2_judgeDrawing 129 = .ok (.iastore, 1) := by decide +kernel
theorem dX2_judgeDrawing_130 : decode cX2_judgeDrawing 130 = .ok (.aload_n 0, 1) := by decide +kernel
theorem dX2_judgeDrawing_131 : decode cX2_judgeDrawing 131 = .ok (.iload_n 3, 1) := by decide +kernel
theorem dX2_judgeDrawing_132 : decode cX2_judgeDrawing 132 = .ok (.iload 5, 2) := by decide +kernel
theorem dX2_judgeDrawing_134 : decode cX2_judgeDrawing 134 = .ok (.invokevirtual 118, 3) := by decide +kernel
theorem dX2_judgeDrawing_137 : decode cX2_judgeDrawing 137 = .ok (.iinc 3 1, 3) := by decide +kernel
theorem dX2_judgeDrawing_140 : decode cX2_judgeDrawing 140 = .ok (.goto (-116), 3) := by decide +kernel
theorem dX2_judgeDrawing_143 : decode cX2_judgeDrawing 143 = .ok (.aload_n 0, 1) := by decide +kernel
theorem dX2_judgeDrawing_144 : decode cX2_judgeDrawing 144 = .ok (.aload_n 0, 1) := by decide +kernel
theorem dX2_judgeDrawing_145 : decode cX2_judgeDrawing 145 = .ok (.getfield 62, 3) := by decide +kernel
theorem dX2_judgeDrawing_148 : decode cX2_judgeDrawing 148 = .ok (.iconst 1, 1) := by decide +kernel
theorem dX2_judgeDrawing_149 : decode cX2_judgeDrawing 149 = .ok (.isub, 1) := by decide +kernel
theorem dX2_judgeDrawing_150 : decode cX2_judgeDrawing 150 = .ok (.invokevirtual 65, 3) := by decide +kernel
theorem dX2_judgeDrawing_153 : decode cX2_judgeDrawing 153 = .ok (.aload_n 0, 1) := by decide +kernel
theorem dX2_judgeDrawing_154 : decode cX2_judgeDrawing 154 = .ok (.getfield 28, 3) := by decide +kernel
theorem dX2_judgeDrawing_157 : decode cX2_judgeDrawing 157 = .ok (.aload_n 0, 1) := by decide +kernel
theorem dX2_judgeDrawing_158 : decode cX2_judgeDrawing 158 = .ok (.getfield 62, 3) := by decide +kernel
theorem dX2_judgeDrawing_161 : decode cX2_judgeDrawing 161 = .ok (.iconst 1, 1) := by decide +kernel
theorem dX2_judgeDrawing_162 : decode cX2_judgeDrawing 162 = .ok (.isub, 1) := by decide +kernel
theorem dX2_judgeDrawing_163 : decode cX2_judgeDrawing 163 = .ok (.iaload, 1) := by decide +kernel
theorem dX2_judgeDrawing_164 : decode cX2_judgeDrawing 164 = .ok (.if_icmp .ne 7, 3) := by decide +kernel
theorem dX2_judgeDrawing_167 : decode cX2_judgeDrawing 167 = .ok (.iconst 0, 1) := by decide +kernel
theorem dX2_judgeDrawing_168 : decode cX2_judgeDrawing 168 = .ok (.goto 4, 3) := by decide +kernel
theorem dX2_judgeDrawing_171 : decode cX2_judgeDrawing 171 = .ok (.iconst 3, 1) := by decide +kernel
theorem dX2_judgeDrawing_172 : decode cX2_judgeDrawing 172 = .ok (.ireturn, 1) := by decide +kernel
theorem dX2_judgeCore_0 : decode cX2_judgeCore 0 = .ok (.aload_n 1, 1) := by decide +kernel
theorem dX2_judgeCore_1 : decode cX2_judgeCore 1 = .ok (.getfield 76, 3) := by decide +kernel
theorem dX2_judgeCore_4 : decode cX2_judgeCore 4 = .ok (.aload_n 1, 1) := by decide +kernel
theorem dX2_judgeCore_5 : decode cX2_judgeCore 5 = .ok (.getfield 79, 3) := by decide +kernel
theorem dX2_judgeCore_8 : decode cX2_judgeCore 8 = .ok (.invokestatic 82, 3) := by decide +kernel
theorem dX2_judgeCore_11 : decode cX2_judgeCore 11 = .ok (.istore_n 3, 1) := by decide +kernel
theorem dX2_judgeCore_12 : decode cX2_judgeCore 12 = .ok (.aload_n 2, 1) := by decide +kernel
theorem dX2_judgeCore_13 : decode cX2_judgeCore 13 = .ok (.iconst 0, 1) := by decide +kernel
theorem dX2_judgeCore_14 : decode cX2_judgeCore 14 = .ok (.invokevirtual 128, 3) := by decide +kernel
theorem dX2_judgeCore_17 : decode cX2_judgeCore 17 = .ok (.istore 4, 2) := by decide +kernel
theorem dX2_judgeCore_19 : decode cX2_judgeCore 19 = .ok (.aload_n 2, 1) := by decide +kernel
theorem dX2_judgeCore_20 : decode cX2_judgeCore 20 = .ok (.getfield 131, 3) := by decide +kernel
theorem dX2_judgeCore_23 : decode cX2_judgeCore 23 = .ok (.ifCond .eq 35, 3) := by decide +kernel
theorem dX2_judgeCore_26 : decode cX2_judgeCore 26 = .ok (.iload 4, 2) := by decide +kernel
theorem dX2_judgeCore_28 : decode cX2_judgeCore 28 = .ok (.iconst 5, 1) := by decide +kernel
theorem dX2_judgeCore_29 : decode cX2_judgeCore 29 = .ok (.if_icmp .eq 9, 3) := by decide +kernel
theorem dX2_judgeCore_32 : decode cX2_judgeCore 32 = .ok (.iload 4, 2) := by decide +kernel
theorem dX2_judgeCore_34 : decode cX2_judgeCore 34 = .ok (.iconst 3, 1) := by decide +kernel
theorem dX2_judgeCore_35 : decode cX2_judgeCore 35 = .ok (.if_icmp .ne 23, 3) := by decide +kernel
theorem dX2_judgeCore_38 : decode cX2_judgeCore 38 = .ok (.aload_n 2, 1) := by decide +kernel
theorem dX2_judgeCore_39 : decode cX2_judgeCore 39 = .ok (.iconst 1, 1) := by decide +kernel
theorem dX2_judgeCore_40 : decode cX2_judgeCore 40 = .ok (.iconst 0, 1) := by decide +kernel
theorem dX2_judgeCore_41 : decode cX2_judgeCore 41 = .ok (.iload_n 3, 1) := by decide +kernel
theorem dX2_judgeCore_42 : decode cX2_judgeCore 42 = .ok (.iconst 1, 1) := by decide +kernel
theorem dX2_judgeCore_43 : decode cX2_judgeCore 43 = .ok (.isub, 1) := by decide +kernel
theorem dX2_judgeCore_44 : decode cX2_judgeCore 44 = .ok (.invokevirtual 137, 3) := by decide +kernel
theorem dX2_judgeCore_47 : decode cX2_judgeCore 47 = .ok (.ifCond .eq 11, 3) := by decide +kernel
theorem dX2_judgeCore_50 : decode cX2_judgeCore 50 = .ok (.aload_n 2, 1) := by decide +kernel
theorem dX2_judgeCore_51 : decode cX2_judgeCore 51 = .ok (.iconst 1, 1) := by decide +kernel
theorem dX2_judgeCore_52 : decode cX2_judgeCore 52 = .ok (.invokevirtual 141, 3) := by decide +kernel
theorem dX2_judgeCore_55 : decode cX2_judgeCore 55 = .ok (.ifCond .ne 5, 3) := by decide +kernel
theorem dX2_judgeCore_58 : decode cX2_judgeCore 58 = .ok (.iconst 1, 1) := by decide +kernel
theorem dX2_judgeCore_59 : decode cX2_judgeCore 59 = .ok (.ireturn, 1) := by decide +kernel
theorem dX2_judgeCore_60 : decode cX2_judgeCore 60 = .ok (.iconst 0, 1) := by decide +kernel
theorem dX2_judgeCore_61 : decode cX2_judgeCore 61 = .ok (.istore 5, 2) := by decide +kernel
theorem dX2_judgeCore_63 : decode cX2_judgeCore 63 = .ok (.iconst 1, 1) := by decide +kernel
theorem dX2_judgeCore_64 : decode cX2_judgeCore 64 = .ok (.istore 6, 2) := by decide +kernel
theorem dX2_judgeCore_66 : decode cX2_judgeCore 66 = .ok (.iload 6, 2) := by decide +kernel
theorem dX2_judgeCore_68 : decode cX2_judgeCore 68 = .ok (.aload_n 2, 1) := by decide +kernel
theorem dX2_judgeCore_69 : decode cX2_judgeCore 69 = .ok (.getfield 131, 3) := by decide +kernel
theorem dX2_judgeCore_72 : decode cX2_judgeCore 72 = .ok (.if_icmp .ge 22, 3) := by decide +kernel
theorem dX2_judgeCore_75 : decode cX2_judgeCore 75 = .ok (.iload 5, 2) := by decide +kernel
theorem dX2_judgeCore_77 : decode cX2_judgeCore 77 = .ok (.iconst 1, 1) := by decide +kernel
theorem dX2_judgeCore_78 : decode cX2_judgeCore 78 = .ok (.aload_n 2, 1) := by decide +kernel
theorem dX2_judgeCore_79 : decode cX2_judgeCore 79 = .ok (.iload 6, 2) := by decide +kernel
theorem dX2_judgeCore_81 : decode cX2_judgeCore 81 = .ok (.invokevirtual 128, 3) := by decide +kernel
theorem dX2_judgeCore_84 : decode cX2_judgeCore 84 = .ok (.ishl, 1) := by decide +kernel
theorem dX2_judgeCore_85 : decode cX2_judgeCore 85 = .ok (.ior, 1) := by decide +kernel
theorem dX2_judgeCore_86 : decode cX2_judgeCore 86 = .ok (.istore 5, 2) := by decide +kernel
theorem dX2_judgeCore_88 : decode cX2_judgeCore 88 = .ok (.iinc 6 1, 3) := by decide +kernel
theorem dX2_judgeCore_91 : decode cX2_judgeCore 91 = .ok (.goto (-25), 3) := by decide +kernel
theorem dX2_judgeCore_94 : decode cX2_judgeCore 94 = .ok (.aload_n 0, 1) := by decide +kernel
theorem dX2_judgeCore_95 : decode cX2_judgeCore 95 = .ok (.aload_n 1, 1) := by decide +kernel
theorem dX2_judgeCore_96 : decode cX2_judgeCore 96 = .ok (.iload 5, 2) := by decide +kernel
theorem dX2_judgeCore_98 : decode cX2_judgeCore 98 = .ok (.invokevirtual 38, 3) := by decide +kernel
theorem dX2_judgeCore_101 : decode cX2_judgeCore 101 = .ok (.aload_n 0, 1) := by decide +kernel
theorem dX2_judgeCore_102 : decode cX2_judgeCore 102 = .ok (.iconst 0, 1) := by decide +kernel
theorem dX2_judgeCore_103 : decode cX2_judgeCore 103 = .ok (.invokevirtual 125, 3) := by decide +kernel
theorem dX2_judgeCore_106 : decode cX2_judgeCore 106 = .ok (.aload_n 0, 1) := by decide +kernel
theorem dX2_judgeCore_107 : decode cX2_judgeCore 107 = .ok (.iconst 1, 1) := by decide +kernel
theorem dX2_judgeCore_108 : decode cX2_judgeCore 108 = .ok (.invokevirtual 125, 3) := by decide +kernel
theorem dX2_judgeCore_111 : decode cX2_judgeCore 111 = .ok (.if_icmp .eq 5, 3) := by decide +kernel
theorem dX2_judgeCore_114 : decode cX2_judgeCore 114 = .ok (.iconst 2, 1) := by decide +kernel
theorem dX2_judgeCore_115 : decode cX2_judgeCore 115 = .ok (.ireturn, 1) := by decide +kernel
theorem dX2_judgeCore_116 : decode cX2_judgeCore 116 = .ok (.aload_n 0, 1) := by decide +kernel
theorem dX2_judgeCore_117 : decode cX2_judgeCore 117 = .ok (.iload 4, 2) := by decide +kernel
theorem dX2_judgeCore_119 : decode cX2_judgeCore 119 = .ok (.invokevirtual 144, 3) := by decide +kernel
theorem dX2_judgeCore_122 : decode cX2_judgeCore 122 = .ok (.ifCond .ne 5, 3) := by decide +kernel
theorem dX2_judgeCore_125 : decode cX2_judgeCore 125 = .ok (.iconst 3, 1) := by decide +kernel
theorem dX2_judgeCore_126 : decode cX2_judgeCore 126 = .ok (.ireturn, 1) := by decide +kernel
theorem dX2_judgeCore_127 : decode cX2_judgeCore 127 = .ok (.aload_n 0, 1) := by decide +kernel
theorem dX2_judgeCore_128 : decode cX2_judgeCore 128 = .ok (.iload 4, 2) := by decide +kernel
theorem dX2_judgeCore_130 : decode cX2_judgeCore 130 = .ok (.invokevirtual 147, 3) := by decide +kernel
theorem dX2_judgeCore_133 : decode cX2_judgeCore 133 = .ok (.ifCond .eq 7, 3) := by decide +kernel
theorem dX2_judgeCore_136 : decode cX2_judgeCore 136 = .ok (.iconst 0, 1) := by decide +kernel
theorem dX2_judgeCore_137 : decode cX2_judgeCore 137 = .ok (.goto 4, 3) := by decide +kernel
theorem dX2_judgeCore_140 : decode cX2_judgeCore 140 = .ok (.iconst 4, 1) := by decide +kernel
theorem dX2_judgeCore_141 : decode cX2_judgeCore 141 = .ok (.ireturn, 1) := by decide +kernel
theorem dX2_areBranchesOf_0 : decode cX2_areBranchesOf 0 = .ok (.iload_n 1, 1) := by decide +kernel
theorem dX2_areBranchesOf_1 : decode cX2_areBranchesOf 1 = .ok (.iconst 5, 1) := by decide +kernel
theorem dX2_areBranchesOf_2 : decode cX2_areBranchesOf 2 = .ok (.if_icmp .ne 7, 3) := by decide +kernel
theorem dX2_areBranchesOf_5 : decode cX2_areBranchesOf 5 = .ok (.iconst 4, 1) := by decide +kernel
theorem dX2_areBranchesOf_6 : decode cX2_areBranchesOf 6 = .ok (.goto 4, 3) := by decide +kernel
theorem dX2_areBranchesOf_9 : decode cX2_areBranchesOf 9 = .ok (.iconst 3, 1) := by decide +kernel
theorem dX2_areBranchesOf_10 : decode cX2_areBranchesOf 10 = .ok (.istore_n 2, 1) := by decide +kernel
theorem dX2_areBranchesOf_11 : decode cX2_areBranchesOf 11 = .ok (.iconst 0, 1) := by decide +kernel
theorem dX2_areBranchesOf_12 : decode cX2_areBranchesOf 12 = .ok (.istore_n 3, 1) := by decide +kernel
theorem dX2_areBranchesOf_13 : decode cX2_areBranchesOf 13 = .ok (.iload_n 3, 1) := by decide +kernel
theorem dX2_areBranchesOf_14 : decode cX2_areBranchesOf 14 = .ok (.aload_n 0, 1) := by decide +kernel
theorem dX2_areBranchesOf_15 : decode cX2_areBranchesOf 15 = .ok (.getfield 62, 3) := by decide +kernel
theorem dX2_areBranchesOf_18 : decode cX2_areBranchesOf 18 = .ok (.if_icmp .ge 34, 3) := by decide +kernel
theorem dX2_areBranchesOf_21 : decode cX2_areBranchesOf 21 = .ok (.aload_n 0, 1) := by decide +kernel
theorem dX2_areBranchesOf_22 : decode cX2_areBranchesOf 22 = .ok (.getfield 9, 3) := by decide +kernel
theorem dX2_areBranchesOf_25 : decode cX2_areBranchesOf 25 = .ok (.iload_n 3, 1) := by decide +kernel
theorem dX2_areBranchesOf_26 : decode cX2_areBranchesOf 26 = .ok (.iaload, 1) := by decide +kernel
theorem dX2_areBranchesOf_27 : decode cX2_areBranchesOf 27 = .ok (.invokestatic 100, 3) := by decide +kernel
theorem dX2_areBranchesOf_30 : decode cX2_areBranchesOf 30 = .ok (.istore 4, 2) := by decide +kernel
theorem dX2_areBranchesOf_32 : decode cX2_areBranchesOf 32 = .ok (.iload 4, 2) := by decide +kernel
theorem dX2_areBranchesOf_34 : decode cX2_areBranchesOf 34 = .ok (.iconst 2, 1) := by decide +kernel
theorem dX2_areBranchesOf_35 : decode cX2_areBranchesOf 35 = .ok (.if_icmp .le 11, 3) := by decide +kernel
theorem dX2_areBranchesOf_38 : decode cX2_areBranchesOf 38 = .ok (.iload 4, 2) := by decide +kernel
theorem dX2_areBranchesOf_40 : decode cX2_areBranchesOf 40 = .ok (.iload_n 2, 1) := by decide +kernel
theorem dX2_areBranchesOf_41 : decode cX2_areBranchesOf 41 = .ok (.if_icmp .eq 5, 3) := by decide +kernel
theorem dX2_areBranchesOf_44 : decode cX2_areBranchesOf 44 = .ok (.iconst 0, 1) := by decide +kernel
theorem dX2_areBranchesOf_45 : decode cX2_areBranchesOf 45 = .ok (.ireturn, 1) := by decide +kernel
theorem dX2_areBranchesOf_46 : decode cX2_areBranchesOf 46 = .ok (.iinc 3 1, 3) := by decide +kernel
theorem dX2_areBranchesOf_49 : decode cX2_areBranchesOf 49 = .ok (.goto (-36), 3) := by decide +kernel
theorem dX2_areBranchesOf_52 : decode cX2_areBranchesOf 52 = .ok (.aload_n 0, 1) := by decide +kernel
theorem dX2_areBranchesOf_53 : decode cX2_areBranchesOf 53 = .ok (.iconst 2, 1) := by decide +kernel
theorem dX2_areBranchesOf_54 : decode cX2_areBranchesOf 54 = .ok (.invokevirtual 125, 3) := by decide +kernel
theorem dX2_areBranchesOf_57 : decode cX2_areBranchesOf 57 = .ok (.iload_n 1, 1) := by decide +kernel
theorem dX2_areBranchesOf_58 : decode cX2_areBranchesOf 58 = .ok (.iconst 5, 1) := by decide +kernel
theorem dX2_areBranchesOf_59 : decode cX2_areBranchesOf 59 = .ok (.if_icmp .ne 7, 3) := by decide +kernel
theorem dX2_areBranchesOf_62 : decode cX2_areBranchesOf 62 = .ok (.iconst 5, 1) := by decide +kernel
theorem dX2_areBranchesOf_63 : decode cX2_areBranchesOf 63 = .ok (.goto 5, 3) := by decide +kernel
theorem dX2_areBranchesOf_66 : decode cX2_areBranchesOf 66 = .ok (.bipush 6, 2) := by decide +kernel
theorem dX2_areBranchesOf_68 : decode cX2_areBranchesOf 68 = .ok (.if_icmp .ne 7, 3) := by decide +kernel
theorem dX2_areBranchesOf_71 : decode cX2_areBranchesOf 71 = .ok (.iconst 1, 1) := by decide +kernel
theorem dX2_areBranchesOf_72 : decode cX2_areBranchesOf 72 = .ok (.goto 4, 3) := by decide +kernel
theorem dX2_areBranchesOf_75 : decode cX2_areBranchesOf 75 = .ok (.iconst 0, 1) := by decide +kernel
theorem dX2_areBranchesOf_76 : decode cX2_areBranchesOf 76 = .ok (.ireturn, 1) := by decide +kernel
theorem dX2_areWaysOf_0 : decode cX2_areWaysOf 0 = .ok (.iconst 0, 1) := by decide +kernel
theorem dX2_areWaysOf_1 : decode cX2_areWaysOf 1 = .ok (.istore_n 2, 1) := by decide +kernel
theorem dX2_areWaysOf_2 : decode cX2_areWaysOf 2 = .ok (.aload_n 0, 1) := by decide +kernel
theorem dX2_areWaysOf_3 : decode cX2_areWaysOf 3 = .ok (.getfield 31, 3) := by decide +kernel
theorem dX2_areWaysOf_6 : decode cX2_areWaysOf 6 = .ok (.iconst 0, 1) := by decide +kernel
theorem dX2_areWaysOf_7 : decode cX2_areWaysOf 7 = .ok (.invokestatic 92, 3) := by decide +kernel
theorem dX2_areWaysOf_10 : decode cX2_areWaysOf 10 = .ok (.iconst 0, 1) := by decide +kernel
theorem dX2_areWaysOf_11 : decode cX2_areWaysOf 11 = .ok (.istore_n 3, 1) := by decide +kernel
theorem dX2_areWaysOf_12 : decode cX2_areWaysOf 12 = .ok (.iload_n 3, 1) := by decide +kernel
theorem dX2_areWaysOf_13 : decode cX2_areWaysOf 13 = .ok (.aload_n 0, 1) := by decide +kernel
theorem dX2_areWaysOf_14 : decode cX2_areWaysOf 14 = .ok (.getfield 62, 3) := by decide +kernel
theorem dX2_areWaysOf_17 : decode cX2_areWaysOf 17 = .ok (.if_icmp .ge 75, 3) := by decide +kernel
theorem dX2_areWaysOf_20 : decode cX2_areWaysOf 20 = .ok (.iconst 0, 1) := by decide +kernel
theorem dX2_areWaysOf_21 : decode cX2_areWaysOf 21 = .ok (.istore 4, 2) := by decide +kernel
theorem dX2_areWaysOf_23 : decode cX2_areWaysOf 23 = .ok (.iload 4, 2) := by decide +kernel
theorem dX2_areWaysOf_25 : decode cX2_areWaysOf 25 = .ok (.aload_n 0, 1) := by decide +kernel
theorem dX2_areWaysOf_26 : decode cX2_areWaysOf 26 = .ok (.getfield 62, 3) := by decide +kernel
theorem dX2_areWaysOf_29 : decode cX2_areWaysOf 29 = .ok (.if_icmp .ge 57, 3) := by decide +kernel
theorem dX2_areWaysOf_32 : decode cX2_areWaysOf 32 = .ok (.aload_n 0, 1) := by decide +kernel
theorem dX2_areWaysOf_33 : decode cX2_areWaysOf 33 = .ok (.getfield 9, 3) := by decide +kernel
theorem dX2_areWaysOf_36 : decode cX2_areWaysOf 36 = .ok (.iload_n 3, 1) := by decide +kernel
theorem dX2_areWaysOf_37 : decode cX2_areWaysOf 37 = .ok (.iaload, 1) := by decide +kernel
theorem dX2_areWaysOf_38 : decode cX2_areWaysOf 38 = .ok (.invokestatic 100, 3) := by decide +kernel
theorem dX2_areWaysOf_41 : decode cX2_areWaysOf 41 = .ok (.iconst 2, 1) := by decide +kernel
theorem dX2_areWaysOf_42 : decode cX2_areWaysOf 42 = .ok (.if_icmp .le 38, 3) := by decide +kernel
theorem dX2_areWaysOf_45 : decode cX2_areWaysOf 45 = .ok (.aload_n 0, 1) := by decide +kernel
theorem dX2_areWaysOf_46 : decode cX2_areWaysOf 46 = .ok (.getfield 9, 3) := by decide +kernel
theorem dX2_areWaysOf_49 : decode cX2_areWaysOf 49 = .ok (.iload_n 3, 1) := by decide +kernel
theorem dX2_areWaysOf_50 : decode cX2_areWaysOf 50 = .ok (.iaload, 1) := by decide +kernel
theorem dX2_areWaysOf_51 : decode cX2_areWaysOf 51 = .ok (.iload 4, 2) := by decide +kernel
theorem dX2_areWaysOf_53 : decode cX2_areWaysOf 53 = .ok (.invokestatic 114, 3) := by decide +kernel
theorem dX2_areWaysOf_56 : decode cX2_areWaysOf 56 = .ok (.ifCond .eq 24, 3) := by decide +kernel
theorem dX2_areWaysOf_59 : decode cX2_areWaysOf 59 = .ok (.aload_n 0, 1) := by decide +kernel
theorem dX2_areWaysOf_60 : decode cX2_areWaysOf 60 = .ok (.iload_n 3, 1) := by decide +kernel
theorem dX2_areWaysOf_61 : decode cX2_areWaysOf 61 = .ok (.iload 4, 2) := by decide +kernel
theorem dX2_areWaysOf_63 : decode cX2_areWaysOf 63 = .ok (.invokevirtual 150, 3) := by decide +kernel
theorem dX2_areWaysOf_66 : decode cX2_areWaysOf 66 = .ok (.istore 5, 2) := by decide +kernel
theorem dX2_areWaysOf_68 : decode cX2_areWaysOf 68 = .ok (.iload 5, 2) := by decide +kernel
theorem dX2_areWaysOf_70 : decode cX2_areWaysOf 70 = .ok (.ifCond .ne 5, 3) := by decide +kernel
theorem dX2_areWaysOf_73 : decode cX2_areWaysOf 73 = .ok (.iconst 0, 1) := by decide +kernel
theorem dX2_areWaysOf_74 : decode cX2_areWaysOf 74 = .ok (.ireturn, 1) := by decide +kernel
theorem dX2_areWaysOf_75 : decode cX2_areWaysOf 75 = .ok (.iload_n 2, 1) := by decide +kernel
theorem dX2_areWaysOf_76 : decode cX2_areWaysOf 76 = .ok (.iload 5, 2) := by decide +kernel
theorem dX2_areWaysOf_78 : decode cX2_areWaysOf 78 = .ok (.iadd, 1) := by decide +kernel
theorem dX2_areWaysOf_79 : decode cX2_areWaysOf 79 = .ok (.istore_n 2, 1) := by decide +kernel
theorem dX2_areWaysOf_80 : decode cX2_areWaysOf 80 = .ok (.iinc 4 1, 3) := by decide +kernel
theorem dX2_areWaysOf_83 : decode cX2_areWaysOf 83 = .ok (.goto (-60), 3) := by decide +kernel
theorem dX2_areWaysOf_86 : decode cX2_areWaysOf 86 = .ok (.iinc 3 1, 3) := by decide +kernel
theorem dX2_areWaysOf_89 : decode cX2_areWaysOf 89 = .ok (.goto (-77), 3) := by decide +kernel
theorem dX2_areWaysOf_92 : decode cX2_areWaysOf 92 = .ok (.iload_n 2, 1) := by decide +kernel
theorem dX2_areWaysOf_93 : decode cX2_areWaysOf 93 = .ok (.aload_n 0, 1) := by decide +kernel
theorem dX2_areWaysOf_94 : decode cX2_areWaysOf 94 = .ok (.getfield 46, 3) := by decide +kernel
theorem dX2_areWaysOf_97 : decode cX2_areWaysOf 97 = .ok (.if_icmp .ne 19, 3) := by decide +kernel
theorem dX2_areWaysOf_100 : decode cX2_areWaysOf 100 = .ok (.iload_n 1, 1) := by decide +kernel
theorem dX2_areWaysOf_101 : decode cX2_areWaysOf 101 = .ok (.iconst 5, 1) := by decide +kernel
theorem dX2_areWaysOf_102 : decode cX2_areWaysOf 102 = .ok (.if_icmp .eq 10, 3) := by decide +kernel
theorem dX2_areWaysOf_105 : decode cX2_areWaysOf 105 = .ok (.aload_n 0, 1) := by decide +kernel
theorem dX2_areWaysOf_106 : decode cX2_areWaysOf 106 = .ok (.invokevirtual 153, 3) := by decide +kernel
theorem dX2_areWaysOf_109 : decode cX2_areWaysOf 109 = .ok (.ifCond .eq 7, 3) := by decide +kernel
theorem dX2_areWaysOf_112 : decode cX2_areWaysOf 112 = .ok (.iconst 1, 1) := by decide +kernel
theorem dX2_areWaysOf_113 : decode cX2_areWaysOf 113 = .ok (.goto 4, 3) := by decide +kernel
theorem dX2_areWaysOf_116 : decode cX2_areWaysOf 116 = .ok (.iconst 0, 1) := by decide +kernel
theorem dX2_areWaysOf_117 : decode cX2_areWaysOf 117 = .ok (.ireturn, 1) := by decide +kernel
theorem dX2_followWay_0 : decode cX2_followWay 0 = .ok (.iload_n 1, 1) := by decide +kernel
theorem dX2_followWay_1 : decode cX2_followWay 1 = .ok (.istore_n 3, 1) := by decide +kernel
theorem dX2_followWay_2 : decode cX2_followWay 2 = .ok (.iload_n 2, 1) := by decide +kernel
theorem dX2_followWay_3 : decode cX2_followWay 3 = .ok (.istore 4, 2) := by decide +kernel
theorem dX2_followWay_5 : decode cX2_followWay 5 = .ok (.iconst 1, 1) := by decide +kernel
theorem dX2_followWay_6 : decode cX2_followWay 6 = .ok (.istore 5, 2) := by decide +kernel
theorem dX2_followWay_8 : decode cX2_followWay 8 = .ok (.iload 5, 2) := by decide +kernel
theorem dX2_followWay_10 : decode cX2_followWay 10 = .ok (.bipush 22, 2) := by decide +kernel
theorem dX2_followWay_12 : decode cX2_followWay 12 = .ok (.if_icmp .ge 48, 3) := by decide +kernel
theorem dX2_followWay_15 : decode cX2_followWay 15 = .ok (.aload_n 0, 1) := by decide +kernel
theorem dX2_followWay_16 : decode cX2_followWay 16 = .ok (.getfield 9, 3) := by decide +kernel
theorem dX2_followWay_19 : decode cX2_followWay 19 = .ok (.iload 4, 2) := by decide +kernel
theorem dX2_followWay_21 : decode cX2_followWay 21 = .ok (.iaload, 1) := by decide +kernel
theorem dX2_followWay_22 : decode cX2_followWay 22 = .ok (.invokestatic 100, 3) := by decide +kernel
theorem dX2_followWay_25 : decode cX2_followWay 25 = .ok (.iconst 2, 1) := by decide +kernel
theorem dX2_followWay_26 : decode cX2_followWay 26 = .ok (.if_icmp .ne 34, 3) := by decide +kernel
theorem dX2_followWay_29 : decode cX2_followWay 29 = .ok (.aload_n 0, 1) := by decide +kernel
theorem dX2_followWay_30 : decode cX2_followWay 30 = .ok (.getfield 9, 3) := by decide +kernel
theorem dX2_followWay_33 : decode cX2_followWay 33 = .ok (.iload 4, 2) := by decide +kernel
theorem dX2_followWay_35 : decode cX2_followWay 35 = .ok (.iaload, 1) := by decide +kernel
theorem dX2_followWay_36 : decode cX2_followWay 36 = .ok (.iconst 1, 1) := by decide +kernel
theorem dX2_followWay_37 : decode cX2_followWay 37 = .ok (.iload_n 3, 1) := by decide +kernel
theorem dX2_followWay_38 : decode cX2_followWay 38 = .ok (.ishl, 1) := by decide +kernel
theorem dX2_followWay_39 : decode cX2_followWay 39 = .ok (.iconst (-1), 1) := by decide +kernel
theorem dX2_followWay_40 : decode cX2_followWay 40 = .ok (.ixor, 1) := by decide +kernel
theorem dX2_followWay_41 : decode cX2_followWay 41 = .ok (.iand, 1) := by decide +kernel
theorem dX2_followWay_42 : decode cX2_followWay 42 = .ok (.invokestatic 134, 3) := by decide +kernel
theorem dX2_followWay_45 : decode cX2_followWay 45 = .ok (.istore 6, 2) := by decide +kernel
theorem dX2_followWay_47 : decode cX2_followWay 47 = .ok (.iload 4, 2) := by decide +kernel
theorem dX2_followWay_49 : decode cX2_followWay 49 = .ok (.istore_n 3, 1) := by decide +kernel
theorem dX2_followWay_50 : decode cX2_followWay 50 = .ok (.iload 6, 2) := by decide +kernel
theorem dX2_followWay_52 : decode cX2_followWay 52 = .ok (.istore 4, 2) := by decide +kernel
theorem dX2_followWay_54 : decode cX2_followWay 54 = .ok (.iinc 5 1, 3) := by decide +kernel
theorem dX2_followWay_57 : decode cX2_followWay 57 = .ok (.goto (-49), 3) := by decide +kernel
theorem dX2_followWay_60 : decode cX2_followWay 60 = .ok (.iload 4, 2) := by decide +kernel
theorem dX2_followWay_62 : decode cX2_followWay 62 = .ok (.iload_n 1, 1) := by decide +kernel
theorem dX2_followWay_63 : decode cX2_followWay 63 = .ok (.if_icmp .eq 17, 3) := by decide +kernel
theorem dX2_followWay_66 : decode cX2_followWay 66 = .ok (.aload_n 0, 1) := by decide +kernel
theorem dX2_followWay_67 : decode cX2_followWay 67 = .ok (.getfield 31, 3) := by decide +kernel
theorem dX2_followWay_70 : decode cX2_followWay 70 = .ok (.iload_n 1, 1) := by decide +kernel
theorem dX2_followWay_71 : decode cX2_followWay 71 = .ok (.iaload, 1) := by decide +kernel
theorem dX2_followWay_72 : decode cX2_followWay 72 = .ok (.iload 4, 2) := by decide +kernel
theorem dX2_followWay_74 : decode cX2_followWay 74 = .ok (.invokestatic 114, 3) := by decide +kernel
theorem dX2_followWay_77 : decode cX2_followWay 77 = .ok (.ifCond .eq 5, 3) := by decide +kernel
theorem dX2_followWay_80 : decode cX2_followWay 80 = .ok (.iconst 0, 1) := by decide +kernel
theorem dX2_followWay_81 : decode cX2_followWay 81 = .ok (.ireturn, 1) := by decide +kernel
theorem dX2_followWay_82 : decode cX2_followWay 82 = .ok (.aload_n 0, 1) := by decide +kernel
theorem dX2_followWay_83 : decode cX2_followWay 83 = .ok (.getfield 31, 3) := by decide +kernel
theorem dX2_followWay_86 : decode cX2_followWay 86 = .ok (.iload_n 1, 1) := by decide +kernel
theorem dX2_followWay_87 : decode cX2_followWay 87 = .ok (.dup2, 1) := by decide +kernel
theorem dX2_followWay_88 : decode cX2_followWay 88 = .ok (.iaload, 1) := by decide +kernel
theorem dX2_followWay_89 : decode cX2_followWay 89 = .ok (.iconst 1, 1) := by decide +kernel
theorem dX2_followWay_90 : decode cX2_followWay 90 = .ok (.iload 4, 2) := by decide +kernel
theorem dX2_followWay_92 : decode cX2_followWay 92 = .ok (.ishl, 1) := by decide +kernel
theorem dX2_followWay_93 : decode cX2_followWay 93 = .ok (.ior, 1) := by decide +kernel
theorem dX2_followWay_94 : decode cX2_followWay 94 = .ok (.iastore, 1) := by decide +kernel
theorem dX2_followWay_95 : decode cX2_followWay 95 = .ok (.iload 5, 2) := by decide +kernel
theorem dX2_followWay_97 : decode cX2_followWay 97 = .ok (.ireturn, 1) := by decide +kernel
theorem dX2_areTwoHalves_0 : decode cX2_areTwoHalves 0 = .ok (.iconst 0, 1) := by decide +kernel
theorem dX2_areTwoHalves_1 : decode cX2_areTwoHalves 1 = .ok (.istore_n 1, 1) := by decide +kernel
theorem dX2_areTwoHalves_2 : decode cX2_areTwoHalves 2 = .ok (.iconst 0, 1) := by decide +kernel
theorem dX2_areTwoHalves_3 : decode cX2_areTwoHalves 3 = .ok (.istore_n 2, 1) := by decide +kernel
theorem dX2_areTwoHalves_4 : decode cX2_areTwoHalves 4 = .ok (.iconst 0, 1) := by decide +kernel
theorem dX2_areTwoHalves_5 : decode cX2_areTwoHalves 5 = .ok (.istore_n 3, 1) := by decide +kernel
theorem dX2_areTwoHalves_6 : decode cX2_areTwoHalves 6 = .ok (.iload_n 3, 1) := by decide +kernel
theorem dX2_areTwoHalves_7 : decode cX2_areTwoHalves 7 = .ok (.aload_n 0, 1) := by decide +kernel
theorem dX2_areTwoHalves_8 : decode cX2_areTwoHalves 8 = .ok (.getfield 62, 3) := by decide +kernel
theorem dX2_areTwoHalves_11 : decode cX2_areTwoHalves 11 = .ok (.if_icmp .ge 31, 3) := by decide +kernel
theorem dX2_areTwoHalves_14 : decode cX2_areTwoHalves 14 = .ok (.aload_n 0, 1) := by decide +kernel
theorem dX2_areTwoHalves_15 : decode cX2_areTwoHalves 15 = .ok (.getfield 31, 3) := by decide +kernel
theorem dX2_areTwoHalves_18 : decode cX2_areTwoHalves 18 = .ok (.iload_n 3, 1) := by decide +kernel
theorem dX2_areTwoHalves_19 : decode cX2_areTwoHalves 19 = .ok (.iaload, 1) := by decide +kernel
theorem dX2_areTwoHalves_20 : decode cX2_areTwoHalves 20 = .ok (.ifCond .eq 16, 3) := by decide +kernel
theorem dX2_areTwoHalves_23 : decode cX2_areTwoHalves 23 = .ok (.iload_n 2, 1) := by decide +kernel
theorem dX2_areTwoHalves_24 : decode cX2_areTwoHalves 24 = .ok (.iconst 1, 1) := by decide +kernel
theorem dX2_areTwoHalves_25 : decode cX2_areTwoHalves 25 = .ok (.iload_n 3, 1) := by decide +kernel
theorem dX2_areTwoHalves_26 : decode cX2_areTwoHalves 26 = .ok (.ishl, 1) := by decide +kernel
theorem dX2_areTwoHalves_27 : decode cX2_areTwoHalves 27 = .ok (.ior, 1) := by decide +kernel
theorem dX2_areTwoHalves_28 : decode cX2_areTwoHalves 28 = .ok (.istore_n 2, 1) := by decide +kernel
theorem dX2_areTwoHalves_29 : decode cX2_areTwoHalves 29 = .ok (.aload_n 0, 1) := by decide +kernel
theorem dX2_areTwoHalves_30 : decode cX2_areTwoHalves 30 = .ok (.getfield 31, 3) := by decide +kernel
theorem dX2_areTwoHalves_33 : decode cX2_areTwoHalves 33 = .ok (.iload_n 3, 1) := by decide +kernel
theorem dX2_areTwoHalves_34 : decode cX2_areTwoHalves 34 = .ok (.iaload, 1) := by decide +kernel
theorem dX2_areTwoHalves_35 : decode cX2_areTwoHalves 35 = .ok (.istore_n 1, 1) := by decide +kernel
theorem dX2_areTwoHalves_36 : decode cX2_areTwoHalves 36 = .ok (.iinc 3 1, 3) := by decide +kernel
theorem dX2_areTwoHalves_39 : decode cX2_areTwoHalves 39 = .ok (.goto (-33), 3) := by decide +kernel
theorem dX2_areTwoHalves_42 : decode cX2_areTwoHalves 42 = .ok (.iconst 0, 1) := by decide +kernel
theorem dX2_areTwoHalves_43 : decode cX2_areTwoHalves 43 = .ok (.istore_n 3, 1) := by decide +kernel
theorem dX2_areTwoHalves_44 : decode cX2_areTwoHalves 44 = .ok (.iload_n 3, 1) := by decide +kernel
theorem dX2_areTwoHalves_45 : decode cX2_areTwoHalves 45 = .ok (.aload_n 0, 1) := by decide +kernel
theorem dX2_areTwoHalves_46 : decode cX2_areTwoHalves 46 = .ok (.getfield 62, 3) := by decide +kernel
theorem dX2_areTwoHalves_49 : decode cX2_areTwoHalves 49 = .ok (.if_icmp .ge 42, 3) := by decide +kernel
theorem dX2_areTwoHalves_52 : decode cX2_areTwoHalves 52 = .ok (.iload_n 1, 1) := by decide +kernel
theorem dX2_areTwoHalves_53 : decode cX2_areTwoHalves 53 = .ok (.iload_n 3, 1) := by decide +kernel
theorem dX2_areTwoHalves_54 : decode cX2_areTwoHalves 54 = .ok (.invokestatic 114, 3) := by decide +kernel
theorem dX2_areTwoHalves_57 : decode cX2_areTwoHalves 57 = .ok (.ifCond .eq 7, 3) := by decide +kernel
theorem dX2_areTwoHalves_60 : decode cX2_areTwoHalves 60 = .ok (.iload_n 1, 1) := by decide +kernel
theorem dX2_areTwoHalves_61 : decode cX2_areTwoHalves 61 = .ok (.goto 8, 3) := by decide +kernel
theorem dX2_areTwoHalves_64 : decode cX2_areTwoHalves 64 = .ok (.iload_n 2, 1) := by decide +kernel
theorem dX2_areTwoHalves_65 : decode cX2_areTwoHalves 65 = .ok (.iload_n 1, 1) := by decide +kernel
theorem dX2_areTwoHalves_66 : decode cX2_areTwoHalves 66 = .ok (.iconst (-1), 1) := by decide +kernel
theorem dX2_areTwoHalves_67 : decode cX2_areTwoHalves 67 = .ok (.ixor, 1) := by decide +kernel
theorem dX2_areTwoHalves_68 : decode cX2_areTwoHalves 68 = .ok (.iand, 1) := by decide +kernel
theorem dX2_areTwoHalves_69 : decode cX2_areTwoHalves 69 = .ok (.istore 4, 2) := by decide +kernel
theorem dX2_areTwoHalves_71 : decode cX2_areTwoHalves 71 = .ok (.aload_n 0, 1) := by decide +kernel
theorem dX2_areTwoHalves_72 : decode cX2_areTwoHalves 72 = .ok (.getfield 31, 3) := by decide +kernel
theorem dX2_areTwoHalves_75 : decode cX2_areTwoHalves 75 = .ok (.iload_n 3, 1) := by decide +kernel
theorem dX2_areTwoHalves_76 : decode cX2_areTwoHalves 76 = .ok (.iaload, 1) := by decide +kernel
theorem dX2_areTwoHalves_77 : decode cX2_areTwoHalves 77 = .ok (.iload 4, 2) := by decide +kernel
theorem dX2_areTwoHalves_79 : decode cX2_areTwoHalves 79 = .ok (.iand, 1) := by decide +kernel
theorem dX2_areTwoHalves_80 : decode cX2_areTwoHalves 80 = .ok (.ifCond .eq 5, 3) := by decide +kernel
theorem dX2_areTwoHalves_83 : decode cX2_areTwoHalves 83 = .ok (.iconst 0, 1) := by decide +kernel
theorem dX2_areTwoHalves_84 : decode cX2_areTwoHalves 84 = .ok (.ireturn, 1) := by decide +kernel
theorem dX2_areTwoHalves_85 : decode cX2_areTwoHalves 85 = .ok (.iinc 3 1, 3) := by decide +kernel
theorem dX2_areTwoHalves_88 : decode cX2_areTwoHalves 88 = .ok (.goto (-44), 3) := by decide +kernel
theorem dX2_areTwoHalves_91 : decode cX2_areTwoHalves 91 = .ok (.iload_n 1, 1) := by decide +kernel
theorem dX2_areTwoHalves_92 : decode cX2_areTwoHalves 92 = .ok (.invokestatic 100, 3) := by decide +kernel
theorem dX2_areTwoHalves_95 : decode cX2_areTwoHalves 95 = .ok (.iconst 3, 1) := by decide +kernel
theorem dX2_areTwoHalves_96 : decode cX2_areTwoHalves 96 = .ok (.if_icmp .ne 7, 3) := by decide +kernel
theorem dX2_areTwoHalves_99 : decode cX2_areTwoHalves 99 = .ok (.iconst 1, 1) := by decide +kernel
theorem dX2_areTwoHalves_100 : decode cX2_areTwoHalves 100 = .ok (.goto 4, 3) := by decide +kernel
theorem dX2_areTwoHalves_103 : decode cX2_areTwoHalves 103 = .ok (.iconst 0, 1) := by decide +kernel
theorem dX2_areTwoHalves_104 : decode cX2_areTwoHalves 104 = .ok (.ireturn, 1) := by decide +kernel
