theorem dX5_init_0 : decode cX5_init 0 = .ok (.aload_n 0, 1) := by decide +kernel
theorem dX5_init_1 : decode cX5_init 1 = .ok (.invokespecial 3, 3) := by decide +kernel
theorem dX5_init_4 : decode cX5_init 4 = .ok (.aload_n 0, 1) := by decide +kernel
theorem dX5_init_5 : decode cX5_init 5 = .ok (.bipush 14, 2) := by decide +kernel
theorem dX5_init_7 : decode cX5_init 7 = .ok (.bipush 18, 2) := by decide +kernel
theorem dX5_init_9 : decode cX5_init 9 = .ok (.multianewarray 11 2, 4) := by decide +kernel
theorem dX5_init_13 : decode cX5_init 13 = .ok (.putfield 13, 3) := by decide +kernel
theorem dX5_init_16 : decode cX5_init 16 = .ok (.aload_n 0, 1) := by decide +kernel
theorem dX5_init_17 : decode cX5_init 17 = .ok (.bipush 14, 2) := by decide +kernel
theorem dX5_init_19 : decode cX5_init 19 = .ok (.newarray .int, 2) := by decide +kernel
theorem dX5_init_21 : decode cX5_init 21 = .ok (.putfield 16, 3) := by decide +kernel
theorem dX5_init_24 : decode cX5_init 24 = .ok (.aload_n 0, 1) := by decide +kernel
theorem dX5_init_25 : decode cX5_init 25 = .ok (.bipush 18, 2) := by decide +kernel
theorem dX5_init_27 : decode cX5_init 27 = .ok (.newarray .int, 2) := by decide +kernel
theorem dX5_init_29 : decode cX5_init 29 = .ok (.putfield 20, 3) := by decide +kernel
theorem dX5_init_32 : decode cX5_init 32 = .ok (.return_, 1) := by decide +kernel
theorem dX5_solve_0 : decode cX5_solve 0 = .ok (.aload_n 1, 1) := by decide +kernel
theorem dX5_solve_1 : decode cX5_solve 1 = .ok (.getfield 23, 3) := by decide +kernel
theorem dX5_solve_4 : decode cX5_solve 4 = .ok (.iconst 1, 1) := by decide +kernel
theorem dX5_solve_5 : decode cX5_solve 5 = .ok (.iadd, 1) := by decide +kernel
theorem dX5_solve_6 : decode cX5_solve 6 = .ok (.istore_n 2, 1) := by decide +kernel
theorem dX5_solve_7 : decode cX5_solve 7 = .ok (.aload_n 0, 1) := by decide +kernel
theorem dX5_solve_8 : decode cX5_solve 8 = .ok (.aload_n 1, 1) := by decide +kernel
theorem dX5_solve_9 : decode cX5_solve 9 = .ok (.invokevirtual 29, 3) := by decide +kernel
theorem dX5_solve_12 : decode cX5_solve 12 = .ok (.aload_n 0, 1) := by decide +kernel
theorem dX5_solve_13 : decode cX5_solve 13 = .ok (.invokevirtual 33, 3) := by decide +kernel
theorem dX5_solve_16 : decode cX5_solve 16 = .ok (.ifCond .eq 80, 3) := by decide +kernel
theorem dX5_solve_19 : decode cX5_solve 19 = .ok (.aload_n 1, 1) := by decide +kernel
theorem dX5_solve_20 : decode cX5_solve 20 = .ok (.getfield 37, 3) := by decide +kernel
theorem dX5_solve_23 : decode cX5_solve 23 = .ok (.aload_n 1, 1) := by decide +kernel
theorem dX5_solve_24 : decode cX5_solve 24 = .ok (.getfield 23, 3) := by decide +kernel
theorem dX5_solve_27 : decode cX5_solve 27 = .ok (.iadd, 1) := by decide +kernel
theorem dX5_solve_28 : decode cX5_solve 28 = .ok (.istore_n 3, 1) := by decide +kernel
theorem dX5_solve_29 : decode cX5_solve 29 = .ok (.aload_n 0, 1) := by decide +kernel
theorem dX5_solve_30 : decode cX5_solve 30 = .ok (.iload_n 3, 1) := by decide +kernel
theorem dX5_solve_31 : decode cX5_solve 31 = .ok (.invokevirtual 40, 3) := by decide +kernel
theorem dX5_solve_34 : decode cX5_solve 34 = .ok (.aload_n 1, 1) := by decide +kernel
theorem dX5_solve_35 : decode cX5_solve 35 = .ok (.getfield 44, 3) := by decide +kernel
theorem dX5_solve_38 : decode cX5_solve 38 = .ok (.i2l, 1) := by decide +kernel
theorem dX5_solve_39 : decode cX5_solve 39 = .ok (.aload_n 0, 1) := by decide +kernel
theorem dX5_solve_40 : decode cX5_solve 40 = .ok (.getfield 47, 3) := by decide +kernel
theorem dX5_solve_43 : decode cX5_solve 43 = .ok (.lmul, 1) := by decide +kernel
theorem dX5_solve_44 : decode cX5_solve 44 = .ok (.aload_n 0, 1) := by decide +kernel
theorem dX5_solve_45 : decode cX5_solve 45 = .ok (.iload_n 3, 1) := by decide +kernel
theorem dX5_solve_46 : decode cX5_solve 46 = .ok (.invokevirtual 51, 3) := by decide +kernel
theorem dX5_solve_49 : decode cX5_solve 49 = .ok (.lsub, 1) := by decide +kernel
theorem dX5_solve_50 : decode cX5_solve 50 = .ok (.lstore 4, 2) := by decide +kernel
theorem dX5_solve_52 : decode cX5_solve 52 = .ok (.aload_n 1, 1) := by decide +kernel
theorem dX5_solve_53 : decode cX5_solve 53 = .ok (.iconst 1, 1) := by decide +kernel
theorem dX5_solve_54 : decode cX5_solve 54 = .ok (.lload 4, 2) := by decide +kernel
theorem dX5_solve_56 : decode cX5_solve 56 = .ok (.lconst 1, 1) := by decide +kernel
theorem dX5_solve_57 : decode cX5_solve 57 = .ok (.aload_n 0, 1) := by decide +kernel
theorem dX5_solve_58 : decode cX5_solve 58 = .ok (.getfield 47, 3) := by decide +kernel
theorem dX5_solve_61 : decode cX5_solve 61 = .ok (.invokestatic 55, 3) := by decide +kernel
theorem dX5_solve_64 : decode cX5_solve 64 = .ok (.invokestatic 61, 3) := by decide +kernel
theorem dX5_solve_67 : decode cX5_solve 67 = .ok (.l2i, 1) := by decide +kernel
theorem dX5_solve_68 : decode cX5_solve 68 = .ok (.invokevirtual 64, 3) := by decide +kernel
theorem dX5_solve_71 : decode cX5_solve 71 = .ok (.aload_n 0, 1) := by decide +kernel
theorem dX5_solve_72 : decode cX5_solve 72 = .ok (.aload_n 1, 1) := by decide +kernel
theorem dX5_solve_73 : decode cX5_solve 73 = .ok (.invokevirtual 29, 3) := by decide +kernel
theorem dX5_solve_76 : decode cX5_solve 76 = .ok (.aload_n 0, 1) := by decide +kernel
theorem dX5_solve_77 : decode cX5_solve 77 = .ok (.invokevirtual 33, 3) := by decide +kernel
theorem dX5_solve_80 : decode cX5_solve 80 = .ok (.pop, 1) := by decide +kernel
theorem dX5_solve_81 : decode cX5_solve 81 = .ok (.aload_n 0, 1) := by decide +kernel
theorem dX5_solve_82 : decode cX5_solve 82 = .ok (.aload_n 1, 1) := by decide +kernel
theorem dX5_solve_83 : decode cX5_solve 83 = .ok (.getfield 37, 3) := by decide +kernel
theorem dX5_solve_86 : decode cX5_solve 86 = .ok (.aload_n 1, 1) := by decide +kernel
theorem dX5_solve_87 : decode cX5_solve 87 = .ok (.getfield 68, 3) := by decide +kernel
theorem dX5_solve_90 : decode cX5_solve 90 = .ok (.invokevirtual 72, 3) := by decide +kernel
theorem dX5_solve_93 : decode cX5_solve 93 = .ok (.goto 28, 3) := by decide +kernel
theorem dX5_solve_96 : decode cX5_solve 96 = .ok (.aload_n 0, 1) := by decide +kernel
theorem dX5_solve_97 : decode cX5_solve 97 = .ok (.aload_n 1, 1) := by decide +kernel
theorem dX5_solve_98 : decode cX5_solve 98 = .ok (.invokevirtual 76, 3) := by decide +kernel
theorem dX5_solve_101 : decode cX5_solve 101 = .ok (.aload_n 0, 1) := by decide +kernel
theorem dX5_solve_102 : decode cX5_solve 102 = .ok (.invokevirtual 33, 3) := by decide +kernel
theorem dX5_solve_105 : decode cX5_solve 105 = .ok (.pop, 1) := by decide +kernel
theorem dX5_solve_106 : decode cX5_solve 106 = .ok (.aload_n 0, 1) := by decide +kernel
theorem dX5_solve_107 : decode cX5_solve 107 = .ok (.iload_n 2, 1) := by decide +kernel
theorem dX5_solve_108 : decode cX5_solve 108 = .ok (.aload_n 1, 1) := by decide +kernel
theorem dX5_solve_109 : decode cX5_solve 109 = .ok (.getfield 68, 3) := by decide +kernel
theorem dX5_solve_112 : decode cX5_solve 112 = .ok (.invokevirtual 72, 3) := by decide +kernel
theorem dX5_solve_115 : decode cX5_solve 115 = .ok (.aload_n 1, 1) := by decide +kernel
theorem dX5_solve_116 : decode cX5_solve 116 = .ok (.iconst 0, 1) := by decide +kernel
theorem dX5_solve_117 : decode cX5_solve 117 = .ok (.iconst 0, 1) := by decide +kernel
theorem dX5_solve_118 : decode cX5_solve 118 = .ok (.invokevirtual 64, 3) := by decide +kernel
theorem dX5_solve_121 : decode cX5_solve 121 = .ok (.return_, 1) := by decide +kernel
theorem dX5_times_0 : decode cX5_times 0 = .ok (.iload_n 1, 1) := by decide +kernel
theorem dX5_times_1 : decode cX5_times 1 = .ok (.aload_n 0, 1) := by decide +kernel
theorem dX5_times_2 : decode cX5_times 2 = .ok (.getfield 23, 3) := by decide +kernel
theorem dX5_times_5 : decode cX5_times 5 = .ok (.if_icmp .ge 12, 3) := by decide +kernel
theorem dX5_times_8 : decode cX5_times 8 = .ok (.aload_n 0, 1) := by decide +kernel
theorem dX5_times_9 : decode cX5_times 9 = .ok (.iload_n 1, 1) := by decide +kernel
theorem dX5_times_10 : decode cX5_times 10 = .ok (.iload_n 2, 1) := by decide +kernel
theorem dX5_times_11 : decode cX5_times 11 = .ok (.invokevirtual 79, 3) := by decide +kernel
theorem dX5_times_14 : decode cX5_times 14 = .ok (.goto 4, 3) := by decide +kernel
theorem dX5_times_17 : decode cX5_times 17 = .ok (.iconst 1, 1) := by decide +kernel
theorem dX5_times_18 : decode cX5_times 18 = .ok (.ireturn, 1) := by decide +kernel
theorem dX5_limitOf_0 : decode cX5_limitOf 0 = .ok (.iload_n 1, 1) := by decide +kernel
theorem dX5_limitOf_1 : decode cX5_limitOf 1 = .ok (.aload_n 0, 1) := by decide +kernel
theorem dX5_limitOf_2 : decode cX5_limitOf 2 = .ok (.getfield 23, 3) := by decide +kernel
theorem dX5_limitOf_5 : decode cX5_limitOf 5 = .ok (.if_icmp .ge 12, 3) := by decide +kernel
theorem dX5_limitOf_8 : decode cX5_limitOf 8 = .ok (.aload_n 0, 1) := by decide +kernel
theorem dX5_limitOf_9 : decode cX5_limitOf 9 = .ok (.iload_n 1, 1) := by decide +kernel
theorem dX5_limitOf_10 : decode cX5_limitOf 10 = .ok (.iconst 4, 1) := by decide +kernel
theorem dX5_limitOf_11 : decode cX5_limitOf 11 = .ok (.invokevirtual 79, 3) := by decide +kernel
theorem dX5_limitOf_14 : decode cX5_limitOf 14 = .ok (.goto 7, 3) := by decide +kernel
theorem dX5_limitOf_17 : decode cX5_limitOf 17 = .ok (.aload_n 0, 1) := by decide +kernel
theorem dX5_limitOf_18 : decode cX5_limitOf 18 = .ok (.getfield 44, 3) := by decide +kernel
theorem dX5_limitOf_21 : decode cX5_limitOf 21 = .ok (.ireturn, 1) := by decide +kernel
theorem dX5_loadUnknowns_0 : decode cX5_loadUnknowns 0 = .ok (.aload_n 0, 1) := by decide +kernel
theorem dX5_loadUnknowns_1 : decode cX5_loadUnknowns 1 = .ok (.aload_n 1, 1) := by decide +kernel
theorem dX5_loadUnknowns_2 : decode cX5_loadUnknowns 2 = .ok (.getfield 23, 3) := by decide +kernel
theorem dX5_loadUnknowns_5 : decode cX5_loadUnknowns 5 = .ok (.iconst 1, 1) := by decide +kernel
theorem dX5_loadUnknowns_6 : decode cX5_loadUnknowns 6 = .ok (.iadd, 1) := by decide +kernel
theorem dX5_loadUnknowns_7 : decode cX5_loadUnknowns 7 = .ok (.putfield 83, 3) := by decide +kernel
theorem dX5_loadUnknowns_10 : decode cX5_loadUnknowns 10 = .ok (.aload_n 0, 1) := by decide +kernel
theorem dX5_loadUnknowns_11 : decode cX5_loadUnknowns 11 = .ok (.aload_n 1, 1) := by decide +kernel
theorem dX5_loadUnknowns_12 : decode cX5_loadUnknowns 12 = .ok (.getfield 37, 3) := by decide +kernel
theorem dX5_loadUnknowns_15 : decode cX5_loadUnknowns 15 = .ok (.aload_n 0, 1) := by decide +kernel
theorem dX5_loadUnknowns_16 : decode cX5_loadUnknowns 16 = .ok (.getfield 83, 3) := by decide +kernel
theorem dX5_loadUnknowns_19 : decode cX5_loadUnknowns 19 = .ok (.iadd, 1) := by decide +kernel
theorem dX5_loadUnknowns_20 : decode cX5_loadUnknowns 20 = .ok (.putfield 86, 3) := by decide +kernel
theorem dX5_loadUnknowns_23 : decode cX5_loadUnknowns 23 = .ok (.aload_n 0, 1) := by decide +kernel
theorem dX5_loadUnknowns_24 : decode cX5_loadUnknowns 24 = .ok (.invokevirtual 89, 3) := by decide +kernel
theorem dX5_loadUnknowns_27 : decode cX5_loadUnknowns 27 = .ok (.iconst 0, 1) := by decide +kernel
theorem dX5_loadUnknowns_28 : decode cX5_loadUnknowns 28 = .ok (.istore_n 2, 1) := by decide +kernel
theorem dX5_loadUnknowns_29 : decode cX5_loadUnknowns 29 = .ok (.iload_n 2, 1) := by decide +kernel
theorem dX5_loadUnknowns_30 : decode cX5_loadUnknowns 30 = .ok (.aload_n 0, 1) := by decide +kernel
theorem dX5_loadUnknowns_31 : decode cX5_loadUnknowns 31 = .ok (.getfield 83, 3) := by decide +kernel
theorem dX5_loadUnknowns_34 : decode cX5_loadUnknowns 34 = .ok (.if_icmp .ge 94, 3) := by decide +kernel
theorem dX5_loadUnknowns_37 : decode cX5_loadUnknowns 37 = .ok (.aload_n 1, 1) := by decide +kernel
theorem dX5_loadUnknowns_38 : decode cX5_loadUnknowns 38 = .ok (.iload_n 2, 1) := by decide +kernel
theorem dX5_loadUnknowns_39 : decode cX5_loadUnknowns 39 = .ok (.invokestatic 92, 3) := by decide +kernel
theorem dX5_loadUnknowns_42 : decode cX5_loadUnknowns 42 = .ok (.ifCond .ge 7, 3) := by decide +kernel
theorem dX5_loadUnknowns_45 : decode cX5_loadUnknowns 45 = .ok (.iconst (-1), 1) := by decide +kernel
theorem dX5_loadUnknowns_46 : decode cX5_loadUnknowns 46 = .ok (.goto 4, 3) := by decide +kernel
theorem dX5_loadUnknowns_49 : decode cX5_loadUnknowns 49 = .ok (.iconst 1, 1) := by decide +kernel
theorem dX5_loadUnknowns_50 : decode cX5_loadUnknowns 50 = .ok (.istore_n 3, 1) := by decide +kernel
theorem dX5_loadUnknowns_51 : decode cX5_loadUnknowns 51 = .ok (.iconst 0, 1) := by decide +kernel
theorem dX5_loadUnknowns_52 : decode cX5_loadUnknowns 52 = .ok (.istore 4, 2) := by decide +kernel
theorem dX5_loadUnknowns_54 : decode cX5_loadUnknowns 54 = .ok (.iload 4, 2) := by decide +kernel
theorem dX5_loadUnknowns_56 : decode cX5_loadUnknowns 56 = .ok (.aload_n 1, 1) := by decide +kernel
theorem dX5_loadUnknowns_57 : decode cX5_loadUnknowns 57 = .ok (.getfield 37, 3) := by decide +kernel
theorem dX5_loadUnknowns_60 : decode cX5_loadUnknowns 60 = .ok (.if_icmp .ge 28, 3) := by decide +kernel
theorem dX5_loadUnknowns_63 : decode cX5_loadUnknowns 63 = .ok (.aload_n 0, 1) := by decide +kernel
theorem dX5_loadUnknowns_64 : decode cX5_loadUnknowns 64 = .ok (.getfield 13, 3) := by decide +kernel
theorem dX5_loadUnknowns_67 : decode cX5_loadUnknowns 67 = .ok (.iload_n 2, 1) := by decide +kernel
theorem dX5_loadUnknowns_68 : decode cX5_loadUnknowns 68 = .ok (.aaload, 1) := by decide +kernel
theorem dX5_loadUnknowns_69 : decode cX5_loadUnknowns 69 = .ok (.iload 4, 2) := by decide +kernel
theorem dX5_loadUnknowns_71 : decode cX5_loadUnknowns 71 = .ok (.iload_n 3, 1) := by decide +kernel
theorem dX5_loadUnknowns_72 : decode cX5_loadUnknowns 72 = .ok (.aload_n 1, 1) := by decide +kernel
theorem dX5_loadUnknowns_73 : decode cX5_loadUnknowns 73 = .ok (.iload_n 2, 1) := by decide +kernel
theorem dX5_loadUnknowns_74 : decode cX5_loadUnknowns 74 = .ok (.iload 4, 2) := by decide +kernel
theorem dX5_loadUnknowns_76 : decode cX5_loadUnknowns 76 = .ok (.invokestatic 96, 3) := by decide +kernel
theorem dX5_loadUnknowns_79 : decode cX5_loadUnknowns 79 = .ok (.imul, 1) := by decide +kernel
theorem dX5_loadUnknowns_80 : decode cX5_loadUnknowns 80 = .ok (.i2l, 1) := by decide +kernel
theorem dX5_loadUnknowns_81 : decode cX5_loadUnknowns 81 = .ok (.lastore, 1) := by decide +kernel
theorem dX5_loadUnknowns_82 : decode cX5_loadUnknowns 82 = .ok (.iinc 4 1, 3) := by decide +kernel
theorem dX5_loadUnknowns_85 : decode cX5_loadUnknowns 85 = .ok (.goto (-31), 3) := by decide +kernel
theorem dX5_loadUnknowns_88 : decode cX5_loadUnknowns 88 = .ok (.aload_n 0, 1) := by decide +kernel
theorem dX5_loadUnknowns_89 : decode cX5_loadUnknowns 89 = .ok (.getfield 13, 3) := by decide +kernel
theorem dX5_loadUnknowns_92 : decode cX5_loadUnknowns 92 = .ok (.iload_n 2, 1) := by decide +kernel
theorem dX5_loadUnknowns_93 : decode cX5_loadUnknowns 93 = .ok (.aaload, 1) := by decide +kernel
theorem dX5_loadUnknowns_94 : decode cX5_loadUnknowns 94 = .ok (.aload_n 1, 1) := by decide +kernel
theorem dX5_loadUnknowns_95 : decode cX5_loadUnknowns 95 = .ok (.getfield 37, 3) := by decide +kernel
theorem dX5_loadUnknowns_98 : decode cX5_loadUnknowns 98 = .ok (.iload_n 2, 1) := by decide +kernel
theorem dX5_loadUnknowns_99 : decode cX5_loadUnknowns 99 = .ok (.iadd, 1) := by decide +kernel
theorem dX5_loadUnknowns_100 : decode cX5_loadUnknowns 100 = .ok (.iload_n 3, 1) := by decide +kernel
theorem dX5_loadUnknowns_101 : decode cX5_loadUnknowns 101 = .ok (.i2l, 1) := by decide +kernel
theorem dX5_loadUnknowns_102 : decode cX5_loadUnknowns 102 = .ok (.lastore, 1) := by decide +kernel
theorem dX5_loadUnknowns_103 : decode cX5_loadUnknowns 103 = .ok (.aload_n 0, 1) := by decide +kernel
theorem dX5_loadUnknowns_104 : decode cX5_loadUnknowns 104 = .ok (.getfield 13, 3) := by decide +kernel
theorem dX5_loadUnknowns_107 : decode cX5_loadUnknowns 107 = .ok (.iload_n 2, 1) := by decide +kernel
theorem dX5_loadUnknowns_108 : decode cX5_loadUnknowns 108 = .ok (.aaload, 1) := by decide +kernel
theorem dX5_loadUnknowns_109 : decode cX5_loadUnknowns 109 = .ok (.aload_n 0, 1) := by decide +kernel
theorem dX5_loadUnknowns_110 : decode cX5_loadUnknowns 110 = .ok (.getfield 86, 3) := by decide +kernel
theorem dX5_loadUnknowns_113 : decode cX5_loadUnknowns 113 = .ok (.iload_n 3, 1) := by decide +kernel
theorem dX5_loadUnknowns_114 : decode cX5_loadUnknowns 114 = .ok (.aload_n 1, 1) := by decide +kernel
theorem dX5_loadUnknowns_115 : decode cX5_loadUnknowns 115 = .ok (.iload_n 2, 1) := by decide +kernel
theorem dX5_loadUnknowns_116 : decode cX5_loadUnknowns 116 = .ok (.invokestatic 92, 3) := by decide +kernel
theorem dX5_loadUnknowns_119 : decode cX5_loadUnknowns 119 = .ok (.imul, 1) := by decide +kernel
theorem dX5_loadUnknowns_120 : decode cX5_loadUnknowns 120 = .ok (.i2l, 1) := by decide +kernel
theorem dX5_loadUnknowns_121 : decode cX5_loadUnknowns 121 = .ok (.lastore, 1) := by decide +kernel
theorem dX5_loadUnknowns_122 : decode cX5_loadUnknowns 122 = .ok (.iinc 2 1, 3) := by decide +kernel
theorem dX5_loadUnknowns_125 : decode cX5_loadUnknowns 125 = .ok (.goto (-96), 3) := by decide +kernel
theorem dX5_loadUnknowns_128 : decode cX5_loadUnknowns 128 = .ok (.aload_n 0, 1) := by decide +kernel
theorem dX5_loadUnknowns_129 : decode cX5_loadUnknowns 129 = .ok (.invokevirtual 100, 3) := by decide +kernel
theorem dX5_loadUnknowns_132 : decode cX5_loadUnknowns 132 = .ok (.return_, 1) := by decide +kernel
theorem dX5_loadWeights_0 : decode cX5_loadWeights 0 = .ok (.aload_n 1, 1) := by decide +kernel
theorem dX5_loadWeights_1 : decode cX5_loadWeights 1 = .ok (.getfield 23, 3) := by decide +kernel
theorem dX5_loadWeights_4 : decode cX5_loadWeights 4 = .ok (.iconst 1, 1) := by decide +kernel
theorem dX5_loadWeights_5 : decode cX5_loadWeights 5 = .ok (.iadd, 1) := by decide +kernel
theorem dX5_loadWeights_6 : decode cX5_loadWeights 6 = .ok (.istore_n 2, 1) := by decide +kernel
theorem dX5_loadWeights_7 : decode cX5_loadWeights 7 = .ok (.aload_n 0, 1) := by decide +kernel
theorem dX5_loadWeights_8 : decode cX5_loadWeights 8 = .ok (.aload_n 1, 1) := by decide +kernel
theorem dX5_loadWeights_9 : decode cX5_loadWeights 9 = .ok (.getfield 37, 3) := by decide +kernel
theorem dX5_loadWeights_12 : decode cX5_loadWeights 12 = .ok (.iconst 1, 1) := by decide +kernel
theorem dX5_loadWeights_13 : decode cX5_loadWeights 13 = .ok (.iadd, 1) := by decide +kernel
theorem dX5_loadWeights_14 : decode cX5_loadWeights 14 = .ok (.putfield 83, 3) := by decide +kernel
theorem dX5_loadWeights_17 : decode cX5_loadWeights 17 = .ok (.aload_n 0, 1) := by decide +kernel
theorem dX5_loadWeights_18 : decode cX5_loadWeights 18 = .ok (.iload_n 2, 1) := by decide +kernel
theorem dX5_loadWeights_19 : decode cX5_loadWeights 19 = .ok (.aload_n 1, 1) := by decide +kernel
theorem dX5_loadWeights_20 : decode cX5_loadWeights 20 = .ok (.getfield 37, 3) := by decide +kernel
theorem dX5_loadWeights_23 : decode cX5_loadWeights 23 = .ok (.iadd, 1) := by decide +kernel
theorem dX5_loadWeights_24 : decode cX5_loadWeights 24 = .ok (.putfield 86, 3) := by decide +kernel
theorem dX5_loadWeights_27 : decode cX5_loadWeights 27 = .ok (.aload_n 0, 1) := by decide +kernel
theorem dX5_loadWeights_28 : decode cX5_loadWeights 28 = .ok (.invokevirtual 89, 3) := by decide +kernel
theorem dX5_loadWeights_31 : decode cX5_loadWeights 31 = .ok (.iconst 0, 1) := by decide +kernel
theorem dX5_loadWeights_32 : decode cX5_loadWeights 32 = .ok (.istore_n 3, 1) := by decide +kernel
theorem dX5_loadWeights_33 : decode cX5_loadWeights 33 = .ok (.iload_n 3, 1) := by decide +kernel
theorem dX5_loadWeights_34 : decode cX5_loadWeights 34 = .ok (.iload_n 2, 1) := by decide +kernel
theorem dX5_loadWeights_35 : decode cX5_loadWeights 35 = .ok (.if_icmp .ge 62, 3) := by decide +kernel
theorem dX5_loadWeights_38 : decode cX5_loadWeights 38 = .ok (.iconst 0, 1) := by decide +kernel
theorem dX5_loadWeights_39 : decode cX5_loadWeights 39 = .ok (.istore 4, 2) := by decide +kernel
theorem dX5_loadWeights_41 : decode cX5_loadWeights 41 = .ok (.iload 4, 2) := by decide +kernel
theorem dX5_loadWeights_43 : decode cX5_loadWeights 43 = .ok (.aload_n 1, 1) := by decide +kernel
theorem dX5_loadWeights_44 : decode cX5_loadWeights 44 = .ok (.getfield 37, 3) := by decide +kernel
theorem dX5_loadWeights_47 : decode cX5_loadWeights 47 = .ok (.if_icmp .ge 26, 3) := by decide +kernel
theorem dX5_loadWeights_50 : decode cX5_loadWeights 50 = .ok (.aload_n 0, 1) := by decide +kernel
theorem dX5_loadWeights_51 : decode cX5_loadWeights 51 = .ok (.getfield 13, 3) := by decide +kernel
theorem dX5_loadWeights_54 : decode cX5_loadWeights 54 = .ok (.iload 4, 2) := by decide +kernel
theorem dX5_loadWeights_56 : decode cX5_loadWeights 56 = .ok (.aaload, 1) := by decide +kernel
theorem dX5_loadWeights_57 : decode cX5_loadWeights 57 = .ok (.iload_n 3, 1) := by decide +kernel
theorem dX5_loadWeights_58 : decode cX5_loadWeights 58 = .ok (.aload_n 1, 1) := by decide +kernel
theorem dX5_loadWeights_59 : decode cX5_loadWeights 59 = .ok (.iload_n 3, 1) := by decide +kernel
theorem dX5_loadWeights_60 : decode cX5_loadWeights 60 = .ok (.iload 4, 2) := by decide +kernel
theorem dX5_loadWeights_62 : decode cX5_loadWeights 62 = .ok (.invokestatic 96, 3) := by decide +kernel
theorem dX5_loadWeights_65 : decode cX5_loadWeights 65 = .ok (.i2l, 1) := by decide +kernel
theorem dX5_loadWeights_66 : decode cX5_loadWeights 66 = .ok (.lastore, 1) := by decide +kernel
theorem dX5_loadWeights_67 : decode cX5_loadWeights 67 = .ok (.iinc 4 1, 3) := by decide +kernel
theorem dX5_loadWeights_70 : decode cX5_loadWeights 70 = .ok (.goto (-29), 3) := by decide +kernel
theorem dX5_loadWeights_73 : decode cX5_loadWeights 73 = .ok (.aload_n 0, 1) := by decide +kernel
theorem dX5_loadWeights_74 : decode cX5_loadWeights 74 = .ok (.getfield 13, 3) := by decide +kernel
theorem dX5_loadWeights_77 : decode cX5_loadWeights 77 = .ok (.aload_n 1, 1) := by decide +kernel
theorem dX5_loadWeights_78 : decode cX5_loadWeights 78 = .ok (.getfield 37, 3) := by decide +kernel
theorem dX5_loadWeights_81 : decode cX5_loadWeights 81 = .ok (.aaload, 1) := by decide +kernel
theorem dX5_loadWeights_82 : decode cX5_loadWeights 82 = .ok (.iload_n 3, 1) := by decide +kernel
theorem dX5_loadWeights_83 : decode cX5_loadWeights 83 = .ok (.aload_n 1, 1) := by decide +kernel
theorem dX5_loadWeights_84 : decode cX5_loadWeights 84 = .ok (.iload_n 3, 1) := by decide +kernel
theorem dX5_loadWeights_85 : decode cX5_loadWeights 85 = .ok (.invokestatic 92, 3) := by decide +kernel
theorem dX5_loadWeights_88 : decode cX5_loadWeights 88 = .ok (.ineg, 1) := by decide +kernel
theorem dX5_loadWeights_89 : decode cX5_loadWeights 89 = .ok (.i2l, 1) := by decide +kernel
theorem dX5_loadWeights_90 : decode cX5_loadWeights 90 = .ok (.lastore, 1) := by decide +kernel
theorem dX5_loadWeights_91 : decode cX5_loadWeights 91 = .ok (.iinc 3 1, 3) := by decide +kernel
theorem dX5_loadWeights_94 : decode cX5_loadWeights 94 = .ok (.goto (-61), 3) := by decide +kernel
theorem dX5_loadWeights_97 : decode cX5_loadWeights 97 = .ok (.iconst 0, 1) := by decide +kernel
theorem dX5_loadWeights_98 : decode cX5_loadWeights 98 = .ok (.istore_n 3, 1) := by decide +kernel
theorem dX5_loadWeights_99 : decode cX5_loadWeights 99 = .ok (.iload_n 3, 1) := by decide +kernel
theorem dX5_loadWeights_100 : decode cX5_loadWeights 100 = .ok (.aload_n 1, 1) := by decide +kernel
theorem dX5_loadWeights_101 : decode cX5_loadWeights 101 = .ok (.getfield 37, 3) := by decide +kernel
theorem dX5_loadWeights_104 : decode cX5_loadWeights 104 = .ok (.if_icmp .ge 22, 3) := by decide +kernel
theorem dX5_loadWeights_107 : decode cX5_loadWeights 107 = .ok (.aload_n 0, 1) := by decide +kernel
theorem dX5_loadWeights_108 : decode cX5_loadWeights 108 = .ok (.getfield 13, 3) := by decide +kernel
theorem dX5_loadWeights_111 : decode cX5_loadWeights 111 = .ok (.iload_n 3, 1) := by decide +kernel
theorem dX5_loadWeights_112 : decode cX5_loadWeights 112 = .ok (.aaload, 1) := by decide +kernel
theorem dX5_loadWeights_113 : decode cX5_loadWeights 113 = .ok (.iload_n 2, 1) := by decide +kernel
theorem dX5_loadWeights_114 : decode cX5_loadWeights 114 = .ok (.iload_n 3, 1) := by decide +kernel
theorem dX5_loadWeights_115 : decode cX5_loadWeights 115 = .ok (.iadd, 1) := by decide +kernel
theorem dX5_loadWeights_116 : decode cX5_loadWeights 116 = .ok (.ldc2_w 103, 3) := by decide +kernel
theorem dX5_loadWeights_119 : decode cX5_loadWeights 119 = .ok (.lastore, 1) := by decide +kernel
theorem dX5_loadWeights_120 : decode cX5_loadWeights 120 = .ok (.iinc 3 1, 3) := by decide +kernel
theorem dX5_loadWeights_123 : decode cX5_loadWeights 123 = .ok (.goto (-24), 3) := by decide +kernel
theorem dX5_loadWeights_126 : decode cX5_loadWeights 126 = .ok (.aload_n 0, 1) := by decide +kernel
theorem dX5_loadWeights_127 : decode cX5_loadWeights 127 = .ok (.getfield 13, 3) := by decide +kernel
theorem dX5_loadWeights_130 : decode cX5_loadWeights 130 = .ok (.aload_n 1, 1) := by decide +kernel
theorem dX5_loadWeights_131 : decode cX5_loadWeights 131 = .ok (.getfield 37, 3) := by decide +kernel
theorem dX5_loadWeights_134 : decode cX5_loadWeights 134 = .ok (.aaload, 1) := by decide +kernel
theorem dX5_loadWeights_135 : decode cX5_loadWeights 135 = .ok (.aload_n 0, 1) := by decide +kernel
theorem dX5_loadWeights_136 : decode cX5_loadWeights 136 = .ok (.getfield 86, 3) := by decide +kernel
theorem dX5_loadWeights_139 : decode cX5_loadWeights 139 = .ok (.lconst 1, 1) := by decide +kernel
theorem dX5_loadWeights_140 : decode cX5_loadWeights 140 = .ok (.lastore, 1) := by decide +kernel
theorem dX5_loadWeights_141 : decode cX5_loadWeights 141 = .ok (.aload_n 0, 1) := by decide +kernel
theorem dX5_loadWeights_142 : decode cX5_loadWeights 142 = .ok (.invokevirtual 100, 3) := by decide +kernel
theorem dX5_loadWeights_145 : decode cX5_loadWeights 145 = .ok (.return_, 1) := by decide +kernel
theorem dX5_clearTable_0 : decode cX5_clearTable 0 = .ok (.iconst 0, 1) := by decide +kernel
theorem dX5_clearTable_1 : decode cX5_clearTable 1 = .ok (.istore_n 1, 1) := by decide +kernel
theorem dX5_clearTable_2 : decode cX5_clearTable 2 = .ok (.iload_n 1, 1) := by decide +kernel
theorem dX5_clearTable_3 : decode cX5_clearTable 3 = .ok (.bipush 14, 2) := by decide +kernel
theorem dX5_clearTable_5 : decode cX5_clearTable 5 = .ok (.if_icmp .ge 19, 3) := by decide +kernel
theorem dX5_clearTable_8 : decode cX5_clearTable 8 = .ok (.aload_n 0, 1) := by decide +kernel
theorem dX5_clearTable_9 : decode cX5_clearTable 9 = .ok (.getfield 13, 3) := by decide +kernel
theorem dX5_clearTable_12 : decode cX5_clearTable 12 = .ok (.iload_n 1, 1) := by decide +kernel
theorem dX5_clearTable_13 : decode cX5_clearTable 13 = .ok (.aaload, 1) := by decide +kernel
theorem dX5_clearTable_14 : decode cX5_clearTable 14 = .ok (.lconst 0, 1) := by decide +kernel
theorem dX5_clearTable_15 : decode cX5_clearTable 15 = .ok (.invokestatic 105, 3) := by decide +kernel
theorem dX5_clearTable_18 : decode cX5_clearTable 18 = .ok (.iinc 1 1, 3) := by decide +kernel
theorem dX5_clearTable_21 : decode cX5_clearTable 21 = .ok (.goto (-19), 3) := by decide +kernel
theorem dX5_clearTable_24 : decode cX5_clearTable 24 = .ok (.return_, 1) := by decide +kernel
theorem dX5_begin_0 : decode cX5_begin 0 = .ok (.aload_n 0, 1) := by decide +kernel
theorem dX5_begin_1 : decode cX5_begin 1 = .ok (.lconst 1, 1) := by decide +kernel
theorem dX5_begin_2 : decode cX5_begin 2 = .ok (.putfield 47, 3) := by decide +kernel
theorem dX5_begin_5 : decode cX5_begin 5 = .ok (.aload_n 0, 1) := by decide +kernel
theorem dX5_begin_6 : decode cX5_begin 6 = .ok (.iconst 0, 1) := by decide +kernel
theorem dX5_begin_7 : decode cX5_begin 7 = .ok (.putfield 111, 3) := by decide +kernel
theorem dX5_begin_10 : decode cX5_begin 10 = .ok (.iconst 0, 1) := by decide +kernel
theorem dX5_begin_11 : decode cX5_begin 11 = .ok (.istore_n 1, 1) := by decide +kernel
theorem dX5_begin_12 : decode cX5_begin 12 = .ok (.iload_n 1, 1) := by decide +kernel
theorem dX5_begin_13 : decode cX5_begin 13 = .ok (.aload_n 0, 1) := by decide +kernel
theorem dX5_begin_14 : decode cX5_begin 14 = .ok (.getfield 86, 3) := by decide +kernel
theorem dX5_begin_17 : decode cX5_begin 17 = .ok (.if_icmp .ge 16, 3) := by decide +kernel
theorem dX5_begin_20 : decode cX5_begin 20 = .ok (.aload_n 0, 1) := by decide +kernel
theorem dX5_begin_21 : decode cX5_begin 21 = .ok (.getfield 20, 3) := by decide +kernel
theorem dX5_begin_24 : decode cX5_begin 24 = .ok (.iload_n 1, 1) := by decide +kernel
theorem dX5_begin_25 : decode cX5_begin 25 = .ok (.iload_n 1, 1) := by decide +kernel
theorem dX5_begin_26 : decode cX5_begin 26 = .ok (.iastore, 1) := by decide +kernel
theorem dX5_begin_27 : decode cX5_begin 27 = .ok (.iinc 1 1, 3) := by decide +kernel
theorem dX5_begin_30 : decode cX5_begin 30 = .ok (.goto (-18), 3) := by decide +kernel
theorem dX5_begin_33 : decode cX5_begin 33 = .ok (.iconst 0, 1) := by decide +kernel
theorem dX5_begin_34 : decode cX5_begin 34 = .ok (.istore_n 1, 1) := by decide +kernel
theorem dX5_begin_35 : decode cX5_begin 35 = .ok (.iload_n 1, 1) := by decide +kernel
theorem dX5_begin_36 : decode cX5_begin 36 = .ok (.aload_n 0, 1) := by decide +kernel
theorem dX5_begin_37 : decode cX5_begin 37 = .ok (.getfield 83, 3) := by decide +kernel
theorem dX5_begin_40 : decode cX5_begin 40 = .ok (.if_icmp .ge 59, 3) := by decide +kernel
theorem dX5_begin_43 : decode cX5_begin 43 = .ok (.aload_n 0, 1) := by decide +kernel
theorem dX5_begin_44 : decode cX5_begin 44 = .ok (.getfield 16, 3) := by decide +kernel
theorem dX5_begin_47 : decode cX5_begin 47 = .ok (.iload_n 1, 1) := by decide +kernel
theorem dX5_begin_48 : decode cX5_begin 48 = .ok (.aload_n 0, 1) := by decide +kernel
theorem dX5_begin_49 : decode cX5_begin 49 = .ok (.getfield 86, 3) := by decide +kernel
theorem dX5_begin_52 : decode cX5_begin 52 = .ok (.iload_n 1, 1) := by decide +kernel
theorem dX5_begin_53 : decode cX5_begin 53 = .ok (.iadd, 1) := by decide +kernel
theorem dX5_begin_54 : decode cX5_begin 54 = .ok (.iastore, 1) := by decide +kernel
theorem dX5_begin_55 : decode cX5_begin 55 = .ok (.iconst 0, 1) := by decide +kernel
theorem dX5_begin_56 : decode cX5_begin 56 = .ok (.istore_n 2, 1) := by decide +kernel
theorem dX5_begin_57 : decode cX5_begin 57 = .ok (.iload_n 2, 1) := by decide +kernel
theorem dX5_begin_58 : decode cX5_begin 58 = .ok (.aload_n 0, 1) := by decide +kernel
theorem dX5_begin_59 : decode cX5_begin 59 = .ok (.getfield 86, 3) := by decide +kernel
theorem dX5_begin_62 : decode cX5_begin 62 = .ok (.if_icmp .gt 31, 3) := by decide +kernel
theorem dX5_begin_65 : decode cX5_begin 65 = .ok (.aload_n 0, 1) := by decide +kernel
theorem dX5_begin_66 : decode cX5_begin 66 = .ok (.getfield 13, 3) := by decide +kernel
theorem dX5_begin_69 : decode cX5_begin 69 = .ok (.aload_n 0, 1) := by decide +kernel
theorem dX5_begin_70 : decode cX5_begin 70 = .ok (.getfield 83, 3) := by decide +kernel
theorem dX5_begin_73 : decode cX5_begin 73 = .ok (.aaload, 1) := by decide +kernel
theorem dX5_begin_74 : decode cX5_begin 74 = .ok (.iload_n 2, 1) := by decide +kernel
theorem dX5_begin_75 : decode cX5_begin 75 = .ok (.dup2, 1) := by decide +kernel
theorem dX5_begin_76 : decode cX5_begin 76 = .ok (.laload, 1) := by decide +kernel
theorem dX5_begin_77 : decode cX5_begin 77 = .ok (.aload_n 0, 1) := by decide +kernel
theorem dX5_begin_78 : decode cX5_begin 78 = .ok (.getfield 13, 3) := by decide +kernel
theorem dX5_begin_81 : decode cX5_begin 81 = .ok (.iload_n 1, 1) := by decide +kernel
theorem dX5_begin_82 : decode cX5_begin 82 = .ok (.aaload, 1) := by decide +kernel
theorem dX5_begin_83 : decode cX5_begin 83 = .ok (.iload_n 2, 1) := by decide +kernel
theorem dX5_begin_84 : decode cX5_begin 84 = .ok (.laload, 1) := by decide +kernel
theorem dX5_begin_85 : decode cX5_begin 85 = .ok (.ladd, 1) := by decide +kernel
theorem dX5_begin_86 : decode cX5_begin 86 = .ok (.lastore, 1) := by decide +kernel
theorem dX5_begin_87 : decode cX5_begin 87 = .ok (.iinc 2 1, 3) := by decide +kernel
theorem dX5_begin_90 : decode cX5_begin 90 = .ok (.goto (-33), 3) := by decide +kernel
theorem dX5_begin_93 : decode cX5_begin 93 = .ok (.iinc 1 1, 3) := by decide +kernel
theorem dX5_begin_96 : decode cX5_begin 96 = .ok (.goto (-61), 3) := by decide +kernel
theorem dX5_begin_99 : decode cX5_begin 99 = .ok (.return_, 1) := by decide +kernel
theorem dX5_isFulfilled_0 : decode cX5_isFulfilled 0 = .ok (.iconst 0, 1) := by decide +kernel
theorem dX5_isFulfilled_1 : decode cX5_isFulfilled 1 = .ok (.istore_n 1, 1) := by decide +kernel
theorem dX5_isFulfilled_2 : decode cX5_isFulfilled 2 = .ok (.iload_n 1, 1) := by decide +kernel
theorem dX5_isFulfilled_3 : decode cX5_isFulfilled 3 = .ok (.ldc 114, 2) := by decide +kernel
theorem dX5_isFulfilled_5 : decode cX5_isFulfilled 5 = .ok (.if_icmp .ge 23, 3) := by decide +kernel
theorem dX5_isFulfilled_8 : decode cX5_isFulfilled 8 = .ok (.aload_n 0, 1) := by decide +kernel
theorem dX5_isFulfilled_9 : decode cX5_isFulfilled 9 = .ok (.aload_n 0, 1) := by decide +kernel
theorem dX5_isFulfilled_10 : decode cX5_isFulfilled 10 = .ok (.getfield 83, 3) := by decide +kernel
theorem dX5_isFulfilled_13 : decode cX5_isFulfilled 13 = .ok (.invokevirtual 115, 3) := by decide +kernel
theorem dX5_isFulfilled_16 : decode cX5_isFulfilled 16 = .ok (.ifCond .ne 6, 3) := by decide +kernel
theorem dX5_isFulfilled_19 : decode cX5_isFulfilled 19 = .ok (.goto 9, 3) := by decide +kernel
theorem dX5_isFulfilled_22 : decode cX5_isFulfilled 22 = .ok (.iinc 1 1, 3) := by decide +kernel
theorem dX5_isFulfilled_25 : decode cX5_isFulfilled 25 = .ok (.goto (-23), 3) := by decide +kernel
theorem dX5_isFulfilled_28 : decode cX5_isFulfilled 28 = .ok (.aload_n 0, 1) := by decide +kernel
theorem dX5_isFulfilled_29 : decode cX5_isFulfilled 29 = .ok (.aload_n 0, 1) := by decide +kernel
theorem dX5_isFulfilled_30 : decode cX5_isFulfilled 30 = .ok (.getfield 83, 3) := by decide +kernel
theorem dX5_isFulfilled_33 : decode cX5_isFulfilled 33 = .ok (.invokevirtual 119, 3) := by decide +kernel
theorem dX5_isFulfilled_36 : decode cX5_isFulfilled 36 = .ok (.aload_n 0, 1) := by decide +kernel
theorem dX5_isFulfilled_37 : decode cX5_isFulfilled 37 = .ok (.getfield 13, 3) := by decide +kernel
theorem dX5_isFulfilled_40 : decode cX5_isFulfilled 40 = .ok (.aload_n 0, 1) := by decide +kernel
theorem dX5_isFulfilled_41 : decode cX5_isFulfilled 41 = .ok (.getfield 83, 3) := by decide +kernel
theorem dX5_isFulfilled_44 : decode cX5_isFulfilled 44 = .ok (.aaload, 1) := by decide +kernel
theorem dX5_isFulfilled_45 : decode cX5_isFulfilled 45 = .ok (.aload_n 0, 1) := by decide +kernel
theorem dX5_isFulfilled_46 : decode cX5_isFulfilled 46 = .ok (.getfield 86, 3) := by decide +kernel
theorem dX5_isFulfilled_49 : decode cX5_isFulfilled 49 = .ok (.laload, 1) := by decide +kernel
theorem dX5_isFulfilled_50 : decode cX5_isFulfilled 50 = .ok (.lconst 0, 1) := by decide +kernel
theorem dX5_isFulfilled_51 : decode cX5_isFulfilled 51 = .ok (.lcmp, 1) := by decide +kernel
theorem dX5_isFulfilled_52 : decode cX5_isFulfilled 52 = .ok (.ifCond .ne 7, 3) := by decide +kernel
theorem dX5_isFulfilled_55 : decode cX5_isFulfilled 55 = .ok (.iconst 1, 1) := by decide +kernel
theorem dX5_isFulfilled_56 : decode cX5_isFulfilled 56 = .ok (.goto 4, 3) := by decide +kernel
theorem dX5_isFulfilled_59 : decode cX5_isFulfilled 59 = .ok (.iconst 0, 1) := by decide +kernel
theorem dX5_isFulfilled_60 : decode cX5_isFulfilled 60 = .ok (.ireturn, 1) := by decide +kernel
theorem dX5_minimise_0 : decode cX5_minimise 0 = .ok (.iconst 0, 1) := by decide +kernel
theorem dX5_minimise_1 : decode cX5_minimise 1 = .ok (.istore_n 2, 1) := by decide +kernel
theorem dX5_minimise_2 : decode cX5_minimise 2 = .ok (.iload_n 2, 1) := by decide +kernel
theorem dX5_minimise_3 : decode cX5_minimise 3 = .ok (.ldc 114, 2) := by decide +kernel
theorem dX5_minimise_5 : decode cX5_minimise 5 = .ok (.if_icmp .ge 30, 3) := by decide +kernel
theorem dX5_minimise_8 : decode cX5_minimise 8 = .ok (.aload_n 0, 1) := by decide +kernel
theorem dX5_minimise_9 : decode cX5_minimise 9 = .ok (.iload_n 1, 1) := by decide +kernel
theorem dX5_minimise_10 : decode cX5_minimise 10 = .ok (.invokevirtual 122, 3) := by decide +kernel
theorem dX5_minimise_13 : decode cX5_minimise 13 = .ok (.istore_n 3, 1) := by decide +kernel
theorem dX5_minimise_14 : decode cX5_minimise 14 = .ok (.iload_n 3, 1) := by decide +kernel
theorem dX5_minimise_15 : decode cX5_minimise 15 = .ok (.ifCond .lt 20, 3) := by decide +kernel
theorem dX5_minimise_18 : decode cX5_minimise 18 = .ok (.aload_n 0, 1) := by decide +kernel
theorem dX5_minimise_19 : decode cX5_minimise 19 = .ok (.iload_n 3, 1) := by decide +kernel
theorem dX5_minimise_20 : decode cX5_minimise 20 = .ok (.invokevirtual 115, 3) := by decide +kernel
theorem dX5_minimise_23 : decode cX5_minimise 23 = .ok (.ifCond .ne 6, 3) := by decide +kernel
theorem dX5_minimise_26 : decode cX5_minimise 26 = .ok (.goto 9, 3) := by decide +kernel
theorem dX5_minimise_29 : decode cX5_minimise 29 = .ok (.iinc 2 1, 3) := by decide +kernel
theorem dX5_minimise_32 : decode cX5_minimise 32 = .ok (.goto (-30), 3) := by decide +kernel
theorem dX5_minimise_35 : decode cX5_minimise 35 = .ok (.aload_n 0, 1) := by decide +kernel
theorem dX5_minimise_36 : decode cX5_minimise 36 = .ok (.iload_n 1, 1) := by decide +kernel
theorem dX5_minimise_37 : decode cX5_minimise 37 = .ok (.invokevirtual 122, 3) := by decide +kernel
theorem dX5_minimise_40 : decode cX5_minimise 40 = .ok (.istore_n 2, 1) := by decide +kernel
theorem dX5_minimise_41 : decode cX5_minimise 41 = .ok (.iload_n 2, 1) := by decide +kernel
theorem dX5_minimise_42 : decode cX5_minimise 42 = .ok (.ifCond .ge 18, 3) := by decide +kernel
theorem dX5_minimise_45 : decode cX5_minimise 45 = .ok (.aload_n 0, 1) := by decide +kernel
theorem dX5_minimise_46 : decode cX5_minimise 46 = .ok (.dup, 1) := by decide +kernel
theorem dX5_minimise_47 : decode cX5_minimise 47 = .ok (.getfield 111, 3) := by decide +kernel
theorem dX5_minimise_50 : decode cX5_minimise 50 = .ok (.iconst 1, 1) := by decide +kernel
theorem dX5_minimise_51 : decode cX5_minimise 51 = .ok (.iload_n 1, 1) := by decide +kernel
theorem dX5_minimise_52 : decode cX5_minimise 52 = .ok (.ishl, 1) := by decide +kernel
theorem dX5_minimise_53 : decode cX5_minimise 53 = .ok (.ior, 1) := by decide +kernel
theorem dX5_minimise_54 : decode cX5_minimise 54 = .ok (.putfield 111, 3) := by decide +kernel
theorem dX5_minimise_57 : decode cX5_minimise 57 = .ok (.goto 8, 3) := by decide +kernel
theorem dX5_minimise_60 : decode cX5_minimise 60 = .ok (.aload_n 0, 1) := by decide +kernel
theorem dX5_minimise_61 : decode cX5_minimise 61 = .ok (.iload_n 2, 1) := by decide +kernel
theorem dX5_minimise_62 : decode cX5_minimise 62 = .ok (.invokevirtual 119, 3) := by decide +kernel
theorem dX5_minimise_65 : decode cX5_minimise 65 = .ok (.return_, 1) := by decide +kernel
theorem dX5_lockRising_0 : decode cX5_lockRising 0 = .ok (.iconst 0, 1) := by decide +kernel
theorem dX5_lockRising_1 : decode cX5_lockRising 1 = .ok (.istore_n 2, 1) := by decide +kernel
theorem dX5_lockRising_2 : decode cX5_lockRising 2 = .ok (.iload_n 2, 1) := by decide +kernel
theorem dX5_lockRising_3 : decode cX5_lockRising 3 = .ok (.aload_n 0, 1) := by decide +kernel
theorem dX5_lockRising_4 : decode cX5_lockRising 4 = .ok (.getfield 86, 3) := by decide +kernel
theorem dX5_lockRising_7 : decode cX5_lockRising 7 = .ok (.if_icmp .ge 39, 3) := by decide +kernel
theorem dX5_lockRising_10 : decode cX5_lockRising 10 = .ok (.aload_n 0, 1) := by decide +kernel
theorem dX5_lockRising_11 : decode cX5_lockRising 11 = .ok (.getfield 13, 3) := by decide +kernel
theorem dX5_lockRising_14 : decode cX5_lockRising 14 = .ok (.iload_n 1, 1) := by decide +kernel
theorem dX5_lockRising_15 : decode cX5_lockRising 15 = .ok (.aaload, 1) := by decide +kernel
theorem dX5_lockRising_16 : decode cX5_lockRising 16 = .ok (.iload_n 2, 1) := by decide +kernel
theorem dX5_lockRising_17 : decode cX5_lockRising 17 = .ok (.laload, 1) := by decide +kernel
theorem dX5_lockRising_18 : decode cX5_lockRising 18 = .ok (.lconst 0, 1) := by decide +kernel
theorem dX5_lockRising_19 : decode cX5_lockRising 19 = .ok (.lcmp, 1) := by decide +kernel
theorem dX5_lockRising_20 : decode cX5_lockRising 20 = .ok (.ifCond .ge 20, 3) := by decide +kernel
theorem dX5_lockRising_23 : decode cX5_lockRising 23 = .ok (.aload_n 0, 1) := by decide +kernel
theorem dX5_lockRising_24 : decode cX5_lockRising 24 = .ok (.dup, 1) := by decide +kernel
theorem dX5_lockRising_25 : decode cX5_lockRising 25 = .ok (.getfield 111, 3) := by decide +kernel
theorem dX5_lockRising_28 : decode cX5_lockRising 28 = .ok (.iconst 1, 1) := by decide +kernel
theorem dX5_lockRising_29 : decode cX5_lockRising 29 = .ok (.aload_n 0, 1) := by decide +kernel
theorem dX5_lockRising_30 : decode cX5_lockRising 30 = .ok (.getfield 20, 3) := by decide +kernel
theorem dX5_lockRising_33 : decode cX5_lockRising 33 = .ok (.iload_n 2, 1) := by decide +kernel
theorem dX5_lockRising_34 : decode cX5_lockRising 34 = .ok (.iaload, 1) := by decide +kernel
theorem dX5_lockRising_35 : decode cX5_lockRising 35 = .ok (.ishl, 1) := by decide +kernel
theorem dX5_lockRising_36 : decode cX5_lockRising 36 = .ok (.ior, 1) := by decide +kernel
theorem dX5_lockRising_37 : decode cX5_lockRising 37 = .ok (.putfield 111, 3) := by decide +kernel
theorem dX5_lockRising_40 : decode cX5_lockRising 40 = .ok (.iinc 2 1, 3) := by decide +kernel
theorem dX5_lockRising_43 : decode cX5_lockRising 43 = .ok (.goto (-41), 3) := by decide +kernel
theorem dX5_lockRising_46 : decode cX5_lockRising 46 = .ok (.return_, 1) := by decide +kernel
theorem dX5_improves_0 : decode cX5_improves 0 = .ok (.iconst (-1), 1) := by decide +kernel
theorem dX5_improves_1 : decode cX5_improves 1 = .ok (.istore_n 2, 1) := by decide +kernel
theorem dX5_improves_2 : decode cX5_improves 2 = .ok (.iconst 0, 1) := by decide +kernel
theorem dX5_improves_3 : decode cX5_improves 3 = .ok (.istore_n 3, 1) := by decide +kernel
theorem dX5_improves_4 : decode cX5_improves 4 = .ok (.iload_n 3, 1) := by decide +kernel
theorem dX5_improves_5 : decode cX5_improves 5 = .ok (.aload_n 0, 1) := by decide +kernel
theorem dX5_improves_6 : decode cX5_improves 6 = .ok (.getfield 86, 3) := by decide +kernel
theorem dX5_improves_9 : decode cX5_improves 9 = .ok (.if_icmp .ge 71, 3) := by decide +kernel
theorem dX5_improves_12 : decode cX5_improves 12 = .ok (.iload_n 2, 1) := by decide +kernel
theorem dX5_improves_13 : decode cX5_improves 13 = .ok (.ifCond .lt 18, 3) := by decide +kernel
theorem dX5_improves_16 : decode cX5_improves 16 = .ok (.aload_n 0, 1) := by decide +kernel
theorem dX5_improves_17 : decode cX5_improves 17 = .ok (.getfield 20, 3) := by decide +kernel
theorem dX5_improves_20 : decode cX5_improves 20 = .ok (.iload_n 3, 1) := by decide +kernel
theorem dX5_improves_21 : decode cX5_improves 21 = .ok (.iaload, 1) := by decide +kernel
theorem dX5_improves_22 : decode cX5_improves 22 = .ok (.aload_n 0, 1) := by decide +kernel
theorem dX5_improves_23 : decode cX5_improves 23 = .ok (.getfield 20, 3) := by decide +kernel
theorem dX5_improves_26 : decode cX5_improves 26 = .ok (.iload_n 2, 1) := by decide +kernel
theorem dX5_improves_27 : decode cX5_improves 27 = .ok (.iaload, 1) := by decide +kernel
theorem dX5_improves_28 : decode cX5_improves 28 = .ok (.if_icmp .ge 7, 3) := by decide +kernel
theorem dX5_improves_31 : decode cX5_improves 31 = .ok (.iconst 1, 1) := by decide +kernel
theorem dX5_improves_32 : decode cX5_improves 32 = .ok (.goto 4, 3) := by decide +kernel
theorem dX5_improves_35 : decode cX5_improves 35 = .ok (.iconst 0, 1) := by decide +kernel
theorem dX5_improves_36 : decode cX5_improves 36 = .ok (.istore 4, 2) := by decide +kernel
theorem dX5_improves_38 : decode cX5_improves 38 = .ok (.aload_n 0, 1) := by decide +kernel
theorem dX5_improves_39 : decode cX5_improves 39 = .ok (.getfield 13, 3) := by decide +kernel
theorem dX5_improves_42 : decode cX5_improves 42 = .ok (.iload_n 1, 1) := by decide +kernel
theorem dX5_improves_43 : decode cX5_improves 43 = .ok (.aaload, 1) := by decide +kernel
theorem dX5_improves_44 : decode cX5_improves 44 = .ok (.iload_n 3, 1) := by decide +kernel
theorem dX5_improves_45 : decode cX5_improves 45 = .ok (.laload, 1) := by decide +kernel
theorem dX5_improves_46 : decode cX5_improves 46 = .ok (.lconst 0, 1) := by decide +kernel
theorem dX5_improves_47 : decode cX5_improves 47 = .ok (.lcmp, 1) := by decide +kernel
theorem dX5_improves_48 : decode cX5_improves 48 = .ok (.ifCond .le 26, 3) := by decide +kernel
theorem dX5_improves_51 : decode cX5_improves 51 = .ok (.aload_n 0, 1) := by decide +kernel
theorem dX5_improves_52 : decode cX5_improves 52 = .ok (.getfield 111, 3) := by decide +kernel
theorem dX5_improves_55 : decode cX5_improves 55 = .ok (.aload_n 0, 1) := by decide +kernel
theorem dX5_improves_56 : decode cX5_improves 56 = .ok (.getfield 20, 3) := by decide +kernel
theorem dX5_improves_59 : decode cX5_improves 59 = .ok (.iload_n 3, 1) := by decide +kernel
theorem dX5_improves_60 : decode cX5_improves 60 = .ok (.iaload, 1) := by decide +kernel
theorem dX5_improves_61 : decode cX5_improves 61 = .ok (.ishr, 1) := by decide +kernel
theorem dX5_improves_62 : decode cX5_improves 62 = .ok (.iconst 1, 1) := by decide +kernel
theorem dX5_improves_63 : decode cX5_improves 63 = .ok (.iand, 1) := by decide +kernel
theorem dX5_improves_64 : decode cX5_improves 64 = .ok (.ifCond .ne 10, 3) := by decide +kernel
theorem dX5_improves_67 : decode cX5_improves 67 = .ok (.iload 4, 2) := by decide +kernel
theorem dX5_improves_69 : decode cX5_improves 69 = .ok (.ifCond .eq 5, 3) := by decide +kernel
theorem dX5_improves_72 : decode cX5_improves 72 = .ok (.iload_n 3, 1) := by decide +kernel
theorem dX5_improves_73 : decode cX5_improves 73 = .ok (.istore_n 2, 1) := by decide +kernel
theorem dX5_improves_74 : decode cX5_improves 74 = .ok (.iinc 3 1, 3) := by decide +kernel
theorem dX5_improves_77 : decode cX5_improves 77 = .ok (.goto (-73), 3) := by decide +kernel
theorem dX5_improves_80 : decode cX5_improves 80 = .ok (.iload_n 2, 1) := by decide +kernel
theorem dX5_improves_81 : decode cX5_improves 81 = .ok (.ifCond .ge 5, 3) := by decide +kernel
theorem dX5_improves_84 : decode cX5_improves 84 = .ok (.iconst 0, 1) := by decide +kernel
theorem dX5_improves_85 : decode cX5_improves 85 = .ok (.ireturn, 1) := by decide +kernel
theorem dX5_improves_86 : decode cX5_improves 86 = .ok (.aload_n 0, 1) := by decide +kernel
theorem dX5_improves_87 : decode cX5_improves 87 = .ok (.iload_n 2, 1) := by decide +kernel
theorem dX5_improves_88 : decode cX5_improves 88 = .ok (.invokevirtual 126, 3) := by decide +kernel
theorem dX5_improves_91 : decode cX5_improves 91 = .ok (.istore_n 3, 1) := by decide +kernel
theorem dX5_improves_92 : decode cX5_improves 92 = .ok (.iload_n 3, 1) := by decide +kernel
theorem dX5_improves_93 : decode cX5_improves 93 = .ok (.ifCond .ge 5, 3) := by decide +kernel
theorem dX5_improves_96 : decode cX5_improves 96 = .ok (.iconst 0, 1) := by decide +kernel
theorem dX5_improves_97 : decode cX5_improves 97 = .ok (.ireturn, 1) := by decide +kernel
theorem dX5_improves_98 : decode cX5_improves 98 = .ok (.aload_n 0, 1) := by decide +kernel
theorem dX5_improves_99 : decode cX5_improves 99 = .ok (.iload_n 3, 1) := by decide +kernel
theorem dX5_improves_100 : decode cX5_improves 100 = .ok (.iload_n 2, 1) := by decide +kernel
theorem dX5_improves_101 : decode cX5_improves 101 = .ok (.invokevirtual 129, 3) := by decide +kernel
theorem dX5_improves_104 : decode cX5_improves 104 = .ok (.iconst 1, 1) := by decide +kernel
theorem dX5_improves_105 : decode cX5_improves 105 = .ok (.ireturn, 1) := by decide +kernel
theorem dX5_leavingRow_0 : decode cX5_leavingRow 0 = .ok (.iconst (-1), 1) := by decide +kernel
theorem dX5_leavingRow_1 : decode cX5_leavingRow 1 = .ok (.istore_n 2, 1) := by decide +kernel
theorem dX5_leavingRow_2 : decode cX5_leavingRow 2 = .ok (.iconst 0, 1) := by decide +kernel
theorem dX5_leavingRow_3 : decode cX5_leavingRow 3 = .ok (.istore_n 3, 1) := by decide +kernel
theorem dX5_leavingRow_4 : decode cX5_leavingRow 4 = .ok (.iload_n 3, 1) := by decide +kernel
theorem dX5_leavingRow_5 : decode cX5_leavingRow 5 = .ok (.aload_n 0, 1) := by decide +kernel
theorem dX5_leavingRow_6 : decode cX5_leavingRow 6 = .ok (.getfield 83, 3) := by decide +kernel
theorem dX5_leavingRow_9 : decode cX5_leavingRow 9 = .ok (.if_icmp .ge 113, 3) := by decide +kernel
theorem dX5_leavingRow_12 : decode cX5_leavingRow 12 = .ok (.aload_n 0, 1) := by decide +kernel
theorem dX5_leavingRow_13 : decode cX5_leavingRow 13 = .ok (.getfield 13, 3) := by decide +kernel
theorem dX5_leavingRow_16 : decode cX5_leavingRow 16 = .ok (.iload_n 3, 1) := by decide +kernel
theorem dX5_leavingRow_17 : decode cX5_leavingRow 17 = .ok (.aaload, 1) := by decide +kernel
theorem dX5_leavingRow_18 : decode cX5_leavingRow 18 = .ok (.iload_n 1, 1) := by decide +kernel
theorem dX5_leavingRow_19 : decode cX5_leavingRow 19 = .ok (.laload, 1) := by decide +kernel
theorem dX5_leavingRow_20 : decode cX5_leavingRow 20 = .ok (.lconst 0, 1) := by decide +kernel
theorem dX5_leavingRow_21 : decode cX5_leavingRow 21 = .ok (.lcmp, 1) := by decide +kernel
theorem dX5_leavingRow_22 : decode cX5_leavingRow 22 = .ok (.ifCond .le 94, 3) := by decide +kernel
theorem dX5_leavingRow_25 : decode cX5_leavingRow 25 = .ok (.iload_n 2, 1) := by decide +kernel
theorem dX5_leavingRow_26 : decode cX5_leavingRow 26 = .ok (.iconst 0, 1) := by decide +kernel
theorem dX5_leavingRow_27 : decode cX5_leavingRow 27 = .ok (.invokestatic 133, 3) := by decide +kernel
theorem dX5_leavingRow_30 : decode cX5_leavingRow 30 = .ok (.istore 4, 2) := by decide +kernel
theorem dX5_leavingRow_32 : decode cX5_leavingRow 32 = .ok (.aload_n 0, 1) := by decide +kernel
theorem dX5_leavingRow_33 : decode cX5_leavingRow 33 = .ok (.getfield 13, 3) := by decide +kernel
theorem dX5_leavingRow_36 : decode cX5_leavingRow 36 = .ok (.iload_n 3, 1) := by decide +kernel
theorem dX5_leavingRow_37 : decode cX5_leavingRow 37 = .ok (.aaload, 1) := by decide +kernel
theorem dX5_leavingRow_38 : decode cX5_leavingRow 38 = .ok (.aload_n 0, 1) := by decide +kernel
theorem dX5_leavingRow_39 : decode cX5_leavingRow 39 = .ok (.getfield 86, 3) := by decide +kernel
theorem dX5_leavingRow_42 : decode cX5_leavingRow 42 = .ok (.laload, 1) := by decide +kernel
theorem dX5_leavingRow_43 : decode cX5_leavingRow 43 = .ok (.aload_n 0, 1) := by decide +kernel
theorem dX5_leavingRow_44 : decode cX5_leavingRow 44 = .ok (.getfield 13, 3) := by decide +kernel
theorem dX5_leavingRow_47 : decode cX5_leavingRow 47 = .ok (.iload 4, 2) := by decide +kernel
theorem dX5_leavingRow_49 : decode cX5_leavingRow 49 = .ok (.aaload, 1) := by decide +kernel
theorem dX5_leavingRow_50 : decode cX5_leavingRow 50 = .ok (.iload_n 1, 1) := by decide +kernel
theorem dX5_leavingRow_51 : decode cX5_leavingRow 51 = .ok (.laload, 1) := by decide +kernel
theorem dX5_leavingRow_52 : decode cX5_leavingRow 52 = .ok (.lmul, 1) := by decide +kernel
theorem dX5_leavingRow_53 : decode cX5_leavingRow 53 = .ok (.lstore 5, 2) := by decide +kernel
theorem dX5_leavingRow_55 : decode cX5_leavingRow 55 = .ok (.aload_n 0, 1) := by decide +kernel
theorem dX5_leavingRow_56 : decode cX5_leavingRow 56 = .ok (.getfield 13, 3) := by decide +kernel
theorem dX5_leavingRow_59 : decode cX5_leavingRow 59 = .ok (.iload 4, 2) := by decide +kernel
theorem dX5_leavingRow_61 : decode cX5_leavingRow 61 = .ok (.aaload, 1) := by decide +kernel
theorem dX5_leavingRow_62 : decode cX5_leavingRow 62 = .ok (.aload_n 0, 1) := by decide +kernel
theorem dX5_leavingRow_63 : decode cX5_leavingRow 63 = .ok (.getfield 86, 3) := by decide +kernel
theorem dX5_leavingRow_66 : decode cX5_leavingRow 66 = .ok (.laload, 1) := by decide +kernel
theorem dX5_leavingRow_67 : decode cX5_leavingRow 67 = .ok (.aload_n 0, 1) := by decide +kernel
theorem dX5_leavingRow_68 : decode cX5_leavingRow 68 = .ok (.getfield 13, 3) := by decide +kernel
theorem dX5_leavingRow_71 : decode cX5_leavingRow 71 = .ok (.iload_n 3, 1) := by decide +kernel
theorem dX5_leavingRow_72 : decode cX5_leavingRow 72 = .ok (.aaload, 1) := by decide +kernel
theorem dX5_leavingRow_73 : decode cX5_leavingRow 73 = .ok (.iload_n 1, 1) := by decide +kernel
theorem dX5_leavingRow_74 : decode cX5_leavingRow 74 = .ok (.laload, 1) := by decide +kernel
theorem dX5_leavingRow_75 : decode cX5_leavingRow 75 = .ok (.lmul, 1) := by decide +kernel
theorem dX5_leavingRow_76 : decode cX5_leavingRow 76 = .ok (.lstore 7, 2) := by decide +kernel
theorem dX5_leavingRow_78 : decode cX5_leavingRow 78 = .ok (.iload_n 2, 1) := by decide +kernel
theorem dX5_leavingRow_79 : decode cX5_leavingRow 79 = .ok (.ifCond .lt 35, 3) := by decide +kernel
theorem dX5_leavingRow_82 : decode cX5_leavingRow 82 = .ok (.lload 5, 2) := by decide +kernel
theorem dX5_leavingRow_84 : decode cX5_leavingRow 84 = .ok (.lload 7, 2) := by decide +kernel
theorem dX5_leavingRow_86 : decode cX5_leavingRow 86 = .ok (.lcmp, 1) := by decide +kernel
theorem dX5_leavingRow_87 : decode cX5_leavingRow 87 = .ok (.ifCond .lt 27, 3) := by decide +kernel
theorem dX5_leavingRow_90 : decode cX5_leavingRow 90 = .ok (.lload 5, 2) := by decide +kernel
theorem dX5_leavingRow_92 : decode cX5_leavingRow 92 = .ok (.lload 7, 2) := by decide +kernel
theorem dX5_leavingRow_94 : decode cX5_leavingRow 94 = .ok (.lcmp, 1) := by decide +kernel
theorem dX5_leavingRow_95 : decode cX5_leavingRow 95 = .ok (.ifCond .ne 21, 3) := by decide +kernel
theorem dX5_leavingRow_98 : decode cX5_leavingRow 98 = .ok (.aload_n 0, 1) := by decide +kernel
theorem dX5_leavingRow_99 : decode cX5_leavingRow 99 = .ok (.getfield 16, 3) := by decide +kernel
theorem dX5_leavingRow_102 : decode cX5_leavingRow 102 = .ok (.iload_n 3, 1) := by decide +kernel
theorem dX5_leavingRow_103 : decode cX5_leavingRow 103 = .ok (.iaload, 1) := by decide +kernel
theorem dX5_leavingRow_104 : decode cX5_leavingRow 104 = .ok (.aload_n 0, 1) := by decide +kernel
theorem dX5_leavingRow_105 : decode cX5_leavingRow 105 = .ok (.getfield 16, 3) := by decide +kernel
theorem dX5_leavingRow_108 : decode cX5_leavingRow 108 = .ok (.iload 4, 2) := by decide +kernel
theorem dX5_leavingRow_110 : decode cX5_leavingRow 110 = .ok (.iaload, 1) := by decide +kernel
theorem dX5_leavingRow_111 : decode cX5_leavingRow 111 = .ok (.if_icmp .ge 5, 3) := by decide +kernel
theorem dX5_leavingRow_114 : decode cX5_leavingRow 114 = .ok (.iload_n 3, 1) := by decide +kernel
theorem dX5_leavingRow_115 : decode cX5_leavingRow 115 = .ok (.istore_n 2, 1) := by decide +kernel
theorem dX5_leavingRow_116 : decode cX5_leavingRow 116 = .ok (.iinc 3 1, 3) := by decide +kernel
theorem dX5_leavingRow_119 : decode cX5_leavingRow 119 = .ok (.goto (-115), 3) := by decide +kernel
theorem dX5_leavingRow_122 : decode cX5_leavingRow 122 = .ok (.iload_n 2, 1) := by decide +kernel
theorem dX5_leavingRow_123 : decode cX5_leavingRow 123 = .ok (.ireturn, 1) := by decide +kernel
theorem dX5_exchange_0 : decode cX5_exchange 0 = .ok (.aload_n 0, 1) := by decide +kernel
theorem dX5_exchange_1 : decode cX5_exchange 1 = .ok (.getfield 13, 3) := by decide +kernel
theorem dX5_exchange_4 : decode cX5_exchange 4 = .ok (.iload_n 1, 1) := by decide +kernel
theorem dX5_exchange_5 : decode cX5_exchange 5 = .ok (.aaload, 1) := by decide +kernel
theorem dX5_exchange_6 : decode cX5_exchange 6 = .ok (.iload_n 2, 1) := by decide +kernel
theorem dX5_exchange_7 : decode cX5_exchange 7 = .ok (.laload, 1) := by decide +kernel
theorem dX5_exchange_8 : decode cX5_exchange 8 = .ok (.lstore_n 3, 1) := by decide +kernel
theorem dX5_exchange_9 : decode cX5_exchange 9 = .ok (.lload_n 3, 1) := by decide +kernel
theorem dX5_exchange_10 : decode cX5_exchange 10 = .ok (.lconst 1, 1) := by decide +kernel
theorem dX5_exchange_11 : decode cX5_exchange 11 = .ok (.lcmp, 1) := by decide +kernel
theorem dX5_exchange_12 : decode cX5_exchange 12 = .ok (.ifCond .lt 12, 3) := by decide +kernel
theorem dX5_exchange_15 : decode cX5_exchange 15 = .ok (.aload_n 0, 1) := by decide +kernel
theorem dX5_exchange_16 : decode cX5_exchange 16 = .ok (.getfield 47, 3) := by decide +kernel
theorem dX5_exchange_19 : decode cX5_exchange 19 = .ok (.lconst 1, 1) := by decide +kernel
theorem dX5_exchange_20 : decode cX5_exchange 20 = .ok (.lcmp, 1) := by decide +kernel
theorem dX5_exchange_21 : decode cX5_exchange 21 = .ok (.ifCond .ge 4, 3) := by decide +kernel
theorem dX5_exchange_24 : decode cX5_exchange 24 = .ok (.return_, 1) := by decide +kernel
theorem dX5_exchange_25 : decode cX5_exchange 25 = .ok (.iconst 0, 1) := by decide +kernel
theorem dX5_exchange_26 : decode cX5_exchange 26 = .ok (.istore 5, 2) := by decide +kernel
theorem dX5_exchange_28 : decode cX5_exchange 28 = .ok (.iload 5, 2) := by decide +kernel
theorem dX5_exchange_30 : decode cX5_exchange 30 = .ok (.aload_n 0, 1) := by decide +kernel
theorem dX5_exchange_31 : decode cX5_exchange 31 = .ok (.getfield 83, 3) := by decide +kernel
theorem dX5_exchange_34 : decode cX5_exchange 34 = .ok (.if_icmp .gt 96, 3) := by decide +kernel
theorem dX5_exchange_37 : decode cX5_exchange 37 = .ok (.aload_n 0, 1) := by decide +kernel
theorem dX5_exchange_38 : decode cX5_exchange 38 = .ok (.getfield 13, 3) := by decide +kernel
theorem dX5_exchange_41 : decode cX5_exchange 41 = .ok (.iload 5, 2) := by decide +kernel
theorem dX5_exchange_43 : decode cX5_exchange 43 = .ok (.aaload, 1) := by decide +kernel
theorem dX5_exchange_44 : decode cX5_exchange 44 = .ok (.iload_n 2, 1) := by decide +kernel
theorem dX5_exchange_45 : decode cX5_exchange 45 = .ok (.laload, 1) := by decide +kernel
theorem dX5_exchange_46 : decode cX5_exchange 46 = .ok (.lstore 6, 2) := by decide +kernel
theorem dX5_exchange_48 : decode cX5_exchange 48 = .ok (.iload 5, 2) := by decide +kernel
theorem dX5_exchange_50 : decode cX5_exchange 50 = .ok (.iload_n 1, 1) := by decide +kernel
theorem dX5_exchange_51 : decode cX5_exchange 51 = .ok (.if_icmp .eq 73, 3) := by decide +kernel
theorem dX5_exchange_54 : decode cX5_exchange 54 = .ok (.iconst 0, 1) := by decide +kernel
theorem dX5_exchange_55 : decode cX5_exchange 55 = .ok (.istore 8, 2) := by decide +kernel
theorem dX5_exchange_57 : decode cX5_exchange 57 = .ok (.iload 8, 2) := by decide +kernel
theorem dX5_exchange_59 : decode cX5_exchange 59 = .ok (.aload_n 0, 1) := by decide +kernel
theorem dX5_exchange_60 : decode cX5_exchange 60 = .ok (.getfield 86, 3) := by decide +kernel
theorem dX5_exchange_63 : decode cX5_exchange 63 = .ok (.if_icmp .gt 49, 3) := by decide +kernel
theorem dX5_exchange_66 : decode cX5_exchange 66 = .ok (.aload_n 0, 1) := by decide +kernel
theorem dX5_exchange_67 : decode cX5_exchange 67 = .ok (.getfield 13, 3) := by decide +kernel
theorem dX5_exchange_70 : decode cX5_exchange 70 = .ok (.iload 5, 2) := by decide +kernel
theorem dX5_exchange_72 : decode cX5_exchange 72 = .ok (.aaload, 1) := by decide +kernel
theorem dX5_exchange_73 : decode cX5_exchange 73 = .ok (.iload 8, 2) := by decide +kernel
theorem dX5_exchange_75 : decode cX5_exchange 75 = .ok (.lload_n 3, 1) := by decide +kernel
theorem dX5_exchange_76 : decode cX5_exchange 76 = .ok (.aload_n 0, 1) := by decide +kernel
theorem dX5_exchange_77 : decode cX5_exchange 77 = .ok (.getfield 13, 3) := by decide +kernel
theorem dX5_exchange_80 : decode cX5_exchange 80 = .ok (.iload 5, 2) := by decide +kernel
theorem dX5_exchange_82 : decode cX5_exchange 82 = .ok (.aaload, 1) := by decide +kernel
theorem dX5_exchange_83 : decode cX5_exchange 83 = .ok (.iload 8, 2) := by decide +kernel
theorem dX5_exchange_85 : decode cX5_exchange 85 = .ok (.laload, 1) := by decide +kernel
theorem dX5_exchange_86 : decode cX5_exchange 86 = .ok (.lmul, 1) := by decide +kernel
theorem dX5_exchange_87 : decode cX5_exchange 87 = .ok (.lload 6, 2) := by decide +kernel
theorem dX5_exchange_89 : decode cX5_exchange 89 = .ok (.aload_n 0, 1) := by decide +kernel
theorem dX5_exchange_90 : decode cX5_exchange 90 = .ok (.getfield 13, 3) := by decide +kernel
theorem dX5_exchange_93 : decode cX5_exchange 93 = .ok (.iload_n 1, 1) := by decide +kernel
theorem dX5_exchange_94 : decode cX5_exchange 94 = .ok (.aaload, 1) := by decide +kernel
theorem dX5_exchange_95 : decode cX5_exchange 95 = .ok (.iload 8, 2) := by decide +kernel
theorem dX5_exchange_97 : decode cX5_exchange 97 = .ok (.laload, 1) := by decide +kernel
theorem dX5_exchange_98 : decode cX5_exchange 98 = .ok (.lmul, 1) := by decide +kernel
theorem dX5_exchange_99 : decode cX5_exchange 99 = .ok (.lsub, 1) := by decide +kernel
theorem dX5_exchange_100 : decode cX5_exchange 100 = .ok (.aload_n 0, 1) := by decide +kernel
theorem dX5_exchange_101 : decode cX5_exchange 101 = .ok (.getfield 47, 3) := by decide +kernel
theorem dX5_exchange_104 : decode cX5_exchange 104 = .ok (.ldiv, 1) := by decide +kernel
theorem dX5_exchange_105 : decode cX5_exchange 105 = .ok (.lastore, 1) := by decide +kernel
theorem dX5_exchange_106 : decode cX5_exchange 106 = .ok (.iinc 8 1, 3) := by decide +kernel
theorem dX5_exchange_109 : decode cX5_exchange 109 = .ok (.goto (-52), 3) := by decide +kernel
theorem dX5_exchange_112 : decode cX5_exchange 112 = .ok (.aload_n 0, 1) := by decide +kernel
theorem dX5_exchange_113 : decode cX5_exchange 113 = .ok (.getfield 13, 3) := by decide +kernel
theorem dX5_exchange_116 : decode cX5_exchange 116 = .ok (.iload 5, 2) := by decide +kernel
theorem dX5_exchange_118 : decode cX5_exchange 118 = .ok (.aaload, 1) := by decide +kernel
theorem dX5_exchange_119 : decode cX5_exchange 119 = .ok (.iload_n 2, 1) := by decide +kernel
theorem dX5_exchange_120 : decode cX5_exchange 120 = .ok (.lload 6, 2) := by decide +kernel
theorem dX5_exchange_122 : decode cX5_exchange 122 = .ok (.lneg, 1) := by decide +kernel
theorem dX5_exchange_123 : decode cX5_exchange 123 = .ok (.lastore, 1) := by decide +kernel
theorem dX5_exchange_124 : decode cX5_exchange 124 = .ok (.iinc 5 1, 3) := by decide +kernel
theorem dX5_exchange_127 : decode cX5_exchange 127 = .ok (.goto (-99), 3) := by decide +kernel
theorem dX5_exchange_130 : decode cX5_exchange 130 = .ok (.aload_n 0, 1) := by decide +kernel
theorem dX5_exchange_131 : decode cX5_exchange 131 = .ok (.getfield 13, 3) := by decide +kernel
theorem dX5_exchange_134 : decode cX5_exchange 134 = .ok (.iload_n 1, 1) := by decide +kernel
theorem dX5_exchange_135 : decode cX5_exchange 135 = .ok (.aaload, 1) := by decide +kernel
theorem dX5_exchange_136 : decode cX5_exchange 136 = .ok (.iload_n 2, 1) := by decide +kernel
theorem dX5_exchange_137 : decode cX5_exchange 137 = .ok (.aload_n 0, 1) := by decide +kernel
theorem dX5_exchange_138 : decode cX5_exchange 138 = .ok (.getfield 47, 3) := by decide +kernel
theorem dX5_exchange_141 : decode cX5_exchange 141 = .ok (.lastore, 1) := by decide +kernel
theorem dX5_exchange_142 : decode cX5_exchange 142 = .ok (.aload_n 0, 1) := by decide +kernel
theorem dX5_exchange_143 : decode cX5_exchange 143 = .ok (.lload_n 3, 1) := by decide +kernel
theorem dX5_exchange_144 : decode cX5_exchange 144 = .ok (.putfield 47, 3) := by decide +kernel
theorem dX5_exchange_147 : decode cX5_exchange 147 = .ok (.aload_n 0, 1) := by decide +kernel
theorem dX5_exchange_148 : decode cX5_exchange 148 = .ok (.getfield 16, 3) := by decide +kernel
theorem dX5_exchange_151 : decode cX5_exchange 151 = .ok (.iload_n 1, 1) := by decide +kernel
theorem dX5_exchange_152 : decode cX5_exchange 152 = .ok (.iaload, 1) := by decide +kernel
theorem dX5_exchange_153 : decode cX5_exchange 153 = .ok (.istore 5, 2) := by decide +kernel
theorem dX5_exchange_155 : decode cX5_exchange 155 = .ok (.aload_n 0, 1) := by decide +kernel
theorem dX5_exchange_156 : decode cX5_exchange 156 = .ok (.getfield 16, 3) := by decide +kernel
theorem dX5_exchange_159 : decode cX5_exchange 159 = .ok (.iload_n 1, 1) := by decide +kernel
theorem dX5_exchange_160 : decode cX5_exchange 160 = .ok (.aload_n 0, 1) := by decide +kernel
theorem dX5_exchange_161 : decode cX5_exchange 161 = .ok (.getfield 20, 3) := by decide +kernel
theorem dX5_exchange_164 : decode cX5_exchange 164 = .ok (.iload_n 2, 1) := by decide +kernel
theorem dX5_exchange_165 : decode cX5_exchange 165 = .ok (.iaload, 1) := by decide +kernel
theorem dX5_exchange_166 : decode cX5_exchange 166 = .ok (.iastore, 1) := by decide +kernel
theorem dX5_exchange_167 : decode cX5_exchange 167 = .ok (.aload_n 0, 1) := by decide +kernel
theorem dX5_exchange_168 : decode cX5_exchange 168 = .ok (.getfield 20, 3) := by decide +kernel
theorem dX5_exchange_171 : decode cX5_exchange 171 = .ok (.iload_n 2, 1) := by decide +kernel
theorem dX5_exchange_172 : decode cX5_exchange 172 = .ok (.iload 5, 2) := by decide +kernel
theorem dX5_exchange_174 : decode cX5_exchange 174 = .ok (.iastore, 1) := by decide +kernel
theorem dX5_exchange_175 : decode cX5_exchange 175 = .ok (.iload 5, 2) := by decide +kernel
theorem dX5_exchange_177 : decode cX5_exchange 177 = .ok (.aload_n 0, 1) := by decide +kernel
theorem dX5_exchange_178 : decode cX5_exchange 178 = .ok (.getfield 86, 3) := by decide +kernel
theorem dX5_exchange_181 : decode cX5_exchange 181 = .ok (.if_icmp .lt 16, 3) := by decide +kernel
theorem dX5_exchange_184 : decode cX5_exchange 184 = .ok (.aload_n 0, 1) := by decide +kernel
theorem dX5_exchange_185 : decode cX5_exchange 185 = .ok (.dup, 1) := by decide +kernel
theorem dX5_exchange_186 : decode cX5_exchange 186 = .ok (.getfield 111, 3) := by decide +kernel
theorem dX5_exchange_189 : decode cX5_exchange 189 = .ok (.iconst 1, 1) := by decide +kernel
theorem dX5_exchange_190 : decode cX5_exchange 190 = .ok (.iload 5, 2) := by decide +kernel
theorem dX5_exchange_192 : decode cX5_exchange 192 = .ok (.ishl, 1) := by decide +kernel
theorem dX5_exchange_193 : decode cX5_exchange 193 = .ok (.ior, 1) := by decide +kernel
theorem dX5_exchange_194 : decode cX5_exchange 194 = .ok (.putfield 111, 3) := by decide +kernel
theorem dX5_exchange_197 : decode cX5_exchange 197 = .ok (.return_, 1) := by decide +kernel
theorem dX5_rowOf_0 : decode cX5_rowOf 0 = .ok (.iconst 0, 1) := by decide +kernel
theorem dX5_rowOf_1 : decode cX5_rowOf 1 = .ok (.istore_n 2, 1) := by decide +kernel
theorem dX5_rowOf_2 : decode cX5_rowOf 2 = .ok (.iload_n 2, 1) := by decide +kernel
theorem dX5_rowOf_3 : decode cX5_rowOf 3 = .ok (.aload_n 0, 1) := by decide +kernel
theorem dX5_rowOf_4 : decode cX5_rowOf 4 = .ok (.getfield 83, 3) := by decide +kernel
theorem dX5_rowOf_7 : decode cX5_rowOf 7 = .ok (.if_icmp .ge 21, 3) := by decide +kernel
theorem dX5_rowOf_10 : decode cX5_rowOf 10 = .ok (.aload_n 0, 1) := by decide +kernel
theorem dX5_rowOf_11 : decode cX5_rowOf 11 = .ok (.getfield 16, 3) := by decide +kernel
theorem dX5_rowOf_14 : decode cX5_rowOf 14 = .ok (.iload_n 2, 1) := by decide +kernel
theorem dX5_rowOf_15 : decode cX5_rowOf 15 = .ok (.iaload, 1) := by decide +kernel
theorem dX5_rowOf_16 : decode cX5_rowOf 16 = .ok (.iload_n 1, 1) := by decide +kernel
theorem dX5_rowOf_17 : decode cX5_rowOf 17 = .ok (.if_icmp .ne 5, 3) := by decide +kernel
theorem dX5_rowOf_20 : decode cX5_rowOf 20 = .ok (.iload_n 2, 1) := by decide +kernel
theorem dX5_rowOf_21 : decode cX5_rowOf 21 = .ok (.ireturn, 1) := by decide +kernel
theorem dX5_rowOf_22 : decode cX5_rowOf 22 = .ok (.iinc 2 1, 3) := by decide +kernel
theorem dX5_rowOf_25 : decode cX5_rowOf 25 = .ok (.goto (-23), 3) := by decide +kernel
theorem dX5_rowOf_28 : decode cX5_rowOf 28 = .ok (.iconst (-1), 1) := by decide +kernel
theorem dX5_rowOf_29 : decode cX5_rowOf 29 = .ok (.ireturn, 1) := by decide +kernel
theorem dX5_valueOf_0 : decode cX5_valueOf 0 = .ok (.aload_n 0, 1) := by decide +kernel
theorem dX5_valueOf_1 : decode cX5_valueOf 1 = .ok (.iload_n 1, 1) := by decide +kernel
theorem dX5_valueOf_2 : decode cX5_valueOf 2 = .ok (.invokevirtual 122, 3) := by decide +kernel
theorem dX5_valueOf_5 : decode cX5_valueOf 5 = .ok (.istore_n 2, 1) := by decide +kernel
theorem dX5_valueOf_6 : decode cX5_valueOf 6 = .ok (.iload_n 2, 1) := by decide +kernel
theorem dX5_valueOf_7 : decode cX5_valueOf 7 = .ok (.ifCond .ge 7, 3) := by decide +kernel
theorem dX5_valueOf_10 : decode cX5_valueOf 10 = .ok (.lconst 0, 1) := by decide +kernel
theorem dX5_valueOf_11 : decode cX5_valueOf 11 = .ok (.goto 14, 3) := by decide +kernel
theorem dX5_valueOf_14 : decode cX5_valueOf 14 = .ok (.aload_n 0, 1) := by decide +kernel
theorem dX5_valueOf_15 : decode cX5_valueOf 15 = .ok (.getfield 13, 3) := by decide +kernel
theorem dX5_valueOf_18 : decode cX5_valueOf 18 = .ok (.iload_n 2, 1) := by decide +kernel
theorem dX5_valueOf_19 : decode cX5_valueOf 19 = .ok (.aaload, 1) := by decide +kernel
theorem dX5_valueOf_20 : decode cX5_valueOf 20 = .ok (.aload_n 0, 1) := by decide +kernel
theorem dX5_valueOf_21 : decode cX5_valueOf 21 = .ok (.getfield 86, 3) := by decide +kernel
theorem dX5_valueOf_24 : decode cX5_valueOf 24 = .ok (.laload, 1) := by decide +kernel
theorem dX5_valueOf_25 : decode cX5_valueOf 25 = .ok (.lreturn, 1) := by decide +kernel
theorem dX5_writeLeast_0 : decode cX5_writeLeast 0 = .ok (.iconst 0, 1) := by decide +kernel
theorem dX5_writeLeast_1 : decode cX5_writeLeast 1 = .ok (.istore_n 3, 1) := by decide +kernel
theorem dX5_writeLeast_2 : decode cX5_writeLeast 2 = .ok (.iload_n 3, 1) := by decide +kernel
theorem dX5_writeLeast_3 : decode cX5_writeLeast 3 = .ok (.iload_n 1, 1) := by decide +kernel
theorem dX5_writeLeast_4 : decode cX5_writeLeast 4 = .ok (.if_icmp .ge 14, 3) := by decide +kernel
theorem dX5_writeLeast_7 : decode cX5_writeLeast 7 = .ok (.aload_n 0, 1) := by decide +kernel
theorem dX5_writeLeast_8 : decode cX5_writeLeast 8 = .ok (.iload_n 3, 1) := by decide +kernel
theorem dX5_writeLeast_9 : decode cX5_writeLeast 9 = .ok (.invokevirtual 40, 3) := by decide +kernel
theorem dX5_writeLeast_12 : decode cX5_writeLeast 12 = .ok (.iinc 3 1, 3) := by decide +kernel
theorem dX5_writeLeast_15 : decode cX5_writeLeast 15 = .ok (.goto (-13), 3) := by decide +kernel
theorem dX5_writeLeast_18 : decode cX5_writeLeast 18 = .ok (.aload_n 0, 1) := by decide +kernel
theorem dX5_writeLeast_19 : decode cX5_writeLeast 19 = .ok (.getfield 47, 3) := by decide +kernel
theorem dX5_writeLeast_22 : decode cX5_writeLeast 22 = .ok (.lstore_n 3, 1) := by decide +kernel
theorem dX5_writeLeast_23 : decode cX5_writeLeast 23 = .ok (.iconst 0, 1) := by decide +kernel
theorem dX5_writeLeast_24 : decode cX5_writeLeast 24 = .ok (.istore 5, 2) := by decide +kernel
theorem dX5_writeLeast_26 : decode cX5_writeLeast 26 = .ok (.iload 5, 2) := by decide +kernel
theorem dX5_writeLeast_28 : decode cX5_writeLeast 28 = .ok (.iload_n 1, 1) := by decide +kernel
theorem dX5_writeLeast_29 : decode cX5_writeLeast 29 = .ok (.if_icmp .ge 20, 3) := by decide +kernel
theorem dX5_writeLeast_32 : decode cX5_writeLeast 32 = .ok (.lload_n 3, 1) := by decide +kernel
theorem dX5_writeLeast_33 : decode cX5_writeLeast 33 = .ok (.aload_n 0, 1) := by decide +kernel
theorem dX5_writeLeast_34 : decode cX5_writeLeast 34 = .ok (.iload 5, 2) := by decide +kernel
theorem dX5_writeLeast_36 : decode cX5_writeLeast 36 = .ok (.invokevirtual 51, 3) := by decide +kernel
theorem dX5_writeLeast_39 : decode cX5_writeLeast 39 = .ok (.invokestatic 135, 3) := by decide +kernel
theorem dX5_writeLeast_42 : decode cX5_writeLeast 42 = .ok (.lstore_n 3, 1) := by decide +kernel
theorem dX5_writeLeast_43 : decode cX5_writeLeast 43 = .ok (.iinc 5 1, 3) := by decide +kernel
theorem dX5_writeLeast_46 : decode cX5_writeLeast 46 = .ok (.goto (-20), 3) := by decide +kernel
theorem dX5_writeLeast_49 : decode cX5_writeLeast 49 = .ok (.lload_n 3, 1) := by decide +kernel
theorem dX5_writeLeast_50 : decode cX5_writeLeast 50 = .ok (.lconst 1, 1) := by decide +kernel
theorem dX5_writeLeast_51 : decode cX5_writeLeast 51 = .ok (.lcmp, 1) := by decide +kernel
theorem dX5_writeLeast_52 : decode cX5_writeLeast 52 = .ok (.ifCond .ge 4, 3) := by decide +kernel
theorem dX5_writeLeast_55 : decode cX5_writeLeast 55 = .ok (.return_, 1) := by decide +kernel
theorem dX5_writeLeast_56 : decode cX5_writeLeast 56 = .ok (.aload_n 2, 1) := by decide +kernel
theorem dX5_writeLeast_57 : decode cX5_writeLeast 57 = .ok (.aload_n 0, 1) := by decide +kernel
theorem dX5_writeLeast_58 : decode cX5_writeLeast 58 = .ok (.getfield 47, 3) := by decide +kernel
theorem dX5_writeLeast_61 : decode cX5_writeLeast 61 = .ok (.lload_n 3, 1) := by decide +kernel
theorem dX5_writeLeast_62 : decode cX5_writeLeast 62 = .ok (.ldiv, 1) := by decide +kernel
theorem dX5_writeLeast_63 : decode cX5_writeLeast 63 = .ok (.l2i, 1) := by decide +kernel
theorem dX5_writeLeast_64 : decode cX5_writeLeast 64 = .ok (.invokevirtual 138, 3) := by decide +kernel
theorem dX5_writeLeast_67 : decode cX5_writeLeast 67 = .ok (.iconst 0, 1) := by decide +kernel
theorem dX5_writeLeast_68 : decode cX5_writeLeast 68 = .ok (.istore 5, 2) := by decide +kernel
theorem dX5_writeLeast_70 : decode cX5_writeLeast 70 = .ok (.iload 5, 2) := by decide +kernel
theorem dX5_writeLeast_72 : decode cX5_writeLeast 72 = .ok (.iload_n 1, 1) := by decide +kernel
theorem dX5_writeLeast_73 : decode cX5_writeLeast 73 = .ok (.if_icmp .ge 22, 3) := by decide +kernel
theorem dX5_writeLeast_76 : decode cX5_writeLeast 76 = .ok (.aload_n 2, 1) := by decide +kernel
theorem dX5_writeLeast_77 : decode cX5_writeLeast 77 = .ok (.aload_n 0, 1) := by decide +kernel
theorem dX5_writeLeast_78 : decode cX5_writeLeast 78 = .ok (.iload 5, 2) := by decide +kernel
theorem dX5_writeLeast_80 : decode cX5_writeLeast 80 = .ok (.invokevirtual 51, 3) := by decide +kernel
theorem dX5_writeLeast_83 : decode cX5_writeLeast 83 = .ok (.lload_n 3, 1) := by decide +kernel
theorem dX5_writeLeast_84 : decode cX5_writeLeast 84 = .ok (.ldiv, 1) := by decide +kernel
theorem dX5_writeLeast_85 : decode cX5_writeLeast 85 = .ok (.l2i, 1) := by decide +kernel
theorem dX5_writeLeast_86 : decode cX5_writeLeast 86 = .ok (.invokevirtual 138, 3) := by decide +kernel
theorem dX5_writeLeast_89 : decode cX5_writeLeast 89 = .ok (.iinc 5 1, 3) := by decide +kernel
theorem dX5_writeLeast_92 : decode cX5_writeLeast 92 = .ok (.goto (-22), 3) := by decide +kernel
theorem dX5_writeLeast_95 : decode cX5_writeLeast 95 = .ok (.return_, 1) := by decide +kernel
theorem dX5_leftSideBy_0 : decode cX5_leftSideBy 0 = .ok (.lconst 0, 1) := by decide +kernel
theorem dX5_leftSideBy_1 : decode cX5_leftSideBy 1 = .ok (.lstore_n 3, 1) := by decide +kernel
theorem dX5_leftSideBy_2 : decode cX5_leftSideBy 2 = .ok (.iconst 0, 1) := by decide +kernel
theorem dX5_leftSideBy_3 : decode cX5_leftSideBy 3 = .ok (.istore 5, 2) := by decide +kernel
theorem dX5_leftSideBy_5 : decode cX5_leftSideBy 5 = .ok (.iload 5, 2) := by decide +kernel
theorem dX5_leftSideBy_7 : decode cX5_leftSideBy 7 = .ok (.aload_n 0, 1) := by decide +kernel
theorem dX5_leftSideBy_8 : decode cX5_leftSideBy 8 = .ok (.getfield 37, 3) := by decide +kernel
theorem dX5_leftSideBy_11 : decode cX5_leftSideBy 11 = .ok (.if_icmp .ge 30, 3) := by decide +kernel
theorem dX5_leftSideBy_14 : decode cX5_leftSideBy 14 = .ok (.lload_n 3, 1) := by decide +kernel
theorem dX5_leftSideBy_15 : decode cX5_leftSideBy 15 = .ok (.aload_n 0, 1) := by decide +kernel
theorem dX5_leftSideBy_16 : decode cX5_leftSideBy 16 = .ok (.iload_n 1, 1) := by decide +kernel
theorem dX5_leftSideBy_17 : decode cX5_leftSideBy 17 = .ok (.iload 5, 2) := by decide +kernel
theorem dX5_leftSideBy_19 : decode cX5_leftSideBy 19 = .ok (.invokestatic 96, 3) := by decide +kernel
theorem dX5_leftSideBy_22 : decode cX5_leftSideBy 22 = .ok (.i2l, 1) := by decide +kernel
theorem dX5_leftSideBy_23 : decode cX5_leftSideBy 23 = .ok (.aload_n 2, 1) := by decide +kernel
theorem dX5_leftSideBy_24 : decode cX5_leftSideBy 24 = .ok (.iload 5, 2) := by decide +kernel
theorem dX5_leftSideBy_26 : decode cX5_leftSideBy 26 = .ok (.iconst 1, 1) := by decide +kernel
theorem dX5_leftSideBy_27 : decode cX5_leftSideBy 27 = .ok (.iadd, 1) := by decide +kernel
theorem dX5_leftSideBy_28 : decode cX5_leftSideBy 28 = .ok (.invokevirtual 143, 3) := by decide +kernel
theorem dX5_leftSideBy_31 : decode cX5_leftSideBy 31 = .ok (.i2l, 1) := by decide +kernel
theorem dX5_leftSideBy_32 : decode cX5_leftSideBy 32 = .ok (.lmul, 1) := by decide +kernel
theorem dX5_leftSideBy_33 : decode cX5_leftSideBy 33 = .ok (.ladd, 1) := by decide +kernel
theorem dX5_leftSideBy_34 : decode cX5_leftSideBy 34 = .ok (.lstore_n 3, 1) := by decide +kernel
theorem dX5_leftSideBy_35 : decode cX5_leftSideBy 35 = .ok (.iinc 5 1, 3) := by decide +kernel
theorem dX5_leftSideBy_38 : decode cX5_leftSideBy 38 = .ok (.goto (-33), 3) := by decide +kernel
theorem dX5_leftSideBy_41 : decode cX5_leftSideBy 41 = .ok (.lload_n 3, 1) := by decide +kernel
theorem dX5_leftSideBy_42 : decode cX5_leftSideBy 42 = .ok (.lreturn, 1) := by decide +kernel
theorem dX5_rightSideBy_0 : decode cX5_rightSideBy 0 = .ok (.aload_n 0, 1) := by decide +kernel
theorem dX5_rightSideBy_1 : decode cX5_rightSideBy 1 = .ok (.iload_n 1, 1) := by decide +kernel
theorem dX5_rightSideBy_2 : decode cX5_rightSideBy 2 = .ok (.invokestatic 92, 3) := by decide +kernel
theorem dX5_rightSideBy_5 : decode cX5_rightSideBy 5 = .ok (.i2l, 1) := by decide +kernel
theorem dX5_rightSideBy_6 : decode cX5_rightSideBy 6 = .ok (.aload_n 2, 1) := by decide +kernel
theorem dX5_rightSideBy_7 : decode cX5_rightSideBy 7 = .ok (.iconst 0, 1) := by decide +kernel
theorem dX5_rightSideBy_8 : decode cX5_rightSideBy 8 = .ok (.invokevirtual 143, 3) := by decide +kernel
theorem dX5_rightSideBy_11 : decode cX5_rightSideBy 11 = .ok (.i2l, 1) := by decide +kernel
theorem dX5_rightSideBy_12 : decode cX5_rightSideBy 12 = .ok (.lmul, 1) := by decide +kernel
theorem dX5_rightSideBy_13 : decode cX5_rightSideBy 13 = .ok (.lreturn, 1) := by decide +kernel
theorem dX5_judgeUnknowns_0 : decode cX5_judgeUnknowns 0 = .ok (.aload_n 2, 1) := by decide +kernel
theorem dX5_judgeUnknowns_1 : decode cX5_judgeUnknowns 1 = .ok (.getfield 152, 3) := by decide +kernel
theorem dX5_judgeUnknowns_4 : decode cX5_judgeUnknowns 4 = .ok (.aload_n 1, 1) := by decide +kernel
theorem dX5_judgeUnknowns_5 : decode cX5_judgeUnknowns 5 = .ok (.getfield 37, 3) := by decide +kernel
theorem dX5_judgeUnknowns_8 : decode cX5_judgeUnknowns 8 = .ok (.iconst 1, 1) := by decide +kernel
theorem dX5_judgeUnknowns_9 : decode cX5_judgeUnknowns 9 = .ok (.iadd, 1) := by decide +kernel
theorem dX5_judgeUnknowns_10 : decode cX5_judgeUnknowns 10 = .ok (.if_icmp .ne 12, 3) := by decide +kernel
theorem dX5_judgeUnknowns_13 : decode cX5_judgeUnknowns 13 = .ok (.aload_n 2, 1) := by decide +kernel
theorem dX5_judgeUnknowns_14 : decode cX5_judgeUnknowns 14 = .ok (.iconst 0, 1) := by decide +kernel
theorem dX5_judgeUnknowns_15 : decode cX5_judgeUnknowns 15 = .ok (.invokevirtual 143, 3) := by decide +kernel
theorem dX5_judgeUnknowns_18 : decode cX5_judgeUnknowns 18 = .ok (.iconst 1, 1) := by decide +kernel
theorem dX5_judgeUnknowns_19 : decode cX5_judgeUnknowns 19 = .ok (.if_icmp .ge 5, 3) := by decide +kernel
theorem dX5_judgeUnknowns_22 : decode cX5_judgeUnknowns 22 = .ok (.iconst 1, 1) := by decide +kernel
theorem dX5_judgeUnknowns_23 : decode cX5_judgeUnknowns 23 = .ok (.ireturn, 1) := by decide +kernel
theorem dX5_judgeUnknowns_24 : decode cX5_judgeUnknowns 24 = .ok (.aload_n 2, 1) := by decide +kernel
theorem dX5_judgeUnknowns_25 : decode cX5_judgeUnknowns 25 = .ok (.iconst 1, 1) := by decide +kernel
theorem dX5_judgeUnknowns_26 : decode cX5_judgeUnknowns 26 = .ok (.iconst 0, 1) := by decide +kernel
theorem dX5_judgeUnknowns_27 : decode cX5_judgeUnknowns 27 = .ok (.ldc 155, 2) := by decide +kernel
theorem dX5_judgeUnknowns_29 : decode cX5_judgeUnknowns 29 = .ok (.invokevirtual 156, 3) := by decide +kernel
theorem dX5_judgeUnknowns_32 : decode cX5_judgeUnknowns 32 = .ok (.ifCond .ne 5, 3) := by decide +kernel
theorem dX5_judgeUnknowns_35 : decode cX5_judgeUnknowns 35 = .ok (.iconst 2, 1) := by decide +kernel
theorem dX5_judgeUnknowns_36 : decode cX5_judgeUnknowns 36 = .ok (.ireturn, 1) := by decide +kernel
theorem dX5_judgeUnknowns_37 : decode cX5_judgeUnknowns 37 = .ok (.iconst 0, 1) := by decide +kernel
theorem dX5_judgeUnknowns_38 : decode cX5_judgeUnknowns 38 = .ok (.istore_n 3, 1) := by decide +kernel
theorem dX5_judgeUnknowns_39 : decode cX5_judgeUnknowns 39 = .ok (.iload_n 3, 1) := by decide +kernel
theorem dX5_judgeUnknowns_40 : decode cX5_judgeUnknowns 40 = .ok (.aload_n 1, 1) := by decide +kernel
theorem dX5_judgeUnknowns_41 : decode cX5_judgeUnknowns 41 = .ok (.getfield 23, 3) := by decide +kernel
theorem dX5_judgeUnknowns_44 : decode cX5_judgeUnknowns 44 = .ok (.if_icmp .gt 39, 3) := by decide +kernel
theorem dX5_judgeUnknowns_47 : decode cX5_judgeUnknowns 47 = .ok (.aload_n 1, 1) := by decide +kernel
theorem dX5_judgeUnknowns_48 : decode cX5_judgeUnknowns 48 = .ok (.iload_n 3, 1) := by decide +kernel
theorem dX5_judgeUnknowns_49 : decode cX5_judgeUnknowns 49 = .ok (.aload_n 2, 1) := by decide +kernel
theorem dX5_judgeUnknowns_50 : decode cX5_judgeUnknowns 50 = .ok (.invokestatic 145, 3) := by decide +kernel
theorem dX5_judgeUnknowns_53 : decode cX5_judgeUnknowns 53 = .ok (.aload_n 1, 1) := by decide +kernel
theorem dX5_judgeUnknowns_54 : decode cX5_judgeUnknowns 54 = .ok (.iload_n 3, 1) := by decide +kernel
theorem dX5_judgeUnknowns_55 : decode cX5_judgeUnknowns 55 = .ok (.aload_n 2, 1) := by decide +kernel
theorem dX5_judgeUnknowns_56 : decode cX5_judgeUnknowns 56 = .ok (.invokestatic 149, 3) := by decide +kernel
theorem dX5_judgeUnknowns_59 : decode cX5_judgeUnknowns 59 = .ok (.lcmp, 1) := by decide +kernel
theorem dX5_judgeUnknowns_60 : decode cX5_judgeUnknowns 60 = .ok (.ifCond .le 17, 3) := by decide +kernel
theorem dX5_judgeUnknowns_63 : decode cX5_judgeUnknowns 63 = .ok (.iload_n 3, 1) := by decide +kernel
theorem dX5_judgeUnknowns_64 : decode cX5_judgeUnknowns 64 = .ok (.aload_n 1, 1) := by decide +kernel
theorem dX5_judgeUnknowns_65 : decode cX5_judgeUnknowns 65 = .ok (.getfield 23, 3) := by decide +kernel
theorem dX5_judgeUnknowns_68 : decode cX5_judgeUnknowns 68 = .ok (.if_icmp .ge 7, 3) := by decide +kernel
theorem dX5_judgeUnknowns_71 : decode cX5_judgeUnknowns 71 = .ok (.iconst 3, 1) := by decide +kernel
theorem dX5_judgeUnknowns_72 : decode cX5_judgeUnknowns 72 = .ok (.goto 4, 3) := by decide +kernel
theorem dX5_judgeUnknowns_75 : decode cX5_judgeUnknowns 75 = .ok (.iconst 4, 1) := by decide +kernel
theorem dX5_judgeUnknowns_76 : decode cX5_judgeUnknowns 76 = .ok (.ireturn, 1) := by decide +kernel
theorem dX5_judgeUnknowns_77 : decode cX5_judgeUnknowns 77 = .ok (.iinc 3 1, 3) := by decide +kernel
theorem dX5_judgeUnknowns_80 : decode cX5_judgeUnknowns 80 = .ok (.goto (-41), 3) := by decide +kernel
theorem dX5_judgeUnknowns_83 : decode cX5_judgeUnknowns 83 = .ok (.iconst 0, 1) := by decide +kernel
theorem dX5_judgeUnknowns_84 : decode cX5_judgeUnknowns 84 = .ok (.ireturn, 1) := by decide +kernel
theorem dX5_judgeWeights_0 : decode cX5_judgeWeights 0 = .ok (.aload_n 1, 1) := by decide +kernel
theorem dX5_judgeWeights_1 : decode cX5_judgeWeights 1 = .ok (.getfield 23, 3) := by decide +kernel
theorem dX5_judgeWeights_4 : decode cX5_judgeWeights 4 = .ok (.iconst 1, 1) := by decide +kernel
theorem dX5_judgeWeights_5 : decode cX5_judgeWeights 5 = .ok (.iadd, 1) := by decide +kernel
theorem dX5_judgeWeights_6 : decode cX5_judgeWeights 6 = .ok (.istore_n 3, 1) := by decide +kernel
theorem dX5_judgeWeights_7 : decode cX5_judgeWeights 7 = .ok (.aload_n 2, 1) := by decide +kernel
theorem dX5_judgeWeights_8 : decode cX5_judgeWeights 8 = .ok (.getfield 152, 3) := by decide +kernel
theorem dX5_judgeWeights_11 : decode cX5_judgeWeights 11 = .ok (.iload_n 3, 1) := by decide +kernel
theorem dX5_judgeWeights_12 : decode cX5_judgeWeights 12 = .ok (.iconst 1, 1) := by decide +kernel
theorem dX5_judgeWeights_13 : decode cX5_judgeWeights 13 = .ok (.iadd, 1) := by decide +kernel
theorem dX5_judgeWeights_14 : decode cX5_judgeWeights 14 = .ok (.if_icmp .ne 12, 3) := by decide +kernel
theorem dX5_judgeWeights_17 : decode cX5_judgeWeights 17 = .ok (.aload_n 2, 1) := by decide +kernel
theorem dX5_judgeWeights_18 : decode cX5_judgeWeights 18 = .ok (.iconst 0, 1) := by decide +kernel
theorem dX5_judgeWeights_19 : decode cX5_judgeWeights 19 = .ok (.invokevirtual 143, 3) := by decide +kernel
theorem dX5_judgeWeights_22 : decode cX5_judgeWeights 22 = .ok (.iconst 1, 1) := by decide +kernel
theorem dX5_judgeWeights_23 : decode cX5_judgeWeights 23 = .ok (.if_icmp .ge 5, 3) := by decide +kernel
theorem dX5_judgeWeights_26 : decode cX5_judgeWeights 26 = .ok (.iconst 1, 1) := by decide +kernel
theorem dX5_judgeWeights_27 : decode cX5_judgeWeights 27 = .ok (.ireturn, 1) := by decide +kernel
theorem dX5_judgeWeights_28 : decode cX5_judgeWeights 28 = .ok (.aload_n 2, 1) := by decide +kernel
theorem dX5_judgeWeights_29 : decode cX5_judgeWeights 29 = .ok (.iconst 1, 1) := by decide +kernel
theorem dX5_judgeWeights_30 : decode cX5_judgeWeights 30 = .ok (.iconst 0, 1) := by decide +kernel
theorem dX5_judgeWeights_31 : decode cX5_judgeWeights 31 = .ok (.ldc 155, 2) := by decide +kernel
theorem dX5_judgeWeights_33 : decode cX5_judgeWeights 33 = .ok (.invokevirtual 156, 3) := by decide +kernel
theorem dX5_judgeWeights_36 : decode cX5_judgeWeights 36 = .ok (.ifCond .ne 5, 3) := by decide +kernel
theorem dX5_judgeWeights_39 : decode cX5_judgeWeights 39 = .ok (.iconst 2, 1) := by decide +kernel
theorem dX5_judgeWeights_40 : decode cX5_judgeWeights 40 = .ok (.ireturn, 1) := by decide +kernel
theorem dX5_judgeWeights_41 : decode cX5_judgeWeights 41 = .ok (.iconst 0, 1) := by decide +kernel
theorem dX5_judgeWeights_42 : decode cX5_judgeWeights 42 = .ok (.istore 4, 2) := by decide +kernel
theorem dX5_judgeWeights_44 : decode cX5_judgeWeights 44 = .ok (.iload 4, 2) := by decide +kernel
theorem dX5_judgeWeights_46 : decode cX5_judgeWeights 46 = .ok (.aload_n 1, 1) := by decide +kernel
theorem dX5_judgeWeights_47 : decode cX5_judgeWeights 47 = .ok (.getfield 37, 3) := by decide +kernel
theorem dX5_judgeWeights_50 : decode cX5_judgeWeights 50 = .ok (.if_icmp .ge 60, 3) := by decide +kernel
theorem dX5_judgeWeights_53 : decode cX5_judgeWeights 53 = .ok (.lconst 0, 1) := by decide +kernel
theorem dX5_judgeWeights_54 : decode cX5_judgeWeights 54 = .ok (.lstore 5, 2) := by decide +kernel
theorem dX5_judgeWeights_56 : decode cX5_judgeWeights 56 = .ok (.iconst 0, 1) := by decide +kernel
theorem dX5_judgeWeights_57 : decode cX5_judgeWeights 57 = .ok (.istore 7, 2) := by decide +kernel
theorem dX5_judgeWeights_59 : decode cX5_judgeWeights 59 = .ok (.iload 7, 2) := by decide +kernel
theorem dX5_judgeWeights_61 : decode cX5_judgeWeights 61 = .ok (.iload_n 3, 1) := by decide +kernel
theorem dX5_judgeWeights_62 : decode cX5_judgeWeights 62 = .ok (.if_icmp .ge 33, 3) := by decide +kernel
theorem dX5_judgeWeights_65 : decode cX5_judgeWeights 65 = .ok (.lload 5, 2) := by decide +kernel
theorem dX5_judgeWeights_67 : decode cX5_judgeWeights 67 = .ok (.aload_n 1, 1) := by decide +kernel
theorem dX5_judgeWeights_68 : decode cX5_judgeWeights 68 = .ok (.iload 7, 2) := by decide +kernel
theorem dX5_judgeWeights_70 : decode cX5_judgeWeights 70 = .ok (.iload 4, 2) := by decide +kernel
theorem dX5_judgeWeights_72 : decode cX5_judgeWeights 72 = .ok (.invokestatic 96, 3) := by decide +kernel
theorem dX5_judgeWeights_75 : decode cX5_judgeWeights 75 = .ok (.i2l, 1) := by decide +kernel
theorem dX5_judgeWeights_76 : decode cX5_judgeWeights 76 = .ok (.aload_n 2, 1) := by decide +kernel
theorem dX5_judgeWeights_77 : decode cX5_judgeWeights 77 = .ok (.iload 7, 2) := by decide +kernel
theorem dX5_judgeWeights_79 : decode cX5_judgeWeights 79 = .ok (.iconst 1, 1) := by decide +kernel
theorem dX5_judgeWeights_80 : decode cX5_judgeWeights 80 = .ok (.iadd, 1) := by decide +kernel
theorem dX5_judgeWeights_81 : decode cX5_judgeWeights 81 = .ok (.invokevirtual 143, 3) := by decide +kernel
theorem dX5_judgeWeights_84 : decode cX5_judgeWeights 84 = .ok (.i2l, 1) := by decide +kernel
theorem dX5_judgeWeights_85 : decode cX5_judgeWeights 85 = .ok (.lmul, 1) := by decide +kernel
theorem dX5_judgeWeights_86 : decode cX5_judgeWeights 86 = .ok (.ladd, 1) := by decide +kernel
theorem dX5_judgeWeights_87 : decode cX5_judgeWeights 87 = .ok (.lstore 5, 2) := by decide +kernel
theorem dX5_judgeWeights_89 : decode cX5_judgeWeights 89 = .ok (.iinc 7 1, 3) := by decide +kernel
theorem dX5_judgeWeights_92 : decode cX5_judgeWeights 92 = .ok (.goto (-33), 3) := by decide +kernel
theorem dX5_judgeWeights_95 : decode cX5_judgeWeights 95 = .ok (.lload 5, 2) := by decide +kernel
theorem dX5_judgeWeights_97 : decode cX5_judgeWeights 97 = .ok (.lconst 0, 1) := by decide +kernel
theorem dX5_judgeWeights_98 : decode cX5_judgeWeights 98 = .ok (.lcmp, 1) := by decide +kernel
theorem dX5_judgeWeights_99 : decode cX5_judgeWeights 99 = .ok (.ifCond .ge 5, 3) := by decide +kernel
theorem dX5_judgeWeights_102 : decode cX5_judgeWeights 102 = .ok (.iconst 3, 1) := by decide +kernel
theorem dX5_judgeWeights_103 : decode cX5_judgeWeights 103 = .ok (.ireturn, 1) := by decide +kernel
theorem dX5_judgeWeights_104 : decode cX5_judgeWeights 104 = .ok (.iinc 4 1, 3) := by decide +kernel
theorem dX5_judgeWeights_107 : decode cX5_judgeWeights 107 = .ok (.goto (-63), 3) := by decide +kernel
theorem dX5_judgeWeights_110 : decode cX5_judgeWeights 110 = .ok (.lconst 0, 1) := by decide +kernel
theorem dX5_judgeWeights_111 : decode cX5_judgeWeights 111 = .ok (.lstore 4, 2) := by decide +kernel
theorem dX5_judgeWeights_113 : decode cX5_judgeWeights 113 = .ok (.iconst 0, 1) := by decide +kernel
theorem dX5_judgeWeights_114 : decode cX5_judgeWeights 114 = .ok (.istore 6, 2) := by decide +kernel
theorem dX5_judgeWeights_116 : decode cX5_judgeWeights 116 = .ok (.iload 6, 2) := by decide +kernel
theorem dX5_judgeWeights_118 : decode cX5_judgeWeights 118 = .ok (.iload_n 3, 1) := by decide +kernel
theorem dX5_judgeWeights_119 : decode cX5_judgeWeights 119 = .ok (.if_icmp .ge 31, 3) := by decide +kernel
theorem dX5_judgeWeights_122 : decode cX5_judgeWeights 122 = .ok (.lload 4, 2) := by decide +kernel
theorem dX5_judgeWeights_124 : decode cX5_judgeWeights 124 = .ok (.aload_n 1, 1) := by decide +kernel
theorem dX5_judgeWeights_125 : decode cX5_judgeWeights 125 = .ok (.iload 6, 2) := by decide +kernel
theorem dX5_judgeWeights_127 : decode cX5_judgeWeights 127 = .ok (.invokestatic 92, 3) := by decide +kernel
theorem dX5_judgeWeights_130 : decode cX5_judgeWeights 130 = .ok (.i2l, 1) := by decide +kernel
theorem dX5_judgeWeights_131 : decode cX5_judgeWeights 131 = .ok (.aload_n 2, 1) := by decide +kernel
theorem dX5_judgeWeights_132 : decode cX5_judgeWeights 132 = .ok (.iload 6, 2) := by decide +kernel
theorem dX5_judgeWeights_134 : decode cX5_judgeWeights 134 = .ok (.iconst 1, 1) := by decide +kernel
theorem dX5_judgeWeights_135 : decode cX5_judgeWeights 135 = .ok (.iadd, 1) := by decide +kernel
theorem dX5_judgeWeights_136 : decode cX5_judgeWeights 136 = .ok (.invokevirtual 143, 3) := by decide +kernel
theorem dX5_judgeWeights_139 : decode cX5_judgeWeights 139 = .ok (.i2l, 1) := by decide +kernel
theorem dX5_judgeWeights_140 : decode cX5_judgeWeights 140 = .ok (.lmul, 1) := by decide +kernel
theorem dX5_judgeWeights_141 : decode cX5_judgeWeights 141 = .ok (.ladd, 1) := by decide +kernel
theorem dX5_judgeWeights_142 : decode cX5_judgeWeights 142 = .ok (.lstore 4, 2) := by decide +kernel
theorem dX5_judgeWeights_144 : decode cX5_judgeWeights 144 = .ok (.iinc 6 1, 3) := by decide +kernel
theorem dX5_judgeWeights_147 : decode cX5_judgeWeights 147 = .ok (.goto (-31), 3) := by decide +kernel
theorem dX5_judgeWeights_150 : decode cX5_judgeWeights 150 = .ok (.lload 4, 2) := by decide +kernel
theorem dX5_judgeWeights_152 : decode cX5_judgeWeights 152 = .ok (.aload_n 2, 1) := by decide +kernel
theorem dX5_judgeWeights_153 : decode cX5_judgeWeights 153 = .ok (.iconst 0, 1) := by decide +kernel
theorem dX5_judgeWeights_154 : decode cX5_judgeWeights 154 = .ok (.invokevirtual 143, 3) := by decide +kernel
theorem dX5_judgeWeights_157 : decode cX5_judgeWeights 157 = .ok (.i2l, 1) := by decide +kernel
theorem dX5_judgeWeights_158 : decode cX5_judgeWeights 158 = .ok (.lneg, 1) := by decide +kernel
theorem dX5_judgeWeights_159 : decode cX5_judgeWeights 159 = .ok (.lcmp, 1) := by decide +kernel
theorem dX5_judgeWeights_160 : decode cX5_judgeWeights 160 = .ok (.ifCond .ne 7, 3) := by decide +kernel
theorem dX5_judgeWeights_163 : decode cX5_judgeWeights 163 = .ok (.iconst 0, 1) := by decide +kernel
theorem dX5_judgeWeights_164 : decode cX5_judgeWeights 164 = .ok (.goto 4, 3) := by decide +kernel
theorem dX5_judgeWeights_167 : decode cX5_judgeWeights 167 = .ok (.iconst 4, 1) := by decide +kernel
theorem dX5_judgeWeights_168 : decode cX5_judgeWeights 168 = .ok (.ireturn, 1) := by decide +kernel
