theorem dX7_init_0 : decode cX7_init 0 = .ok (.aload_n 0, 1) := by decide +kernel
theorem dX7_init_1 : decode cX7_init 1 = .ok (.invokespecial 3, 3) := by decide +kernel
theorem dX7_init_4 : decode cX7_init 4 = .ok (.aload_n 0, 1) := by decide +kernel
theorem dX7_init_5 : decode cX7_init 5 = .ok (.bipush 9, 2) := by decide +kernel
theorem dX7_init_7 : decode cX7_init 7 = .ok (.newarray .int, 2) := by decide +kernel
theorem dX7_init_9 : decode cX7_init 9 = .ok (.putfield 9, 3) := by decide +kernel
theorem dX7_init_12 : decode cX7_init 12 = .ok (.aload_n 0, 1) := by decide +kernel
theorem dX7_init_13 : decode cX7_init 13 = .ok (.sipush 512, 3) := by decide +kernel
theorem dX7_init_16 : decode cX7_init 16 = .ok (.newarray .int, 2) := by decide +kernel
theorem dX7_init_18 : decode cX7_init 18 = .ok (.putfield 15, 3) := by decide +kernel
theorem dX7_init_21 : decode cX7_init 21 = .ok (.aload_n 0, 1) := by decide +kernel
theorem dX7_init_22 : decode cX7_init 22 = .ok (.bipush 10, 2) := by decide +kernel
theorem dX7_init_24 : decode cX7_init 24 = .ok (.newarray .int, 2) := by decide +kernel
theorem dX7_init_26 : decode cX7_init 26 = .ok (.putfield 18, 3) := by decide +kernel
theorem dX7_init_29 : decode cX7_init 29 = .ok (.aload_n 0, 1) := by decide +kernel
theorem dX7_init_30 : decode cX7_init 30 = .ok (.bipush 10, 2) := by decide +kernel
theorem dX7_init_32 : decode cX7_init 32 = .ok (.newarray .int, 2) := by decide +kernel
theorem dX7_init_34 : decode cX7_init 34 = .ok (.putfield 21, 3) := by decide +kernel
theorem dX7_init_37 : decode cX7_init 37 = .ok (.aload_n 0, 1) := by decide +kernel
theorem dX7_init_38 : decode cX7_init 38 = .ok (.bipush 10, 2) := by decide +kernel
theorem dX7_init_40 : decode cX7_init 40 = .ok (.newarray .int, 2) := by decide +kernel
theorem dX7_init_42 : decode cX7_init 42 = .ok (.putfield 24, 3) := by decide +kernel
theorem dX7_init_45 : decode cX7_init 45 = .ok (.aload_n 0, 1) := by decide +kernel
theorem dX7_init_46 : decode cX7_init 46 = .ok (.bipush 10, 2) := by decide +kernel
theorem dX7_init_48 : decode cX7_init 48 = .ok (.newarray .int, 2) := by decide +kernel
theorem dX7_init_50 : decode cX7_init 50 = .ok (.putfield 27, 3) := by decide +kernel
theorem dX7_init_53 : decode cX7_init 53 = .ok (.aload_n 0, 1) := by decide +kernel
theorem dX7_init_54 : decode cX7_init 54 = .ok (.bipush 7, 2) := by decide +kernel
theorem dX7_init_56 : decode cX7_init 56 = .ok (.newarray .int, 2) := by decide +kernel
theorem dX7_init_58 : decode cX7_init 58 = .ok (.putfield 30, 3) := by decide +kernel
theorem dX7_init_61 : decode cX7_init 61 = .ok (.aload_n 0, 1) := by decide +kernel
theorem dX7_init_62 : decode cX7_init 62 = .ok (.bipush 7, 2) := by decide +kernel
theorem dX7_init_64 : decode cX7_init 64 = .ok (.newarray .int, 2) := by decide +kernel
theorem dX7_init_66 : decode cX7_init 66 = .ok (.putfield 33, 3) := by decide +kernel
theorem dX7_init_69 : decode cX7_init 69 = .ok (.return_, 1) := by decide +kernel
theorem dX7_solvePairings_0 : decode cX7_solvePairings 0 = .ok (.aload_n 0, 1) := by decide +kernel
theorem dX7_solvePairings_1 : decode cX7_solvePairings 1 = .ok (.aload_n 1, 1) := by decide +kernel
theorem dX7_solvePairings_2 : decode cX7_solvePairings 2 = .ok (.invokevirtual 36, 3) := by decide +kernel
theorem dX7_solvePairings_5 : decode cX7_solvePairings 5 = .ok (.iconst 1, 1) := by decide +kernel
theorem dX7_solvePairings_6 : decode cX7_solvePairings 6 = .ok (.aload_n 1, 1) := by decide +kernel
theorem dX7_solvePairings_7 : decode cX7_solvePairings 7 = .ok (.getfield 40, 3) := by decide +kernel
theorem dX7_solvePairings_10 : decode cX7_solvePairings 10 = .ok (.ishl, 1) := by decide +kernel
theorem dX7_solvePairings_11 : decode cX7_solvePairings 11 = .ok (.iconst 1, 1) := by decide +kernel
theorem dX7_solvePairings_12 : decode cX7_solvePairings 12 = .ok (.isub, 1) := by decide +kernel
theorem dX7_solvePairings_13 : decode cX7_solvePairings 13 = .ok (.istore_n 2, 1) := by decide +kernel
theorem dX7_solvePairings_14 : decode cX7_solvePairings 14 = .ok (.aload_n 1, 1) := by decide +kernel
theorem dX7_solvePairings_15 : decode cX7_solvePairings 15 = .ok (.getfield 40, 3) := by decide +kernel
theorem dX7_solvePairings_18 : decode cX7_solvePairings 18 = .ok (.iconst 2, 1) := by decide +kernel
theorem dX7_solvePairings_19 : decode cX7_solvePairings 19 = .ok (.aload_n 0, 1) := by decide +kernel
theorem dX7_solvePairings_20 : decode cX7_solvePairings 20 = .ok (.getfield 15, 3) := by decide +kernel
theorem dX7_solvePairings_23 : decode cX7_solvePairings 23 = .ok (.iload_n 2, 1) := by decide +kernel
theorem dX7_solvePairings_24 : decode cX7_solvePairings 24 = .ok (.iaload, 1) := by decide +kernel
theorem dX7_solvePairings_25 : decode cX7_solvePairings 25 = .ok (.imul, 1) := by decide +kernel
theorem dX7_solvePairings_26 : decode cX7_solvePairings 26 = .ok (.isub, 1) := by decide +kernel
theorem dX7_solvePairings_27 : decode cX7_solvePairings 27 = .ok (.istore_n 3, 1) := by decide +kernel
theorem dX7_solvePairings_28 : decode cX7_solvePairings 28 = .ok (.iload_n 3, 1) := by decide +kernel
theorem dX7_solvePairings_29 : decode cX7_solvePairings 29 = .ok (.aload_n 1, 1) := by decide +kernel
theorem dX7_solvePairings_30 : decode cX7_solvePairings 30 = .ok (.getfield 46, 3) := by decide +kernel
theorem dX7_solvePairings_33 : decode cX7_solvePairings 33 = .ok (.if_icmp .gt 7, 3) := by decide +kernel
theorem dX7_solvePairings_36 : decode cX7_solvePairings 36 = .ok (.iconst 1, 1) := by decide +kernel
theorem dX7_solvePairings_37 : decode cX7_solvePairings 37 = .ok (.goto 4, 3) := by decide +kernel
theorem dX7_solvePairings_40 : decode cX7_solvePairings 40 = .ok (.iconst 0, 1) := by decide +kernel
theorem dX7_solvePairings_41 : decode cX7_solvePairings 41 = .ok (.istore 4, 2) := by decide +kernel
theorem dX7_solvePairings_43 : decode cX7_solvePairings 43 = .ok (.aload_n 1, 1) := by decide +kernel
theorem dX7_solvePairings_44 : decode cX7_solvePairings 44 = .ok (.iload 4, 2) := by decide +kernel
theorem dX7_solvePairings_46 : decode cX7_solvePairings 46 = .ok (.iload_n 3, 1) := by decide +kernel
theorem dX7_solvePairings_47 : decode cX7_solvePairings 47 = .ok (.invokevirtual 49, 3) := by decide +kernel
theorem dX7_solvePairings_50 : decode cX7_solvePairings 50 = .ok (.iload 4, 2) := by decide +kernel
theorem dX7_solvePairings_52 : decode cX7_solvePairings 52 = .ok (.ifCond .eq 18, 3) := by decide +kernel
theorem dX7_solvePairings_55 : decode cX7_solvePairings 55 = .ok (.aload_n 0, 1) := by decide +kernel
theorem dX7_solvePairings_56 : decode cX7_solvePairings 56 = .ok (.aload_n 1, 1) := by decide +kernel
theorem dX7_solvePairings_57 : decode cX7_solvePairings 57 = .ok (.getfield 40, 3) := by decide +kernel
theorem dX7_solvePairings_60 : decode cX7_solvePairings 60 = .ok (.aload_n 1, 1) := by decide +kernel
theorem dX7_solvePairings_61 : decode cX7_solvePairings 61 = .ok (.getfield 53, 3) := by decide +kernel
theorem dX7_solvePairings_64 : decode cX7_solvePairings 64 = .ok (.invokevirtual 57, 3) := by decide +kernel
theorem dX7_solvePairings_67 : decode cX7_solvePairings 67 = .ok (.goto 15, 3) := by decide +kernel
theorem dX7_solvePairings_70 : decode cX7_solvePairings 70 = .ok (.aload_n 0, 1) := by decide +kernel
theorem dX7_solvePairings_71 : decode cX7_solvePairings 71 = .ok (.aload_n 1, 1) := by decide +kernel
theorem dX7_solvePairings_72 : decode cX7_solvePairings 72 = .ok (.getfield 40, 3) := by decide +kernel
theorem dX7_solvePairings_75 : decode cX7_solvePairings 75 = .ok (.aload_n 1, 1) := by decide +kernel
theorem dX7_solvePairings_76 : decode cX7_solvePairings 76 = .ok (.getfield 53, 3) := by decide +kernel
theorem dX7_solvePairings_79 : decode cX7_solvePairings 79 = .ok (.invokevirtual 61, 3) := by decide +kernel
theorem dX7_solvePairings_82 : decode cX7_solvePairings 82 = .ok (.return_, 1) := by decide +kernel
theorem dX7_countPairs_0 : decode cX7_countPairs 0 = .ok (.aload_n 1, 1) := by decide +kernel
theorem dX7_countPairs_1 : decode cX7_countPairs 1 = .ok (.aload_n 0, 1) := by decide +kernel
theorem dX7_countPairs_2 : decode cX7_countPairs 2 = .ok (.getfield 9, 3) := by decide +kernel
theorem dX7_countPairs_5 : decode cX7_countPairs 5 = .ok (.iconst (-1), 1) := by decide +kernel
theorem dX7_countPairs_6 : decode cX7_countPairs 6 = .ok (.invokevirtual 64, 3) := by decide +kernel
theorem dX7_countPairs_9 : decode cX7_countPairs 9 = .ok (.aload_n 0, 1) := by decide +kernel
theorem dX7_countPairs_10 : decode cX7_countPairs 10 = .ok (.getfield 15, 3) := by decide +kernel
theorem dX7_countPairs_13 : decode cX7_countPairs 13 = .ok (.iconst 0, 1) := by decide +kernel
theorem dX7_countPairs_14 : decode cX7_countPairs 14 = .ok (.iconst 0, 1) := by decide +kernel
theorem dX7_countPairs_15 : decode cX7_countPairs 15 = .ok (.iastore, 1) := by decide +kernel
theorem dX7_countPairs_16 : decode cX7_countPairs 16 = .ok (.iconst 1, 1) := by decide +kernel
theorem dX7_countPairs_17 : decode cX7_countPairs 17 = .ok (.istore_n 2, 1) := by decide +kernel
theorem dX7_countPairs_18 : decode cX7_countPairs 18 = .ok (.iload_n 2, 1) := by decide +kernel
theorem dX7_countPairs_19 : decode cX7_countPairs 19 = .ok (.iconst 1, 1) := by decide +kernel
theorem dX7_countPairs_20 : decode cX7_countPairs 20 = .ok (.aload_n 1, 1) := by decide +kernel
theorem dX7_countPairs_21 : decode cX7_countPairs 21 = .ok (.getfield 40, 3) := by decide +kernel
theorem dX7_countPairs_24 : decode cX7_countPairs 24 = .ok (.ishl, 1) := by decide +kernel
theorem dX7_countPairs_25 : decode cX7_countPairs 25 = .ok (.if_icmp .ge 109, 3) := by decide +kernel
theorem dX7_countPairs_28 : decode cX7_countPairs 28 = .ok (.iload_n 2, 1) := by decide +kernel
theorem dX7_countPairs_29 : decode cX7_countPairs 29 = .ok (.aload_n 0, 1) := by decide +kernel
theorem dX7_countPairs_30 : decode cX7_countPairs 30 = .ok (.getfield 15, 3) := by decide +kernel
theorem dX7_countPairs_33 : decode cX7_countPairs 33 = .ok (.arraylength, 1) := by decide +kernel
theorem dX7_countPairs_34 : decode cX7_countPairs 34 = .ok (.if_icmp .ge 100, 3) := by decide +kernel
theorem dX7_countPairs_37 : decode cX7_countPairs 37 = .ok (.iload_n 2, 1) := by decide +kernel
theorem dX7_countPairs_38 : decode cX7_countPairs 38 = .ok (.invokestatic 68, 3) := by decide +kernel
theorem dX7_countPairs_41 : decode cX7_countPairs 41 = .ok (.istore_n 3, 1) := by decide +kernel
theorem dX7_countPairs_42 : decode cX7_countPairs 42 = .ok (.iload_n 2, 1) := by decide +kernel
theorem dX7_countPairs_43 : decode cX7_countPairs 43 = .ok (.iconst 1, 1) := by decide +kernel
theorem dX7_countPairs_44 : decode cX7_countPairs 44 = .ok (.iload_n 3, 1) := by decide +kernel
theorem dX7_countPairs_45 : decode cX7_countPairs 45 = .ok (.ishl, 1) := by decide +kernel
theorem dX7_countPairs_46 : decode cX7_countPairs 46 = .ok (.iconst (-1), 1) := by decide +kernel
theorem dX7_countPairs_47 : decode cX7_countPairs 47 = .ok (.ixor, 1) := by decide +kernel
theorem dX7_countPairs_48 : decode cX7_countPairs 48 = .ok (.iand, 1) := by decide +kernel
theorem dX7_countPairs_49 : decode cX7_countPairs 49 = .ok (.istore 4, 2) := by decide +kernel
theorem dX7_countPairs_51 : decode cX7_countPairs 51 = .ok (.aload_n 0, 1) := by decide +kernel
theorem dX7_countPairs_52 : decode cX7_countPairs 52 = .ok (.getfield 15, 3) := by decide +kernel
theorem dX7_countPairs_55 : decode cX7_countPairs 55 = .ok (.iload 4, 2) := by decide +kernel
theorem dX7_countPairs_57 : decode cX7_countPairs 57 = .ok (.iaload, 1) := by decide +kernel
theorem dX7_countPairs_58 : decode cX7_countPairs 58 = .ok (.istore 5, 2) := by decide +kernel
theorem dX7_countPairs_60 : decode cX7_countPairs 60 = .ok (.iload_n 3, 1) := by decide +kernel
theorem dX7_countPairs_61 : decode cX7_countPairs 61 = .ok (.iconst 1, 1) := by decide +kernel
theorem dX7_countPairs_62 : decode cX7_countPairs 62 = .ok (.iadd, 1) := by decide +kernel
theorem dX7_countPairs_63 : decode cX7_countPairs 63 = .ok (.istore 6, 2) := by decide +kernel
theorem dX7_countPairs_65 : decode cX7_countPairs 65 = .ok (.iload 6, 2) := by decide +kernel
theorem dX7_countPairs_67 : decode cX7_countPairs 67 = .ok (.aload_n 1, 1) := by decide +kernel
theorem dX7_countPairs_68 : decode cX7_countPairs 68 = .ok (.getfield 40, 3) := by decide +kernel
theorem dX7_countPairs_71 : decode cX7_countPairs 71 = .ok (.if_icmp .ge 49, 3) := by decide +kernel
theorem dX7_countPairs_74 : decode cX7_countPairs 74 = .ok (.iload 4, 2) := by decide +kernel
theorem dX7_countPairs_76 : decode cX7_countPairs 76 = .ok (.aload_n 0, 1) := by decide +kernel
theorem dX7_countPairs_77 : decode cX7_countPairs 77 = .ok (.getfield 9, 3) := by decide +kernel
theorem dX7_countPairs_80 : decode cX7_countPairs 80 = .ok (.iload_n 3, 1) := by decide +kernel
theorem dX7_countPairs_81 : decode cX7_countPairs 81 = .ok (.iaload, 1) := by decide +kernel
theorem dX7_countPairs_82 : decode cX7_countPairs 82 = .ok (.iand, 1) := by decide +kernel
theorem dX7_countPairs_83 : decode cX7_countPairs 83 = .ok (.iload 6, 2) := by decide +kernel
theorem dX7_countPairs_85 : decode cX7_countPairs 85 = .ok (.invokestatic 72, 3) := by decide +kernel
theorem dX7_countPairs_88 : decode cX7_countPairs 88 = .ok (.ifCond .eq 26, 3) := by decide +kernel
theorem dX7_countPairs_91 : decode cX7_countPairs 91 = .ok (.iload 5, 2) := by decide +kernel
theorem dX7_countPairs_93 : decode cX7_countPairs 93 = .ok (.iconst 1, 1) := by decide +kernel
theorem dX7_countPairs_94 : decode cX7_countPairs 94 = .ok (.aload_n 0, 1) := by decide +kernel
theorem dX7_countPairs_95 : decode cX7_countPairs 95 = .ok (.getfield 15, 3) := by decide +kernel
theorem dX7_countPairs_98 : decode cX7_countPairs 98 = .ok (.iload 4, 2) := by decide +kernel
theorem dX7_countPairs_100 : decode cX7_countPairs 100 = .ok (.iconst 1, 1) := by decide +kernel
theorem dX7_countPairs_101 : decode cX7_countPairs 101 = .ok (.iload 6, 2) := by decide +kernel
theorem dX7_countPairs_103 : decode cX7_countPairs 103 = .ok (.ishl, 1) := by decide +kernel
theorem dX7_countPairs_104 : decode cX7_countPairs 104 = .ok (.iconst (-1), 1) := by decide +kernel
theorem dX7_countPairs_105 : decode cX7_countPairs 105 = .ok (.ixor, 1) := by decide +kernel
theorem dX7_countPairs_106 : decode cX7_countPairs 106 = .ok (.iand, 1) := by decide +kernel
theorem dX7_countPairs_107 : decode cX7_countPairs 107 = .ok (.iaload, 1) := by decide +kernel
theorem dX7_countPairs_108 : decode cX7_countPairs 108 = .ok (.iadd, 1) := by decide +kernel
theorem dX7_countPairs_109 : decode cX7_countPairs 109 = .ok (.invokestatic 76, 3) := by decide +kernel
theorem dX7_countPairs_112 : decode cX7_countPairs 112 = .ok (.istore 5, 2) := by decide +kernel
theorem dX7_countPairs_114 : decode cX7_countPairs 114 = .ok (.iinc 6 1, 3) := by decide +kernel
theorem dX7_countPairs_117 : decode cX7_countPairs 117 = .ok (.goto (-52), 3) := by decide +kernel
theorem dX7_countPairs_120 : decode cX7_countPairs 120 = .ok (.aload_n 0, 1) := by decide +kernel
theorem dX7_countPairs_121 : decode cX7_countPairs 121 = .ok (.getfield 15, 3) := by decide +kernel
theorem dX7_countPairs_124 : decode cX7_countPairs 124 = .ok (.iload_n 2, 1) := by decide +kernel
theorem dX7_countPairs_125 : decode cX7_countPairs 125 = .ok (.iload 5, 2) := by decide +kernel
theorem dX7_countPairs_127 : decode cX7_countPairs 127 = .ok (.iastore, 1) := by decide +kernel
theorem dX7_countPairs_128 : decode cX7_countPairs 128 = .ok (.iinc 2 1, 3) := by decide +kernel
theorem dX7_countPairs_131 : decode cX7_countPairs 131 = .ok (.goto (-113), 3) := by decide +kernel
theorem dX7_countPairs_134 : decode cX7_countPairs 134 = .ok (.return_, 1) := by decide +kernel
theorem dX7_writePairing_0 : decode cX7_writePairing 0 = .ok (.iconst 0, 1) := by decide +kernel
theorem dX7_writePairing_1 : decode cX7_writePairing 1 = .ok (.istore_n 3, 1) := by decide +kernel
theorem dX7_writePairing_2 : decode cX7_writePairing 2 = .ok (.iload_n 3, 1) := by decide +kernel
theorem dX7_writePairing_3 : decode cX7_writePairing 3 = .ok (.iload_n 1, 1) := by decide +kernel
theorem dX7_writePairing_4 : decode cX7_writePairing 4 = .ok (.if_icmp .ge 14, 3) := by decide +kernel
theorem dX7_writePairing_7 : decode cX7_writePairing 7 = .ok (.aload_n 2, 1) := by decide +kernel
theorem dX7_writePairing_8 : decode cX7_writePairing 8 = .ok (.iload_n 3, 1) := by decide +kernel
theorem dX7_writePairing_9 : decode cX7_writePairing 9 = .ok (.invokevirtual 82, 3) := by decide +kernel
theorem dX7_writePairing_12 : decode cX7_writePairing 12 = .ok (.iinc 3 1, 3) := by decide +kernel
theorem dX7_writePairing_15 : decode cX7_writePairing 15 = .ok (.goto (-13), 3) := by decide +kernel
theorem dX7_writePairing_18 : decode cX7_writePairing 18 = .ok (.iconst 1, 1) := by decide +kernel
theorem dX7_writePairing_19 : decode cX7_writePairing 19 = .ok (.iload_n 1, 1) := by decide +kernel
theorem dX7_writePairing_20 : decode cX7_writePairing 20 = .ok (.ishl, 1) := by decide +kernel
theorem dX7_writePairing_21 : decode cX7_writePairing 21 = .ok (.iconst 1, 1) := by decide +kernel
theorem dX7_writePairing_22 : decode cX7_writePairing 22 = .ok (.isub, 1) := by decide +kernel
theorem dX7_writePairing_23 : decode cX7_writePairing 23 = .ok (.istore_n 3, 1) := by decide +kernel
theorem dX7_writePairing_24 : decode cX7_writePairing 24 = .ok (.iconst 0, 1) := by decide +kernel
theorem dX7_writePairing_25 : decode cX7_writePairing 25 = .ok (.istore 4, 2) := by decide +kernel
theorem dX7_writePairing_27 : decode cX7_writePairing 27 = .ok (.iload 4, 2) := by decide +kernel
theorem dX7_writePairing_29 : decode cX7_writePairing 29 = .ok (.iload_n 1, 1) := by decide +kernel
theorem dX7_writePairing_30 : decode cX7_writePairing 30 = .ok (.if_icmp .ge 58, 3) := by decide +kernel
theorem dX7_writePairing_33 : decode cX7_writePairing 33 = .ok (.iload_n 3, 1) := by decide +kernel
theorem dX7_writePairing_34 : decode cX7_writePairing 34 = .ok (.iload 4, 2) := by decide +kernel
theorem dX7_writePairing_36 : decode cX7_writePairing 36 = .ok (.invokestatic 72, 3) := by decide +kernel
theorem dX7_writePairing_39 : decode cX7_writePairing 39 = .ok (.ifCond .eq 43, 3) := by decide +kernel
theorem dX7_writePairing_42 : decode cX7_writePairing 42 = .ok (.aload_n 0, 1) := by decide +kernel
theorem dX7_writePairing_43 : decode cX7_writePairing 43 = .ok (.iload 4, 2) := by decide +kernel
theorem dX7_writePairing_45 : decode cX7_writePairing 45 = .ok (.iload_n 3, 1) := by decide +kernel
theorem dX7_writePairing_46 : decode cX7_writePairing 46 = .ok (.iload_n 1, 1) := by decide +kernel
theorem dX7_writePairing_47 : decode cX7_writePairing 47 = .ok (.invokevirtual 88, 3) := by decide +kernel
theorem dX7_writePairing_50 : decode cX7_writePairing 50 = .ok (.istore 5, 2) := by decide +kernel
theorem dX7_writePairing_52 : decode cX7_writePairing 52 = .ok (.aload_n 2, 1) := by decide +kernel
theorem dX7_writePairing_53 : decode cX7_writePairing 53 = .ok (.iload 4, 2) := by decide +kernel
theorem dX7_writePairing_55 : decode cX7_writePairing 55 = .ok (.iload 5, 2) := by decide +kernel
theorem dX7_writePairing_57 : decode cX7_writePairing 57 = .ok (.invokevirtual 92, 3) := by decide +kernel
theorem dX7_writePairing_60 : decode cX7_writePairing 60 = .ok (.aload_n 2, 1) := by decide +kernel
theorem dX7_writePairing_61 : decode cX7_writePairing 61 = .ok (.iload 5, 2) := by decide +kernel
theorem dX7_writePairing_63 : decode cX7_writePairing 63 = .ok (.iload 4, 2) := by decide +kernel
theorem dX7_writePairing_65 : decode cX7_writePairing 65 = .ok (.invokevirtual 92, 3) := by decide +kernel
theorem dX7_writePairing_68 : decode cX7_writePairing 68 = .ok (.iload_n 3, 1) := by decide +kernel
theorem dX7_writePairing_69 : decode cX7_writePairing 69 = .ok (.iconst 1, 1) := by decide +kernel
theorem dX7_writePairing_70 : decode cX7_writePairing 70 = .ok (.iload 4, 2) := by decide +kernel
theorem dX7_writePairing_72 : decode cX7_writePairing 72 = .ok (.ishl, 1) := by decide +kernel
theorem dX7_writePairing_73 : decode cX7_writePairing 73 = .ok (.iconst 1, 1) := by decide +kernel
theorem dX7_writePairing_74 : decode cX7_writePairing 74 = .ok (.iload 5, 2) := by decide +kernel
theorem dX7_writePairing_76 : decode cX7_writePairing 76 = .ok (.ishl, 1) := by decide +kernel
theorem dX7_writePairing_77 : decode cX7_writePairing 77 = .ok (.ior, 1) := by decide +kernel
theorem dX7_writePairing_78 : decode cX7_writePairing 78 = .ok (.iconst (-1), 1) := by decide +kernel
theorem dX7_writePairing_79 : decode cX7_writePairing 79 = .ok (.ixor, 1) := by decide +kernel
theorem dX7_writePairing_80 : decode cX7_writePairing 80 = .ok (.iand, 1) := by decide +kernel
theorem dX7_writePairing_81 : decode cX7_writePairing 81 = .ok (.istore_n 3, 1) := by decide +kernel
theorem dX7_writePairing_82 : decode cX7_writePairing 82 = .ok (.iinc 4 1, 3) := by decide +kernel
theorem dX7_writePairing_85 : decode cX7_writePairing 85 = .ok (.goto (-58), 3) := by decide +kernel
theorem dX7_writePairing_88 : decode cX7_writePairing 88 = .ok (.return_, 1) := by decide +kernel
theorem dX7_partnerOf_0 : decode cX7_partnerOf 0 = .ok (.iload_n 2, 1) := by decide +kernel
theorem dX7_partnerOf_1 : decode cX7_partnerOf 1 = .ok (.iconst 1, 1) := by decide +kernel
theorem dX7_partnerOf_2 : decode cX7_partnerOf 2 = .ok (.iload_n 1, 1) := by decide +kernel
theorem dX7_partnerOf_3 : decode cX7_partnerOf 3 = .ok (.ishl, 1) := by decide +kernel
theorem dX7_partnerOf_4 : decode cX7_partnerOf 4 = .ok (.iconst (-1), 1) := by decide +kernel
theorem dX7_partnerOf_5 : decode cX7_partnerOf 5 = .ok (.ixor, 1) := by decide +kernel
theorem dX7_partnerOf_6 : decode cX7_partnerOf 6 = .ok (.iand, 1) := by decide +kernel
theorem dX7_partnerOf_7 : decode cX7_partnerOf 7 = .ok (.istore 4, 2) := by decide +kernel
theorem dX7_partnerOf_9 : decode cX7_partnerOf 9 = .ok (.aload_n 0, 1) := by decide +kernel
theorem dX7_partnerOf_10 : decode cX7_partnerOf 10 = .ok (.getfield 15, 3) := by decide +kernel
theorem dX7_partnerOf_13 : decode cX7_partnerOf 13 = .ok (.iload 4, 2) := by decide +kernel
theorem dX7_partnerOf_15 : decode cX7_partnerOf 15 = .ok (.iaload, 1) := by decide +kernel
theorem dX7_partnerOf_16 : decode cX7_partnerOf 16 = .ok (.aload_n 0, 1) := by decide +kernel
theorem dX7_partnerOf_17 : decode cX7_partnerOf 17 = .ok (.getfield 15, 3) := by decide +kernel
theorem dX7_partnerOf_20 : decode cX7_partnerOf 20 = .ok (.iload_n 2, 1) := by decide +kernel
theorem dX7_partnerOf_21 : decode cX7_partnerOf 21 = .ok (.iaload, 1) := by decide +kernel
theorem dX7_partnerOf_22 : decode cX7_partnerOf 22 = .ok (.if_icmp .ne 5, 3) := by decide +kernel
theorem dX7_partnerOf_25 : decode cX7_partnerOf 25 = .ok (.iload_n 1, 1) := by decide +kernel
theorem dX7_partnerOf_26 : decode cX7_partnerOf 26 = .ok (.ireturn, 1) := by decide +kernel
theorem dX7_partnerOf_27 : decode cX7_partnerOf 27 = .ok (.iload_n 1, 1) := by decide +kernel
theorem dX7_partnerOf_28 : decode cX7_partnerOf 28 = .ok (.iconst 1, 1) := by decide +kernel
theorem dX7_partnerOf_29 : decode cX7_partnerOf 29 = .ok (.iadd, 1) := by decide +kernel
theorem dX7_partnerOf_30 : decode cX7_partnerOf 30 = .ok (.istore 5, 2) := by decide +kernel
theorem dX7_partnerOf_32 : decode cX7_partnerOf 32 = .ok (.iload 5, 2) := by decide +kernel
theorem dX7_partnerOf_34 : decode cX7_partnerOf 34 = .ok (.iload_n 3, 1) := by decide +kernel
theorem dX7_partnerOf_35 : decode cX7_partnerOf 35 = .ok (.if_icmp .ge 54, 3) := by decide +kernel
theorem dX7_partnerOf_38 : decode cX7_partnerOf 38 = .ok (.iload 4, 2) := by decide +kernel
theorem dX7_partnerOf_40 : decode cX7_partnerOf 40 = .ok (.aload_n 0, 1) := by decide +kernel
theorem dX7_partnerOf_41 : decode cX7_partnerOf 41 = .ok (.getfield 9, 3) := by decide +kernel
theorem dX7_partnerOf_44 : decode cX7_partnerOf 44 = .ok (.iload_n 1, 1) := by decide +kernel
theorem dX7_partnerOf_45 : decode cX7_partnerOf 45 = .ok (.iaload, 1) := by decide +kernel
theorem dX7_partnerOf_46 : decode cX7_partnerOf 46 = .ok (.iand, 1) := by decide +kernel
theorem dX7_partnerOf_47 : decode cX7_partnerOf 47 = .ok (.iload 5, 2) := by decide +kernel
theorem dX7_partnerOf_49 : decode cX7_partnerOf 49 = .ok (.invokestatic 72, 3) := by decide +kernel
theorem dX7_partnerOf_52 : decode cX7_partnerOf 52 = .ok (.ifCond .eq 31, 3) := by decide +kernel
theorem dX7_partnerOf_55 : decode cX7_partnerOf 55 = .ok (.aload_n 0, 1) := by decide +kernel
theorem dX7_partnerOf_56 : decode cX7_partnerOf 56 = .ok (.getfield 15, 3) := by decide +kernel
theorem dX7_partnerOf_59 : decode cX7_partnerOf 59 = .ok (.iload 4, 2) := by decide +kernel
theorem dX7_partnerOf_61 : decode cX7_partnerOf 61 = .ok (.iconst 1, 1) := by decide +kernel
theorem dX7_partnerOf_62 : decode cX7_partnerOf 62 = .ok (.iload 5, 2) := by decide +kernel
theorem dX7_partnerOf_64 : decode cX7_partnerOf 64 = .ok (.ishl, 1) := by decide +kernel
theorem dX7_partnerOf_65 : decode cX7_partnerOf 65 = .ok (.iconst (-1), 1) := by decide +kernel
theorem dX7_partnerOf_66 : decode cX7_partnerOf 66 = .ok (.ixor, 1) := by decide +kernel
theorem dX7_partnerOf_67 : decode cX7_partnerOf 67 = .ok (.iand, 1) := by decide +kernel
theorem dX7_partnerOf_68 : decode cX7_partnerOf 68 = .ok (.iaload, 1) := by decide +kernel
theorem dX7_partnerOf_69 : decode cX7_partnerOf 69 = .ok (.iconst 1, 1) := by decide +kernel
theorem dX7_partnerOf_70 : decode cX7_partnerOf 70 = .ok (.iadd, 1) := by decide +kernel
theorem dX7_partnerOf_71 : decode cX7_partnerOf 71 = .ok (.aload_n 0, 1) := by decide +kernel
theorem dX7_partnerOf_72 : decode cX7_partnerOf 72 = .ok (.getfield 15, 3) := by decide +kernel
theorem dX7_partnerOf_75 : decode cX7_partnerOf 75 = .ok (.iload_n 2, 1) := by decide +kernel
theorem dX7_partnerOf_76 : decode cX7_partnerOf 76 = .ok (.iaload, 1) := by decide +kernel
theorem dX7_partnerOf_77 : decode cX7_partnerOf 77 = .ok (.if_icmp .ne 6, 3) := by decide +kernel
theorem dX7_partnerOf_80 : decode cX7_partnerOf 80 = .ok (.iload 5, 2) := by decide +kernel
theorem dX7_partnerOf_82 : decode cX7_partnerOf 82 = .ok (.ireturn, 1) := by decide +kernel
theorem dX7_partnerOf_83 : decode cX7_partnerOf 83 = .ok (.iinc 5 1, 3) := by decide +kernel
theorem dX7_partnerOf_86 : decode cX7_partnerOf 86 = .ok (.goto (-54), 3) := by decide +kernel
theorem dX7_partnerOf_89 : decode cX7_partnerOf 89 = .ok (.iload_n 1, 1) := by decide +kernel
theorem dX7_partnerOf_90 : decode cX7_partnerOf 90 = .ok (.ireturn, 1) := by decide +kernel
theorem dX7_writeNodes_0 : decode cX7_writeNodes 0 = .ok (.iconst 0, 1) := by decide +kernel
theorem dX7_writeNodes_1 : decode cX7_writeNodes 1 = .ok (.istore_n 3, 1) := by decide +kernel
theorem dX7_writeNodes_2 : decode cX7_writeNodes 2 = .ok (.iload_n 3, 1) := by decide +kernel
theorem dX7_writeNodes_3 : decode cX7_writeNodes 3 = .ok (.iload_n 1, 1) := by decide +kernel
theorem dX7_writeNodes_4 : decode cX7_writeNodes 4 = .ok (.if_icmp .ge 25, 3) := by decide +kernel
theorem dX7_writeNodes_7 : decode cX7_writeNodes 7 = .ok (.aload_n 0, 1) := by decide +kernel
theorem dX7_writeNodes_8 : decode cX7_writeNodes 8 = .ok (.iload_n 1, 1) := by decide +kernel
theorem dX7_writeNodes_9 : decode cX7_writeNodes 9 = .ok (.iload_n 3, 1) := by decide +kernel
theorem dX7_writeNodes_10 : decode cX7_writeNodes 10 = .ok (.invokevirtual 96, 3) := by decide +kernel
theorem dX7_writeNodes_13 : decode cX7_writeNodes 13 = .ok (.bipush 97, 2) := by decide +kernel
theorem dX7_writeNodes_15 : decode cX7_writeNodes 15 = .ok (.if_icmp .ne 8, 3) := by decide +kernel
theorem dX7_writeNodes_18 : decode cX7_writeNodes 18 = .ok (.aload_n 2, 1) := by decide +kernel
theorem dX7_writeNodes_19 : decode cX7_writeNodes 19 = .ok (.iload_n 3, 1) := by decide +kernel
theorem dX7_writeNodes_20 : decode cX7_writeNodes 20 = .ok (.invokevirtual 82, 3) := by decide +kernel
theorem dX7_writeNodes_23 : decode cX7_writeNodes 23 = .ok (.iinc 3 1, 3) := by decide +kernel
theorem dX7_writeNodes_26 : decode cX7_writeNodes 26 = .ok (.goto (-24), 3) := by decide +kernel
theorem dX7_writeNodes_29 : decode cX7_writeNodes 29 = .ok (.return_, 1) := by decide +kernel
theorem dX7_letterOf_0 : decode cX7_letterOf 0 = .ok (.aload_n 0, 1) := by decide +kernel
theorem dX7_letterOf_1 : decode cX7_letterOf 1 = .ok (.iload_n 1, 1) := by decide +kernel
theorem dX7_letterOf_2 : decode cX7_letterOf 2 = .ok (.iload_n 2, 1) := by decide +kernel
theorem dX7_letterOf_3 : decode cX7_letterOf 3 = .ok (.invokevirtual 100, 3) := by decide +kernel
theorem dX7_letterOf_6 : decode cX7_letterOf 6 = .ok (.ifCond .eq 6, 3) := by decide +kernel
theorem dX7_letterOf_9 : decode cX7_letterOf 9 = .ok (.bipush 100, 2) := by decide +kernel
theorem dX7_letterOf_11 : decode cX7_letterOf 11 = .ok (.ireturn, 1) := by decide +kernel
theorem dX7_letterOf_12 : decode cX7_letterOf 12 = .ok (.iconst 0, 1) := by decide +kernel
theorem dX7_letterOf_13 : decode cX7_letterOf 13 = .ok (.istore_n 3, 1) := by decide +kernel
theorem dX7_letterOf_14 : decode cX7_letterOf 14 = .ok (.iload_n 3, 1) := by decide +kernel
theorem dX7_letterOf_15 : decode cX7_letterOf 15 = .ok (.iload_n 1, 1) := by decide +kernel
theorem dX7_letterOf_16 : decode cX7_letterOf 16 = .ok (.if_icmp .ge 34, 3) := by decide +kernel
theorem dX7_letterOf_19 : decode cX7_letterOf 19 = .ok (.aload_n 0, 1) := by decide +kernel
theorem dX7_letterOf_20 : decode cX7_letterOf 20 = .ok (.getfield 9, 3) := by decide +kernel
theorem dX7_letterOf_23 : decode cX7_letterOf 23 = .ok (.iload_n 2, 1) := by decide +kernel
theorem dX7_letterOf_24 : decode cX7_letterOf 24 = .ok (.iaload, 1) := by decide +kernel
theorem dX7_letterOf_25 : decode cX7_letterOf 25 = .ok (.iload_n 3, 1) := by decide +kernel
theorem dX7_letterOf_26 : decode cX7_letterOf 26 = .ok (.invokestatic 72, 3) := by decide +kernel
theorem dX7_letterOf_29 : decode cX7_letterOf 29 = .ok (.ifCond .eq 15, 3) := by decide +kernel
theorem dX7_letterOf_32 : decode cX7_letterOf 32 = .ok (.aload_n 0, 1) := by decide +kernel
theorem dX7_letterOf_33 : decode cX7_letterOf 33 = .ok (.iload_n 1, 1) := by decide +kernel
theorem dX7_letterOf_34 : decode cX7_letterOf 34 = .ok (.iload_n 3, 1) := by decide +kernel
theorem dX7_letterOf_35 : decode cX7_letterOf 35 = .ok (.invokevirtual 100, 3) := by decide +kernel
theorem dX7_letterOf_38 : decode cX7_letterOf 38 = .ok (.ifCond .eq 6, 3) := by decide +kernel
theorem dX7_letterOf_41 : decode cX7_letterOf 41 = .ok (.bipush 97, 2) := by decide +kernel
theorem dX7_letterOf_43 : decode cX7_letterOf 43 = .ok (.ireturn, 1) := by decide +kernel
theorem dX7_letterOf_44 : decode cX7_letterOf 44 = .ok (.iinc 3 1, 3) := by decide +kernel
theorem dX7_letterOf_47 : decode cX7_letterOf 47 = .ok (.goto (-33), 3) := by decide +kernel
theorem dX7_letterOf_50 : decode cX7_letterOf 50 = .ok (.bipush 99, 2) := by decide +kernel
theorem dX7_letterOf_52 : decode cX7_letterOf 52 = .ok (.ireturn, 1) := by decide +kernel
theorem dX7_canBeAlone_0 : decode cX7_canBeAlone 0 = .ok (.iconst 1, 1) := by decide +kernel
theorem dX7_canBeAlone_1 : decode cX7_canBeAlone 1 = .ok (.iload_n 1, 1) := by decide +kernel
theorem dX7_canBeAlone_2 : decode cX7_canBeAlone 2 = .ok (.ishl, 1) := by decide +kernel
theorem dX7_canBeAlone_3 : decode cX7_canBeAlone 3 = .ok (.iconst 1, 1) := by decide +kernel
theorem dX7_canBeAlone_4 : decode cX7_canBeAlone 4 = .ok (.isub, 1) := by decide +kernel
theorem dX7_canBeAlone_5 : decode cX7_canBeAlone 5 = .ok (.istore_n 3, 1) := by decide +kernel
theorem dX7_canBeAlone_6 : decode cX7_canBeAlone 6 = .ok (.aload_n 0, 1) := by decide +kernel
theorem dX7_canBeAlone_7 : decode cX7_canBeAlone 7 = .ok (.getfield 15, 3) := by decide +kernel
theorem dX7_canBeAlone_10 : decode cX7_canBeAlone 10 = .ok (.iload_n 3, 1) := by decide +kernel
theorem dX7_canBeAlone_11 : decode cX7_canBeAlone 11 = .ok (.iconst 1, 1) := by decide +kernel
theorem dX7_canBeAlone_12 : decode cX7_canBeAlone 12 = .ok (.iload_n 2, 1) := by decide +kernel
theorem dX7_canBeAlone_13 : decode cX7_canBeAlone 13 = .ok (.ishl, 1) := by decide +kernel
theorem dX7_canBeAlone_14 : decode cX7_canBeAlone 14 = .ok (.iconst (-1), 1) := by decide +kernel
theorem dX7_canBeAlone_15 : decode cX7_canBeAlone 15 = .ok (.ixor, 1) := by decide +kernel
theorem dX7_canBeAlone_16 : decode cX7_canBeAlone 16 = .ok (.iand, 1) := by decide +kernel
theorem dX7_canBeAlone_17 : decode cX7_canBeAlone 17 = .ok (.iaload, 1) := by decide +kernel
theorem dX7_canBeAlone_18 : decode cX7_canBeAlone 18 = .ok (.aload_n 0, 1) := by decide +kernel
theorem dX7_canBeAlone_19 : decode cX7_canBeAlone 19 = .ok (.getfield 15, 3) := by decide +kernel
theorem dX7_canBeAlone_22 : decode cX7_canBeAlone 22 = .ok (.iload_n 3, 1) := by decide +kernel
theorem dX7_canBeAlone_23 : decode cX7_canBeAlone 23 = .ok (.iaload, 1) := by decide +kernel
theorem dX7_canBeAlone_24 : decode cX7_canBeAlone 24 = .ok (.if_icmp .ne 7, 3) := by decide +kernel
theorem dX7_canBeAlone_27 : decode cX7_canBeAlone 27 = .ok (.iconst 1, 1) := by decide +kernel
theorem dX7_canBeAlone_28 : decode cX7_canBeAlone 28 = .ok (.goto 4, 3) := by decide +kernel
theorem dX7_canBeAlone_31 : decode cX7_canBeAlone 31 = .ok (.iconst 0, 1) := by decide +kernel
theorem dX7_canBeAlone_32 : decode cX7_canBeAlone 32 = .ok (.ireturn, 1) := by decide +kernel
theorem dX7_judgePairing_0 : decode cX7_judgePairing 0 = .ok (.aload_n 1, 1) := by decide +kernel
theorem dX7_judgePairing_1 : decode cX7_judgePairing 1 = .ok (.getfield 40, 3) := by decide +kernel
theorem dX7_judgePairing_4 : decode cX7_judgePairing 4 = .ok (.istore_n 3, 1) := by decide +kernel
theorem dX7_judgePairing_5 : decode cX7_judgePairing 5 = .ok (.aload_n 2, 1) := by decide +kernel
theorem dX7_judgePairing_6 : decode cX7_judgePairing 6 = .ok (.getfield 103, 3) := by decide +kernel
theorem dX7_judgePairing_9 : decode cX7_judgePairing 9 = .ok (.iload_n 3, 1) := by decide +kernel
theorem dX7_judgePairing_10 : decode cX7_judgePairing 10 = .ok (.if_icmp .ne 15, 3) := by decide +kernel
theorem dX7_judgePairing_13 : decode cX7_judgePairing 13 = .ok (.aload_n 2, 1) := by decide +kernel
theorem dX7_judgePairing_14 : decode cX7_judgePairing 14 = .ok (.iconst 0, 1) := by decide +kernel
theorem dX7_judgePairing_15 : decode cX7_judgePairing 15 = .ok (.iconst 0, 1) := by decide +kernel
theorem dX7_judgePairing_16 : decode cX7_judgePairing 16 = .ok (.iload_n 3, 1) := by decide +kernel
theorem dX7_judgePairing_17 : decode cX7_judgePairing 17 = .ok (.iconst 1, 1) := by decide +kernel
theorem dX7_judgePairing_18 : decode cX7_judgePairing 18 = .ok (.isub, 1) := by decide +kernel
theorem dX7_judgePairing_19 : decode cX7_judgePairing 19 = .ok (.invokevirtual 106, 3) := by decide +kernel
theorem dX7_judgePairing_22 : decode cX7_judgePairing 22 = .ok (.ifCond .ne 5, 3) := by decide +kernel
theorem dX7_judgePairing_25 : decode cX7_judgePairing 25 = .ok (.iconst 1, 1) := by decide +kernel
theorem dX7_judgePairing_26 : decode cX7_judgePairing 26 = .ok (.ireturn, 1) := by decide +kernel
theorem dX7_judgePairing_27 : decode cX7_judgePairing 27 = .ok (.aload_n 1, 1) := by decide +kernel
theorem dX7_judgePairing_28 : decode cX7_judgePairing 28 = .ok (.aload_n 0, 1) := by decide +kernel
theorem dX7_judgePairing_29 : decode cX7_judgePairing 29 = .ok (.getfield 9, 3) := by decide +kernel
theorem dX7_judgePairing_32 : decode cX7_judgePairing 32 = .ok (.iconst (-1), 1) := by decide +kernel
theorem dX7_judgePairing_33 : decode cX7_judgePairing 33 = .ok (.invokevirtual 64, 3) := by decide +kernel
theorem dX7_judgePairing_36 : decode cX7_judgePairing 36 = .ok (.iconst 0, 1) := by decide +kernel
theorem dX7_judgePairing_37 : decode cX7_judgePairing 37 = .ok (.istore 4, 2) := by decide +kernel
theorem dX7_judgePairing_39 : decode cX7_judgePairing 39 = .ok (.iconst 0, 1) := by decide +kernel
theorem dX7_judgePairing_40 : decode cX7_judgePairing 40 = .ok (.istore 5, 2) := by decide +kernel
theorem dX7_judgePairing_42 : decode cX7_judgePairing 42 = .ok (.iload 5, 2) := by decide +kernel
theorem dX7_judgePairing_44 : decode cX7_judgePairing 44 = .ok (.iload_n 3, 1) := by decide +kernel
theorem dX7_judgePairing_45 : decode cX7_judgePairing 45 = .ok (.if_icmp .ge 26, 3) := by decide +kernel
theorem dX7_judgePairing_48 : decode cX7_judgePairing 48 = .ok (.aload_n 2, 1) := by decide +kernel
theorem dX7_judgePairing_49 : decode cX7_judgePairing 49 = .ok (.aload_n 2, 1) := by decide +kernel
theorem dX7_judgePairing_50 : decode cX7_judgePairing 50 = .ok (.iload 5, 2) := by decide +kernel
theorem dX7_judgePairing_52 : decode cX7_judgePairing 52 = .ok (.invokevirtual 110, 3) := by decide +kernel
theorem dX7_judgePairing_55 : decode cX7_judgePairing 55 = .ok (.invokevirtual 110, 3) := by decide +kernel
theorem dX7_judgePairing_58 : decode cX7_judgePairing 58 = .ok (.iload 5, 2) := by decide +kernel
theorem dX7_judgePairing_60 : decode cX7_judgePairing 60 = .ok (.if_icmp .eq 5, 3) := by decide +kernel
theorem dX7_judgePairing_63 : decode cX7_judgePairing 63 = .ok (.iconst 2, 1) := by decide +kernel
theorem dX7_judgePairing_64 : decode cX7_judgePairing 64 = .ok (.ireturn, 1) := by decide +kernel
theorem dX7_judgePairing_65 : decode cX7_judgePairing 65 = .ok (.iinc 5 1, 3) := by decide +kernel
theorem dX7_judgePairing_68 : decode cX7_judgePairing 68 = .ok (.goto (-26), 3) := by decide +kernel
theorem dX7_judgePairing_71 : decode cX7_judgePairing 71 = .ok (.iconst 0, 1) := by decide +kernel
theorem dX7_judgePairing_72 : decode cX7_judgePairing 72 = .ok (.istore 5, 2) := by decide +kernel
theorem dX7_judgePairing_74 : decode cX7_judgePairing 74 = .ok (.iload 5, 2) := by decide +kernel
theorem dX7_judgePairing_76 : decode cX7_judgePairing 76 = .ok (.iload_n 3, 1) := by decide +kernel
theorem dX7_judgePairing_77 : decode cX7_judgePairing 77 = .ok (.if_icmp .ge 47, 3) := by decide +kernel
theorem dX7_judgePairing_80 : decode cX7_judgePairing 80 = .ok (.aload_n 2, 1) := by decide +kernel
theorem dX7_judgePairing_81 : decode cX7_judgePairing 81 = .ok (.iload 5, 2) := by decide +kernel
theorem dX7_judgePairing_83 : decode cX7_judgePairing 83 = .ok (.invokevirtual 110, 3) := by decide +kernel
theorem dX7_judgePairing_86 : decode cX7_judgePairing 86 = .ok (.iload 5, 2) := by decide +kernel
theorem dX7_judgePairing_88 : decode cX7_judgePairing 88 = .ok (.if_icmp .ne 9, 3) := by decide +kernel
theorem dX7_judgePairing_91 : decode cX7_judgePairing 91 = .ok (.iinc 4 1, 3) := by decide +kernel
theorem dX7_judgePairing_94 : decode cX7_judgePairing 94 = .ok (.goto 24, 3) := by decide +kernel
theorem dX7_judgePairing_97 : decode cX7_judgePairing 97 = .ok (.aload_n 0, 1) := by decide +kernel
theorem dX7_judgePairing_98 : decode cX7_judgePairing 98 = .ok (.getfield 9, 3) := by decide +kernel
theorem dX7_judgePairing_101 : decode cX7_judgePairing 101 = .ok (.iload 5, 2) := by decide +kernel
theorem dX7_judgePairing_103 : decode cX7_judgePairing 103 = .ok (.iaload, 1) := by decide +kernel
theorem dX7_judgePairing_104 : decode cX7_judgePairing 104 = .ok (.aload_n 2, 1) := by decide +kernel
theorem dX7_judgePairing_105 : decode cX7_judgePairing 105 = .ok (.iload 5, 2) := by decide +kernel
theorem dX7_judgePairing_107 : decode cX7_judgePairing 107 = .ok (.invokevirtual 110, 3) := by decide +kernel
theorem dX7_judgePairing_110 : decode cX7_judgePairing 110 = .ok (.invokestatic 72, 3) := by decide +kernel
theorem dX7_judgePairing_113 : decode cX7_judgePairing 113 = .ok (.ifCond .ne 5, 3) := by decide +kernel
theorem dX7_judgePairing_116 : decode cX7_judgePairing 116 = .ok (.iconst 3, 1) := by decide +kernel
theorem dX7_judgePairing_117 : decode cX7_judgePairing 117 = .ok (.ireturn, 1) := by decide +kernel
theorem dX7_judgePairing_118 : decode cX7_judgePairing 118 = .ok (.iinc 5 1, 3) := by decide +kernel
theorem dX7_judgePairing_121 : decode cX7_judgePairing 121 = .ok (.goto (-47), 3) := by decide +kernel
theorem dX7_judgePairing_124 : decode cX7_judgePairing 124 = .ok (.iload 4, 2) := by decide +kernel
theorem dX7_judgePairing_126 : decode cX7_judgePairing 126 = .ok (.aload_n 1, 1) := by decide +kernel
theorem dX7_judgePairing_127 : decode cX7_judgePairing 127 = .ok (.getfield 46, 3) := by decide +kernel
theorem dX7_judgePairing_130 : decode cX7_judgePairing 130 = .ok (.if_icmp .le 7, 3) := by decide +kernel
theorem dX7_judgePairing_133 : decode cX7_judgePairing 133 = .ok (.iconst 4, 1) := by decide +kernel
theorem dX7_judgePairing_134 : decode cX7_judgePairing 134 = .ok (.goto 4, 3) := by decide +kernel
theorem dX7_judgePairing_137 : decode cX7_judgePairing 137 = .ok (.iconst 0, 1) := by decide +kernel
theorem dX7_judgePairing_138 : decode cX7_judgePairing 138 = .ok (.ireturn, 1) := by decide +kernel
theorem dX7_judgeNodes_0 : decode cX7_judgeNodes 0 = .ok (.aload_n 1, 1) := by decide +kernel
theorem dX7_judgeNodes_1 : decode cX7_judgeNodes 1 = .ok (.getfield 40, 3) := by decide +kernel
theorem dX7_judgeNodes_4 : decode cX7_judgeNodes 4 = .ok (.istore_n 3, 1) := by decide +kernel
theorem dX7_judgeNodes_5 : decode cX7_judgeNodes 5 = .ok (.aload_n 2, 1) := by decide +kernel
theorem dX7_judgeNodes_6 : decode cX7_judgeNodes 6 = .ok (.iconst 0, 1) := by decide +kernel
theorem dX7_judgeNodes_7 : decode cX7_judgeNodes 7 = .ok (.iconst 0, 1) := by decide +kernel
theorem dX7_judgeNodes_8 : decode cX7_judgeNodes 8 = .ok (.iload_n 3, 1) := by decide +kernel
theorem dX7_judgeNodes_9 : decode cX7_judgeNodes 9 = .ok (.iconst 1, 1) := by decide +kernel
theorem dX7_judgeNodes_10 : decode cX7_judgeNodes 10 = .ok (.isub, 1) := by decide +kernel
theorem dX7_judgeNodes_11 : decode cX7_judgeNodes 11 = .ok (.invokevirtual 106, 3) := by decide +kernel
theorem dX7_judgeNodes_14 : decode cX7_judgeNodes 14 = .ok (.ifCond .eq 11, 3) := by decide +kernel
theorem dX7_judgeNodes_17 : decode cX7_judgeNodes 17 = .ok (.aload_n 2, 1) := by decide +kernel
theorem dX7_judgeNodes_18 : decode cX7_judgeNodes 18 = .ok (.iconst 0, 1) := by decide +kernel
theorem dX7_judgeNodes_19 : decode cX7_judgeNodes 19 = .ok (.invokevirtual 113, 3) := by decide +kernel
theorem dX7_judgeNodes_22 : decode cX7_judgeNodes 22 = .ok (.ifCond .ne 5, 3) := by decide +kernel
theorem dX7_judgeNodes_25 : decode cX7_judgeNodes 25 = .ok (.iconst 1, 1) := by decide +kernel
theorem dX7_judgeNodes_26 : decode cX7_judgeNodes 26 = .ok (.ireturn, 1) := by decide +kernel
theorem dX7_judgeNodes_27 : decode cX7_judgeNodes 27 = .ok (.aload_n 1, 1) := by decide +kernel
theorem dX7_judgeNodes_28 : decode cX7_judgeNodes 28 = .ok (.aload_n 0, 1) := by decide +kernel
theorem dX7_judgeNodes_29 : decode cX7_judgeNodes 29 = .ok (.getfield 9, 3) := by decide +kernel
theorem dX7_judgeNodes_32 : decode cX7_judgeNodes 32 = .ok (.iconst (-1), 1) := by decide +kernel
theorem dX7_judgeNodes_33 : decode cX7_judgeNodes 33 = .ok (.invokevirtual 64, 3) := by decide +kernel
theorem dX7_judgeNodes_36 : decode cX7_judgeNodes 36 = .ok (.iconst 1, 1) := by decide +kernel
theorem dX7_judgeNodes_37 : decode cX7_judgeNodes 37 = .ok (.iload_n 3, 1) := by decide +kernel
theorem dX7_judgeNodes_38 : decode cX7_judgeNodes 38 = .ok (.ishl, 1) := by decide +kernel
theorem dX7_judgeNodes_39 : decode cX7_judgeNodes 39 = .ok (.iconst 1, 1) := by decide +kernel
theorem dX7_judgeNodes_40 : decode cX7_judgeNodes 40 = .ok (.isub, 1) := by decide +kernel
theorem dX7_judgeNodes_41 : decode cX7_judgeNodes 41 = .ok (.istore 4, 2) := by decide +kernel
theorem dX7_judgeNodes_43 : decode cX7_judgeNodes 43 = .ok (.iconst 0, 1) := by decide +kernel
theorem dX7_judgeNodes_44 : decode cX7_judgeNodes 44 = .ok (.istore 5, 2) := by decide +kernel
theorem dX7_judgeNodes_46 : decode cX7_judgeNodes 46 = .ok (.iload 5, 2) := by decide +kernel
theorem dX7_judgeNodes_48 : decode cX7_judgeNodes 48 = .ok (.aload_n 2, 1) := by decide +kernel
theorem dX7_judgeNodes_49 : decode cX7_judgeNodes 49 = .ok (.getfield 103, 3) := by decide +kernel
theorem dX7_judgeNodes_52 : decode cX7_judgeNodes 52 = .ok (.if_icmp .ge 24, 3) := by decide +kernel
theorem dX7_judgeNodes_55 : decode cX7_judgeNodes 55 = .ok (.iload 4, 2) := by decide +kernel
theorem dX7_judgeNodes_57 : decode cX7_judgeNodes 57 = .ok (.iconst 1, 1) := by decide +kernel
theorem dX7_judgeNodes_58 : decode cX7_judgeNodes 58 = .ok (.aload_n 2, 1) := by decide +kernel
theorem dX7_judgeNodes_59 : decode cX7_judgeNodes 59 = .ok (.iload 5, 2) := by decide +kernel
theorem dX7_judgeNodes_61 : decode cX7_judgeNodes 61 = .ok (.invokevirtual 110, 3) := by decide +kernel
theorem dX7_judgeNodes_64 : decode cX7_judgeNodes 64 = .ok (.ishl, 1) := by decide +kernel
theorem dX7_judgeNodes_65 : decode cX7_judgeNodes 65 = .ok (.iconst (-1), 1) := by decide +kernel
theorem dX7_judgeNodes_66 : decode cX7_judgeNodes 66 = .ok (.ixor, 1) := by decide +kernel
theorem dX7_judgeNodes_67 : decode cX7_judgeNodes 67 = .ok (.iand, 1) := by decide +kernel
theorem dX7_judgeNodes_68 : decode cX7_judgeNodes 68 = .ok (.istore 4, 2) := by decide +kernel
theorem dX7_judgeNodes_70 : decode cX7_judgeNodes 70 = .ok (.iinc 5 1, 3) := by decide +kernel
theorem dX7_judgeNodes_73 : decode cX7_judgeNodes 73 = .ok (.goto (-27), 3) := by decide +kernel
theorem dX7_judgeNodes_76 : decode cX7_judgeNodes 76 = .ok (.iconst 0, 1) := by decide +kernel
theorem dX7_judgeNodes_77 : decode cX7_judgeNodes 77 = .ok (.istore 5, 2) := by decide +kernel
theorem dX7_judgeNodes_79 : decode cX7_judgeNodes 79 = .ok (.iconst 0, 1) := by decide +kernel
theorem dX7_judgeNodes_80 : decode cX7_judgeNodes 80 = .ok (.istore 6, 2) := by decide +kernel
theorem dX7_judgeNodes_82 : decode cX7_judgeNodes 82 = .ok (.iload 6, 2) := by decide +kernel
theorem dX7_judgeNodes_84 : decode cX7_judgeNodes 84 = .ok (.iload_n 3, 1) := by decide +kernel
theorem dX7_judgeNodes_85 : decode cX7_judgeNodes 85 = .ok (.if_icmp .ge 53, 3) := by decide +kernel
theorem dX7_judgeNodes_88 : decode cX7_judgeNodes 88 = .ok (.iload 4, 2) := by decide +kernel
theorem dX7_judgeNodes_90 : decode cX7_judgeNodes 90 = .ok (.iload 6, 2) := by decide +kernel
theorem dX7_judgeNodes_92 : decode cX7_judgeNodes 92 = .ok (.invokestatic 72, 3) := by decide +kernel
theorem dX7_judgeNodes_95 : decode cX7_judgeNodes 95 = .ok (.ifCond .eq 37, 3) := by decide +kernel
theorem dX7_judgeNodes_98 : decode cX7_judgeNodes 98 = .ok (.aload_n 0, 1) := by decide +kernel
theorem dX7_judgeNodes_99 : decode cX7_judgeNodes 99 = .ok (.getfield 9, 3) := by decide +kernel
theorem dX7_judgeNodes_102 : decode cX7_judgeNodes 102 = .ok (.iload 6, 2) := by decide +kernel
theorem dX7_judgeNodes_104 : decode cX7_judgeNodes 104 = .ok (.iload 4, 2) := by decide +kernel
theorem dX7_judgeNodes_106 : decode cX7_judgeNodes 106 = .ok (.invokestatic 117, 3) := by decide +kernel
theorem dX7_judgeNodes_109 : decode cX7_judgeNodes 109 = .ok (.istore 7, 2) := by decide +kernel
theorem dX7_judgeNodes_111 : decode cX7_judgeNodes 111 = .ok (.iload 5, 2) := by decide +kernel
theorem dX7_judgeNodes_113 : decode cX7_judgeNodes 113 = .ok (.iload 7, 2) := by decide +kernel
theorem dX7_judgeNodes_115 : decode cX7_judgeNodes 115 = .ok (.invokestatic 121, 3) := by decide +kernel
theorem dX7_judgeNodes_118 : decode cX7_judgeNodes 118 = .ok (.iconst 2, 1) := by decide +kernel
theorem dX7_judgeNodes_119 : decode cX7_judgeNodes 119 = .ok (.irem, 1) := by decide +kernel
theorem dX7_judgeNodes_120 : decode cX7_judgeNodes 120 = .ok (.iadd, 1) := by decide +kernel
theorem dX7_judgeNodes_121 : decode cX7_judgeNodes 121 = .ok (.istore 5, 2) := by decide +kernel
theorem dX7_judgeNodes_123 : decode cX7_judgeNodes 123 = .ok (.iload 4, 2) := by decide +kernel
theorem dX7_judgeNodes_125 : decode cX7_judgeNodes 125 = .ok (.iload 7, 2) := by decide +kernel
theorem dX7_judgeNodes_127 : decode cX7_judgeNodes 127 = .ok (.iconst (-1), 1) := by decide +kernel
theorem dX7_judgeNodes_128 : decode cX7_judgeNodes 128 = .ok (.ixor, 1) := by decide +kernel
theorem dX7_judgeNodes_129 : decode cX7_judgeNodes 129 = .ok (.iand, 1) := by decide +kernel
theorem dX7_judgeNodes_130 : decode cX7_judgeNodes 130 = .ok (.istore 4, 2) := by decide +kernel
theorem dX7_judgeNodes_132 : decode cX7_judgeNodes 132 = .ok (.iinc 6 1, 3) := by decide +kernel
theorem dX7_judgeNodes_135 : decode cX7_judgeNodes 135 = .ok (.goto (-53), 3) := by decide +kernel
theorem dX7_judgeNodes_138 : decode cX7_judgeNodes 138 = .ok (.iload 5, 2) := by decide +kernel
theorem dX7_judgeNodes_140 : decode cX7_judgeNodes 140 = .ok (.aload_n 1, 1) := by decide +kernel
theorem dX7_judgeNodes_141 : decode cX7_judgeNodes 141 = .ok (.getfield 46, 3) := by decide +kernel
theorem dX7_judgeNodes_144 : decode cX7_judgeNodes 144 = .ok (.aload_n 2, 1) := by decide +kernel
theorem dX7_judgeNodes_145 : decode cX7_judgeNodes 145 = .ok (.getfield 103, 3) := by decide +kernel
theorem dX7_judgeNodes_148 : decode cX7_judgeNodes 148 = .ok (.iadd, 1) := by decide +kernel
theorem dX7_judgeNodes_149 : decode cX7_judgeNodes 149 = .ok (.if_icmp .le 7, 3) := by decide +kernel
theorem dX7_judgeNodes_152 : decode cX7_judgeNodes 152 = .ok (.iconst 0, 1) := by decide +kernel
theorem dX7_judgeNodes_153 : decode cX7_judgeNodes 153 = .ok (.goto 4, 3) := by decide +kernel
theorem dX7_judgeNodes_156 : decode cX7_judgeNodes 156 = .ok (.iconst 2, 1) := by decide +kernel
theorem dX7_judgeNodes_157 : decode cX7_judgeNodes 157 = .ok (.ireturn, 1) := by decide +kernel
theorem dX7_solveFlows_0 : decode cX7_solveFlows 0 = .ok (.aload_n 0, 1) := by decide +kernel
theorem dX7_solveFlows_1 : decode cX7_solveFlows 1 = .ok (.aload_n 1, 1) := by decide +kernel
theorem dX7_solveFlows_2 : decode cX7_solveFlows 2 = .ok (.invokevirtual 126, 3) := by decide +kernel
theorem dX7_solveFlows_5 : decode cX7_solveFlows 5 = .ok (.aload_n 0, 1) := by decide +kernel
theorem dX7_solveFlows_6 : decode cX7_solveFlows 6 = .ok (.invokevirtual 129, 3) := by decide +kernel
theorem dX7_solveFlows_9 : decode cX7_solveFlows 9 = .ok (.istore_n 2, 1) := by decide +kernel
theorem dX7_solveFlows_10 : decode cX7_solveFlows 10 = .ok (.aload_n 1, 1) := by decide +kernel
theorem dX7_solveFlows_11 : decode cX7_solveFlows 11 = .ok (.getfield 46, 3) := by decide +kernel
theorem dX7_solveFlows_14 : decode cX7_solveFlows 14 = .ok (.iload_n 2, 1) := by decide +kernel
theorem dX7_solveFlows_15 : decode cX7_solveFlows 15 = .ok (.if_icmp .gt 7, 3) := by decide +kernel
theorem dX7_solveFlows_18 : decode cX7_solveFlows 18 = .ok (.iconst 1, 1) := by decide +kernel
theorem dX7_solveFlows_19 : decode cX7_solveFlows 19 = .ok (.goto 4, 3) := by decide +kernel
theorem dX7_solveFlows_22 : decode cX7_solveFlows 22 = .ok (.iconst 0, 1) := by decide +kernel
theorem dX7_solveFlows_23 : decode cX7_solveFlows 23 = .ok (.istore_n 3, 1) := by decide +kernel
theorem dX7_solveFlows_24 : decode cX7_solveFlows 24 = .ok (.aload_n 1, 1) := by decide +kernel
theorem dX7_solveFlows_25 : decode cX7_solveFlows 25 = .ok (.iload_n 3, 1) := by decide +kernel
theorem dX7_solveFlows_26 : decode cX7_solveFlows 26 = .ok (.iload_n 2, 1) := by decide +kernel
theorem dX7_solveFlows_27 : decode cX7_solveFlows 27 = .ok (.invokevirtual 49, 3) := by decide +kernel
theorem dX7_solveFlows_30 : decode cX7_solveFlows 30 = .ok (.iload_n 3, 1) := by decide +kernel
theorem dX7_solveFlows_31 : decode cX7_solveFlows 31 = .ok (.ifCond .eq 81, 3) := by decide +kernel
theorem dX7_solveFlows_34 : decode cX7_solveFlows 34 = .ok (.aload_n 0, 1) := by decide +kernel
theorem dX7_solveFlows_35 : decode cX7_solveFlows 35 = .ok (.getfield 27, 3) := by decide +kernel
theorem dX7_solveFlows_38 : decode cX7_solveFlows 38 = .ok (.iconst 0, 1) := by decide +kernel
theorem dX7_solveFlows_39 : decode cX7_solveFlows 39 = .ok (.invokestatic 133, 3) := by decide +kernel
theorem dX7_solveFlows_42 : decode cX7_solveFlows 42 = .ok (.iconst 0, 1) := by decide +kernel
theorem dX7_solveFlows_43 : decode cX7_solveFlows 43 = .ok (.istore 4, 2) := by decide +kernel
theorem dX7_solveFlows_45 : decode cX7_solveFlows 45 = .ok (.iload 4, 2) := by decide +kernel
theorem dX7_solveFlows_47 : decode cX7_solveFlows 47 = .ok (.aload_n 1, 1) := by decide +kernel
theorem dX7_solveFlows_48 : decode cX7_solveFlows 48 = .ok (.getfield 46, 3) := by decide +kernel
theorem dX7_solveFlows_51 : decode cX7_solveFlows 51 = .ok (.if_icmp .ge 22, 3) := by decide +kernel
theorem dX7_solveFlows_54 : decode cX7_solveFlows 54 = .ok (.aload_n 0, 1) := by decide +kernel
theorem dX7_solveFlows_55 : decode cX7_solveFlows 55 = .ok (.iconst 0, 1) := by decide +kernel
theorem dX7_solveFlows_56 : decode cX7_solveFlows 56 = .ok (.aload_n 0, 1) := by decide +kernel
theorem dX7_solveFlows_57 : decode cX7_solveFlows 57 = .ok (.getfield 138, 3) := by decide +kernel
theorem dX7_solveFlows_60 : decode cX7_solveFlows 60 = .ok (.iconst 1, 1) := by decide +kernel
theorem dX7_solveFlows_61 : decode cX7_solveFlows 61 = .ok (.isub, 1) := by decide +kernel
theorem dX7_solveFlows_62 : decode cX7_solveFlows 62 = .ok (.iconst 0, 1) := by decide +kernel
theorem dX7_solveFlows_63 : decode cX7_solveFlows 63 = .ok (.invokevirtual 141, 3) := by decide +kernel
theorem dX7_solveFlows_66 : decode cX7_solveFlows 66 = .ok (.pop, 1) := by decide +kernel
theorem dX7_solveFlows_67 : decode cX7_solveFlows 67 = .ok (.iinc 4 1, 3) := by decide +kernel
theorem dX7_solveFlows_70 : decode cX7_solveFlows 70 = .ok (.goto (-25), 3) := by decide +kernel
theorem dX7_solveFlows_73 : decode cX7_solveFlows 73 = .ok (.aload_n 0, 1) := by decide +kernel
theorem dX7_solveFlows_74 : decode cX7_solveFlows 74 = .ok (.invokevirtual 144, 3) := by decide +kernel
theorem dX7_solveFlows_77 : decode cX7_solveFlows 77 = .ok (.iconst 0, 1) := by decide +kernel
theorem dX7_solveFlows_78 : decode cX7_solveFlows 78 = .ok (.istore 4, 2) := by decide +kernel
theorem dX7_solveFlows_80 : decode cX7_solveFlows 80 = .ok (.iload 4, 2) := by decide +kernel
theorem dX7_solveFlows_82 : decode cX7_solveFlows 82 = .ok (.aload_n 0, 1) := by decide +kernel
theorem dX7_solveFlows_83 : decode cX7_solveFlows 83 = .ok (.getfield 147, 3) := by decide +kernel
theorem dX7_solveFlows_86 : decode cX7_solveFlows 86 = .ok (.if_icmp .ge 23, 3) := by decide +kernel
theorem dX7_solveFlows_89 : decode cX7_solveFlows 89 = .ok (.aload_n 1, 1) := by decide +kernel
theorem dX7_solveFlows_90 : decode cX7_solveFlows 90 = .ok (.getfield 53, 3) := by decide +kernel
theorem dX7_solveFlows_93 : decode cX7_solveFlows 93 = .ok (.aload_n 0, 1) := by decide +kernel
theorem dX7_solveFlows_94 : decode cX7_solveFlows 94 = .ok (.getfield 27, 3) := by decide +kernel
theorem dX7_solveFlows_97 : decode cX7_solveFlows 97 = .ok (.iload 4, 2) := by decide +kernel
theorem dX7_solveFlows_99 : decode cX7_solveFlows 99 = .ok (.iaload, 1) := by decide +kernel
theorem dX7_solveFlows_100 : decode cX7_solveFlows 100 = .ok (.invokevirtual 82, 3) := by decide +kernel
theorem dX7_solveFlows_103 : decode cX7_solveFlows 103 = .ok (.iinc 4 1, 3) := by decide +kernel
theorem dX7_solveFlows_106 : decode cX7_solveFlows 106 = .ok (.goto (-26), 3) := by decide +kernel
theorem dX7_solveFlows_109 : decode cX7_solveFlows 109 = .ok (.goto 42, 3) := by decide +kernel
theorem dX7_solveFlows_112 : decode cX7_solveFlows 112 = .ok (.iconst 0, 1) := by decide +kernel
theorem dX7_solveFlows_113 : decode cX7_solveFlows 113 = .ok (.istore 4, 2) := by decide +kernel
theorem dX7_solveFlows_115 : decode cX7_solveFlows 115 = .ok (.iload 4, 2) := by decide +kernel
theorem dX7_solveFlows_117 : decode cX7_solveFlows 117 = .ok (.aload_n 0, 1) := by decide +kernel
theorem dX7_solveFlows_118 : decode cX7_solveFlows 118 = .ok (.getfield 138, 3) := by decide +kernel
theorem dX7_solveFlows_121 : decode cX7_solveFlows 121 = .ok (.if_icmp .ge 30, 3) := by decide +kernel
theorem dX7_solveFlows_124 : decode cX7_solveFlows 124 = .ok (.aload_n 0, 1) := by decide +kernel
theorem dX7_solveFlows_125 : decode cX7_solveFlows 125 = .ok (.getfield 150, 3) := by decide +kernel
theorem dX7_solveFlows_128 : decode cX7_solveFlows 128 = .ok (.iload 4, 2) := by decide +kernel
theorem dX7_solveFlows_130 : decode cX7_solveFlows 130 = .ok (.invokestatic 72, 3) := by decide +kernel
theorem dX7_solveFlows_133 : decode cX7_solveFlows 133 = .ok (.ifCond .eq 12, 3) := by decide +kernel
theorem dX7_solveFlows_136 : decode cX7_solveFlows 136 = .ok (.aload_n 1, 1) := by decide +kernel
theorem dX7_solveFlows_137 : decode cX7_solveFlows 137 = .ok (.getfield 53, 3) := by decide +kernel
theorem dX7_solveFlows_140 : decode cX7_solveFlows 140 = .ok (.iload 4, 2) := by decide +kernel
theorem dX7_solveFlows_142 : decode cX7_solveFlows 142 = .ok (.invokevirtual 82, 3) := by decide +kernel
theorem dX7_solveFlows_145 : decode cX7_solveFlows 145 = .ok (.iinc 4 1, 3) := by decide +kernel
theorem dX7_solveFlows_148 : decode cX7_solveFlows 148 = .ok (.goto (-33), 3) := by decide +kernel
theorem dX7_solveFlows_151 : decode cX7_solveFlows 151 = .ok (.return_, 1) := by decide +kernel
theorem dX7_loadFlows_0 : decode cX7_loadFlows 0 = .ok (.aload_n 0, 1) := by decide +kernel
theorem dX7_loadFlows_1 : decode cX7_loadFlows 1 = .ok (.aload_n 1, 1) := by decide +kernel
theorem dX7_loadFlows_2 : decode cX7_loadFlows 2 = .ok (.getfield 40, 3) := by decide +kernel
theorem dX7_loadFlows_5 : decode cX7_loadFlows 5 = .ok (.putfield 138, 3) := by decide +kernel
theorem dX7_loadFlows_8 : decode cX7_loadFlows 8 = .ok (.aload_n 0, 1) := by decide +kernel
theorem dX7_loadFlows_9 : decode cX7_loadFlows 9 = .ok (.aload_n 1, 1) := by decide +kernel
theorem dX7_loadFlows_10 : decode cX7_loadFlows 10 = .ok (.getfield 153, 3) := by decide +kernel
theorem dX7_loadFlows_13 : decode cX7_loadFlows 13 = .ok (.putfield 147, 3) := by decide +kernel
theorem dX7_loadFlows_16 : decode cX7_loadFlows 16 = .ok (.iconst 0, 1) := by decide +kernel
theorem dX7_loadFlows_17 : decode cX7_loadFlows 17 = .ok (.istore_n 2, 1) := by decide +kernel
theorem dX7_loadFlows_18 : decode cX7_loadFlows 18 = .ok (.iload_n 2, 1) := by decide +kernel
theorem dX7_loadFlows_19 : decode cX7_loadFlows 19 = .ok (.aload_n 0, 1) := by decide +kernel
theorem dX7_loadFlows_20 : decode cX7_loadFlows 20 = .ok (.getfield 147, 3) := by decide +kernel
theorem dX7_loadFlows_23 : decode cX7_loadFlows 23 = .ok (.if_icmp .ge 45, 3) := by decide +kernel
theorem dX7_loadFlows_26 : decode cX7_loadFlows 26 = .ok (.aload_n 0, 1) := by decide +kernel
theorem dX7_loadFlows_27 : decode cX7_loadFlows 27 = .ok (.getfield 18, 3) := by decide +kernel
theorem dX7_loadFlows_30 : decode cX7_loadFlows 30 = .ok (.iload_n 2, 1) := by decide +kernel
theorem dX7_loadFlows_31 : decode cX7_loadFlows 31 = .ok (.aload_n 1, 1) := by decide +kernel
theorem dX7_loadFlows_32 : decode cX7_loadFlows 32 = .ok (.iload_n 2, 1) := by decide +kernel
theorem dX7_loadFlows_33 : decode cX7_loadFlows 33 = .ok (.iconst 0, 1) := by decide +kernel
theorem dX7_loadFlows_34 : decode cX7_loadFlows 34 = .ok (.invokevirtual 154, 3) := by decide +kernel
theorem dX7_loadFlows_37 : decode cX7_loadFlows 37 = .ok (.iastore, 1) := by decide +kernel
theorem dX7_loadFlows_38 : decode cX7_loadFlows 38 = .ok (.aload_n 0, 1) := by decide +kernel
theorem dX7_loadFlows_39 : decode cX7_loadFlows 39 = .ok (.getfield 21, 3) := by decide +kernel
theorem dX7_loadFlows_42 : decode cX7_loadFlows 42 = .ok (.iload_n 2, 1) := by decide +kernel
theorem dX7_loadFlows_43 : decode cX7_loadFlows 43 = .ok (.aload_n 1, 1) := by decide +kernel
theorem dX7_loadFlows_44 : decode cX7_loadFlows 44 = .ok (.iload_n 2, 1) := by decide +kernel
theorem dX7_loadFlows_45 : decode cX7_loadFlows 45 = .ok (.iconst 1, 1) := by decide +kernel
theorem dX7_loadFlows_46 : decode cX7_loadFlows 46 = .ok (.invokevirtual 154, 3) := by decide +kernel
theorem dX7_loadFlows_49 : decode cX7_loadFlows 49 = .ok (.iastore, 1) := by decide +kernel
theorem dX7_loadFlows_50 : decode cX7_loadFlows 50 = .ok (.aload_n 0, 1) := by decide +kernel
theorem dX7_loadFlows_51 : decode cX7_loadFlows 51 = .ok (.getfield 24, 3) := by decide +kernel
theorem dX7_loadFlows_54 : decode cX7_loadFlows 54 = .ok (.iload_n 2, 1) := by decide +kernel
theorem dX7_loadFlows_55 : decode cX7_loadFlows 55 = .ok (.aload_n 1, 1) := by decide +kernel
theorem dX7_loadFlows_56 : decode cX7_loadFlows 56 = .ok (.iload_n 2, 1) := by decide +kernel
theorem dX7_loadFlows_57 : decode cX7_loadFlows 57 = .ok (.iconst 2, 1) := by decide +kernel
theorem dX7_loadFlows_58 : decode cX7_loadFlows 58 = .ok (.invokevirtual 154, 3) := by decide +kernel
theorem dX7_loadFlows_61 : decode cX7_loadFlows 61 = .ok (.iastore, 1) := by decide +kernel
theorem dX7_loadFlows_62 : decode cX7_loadFlows 62 = .ok (.iinc 2 1, 3) := by decide +kernel
theorem dX7_loadFlows_65 : decode cX7_loadFlows 65 = .ok (.goto (-47), 3) := by decide +kernel
theorem dX7_loadFlows_68 : decode cX7_loadFlows 68 = .ok (.return_, 1) := by decide +kernel
theorem dX7_greatest_0 : decode cX7_greatest 0 = .ok (.aload_n 0, 1) := by decide +kernel
theorem dX7_greatest_1 : decode cX7_greatest 1 = .ok (.getfield 27, 3) := by decide +kernel
theorem dX7_greatest_4 : decode cX7_greatest 4 = .ok (.iconst 0, 1) := by decide +kernel
theorem dX7_greatest_5 : decode cX7_greatest 5 = .ok (.invokestatic 133, 3) := by decide +kernel
theorem dX7_greatest_8 : decode cX7_greatest 8 = .ok (.iconst 0, 1) := by decide +kernel
theorem dX7_greatest_9 : decode cX7_greatest 9 = .ok (.istore_n 1, 1) := by decide +kernel
theorem dX7_greatest_10 : decode cX7_greatest 10 = .ok (.iload_n 1, 1) := by decide +kernel
theorem dX7_greatest_11 : decode cX7_greatest 11 = .ok (.bipush 70, 2) := by decide +kernel
theorem dX7_greatest_13 : decode cX7_greatest 13 = .ok (.if_icmp .ge 24, 3) := by decide +kernel
theorem dX7_greatest_16 : decode cX7_greatest 16 = .ok (.aload_n 0, 1) := by decide +kernel
theorem dX7_greatest_17 : decode cX7_greatest 17 = .ok (.iconst 0, 1) := by decide +kernel
theorem dX7_greatest_18 : decode cX7_greatest 18 = .ok (.aload_n 0, 1) := by decide +kernel
theorem dX7_greatest_19 : decode cX7_greatest 19 = .ok (.getfield 138, 3) := by decide +kernel
theorem dX7_greatest_22 : decode cX7_greatest 22 = .ok (.iconst 1, 1) := by decide +kernel
theorem dX7_greatest_23 : decode cX7_greatest 23 = .ok (.isub, 1) := by decide +kernel
theorem dX7_greatest_24 : decode cX7_greatest 24 = .ok (.iconst 0, 1) := by decide +kernel
theorem dX7_greatest_25 : decode cX7_greatest 25 = .ok (.invokevirtual 141, 3) := by decide +kernel
theorem dX7_greatest_28 : decode cX7_greatest 28 = .ok (.ifCond .eq 9, 3) := by decide +kernel
theorem dX7_greatest_31 : decode cX7_greatest 31 = .ok (.iinc 1 1, 3) := by decide +kernel
theorem dX7_greatest_34 : decode cX7_greatest 34 = .ok (.goto (-24), 3) := by decide +kernel
theorem dX7_greatest_37 : decode cX7_greatest 37 = .ok (.iload_n 1, 1) := by decide +kernel
theorem dX7_greatest_38 : decode cX7_greatest 38 = .ok (.ireturn, 1) := by decide +kernel
theorem dX7_leadsOn_0 : decode cX7_leadsOn 0 = .ok (.aload_n 0, 1) := by decide +kernel
theorem dX7_leadsOn_1 : decode cX7_leadsOn 1 = .ok (.iconst 1, 1) := by decide +kernel
theorem dX7_leadsOn_2 : decode cX7_leadsOn 2 = .ok (.iload_n 1, 1) := by decide +kernel
theorem dX7_leadsOn_3 : decode cX7_leadsOn 3 = .ok (.ishl, 1) := by decide +kernel
theorem dX7_leadsOn_4 : decode cX7_leadsOn 4 = .ok (.putfield 150, 3) := by decide +kernel
theorem dX7_leadsOn_7 : decode cX7_leadsOn 7 = .ok (.iconst 1, 1) := by decide +kernel
theorem dX7_leadsOn_8 : decode cX7_leadsOn 8 = .ok (.istore 4, 2) := by decide +kernel
theorem dX7_leadsOn_10 : decode cX7_leadsOn 10 = .ok (.iconst 0, 1) := by decide +kernel
theorem dX7_leadsOn_11 : decode cX7_leadsOn 11 = .ok (.istore 5, 2) := by decide +kernel
theorem dX7_leadsOn_13 : decode cX7_leadsOn 13 = .ok (.iload 5, 2) := by decide +kernel
theorem dX7_leadsOn_15 : decode cX7_leadsOn 15 = .ok (.aload_n 0, 1) := by decide +kernel
theorem dX7_leadsOn_16 : decode cX7_leadsOn 16 = .ok (.getfield 138, 3) := by decide +kernel
theorem dX7_leadsOn_19 : decode cX7_leadsOn 19 = .ok (.if_icmp .ge 60, 3) := by decide +kernel
theorem dX7_leadsOn_22 : decode cX7_leadsOn 22 = .ok (.iload 4, 2) := by decide +kernel
theorem dX7_leadsOn_24 : decode cX7_leadsOn 24 = .ok (.ifCond .eq 55, 3) := by decide +kernel
theorem dX7_leadsOn_27 : decode cX7_leadsOn 27 = .ok (.aload_n 0, 1) := by decide +kernel
theorem dX7_leadsOn_28 : decode cX7_leadsOn 28 = .ok (.getfield 150, 3) := by decide +kernel
theorem dX7_leadsOn_31 : decode cX7_leadsOn 31 = .ok (.istore 6, 2) := by decide +kernel
theorem dX7_leadsOn_33 : decode cX7_leadsOn 33 = .ok (.iload_n 3, 1) := by decide +kernel
theorem dX7_leadsOn_34 : decode cX7_leadsOn 34 = .ok (.istore 7, 2) := by decide +kernel
theorem dX7_leadsOn_36 : decode cX7_leadsOn 36 = .ok (.iload 7, 2) := by decide +kernel
theorem dX7_leadsOn_38 : decode cX7_leadsOn 38 = .ok (.aload_n 0, 1) := by decide +kernel
theorem dX7_leadsOn_39 : decode cX7_leadsOn 39 = .ok (.getfield 147, 3) := by decide +kernel
theorem dX7_leadsOn_42 : decode cX7_leadsOn 42 = .ok (.if_icmp .ge 15, 3) := by decide +kernel
theorem dX7_leadsOn_45 : decode cX7_leadsOn 45 = .ok (.aload_n 0, 1) := by decide +kernel
theorem dX7_leadsOn_46 : decode cX7_leadsOn 46 = .ok (.iload 7, 2) := by decide +kernel
theorem dX7_leadsOn_48 : decode cX7_leadsOn 48 = .ok (.invokevirtual 156, 3) := by decide +kernel
theorem dX7_leadsOn_51 : decode cX7_leadsOn 51 = .ok (.iinc 7 1, 3) := by decide +kernel
theorem dX7_leadsOn_54 : decode cX7_leadsOn 54 = .ok (.goto (-18), 3) := by decide +kernel
theorem dX7_leadsOn_57 : decode cX7_leadsOn 57 = .ok (.iload 6, 2) := by decide +kernel
theorem dX7_leadsOn_59 : decode cX7_leadsOn 59 = .ok (.aload_n 0, 1) := by decide +kernel
theorem dX7_leadsOn_60 : decode cX7_leadsOn 60 = .ok (.getfield 150, 3) := by decide +kernel
theorem dX7_leadsOn_63 : decode cX7_leadsOn 63 = .ok (.if_icmp .eq 7, 3) := by decide +kernel
theorem dX7_leadsOn_66 : decode cX7_leadsOn 66 = .ok (.iconst 1, 1) := by decide +kernel
theorem dX7_leadsOn_67 : decode cX7_leadsOn 67 = .ok (.goto 4, 3) := by decide +kernel
theorem dX7_leadsOn_70 : decode cX7_leadsOn 70 = .ok (.iconst 0, 1) := by decide +kernel
theorem dX7_leadsOn_71 : decode cX7_leadsOn 71 = .ok (.istore 4, 2) := by decide +kernel
theorem dX7_leadsOn_73 : decode cX7_leadsOn 73 = .ok (.iinc 5 1, 3) := by decide +kernel
theorem dX7_leadsOn_76 : decode cX7_leadsOn 76 = .ok (.goto (-63), 3) := by decide +kernel
theorem dX7_leadsOn_79 : decode cX7_leadsOn 79 = .ok (.aload_n 0, 1) := by decide +kernel
theorem dX7_leadsOn_80 : decode cX7_leadsOn 80 = .ok (.getfield 150, 3) := by decide +kernel
theorem dX7_leadsOn_83 : decode cX7_leadsOn 83 = .ok (.iload_n 2, 1) := by decide +kernel
theorem dX7_leadsOn_84 : decode cX7_leadsOn 84 = .ok (.invokestatic 72, 3) := by decide +kernel
theorem dX7_leadsOn_87 : decode cX7_leadsOn 87 = .ok (.ifCond .ne 5, 3) := by decide +kernel
theorem dX7_leadsOn_90 : decode cX7_leadsOn 90 = .ok (.iconst 0, 1) := by decide +kernel
theorem dX7_leadsOn_91 : decode cX7_leadsOn 91 = .ok (.ireturn, 1) := by decide +kernel
theorem dX7_leadsOn_92 : decode cX7_leadsOn 92 = .ok (.iload_n 2, 1) := by decide +kernel
theorem dX7_leadsOn_93 : decode cX7_leadsOn 93 = .ok (.istore 5, 2) := by decide +kernel
theorem dX7_leadsOn_95 : decode cX7_leadsOn 95 = .ok (.iconst 0, 1) := by decide +kernel
theorem dX7_leadsOn_96 : decode cX7_leadsOn 96 = .ok (.istore 6, 2) := by decide +kernel
theorem dX7_leadsOn_98 : decode cX7_leadsOn 98 = .ok (.iload 6, 2) := by decide +kernel
theorem dX7_leadsOn_100 : decode cX7_leadsOn 100 = .ok (.aload_n 0, 1) := by decide +kernel
theorem dX7_leadsOn_101 : decode cX7_leadsOn 101 = .ok (.getfield 138, 3) := by decide +kernel
theorem dX7_leadsOn_104 : decode cX7_leadsOn 104 = .ok (.if_icmp .ge 23, 3) := by decide +kernel
theorem dX7_leadsOn_107 : decode cX7_leadsOn 107 = .ok (.iload 5, 2) := by decide +kernel
theorem dX7_leadsOn_109 : decode cX7_leadsOn 109 = .ok (.iload_n 1, 1) := by decide +kernel
theorem dX7_leadsOn_110 : decode cX7_leadsOn 110 = .ok (.if_icmp .eq 17, 3) := by decide +kernel
theorem dX7_leadsOn_113 : decode cX7_leadsOn 113 = .ok (.aload_n 0, 1) := by decide +kernel
theorem dX7_leadsOn_114 : decode cX7_leadsOn 114 = .ok (.iload 5, 2) := by decide +kernel
theorem dX7_leadsOn_116 : decode cX7_leadsOn 116 = .ok (.invokevirtual 159, 3) := by decide +kernel
theorem dX7_leadsOn_119 : decode cX7_leadsOn 119 = .ok (.istore 5, 2) := by decide +kernel
theorem dX7_leadsOn_121 : decode cX7_leadsOn 121 = .ok (.iinc 6 1, 3) := by decide +kernel
theorem dX7_leadsOn_124 : decode cX7_leadsOn 124 = .ok (.goto (-26), 3) := by decide +kernel
theorem dX7_leadsOn_127 : decode cX7_leadsOn 127 = .ok (.iconst 1, 1) := by decide +kernel
theorem dX7_leadsOn_128 : decode cX7_leadsOn 128 = .ok (.ireturn, 1) := by decide +kernel
theorem dX7_reachBy_0 : decode cX7_reachBy 0 = .ok (.aload_n 0, 1) := by decide +kernel
theorem dX7_reachBy_1 : decode cX7_reachBy 1 = .ok (.getfield 18, 3) := by decide +kernel
theorem dX7_reachBy_4 : decode cX7_reachBy 4 = .ok (.iload_n 1, 1) := by decide +kernel
theorem dX7_reachBy_5 : decode cX7_reachBy 5 = .ok (.iaload, 1) := by decide +kernel
theorem dX7_reachBy_6 : decode cX7_reachBy 6 = .ok (.istore_n 2, 1) := by decide +kernel
theorem dX7_reachBy_7 : decode cX7_reachBy 7 = .ok (.aload_n 0, 1) := by decide +kernel
theorem dX7_reachBy_8 : decode cX7_reachBy 8 = .ok (.getfield 21, 3) := by decide +kernel
theorem dX7_reachBy_11 : decode cX7_reachBy 11 = .ok (.iload_n 1, 1) := by decide +kernel
theorem dX7_reachBy_12 : decode cX7_reachBy 12 = .ok (.iaload, 1) := by decide +kernel
theorem dX7_reachBy_13 : decode cX7_reachBy 13 = .ok (.istore_n 3, 1) := by decide +kernel
theorem dX7_reachBy_14 : decode cX7_reachBy 14 = .ok (.aload_n 0, 1) := by decide +kernel
theorem dX7_reachBy_15 : decode cX7_reachBy 15 = .ok (.getfield 150, 3) := by decide +kernel
theorem dX7_reachBy_18 : decode cX7_reachBy 18 = .ok (.iload_n 2, 1) := by decide +kernel
theorem dX7_reachBy_19 : decode cX7_reachBy 19 = .ok (.invokestatic 72, 3) := by decide +kernel
theorem dX7_reachBy_22 : decode cX7_reachBy 22 = .ok (.ifCond .eq 53, 3) := by decide +kernel
theorem dX7_reachBy_25 : decode cX7_reachBy 25 = .ok (.aload_n 0, 1) := by decide +kernel
theorem dX7_reachBy_26 : decode cX7_reachBy 26 = .ok (.getfield 150, 3) := by decide +kernel
theorem dX7_reachBy_29 : decode cX7_reachBy 29 = .ok (.iload_n 3, 1) := by decide +kernel
theorem dX7_reachBy_30 : decode cX7_reachBy 30 = .ok (.invokestatic 72, 3) := by decide +kernel
theorem dX7_reachBy_33 : decode cX7_reachBy 33 = .ok (.ifCond .ne 42, 3) := by decide +kernel
theorem dX7_reachBy_36 : decode cX7_reachBy 36 = .ok (.aload_n 0, 1) := by decide +kernel
theorem dX7_reachBy_37 : decode cX7_reachBy 37 = .ok (.getfield 27, 3) := by decide +kernel
theorem dX7_reachBy_40 : decode cX7_reachBy 40 = .ok (.iload_n 1, 1) := by decide +kernel
theorem dX7_reachBy_41 : decode cX7_reachBy 41 = .ok (.iaload, 1) := by decide +kernel
theorem dX7_reachBy_42 : decode cX7_reachBy 42 = .ok (.aload_n 0, 1) := by decide +kernel
theorem dX7_reachBy_43 : decode cX7_reachBy 43 = .ok (.getfield 24, 3) := by decide +kernel
theorem dX7_reachBy_46 : decode cX7_reachBy 46 = .ok (.iload_n 1, 1) := by decide +kernel
theorem dX7_reachBy_47 : decode cX7_reachBy 47 = .ok (.iaload, 1) := by decide +kernel
theorem dX7_reachBy_48 : decode cX7_reachBy 48 = .ok (.if_icmp .ge 27, 3) := by decide +kernel
theorem dX7_reachBy_51 : decode cX7_reachBy 51 = .ok (.aload_n 0, 1) := by decide +kernel
theorem dX7_reachBy_52 : decode cX7_reachBy 52 = .ok (.dup, 1) := by decide +kernel
theorem dX7_reachBy_53 : decode cX7_reachBy 53 = .ok (.getfield 150, 3) := by decide +kernel
theorem dX7_reachBy_56 : decode cX7_reachBy 56 = .ok (.iconst 1, 1) := by decide +kernel
theorem dX7_reachBy_57 : decode cX7_reachBy 57 = .ok (.iload_n 3, 1) := by decide +kernel
theorem dX7_reachBy_58 : decode cX7_reachBy 58 = .ok (.ishl, 1) := by decide +kernel
theorem dX7_reachBy_59 : decode cX7_reachBy 59 = .ok (.ior, 1) := by decide +kernel
theorem dX7_reachBy_60 : decode cX7_reachBy 60 = .ok (.putfield 150, 3) := by decide +kernel
theorem dX7_reachBy_63 : decode cX7_reachBy 63 = .ok (.aload_n 0, 1) := by decide +kernel
theorem dX7_reachBy_64 : decode cX7_reachBy 64 = .ok (.getfield 30, 3) := by decide +kernel
theorem dX7_reachBy_67 : decode cX7_reachBy 67 = .ok (.iload_n 3, 1) := by decide +kernel
theorem dX7_reachBy_68 : decode cX7_reachBy 68 = .ok (.iconst 2, 1) := by decide +kernel
theorem dX7_reachBy_69 : decode cX7_reachBy 69 = .ok (.iload_n 1, 1) := by decide +kernel
theorem dX7_reachBy_70 : decode cX7_reachBy 70 = .ok (.imul, 1) := by decide +kernel
theorem dX7_reachBy_71 : decode cX7_reachBy 71 = .ok (.iastore, 1) := by decide +kernel
theorem dX7_reachBy_72 : decode cX7_reachBy 72 = .ok (.goto 57, 3) := by decide +kernel
theorem dX7_reachBy_75 : decode cX7_reachBy 75 = .ok (.aload_n 0, 1) := by decide +kernel
theorem dX7_reachBy_76 : decode cX7_reachBy 76 = .ok (.getfield 150, 3) := by decide +kernel
theorem dX7_reachBy_79 : decode cX7_reachBy 79 = .ok (.iload_n 3, 1) := by decide +kernel
theorem dX7_reachBy_80 : decode cX7_reachBy 80 = .ok (.invokestatic 72, 3) := by decide +kernel
theorem dX7_reachBy_83 : decode cX7_reachBy 83 = .ok (.ifCond .eq 46, 3) := by decide +kernel
theorem dX7_reachBy_86 : decode cX7_reachBy 86 = .ok (.aload_n 0, 1) := by decide +kernel
theorem dX7_reachBy_87 : decode cX7_reachBy 87 = .ok (.getfield 150, 3) := by decide +kernel
theorem dX7_reachBy_90 : decode cX7_reachBy 90 = .ok (.iload_n 2, 1) := by decide +kernel
theorem dX7_reachBy_91 : decode cX7_reachBy 91 = .ok (.invokestatic 72, 3) := by decide +kernel
theorem dX7_reachBy_94 : decode cX7_reachBy 94 = .ok (.ifCond .ne 35, 3) := by decide +kernel
theorem dX7_reachBy_97 : decode cX7_reachBy 97 = .ok (.aload_n 0, 1) := by decide +kernel
theorem dX7_reachBy_98 : decode cX7_reachBy 98 = .ok (.getfield 27, 3) := by decide +kernel
theorem dX7_reachBy_101 : decode cX7_reachBy 101 = .ok (.iload_n 1, 1) := by decide +kernel
theorem dX7_reachBy_102 : decode cX7_reachBy 102 = .ok (.iaload, 1) := by decide +kernel
theorem dX7_reachBy_103 : decode cX7_reachBy 103 = .ok (.ifCond .le 26, 3) := by decide +kernel
theorem dX7_reachBy_106 : decode cX7_reachBy 106 = .ok (.aload_n 0, 1) := by decide +kernel
theorem dX7_reachBy_107 : decode cX7_reachBy 107 = .ok (.dup, 1) := by decide +kernel
theorem dX7_reachBy_108 : decode cX7_reachBy 108 = .ok (.getfield 150, 3) := by decide +kernel
theorem dX7_reachBy_111 : decode cX7_reachBy 111 = .ok (.iconst 1, 1) := by decide +kernel
theorem dX7_reachBy_112 : decode cX7_reachBy 112 = .ok (.iload_n 2, 1) := by decide +kernel
theorem dX7_reachBy_113 : decode cX7_reachBy 113 = .ok (.ishl, 1) := by decide +kernel
theorem dX7_reachBy_114 : decode cX7_reachBy 114 = .ok (.ior, 1) := by decide +kernel
theorem dX7_reachBy_115 : decode cX7_reachBy 115 = .ok (.putfield 150, 3) := by decide +kernel
theorem dX7_reachBy_118 : decode cX7_reachBy 118 = .ok (.aload_n 0, 1) := by decide +kernel
theorem dX7_reachBy_119 : decode cX7_reachBy 119 = .ok (.getfield 30, 3) := by decide +kernel
theorem dX7_reachBy_122 : decode cX7_reachBy 122 = .ok (.iload_n 2, 1) := by decide +kernel
theorem dX7_reachBy_123 : decode cX7_reachBy 123 = .ok (.iconst 2, 1) := by decide +kernel
theorem dX7_reachBy_124 : decode cX7_reachBy 124 = .ok (.iload_n 1, 1) := by decide +kernel
theorem dX7_reachBy_125 : decode cX7_reachBy 125 = .ok (.imul, 1) := by decide +kernel
theorem dX7_reachBy_126 : decode cX7_reachBy 126 = .ok (.iconst 1, 1) := by decide +kernel
theorem dX7_reachBy_127 : decode cX7_reachBy 127 = .ok (.iadd, 1) := by decide +kernel
theorem dX7_reachBy_128 : decode cX7_reachBy 128 = .ok (.iastore, 1) := by decide +kernel
theorem dX7_reachBy_129 : decode cX7_reachBy 129 = .ok (.return_, 1) := by decide +kernel
theorem dX7_goBack_0 : decode cX7_goBack 0 = .ok (.aload_n 0, 1) := by decide +kernel
theorem dX7_goBack_1 : decode cX7_goBack 1 = .ok (.getfield 30, 3) := by decide +kernel
theorem dX7_goBack_4 : decode cX7_goBack 4 = .ok (.iload_n 1, 1) := by decide +kernel
theorem dX7_goBack_5 : decode cX7_goBack 5 = .ok (.iaload, 1) := by decide +kernel
theorem dX7_goBack_6 : decode cX7_goBack 6 = .ok (.iconst 2, 1) := by decide +kernel
theorem dX7_goBack_7 : decode cX7_goBack 7 = .ok (.idiv, 1) := by decide +kernel
theorem dX7_goBack_8 : decode cX7_goBack 8 = .ok (.istore_n 2, 1) := by decide +kernel
theorem dX7_goBack_9 : decode cX7_goBack 9 = .ok (.aload_n 0, 1) := by decide +kernel
theorem dX7_goBack_10 : decode cX7_goBack 10 = .ok (.getfield 30, 3) := by decide +kernel
theorem dX7_goBack_13 : decode cX7_goBack 13 = .ok (.iload_n 1, 1) := by decide +kernel
theorem dX7_goBack_14 : decode cX7_goBack 14 = .ok (.iaload, 1) := by decide +kernel
theorem dX7_goBack_15 : decode cX7_goBack 15 = .ok (.iconst 2, 1) := by decide +kernel
theorem dX7_goBack_16 : decode cX7_goBack 16 = .ok (.irem, 1) := by decide +kernel
theorem dX7_goBack_17 : decode cX7_goBack 17 = .ok (.ifCond .ne 20, 3) := by decide +kernel
theorem dX7_goBack_20 : decode cX7_goBack 20 = .ok (.aload_n 0, 1) := by decide +kernel
theorem dX7_goBack_21 : decode cX7_goBack 21 = .ok (.getfield 27, 3) := by decide +kernel
theorem dX7_goBack_24 : decode cX7_goBack 24 = .ok (.iload_n 2, 1) := by decide +kernel
theorem dX7_goBack_25 : decode cX7_goBack 25 = .ok (.dup2, 1) := by decide +kernel
theorem dX7_goBack_26 : decode cX7_goBack 26 = .ok (.iaload, 1) := by decide +kernel
theorem dX7_goBack_27 : decode cX7_goBack 27 = .ok (.iconst 1, 1) := by decide +kernel
theorem dX7_goBack_28 : decode cX7_goBack 28 = .ok (.iadd, 1) := by decide +kernel
theorem dX7_goBack_29 : decode cX7_goBack 29 = .ok (.iastore, 1) := by decide +kernel
theorem dX7_goBack_30 : decode cX7_goBack 30 = .ok (.aload_n 0, 1) := by decide +kernel
theorem dX7_goBack_31 : decode cX7_goBack 31 = .ok (.getfield 18, 3) := by decide +kernel
theorem dX7_goBack_34 : decode cX7_goBack 34 = .ok (.iload_n 2, 1) := by decide +kernel
theorem dX7_goBack_35 : decode cX7_goBack 35 = .ok (.iaload, 1) := by decide +kernel
theorem dX7_goBack_36 : decode cX7_goBack 36 = .ok (.ireturn, 1) := by decide +kernel
theorem dX7_goBack_37 : decode cX7_goBack 37 = .ok (.aload_n 0, 1) := by decide +kernel
theorem dX7_goBack_38 : decode cX7_goBack 38 = .ok (.getfield 27, 3) := by decide +kernel
theorem dX7_goBack_41 : decode cX7_goBack 41 = .ok (.iload_n 2, 1) := by decide +kernel
theorem dX7_goBack_42 : decode cX7_goBack 42 = .ok (.dup2, 1) := by decide +kernel
theorem dX7_goBack_43 : decode cX7_goBack 43 = .ok (.iaload, 1) := by decide +kernel
theorem dX7_goBack_44 : decode cX7_goBack 44 = .ok (.iconst 1, 1) := by decide +kernel
theorem dX7_goBack_45 : decode cX7_goBack 45 = .ok (.isub, 1) := by decide +kernel
theorem dX7_goBack_46 : decode cX7_goBack 46 = .ok (.iastore, 1) := by decide +kernel
theorem dX7_goBack_47 : decode cX7_goBack 47 = .ok (.aload_n 0, 1) := by decide +kernel
theorem dX7_goBack_48 : decode cX7_goBack 48 = .ok (.getfield 21, 3) := by decide +kernel
theorem dX7_goBack_51 : decode cX7_goBack 51 = .ok (.iload_n 2, 1) := by decide +kernel
theorem dX7_goBack_52 : decode cX7_goBack 52 = .ok (.iaload, 1) := by decide +kernel
theorem dX7_goBack_53 : decode cX7_goBack 53 = .ok (.ireturn, 1) := by decide +kernel
theorem dX7_lowerAll_0 : decode cX7_lowerAll 0 = .ok (.iconst 0, 1) := by decide +kernel
theorem dX7_lowerAll_1 : decode cX7_lowerAll 1 = .ok (.istore_n 1, 1) := by decide +kernel
theorem dX7_lowerAll_2 : decode cX7_lowerAll 2 = .ok (.iload_n 1, 1) := by decide +kernel
theorem dX7_lowerAll_3 : decode cX7_lowerAll 3 = .ok (.aload_n 0, 1) := by decide +kernel
theorem dX7_lowerAll_4 : decode cX7_lowerAll 4 = .ok (.getfield 147, 3) := by decide +kernel
theorem dX7_lowerAll_7 : decode cX7_lowerAll 7 = .ok (.if_icmp .ge 61, 3) := by decide +kernel
theorem dX7_lowerAll_10 : decode cX7_lowerAll 10 = .ok (.aload_n 0, 1) := by decide +kernel
theorem dX7_lowerAll_11 : decode cX7_lowerAll 11 = .ok (.getfield 27, 3) := by decide +kernel
theorem dX7_lowerAll_14 : decode cX7_lowerAll 14 = .ok (.iload_n 1, 1) := by decide +kernel
theorem dX7_lowerAll_15 : decode cX7_lowerAll 15 = .ok (.iaload, 1) := by decide +kernel
theorem dX7_lowerAll_16 : decode cX7_lowerAll 16 = .ok (.istore_n 2, 1) := by decide +kernel
theorem dX7_lowerAll_17 : decode cX7_lowerAll 17 = .ok (.iconst 0, 1) := by decide +kernel
theorem dX7_lowerAll_18 : decode cX7_lowerAll 18 = .ok (.istore_n 3, 1) := by decide +kernel
theorem dX7_lowerAll_19 : decode cX7_lowerAll 19 = .ok (.iload_n 3, 1) := by decide +kernel
theorem dX7_lowerAll_20 : decode cX7_lowerAll 20 = .ok (.iload_n 2, 1) := by decide +kernel
theorem dX7_lowerAll_21 : decode cX7_lowerAll 21 = .ok (.if_icmp .ge 41, 3) := by decide +kernel
theorem dX7_lowerAll_24 : decode cX7_lowerAll 24 = .ok (.aload_n 0, 1) := by decide +kernel
theorem dX7_lowerAll_25 : decode cX7_lowerAll 25 = .ok (.aload_n 0, 1) := by decide +kernel
theorem dX7_lowerAll_26 : decode cX7_lowerAll 26 = .ok (.getfield 18, 3) := by decide +kernel
theorem dX7_lowerAll_29 : decode cX7_lowerAll 29 = .ok (.iload_n 1, 1) := by decide +kernel
theorem dX7_lowerAll_30 : decode cX7_lowerAll 30 = .ok (.iaload, 1) := by decide +kernel
theorem dX7_lowerAll_31 : decode cX7_lowerAll 31 = .ok (.aload_n 0, 1) := by decide +kernel
theorem dX7_lowerAll_32 : decode cX7_lowerAll 32 = .ok (.getfield 21, 3) := by decide +kernel
theorem dX7_lowerAll_35 : decode cX7_lowerAll 35 = .ok (.iload_n 1, 1) := by decide +kernel
theorem dX7_lowerAll_36 : decode cX7_lowerAll 36 = .ok (.iaload, 1) := by decide +kernel
theorem dX7_lowerAll_37 : decode cX7_lowerAll 37 = .ok (.iload_n 1, 1) := by decide +kernel
theorem dX7_lowerAll_38 : decode cX7_lowerAll 38 = .ok (.iconst 1, 1) := by decide +kernel
theorem dX7_lowerAll_39 : decode cX7_lowerAll 39 = .ok (.iadd, 1) := by decide +kernel
theorem dX7_lowerAll_40 : decode cX7_lowerAll 40 = .ok (.invokevirtual 141, 3) := by decide +kernel
theorem dX7_lowerAll_43 : decode cX7_lowerAll 43 = .ok (.ifCond .eq 19, 3) := by decide +kernel
theorem dX7_lowerAll_46 : decode cX7_lowerAll 46 = .ok (.aload_n 0, 1) := by decide +kernel
theorem dX7_lowerAll_47 : decode cX7_lowerAll 47 = .ok (.getfield 27, 3) := by decide +kernel
theorem dX7_lowerAll_50 : decode cX7_lowerAll 50 = .ok (.iload_n 1, 1) := by decide +kernel
theorem dX7_lowerAll_51 : decode cX7_lowerAll 51 = .ok (.dup2, 1) := by decide +kernel
theorem dX7_lowerAll_52 : decode cX7_lowerAll 52 = .ok (.iaload, 1) := by decide +kernel
theorem dX7_lowerAll_53 : decode cX7_lowerAll 53 = .ok (.iconst 1, 1) := by decide +kernel
theorem dX7_lowerAll_54 : decode cX7_lowerAll 54 = .ok (.isub, 1) := by decide +kernel
theorem dX7_lowerAll_55 : decode cX7_lowerAll 55 = .ok (.iastore, 1) := by decide +kernel
theorem dX7_lowerAll_56 : decode cX7_lowerAll 56 = .ok (.iinc 3 1, 3) := by decide +kernel
theorem dX7_lowerAll_59 : decode cX7_lowerAll 59 = .ok (.goto (-40), 3) := by decide +kernel
theorem dX7_lowerAll_62 : decode cX7_lowerAll 62 = .ok (.iinc 1 1, 3) := by decide +kernel
theorem dX7_lowerAll_65 : decode cX7_lowerAll 65 = .ok (.goto (-63), 3) := by decide +kernel
theorem dX7_lowerAll_68 : decode cX7_lowerAll 68 = .ok (.return_, 1) := by decide +kernel
theorem dX7_judgeFlow_0 : decode cX7_judgeFlow 0 = .ok (.aload_n 0, 1) := by decide +kernel
theorem dX7_judgeFlow_1 : decode cX7_judgeFlow 1 = .ok (.aload_n 1, 1) := by decide +kernel
theorem dX7_judgeFlow_2 : decode cX7_judgeFlow 2 = .ok (.invokevirtual 126, 3) := by decide +kernel
theorem dX7_judgeFlow_5 : decode cX7_judgeFlow 5 = .ok (.aload_n 2, 1) := by decide +kernel
theorem dX7_judgeFlow_6 : decode cX7_judgeFlow 6 = .ok (.getfield 103, 3) := by decide +kernel
theorem dX7_judgeFlow_9 : decode cX7_judgeFlow 9 = .ok (.aload_n 0, 1) := by decide +kernel
theorem dX7_judgeFlow_10 : decode cX7_judgeFlow 10 = .ok (.getfield 147, 3) := by decide +kernel
theorem dX7_judgeFlow_13 : decode cX7_judgeFlow 13 = .ok (.if_icmp .eq 5, 3) := by decide +kernel
theorem dX7_judgeFlow_16 : decode cX7_judgeFlow 16 = .ok (.iconst 1, 1) := by decide +kernel
theorem dX7_judgeFlow_17 : decode cX7_judgeFlow 17 = .ok (.ireturn, 1) := by decide +kernel
theorem dX7_judgeFlow_18 : decode cX7_judgeFlow 18 = .ok (.aload_n 0, 1) := by decide +kernel
theorem dX7_judgeFlow_19 : decode cX7_judgeFlow 19 = .ok (.getfield 33, 3) := by decide +kernel
theorem dX7_judgeFlow_22 : decode cX7_judgeFlow 22 = .ok (.iconst 0, 1) := by decide +kernel
theorem dX7_judgeFlow_23 : decode cX7_judgeFlow 23 = .ok (.invokestatic 133, 3) := by decide +kernel
theorem dX7_judgeFlow_26 : decode cX7_judgeFlow 26 = .ok (.iconst 0, 1) := by decide +kernel
theorem dX7_judgeFlow_27 : decode cX7_judgeFlow 27 = .ok (.istore_n 3, 1) := by decide +kernel
theorem dX7_judgeFlow_28 : decode cX7_judgeFlow 28 = .ok (.iload_n 3, 1) := by decide +kernel
theorem dX7_judgeFlow_29 : decode cX7_judgeFlow 29 = .ok (.aload_n 0, 1) := by decide +kernel
theorem dX7_judgeFlow_30 : decode cX7_judgeFlow 30 = .ok (.getfield 147, 3) := by decide +kernel
theorem dX7_judgeFlow_33 : decode cX7_judgeFlow 33 = .ok (.if_icmp .ge 71, 3) := by decide +kernel
theorem dX7_judgeFlow_36 : decode cX7_judgeFlow 36 = .ok (.aload_n 2, 1) := by decide +kernel
theorem dX7_judgeFlow_37 : decode cX7_judgeFlow 37 = .ok (.iload_n 3, 1) := by decide +kernel
theorem dX7_judgeFlow_38 : decode cX7_judgeFlow 38 = .ok (.invokevirtual 110, 3) := by decide +kernel
theorem dX7_judgeFlow_41 : decode cX7_judgeFlow 41 = .ok (.ifCond .lt 17, 3) := by decide +kernel
theorem dX7_judgeFlow_44 : decode cX7_judgeFlow 44 = .ok (.aload_n 2, 1) := by decide +kernel
theorem dX7_judgeFlow_45 : decode cX7_judgeFlow 45 = .ok (.iload_n 3, 1) := by decide +kernel
theorem dX7_judgeFlow_46 : decode cX7_judgeFlow 46 = .ok (.invokevirtual 110, 3) := by decide +kernel
theorem dX7_judgeFlow_49 : decode cX7_judgeFlow 49 = .ok (.aload_n 0, 1) := by decide +kernel
theorem dX7_judgeFlow_50 : decode cX7_judgeFlow 50 = .ok (.getfield 24, 3) := by decide +kernel
theorem dX7_judgeFlow_53 : decode cX7_judgeFlow 53 = .ok (.iload_n 3, 1) := by decide +kernel
theorem dX7_judgeFlow_54 : decode cX7_judgeFlow 54 = .ok (.iaload, 1) := by decide +kernel
theorem dX7_judgeFlow_55 : decode cX7_judgeFlow 55 = .ok (.if_icmp .le 5, 3) := by decide +kernel
theorem dX7_judgeFlow_58 : decode cX7_judgeFlow 58 = .ok (.iconst 2, 1) := by decide +kernel
theorem dX7_judgeFlow_59 : decode cX7_judgeFlow 59 = .ok (.ireturn, 1) := by decide +kernel
theorem dX7_judgeFlow_60 : decode cX7_judgeFlow 60 = .ok (.aload_n 0, 1) := by decide +kernel
theorem dX7_judgeFlow_61 : decode cX7_judgeFlow 61 = .ok (.getfield 33, 3) := by decide +kernel
theorem dX7_judgeFlow_64 : decode cX7_judgeFlow 64 = .ok (.aload_n 0, 1) := by decide +kernel
theorem dX7_judgeFlow_65 : decode cX7_judgeFlow 65 = .ok (.getfield 18, 3) := by decide +kernel
theorem dX7_judgeFlow_68 : decode cX7_judgeFlow 68 = .ok (.iload_n 3, 1) := by decide +kernel
theorem dX7_judgeFlow_69 : decode cX7_judgeFlow 69 = .ok (.iaload, 1) := by decide +kernel
theorem dX7_judgeFlow_70 : decode cX7_judgeFlow 70 = .ok (.dup2, 1) := by decide +kernel
theorem dX7_judgeFlow_71 : decode cX7_judgeFlow 71 = .ok (.iaload, 1) := by decide +kernel
theorem dX7_judgeFlow_72 : decode cX7_judgeFlow 72 = .ok (.aload_n 2, 1) := by decide +kernel
theorem dX7_judgeFlow_73 : decode cX7_judgeFlow 73 = .ok (.iload_n 3, 1) := by decide +kernel
theorem dX7_judgeFlow_74 : decode cX7_judgeFlow 74 = .ok (.invokevirtual 110, 3) := by decide +kernel
theorem dX7_judgeFlow_77 : decode cX7_judgeFlow 77 = .ok (.iadd, 1) := by decide +kernel
theorem dX7_judgeFlow_78 : decode cX7_judgeFlow 78 = .ok (.iastore, 1) := by decide +kernel
theorem dX7_judgeFlow_79 : decode cX7_judgeFlow 79 = .ok (.aload_n 0, 1) := by decide +kernel
theorem dX7_judgeFlow_80 : decode cX7_judgeFlow 80 = .ok (.getfield 33, 3) := by decide +kernel
theorem dX7_judgeFlow_83 : decode cX7_judgeFlow 83 = .ok (.aload_n 0, 1) := by decide +kernel
theorem dX7_judgeFlow_84 : decode cX7_judgeFlow 84 = .ok (.getfield 21, 3) := by decide +kernel
theorem dX7_judgeFlow_87 : decode cX7_judgeFlow 87 = .ok (.iload_n 3, 1) := by decide +kernel
theorem dX7_judgeFlow_88 : decode cX7_judgeFlow 88 = .ok (.iaload, 1) := by decide +kernel
theorem dX7_judgeFlow_89 : decode cX7_judgeFlow 89 = .ok (.dup2, 1) := by decide +kernel
theorem dX7_judgeFlow_90 : decode cX7_judgeFlow 90 = .ok (.iaload, 1) := by decide +kernel
theorem dX7_judgeFlow_91 : decode cX7_judgeFlow 91 = .ok (.aload_n 2, 1) := by decide +kernel
theorem dX7_judgeFlow_92 : decode cX7_judgeFlow 92 = .ok (.iload_n 3, 1) := by decide +kernel
theorem dX7_judgeFlow_93 : decode cX7_judgeFlow 93 = .ok (.invokevirtual 110, 3) := by decide +kernel
theorem dX7_judgeFlow_96 : decode cX7_judgeFlow 96 = .ok (.isub, 1) := by decide +kernel
theorem dX7_judgeFlow_97 : decode cX7_judgeFlow 97 = .ok (.iastore, 1) := by decide +kernel
theorem dX7_judgeFlow_98 : decode cX7_judgeFlow 98 = .ok (.iinc 3 1, 3) := by decide +kernel
theorem dX7_judgeFlow_101 : decode cX7_judgeFlow 101 = .ok (.goto (-73), 3) := by decide +kernel
theorem dX7_judgeFlow_104 : decode cX7_judgeFlow 104 = .ok (.iconst 1, 1) := by decide +kernel
theorem dX7_judgeFlow_105 : decode cX7_judgeFlow 105 = .ok (.istore_n 3, 1) := by decide +kernel
theorem dX7_judgeFlow_106 : decode cX7_judgeFlow 106 = .ok (.iload_n 3, 1) := by decide +kernel
theorem dX7_judgeFlow_107 : decode cX7_judgeFlow 107 = .ok (.aload_n 0, 1) := by decide +kernel
theorem dX7_judgeFlow_108 : decode cX7_judgeFlow 108 = .ok (.getfield 138, 3) := by decide +kernel
theorem dX7_judgeFlow_111 : decode cX7_judgeFlow 111 = .ok (.iconst 1, 1) := by decide +kernel
theorem dX7_judgeFlow_112 : decode cX7_judgeFlow 112 = .ok (.isub, 1) := by decide +kernel
theorem dX7_judgeFlow_113 : decode cX7_judgeFlow 113 = .ok (.if_icmp .ge 20, 3) := by decide +kernel
theorem dX7_judgeFlow_116 : decode cX7_judgeFlow 116 = .ok (.aload_n 0, 1) := by decide +kernel
theorem dX7_judgeFlow_117 : decode cX7_judgeFlow 117 = .ok (.getfield 33, 3) := by decide +kernel
theorem dX7_judgeFlow_120 : decode cX7_judgeFlow 120 = .ok (.iload_n 3, 1) := by decide +kernel
theorem dX7_judgeFlow_121 : decode cX7_judgeFlow 121 = .ok (.iaload, 1) := by decide +kernel
theorem dX7_judgeFlow_122 : decode cX7_judgeFlow 122 = .ok (.ifCond .eq 5, 3) := by decide +kernel
theorem dX7_judgeFlow_125 : decode cX7_judgeFlow 125 = .ok (.iconst 3, 1) := by decide +kernel
theorem dX7_judgeFlow_126 : decode cX7_judgeFlow 126 = .ok (.ireturn, 1) := by decide +kernel
theorem dX7_judgeFlow_127 : decode cX7_judgeFlow 127 = .ok (.iinc 3 1, 3) := by decide +kernel
theorem dX7_judgeFlow_130 : decode cX7_judgeFlow 130 = .ok (.goto (-24), 3) := by decide +kernel
theorem dX7_judgeFlow_133 : decode cX7_judgeFlow 133 = .ok (.aload_n 0, 1) := by decide +kernel
theorem dX7_judgeFlow_134 : decode cX7_judgeFlow 134 = .ok (.getfield 33, 3) := by decide +kernel
theorem dX7_judgeFlow_137 : decode cX7_judgeFlow 137 = .ok (.iconst 0, 1) := by decide +kernel
theorem dX7_judgeFlow_138 : decode cX7_judgeFlow 138 = .ok (.iaload, 1) := by decide +kernel
theorem dX7_judgeFlow_139 : decode cX7_judgeFlow 139 = .ok (.aload_n 1, 1) := by decide +kernel
theorem dX7_judgeFlow_140 : decode cX7_judgeFlow 140 = .ok (.getfield 46, 3) := by decide +kernel
theorem dX7_judgeFlow_143 : decode cX7_judgeFlow 143 = .ok (.if_icmp .ne 7, 3) := by decide +kernel
theorem dX7_judgeFlow_146 : decode cX7_judgeFlow 146 = .ok (.iconst 0, 1) := by decide +kernel
theorem dX7_judgeFlow_147 : decode cX7_judgeFlow 147 = .ok (.goto 4, 3) := by decide +kernel
theorem dX7_judgeFlow_150 : decode cX7_judgeFlow 150 = .ok (.iconst 4, 1) := by decide +kernel
theorem dX7_judgeFlow_151 : decode cX7_judgeFlow 151 = .ok (.ireturn, 1) := by decide +kernel
theorem dX7_judgeBar_0 : decode cX7_judgeBar 0 = .ok (.aload_n 0, 1) := by decide +kernel
theorem dX7_judgeBar_1 : decode cX7_judgeBar 1 = .ok (.aload_n 1, 1) := by decide +kernel
theorem dX7_judgeBar_2 : decode cX7_judgeBar 2 = .ok (.invokevirtual 126, 3) := by decide +kernel
theorem dX7_judgeBar_5 : decode cX7_judgeBar 5 = .ok (.aload_n 2, 1) := by decide +kernel
theorem dX7_judgeBar_6 : decode cX7_judgeBar 6 = .ok (.getfield 103, 3) := by decide +kernel
theorem dX7_judgeBar_9 : decode cX7_judgeBar 9 = .ok (.ifCond .eq 34, 3) := by decide +kernel
theorem dX7_judgeBar_12 : decode cX7_judgeBar 12 = .ok (.aload_n 2, 1) := by decide +kernel
theorem dX7_judgeBar_13 : decode cX7_judgeBar 13 = .ok (.iconst 0, 1) := by decide +kernel
theorem dX7_judgeBar_14 : decode cX7_judgeBar 14 = .ok (.invokevirtual 110, 3) := by decide +kernel
theorem dX7_judgeBar_17 : decode cX7_judgeBar 17 = .ok (.ifCond .ne 26, 3) := by decide +kernel
theorem dX7_judgeBar_20 : decode cX7_judgeBar 20 = .ok (.aload_n 2, 1) := by decide +kernel
theorem dX7_judgeBar_21 : decode cX7_judgeBar 21 = .ok (.iconst 0, 1) := by decide +kernel
theorem dX7_judgeBar_22 : decode cX7_judgeBar 22 = .ok (.invokevirtual 113, 3) := by decide +kernel
theorem dX7_judgeBar_25 : decode cX7_judgeBar 25 = .ok (.ifCond .eq 18, 3) := by decide +kernel
theorem dX7_judgeBar_28 : decode cX7_judgeBar 28 = .ok (.aload_n 2, 1) := by decide +kernel
theorem dX7_judgeBar_29 : decode cX7_judgeBar 29 = .ok (.iconst 0, 1) := by decide +kernel
theorem dX7_judgeBar_30 : decode cX7_judgeBar 30 = .ok (.iconst 0, 1) := by decide +kernel
theorem dX7_judgeBar_31 : decode cX7_judgeBar 31 = .ok (.aload_n 0, 1) := by decide +kernel
theorem dX7_judgeBar_32 : decode cX7_judgeBar 32 = .ok (.getfield 138, 3) := by decide +kernel
theorem dX7_judgeBar_35 : decode cX7_judgeBar 35 = .ok (.iconst 2, 1) := by decide +kernel
theorem dX7_judgeBar_36 : decode cX7_judgeBar 36 = .ok (.isub, 1) := by decide +kernel
theorem dX7_judgeBar_37 : decode cX7_judgeBar 37 = .ok (.invokevirtual 106, 3) := by decide +kernel
theorem dX7_judgeBar_40 : decode cX7_judgeBar 40 = .ok (.ifCond .ne 5, 3) := by decide +kernel
theorem dX7_judgeBar_43 : decode cX7_judgeBar 43 = .ok (.iconst 1, 1) := by decide +kernel
theorem dX7_judgeBar_44 : decode cX7_judgeBar 44 = .ok (.ireturn, 1) := by decide +kernel
theorem dX7_judgeBar_45 : decode cX7_judgeBar 45 = .ok (.iconst 0, 1) := by decide +kernel
theorem dX7_judgeBar_46 : decode cX7_judgeBar 46 = .ok (.istore_n 3, 1) := by decide +kernel
theorem dX7_judgeBar_47 : decode cX7_judgeBar 47 = .ok (.iconst 0, 1) := by decide +kernel
theorem dX7_judgeBar_48 : decode cX7_judgeBar 48 = .ok (.istore 4, 2) := by decide +kernel
theorem dX7_judgeBar_50 : decode cX7_judgeBar 50 = .ok (.iload 4, 2) := by decide +kernel
theorem dX7_judgeBar_52 : decode cX7_judgeBar 52 = .ok (.aload_n 0, 1) := by decide +kernel
theorem dX7_judgeBar_53 : decode cX7_judgeBar 53 = .ok (.getfield 147, 3) := by decide +kernel
theorem dX7_judgeBar_56 : decode cX7_judgeBar 56 = .ok (.if_icmp .ge 49, 3) := by decide +kernel
theorem dX7_judgeBar_59 : decode cX7_judgeBar 59 = .ok (.aload_n 2, 1) := by decide +kernel
theorem dX7_judgeBar_60 : decode cX7_judgeBar 60 = .ok (.iconst 0, 1) := by decide +kernel
theorem dX7_judgeBar_61 : decode cX7_judgeBar 61 = .ok (.aload_n 0, 1) := by decide +kernel
theorem dX7_judgeBar_62 : decode cX7_judgeBar 62 = .ok (.getfield 18, 3) := by decide +kernel
theorem dX7_judgeBar_65 : decode cX7_judgeBar 65 = .ok (.iload 4, 2) := by decide +kernel
theorem dX7_judgeBar_67 : decode cX7_judgeBar 67 = .ok (.iaload, 1) := by decide +kernel
theorem dX7_judgeBar_68 : decode cX7_judgeBar 68 = .ok (.invokevirtual 165, 3) := by decide +kernel
theorem dX7_judgeBar_71 : decode cX7_judgeBar 71 = .ok (.ifCond .eq 28, 3) := by decide +kernel
theorem dX7_judgeBar_74 : decode cX7_judgeBar 74 = .ok (.aload_n 2, 1) := by decide +kernel
theorem dX7_judgeBar_75 : decode cX7_judgeBar 75 = .ok (.iconst 0, 1) := by decide +kernel
theorem dX7_judgeBar_76 : decode cX7_judgeBar 76 = .ok (.aload_n 0, 1) := by decide +kernel
theorem dX7_judgeBar_77 : decode cX7_judgeBar 77 = .ok (.getfield 21, 3) := by decide +kernel
theorem dX7_judgeBar_80 : decode cX7_judgeBar 80 = .ok (.iload 4, 2) := by decide +kernel
theorem dX7_judgeBar_82 : decode cX7_judgeBar 82 = .ok (.iaload, 1) := by decide +kernel
theorem dX7_judgeBar_83 : decode cX7_judgeBar 83 = .ok (.invokevirtual 165, 3) := by decide +kernel
theorem dX7_judgeBar_86 : decode cX7_judgeBar 86 = .ok (.ifCond .ne 13, 3) := by decide +kernel
theorem dX7_judgeBar_89 : decode cX7_judgeBar 89 = .ok (.iload_n 3, 1) := by decide +kernel
theorem dX7_judgeBar_90 : decode cX7_judgeBar 90 = .ok (.aload_n 0, 1) := by decide +kernel
theorem dX7_judgeBar_91 : decode cX7_judgeBar 91 = .ok (.getfield 24, 3) := by decide +kernel
theorem dX7_judgeBar_94 : decode cX7_judgeBar 94 = .ok (.iload 4, 2) := by decide +kernel
theorem dX7_judgeBar_96 : decode cX7_judgeBar 96 = .ok (.iaload, 1) := by decide +kernel
theorem dX7_judgeBar_97 : decode cX7_judgeBar 97 = .ok (.iadd, 1) := by decide +kernel
theorem dX7_judgeBar_98 : decode cX7_judgeBar 98 = .ok (.istore_n 3, 1) := by decide +kernel
theorem dX7_judgeBar_99 : decode cX7_judgeBar 99 = .ok (.iinc 4 1, 3) := by decide +kernel
theorem dX7_judgeBar_102 : decode cX7_judgeBar 102 = .ok (.goto (-52), 3) := by decide +kernel
theorem dX7_judgeBar_105 : decode cX7_judgeBar 105 = .ok (.iload_n 3, 1) := by decide +kernel
theorem dX7_judgeBar_106 : decode cX7_judgeBar 106 = .ok (.aload_n 1, 1) := by decide +kernel
theorem dX7_judgeBar_107 : decode cX7_judgeBar 107 = .ok (.getfield 46, 3) := by decide +kernel
theorem dX7_judgeBar_110 : decode cX7_judgeBar 110 = .ok (.if_icmp .ge 7, 3) := by decide +kernel
theorem dX7_judgeBar_113 : decode cX7_judgeBar 113 = .ok (.iconst 0, 1) := by decide +kernel
theorem dX7_judgeBar_114 : decode cX7_judgeBar 114 = .ok (.goto 4, 3) := by decide +kernel
theorem dX7_judgeBar_117 : decode cX7_judgeBar 117 = .ok (.iconst 2, 1) := by decide +kernel
theorem dX7_judgeBar_118 : decode cX7_judgeBar 118 = .ok (.ireturn, 1) := by decide +kernel
