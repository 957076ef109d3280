theorem dX6_init_0 : decode cX6_init 0 = .ok (.aload_n 0, 1) := by decide +kernel
theorem dX6_init_1 : decode cX6_init 1 = .ok (.invokespecial 3, 3) := by decide +kernel
theorem dX6_init_4 : decode cX6_init 4 = .ok (.aload_n 0, 1) := by decide +kernel
theorem dX6_init_5 : decode cX6_init 5 = .ok (.bipush 8, 2) := by decide +kernel
theorem dX6_init_7 : decode cX6_init 7 = .ok (.newarray .int, 2) := by decide +kernel
theorem dX6_init_9 : decode cX6_init 9 = .ok (.putfield 11, 3) := by decide +kernel
theorem dX6_init_12 : decode cX6_init 12 = .ok (.aload_n 0, 1) := by decide +kernel
theorem dX6_init_13 : decode cX6_init 13 = .ok (.bipush 8, 2) := by decide +kernel
theorem dX6_init_15 : decode cX6_init 15 = .ok (.newarray .int, 2) := by decide +kernel
theorem dX6_init_17 : decode cX6_init 17 = .ok (.putfield 15, 3) := by decide +kernel
theorem dX6_init_20 : decode cX6_init 20 = .ok (.aload_n 0, 1) := by decide +kernel
theorem dX6_init_21 : decode cX6_init 21 = .ok (.bipush 8, 2) := by decide +kernel
theorem dX6_init_23 : decode cX6_init 23 = .ok (.newarray .int, 2) := by decide +kernel
theorem dX6_init_25 : decode cX6_init 25 = .ok (.putfield 18, 3) := by decide +kernel
theorem dX6_init_28 : decode cX6_init 28 = .ok (.aload_n 0, 1) := by decide +kernel
theorem dX6_init_29 : decode cX6_init 29 = .ok (.bipush 64, 2) := by decide +kernel
theorem dX6_init_31 : decode cX6_init 31 = .ok (.newarray .int, 2) := by decide +kernel
theorem dX6_init_33 : decode cX6_init 33 = .ok (.putfield 21, 3) := by decide +kernel
theorem dX6_init_36 : decode cX6_init 36 = .ok (.aload_n 0, 1) := by decide +kernel
theorem dX6_init_37 : decode cX6_init 37 = .ok (.bipush 8, 2) := by decide +kernel
theorem dX6_init_39 : decode cX6_init 39 = .ok (.newarray .int, 2) := by decide +kernel
theorem dX6_init_41 : decode cX6_init 41 = .ok (.putfield 24, 3) := by decide +kernel
theorem dX6_init_44 : decode cX6_init 44 = .ok (.aload_n 0, 1) := by decide +kernel
theorem dX6_init_45 : decode cX6_init 45 = .ok (.bipush 8, 2) := by decide +kernel
theorem dX6_init_47 : decode cX6_init 47 = .ok (.newarray .int, 2) := by decide +kernel
theorem dX6_init_49 : decode cX6_init 49 = .ok (.putfield 27, 3) := by decide +kernel
theorem dX6_init_52 : decode cX6_init 52 = .ok (.aload_n 0, 1) := by decide +kernel
theorem dX6_init_53 : decode cX6_init 53 = .ok (.bipush 8, 2) := by decide +kernel
theorem dX6_init_55 : decode cX6_init 55 = .ok (.newarray .int, 2) := by decide +kernel
theorem dX6_init_57 : decode cX6_init 57 = .ok (.putfield 30, 3) := by decide +kernel
theorem dX6_init_60 : decode cX6_init 60 = .ok (.return_, 1) := by decide +kernel
theorem dX6_solveMachines_0 : decode cX6_solveMachines 0 = .ok (.aload_n 0, 1) := by decide +kernel
theorem dX6_solveMachines_1 : decode cX6_solveMachines 1 = .ok (.aload_n 1, 1) := by decide +kernel
theorem dX6_solveMachines_2 : decode cX6_solveMachines 2 = .ok (.invokevirtual 33, 3) := by decide +kernel
theorem dX6_solveMachines_5 : decode cX6_solveMachines 5 = .ok (.aload_n 1, 1) := by decide +kernel
theorem dX6_solveMachines_6 : decode cX6_solveMachines 6 = .ok (.invokevirtual 37, 3) := by decide +kernel
theorem dX6_solveMachines_9 : decode cX6_solveMachines 9 = .ok (.istore_n 2, 1) := by decide +kernel
theorem dX6_solveMachines_10 : decode cX6_solveMachines 10 = .ok (.iconst 0, 1) := by decide +kernel
theorem dX6_solveMachines_11 : decode cX6_solveMachines 11 = .ok (.istore_n 3, 1) := by decide +kernel
theorem dX6_solveMachines_12 : decode cX6_solveMachines 12 = .ok (.iconst 0, 1) := by decide +kernel
theorem dX6_solveMachines_13 : decode cX6_solveMachines 13 = .ok (.istore 4, 2) := by decide +kernel
theorem dX6_solveMachines_15 : decode cX6_solveMachines 15 = .ok (.iload 4, 2) := by decide +kernel
theorem dX6_solveMachines_17 : decode cX6_solveMachines 17 = .ok (.aload_n 0, 1) := by decide +kernel
theorem dX6_solveMachines_18 : decode cX6_solveMachines 18 = .ok (.getfield 43, 3) := by decide +kernel
theorem dX6_solveMachines_21 : decode cX6_solveMachines 21 = .ok (.if_icmp .ge 23, 3) := by decide +kernel
theorem dX6_solveMachines_24 : decode cX6_solveMachines 24 = .ok (.aload_n 0, 1) := by decide +kernel
theorem dX6_solveMachines_25 : decode cX6_solveMachines 25 = .ok (.iload 4, 2) := by decide +kernel
theorem dX6_solveMachines_27 : decode cX6_solveMachines 27 = .ok (.invokevirtual 47, 3) := by decide +kernel
theorem dX6_solveMachines_30 : decode cX6_solveMachines 30 = .ok (.iload 4, 2) := by decide +kernel
theorem dX6_solveMachines_32 : decode cX6_solveMachines 32 = .ok (.if_icmp .ne 6, 3) := by decide +kernel
theorem dX6_solveMachines_35 : decode cX6_solveMachines 35 = .ok (.iinc 3 1, 3) := by decide +kernel
theorem dX6_solveMachines_38 : decode cX6_solveMachines 38 = .ok (.iinc 4 1, 3) := by decide +kernel
theorem dX6_solveMachines_41 : decode cX6_solveMachines 41 = .ok (.goto (-26), 3) := by decide +kernel
theorem dX6_solveMachines_44 : decode cX6_solveMachines 44 = .ok (.aload_n 0, 1) := by decide +kernel
theorem dX6_solveMachines_45 : decode cX6_solveMachines 45 = .ok (.iconst 0, 1) := by decide +kernel
theorem dX6_solveMachines_46 : decode cX6_solveMachines 46 = .ok (.iload_n 2, 1) := by decide +kernel
theorem dX6_solveMachines_47 : decode cX6_solveMachines 47 = .ok (.invokevirtual 51, 3) := by decide +kernel
theorem dX6_solveMachines_50 : decode cX6_solveMachines 50 = .ok (.ifCond .ge 7, 3) := by decide +kernel
theorem dX6_solveMachines_53 : decode cX6_solveMachines 53 = .ok (.iconst 1, 1) := by decide +kernel
theorem dX6_solveMachines_54 : decode cX6_solveMachines 54 = .ok (.goto 4, 3) := by decide +kernel
theorem dX6_solveMachines_57 : decode cX6_solveMachines 57 = .ok (.iconst 0, 1) := by decide +kernel
theorem dX6_solveMachines_58 : decode cX6_solveMachines 58 = .ok (.istore 4, 2) := by decide +kernel
theorem dX6_solveMachines_60 : decode cX6_solveMachines 60 = .ok (.aload_n 1, 1) := by decide +kernel
theorem dX6_solveMachines_61 : decode cX6_solveMachines 61 = .ok (.iload 4, 2) := by decide +kernel
theorem dX6_solveMachines_63 : decode cX6_solveMachines 63 = .ok (.iload_n 3, 1) := by decide +kernel
theorem dX6_solveMachines_64 : decode cX6_solveMachines 64 = .ok (.invokevirtual 55, 3) := by decide +kernel
theorem dX6_solveMachines_67 : decode cX6_solveMachines 67 = .ok (.iload 4, 2) := by decide +kernel
theorem dX6_solveMachines_69 : decode cX6_solveMachines 69 = .ok (.ifCond .eq 37, 3) := by decide +kernel
theorem dX6_solveMachines_72 : decode cX6_solveMachines 72 = .ok (.iconst 0, 1) := by decide +kernel
theorem dX6_solveMachines_73 : decode cX6_solveMachines 73 = .ok (.istore 5, 2) := by decide +kernel
theorem dX6_solveMachines_75 : decode cX6_solveMachines 75 = .ok (.iload 5, 2) := by decide +kernel
theorem dX6_solveMachines_77 : decode cX6_solveMachines 77 = .ok (.aload_n 0, 1) := by decide +kernel
theorem dX6_solveMachines_78 : decode cX6_solveMachines 78 = .ok (.getfield 43, 3) := by decide +kernel
theorem dX6_solveMachines_81 : decode cX6_solveMachines 81 = .ok (.if_icmp .ge 22, 3) := by decide +kernel
theorem dX6_solveMachines_84 : decode cX6_solveMachines 84 = .ok (.aload_n 1, 1) := by decide +kernel
theorem dX6_solveMachines_85 : decode cX6_solveMachines 85 = .ok (.getfield 59, 3) := by decide +kernel
theorem dX6_solveMachines_88 : decode cX6_solveMachines 88 = .ok (.aload_n 0, 1) := by decide +kernel
theorem dX6_solveMachines_89 : decode cX6_solveMachines 89 = .ok (.iload 5, 2) := by decide +kernel
theorem dX6_solveMachines_91 : decode cX6_solveMachines 91 = .ok (.invokevirtual 47, 3) := by decide +kernel
theorem dX6_solveMachines_94 : decode cX6_solveMachines 94 = .ok (.invokevirtual 63, 3) := by decide +kernel
theorem dX6_solveMachines_97 : decode cX6_solveMachines 97 = .ok (.iinc 5 1, 3) := by decide +kernel
theorem dX6_solveMachines_100 : decode cX6_solveMachines 100 = .ok (.goto (-25), 3) := by decide +kernel
theorem dX6_solveMachines_103 : decode cX6_solveMachines 103 = .ok (.goto 12, 3) := by decide +kernel
theorem dX6_solveMachines_106 : decode cX6_solveMachines 106 = .ok (.aload_n 0, 1) := by decide +kernel
theorem dX6_solveMachines_107 : decode cX6_solveMachines 107 = .ok (.iload_n 2, 1) := by decide +kernel
theorem dX6_solveMachines_108 : decode cX6_solveMachines 108 = .ok (.aload_n 1, 1) := by decide +kernel
theorem dX6_solveMachines_109 : decode cX6_solveMachines 109 = .ok (.getfield 59, 3) := by decide +kernel
theorem dX6_solveMachines_112 : decode cX6_solveMachines 112 = .ok (.invokevirtual 69, 3) := by decide +kernel
theorem dX6_solveMachines_115 : decode cX6_solveMachines 115 = .ok (.return_, 1) := by decide +kernel
theorem dX6_loadStates_0 : decode cX6_loadStates 0 = .ok (.aload_n 0, 1) := by decide +kernel
theorem dX6_loadStates_1 : decode cX6_loadStates 1 = .ok (.aload_n 1, 1) := by decide +kernel
theorem dX6_loadStates_2 : decode cX6_loadStates 2 = .ok (.getfield 73, 3) := by decide +kernel
theorem dX6_loadStates_5 : decode cX6_loadStates 5 = .ok (.putfield 43, 3) := by decide +kernel
theorem dX6_loadStates_8 : decode cX6_loadStates 8 = .ok (.iconst 0, 1) := by decide +kernel
theorem dX6_loadStates_9 : decode cX6_loadStates 9 = .ok (.istore_n 2, 1) := by decide +kernel
theorem dX6_loadStates_10 : decode cX6_loadStates 10 = .ok (.iload_n 2, 1) := by decide +kernel
theorem dX6_loadStates_11 : decode cX6_loadStates 11 = .ok (.aload_n 0, 1) := by decide +kernel
theorem dX6_loadStates_12 : decode cX6_loadStates 12 = .ok (.getfield 43, 3) := by decide +kernel
theorem dX6_loadStates_15 : decode cX6_loadStates 15 = .ok (.if_icmp .ge 83, 3) := by decide +kernel
theorem dX6_loadStates_18 : decode cX6_loadStates 18 = .ok (.iload_n 2, 1) := by decide +kernel
theorem dX6_loadStates_19 : decode cX6_loadStates 19 = .ok (.aload_n 1, 1) := by decide +kernel
theorem dX6_loadStates_20 : decode cX6_loadStates 20 = .ok (.getfield 74, 3) := by decide +kernel
theorem dX6_loadStates_23 : decode cX6_loadStates 23 = .ok (.if_icmp .ge 7, 3) := by decide +kernel
theorem dX6_loadStates_26 : decode cX6_loadStates 26 = .ok (.iconst 1, 1) := by decide +kernel
theorem dX6_loadStates_27 : decode cX6_loadStates 27 = .ok (.goto 4, 3) := by decide +kernel
theorem dX6_loadStates_30 : decode cX6_loadStates 30 = .ok (.iconst 0, 1) := by decide +kernel
theorem dX6_loadStates_31 : decode cX6_loadStates 31 = .ok (.istore_n 3, 1) := by decide +kernel
theorem dX6_loadStates_32 : decode cX6_loadStates 32 = .ok (.aload_n 0, 1) := by decide +kernel
theorem dX6_loadStates_33 : decode cX6_loadStates 33 = .ok (.getfield 11, 3) := by decide +kernel
theorem dX6_loadStates_36 : decode cX6_loadStates 36 = .ok (.iload_n 2, 1) := by decide +kernel
theorem dX6_loadStates_37 : decode cX6_loadStates 37 = .ok (.iload_n 3, 1) := by decide +kernel
theorem dX6_loadStates_38 : decode cX6_loadStates 38 = .ok (.ifCond .eq 12, 3) := by decide +kernel
theorem dX6_loadStates_41 : decode cX6_loadStates 41 = .ok (.aload_n 1, 1) := by decide +kernel
theorem dX6_loadStates_42 : decode cX6_loadStates 42 = .ok (.iload_n 2, 1) := by decide +kernel
theorem dX6_loadStates_43 : decode cX6_loadStates 43 = .ok (.iconst 0, 1) := by decide +kernel
theorem dX6_loadStates_44 : decode cX6_loadStates 44 = .ok (.invokevirtual 77, 3) := by decide +kernel
theorem dX6_loadStates_47 : decode cX6_loadStates 47 = .ok (.goto 4, 3) := by decide +kernel
theorem dX6_loadStates_50 : decode cX6_loadStates 50 = .ok (.iload_n 2, 1) := by decide +kernel
theorem dX6_loadStates_51 : decode cX6_loadStates 51 = .ok (.iastore, 1) := by decide +kernel
theorem dX6_loadStates_52 : decode cX6_loadStates 52 = .ok (.aload_n 0, 1) := by decide +kernel
theorem dX6_loadStates_53 : decode cX6_loadStates 53 = .ok (.getfield 15, 3) := by decide +kernel
theorem dX6_loadStates_56 : decode cX6_loadStates 56 = .ok (.iload_n 2, 1) := by decide +kernel
theorem dX6_loadStates_57 : decode cX6_loadStates 57 = .ok (.iload_n 3, 1) := by decide +kernel
theorem dX6_loadStates_58 : decode cX6_loadStates 58 = .ok (.ifCond .eq 12, 3) := by decide +kernel
theorem dX6_loadStates_61 : decode cX6_loadStates 61 = .ok (.aload_n 1, 1) := by decide +kernel
theorem dX6_loadStates_62 : decode cX6_loadStates 62 = .ok (.iload_n 2, 1) := by decide +kernel
theorem dX6_loadStates_63 : decode cX6_loadStates 63 = .ok (.iconst 1, 1) := by decide +kernel
theorem dX6_loadStates_64 : decode cX6_loadStates 64 = .ok (.invokevirtual 77, 3) := by decide +kernel
theorem dX6_loadStates_67 : decode cX6_loadStates 67 = .ok (.goto 4, 3) := by decide +kernel
theorem dX6_loadStates_70 : decode cX6_loadStates 70 = .ok (.iload_n 2, 1) := by decide +kernel
theorem dX6_loadStates_71 : decode cX6_loadStates 71 = .ok (.iastore, 1) := by decide +kernel
theorem dX6_loadStates_72 : decode cX6_loadStates 72 = .ok (.aload_n 0, 1) := by decide +kernel
theorem dX6_loadStates_73 : decode cX6_loadStates 73 = .ok (.getfield 18, 3) := by decide +kernel
theorem dX6_loadStates_76 : decode cX6_loadStates 76 = .ok (.iload_n 2, 1) := by decide +kernel
theorem dX6_loadStates_77 : decode cX6_loadStates 77 = .ok (.iload_n 3, 1) := by decide +kernel
theorem dX6_loadStates_78 : decode cX6_loadStates 78 = .ok (.ifCond .eq 12, 3) := by decide +kernel
theorem dX6_loadStates_81 : decode cX6_loadStates 81 = .ok (.aload_n 1, 1) := by decide +kernel
theorem dX6_loadStates_82 : decode cX6_loadStates 82 = .ok (.iload_n 2, 1) := by decide +kernel
theorem dX6_loadStates_83 : decode cX6_loadStates 83 = .ok (.iconst 2, 1) := by decide +kernel
theorem dX6_loadStates_84 : decode cX6_loadStates 84 = .ok (.invokevirtual 77, 3) := by decide +kernel
theorem dX6_loadStates_87 : decode cX6_loadStates 87 = .ok (.goto 4, 3) := by decide +kernel
theorem dX6_loadStates_90 : decode cX6_loadStates 90 = .ok (.iconst 0, 1) := by decide +kernel
theorem dX6_loadStates_91 : decode cX6_loadStates 91 = .ok (.iastore, 1) := by decide +kernel
theorem dX6_loadStates_92 : decode cX6_loadStates 92 = .ok (.iinc 2 1, 3) := by decide +kernel
theorem dX6_loadStates_95 : decode cX6_loadStates 95 = .ok (.goto (-85), 3) := by decide +kernel
theorem dX6_loadStates_98 : decode cX6_loadStates 98 = .ok (.return_, 1) := by decide +kernel
theorem dX6_lettersAt_0 : decode cX6_lettersAt 0 = .ok (.aload_n 0, 1) := by decide +kernel
theorem dX6_lettersAt_1 : decode cX6_lettersAt 1 = .ok (.getfield 21, 3) := by decide +kernel
theorem dX6_lettersAt_4 : decode cX6_lettersAt 4 = .ok (.iload_n 1, 1) := by decide +kernel
theorem dX6_lettersAt_5 : decode cX6_lettersAt 5 = .ok (.bipush 8, 2) := by decide +kernel
theorem dX6_lettersAt_7 : decode cX6_lettersAt 7 = .ok (.imul, 1) := by decide +kernel
theorem dX6_lettersAt_8 : decode cX6_lettersAt 8 = .ok (.iload_n 2, 1) := by decide +kernel
theorem dX6_lettersAt_9 : decode cX6_lettersAt 9 = .ok (.iadd, 1) := by decide +kernel
theorem dX6_lettersAt_10 : decode cX6_lettersAt 10 = .ok (.iaload, 1) := by decide +kernel
theorem dX6_lettersAt_11 : decode cX6_lettersAt 11 = .ok (.ireturn, 1) := by decide +kernel
theorem dX6_findLetters_0 : decode cX6_findLetters 0 = .ok (.aload_n 0, 1) := by decide +kernel
theorem dX6_findLetters_1 : decode cX6_findLetters 1 = .ok (.aload_n 1, 1) := by decide +kernel
theorem dX6_findLetters_2 : decode cX6_findLetters 2 = .ok (.invokevirtual 80, 3) := by decide +kernel
theorem dX6_findLetters_5 : decode cX6_findLetters 5 = .ok (.aload_n 0, 1) := by decide +kernel
theorem dX6_findLetters_6 : decode cX6_findLetters 6 = .ok (.getfield 21, 3) := by decide +kernel
theorem dX6_findLetters_9 : decode cX6_findLetters 9 = .ok (.iconst (-1), 1) := by decide +kernel
theorem dX6_findLetters_10 : decode cX6_findLetters 10 = .ok (.invokestatic 83, 3) := by decide +kernel
theorem dX6_findLetters_13 : decode cX6_findLetters 13 = .ok (.iconst 0, 1) := by decide +kernel
theorem dX6_findLetters_14 : decode cX6_findLetters 14 = .ok (.istore_n 2, 1) := by decide +kernel
theorem dX6_findLetters_15 : decode cX6_findLetters 15 = .ok (.iload_n 2, 1) := by decide +kernel
theorem dX6_findLetters_16 : decode cX6_findLetters 16 = .ok (.bipush 8, 2) := by decide +kernel
theorem dX6_findLetters_18 : decode cX6_findLetters 18 = .ok (.if_icmp .gt 77, 3) := by decide +kernel
theorem dX6_findLetters_21 : decode cX6_findLetters 21 = .ok (.iconst 0, 1) := by decide +kernel
theorem dX6_findLetters_22 : decode cX6_findLetters 22 = .ok (.istore_n 3, 1) := by decide +kernel
theorem dX6_findLetters_23 : decode cX6_findLetters 23 = .ok (.iload_n 3, 1) := by decide +kernel
theorem dX6_findLetters_24 : decode cX6_findLetters 24 = .ok (.aload_n 0, 1) := by decide +kernel
theorem dX6_findLetters_25 : decode cX6_findLetters 25 = .ok (.getfield 43, 3) := by decide +kernel
theorem dX6_findLetters_28 : decode cX6_findLetters 28 = .ok (.if_icmp .ge 61, 3) := by decide +kernel
theorem dX6_findLetters_31 : decode cX6_findLetters 31 = .ok (.iconst 0, 1) := by decide +kernel
theorem dX6_findLetters_32 : decode cX6_findLetters 32 = .ok (.istore 4, 2) := by decide +kernel
theorem dX6_findLetters_34 : decode cX6_findLetters 34 = .ok (.iload 4, 2) := by decide +kernel
theorem dX6_findLetters_36 : decode cX6_findLetters 36 = .ok (.aload_n 0, 1) := by decide +kernel
theorem dX6_findLetters_37 : decode cX6_findLetters 37 = .ok (.getfield 43, 3) := by decide +kernel
theorem dX6_findLetters_40 : decode cX6_findLetters 40 = .ok (.if_icmp .ge 43, 3) := by decide +kernel
theorem dX6_findLetters_43 : decode cX6_findLetters 43 = .ok (.aload_n 0, 1) := by decide +kernel
theorem dX6_findLetters_44 : decode cX6_findLetters 44 = .ok (.iload_n 3, 1) := by decide +kernel
theorem dX6_findLetters_45 : decode cX6_findLetters 45 = .ok (.iload 4, 2) := by decide +kernel
theorem dX6_findLetters_47 : decode cX6_findLetters 47 = .ok (.invokevirtual 51, 3) := by decide +kernel
theorem dX6_findLetters_50 : decode cX6_findLetters 50 = .ok (.ifCond .ge 27, 3) := by decide +kernel
theorem dX6_findLetters_53 : decode cX6_findLetters 53 = .ok (.aload_n 0, 1) := by decide +kernel
theorem dX6_findLetters_54 : decode cX6_findLetters 54 = .ok (.iload_n 3, 1) := by decide +kernel
theorem dX6_findLetters_55 : decode cX6_findLetters 55 = .ok (.iload 4, 2) := by decide +kernel
theorem dX6_findLetters_57 : decode cX6_findLetters 57 = .ok (.iload_n 2, 1) := by decide +kernel
theorem dX6_findLetters_58 : decode cX6_findLetters 58 = .ok (.invokevirtual 89, 3) := by decide +kernel
theorem dX6_findLetters_61 : decode cX6_findLetters 61 = .ok (.ifCond .eq 16, 3) := by decide +kernel
theorem dX6_findLetters_64 : decode cX6_findLetters 64 = .ok (.aload_n 0, 1) := by decide +kernel
theorem dX6_findLetters_65 : decode cX6_findLetters 65 = .ok (.getfield 21, 3) := by decide +kernel
theorem dX6_findLetters_68 : decode cX6_findLetters 68 = .ok (.iload_n 3, 1) := by decide +kernel
theorem dX6_findLetters_69 : decode cX6_findLetters 69 = .ok (.bipush 8, 2) := by decide +kernel
theorem dX6_findLetters_71 : decode cX6_findLetters 71 = .ok (.imul, 1) := by decide +kernel
theorem dX6_findLetters_72 : decode cX6_findLetters 72 = .ok (.iload 4, 2) := by decide +kernel
theorem dX6_findLetters_74 : decode cX6_findLetters 74 = .ok (.iadd, 1) := by decide +kernel
theorem dX6_findLetters_75 : decode cX6_findLetters 75 = .ok (.iload_n 2, 1) := by decide +kernel
theorem dX6_findLetters_76 : decode cX6_findLetters 76 = .ok (.iastore, 1) := by decide +kernel
theorem dX6_findLetters_77 : decode cX6_findLetters 77 = .ok (.iinc 4 1, 3) := by decide +kernel
theorem dX6_findLetters_80 : decode cX6_findLetters 80 = .ok (.goto (-46), 3) := by decide +kernel
theorem dX6_findLetters_83 : decode cX6_findLetters 83 = .ok (.iinc 3 1, 3) := by decide +kernel
theorem dX6_findLetters_86 : decode cX6_findLetters 86 = .ok (.goto (-63), 3) := by decide +kernel
theorem dX6_findLetters_89 : decode cX6_findLetters 89 = .ok (.iinc 2 1, 3) := by decide +kernel
theorem dX6_findLetters_92 : decode cX6_findLetters 92 = .ok (.goto (-77), 3) := by decide +kernel
theorem dX6_findLetters_95 : decode cX6_findLetters 95 = .ok (.return_, 1) := by decide +kernel
theorem dX6_isToldBy_0 : decode cX6_isToldBy 0 = .ok (.iload_n 3, 1) := by decide +kernel
theorem dX6_isToldBy_1 : decode cX6_isToldBy 1 = .ok (.ifCond .ne 24, 3) := by decide +kernel
theorem dX6_isToldBy_4 : decode cX6_isToldBy 4 = .ok (.aload_n 0, 1) := by decide +kernel
theorem dX6_isToldBy_5 : decode cX6_isToldBy 5 = .ok (.getfield 18, 3) := by decide +kernel
theorem dX6_isToldBy_8 : decode cX6_isToldBy 8 = .ok (.iload_n 1, 1) := by decide +kernel
theorem dX6_isToldBy_9 : decode cX6_isToldBy 9 = .ok (.iaload, 1) := by decide +kernel
theorem dX6_isToldBy_10 : decode cX6_isToldBy 10 = .ok (.aload_n 0, 1) := by decide +kernel
theorem dX6_isToldBy_11 : decode cX6_isToldBy 11 = .ok (.getfield 18, 3) := by decide +kernel
theorem dX6_isToldBy_14 : decode cX6_isToldBy 14 = .ok (.iload_n 2, 1) := by decide +kernel
theorem dX6_isToldBy_15 : decode cX6_isToldBy 15 = .ok (.iaload, 1) := by decide +kernel
theorem dX6_isToldBy_16 : decode cX6_isToldBy 16 = .ok (.if_icmp .eq 7, 3) := by decide +kernel
theorem dX6_isToldBy_19 : decode cX6_isToldBy 19 = .ok (.iconst 1, 1) := by decide +kernel
theorem dX6_isToldBy_20 : decode cX6_isToldBy 20 = .ok (.goto 4, 3) := by decide +kernel
theorem dX6_isToldBy_23 : decode cX6_isToldBy 23 = .ok (.iconst 0, 1) := by decide +kernel
theorem dX6_isToldBy_24 : decode cX6_isToldBy 24 = .ok (.ireturn, 1) := by decide +kernel
theorem dX6_isToldBy_25 : decode cX6_isToldBy 25 = .ok (.aload_n 0, 1) := by decide +kernel
theorem dX6_isToldBy_26 : decode cX6_isToldBy 26 = .ok (.aload_n 0, 1) := by decide +kernel
theorem dX6_isToldBy_27 : decode cX6_isToldBy 27 = .ok (.getfield 11, 3) := by decide +kernel
theorem dX6_isToldBy_30 : decode cX6_isToldBy 30 = .ok (.iload_n 1, 1) := by decide +kernel
theorem dX6_isToldBy_31 : decode cX6_isToldBy 31 = .ok (.iaload, 1) := by decide +kernel
theorem dX6_isToldBy_32 : decode cX6_isToldBy 32 = .ok (.aload_n 0, 1) := by decide +kernel
theorem dX6_isToldBy_33 : decode cX6_isToldBy 33 = .ok (.getfield 11, 3) := by decide +kernel
theorem dX6_isToldBy_36 : decode cX6_isToldBy 36 = .ok (.iload_n 2, 1) := by decide +kernel
theorem dX6_isToldBy_37 : decode cX6_isToldBy 37 = .ok (.iaload, 1) := by decide +kernel
theorem dX6_isToldBy_38 : decode cX6_isToldBy 38 = .ok (.invokevirtual 51, 3) := by decide +kernel
theorem dX6_isToldBy_41 : decode cX6_isToldBy 41 = .ok (.iload_n 3, 1) := by decide +kernel
theorem dX6_isToldBy_42 : decode cX6_isToldBy 42 = .ok (.iconst 1, 1) := by decide +kernel
theorem dX6_isToldBy_43 : decode cX6_isToldBy 43 = .ok (.isub, 1) := by decide +kernel
theorem dX6_isToldBy_44 : decode cX6_isToldBy 44 = .ok (.if_icmp .eq 25, 3) := by decide +kernel
theorem dX6_isToldBy_47 : decode cX6_isToldBy 47 = .ok (.aload_n 0, 1) := by decide +kernel
theorem dX6_isToldBy_48 : decode cX6_isToldBy 48 = .ok (.aload_n 0, 1) := by decide +kernel
theorem dX6_isToldBy_49 : decode cX6_isToldBy 49 = .ok (.getfield 15, 3) := by decide +kernel
theorem dX6_isToldBy_52 : decode cX6_isToldBy 52 = .ok (.iload_n 1, 1) := by decide +kernel
theorem dX6_isToldBy_53 : decode cX6_isToldBy 53 = .ok (.iaload, 1) := by decide +kernel
theorem dX6_isToldBy_54 : decode cX6_isToldBy 54 = .ok (.aload_n 0, 1) := by decide +kernel
theorem dX6_isToldBy_55 : decode cX6_isToldBy 55 = .ok (.getfield 15, 3) := by decide +kernel
theorem dX6_isToldBy_58 : decode cX6_isToldBy 58 = .ok (.iload_n 2, 1) := by decide +kernel
theorem dX6_isToldBy_59 : decode cX6_isToldBy 59 = .ok (.iaload, 1) := by decide +kernel
theorem dX6_isToldBy_60 : decode cX6_isToldBy 60 = .ok (.invokevirtual 51, 3) := by decide +kernel
theorem dX6_isToldBy_63 : decode cX6_isToldBy 63 = .ok (.iload_n 3, 1) := by decide +kernel
theorem dX6_isToldBy_64 : decode cX6_isToldBy 64 = .ok (.iconst 1, 1) := by decide +kernel
theorem dX6_isToldBy_65 : decode cX6_isToldBy 65 = .ok (.isub, 1) := by decide +kernel
theorem dX6_isToldBy_66 : decode cX6_isToldBy 66 = .ok (.if_icmp .ne 7, 3) := by decide +kernel
theorem dX6_isToldBy_69 : decode cX6_isToldBy 69 = .ok (.iconst 1, 1) := by decide +kernel
theorem dX6_isToldBy_70 : decode cX6_isToldBy 70 = .ok (.goto 4, 3) := by decide +kernel
theorem dX6_isToldBy_73 : decode cX6_isToldBy 73 = .ok (.iconst 0, 1) := by decide +kernel
theorem dX6_isToldBy_74 : decode cX6_isToldBy 74 = .ok (.ireturn, 1) := by decide +kernel
theorem dX6_lowestLike_0 : decode cX6_lowestLike 0 = .ok (.iconst 0, 1) := by decide +kernel
theorem dX6_lowestLike_1 : decode cX6_lowestLike 1 = .ok (.istore_n 2, 1) := by decide +kernel
theorem dX6_lowestLike_2 : decode cX6_lowestLike 2 = .ok (.iload_n 2, 1) := by decide +kernel
theorem dX6_lowestLike_3 : decode cX6_lowestLike 3 = .ok (.iload_n 1, 1) := by decide +kernel
theorem dX6_lowestLike_4 : decode cX6_lowestLike 4 = .ok (.if_icmp .ge 20, 3) := by decide +kernel
theorem dX6_lowestLike_7 : decode cX6_lowestLike 7 = .ok (.aload_n 0, 1) := by decide +kernel
theorem dX6_lowestLike_8 : decode cX6_lowestLike 8 = .ok (.iload_n 2, 1) := by decide +kernel
theorem dX6_lowestLike_9 : decode cX6_lowestLike 9 = .ok (.iload_n 1, 1) := by decide +kernel
theorem dX6_lowestLike_10 : decode cX6_lowestLike 10 = .ok (.invokevirtual 51, 3) := by decide +kernel
theorem dX6_lowestLike_13 : decode cX6_lowestLike 13 = .ok (.ifCond .ge 5, 3) := by decide +kernel
theorem dX6_lowestLike_16 : decode cX6_lowestLike 16 = .ok (.iload_n 2, 1) := by decide +kernel
theorem dX6_lowestLike_17 : decode cX6_lowestLike 17 = .ok (.ireturn, 1) := by decide +kernel
theorem dX6_lowestLike_18 : decode cX6_lowestLike 18 = .ok (.iinc 2 1, 3) := by decide +kernel
theorem dX6_lowestLike_21 : decode cX6_lowestLike 21 = .ok (.goto (-19), 3) := by decide +kernel
theorem dX6_lowestLike_24 : decode cX6_lowestLike 24 = .ok (.iload_n 1, 1) := by decide +kernel
theorem dX6_lowestLike_25 : decode cX6_lowestLike 25 = .ok (.ireturn, 1) := by decide +kernel
theorem dX6_writeLetters_0 : decode cX6_writeLetters 0 = .ok (.iconst 0, 1) := by decide +kernel
theorem dX6_writeLetters_1 : decode cX6_writeLetters 1 = .ok (.istore_n 3, 1) := by decide +kernel
theorem dX6_writeLetters_2 : decode cX6_writeLetters 2 = .ok (.iload_n 1, 1) := by decide +kernel
theorem dX6_writeLetters_3 : decode cX6_writeLetters 3 = .ok (.istore 4, 2) := by decide +kernel
theorem dX6_writeLetters_5 : decode cX6_writeLetters 5 = .ok (.aload_n 0, 1) := by decide +kernel
theorem dX6_writeLetters_6 : decode cX6_writeLetters 6 = .ok (.iload_n 3, 1) := by decide +kernel
theorem dX6_writeLetters_7 : decode cX6_writeLetters 7 = .ok (.iload 4, 2) := by decide +kernel
theorem dX6_writeLetters_9 : decode cX6_writeLetters 9 = .ok (.invokevirtual 51, 3) := by decide +kernel
theorem dX6_writeLetters_12 : decode cX6_writeLetters 12 = .ok (.istore 5, 2) := by decide +kernel
theorem dX6_writeLetters_14 : decode cX6_writeLetters 14 = .ok (.iload 5, 2) := by decide +kernel
theorem dX6_writeLetters_16 : decode cX6_writeLetters 16 = .ok (.ifCond .le 99, 3) := by decide +kernel
theorem dX6_writeLetters_19 : decode cX6_writeLetters 19 = .ok (.aload_n 0, 1) := by decide +kernel
theorem dX6_writeLetters_20 : decode cX6_writeLetters 20 = .ok (.aload_n 0, 1) := by decide +kernel
theorem dX6_writeLetters_21 : decode cX6_writeLetters 21 = .ok (.getfield 11, 3) := by decide +kernel
theorem dX6_writeLetters_24 : decode cX6_writeLetters 24 = .ok (.iload_n 3, 1) := by decide +kernel
theorem dX6_writeLetters_25 : decode cX6_writeLetters 25 = .ok (.iaload, 1) := by decide +kernel
theorem dX6_writeLetters_26 : decode cX6_writeLetters 26 = .ok (.aload_n 0, 1) := by decide +kernel
theorem dX6_writeLetters_27 : decode cX6_writeLetters 27 = .ok (.getfield 11, 3) := by decide +kernel
theorem dX6_writeLetters_30 : decode cX6_writeLetters 30 = .ok (.iload 4, 2) := by decide +kernel
theorem dX6_writeLetters_32 : decode cX6_writeLetters 32 = .ok (.iaload, 1) := by decide +kernel
theorem dX6_writeLetters_33 : decode cX6_writeLetters 33 = .ok (.invokevirtual 51, 3) := by decide +kernel
theorem dX6_writeLetters_36 : decode cX6_writeLetters 36 = .ok (.iload 5, 2) := by decide +kernel
theorem dX6_writeLetters_38 : decode cX6_writeLetters 38 = .ok (.iconst 1, 1) := by decide +kernel
theorem dX6_writeLetters_39 : decode cX6_writeLetters 39 = .ok (.isub, 1) := by decide +kernel
theorem dX6_writeLetters_40 : decode cX6_writeLetters 40 = .ok (.if_icmp .ne 7, 3) := by decide +kernel
theorem dX6_writeLetters_43 : decode cX6_writeLetters 43 = .ok (.iconst 1, 1) := by decide +kernel
theorem dX6_writeLetters_44 : decode cX6_writeLetters 44 = .ok (.goto 4, 3) := by decide +kernel
theorem dX6_writeLetters_47 : decode cX6_writeLetters 47 = .ok (.iconst 0, 1) := by decide +kernel
theorem dX6_writeLetters_48 : decode cX6_writeLetters 48 = .ok (.istore 6, 2) := by decide +kernel
theorem dX6_writeLetters_50 : decode cX6_writeLetters 50 = .ok (.aload_n 2, 1) := by decide +kernel
theorem dX6_writeLetters_51 : decode cX6_writeLetters 51 = .ok (.iload 6, 2) := by decide +kernel
theorem dX6_writeLetters_53 : decode cX6_writeLetters 53 = .ok (.ifCond .eq 7, 3) := by decide +kernel
theorem dX6_writeLetters_56 : decode cX6_writeLetters 56 = .ok (.iconst 0, 1) := by decide +kernel
theorem dX6_writeLetters_57 : decode cX6_writeLetters 57 = .ok (.goto 4, 3) := by decide +kernel
theorem dX6_writeLetters_60 : decode cX6_writeLetters 60 = .ok (.iconst 1, 1) := by decide +kernel
theorem dX6_writeLetters_61 : decode cX6_writeLetters 61 = .ok (.invokevirtual 63, 3) := by decide +kernel
theorem dX6_writeLetters_64 : decode cX6_writeLetters 64 = .ok (.iload 6, 2) := by decide +kernel
theorem dX6_writeLetters_66 : decode cX6_writeLetters 66 = .ok (.ifCond .eq 12, 3) := by decide +kernel
theorem dX6_writeLetters_69 : decode cX6_writeLetters 69 = .ok (.aload_n 0, 1) := by decide +kernel
theorem dX6_writeLetters_70 : decode cX6_writeLetters 70 = .ok (.getfield 11, 3) := by decide +kernel
theorem dX6_writeLetters_73 : decode cX6_writeLetters 73 = .ok (.iload_n 3, 1) := by decide +kernel
theorem dX6_writeLetters_74 : decode cX6_writeLetters 74 = .ok (.iaload, 1) := by decide +kernel
theorem dX6_writeLetters_75 : decode cX6_writeLetters 75 = .ok (.goto 9, 3) := by decide +kernel
theorem dX6_writeLetters_78 : decode cX6_writeLetters 78 = .ok (.aload_n 0, 1) := by decide +kernel
theorem dX6_writeLetters_79 : decode cX6_writeLetters 79 = .ok (.getfield 15, 3) := by decide +kernel
theorem dX6_writeLetters_82 : decode cX6_writeLetters 82 = .ok (.iload_n 3, 1) := by decide +kernel
theorem dX6_writeLetters_83 : decode cX6_writeLetters 83 = .ok (.iaload, 1) := by decide +kernel
theorem dX6_writeLetters_84 : decode cX6_writeLetters 84 = .ok (.istore_n 3, 1) := by decide +kernel
theorem dX6_writeLetters_85 : decode cX6_writeLetters 85 = .ok (.iload 6, 2) := by decide +kernel
theorem dX6_writeLetters_87 : decode cX6_writeLetters 87 = .ok (.ifCond .eq 13, 3) := by decide +kernel
theorem dX6_writeLetters_90 : decode cX6_writeLetters 90 = .ok (.aload_n 0, 1) := by decide +kernel
theorem dX6_writeLetters_91 : decode cX6_writeLetters 91 = .ok (.getfield 11, 3) := by decide +kernel
theorem dX6_writeLetters_94 : decode cX6_writeLetters 94 = .ok (.iload 4, 2) := by decide +kernel
theorem dX6_writeLetters_96 : decode cX6_writeLetters 96 = .ok (.iaload, 1) := by decide +kernel
theorem dX6_writeLetters_97 : decode cX6_writeLetters 97 = .ok (.goto 10, 3) := by decide +kernel
theorem dX6_writeLetters_100 : decode cX6_writeLetters 100 = .ok (.aload_n 0, 1) := by decide +kernel
theorem dX6_writeLetters_101 : decode cX6_writeLetters 101 = .ok (.getfield 15, 3) := by decide +kernel
theorem dX6_writeLetters_104 : decode cX6_writeLetters 104 = .ok (.iload 4, 2) := by decide +kernel
theorem dX6_writeLetters_106 : decode cX6_writeLetters 106 = .ok (.iaload, 1) := by decide +kernel
theorem dX6_writeLetters_107 : decode cX6_writeLetters 107 = .ok (.istore 4, 2) := by decide +kernel
theorem dX6_writeLetters_109 : decode cX6_writeLetters 109 = .ok (.iinc 5 (-1), 3) := by decide +kernel
theorem dX6_writeLetters_112 : decode cX6_writeLetters 112 = .ok (.goto (-98), 3) := by decide +kernel
theorem dX6_writeLetters_115 : decode cX6_writeLetters 115 = .ok (.return_, 1) := by decide +kernel
theorem dX6_judgeLikeness_0 : decode cX6_judgeLikeness 0 = .ok (.aload_n 0, 1) := by decide +kernel
theorem dX6_judgeLikeness_1 : decode cX6_judgeLikeness 1 = .ok (.aload_n 1, 1) := by decide +kernel
theorem dX6_judgeLikeness_2 : decode cX6_judgeLikeness 2 = .ok (.invokevirtual 80, 3) := by decide +kernel
theorem dX6_judgeLikeness_5 : decode cX6_judgeLikeness 5 = .ok (.aload_n 2, 1) := by decide +kernel
theorem dX6_judgeLikeness_6 : decode cX6_judgeLikeness 6 = .ok (.getfield 93, 3) := by decide +kernel
theorem dX6_judgeLikeness_9 : decode cX6_judgeLikeness 9 = .ok (.aload_n 0, 1) := by decide +kernel
theorem dX6_judgeLikeness_10 : decode cX6_judgeLikeness 10 = .ok (.getfield 43, 3) := by decide +kernel
theorem dX6_judgeLikeness_13 : decode cX6_judgeLikeness 13 = .ok (.if_icmp .ne 18, 3) := by decide +kernel
theorem dX6_judgeLikeness_16 : decode cX6_judgeLikeness 16 = .ok (.aload_n 2, 1) := by decide +kernel
theorem dX6_judgeLikeness_17 : decode cX6_judgeLikeness 17 = .ok (.iconst 0, 1) := by decide +kernel
theorem dX6_judgeLikeness_18 : decode cX6_judgeLikeness 18 = .ok (.iconst 0, 1) := by decide +kernel
theorem dX6_judgeLikeness_19 : decode cX6_judgeLikeness 19 = .ok (.aload_n 0, 1) := by decide +kernel
theorem dX6_judgeLikeness_20 : decode cX6_judgeLikeness 20 = .ok (.getfield 43, 3) := by decide +kernel
theorem dX6_judgeLikeness_23 : decode cX6_judgeLikeness 23 = .ok (.iconst 1, 1) := by decide +kernel
theorem dX6_judgeLikeness_24 : decode cX6_judgeLikeness 24 = .ok (.isub, 1) := by decide +kernel
theorem dX6_judgeLikeness_25 : decode cX6_judgeLikeness 25 = .ok (.invokevirtual 96, 3) := by decide +kernel
theorem dX6_judgeLikeness_28 : decode cX6_judgeLikeness 28 = .ok (.ifCond .ne 5, 3) := by decide +kernel
theorem dX6_judgeLikeness_31 : decode cX6_judgeLikeness 31 = .ok (.iconst 1, 1) := by decide +kernel
theorem dX6_judgeLikeness_32 : decode cX6_judgeLikeness 32 = .ok (.ireturn, 1) := by decide +kernel
theorem dX6_judgeLikeness_33 : decode cX6_judgeLikeness 33 = .ok (.iconst 0, 1) := by decide +kernel
theorem dX6_judgeLikeness_34 : decode cX6_judgeLikeness 34 = .ok (.istore_n 3, 1) := by decide +kernel
theorem dX6_judgeLikeness_35 : decode cX6_judgeLikeness 35 = .ok (.iload_n 3, 1) := by decide +kernel
theorem dX6_judgeLikeness_36 : decode cX6_judgeLikeness 36 = .ok (.aload_n 0, 1) := by decide +kernel
theorem dX6_judgeLikeness_37 : decode cX6_judgeLikeness 37 = .ok (.getfield 43, 3) := by decide +kernel
theorem dX6_judgeLikeness_40 : decode cX6_judgeLikeness 40 = .ok (.if_icmp .ge 56, 3) := by decide +kernel
theorem dX6_judgeLikeness_43 : decode cX6_judgeLikeness 43 = .ok (.iconst 0, 1) := by decide +kernel
theorem dX6_judgeLikeness_44 : decode cX6_judgeLikeness 44 = .ok (.istore 4, 2) := by decide +kernel
theorem dX6_judgeLikeness_46 : decode cX6_judgeLikeness 46 = .ok (.iload 4, 2) := by decide +kernel
theorem dX6_judgeLikeness_48 : decode cX6_judgeLikeness 48 = .ok (.iload_n 3, 1) := by decide +kernel
theorem dX6_judgeLikeness_49 : decode cX6_judgeLikeness 49 = .ok (.if_icmp .ge 41, 3) := by decide +kernel
theorem dX6_judgeLikeness_52 : decode cX6_judgeLikeness 52 = .ok (.aload_n 2, 1) := by decide +kernel
theorem dX6_judgeLikeness_53 : decode cX6_judgeLikeness 53 = .ok (.iload_n 3, 1) := by decide +kernel
theorem dX6_judgeLikeness_54 : decode cX6_judgeLikeness 54 = .ok (.invokevirtual 99, 3) := by decide +kernel
theorem dX6_judgeLikeness_57 : decode cX6_judgeLikeness 57 = .ok (.aload_n 2, 1) := by decide +kernel
theorem dX6_judgeLikeness_58 : decode cX6_judgeLikeness 58 = .ok (.iload 4, 2) := by decide +kernel
theorem dX6_judgeLikeness_60 : decode cX6_judgeLikeness 60 = .ok (.invokevirtual 99, 3) := by decide +kernel
theorem dX6_judgeLikeness_63 : decode cX6_judgeLikeness 63 = .ok (.if_icmp .ne 21, 3) := by decide +kernel
theorem dX6_judgeLikeness_66 : decode cX6_judgeLikeness 66 = .ok (.aload_n 0, 1) := by decide +kernel
theorem dX6_judgeLikeness_67 : decode cX6_judgeLikeness 67 = .ok (.getfield 18, 3) := by decide +kernel
theorem dX6_judgeLikeness_70 : decode cX6_judgeLikeness 70 = .ok (.iload_n 3, 1) := by decide +kernel
theorem dX6_judgeLikeness_71 : decode cX6_judgeLikeness 71 = .ok (.iaload, 1) := by decide +kernel
theorem dX6_judgeLikeness_72 : decode cX6_judgeLikeness 72 = .ok (.aload_n 0, 1) := by decide +kernel
theorem dX6_judgeLikeness_73 : decode cX6_judgeLikeness 73 = .ok (.getfield 18, 3) := by decide +kernel
theorem dX6_judgeLikeness_76 : decode cX6_judgeLikeness 76 = .ok (.iload 4, 2) := by decide +kernel
theorem dX6_judgeLikeness_78 : decode cX6_judgeLikeness 78 = .ok (.iaload, 1) := by decide +kernel
theorem dX6_judgeLikeness_79 : decode cX6_judgeLikeness 79 = .ok (.if_icmp .eq 5, 3) := by decide +kernel
theorem dX6_judgeLikeness_82 : decode cX6_judgeLikeness 82 = .ok (.iconst 2, 1) := by decide +kernel
theorem dX6_judgeLikeness_83 : decode cX6_judgeLikeness 83 = .ok (.ireturn, 1) := by decide +kernel
theorem dX6_judgeLikeness_84 : decode cX6_judgeLikeness 84 = .ok (.iinc 4 1, 3) := by decide +kernel
theorem dX6_judgeLikeness_87 : decode cX6_judgeLikeness 87 = .ok (.goto (-41), 3) := by decide +kernel
theorem dX6_judgeLikeness_90 : decode cX6_judgeLikeness 90 = .ok (.iinc 3 1, 3) := by decide +kernel
theorem dX6_judgeLikeness_93 : decode cX6_judgeLikeness 93 = .ok (.goto (-58), 3) := by decide +kernel
theorem dX6_judgeLikeness_96 : decode cX6_judgeLikeness 96 = .ok (.iconst 0, 1) := by decide +kernel
theorem dX6_judgeLikeness_97 : decode cX6_judgeLikeness 97 = .ok (.istore_n 3, 1) := by decide +kernel
theorem dX6_judgeLikeness_98 : decode cX6_judgeLikeness 98 = .ok (.iload_n 3, 1) := by decide +kernel
theorem dX6_judgeLikeness_99 : decode cX6_judgeLikeness 99 = .ok (.aload_n 0, 1) := by decide +kernel
theorem dX6_judgeLikeness_100 : decode cX6_judgeLikeness 100 = .ok (.getfield 43, 3) := by decide +kernel
theorem dX6_judgeLikeness_103 : decode cX6_judgeLikeness 103 = .ok (.if_icmp .ge 51, 3) := by decide +kernel
theorem dX6_judgeLikeness_106 : decode cX6_judgeLikeness 106 = .ok (.iconst 0, 1) := by decide +kernel
theorem dX6_judgeLikeness_107 : decode cX6_judgeLikeness 107 = .ok (.istore 4, 2) := by decide +kernel
theorem dX6_judgeLikeness_109 : decode cX6_judgeLikeness 109 = .ok (.iload 4, 2) := by decide +kernel
theorem dX6_judgeLikeness_111 : decode cX6_judgeLikeness 111 = .ok (.iload_n 3, 1) := by decide +kernel
theorem dX6_judgeLikeness_112 : decode cX6_judgeLikeness 112 = .ok (.if_icmp .ge 36, 3) := by decide +kernel
theorem dX6_judgeLikeness_115 : decode cX6_judgeLikeness 115 = .ok (.aload_n 2, 1) := by decide +kernel
theorem dX6_judgeLikeness_116 : decode cX6_judgeLikeness 116 = .ok (.iload_n 3, 1) := by decide +kernel
theorem dX6_judgeLikeness_117 : decode cX6_judgeLikeness 117 = .ok (.invokevirtual 99, 3) := by decide +kernel
theorem dX6_judgeLikeness_120 : decode cX6_judgeLikeness 120 = .ok (.aload_n 2, 1) := by decide +kernel
theorem dX6_judgeLikeness_121 : decode cX6_judgeLikeness 121 = .ok (.iload 4, 2) := by decide +kernel
theorem dX6_judgeLikeness_123 : decode cX6_judgeLikeness 123 = .ok (.invokevirtual 99, 3) := by decide +kernel
theorem dX6_judgeLikeness_126 : decode cX6_judgeLikeness 126 = .ok (.if_icmp .ne 16, 3) := by decide +kernel
theorem dX6_judgeLikeness_129 : decode cX6_judgeLikeness 129 = .ok (.aload_n 0, 1) := by decide +kernel
theorem dX6_judgeLikeness_130 : decode cX6_judgeLikeness 130 = .ok (.aload_n 2, 1) := by decide +kernel
theorem dX6_judgeLikeness_131 : decode cX6_judgeLikeness 131 = .ok (.iload_n 3, 1) := by decide +kernel
theorem dX6_judgeLikeness_132 : decode cX6_judgeLikeness 132 = .ok (.iload 4, 2) := by decide +kernel
theorem dX6_judgeLikeness_134 : decode cX6_judgeLikeness 134 = .ok (.invokevirtual 101, 3) := by decide +kernel
theorem dX6_judgeLikeness_137 : decode cX6_judgeLikeness 137 = .ok (.ifCond .ne 5, 3) := by decide +kernel
theorem dX6_judgeLikeness_140 : decode cX6_judgeLikeness 140 = .ok (.iconst 3, 1) := by decide +kernel
theorem dX6_judgeLikeness_141 : decode cX6_judgeLikeness 141 = .ok (.ireturn, 1) := by decide +kernel
theorem dX6_judgeLikeness_142 : decode cX6_judgeLikeness 142 = .ok (.iinc 4 1, 3) := by decide +kernel
theorem dX6_judgeLikeness_145 : decode cX6_judgeLikeness 145 = .ok (.goto (-36), 3) := by decide +kernel
theorem dX6_judgeLikeness_148 : decode cX6_judgeLikeness 148 = .ok (.iinc 3 1, 3) := by decide +kernel
theorem dX6_judgeLikeness_151 : decode cX6_judgeLikeness 151 = .ok (.goto (-53), 3) := by decide +kernel
theorem dX6_judgeLikeness_154 : decode cX6_judgeLikeness 154 = .ok (.aload_n 2, 1) := by decide +kernel
theorem dX6_judgeLikeness_155 : decode cX6_judgeLikeness 155 = .ok (.iconst 0, 1) := by decide +kernel
theorem dX6_judgeLikeness_156 : decode cX6_judgeLikeness 156 = .ok (.invokevirtual 99, 3) := by decide +kernel
theorem dX6_judgeLikeness_159 : decode cX6_judgeLikeness 159 = .ok (.aload_n 2, 1) := by decide +kernel
theorem dX6_judgeLikeness_160 : decode cX6_judgeLikeness 160 = .ok (.aload_n 1, 1) := by decide +kernel
theorem dX6_judgeLikeness_161 : decode cX6_judgeLikeness 161 = .ok (.invokevirtual 37, 3) := by decide +kernel
theorem dX6_judgeLikeness_164 : decode cX6_judgeLikeness 164 = .ok (.invokevirtual 99, 3) := by decide +kernel
theorem dX6_judgeLikeness_167 : decode cX6_judgeLikeness 167 = .ok (.if_icmp .ne 7, 3) := by decide +kernel
theorem dX6_judgeLikeness_170 : decode cX6_judgeLikeness 170 = .ok (.iconst 0, 1) := by decide +kernel
theorem dX6_judgeLikeness_171 : decode cX6_judgeLikeness 171 = .ok (.goto 4, 3) := by decide +kernel
theorem dX6_judgeLikeness_174 : decode cX6_judgeLikeness 174 = .ok (.iconst 4, 1) := by decide +kernel
theorem dX6_judgeLikeness_175 : decode cX6_judgeLikeness 175 = .ok (.ireturn, 1) := by decide +kernel
theorem dX6_goAlike_0 : decode cX6_goAlike 0 = .ok (.aload_n 1, 1) := by decide +kernel
theorem dX6_goAlike_1 : decode cX6_goAlike 1 = .ok (.aload_n 0, 1) := by decide +kernel
theorem dX6_goAlike_2 : decode cX6_goAlike 2 = .ok (.getfield 11, 3) := by decide +kernel
theorem dX6_goAlike_5 : decode cX6_goAlike 5 = .ok (.iload_n 2, 1) := by decide +kernel
theorem dX6_goAlike_6 : decode cX6_goAlike 6 = .ok (.iaload, 1) := by decide +kernel
theorem dX6_goAlike_7 : decode cX6_goAlike 7 = .ok (.invokevirtual 99, 3) := by decide +kernel
theorem dX6_goAlike_10 : decode cX6_goAlike 10 = .ok (.aload_n 1, 1) := by decide +kernel
theorem dX6_goAlike_11 : decode cX6_goAlike 11 = .ok (.aload_n 0, 1) := by decide +kernel
theorem dX6_goAlike_12 : decode cX6_goAlike 12 = .ok (.getfield 11, 3) := by decide +kernel
theorem dX6_goAlike_15 : decode cX6_goAlike 15 = .ok (.iload_n 3, 1) := by decide +kernel
theorem dX6_goAlike_16 : decode cX6_goAlike 16 = .ok (.iaload, 1) := by decide +kernel
theorem dX6_goAlike_17 : decode cX6_goAlike 17 = .ok (.invokevirtual 99, 3) := by decide +kernel
theorem dX6_goAlike_20 : decode cX6_goAlike 20 = .ok (.if_icmp .ne 30, 3) := by decide +kernel
theorem dX6_goAlike_23 : decode cX6_goAlike 23 = .ok (.aload_n 1, 1) := by decide +kernel
theorem dX6_goAlike_24 : decode cX6_goAlike 24 = .ok (.aload_n 0, 1) := by decide +kernel
theorem dX6_goAlike_25 : decode cX6_goAlike 25 = .ok (.getfield 15, 3) := by decide +kernel
theorem dX6_goAlike_28 : decode cX6_goAlike 28 = .ok (.iload_n 2, 1) := by decide +kernel
theorem dX6_goAlike_29 : decode cX6_goAlike 29 = .ok (.iaload, 1) := by decide +kernel
theorem dX6_goAlike_30 : decode cX6_goAlike 30 = .ok (.invokevirtual 99, 3) := by decide +kernel
theorem dX6_goAlike_33 : decode cX6_goAlike 33 = .ok (.aload_n 1, 1) := by decide +kernel
theorem dX6_goAlike_34 : decode cX6_goAlike 34 = .ok (.aload_n 0, 1) := by decide +kernel
theorem dX6_goAlike_35 : decode cX6_goAlike 35 = .ok (.getfield 15, 3) := by decide +kernel
theorem dX6_goAlike_38 : decode cX6_goAlike 38 = .ok (.iload_n 3, 1) := by decide +kernel
theorem dX6_goAlike_39 : decode cX6_goAlike 39 = .ok (.iaload, 1) := by decide +kernel
theorem dX6_goAlike_40 : decode cX6_goAlike 40 = .ok (.invokevirtual 99, 3) := by decide +kernel
theorem dX6_goAlike_43 : decode cX6_goAlike 43 = .ok (.if_icmp .ne 7, 3) := by decide +kernel
theorem dX6_goAlike_46 : decode cX6_goAlike 46 = .ok (.iconst 1, 1) := by decide +kernel
theorem dX6_goAlike_47 : decode cX6_goAlike 47 = .ok (.goto 4, 3) := by decide +kernel
theorem dX6_goAlike_50 : decode cX6_goAlike 50 = .ok (.iconst 0, 1) := by decide +kernel
theorem dX6_goAlike_51 : decode cX6_goAlike 51 = .ok (.ireturn, 1) := by decide +kernel
theorem dX6_judgeLetters_0 : decode cX6_judgeLetters 0 = .ok (.aload_n 0, 1) := by decide +kernel
theorem dX6_judgeLetters_1 : decode cX6_judgeLetters 1 = .ok (.aload_n 1, 1) := by decide +kernel
theorem dX6_judgeLetters_2 : decode cX6_judgeLetters 2 = .ok (.invokevirtual 80, 3) := by decide +kernel
theorem dX6_judgeLetters_5 : decode cX6_judgeLetters 5 = .ok (.aload_n 2, 1) := by decide +kernel
theorem dX6_judgeLetters_6 : decode cX6_judgeLetters 6 = .ok (.iconst 0, 1) := by decide +kernel
theorem dX6_judgeLetters_7 : decode cX6_judgeLetters 7 = .ok (.iconst 0, 1) := by decide +kernel
theorem dX6_judgeLetters_8 : decode cX6_judgeLetters 8 = .ok (.iconst 1, 1) := by decide +kernel
theorem dX6_judgeLetters_9 : decode cX6_judgeLetters 9 = .ok (.invokevirtual 96, 3) := by decide +kernel
theorem dX6_judgeLetters_12 : decode cX6_judgeLetters 12 = .ok (.ifCond .ne 5, 3) := by decide +kernel
theorem dX6_judgeLetters_15 : decode cX6_judgeLetters 15 = .ok (.iconst 1, 1) := by decide +kernel
theorem dX6_judgeLetters_16 : decode cX6_judgeLetters 16 = .ok (.ireturn, 1) := by decide +kernel
theorem dX6_judgeLetters_17 : decode cX6_judgeLetters 17 = .ok (.iconst 0, 1) := by decide +kernel
theorem dX6_judgeLetters_18 : decode cX6_judgeLetters 18 = .ok (.istore_n 3, 1) := by decide +kernel
theorem dX6_judgeLetters_19 : decode cX6_judgeLetters 19 = .ok (.aload_n 1, 1) := by decide +kernel
theorem dX6_judgeLetters_20 : decode cX6_judgeLetters 20 = .ok (.invokevirtual 37, 3) := by decide +kernel
theorem dX6_judgeLetters_23 : decode cX6_judgeLetters 23 = .ok (.istore 4, 2) := by decide +kernel
theorem dX6_judgeLetters_25 : decode cX6_judgeLetters 25 = .ok (.iconst 0, 1) := by decide +kernel
theorem dX6_judgeLetters_26 : decode cX6_judgeLetters 26 = .ok (.istore 5, 2) := by decide +kernel
theorem dX6_judgeLetters_28 : decode cX6_judgeLetters 28 = .ok (.iload 5, 2) := by decide +kernel
theorem dX6_judgeLetters_30 : decode cX6_judgeLetters 30 = .ok (.aload_n 2, 1) := by decide +kernel
theorem dX6_judgeLetters_31 : decode cX6_judgeLetters 31 = .ok (.getfield 93, 3) := by decide +kernel
theorem dX6_judgeLetters_34 : decode cX6_judgeLetters 34 = .ok (.if_icmp .ge 70, 3) := by decide +kernel
theorem dX6_judgeLetters_37 : decode cX6_judgeLetters 37 = .ok (.aload_n 2, 1) := by decide +kernel
theorem dX6_judgeLetters_38 : decode cX6_judgeLetters 38 = .ok (.iload 5, 2) := by decide +kernel
theorem dX6_judgeLetters_40 : decode cX6_judgeLetters 40 = .ok (.invokevirtual 99, 3) := by decide +kernel
theorem dX6_judgeLetters_43 : decode cX6_judgeLetters 43 = .ok (.ifCond .ne 7, 3) := by decide +kernel
theorem dX6_judgeLetters_46 : decode cX6_judgeLetters 46 = .ok (.iconst 1, 1) := by decide +kernel
theorem dX6_judgeLetters_47 : decode cX6_judgeLetters 47 = .ok (.goto 4, 3) := by decide +kernel
theorem dX6_judgeLetters_50 : decode cX6_judgeLetters 50 = .ok (.iconst 0, 1) := by decide +kernel
theorem dX6_judgeLetters_51 : decode cX6_judgeLetters 51 = .ok (.istore 6, 2) := by decide +kernel
theorem dX6_judgeLetters_53 : decode cX6_judgeLetters 53 = .ok (.iload 6, 2) := by decide +kernel
theorem dX6_judgeLetters_55 : decode cX6_judgeLetters 55 = .ok (.ifCond .eq 12, 3) := by decide +kernel
theorem dX6_judgeLetters_58 : decode cX6_judgeLetters 58 = .ok (.aload_n 0, 1) := by decide +kernel
theorem dX6_judgeLetters_59 : decode cX6_judgeLetters 59 = .ok (.getfield 11, 3) := by decide +kernel
theorem dX6_judgeLetters_62 : decode cX6_judgeLetters 62 = .ok (.iload_n 3, 1) := by decide +kernel
theorem dX6_judgeLetters_63 : decode cX6_judgeLetters 63 = .ok (.iaload, 1) := by decide +kernel
theorem dX6_judgeLetters_64 : decode cX6_judgeLetters 64 = .ok (.goto 9, 3) := by decide +kernel
theorem dX6_judgeLetters_67 : decode cX6_judgeLetters 67 = .ok (.aload_n 0, 1) := by decide +kernel
theorem dX6_judgeLetters_68 : decode cX6_judgeLetters 68 = .ok (.getfield 15, 3) := by decide +kernel
theorem dX6_judgeLetters_71 : decode cX6_judgeLetters 71 = .ok (.iload_n 3, 1) := by decide +kernel
theorem dX6_judgeLetters_72 : decode cX6_judgeLetters 72 = .ok (.iaload, 1) := by decide +kernel
theorem dX6_judgeLetters_73 : decode cX6_judgeLetters 73 = .ok (.istore_n 3, 1) := by decide +kernel
theorem dX6_judgeLetters_74 : decode cX6_judgeLetters 74 = .ok (.iload 6, 2) := by decide +kernel
theorem dX6_judgeLetters_76 : decode cX6_judgeLetters 76 = .ok (.ifCond .eq 13, 3) := by decide +kernel
theorem dX6_judgeLetters_79 : decode cX6_judgeLetters 79 = .ok (.aload_n 0, 1) := by decide +kernel
theorem dX6_judgeLetters_80 : decode cX6_judgeLetters 80 = .ok (.getfield 11, 3) := by decide +kernel
theorem dX6_judgeLetters_83 : decode cX6_judgeLetters 83 = .ok (.iload 4, 2) := by decide +kernel
theorem dX6_judgeLetters_85 : decode cX6_judgeLetters 85 = .ok (.iaload, 1) := by decide +kernel
theorem dX6_judgeLetters_86 : decode cX6_judgeLetters 86 = .ok (.goto 10, 3) := by decide +kernel
theorem dX6_judgeLetters_89 : decode cX6_judgeLetters 89 = .ok (.aload_n 0, 1) := by decide +kernel
theorem dX6_judgeLetters_90 : decode cX6_judgeLetters 90 = .ok (.getfield 15, 3) := by decide +kernel
theorem dX6_judgeLetters_93 : decode cX6_judgeLetters 93 = .ok (.iload 4, 2) := by decide +kernel
theorem dX6_judgeLetters_95 : decode cX6_judgeLetters 95 = .ok (.iaload, 1) := by decide +kernel
theorem dX6_judgeLetters_96 : decode cX6_judgeLetters 96 = .ok (.istore 4, 2) := by decide +kernel
theorem dX6_judgeLetters_98 : decode cX6_judgeLetters 98 = .ok (.iinc 5 1, 3) := by decide +kernel
theorem dX6_judgeLetters_101 : decode cX6_judgeLetters 101 = .ok (.goto (-73), 3) := by decide +kernel
theorem dX6_judgeLetters_104 : decode cX6_judgeLetters 104 = .ok (.aload_n 0, 1) := by decide +kernel
theorem dX6_judgeLetters_105 : decode cX6_judgeLetters 105 = .ok (.getfield 18, 3) := by decide +kernel
theorem dX6_judgeLetters_108 : decode cX6_judgeLetters 108 = .ok (.iload_n 3, 1) := by decide +kernel
theorem dX6_judgeLetters_109 : decode cX6_judgeLetters 109 = .ok (.iaload, 1) := by decide +kernel
theorem dX6_judgeLetters_110 : decode cX6_judgeLetters 110 = .ok (.aload_n 0, 1) := by decide +kernel
theorem dX6_judgeLetters_111 : decode cX6_judgeLetters 111 = .ok (.getfield 18, 3) := by decide +kernel
theorem dX6_judgeLetters_114 : decode cX6_judgeLetters 114 = .ok (.iload 4, 2) := by decide +kernel
theorem dX6_judgeLetters_116 : decode cX6_judgeLetters 116 = .ok (.iaload, 1) := by decide +kernel
theorem dX6_judgeLetters_117 : decode cX6_judgeLetters 117 = .ok (.if_icmp .eq 7, 3) := by decide +kernel
theorem dX6_judgeLetters_120 : decode cX6_judgeLetters 120 = .ok (.iconst 0, 1) := by decide +kernel
theorem dX6_judgeLetters_121 : decode cX6_judgeLetters 121 = .ok (.goto 4, 3) := by decide +kernel
theorem dX6_judgeLetters_124 : decode cX6_judgeLetters 124 = .ok (.iconst 2, 1) := by decide +kernel
theorem dX6_judgeLetters_125 : decode cX6_judgeLetters 125 = .ok (.ireturn, 1) := by decide +kernel
theorem dX6_solveGames_0 : decode cX6_solveGames 0 = .ok (.aload_n 0, 1) := by decide +kernel
theorem dX6_solveGames_1 : decode cX6_solveGames 1 = .ok (.aload_n 1, 1) := by decide +kernel
theorem dX6_solveGames_2 : decode cX6_solveGames 2 = .ok (.invokevirtual 105, 3) := by decide +kernel
theorem dX6_solveGames_5 : decode cX6_solveGames 5 = .ok (.iconst 1, 1) := by decide +kernel
theorem dX6_solveGames_6 : decode cX6_solveGames 6 = .ok (.aload_n 0, 1) := by decide +kernel
theorem dX6_solveGames_7 : decode cX6_solveGames 7 = .ok (.getfield 43, 3) := by decide +kernel
theorem dX6_solveGames_10 : decode cX6_solveGames 10 = .ok (.ishl, 1) := by decide +kernel
theorem dX6_solveGames_11 : decode cX6_solveGames 11 = .ok (.iconst 1, 1) := by decide +kernel
theorem dX6_solveGames_12 : decode cX6_solveGames 12 = .ok (.isub, 1) := by decide +kernel
theorem dX6_solveGames_13 : decode cX6_solveGames 13 = .ok (.istore_n 2, 1) := by decide +kernel
theorem dX6_solveGames_14 : decode cX6_solveGames 14 = .ok (.aload_n 0, 1) := by decide +kernel
theorem dX6_solveGames_15 : decode cX6_solveGames 15 = .ok (.iload_n 2, 1) := by decide +kernel
theorem dX6_solveGames_16 : decode cX6_solveGames 16 = .ok (.iconst 0, 1) := by decide +kernel
theorem dX6_solveGames_17 : decode cX6_solveGames 17 = .ok (.invokevirtual 108, 3) := by decide +kernel
theorem dX6_solveGames_20 : decode cX6_solveGames 20 = .ok (.istore_n 3, 1) := by decide +kernel
theorem dX6_solveGames_21 : decode cX6_solveGames 21 = .ok (.aload_n 1, 1) := by decide +kernel
theorem dX6_solveGames_22 : decode cX6_solveGames 22 = .ok (.invokevirtual 37, 3) := by decide +kernel
theorem dX6_solveGames_25 : decode cX6_solveGames 25 = .ok (.istore 4, 2) := by decide +kernel
theorem dX6_solveGames_27 : decode cX6_solveGames 27 = .ok (.iload_n 3, 1) := by decide +kernel
theorem dX6_solveGames_28 : decode cX6_solveGames 28 = .ok (.iload 4, 2) := by decide +kernel
theorem dX6_solveGames_30 : decode cX6_solveGames 30 = .ok (.invokestatic 111, 3) := by decide +kernel
theorem dX6_solveGames_33 : decode cX6_solveGames 33 = .ok (.ifCond .eq 7, 3) := by decide +kernel
theorem dX6_solveGames_36 : decode cX6_solveGames 36 = .ok (.iconst 0, 1) := by decide +kernel
theorem dX6_solveGames_37 : decode cX6_solveGames 37 = .ok (.goto 4, 3) := by decide +kernel
theorem dX6_solveGames_40 : decode cX6_solveGames 40 = .ok (.iconst 1, 1) := by decide +kernel
theorem dX6_solveGames_41 : decode cX6_solveGames 41 = .ok (.istore 5, 2) := by decide +kernel
theorem dX6_solveGames_43 : decode cX6_solveGames 43 = .ok (.aload_n 1, 1) := by decide +kernel
theorem dX6_solveGames_44 : decode cX6_solveGames 44 = .ok (.iload 5, 2) := by decide +kernel
theorem dX6_solveGames_46 : decode cX6_solveGames 46 = .ok (.ifCond .ne 7, 3) := by decide +kernel
theorem dX6_solveGames_49 : decode cX6_solveGames 49 = .ok (.iconst 1, 1) := by decide +kernel
theorem dX6_solveGames_50 : decode cX6_solveGames 50 = .ok (.goto 4, 3) := by decide +kernel
theorem dX6_solveGames_53 : decode cX6_solveGames 53 = .ok (.iconst 0, 1) := by decide +kernel
theorem dX6_solveGames_54 : decode cX6_solveGames 54 = .ok (.iload_n 3, 1) := by decide +kernel
theorem dX6_solveGames_55 : decode cX6_solveGames 55 = .ok (.invokestatic 115, 3) := by decide +kernel
theorem dX6_solveGames_58 : decode cX6_solveGames 58 = .ok (.invokevirtual 55, 3) := by decide +kernel
theorem dX6_solveGames_61 : decode cX6_solveGames 61 = .ok (.iconst 0, 1) := by decide +kernel
theorem dX6_solveGames_62 : decode cX6_solveGames 62 = .ok (.istore 6, 2) := by decide +kernel
theorem dX6_solveGames_64 : decode cX6_solveGames 64 = .ok (.iload 6, 2) := by decide +kernel
theorem dX6_solveGames_66 : decode cX6_solveGames 66 = .ok (.aload_n 0, 1) := by decide +kernel
theorem dX6_solveGames_67 : decode cX6_solveGames 67 = .ok (.getfield 43, 3) := by decide +kernel
theorem dX6_solveGames_70 : decode cX6_solveGames 70 = .ok (.if_icmp .ge 42, 3) := by decide +kernel
theorem dX6_solveGames_73 : decode cX6_solveGames 73 = .ok (.aload_n 1, 1) := by decide +kernel
theorem dX6_solveGames_74 : decode cX6_solveGames 74 = .ok (.getfield 59, 3) := by decide +kernel
theorem dX6_solveGames_77 : decode cX6_solveGames 77 = .ok (.aload_n 0, 1) := by decide +kernel
theorem dX6_solveGames_78 : decode cX6_solveGames 78 = .ok (.getfield 24, 3) := by decide +kernel
theorem dX6_solveGames_81 : decode cX6_solveGames 81 = .ok (.iload 6, 2) := by decide +kernel
theorem dX6_solveGames_83 : decode cX6_solveGames 83 = .ok (.iaload, 1) := by decide +kernel
theorem dX6_solveGames_84 : decode cX6_solveGames 84 = .ok (.iload 5, 2) := by decide +kernel
theorem dX6_solveGames_86 : decode cX6_solveGames 86 = .ok (.if_icmp .ne 16, 3) := by decide +kernel
theorem dX6_solveGames_89 : decode cX6_solveGames 89 = .ok (.aload_n 0, 1) := by decide +kernel
theorem dX6_solveGames_90 : decode cX6_solveGames 90 = .ok (.iload 6, 2) := by decide +kernel
theorem dX6_solveGames_92 : decode cX6_solveGames 92 = .ok (.iload 5, 2) := by decide +kernel
theorem dX6_solveGames_94 : decode cX6_solveGames 94 = .ok (.iload 4, 2) := by decide +kernel
theorem dX6_solveGames_96 : decode cX6_solveGames 96 = .ok (.invokevirtual 120, 3) := by decide +kernel
theorem dX6_solveGames_99 : decode cX6_solveGames 99 = .ok (.goto 4, 3) := by decide +kernel
theorem dX6_solveGames_102 : decode cX6_solveGames 102 = .ok (.iconst (-1), 1) := by decide +kernel
theorem dX6_solveGames_103 : decode cX6_solveGames 103 = .ok (.invokevirtual 63, 3) := by decide +kernel
theorem dX6_solveGames_106 : decode cX6_solveGames 106 = .ok (.iinc 6 1, 3) := by decide +kernel
theorem dX6_solveGames_109 : decode cX6_solveGames 109 = .ok (.goto (-45), 3) := by decide +kernel
theorem dX6_solveGames_112 : decode cX6_solveGames 112 = .ok (.return_, 1) := by decide +kernel
theorem dX6_loadNodes_0 : decode cX6_loadNodes 0 = .ok (.aload_n 0, 1) := by decide +kernel
theorem dX6_loadNodes_1 : decode cX6_loadNodes 1 = .ok (.aload_n 1, 1) := by decide +kernel
theorem dX6_loadNodes_2 : decode cX6_loadNodes 2 = .ok (.getfield 73, 3) := by decide +kernel
theorem dX6_loadNodes_5 : decode cX6_loadNodes 5 = .ok (.putfield 43, 3) := by decide +kernel
theorem dX6_loadNodes_8 : decode cX6_loadNodes 8 = .ok (.iconst 0, 1) := by decide +kernel
theorem dX6_loadNodes_9 : decode cX6_loadNodes 9 = .ok (.istore_n 2, 1) := by decide +kernel
theorem dX6_loadNodes_10 : decode cX6_loadNodes 10 = .ok (.iload_n 2, 1) := by decide +kernel
theorem dX6_loadNodes_11 : decode cX6_loadNodes 11 = .ok (.aload_n 0, 1) := by decide +kernel
theorem dX6_loadNodes_12 : decode cX6_loadNodes 12 = .ok (.getfield 43, 3) := by decide +kernel
theorem dX6_loadNodes_15 : decode cX6_loadNodes 15 = .ok (.if_icmp .ge 127, 3) := by decide +kernel
theorem dX6_loadNodes_18 : decode cX6_loadNodes 18 = .ok (.iload_n 2, 1) := by decide +kernel
theorem dX6_loadNodes_19 : decode cX6_loadNodes 19 = .ok (.aload_n 1, 1) := by decide +kernel
theorem dX6_loadNodes_20 : decode cX6_loadNodes 20 = .ok (.getfield 74, 3) := by decide +kernel
theorem dX6_loadNodes_23 : decode cX6_loadNodes 23 = .ok (.if_icmp .ge 7, 3) := by decide +kernel
theorem dX6_loadNodes_26 : decode cX6_loadNodes 26 = .ok (.iconst 1, 1) := by decide +kernel
theorem dX6_loadNodes_27 : decode cX6_loadNodes 27 = .ok (.goto 4, 3) := by decide +kernel
theorem dX6_loadNodes_30 : decode cX6_loadNodes 30 = .ok (.iconst 0, 1) := by decide +kernel
theorem dX6_loadNodes_31 : decode cX6_loadNodes 31 = .ok (.istore_n 3, 1) := by decide +kernel
theorem dX6_loadNodes_32 : decode cX6_loadNodes 32 = .ok (.aload_n 0, 1) := by decide +kernel
theorem dX6_loadNodes_33 : decode cX6_loadNodes 33 = .ok (.getfield 24, 3) := by decide +kernel
theorem dX6_loadNodes_36 : decode cX6_loadNodes 36 = .ok (.iload_n 2, 1) := by decide +kernel
theorem dX6_loadNodes_37 : decode cX6_loadNodes 37 = .ok (.iload_n 3, 1) := by decide +kernel
theorem dX6_loadNodes_38 : decode cX6_loadNodes 38 = .ok (.ifCond .eq 12, 3) := by decide +kernel
theorem dX6_loadNodes_41 : decode cX6_loadNodes 41 = .ok (.aload_n 1, 1) := by decide +kernel
theorem dX6_loadNodes_42 : decode cX6_loadNodes 42 = .ok (.iload_n 2, 1) := by decide +kernel
theorem dX6_loadNodes_43 : decode cX6_loadNodes 43 = .ok (.iconst 0, 1) := by decide +kernel
theorem dX6_loadNodes_44 : decode cX6_loadNodes 44 = .ok (.invokevirtual 77, 3) := by decide +kernel
theorem dX6_loadNodes_47 : decode cX6_loadNodes 47 = .ok (.goto 4, 3) := by decide +kernel
theorem dX6_loadNodes_50 : decode cX6_loadNodes 50 = .ok (.iconst 0, 1) := by decide +kernel
theorem dX6_loadNodes_51 : decode cX6_loadNodes 51 = .ok (.iastore, 1) := by decide +kernel
theorem dX6_loadNodes_52 : decode cX6_loadNodes 52 = .ok (.aload_n 0, 1) := by decide +kernel
theorem dX6_loadNodes_53 : decode cX6_loadNodes 53 = .ok (.getfield 27, 3) := by decide +kernel
theorem dX6_loadNodes_56 : decode cX6_loadNodes 56 = .ok (.iload_n 2, 1) := by decide +kernel
theorem dX6_loadNodes_57 : decode cX6_loadNodes 57 = .ok (.iload_n 3, 1) := by decide +kernel
theorem dX6_loadNodes_58 : decode cX6_loadNodes 58 = .ok (.ifCond .eq 12, 3) := by decide +kernel
theorem dX6_loadNodes_61 : decode cX6_loadNodes 61 = .ok (.aload_n 1, 1) := by decide +kernel
theorem dX6_loadNodes_62 : decode cX6_loadNodes 62 = .ok (.iload_n 2, 1) := by decide +kernel
theorem dX6_loadNodes_63 : decode cX6_loadNodes 63 = .ok (.iconst 1, 1) := by decide +kernel
theorem dX6_loadNodes_64 : decode cX6_loadNodes 64 = .ok (.invokevirtual 77, 3) := by decide +kernel
theorem dX6_loadNodes_67 : decode cX6_loadNodes 67 = .ok (.goto 4, 3) := by decide +kernel
theorem dX6_loadNodes_70 : decode cX6_loadNodes 70 = .ok (.iconst 0, 1) := by decide +kernel
theorem dX6_loadNodes_71 : decode cX6_loadNodes 71 = .ok (.iastore, 1) := by decide +kernel
theorem dX6_loadNodes_72 : decode cX6_loadNodes 72 = .ok (.aload_n 0, 1) := by decide +kernel
theorem dX6_loadNodes_73 : decode cX6_loadNodes 73 = .ok (.getfield 30, 3) := by decide +kernel
theorem dX6_loadNodes_76 : decode cX6_loadNodes 76 = .ok (.iload_n 2, 1) := by decide +kernel
theorem dX6_loadNodes_77 : decode cX6_loadNodes 77 = .ok (.iload_n 3, 1) := by decide +kernel
theorem dX6_loadNodes_78 : decode cX6_loadNodes 78 = .ok (.ifCond .eq 7, 3) := by decide +kernel
theorem dX6_loadNodes_81 : decode cX6_loadNodes 81 = .ok (.iconst 0, 1) := by decide +kernel
theorem dX6_loadNodes_82 : decode cX6_loadNodes 82 = .ok (.goto 6, 3) := by decide +kernel
theorem dX6_loadNodes_85 : decode cX6_loadNodes 85 = .ok (.iconst 1, 1) := by decide +kernel
theorem dX6_loadNodes_86 : decode cX6_loadNodes 86 = .ok (.iload_n 2, 1) := by decide +kernel
theorem dX6_loadNodes_87 : decode cX6_loadNodes 87 = .ok (.ishl, 1) := by decide +kernel
theorem dX6_loadNodes_88 : decode cX6_loadNodes 88 = .ok (.iastore, 1) := by decide +kernel
theorem dX6_loadNodes_89 : decode cX6_loadNodes 89 = .ok (.iconst 2, 1) := by decide +kernel
theorem dX6_loadNodes_90 : decode cX6_loadNodes 90 = .ok (.istore 4, 2) := by decide +kernel
theorem dX6_loadNodes_92 : decode cX6_loadNodes 92 = .ok (.iload 4, 2) := by decide +kernel
theorem dX6_loadNodes_94 : decode cX6_loadNodes 94 = .ok (.iconst 5, 1) := by decide +kernel
theorem dX6_loadNodes_95 : decode cX6_loadNodes 95 = .ok (.if_icmp .ge 41, 3) := by decide +kernel
theorem dX6_loadNodes_98 : decode cX6_loadNodes 98 = .ok (.iload_n 3, 1) := by decide +kernel
theorem dX6_loadNodes_99 : decode cX6_loadNodes 99 = .ok (.ifCond .eq 37, 3) := by decide +kernel
theorem dX6_loadNodes_102 : decode cX6_loadNodes 102 = .ok (.aload_n 1, 1) := by decide +kernel
theorem dX6_loadNodes_103 : decode cX6_loadNodes 103 = .ok (.iload_n 2, 1) := by decide +kernel
theorem dX6_loadNodes_104 : decode cX6_loadNodes 104 = .ok (.iload 4, 2) := by decide +kernel
theorem dX6_loadNodes_106 : decode cX6_loadNodes 106 = .ok (.invokevirtual 77, 3) := by decide +kernel
theorem dX6_loadNodes_109 : decode cX6_loadNodes 109 = .ok (.ifCond .lt 21, 3) := by decide +kernel
theorem dX6_loadNodes_112 : decode cX6_loadNodes 112 = .ok (.aload_n 0, 1) := by decide +kernel
theorem dX6_loadNodes_113 : decode cX6_loadNodes 113 = .ok (.getfield 30, 3) := by decide +kernel
theorem dX6_loadNodes_116 : decode cX6_loadNodes 116 = .ok (.iload_n 2, 1) := by decide +kernel
theorem dX6_loadNodes_117 : decode cX6_loadNodes 117 = .ok (.dup2, 1) := by decide +kernel
theorem dX6_loadNodes_118 : decode cX6_loadNodes 118 = .ok (.iaload, 1) := by decide +kernel
theorem dX6_loadNodes_119 : decode cX6_loadNodes 119 = .ok (.iconst 1, 1) := by decide +kernel
theorem dX6_loadNodes_120 : decode cX6_loadNodes 120 = .ok (.aload_n 1, 1) := by decide +kernel
theorem dX6_loadNodes_121 : decode cX6_loadNodes 121 = .ok (.iload_n 2, 1) := by decide +kernel
theorem dX6_loadNodes_122 : decode cX6_loadNodes 122 = .ok (.iload 4, 2) := by decide +kernel
theorem dX6_loadNodes_124 : decode cX6_loadNodes 124 = .ok (.invokevirtual 77, 3) := by decide +kernel
theorem dX6_loadNodes_127 : decode cX6_loadNodes 127 = .ok (.ishl, 1) := by decide +kernel
theorem dX6_loadNodes_128 : decode cX6_loadNodes 128 = .ok (.ior, 1) := by decide +kernel
theorem dX6_loadNodes_129 : decode cX6_loadNodes 129 = .ok (.iastore, 1) := by decide +kernel
theorem dX6_loadNodes_130 : decode cX6_loadNodes 130 = .ok (.iinc 4 1, 3) := by decide +kernel
theorem dX6_loadNodes_133 : decode cX6_loadNodes 133 = .ok (.goto (-41), 3) := by decide +kernel
theorem dX6_loadNodes_136 : decode cX6_loadNodes 136 = .ok (.iinc 2 1, 3) := by decide +kernel
theorem dX6_loadNodes_139 : decode cX6_loadNodes 139 = .ok (.goto (-129), 3) := by decide +kernel
theorem dX6_loadNodes_142 : decode cX6_loadNodes 142 = .ok (.return_, 1) := by decide +kernel
theorem dX6_leastWay_0 : decode cX6_leastWay 0 = .ok (.aload_n 0, 1) := by decide +kernel
theorem dX6_leastWay_1 : decode cX6_leastWay 1 = .ok (.getfield 30, 3) := by decide +kernel
theorem dX6_leastWay_4 : decode cX6_leastWay 4 = .ok (.iload_n 1, 1) := by decide +kernel
theorem dX6_leastWay_5 : decode cX6_leastWay 5 = .ok (.iaload, 1) := by decide +kernel
theorem dX6_leastWay_6 : decode cX6_leastWay 6 = .ok (.istore 4, 2) := by decide +kernel
theorem dX6_leastWay_8 : decode cX6_leastWay 8 = .ok (.iconst 0, 1) := by decide +kernel
theorem dX6_leastWay_9 : decode cX6_leastWay 9 = .ok (.istore 5, 2) := by decide +kernel
theorem dX6_leastWay_11 : decode cX6_leastWay 11 = .ok (.iload 5, 2) := by decide +kernel
theorem dX6_leastWay_13 : decode cX6_leastWay 13 = .ok (.aload_n 0, 1) := by decide +kernel
theorem dX6_leastWay_14 : decode cX6_leastWay 14 = .ok (.getfield 43, 3) := by decide +kernel
theorem dX6_leastWay_17 : decode cX6_leastWay 17 = .ok (.if_icmp .ge 61, 3) := by decide +kernel
theorem dX6_leastWay_20 : decode cX6_leastWay 20 = .ok (.iload 4, 2) := by decide +kernel
theorem dX6_leastWay_22 : decode cX6_leastWay 22 = .ok (.iload 5, 2) := by decide +kernel
theorem dX6_leastWay_24 : decode cX6_leastWay 24 = .ok (.invokestatic 111, 3) := by decide +kernel
theorem dX6_leastWay_27 : decode cX6_leastWay 27 = .ok (.ifCond .eq 45, 3) := by decide +kernel
theorem dX6_leastWay_30 : decode cX6_leastWay 30 = .ok (.aload_n 0, 1) := by decide +kernel
theorem dX6_leastWay_31 : decode cX6_leastWay 31 = .ok (.getfield 30, 3) := by decide +kernel
theorem dX6_leastWay_34 : decode cX6_leastWay 34 = .ok (.iload_n 1, 1) := by decide +kernel
theorem dX6_leastWay_35 : decode cX6_leastWay 35 = .ok (.iconst 1, 1) := by decide +kernel
theorem dX6_leastWay_36 : decode cX6_leastWay 36 = .ok (.iload 5, 2) := by decide +kernel
theorem dX6_leastWay_38 : decode cX6_leastWay 38 = .ok (.ishl, 1) := by decide +kernel
theorem dX6_leastWay_39 : decode cX6_leastWay 39 = .ok (.iastore, 1) := by decide +kernel
theorem dX6_leastWay_40 : decode cX6_leastWay 40 = .ok (.aload_n 0, 1) := by decide +kernel
theorem dX6_leastWay_41 : decode cX6_leastWay 41 = .ok (.iconst 1, 1) := by decide +kernel
theorem dX6_leastWay_42 : decode cX6_leastWay 42 = .ok (.aload_n 0, 1) := by decide +kernel
theorem dX6_leastWay_43 : decode cX6_leastWay 43 = .ok (.getfield 43, 3) := by decide +kernel
theorem dX6_leastWay_46 : decode cX6_leastWay 46 = .ok (.ishl, 1) := by decide +kernel
theorem dX6_leastWay_47 : decode cX6_leastWay 47 = .ok (.iconst 1, 1) := by decide +kernel
theorem dX6_leastWay_48 : decode cX6_leastWay 48 = .ok (.isub, 1) := by decide +kernel
theorem dX6_leastWay_49 : decode cX6_leastWay 49 = .ok (.iconst 0, 1) := by decide +kernel
theorem dX6_leastWay_50 : decode cX6_leastWay 50 = .ok (.invokevirtual 108, 3) := by decide +kernel
theorem dX6_leastWay_53 : decode cX6_leastWay 53 = .ok (.iload_n 3, 1) := by decide +kernel
theorem dX6_leastWay_54 : decode cX6_leastWay 54 = .ok (.invokestatic 111, 3) := by decide +kernel
theorem dX6_leastWay_57 : decode cX6_leastWay 57 = .ok (.iload_n 2, 1) := by decide +kernel
theorem dX6_leastWay_58 : decode cX6_leastWay 58 = .ok (.ifCond .ne 7, 3) := by decide +kernel
theorem dX6_leastWay_61 : decode cX6_leastWay 61 = .ok (.iconst 1, 1) := by decide +kernel
theorem dX6_leastWay_62 : decode cX6_leastWay 62 = .ok (.goto 4, 3) := by decide +kernel
theorem dX6_leastWay_65 : decode cX6_leastWay 65 = .ok (.iconst 0, 1) := by decide +kernel
theorem dX6_leastWay_66 : decode cX6_leastWay 66 = .ok (.if_icmp .ne 6, 3) := by decide +kernel
theorem dX6_leastWay_69 : decode cX6_leastWay 69 = .ok (.iload 5, 2) := by decide +kernel
theorem dX6_leastWay_71 : decode cX6_leastWay 71 = .ok (.ireturn, 1) := by decide +kernel
theorem dX6_leastWay_72 : decode cX6_leastWay 72 = .ok (.iinc 5 1, 3) := by decide +kernel
theorem dX6_leastWay_75 : decode cX6_leastWay 75 = .ok (.goto (-64), 3) := by decide +kernel
theorem dX6_leastWay_78 : decode cX6_leastWay 78 = .ok (.aload_n 0, 1) := by decide +kernel
theorem dX6_leastWay_79 : decode cX6_leastWay 79 = .ok (.getfield 30, 3) := by decide +kernel
theorem dX6_leastWay_82 : decode cX6_leastWay 82 = .ok (.iload_n 1, 1) := by decide +kernel
theorem dX6_leastWay_83 : decode cX6_leastWay 83 = .ok (.iload 4, 2) := by decide +kernel
theorem dX6_leastWay_85 : decode cX6_leastWay 85 = .ok (.iastore, 1) := by decide +kernel
theorem dX6_leastWay_86 : decode cX6_leastWay 86 = .ok (.iload 4, 2) := by decide +kernel
theorem dX6_leastWay_88 : decode cX6_leastWay 88 = .ok (.invokestatic 124, 3) := by decide +kernel
theorem dX6_leastWay_91 : decode cX6_leastWay 91 = .ok (.ireturn, 1) := by decide +kernel
theorem dX6_isWonBy_0 : decode cX6_isWonBy 0 = .ok (.aload_n 0, 1) := by decide +kernel
theorem dX6_isWonBy_1 : decode cX6_isWonBy 1 = .ok (.iconst 1, 1) := by decide +kernel
theorem dX6_isWonBy_2 : decode cX6_isWonBy 2 = .ok (.aload_n 0, 1) := by decide +kernel
theorem dX6_isWonBy_3 : decode cX6_isWonBy 3 = .ok (.getfield 43, 3) := by decide +kernel
theorem dX6_isWonBy_6 : decode cX6_isWonBy 6 = .ok (.ishl, 1) := by decide +kernel
theorem dX6_isWonBy_7 : decode cX6_isWonBy 7 = .ok (.iconst 1, 1) := by decide +kernel
theorem dX6_isWonBy_8 : decode cX6_isWonBy 8 = .ok (.isub, 1) := by decide +kernel
theorem dX6_isWonBy_9 : decode cX6_isWonBy 9 = .ok (.iconst 0, 1) := by decide +kernel
theorem dX6_isWonBy_10 : decode cX6_isWonBy 10 = .ok (.invokevirtual 108, 3) := by decide +kernel
theorem dX6_isWonBy_13 : decode cX6_isWonBy 13 = .ok (.iload_n 2, 1) := by decide +kernel
theorem dX6_isWonBy_14 : decode cX6_isWonBy 14 = .ok (.invokestatic 111, 3) := by decide +kernel
theorem dX6_isWonBy_17 : decode cX6_isWonBy 17 = .ok (.iload_n 1, 1) := by decide +kernel
theorem dX6_isWonBy_18 : decode cX6_isWonBy 18 = .ok (.ifCond .ne 7, 3) := by decide +kernel
theorem dX6_isWonBy_21 : decode cX6_isWonBy 21 = .ok (.iconst 1, 1) := by decide +kernel
theorem dX6_isWonBy_22 : decode cX6_isWonBy 22 = .ok (.goto 4, 3) := by decide +kernel
theorem dX6_isWonBy_25 : decode cX6_isWonBy 25 = .ok (.iconst 0, 1) := by decide +kernel
theorem dX6_isWonBy_26 : decode cX6_isWonBy 26 = .ok (.if_icmp .ne 7, 3) := by decide +kernel
theorem dX6_isWonBy_29 : decode cX6_isWonBy 29 = .ok (.iconst 1, 1) := by decide +kernel
theorem dX6_isWonBy_30 : decode cX6_isWonBy 30 = .ok (.goto 4, 3) := by decide +kernel
theorem dX6_isWonBy_33 : decode cX6_isWonBy 33 = .ok (.iconst 0, 1) := by decide +kernel
theorem dX6_isWonBy_34 : decode cX6_isWonBy 34 = .ok (.ireturn, 1) := by decide +kernel
theorem dX6_wonByFirst_0 : decode cX6_wonByFirst 0 = .ok (.iload_n 1, 1) := by decide +kernel
theorem dX6_wonByFirst_1 : decode cX6_wonByFirst 1 = .ok (.ifCond .eq 9, 3) := by decide +kernel
theorem dX6_wonByFirst_4 : decode cX6_wonByFirst 4 = .ok (.iload_n 2, 1) := by decide +kernel
theorem dX6_wonByFirst_5 : decode cX6_wonByFirst 5 = .ok (.bipush 8, 2) := by decide +kernel
theorem dX6_wonByFirst_7 : decode cX6_wonByFirst 7 = .ok (.if_icmp .le 5, 3) := by decide +kernel
theorem dX6_wonByFirst_10 : decode cX6_wonByFirst 10 = .ok (.iconst 0, 1) := by decide +kernel
theorem dX6_wonByFirst_11 : decode cX6_wonByFirst 11 = .ok (.ireturn, 1) := by decide +kernel
theorem dX6_wonByFirst_12 : decode cX6_wonByFirst 12 = .ok (.aload_n 0, 1) := by decide +kernel
theorem dX6_wonByFirst_13 : decode cX6_wonByFirst 13 = .ok (.iload_n 1, 1) := by decide +kernel
theorem dX6_wonByFirst_14 : decode cX6_wonByFirst 14 = .ok (.invokevirtual 127, 3) := by decide +kernel
theorem dX6_wonByFirst_17 : decode cX6_wonByFirst 17 = .ok (.istore_n 3, 1) := by decide +kernel
theorem dX6_wonByFirst_18 : decode cX6_wonByFirst 18 = .ok (.iload_n 3, 1) := by decide +kernel
theorem dX6_wonByFirst_19 : decode cX6_wonByFirst 19 = .ok (.iconst 2, 1) := by decide +kernel
theorem dX6_wonByFirst_20 : decode cX6_wonByFirst 20 = .ok (.irem, 1) := by decide +kernel
theorem dX6_wonByFirst_21 : decode cX6_wonByFirst 21 = .ok (.istore 4, 2) := by decide +kernel
theorem dX6_wonByFirst_23 : decode cX6_wonByFirst 23 = .ok (.iload_n 1, 1) := by decide +kernel
theorem dX6_wonByFirst_24 : decode cX6_wonByFirst 24 = .ok (.aload_n 0, 1) := by decide +kernel
theorem dX6_wonByFirst_25 : decode cX6_wonByFirst 25 = .ok (.aload_n 0, 1) := by decide +kernel
theorem dX6_wonByFirst_26 : decode cX6_wonByFirst 26 = .ok (.iload_n 1, 1) := by decide +kernel
theorem dX6_wonByFirst_27 : decode cX6_wonByFirst 27 = .ok (.iload_n 3, 1) := by decide +kernel
theorem dX6_wonByFirst_28 : decode cX6_wonByFirst 28 = .ok (.invokevirtual 130, 3) := by decide +kernel
theorem dX6_wonByFirst_31 : decode cX6_wonByFirst 31 = .ok (.iload 4, 2) := by decide +kernel
theorem dX6_wonByFirst_33 : decode cX6_wonByFirst 33 = .ok (.iload_n 1, 1) := by decide +kernel
theorem dX6_wonByFirst_34 : decode cX6_wonByFirst 34 = .ok (.invokevirtual 133, 3) := by decide +kernel
theorem dX6_wonByFirst_37 : decode cX6_wonByFirst 37 = .ok (.iconst (-1), 1) := by decide +kernel
theorem dX6_wonByFirst_38 : decode cX6_wonByFirst 38 = .ok (.ixor, 1) := by decide +kernel
theorem dX6_wonByFirst_39 : decode cX6_wonByFirst 39 = .ok (.iand, 1) := by decide +kernel
theorem dX6_wonByFirst_40 : decode cX6_wonByFirst 40 = .ok (.istore 5, 2) := by decide +kernel
theorem dX6_wonByFirst_42 : decode cX6_wonByFirst 42 = .ok (.aload_n 0, 1) := by decide +kernel
theorem dX6_wonByFirst_43 : decode cX6_wonByFirst 43 = .ok (.iload 5, 2) := by decide +kernel
theorem dX6_wonByFirst_45 : decode cX6_wonByFirst 45 = .ok (.iload_n 2, 1) := by decide +kernel
theorem dX6_wonByFirst_46 : decode cX6_wonByFirst 46 = .ok (.iconst 1, 1) := by decide +kernel
theorem dX6_wonByFirst_47 : decode cX6_wonByFirst 47 = .ok (.iadd, 1) := by decide +kernel
theorem dX6_wonByFirst_48 : decode cX6_wonByFirst 48 = .ok (.invokevirtual 108, 3) := by decide +kernel
theorem dX6_wonByFirst_51 : decode cX6_wonByFirst 51 = .ok (.istore 6, 2) := by decide +kernel
theorem dX6_wonByFirst_53 : decode cX6_wonByFirst 53 = .ok (.iload 4, 2) := by decide +kernel
theorem dX6_wonByFirst_55 : decode cX6_wonByFirst 55 = .ok (.ifCond .ne 13, 3) := by decide +kernel
theorem dX6_wonByFirst_58 : decode cX6_wonByFirst 58 = .ok (.iload 5, 2) := by decide +kernel
theorem dX6_wonByFirst_60 : decode cX6_wonByFirst 60 = .ok (.iload 6, 2) := by decide +kernel
theorem dX6_wonByFirst_62 : decode cX6_wonByFirst 62 = .ok (.iconst (-1), 1) := by decide +kernel
theorem dX6_wonByFirst_63 : decode cX6_wonByFirst 63 = .ok (.ixor, 1) := by decide +kernel
theorem dX6_wonByFirst_64 : decode cX6_wonByFirst 64 = .ok (.iand, 1) := by decide +kernel
theorem dX6_wonByFirst_65 : decode cX6_wonByFirst 65 = .ok (.goto 5, 3) := by decide +kernel
theorem dX6_wonByFirst_68 : decode cX6_wonByFirst 68 = .ok (.iload 6, 2) := by decide +kernel
theorem dX6_wonByFirst_70 : decode cX6_wonByFirst 70 = .ok (.istore 7, 2) := by decide +kernel
theorem dX6_wonByFirst_72 : decode cX6_wonByFirst 72 = .ok (.iload 7, 2) := by decide +kernel
theorem dX6_wonByFirst_74 : decode cX6_wonByFirst 74 = .ok (.ifCond .ne 14, 3) := by decide +kernel
theorem dX6_wonByFirst_77 : decode cX6_wonByFirst 77 = .ok (.iload 4, 2) := by decide +kernel
theorem dX6_wonByFirst_79 : decode cX6_wonByFirst 79 = .ok (.ifCond .ne 7, 3) := by decide +kernel
theorem dX6_wonByFirst_82 : decode cX6_wonByFirst 82 = .ok (.iload_n 1, 1) := by decide +kernel
theorem dX6_wonByFirst_83 : decode cX6_wonByFirst 83 = .ok (.goto 4, 3) := by decide +kernel
theorem dX6_wonByFirst_86 : decode cX6_wonByFirst 86 = .ok (.iconst 0, 1) := by decide +kernel
theorem dX6_wonByFirst_87 : decode cX6_wonByFirst 87 = .ok (.ireturn, 1) := by decide +kernel
theorem dX6_wonByFirst_88 : decode cX6_wonByFirst 88 = .ok (.aload_n 0, 1) := by decide +kernel
theorem dX6_wonByFirst_89 : decode cX6_wonByFirst 89 = .ok (.iload 7, 2) := by decide +kernel
theorem dX6_wonByFirst_91 : decode cX6_wonByFirst 91 = .ok (.iconst 1, 1) := by decide +kernel
theorem dX6_wonByFirst_92 : decode cX6_wonByFirst 92 = .ok (.iload 4, 2) := by decide +kernel
theorem dX6_wonByFirst_94 : decode cX6_wonByFirst 94 = .ok (.isub, 1) := by decide +kernel
theorem dX6_wonByFirst_95 : decode cX6_wonByFirst 95 = .ok (.iload_n 1, 1) := by decide +kernel
theorem dX6_wonByFirst_96 : decode cX6_wonByFirst 96 = .ok (.invokevirtual 133, 3) := by decide +kernel
theorem dX6_wonByFirst_99 : decode cX6_wonByFirst 99 = .ok (.istore 8, 2) := by decide +kernel
theorem dX6_wonByFirst_101 : decode cX6_wonByFirst 101 = .ok (.aload_n 0, 1) := by decide +kernel
theorem dX6_wonByFirst_102 : decode cX6_wonByFirst 102 = .ok (.iload_n 1, 1) := by decide +kernel
theorem dX6_wonByFirst_103 : decode cX6_wonByFirst 103 = .ok (.iload 8, 2) := by decide +kernel
theorem dX6_wonByFirst_105 : decode cX6_wonByFirst 105 = .ok (.iconst (-1), 1) := by decide +kernel
theorem dX6_wonByFirst_106 : decode cX6_wonByFirst 106 = .ok (.ixor, 1) := by decide +kernel
theorem dX6_wonByFirst_107 : decode cX6_wonByFirst 107 = .ok (.iand, 1) := by decide +kernel
theorem dX6_wonByFirst_108 : decode cX6_wonByFirst 108 = .ok (.iload_n 2, 1) := by decide +kernel
theorem dX6_wonByFirst_109 : decode cX6_wonByFirst 109 = .ok (.iconst 1, 1) := by decide +kernel
theorem dX6_wonByFirst_110 : decode cX6_wonByFirst 110 = .ok (.iadd, 1) := by decide +kernel
theorem dX6_wonByFirst_111 : decode cX6_wonByFirst 111 = .ok (.invokevirtual 108, 3) := by decide +kernel
theorem dX6_wonByFirst_114 : decode cX6_wonByFirst 114 = .ok (.istore 9, 2) := by decide +kernel
theorem dX6_wonByFirst_116 : decode cX6_wonByFirst 116 = .ok (.iload 4, 2) := by decide +kernel
theorem dX6_wonByFirst_118 : decode cX6_wonByFirst 118 = .ok (.ifCond .ne 8, 3) := by decide +kernel
theorem dX6_wonByFirst_121 : decode cX6_wonByFirst 121 = .ok (.iload 9, 2) := by decide +kernel
theorem dX6_wonByFirst_123 : decode cX6_wonByFirst 123 = .ok (.goto 8, 3) := by decide +kernel
theorem dX6_wonByFirst_126 : decode cX6_wonByFirst 126 = .ok (.iload 9, 2) := by decide +kernel
theorem dX6_wonByFirst_128 : decode cX6_wonByFirst 128 = .ok (.iload 8, 2) := by decide +kernel
theorem dX6_wonByFirst_130 : decode cX6_wonByFirst 130 = .ok (.ior, 1) := by decide +kernel
theorem dX6_wonByFirst_131 : decode cX6_wonByFirst 131 = .ok (.ireturn, 1) := by decide +kernel
theorem dX6_greatestWeight_0 : decode cX6_greatestWeight 0 = .ok (.iconst 0, 1) := by decide +kernel
theorem dX6_greatestWeight_1 : decode cX6_greatestWeight 1 = .ok (.istore_n 2, 1) := by decide +kernel
theorem dX6_greatestWeight_2 : decode cX6_greatestWeight 2 = .ok (.iconst 0, 1) := by decide +kernel
theorem dX6_greatestWeight_3 : decode cX6_greatestWeight 3 = .ok (.istore_n 3, 1) := by decide +kernel
theorem dX6_greatestWeight_4 : decode cX6_greatestWeight 4 = .ok (.iload_n 3, 1) := by decide +kernel
theorem dX6_greatestWeight_5 : decode cX6_greatestWeight 5 = .ok (.aload_n 0, 1) := by decide +kernel
theorem dX6_greatestWeight_6 : decode cX6_greatestWeight 6 = .ok (.getfield 43, 3) := by decide +kernel
theorem dX6_greatestWeight_9 : decode cX6_greatestWeight 9 = .ok (.if_icmp .ge 28, 3) := by decide +kernel
theorem dX6_greatestWeight_12 : decode cX6_greatestWeight 12 = .ok (.iload_n 1, 1) := by decide +kernel
theorem dX6_greatestWeight_13 : decode cX6_greatestWeight 13 = .ok (.iload_n 3, 1) := by decide +kernel
theorem dX6_greatestWeight_14 : decode cX6_greatestWeight 14 = .ok (.invokestatic 111, 3) := by decide +kernel
theorem dX6_greatestWeight_17 : decode cX6_greatestWeight 17 = .ok (.ifCond .eq 14, 3) := by decide +kernel
theorem dX6_greatestWeight_20 : decode cX6_greatestWeight 20 = .ok (.iload_n 2, 1) := by decide +kernel
theorem dX6_greatestWeight_21 : decode cX6_greatestWeight 21 = .ok (.aload_n 0, 1) := by decide +kernel
theorem dX6_greatestWeight_22 : decode cX6_greatestWeight 22 = .ok (.getfield 27, 3) := by decide +kernel
theorem dX6_greatestWeight_25 : decode cX6_greatestWeight 25 = .ok (.iload_n 3, 1) := by decide +kernel
theorem dX6_greatestWeight_26 : decode cX6_greatestWeight 26 = .ok (.iaload, 1) := by decide +kernel
theorem dX6_greatestWeight_27 : decode cX6_greatestWeight 27 = .ok (.invokestatic 136, 3) := by decide +kernel
theorem dX6_greatestWeight_30 : decode cX6_greatestWeight 30 = .ok (.istore_n 2, 1) := by decide +kernel
theorem dX6_greatestWeight_31 : decode cX6_greatestWeight 31 = .ok (.iinc 3 1, 3) := by decide +kernel
theorem dX6_greatestWeight_34 : decode cX6_greatestWeight 34 = .ok (.goto (-30), 3) := by decide +kernel
theorem dX6_greatestWeight_37 : decode cX6_greatestWeight 37 = .ok (.iload_n 2, 1) := by decide +kernel
theorem dX6_greatestWeight_38 : decode cX6_greatestWeight 38 = .ok (.iconst 5, 1) := by decide +kernel
theorem dX6_greatestWeight_39 : decode cX6_greatestWeight 39 = .ok (.invokestatic 141, 3) := by decide +kernel
theorem dX6_greatestWeight_42 : decode cX6_greatestWeight 42 = .ok (.ireturn, 1) := by decide +kernel
theorem dX6_withWeight_0 : decode cX6_withWeight 0 = .ok (.iconst 0, 1) := by decide +kernel
theorem dX6_withWeight_1 : decode cX6_withWeight 1 = .ok (.istore_n 3, 1) := by decide +kernel
theorem dX6_withWeight_2 : decode cX6_withWeight 2 = .ok (.iconst 0, 1) := by decide +kernel
theorem dX6_withWeight_3 : decode cX6_withWeight 3 = .ok (.istore 4, 2) := by decide +kernel
theorem dX6_withWeight_5 : decode cX6_withWeight 5 = .ok (.iload 4, 2) := by decide +kernel
theorem dX6_withWeight_7 : decode cX6_withWeight 7 = .ok (.aload_n 0, 1) := by decide +kernel
theorem dX6_withWeight_8 : decode cX6_withWeight 8 = .ok (.getfield 43, 3) := by decide +kernel
theorem dX6_withWeight_11 : decode cX6_withWeight 11 = .ok (.if_icmp .ge 36, 3) := by decide +kernel
theorem dX6_withWeight_14 : decode cX6_withWeight 14 = .ok (.iload_n 1, 1) := by decide +kernel
theorem dX6_withWeight_15 : decode cX6_withWeight 15 = .ok (.iload 4, 2) := by decide +kernel
theorem dX6_withWeight_17 : decode cX6_withWeight 17 = .ok (.invokestatic 111, 3) := by decide +kernel
theorem dX6_withWeight_20 : decode cX6_withWeight 20 = .ok (.ifCond .eq 21, 3) := by decide +kernel
theorem dX6_withWeight_23 : decode cX6_withWeight 23 = .ok (.aload_n 0, 1) := by decide +kernel
theorem dX6_withWeight_24 : decode cX6_withWeight 24 = .ok (.getfield 27, 3) := by decide +kernel
theorem dX6_withWeight_27 : decode cX6_withWeight 27 = .ok (.iload 4, 2) := by decide +kernel
theorem dX6_withWeight_29 : decode cX6_withWeight 29 = .ok (.iaload, 1) := by decide +kernel
theorem dX6_withWeight_30 : decode cX6_withWeight 30 = .ok (.iload_n 2, 1) := by decide +kernel
theorem dX6_withWeight_31 : decode cX6_withWeight 31 = .ok (.if_icmp .ne 10, 3) := by decide +kernel
theorem dX6_withWeight_34 : decode cX6_withWeight 34 = .ok (.iload_n 3, 1) := by decide +kernel
theorem dX6_withWeight_35 : decode cX6_withWeight 35 = .ok (.iconst 1, 1) := by decide +kernel
theorem dX6_withWeight_36 : decode cX6_withWeight 36 = .ok (.iload 4, 2) := by decide +kernel
theorem dX6_withWeight_38 : decode cX6_withWeight 38 = .ok (.ishl, 1) := by decide +kernel
theorem dX6_withWeight_39 : decode cX6_withWeight 39 = .ok (.ior, 1) := by decide +kernel
theorem dX6_withWeight_40 : decode cX6_withWeight 40 = .ok (.istore_n 3, 1) := by decide +kernel
theorem dX6_withWeight_41 : decode cX6_withWeight 41 = .ok (.iinc 4 1, 3) := by decide +kernel
theorem dX6_withWeight_44 : decode cX6_withWeight 44 = .ok (.goto (-39), 3) := by decide +kernel
theorem dX6_withWeight_47 : decode cX6_withWeight 47 = .ok (.iload_n 3, 1) := by decide +kernel
theorem dX6_withWeight_48 : decode cX6_withWeight 48 = .ok (.ireturn, 1) := by decide +kernel
theorem dX6_drawnTo_0 : decode cX6_drawnTo 0 = .ok (.iload_n 1, 1) := by decide +kernel
theorem dX6_drawnTo_1 : decode cX6_drawnTo 1 = .ok (.istore 4, 2) := by decide +kernel
theorem dX6_drawnTo_3 : decode cX6_drawnTo 3 = .ok (.iconst 0, 1) := by decide +kernel
theorem dX6_drawnTo_4 : decode cX6_drawnTo 4 = .ok (.istore 5, 2) := by decide +kernel
theorem dX6_drawnTo_6 : decode cX6_drawnTo 6 = .ok (.iload 5, 2) := by decide +kernel
theorem dX6_drawnTo_8 : decode cX6_drawnTo 8 = .ok (.aload_n 0, 1) := by decide +kernel
theorem dX6_drawnTo_9 : decode cX6_drawnTo 9 = .ok (.getfield 43, 3) := by decide +kernel
theorem dX6_drawnTo_12 : decode cX6_drawnTo 12 = .ok (.if_icmp .ge 105, 3) := by decide +kernel
theorem dX6_drawnTo_15 : decode cX6_drawnTo 15 = .ok (.iconst 0, 1) := by decide +kernel
theorem dX6_drawnTo_16 : decode cX6_drawnTo 16 = .ok (.istore 6, 2) := by decide +kernel
theorem dX6_drawnTo_18 : decode cX6_drawnTo 18 = .ok (.iload 6, 2) := by decide +kernel
theorem dX6_drawnTo_20 : decode cX6_drawnTo 20 = .ok (.aload_n 0, 1) := by decide +kernel
theorem dX6_drawnTo_21 : decode cX6_drawnTo 21 = .ok (.getfield 43, 3) := by decide +kernel
theorem dX6_drawnTo_24 : decode cX6_drawnTo 24 = .ok (.if_icmp .ge 87, 3) := by decide +kernel
theorem dX6_drawnTo_27 : decode cX6_drawnTo 27 = .ok (.aload_n 0, 1) := by decide +kernel
theorem dX6_drawnTo_28 : decode cX6_drawnTo 28 = .ok (.getfield 30, 3) := by decide +kernel
theorem dX6_drawnTo_31 : decode cX6_drawnTo 31 = .ok (.iload 6, 2) := by decide +kernel
theorem dX6_drawnTo_33 : decode cX6_drawnTo 33 = .ok (.iaload, 1) := by decide +kernel
theorem dX6_drawnTo_34 : decode cX6_drawnTo 34 = .ok (.iload_n 3, 1) := by decide +kernel
theorem dX6_drawnTo_35 : decode cX6_drawnTo 35 = .ok (.iand, 1) := by decide +kernel
theorem dX6_drawnTo_36 : decode cX6_drawnTo 36 = .ok (.istore 7, 2) := by decide +kernel
theorem dX6_drawnTo_38 : decode cX6_drawnTo 38 = .ok (.aload_n 0, 1) := by decide +kernel
theorem dX6_drawnTo_39 : decode cX6_drawnTo 39 = .ok (.getfield 24, 3) := by decide +kernel
theorem dX6_drawnTo_42 : decode cX6_drawnTo 42 = .ok (.iload 6, 2) := by decide +kernel
theorem dX6_drawnTo_44 : decode cX6_drawnTo 44 = .ok (.iaload, 1) := by decide +kernel
theorem dX6_drawnTo_45 : decode cX6_drawnTo 45 = .ok (.iload_n 2, 1) := by decide +kernel
theorem dX6_drawnTo_46 : decode cX6_drawnTo 46 = .ok (.if_icmp .ne 19, 3) := by decide +kernel
theorem dX6_drawnTo_49 : decode cX6_drawnTo 49 = .ok (.iload 7, 2) := by decide +kernel
theorem dX6_drawnTo_51 : decode cX6_drawnTo 51 = .ok (.iload 4, 2) := by decide +kernel
theorem dX6_drawnTo_53 : decode cX6_drawnTo 53 = .ok (.iand, 1) := by decide +kernel
theorem dX6_drawnTo_54 : decode cX6_drawnTo 54 = .ok (.ifCond .eq 7, 3) := by decide +kernel
theorem dX6_drawnTo_57 : decode cX6_drawnTo 57 = .ok (.iconst 1, 1) := by decide +kernel
theorem dX6_drawnTo_58 : decode cX6_drawnTo 58 = .ok (.goto 22, 3) := by decide +kernel
theorem dX6_drawnTo_61 : decode cX6_drawnTo 61 = .ok (.iconst 0, 1) := by decide +kernel
theorem dX6_drawnTo_62 : decode cX6_drawnTo 62 = .ok (.goto 18, 3) := by decide +kernel
theorem dX6_drawnTo_65 : decode cX6_drawnTo 65 = .ok (.iload 7, 2) := by decide +kernel
theorem dX6_drawnTo_67 : decode cX6_drawnTo 67 = .ok (.iload 4, 2) := by decide +kernel
theorem dX6_drawnTo_69 : decode cX6_drawnTo 69 = .ok (.iconst (-1), 1) := by decide +kernel
theorem dX6_drawnTo_70 : decode cX6_drawnTo 70 = .ok (.ixor, 1) := by decide +kernel
theorem dX6_drawnTo_71 : decode cX6_drawnTo 71 = .ok (.iand, 1) := by decide +kernel
theorem dX6_drawnTo_72 : decode cX6_drawnTo 72 = .ok (.ifCond .ne 7, 3) := by decide +kernel
theorem dX6_drawnTo_75 : decode cX6_drawnTo 75 = .ok (.iconst 1, 1) := by decide +kernel
theorem dX6_drawnTo_76 : decode cX6_drawnTo 76 = .ok (.goto 4, 3) := by decide +kernel
theorem dX6_drawnTo_79 : decode cX6_drawnTo 79 = .ok (.iconst 0, 1) := by decide +kernel
theorem dX6_drawnTo_80 : decode cX6_drawnTo 80 = .ok (.istore 8, 2) := by decide +kernel
theorem dX6_drawnTo_82 : decode cX6_drawnTo 82 = .ok (.iload_n 3, 1) := by decide +kernel
theorem dX6_drawnTo_83 : decode cX6_drawnTo 83 = .ok (.iload 6, 2) := by decide +kernel
theorem dX6_drawnTo_85 : decode cX6_drawnTo 85 = .ok (.invokestatic 111, 3) := by decide +kernel
theorem dX6_drawnTo_88 : decode cX6_drawnTo 88 = .ok (.ifCond .eq 17, 3) := by decide +kernel
theorem dX6_drawnTo_91 : decode cX6_drawnTo 91 = .ok (.iload 8, 2) := by decide +kernel
theorem dX6_drawnTo_93 : decode cX6_drawnTo 93 = .ok (.ifCond .eq 12, 3) := by decide +kernel
theorem dX6_drawnTo_96 : decode cX6_drawnTo 96 = .ok (.iload 4, 2) := by decide +kernel
theorem dX6_drawnTo_98 : decode cX6_drawnTo 98 = .ok (.iconst 1, 1) := by decide +kernel
theorem dX6_drawnTo_99 : decode cX6_drawnTo 99 = .ok (.iload 6, 2) := by decide +kernel
theorem dX6_drawnTo_101 : decode cX6_drawnTo 101 = .ok (.ishl, 1) := by decide +kernel
theorem dX6_drawnTo_102 : decode cX6_drawnTo 102 = .ok (.ior, 1) := by decide +kernel
theorem dX6_drawnTo_103 : decode cX6_drawnTo 103 = .ok (.istore 4, 2) := by decide +kernel
theorem dX6_drawnTo_105 : decode cX6_drawnTo 105 = .ok (.iinc 6 1, 3) := by decide +kernel
theorem dX6_drawnTo_108 : decode cX6_drawnTo 108 = .ok (.goto (-90), 3) := by decide +kernel
theorem dX6_drawnTo_111 : decode cX6_drawnTo 111 = .ok (.iinc 5 1, 3) := by decide +kernel
theorem dX6_drawnTo_114 : decode cX6_drawnTo 114 = .ok (.goto (-108), 3) := by decide +kernel
theorem dX6_drawnTo_117 : decode cX6_drawnTo 117 = .ok (.iload 4, 2) := by decide +kernel
theorem dX6_drawnTo_119 : decode cX6_drawnTo 119 = .ok (.ireturn, 1) := by decide +kernel
theorem dX6_judgeGame_0 : decode cX6_judgeGame 0 = .ok (.aload_n 0, 1) := by decide +kernel
theorem dX6_judgeGame_1 : decode cX6_judgeGame 1 = .ok (.aload_n 1, 1) := by decide +kernel
theorem dX6_judgeGame_2 : decode cX6_judgeGame 2 = .ok (.invokevirtual 105, 3) := by decide +kernel
theorem dX6_judgeGame_5 : decode cX6_judgeGame 5 = .ok (.aload_n 2, 1) := by decide +kernel
theorem dX6_judgeGame_6 : decode cX6_judgeGame 6 = .ok (.getfield 93, 3) := by decide +kernel
theorem dX6_judgeGame_9 : decode cX6_judgeGame 9 = .ok (.aload_n 0, 1) := by decide +kernel
theorem dX6_judgeGame_10 : decode cX6_judgeGame 10 = .ok (.getfield 43, 3) := by decide +kernel
theorem dX6_judgeGame_13 : decode cX6_judgeGame 13 = .ok (.if_icmp .eq 5, 3) := by decide +kernel
theorem dX6_judgeGame_16 : decode cX6_judgeGame 16 = .ok (.iconst 1, 1) := by decide +kernel
theorem dX6_judgeGame_17 : decode cX6_judgeGame 17 = .ok (.ireturn, 1) := by decide +kernel
theorem dX6_judgeGame_18 : decode cX6_judgeGame 18 = .ok (.iconst 0, 1) := by decide +kernel
theorem dX6_judgeGame_19 : decode cX6_judgeGame 19 = .ok (.istore 4, 2) := by decide +kernel
theorem dX6_judgeGame_21 : decode cX6_judgeGame 21 = .ok (.iload 4, 2) := by decide +kernel
theorem dX6_judgeGame_23 : decode cX6_judgeGame 23 = .ok (.aload_n 0, 1) := by decide +kernel
theorem dX6_judgeGame_24 : decode cX6_judgeGame 24 = .ok (.getfield 43, 3) := by decide +kernel
theorem dX6_judgeGame_27 : decode cX6_judgeGame 27 = .ok (.if_icmp .ge 78, 3) := by decide +kernel
theorem dX6_judgeGame_30 : decode cX6_judgeGame 30 = .ok (.aload_n 2, 1) := by decide +kernel
theorem dX6_judgeGame_31 : decode cX6_judgeGame 31 = .ok (.iload 4, 2) := by decide +kernel
theorem dX6_judgeGame_33 : decode cX6_judgeGame 33 = .ok (.invokevirtual 99, 3) := by decide +kernel
theorem dX6_judgeGame_36 : decode cX6_judgeGame 36 = .ok (.istore 5, 2) := by decide +kernel
theorem dX6_judgeGame_38 : decode cX6_judgeGame 38 = .ok (.aload_n 0, 1) := by decide +kernel
theorem dX6_judgeGame_39 : decode cX6_judgeGame 39 = .ok (.getfield 24, 3) := by decide +kernel
theorem dX6_judgeGame_42 : decode cX6_judgeGame 42 = .ok (.iload 4, 2) := by decide +kernel
theorem dX6_judgeGame_44 : decode cX6_judgeGame 44 = .ok (.iaload, 1) := by decide +kernel
theorem dX6_judgeGame_45 : decode cX6_judgeGame 45 = .ok (.iload_n 3, 1) := by decide +kernel
theorem dX6_judgeGame_46 : decode cX6_judgeGame 46 = .ok (.if_icmp .eq 11, 3) := by decide +kernel
theorem dX6_judgeGame_49 : decode cX6_judgeGame 49 = .ok (.iload 5, 2) := by decide +kernel
theorem dX6_judgeGame_51 : decode cX6_judgeGame 51 = .ok (.iconst (-1), 1) := by decide +kernel
theorem dX6_judgeGame_52 : decode cX6_judgeGame 52 = .ok (.if_icmp .eq 47, 3) := by decide +kernel
theorem dX6_judgeGame_55 : decode cX6_judgeGame 55 = .ok (.iconst 1, 1) := by decide +kernel
theorem dX6_judgeGame_56 : decode cX6_judgeGame 56 = .ok (.ireturn, 1) := by decide +kernel
theorem dX6_judgeGame_57 : decode cX6_judgeGame 57 = .ok (.iload 5, 2) := by decide +kernel
theorem dX6_judgeGame_59 : decode cX6_judgeGame 59 = .ok (.ifCond .lt 27, 3) := by decide +kernel
theorem dX6_judgeGame_62 : decode cX6_judgeGame 62 = .ok (.iload 5, 2) := by decide +kernel
theorem dX6_judgeGame_64 : decode cX6_judgeGame 64 = .ok (.aload_n 0, 1) := by decide +kernel
theorem dX6_judgeGame_65 : decode cX6_judgeGame 65 = .ok (.getfield 43, 3) := by decide +kernel
theorem dX6_judgeGame_68 : decode cX6_judgeGame 68 = .ok (.if_icmp .ge 18, 3) := by decide +kernel
theorem dX6_judgeGame_71 : decode cX6_judgeGame 71 = .ok (.aload_n 0, 1) := by decide +kernel
theorem dX6_judgeGame_72 : decode cX6_judgeGame 72 = .ok (.getfield 30, 3) := by decide +kernel
theorem dX6_judgeGame_75 : decode cX6_judgeGame 75 = .ok (.iload 4, 2) := by decide +kernel
theorem dX6_judgeGame_77 : decode cX6_judgeGame 77 = .ok (.iaload, 1) := by decide +kernel
theorem dX6_judgeGame_78 : decode cX6_judgeGame 78 = .ok (.iload 5, 2) := by decide +kernel
theorem dX6_judgeGame_80 : decode cX6_judgeGame 80 = .ok (.invokestatic 111, 3) := by decide +kernel
theorem dX6_judgeGame_83 : decode cX6_judgeGame 83 = .ok (.ifCond .ne 5, 3) := by decide +kernel
theorem dX6_judgeGame_86 : decode cX6_judgeGame 86 = .ok (.iconst 1, 1) := by decide +kernel
theorem dX6_judgeGame_87 : decode cX6_judgeGame 87 = .ok (.ireturn, 1) := by decide +kernel
theorem dX6_judgeGame_88 : decode cX6_judgeGame 88 = .ok (.aload_n 0, 1) := by decide +kernel
theorem dX6_judgeGame_89 : decode cX6_judgeGame 89 = .ok (.getfield 30, 3) := by decide +kernel
theorem dX6_judgeGame_92 : decode cX6_judgeGame 92 = .ok (.iload 4, 2) := by decide +kernel
theorem dX6_judgeGame_94 : decode cX6_judgeGame 94 = .ok (.iconst 1, 1) := by decide +kernel
theorem dX6_judgeGame_95 : decode cX6_judgeGame 95 = .ok (.iload 5, 2) := by decide +kernel
theorem dX6_judgeGame_97 : decode cX6_judgeGame 97 = .ok (.ishl, 1) := by decide +kernel
theorem dX6_judgeGame_98 : decode cX6_judgeGame 98 = .ok (.iastore, 1) := by decide +kernel
theorem dX6_judgeGame_99 : decode cX6_judgeGame 99 = .ok (.iinc 4 1, 3) := by decide +kernel
theorem dX6_judgeGame_102 : decode cX6_judgeGame 102 = .ok (.goto (-81), 3) := by decide +kernel
theorem dX6_judgeGame_105 : decode cX6_judgeGame 105 = .ok (.aload_n 0, 1) := by decide +kernel
theorem dX6_judgeGame_106 : decode cX6_judgeGame 106 = .ok (.iload_n 3, 1) := by decide +kernel
theorem dX6_judgeGame_107 : decode cX6_judgeGame 107 = .ok (.aload_n 1, 1) := by decide +kernel
theorem dX6_judgeGame_108 : decode cX6_judgeGame 108 = .ok (.invokevirtual 37, 3) := by decide +kernel
theorem dX6_judgeGame_111 : decode cX6_judgeGame 111 = .ok (.invokevirtual 144, 3) := by decide +kernel
theorem dX6_judgeGame_114 : decode cX6_judgeGame 114 = .ok (.ifCond .eq 7, 3) := by decide +kernel
theorem dX6_judgeGame_117 : decode cX6_judgeGame 117 = .ok (.iconst 0, 1) := by decide +kernel
theorem dX6_judgeGame_118 : decode cX6_judgeGame 118 = .ok (.goto 4, 3) := by decide +kernel
theorem dX6_judgeGame_121 : decode cX6_judgeGame 121 = .ok (.iconst 2, 1) := by decide +kernel
theorem dX6_judgeGame_122 : decode cX6_judgeGame 122 = .ok (.ireturn, 1) := by decide +kernel
