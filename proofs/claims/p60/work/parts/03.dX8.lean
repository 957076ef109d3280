theorem dX8_init_0 : decode cX8_init 0 = .ok (.aload_n 0, 1) := by decide +kernel
theorem dX8_init_1 : decode cX8_init 1 = .ok (.invokespecial 3, 3) := by decide +kernel
theorem dX8_init_4 : decode cX8_init 4 = .ok (.aload_n 0, 1) := by decide +kernel
theorem dX8_init_5 : decode cX8_init 5 = .ok (.iconst 4, 1) := by decide +kernel
theorem dX8_init_6 : decode cX8_init 6 = .ok (.newarray .long, 2) := by decide +kernel
theorem dX8_init_8 : decode cX8_init 8 = .ok (.putfield 11, 3) := by decide +kernel
theorem dX8_init_11 : decode cX8_init 11 = .ok (.aload_n 0, 1) := by decide +kernel
theorem dX8_init_12 : decode cX8_init 12 = .ok (.iconst 4, 1) := by decide +kernel
theorem dX8_init_13 : decode cX8_init 13 = .ok (.iconst 4, 1) := by decide +kernel
theorem dX8_init_14 : decode cX8_init 14 = .ok (.multianewarray 15 2, 4) := by decide +kernel
theorem dX8_init_18 : decode cX8_init 18 = .ok (.putfield 17, 3) := by decide +kernel
theorem dX8_init_21 : decode cX8_init 21 = .ok (.aload_n 0, 1) := by decide +kernel
theorem dX8_init_22 : decode cX8_init 22 = .ok (.iconst 4, 1) := by decide +kernel
theorem dX8_init_23 : decode cX8_init 23 = .ok (.newarray .long, 2) := by decide +kernel
theorem dX8_init_25 : decode cX8_init 25 = .ok (.putfield 20, 3) := by decide +kernel
theorem dX8_init_28 : decode cX8_init 28 = .ok (.aload_n 0, 1) := by decide +kernel
theorem dX8_init_29 : decode cX8_init 29 = .ok (.iconst 5, 1) := by decide +kernel
theorem dX8_init_30 : decode cX8_init 30 = .ok (.iconst 4, 1) := by decide +kernel
theorem dX8_init_31 : decode cX8_init 31 = .ok (.multianewarray 15 2, 4) := by decide +kernel
theorem dX8_init_35 : decode cX8_init 35 = .ok (.putfield 23, 3) := by decide +kernel
theorem dX8_init_38 : decode cX8_init 38 = .ok (.aload_n 0, 1) := by decide +kernel
theorem dX8_init_39 : decode cX8_init 39 = .ok (.iconst 5, 1) := by decide +kernel
theorem dX8_init_40 : decode cX8_init 40 = .ok (.newarray .int, 2) := by decide +kernel
theorem dX8_init_42 : decode cX8_init 42 = .ok (.putfield 26, 3) := by decide +kernel
theorem dX8_init_45 : decode cX8_init 45 = .ok (.aload_n 0, 1) := by decide +kernel
theorem dX8_init_46 : decode cX8_init 46 = .ok (.iconst 4, 1) := by decide +kernel
theorem dX8_init_47 : decode cX8_init 47 = .ok (.newarray .long, 2) := by decide +kernel
theorem dX8_init_49 : decode cX8_init 49 = .ok (.putfield 30, 3) := by decide +kernel
theorem dX8_init_52 : decode cX8_init 52 = .ok (.aload_n 0, 1) := by decide +kernel
theorem dX8_init_53 : decode cX8_init 53 = .ok (.iconst 4, 1) := by decide +kernel
theorem dX8_init_54 : decode cX8_init 54 = .ok (.newarray .long, 2) := by decide +kernel
theorem dX8_init_56 : decode cX8_init 56 = .ok (.putfield 33, 3) := by decide +kernel
theorem dX8_init_59 : decode cX8_init 59 = .ok (.return_, 1) := by decide +kernel
theorem dX8_solveEquations_0 : decode cX8_solveEquations 0 = .ok (.aload_n 0, 1) := by decide +kernel
theorem dX8_solveEquations_1 : decode cX8_solveEquations 1 = .ok (.aload_n 1, 1) := by decide +kernel
theorem dX8_solveEquations_2 : decode cX8_solveEquations 2 = .ok (.invokevirtual 36, 3) := by decide +kernel
theorem dX8_solveEquations_5 : decode cX8_solveEquations 5 = .ok (.ifCond .eq 63, 3) := by decide +kernel
theorem dX8_solveEquations_8 : decode cX8_solveEquations 8 = .ok (.aload_n 1, 1) := by decide +kernel
theorem dX8_solveEquations_9 : decode cX8_solveEquations 9 = .ok (.iconst 1, 1) := by decide +kernel
theorem dX8_solveEquations_10 : decode cX8_solveEquations 10 = .ok (.iconst 0, 1) := by decide +kernel
theorem dX8_solveEquations_11 : decode cX8_solveEquations 11 = .ok (.invokevirtual 40, 3) := by decide +kernel
theorem dX8_solveEquations_14 : decode cX8_solveEquations 14 = .ok (.iconst 0, 1) := by decide +kernel
theorem dX8_solveEquations_15 : decode cX8_solveEquations 15 = .ok (.istore_n 2, 1) := by decide +kernel
theorem dX8_solveEquations_16 : decode cX8_solveEquations 16 = .ok (.iload_n 2, 1) := by decide +kernel
theorem dX8_solveEquations_17 : decode cX8_solveEquations 17 = .ok (.aload_n 1, 1) := by decide +kernel
theorem dX8_solveEquations_18 : decode cX8_solveEquations 18 = .ok (.getfield 46, 3) := by decide +kernel
theorem dX8_solveEquations_21 : decode cX8_solveEquations 21 = .ok (.if_icmp .ge 14, 3) := by decide +kernel
theorem dX8_solveEquations_24 : decode cX8_solveEquations 24 = .ok (.aload_n 0, 1) := by decide +kernel
theorem dX8_solveEquations_25 : decode cX8_solveEquations 25 = .ok (.iload_n 2, 1) := by decide +kernel
theorem dX8_solveEquations_26 : decode cX8_solveEquations 26 = .ok (.invokevirtual 50, 3) := by decide +kernel
theorem dX8_solveEquations_29 : decode cX8_solveEquations 29 = .ok (.iinc 2 1, 3) := by decide +kernel
theorem dX8_solveEquations_32 : decode cX8_solveEquations 32 = .ok (.goto (-16), 3) := by decide +kernel
theorem dX8_solveEquations_35 : decode cX8_solveEquations 35 = .ok (.iconst 0, 1) := by decide +kernel
theorem dX8_solveEquations_36 : decode cX8_solveEquations 36 = .ok (.istore_n 2, 1) := by decide +kernel
theorem dX8_solveEquations_37 : decode cX8_solveEquations 37 = .ok (.iload_n 2, 1) := by decide +kernel
theorem dX8_solveEquations_38 : decode cX8_solveEquations 38 = .ok (.aload_n 1, 1) := by decide +kernel
theorem dX8_solveEquations_39 : decode cX8_solveEquations 39 = .ok (.getfield 46, 3) := by decide +kernel
theorem dX8_solveEquations_42 : decode cX8_solveEquations 42 = .ok (.if_icmp .ge 23, 3) := by decide +kernel
theorem dX8_solveEquations_45 : decode cX8_solveEquations 45 = .ok (.aload_n 1, 1) := by decide +kernel
theorem dX8_solveEquations_46 : decode cX8_solveEquations 46 = .ok (.getfield 54, 3) := by decide +kernel
theorem dX8_solveEquations_49 : decode cX8_solveEquations 49 = .ok (.aload_n 0, 1) := by decide +kernel
theorem dX8_solveEquations_50 : decode cX8_solveEquations 50 = .ok (.getfield 11, 3) := by decide +kernel
theorem dX8_solveEquations_53 : decode cX8_solveEquations 53 = .ok (.iload_n 2, 1) := by decide +kernel
theorem dX8_solveEquations_54 : decode cX8_solveEquations 54 = .ok (.laload, 1) := by decide +kernel
theorem dX8_solveEquations_55 : decode cX8_solveEquations 55 = .ok (.l2i, 1) := by decide +kernel
theorem dX8_solveEquations_56 : decode cX8_solveEquations 56 = .ok (.invokevirtual 58, 3) := by decide +kernel
theorem dX8_solveEquations_59 : decode cX8_solveEquations 59 = .ok (.iinc 2 1, 3) := by decide +kernel
theorem dX8_solveEquations_62 : decode cX8_solveEquations 62 = .ok (.goto (-25), 3) := by decide +kernel
theorem dX8_solveEquations_65 : decode cX8_solveEquations 65 = .ok (.goto 20, 3) := by decide +kernel
theorem dX8_solveEquations_68 : decode cX8_solveEquations 68 = .ok (.aload_n 1, 1) := by decide +kernel
theorem dX8_solveEquations_69 : decode cX8_solveEquations 69 = .ok (.invokestatic 63, 3) := by decide +kernel
theorem dX8_solveEquations_72 : decode cX8_solveEquations 72 = .ok (.aload_n 1, 1) := by decide +kernel
theorem dX8_solveEquations_73 : decode cX8_solveEquations 73 = .ok (.iconst 0, 1) := by decide +kernel
theorem dX8_solveEquations_74 : decode cX8_solveEquations 74 = .ok (.aload_n 1, 1) := by decide +kernel
theorem dX8_solveEquations_75 : decode cX8_solveEquations 75 = .ok (.getfield 54, 3) := by decide +kernel
theorem dX8_solveEquations_78 : decode cX8_solveEquations 78 = .ok (.iconst 0, 1) := by decide +kernel
theorem dX8_solveEquations_79 : decode cX8_solveEquations 79 = .ok (.invokevirtual 67, 3) := by decide +kernel
theorem dX8_solveEquations_82 : decode cX8_solveEquations 82 = .ok (.invokevirtual 40, 3) := by decide +kernel
theorem dX8_solveEquations_85 : decode cX8_solveEquations 85 = .ok (.return_, 1) := by decide +kernel
theorem dX8_rightSide_0 : decode cX8_rightSide 0 = .ok (.iload_n 1, 1) := by decide +kernel
theorem dX8_rightSide_1 : decode cX8_rightSide 1 = .ok (.aload_n 0, 1) := by decide +kernel
theorem dX8_rightSide_2 : decode cX8_rightSide 2 = .ok (.getfield 71, 3) := by decide +kernel
theorem dX8_rightSide_5 : decode cX8_rightSide 5 = .ok (.iconst 1, 1) := by decide +kernel
theorem dX8_rightSide_6 : decode cX8_rightSide 6 = .ok (.isub, 1) := by decide +kernel
theorem dX8_rightSide_7 : decode cX8_rightSide 7 = .ok (.if_icmp .ne 10, 3) := by decide +kernel
theorem dX8_rightSide_10 : decode cX8_rightSide 10 = .ok (.aload_n 0, 1) := by decide +kernel
theorem dX8_rightSide_11 : decode cX8_rightSide 11 = .ok (.getfield 74, 3) := by decide +kernel
theorem dX8_rightSide_14 : decode cX8_rightSide 14 = .ok (.goto 9, 3) := by decide +kernel
theorem dX8_rightSide_17 : decode cX8_rightSide 17 = .ok (.aload_n 0, 1) := by decide +kernel
theorem dX8_rightSide_18 : decode cX8_rightSide 18 = .ok (.iload_n 1, 1) := by decide +kernel
theorem dX8_rightSide_19 : decode cX8_rightSide 19 = .ok (.iconst 4, 1) := by decide +kernel
theorem dX8_rightSide_20 : decode cX8_rightSide 20 = .ok (.invokevirtual 77, 3) := by decide +kernel
theorem dX8_rightSide_23 : decode cX8_rightSide 23 = .ok (.ireturn, 1) := by decide +kernel
theorem dX8_findPoint_0 : decode cX8_findPoint 0 = .ok (.aload_n 0, 1) := by decide +kernel
theorem dX8_findPoint_1 : decode cX8_findPoint 1 = .ok (.aload_n 1, 1) := by decide +kernel
theorem dX8_findPoint_2 : decode cX8_findPoint 2 = .ok (.getfield 46, 3) := by decide +kernel
theorem dX8_findPoint_5 : decode cX8_findPoint 5 = .ok (.putfield 80, 3) := by decide +kernel
theorem dX8_findPoint_8 : decode cX8_findPoint 8 = .ok (.aload_n 0, 1) := by decide +kernel
theorem dX8_findPoint_9 : decode cX8_findPoint 9 = .ok (.getfield 11, 3) := by decide +kernel
theorem dX8_findPoint_12 : decode cX8_findPoint 12 = .ok (.lconst 0, 1) := by decide +kernel
theorem dX8_findPoint_13 : decode cX8_findPoint 13 = .ok (.invokestatic 83, 3) := by decide +kernel
theorem dX8_findPoint_16 : decode cX8_findPoint 16 = .ok (.iconst 0, 1) := by decide +kernel
theorem dX8_findPoint_17 : decode cX8_findPoint 17 = .ok (.istore_n 2, 1) := by decide +kernel
theorem dX8_findPoint_18 : decode cX8_findPoint 18 = .ok (.iload_n 2, 1) := by decide +kernel
theorem dX8_findPoint_19 : decode cX8_findPoint 19 = .ok (.iconst 4, 1) := by decide +kernel
theorem dX8_findPoint_20 : decode cX8_findPoint 20 = .ok (.if_icmp .ge 28, 3) := by decide +kernel
theorem dX8_findPoint_23 : decode cX8_findPoint 23 = .ok (.aload_n 0, 1) := by decide +kernel
theorem dX8_findPoint_24 : decode cX8_findPoint 24 = .ok (.getfield 17, 3) := by decide +kernel
theorem dX8_findPoint_27 : decode cX8_findPoint 27 = .ok (.iload_n 2, 1) := by decide +kernel
theorem dX8_findPoint_28 : decode cX8_findPoint 28 = .ok (.aaload, 1) := by decide +kernel
theorem dX8_findPoint_29 : decode cX8_findPoint 29 = .ok (.lconst 0, 1) := by decide +kernel
theorem dX8_findPoint_30 : decode cX8_findPoint 30 = .ok (.invokestatic 83, 3) := by decide +kernel
theorem dX8_findPoint_33 : decode cX8_findPoint 33 = .ok (.aload_n 0, 1) := by decide +kernel
theorem dX8_findPoint_34 : decode cX8_findPoint 34 = .ok (.getfield 17, 3) := by decide +kernel
theorem dX8_findPoint_37 : decode cX8_findPoint 37 = .ok (.iload_n 2, 1) := by decide +kernel
theorem dX8_findPoint_38 : decode cX8_findPoint 38 = .ok (.aaload, 1) := by decide +kernel
theorem dX8_findPoint_39 : decode cX8_findPoint 39 = .ok (.iload_n 2, 1) := by decide +kernel
theorem dX8_findPoint_40 : decode cX8_findPoint 40 = .ok (.lconst 1, 1) := by decide +kernel
theorem dX8_findPoint_41 : decode cX8_findPoint 41 = .ok (.lastore, 1) := by decide +kernel
theorem dX8_findPoint_42 : decode cX8_findPoint 42 = .ok (.iinc 2 1, 3) := by decide +kernel
theorem dX8_findPoint_45 : decode cX8_findPoint 45 = .ok (.goto (-27), 3) := by decide +kernel
theorem dX8_findPoint_48 : decode cX8_findPoint 48 = .ok (.iconst 0, 1) := by decide +kernel
theorem dX8_findPoint_49 : decode cX8_findPoint 49 = .ok (.istore_n 2, 1) := by decide +kernel
theorem dX8_findPoint_50 : decode cX8_findPoint 50 = .ok (.iload_n 2, 1) := by decide +kernel
theorem dX8_findPoint_51 : decode cX8_findPoint 51 = .ok (.aload_n 1, 1) := by decide +kernel
theorem dX8_findPoint_52 : decode cX8_findPoint 52 = .ok (.getfield 71, 3) := by decide +kernel
theorem dX8_findPoint_55 : decode cX8_findPoint 55 = .ok (.if_icmp .ge 20, 3) := by decide +kernel
theorem dX8_findPoint_58 : decode cX8_findPoint 58 = .ok (.aload_n 0, 1) := by decide +kernel
theorem dX8_findPoint_59 : decode cX8_findPoint 59 = .ok (.aload_n 1, 1) := by decide +kernel
theorem dX8_findPoint_60 : decode cX8_findPoint 60 = .ok (.iload_n 2, 1) := by decide +kernel
theorem dX8_findPoint_61 : decode cX8_findPoint 61 = .ok (.invokevirtual 89, 3) := by decide +kernel
theorem dX8_findPoint_64 : decode cX8_findPoint 64 = .ok (.ifCond .ne 5, 3) := by decide +kernel
theorem dX8_findPoint_67 : decode cX8_findPoint 67 = .ok (.iconst 0, 1) := by decide +kernel
theorem dX8_findPoint_68 : decode cX8_findPoint 68 = .ok (.ireturn, 1) := by decide +kernel
theorem dX8_findPoint_69 : decode cX8_findPoint 69 = .ok (.iinc 2 1, 3) := by decide +kernel
theorem dX8_findPoint_72 : decode cX8_findPoint 72 = .ok (.goto (-22), 3) := by decide +kernel
theorem dX8_findPoint_75 : decode cX8_findPoint 75 = .ok (.iconst 1, 1) := by decide +kernel
theorem dX8_findPoint_76 : decode cX8_findPoint 76 = .ok (.ireturn, 1) := by decide +kernel
theorem dX8_fulfilItem_0 : decode cX8_fulfilItem 0 = .ok (.aload_n 1, 1) := by decide +kernel
theorem dX8_fulfilItem_1 : decode cX8_fulfilItem 1 = .ok (.iload_n 2, 1) := by decide +kernel
theorem dX8_fulfilItem_2 : decode cX8_fulfilItem 2 = .ok (.invokestatic 93, 3) := by decide +kernel
theorem dX8_fulfilItem_5 : decode cX8_fulfilItem 5 = .ok (.i2l, 1) := by decide +kernel
theorem dX8_fulfilItem_6 : decode cX8_fulfilItem 6 = .ok (.lstore_n 3, 1) := by decide +kernel
theorem dX8_fulfilItem_7 : decode cX8_fulfilItem 7 = .ok (.iconst 0, 1) := by decide +kernel
theorem dX8_fulfilItem_8 : decode cX8_fulfilItem 8 = .ok (.istore 5, 2) := by decide +kernel
theorem dX8_fulfilItem_10 : decode cX8_fulfilItem 10 = .ok (.iload 5, 2) := by decide +kernel
theorem dX8_fulfilItem_12 : decode cX8_fulfilItem 12 = .ok (.aload_n 1, 1) := by decide +kernel
theorem dX8_fulfilItem_13 : decode cX8_fulfilItem 13 = .ok (.getfield 46, 3) := by decide +kernel
theorem dX8_fulfilItem_16 : decode cX8_fulfilItem 16 = .ok (.if_icmp .ge 28, 3) := by decide +kernel
theorem dX8_fulfilItem_19 : decode cX8_fulfilItem 19 = .ok (.lload_n 3, 1) := by decide +kernel
theorem dX8_fulfilItem_20 : decode cX8_fulfilItem 20 = .ok (.aload_n 1, 1) := by decide +kernel
theorem dX8_fulfilItem_21 : decode cX8_fulfilItem 21 = .ok (.iload_n 2, 1) := by decide +kernel
theorem dX8_fulfilItem_22 : decode cX8_fulfilItem 22 = .ok (.iload 5, 2) := by decide +kernel
theorem dX8_fulfilItem_24 : decode cX8_fulfilItem 24 = .ok (.invokevirtual 77, 3) := by decide +kernel
theorem dX8_fulfilItem_27 : decode cX8_fulfilItem 27 = .ok (.i2l, 1) := by decide +kernel
theorem dX8_fulfilItem_28 : decode cX8_fulfilItem 28 = .ok (.aload_n 0, 1) := by decide +kernel
theorem dX8_fulfilItem_29 : decode cX8_fulfilItem 29 = .ok (.getfield 11, 3) := by decide +kernel
theorem dX8_fulfilItem_32 : decode cX8_fulfilItem 32 = .ok (.iload 5, 2) := by decide +kernel
theorem dX8_fulfilItem_34 : decode cX8_fulfilItem 34 = .ok (.laload, 1) := by decide +kernel
theorem dX8_fulfilItem_35 : decode cX8_fulfilItem 35 = .ok (.lmul, 1) := by decide +kernel
theorem dX8_fulfilItem_36 : decode cX8_fulfilItem 36 = .ok (.lsub, 1) := by decide +kernel
theorem dX8_fulfilItem_37 : decode cX8_fulfilItem 37 = .ok (.lstore_n 3, 1) := by decide +kernel
theorem dX8_fulfilItem_38 : decode cX8_fulfilItem 38 = .ok (.iinc 5 1, 3) := by decide +kernel
theorem dX8_fulfilItem_41 : decode cX8_fulfilItem 41 = .ok (.goto (-31), 3) := by decide +kernel
theorem dX8_fulfilItem_44 : decode cX8_fulfilItem 44 = .ok (.iconst 0, 1) := by decide +kernel
theorem dX8_fulfilItem_45 : decode cX8_fulfilItem 45 = .ok (.istore 5, 2) := by decide +kernel
theorem dX8_fulfilItem_47 : decode cX8_fulfilItem 47 = .ok (.iload 5, 2) := by decide +kernel
theorem dX8_fulfilItem_49 : decode cX8_fulfilItem 49 = .ok (.aload_n 0, 1) := by decide +kernel
theorem dX8_fulfilItem_50 : decode cX8_fulfilItem 50 = .ok (.getfield 80, 3) := by decide +kernel
theorem dX8_fulfilItem_53 : decode cX8_fulfilItem 53 = .ok (.if_icmp .ge 64, 3) := by decide +kernel
theorem dX8_fulfilItem_56 : decode cX8_fulfilItem 56 = .ok (.aload_n 0, 1) := by decide +kernel
theorem dX8_fulfilItem_57 : decode cX8_fulfilItem 57 = .ok (.getfield 20, 3) := by decide +kernel
theorem dX8_fulfilItem_60 : decode cX8_fulfilItem 60 = .ok (.iload 5, 2) := by decide +kernel
theorem dX8_fulfilItem_62 : decode cX8_fulfilItem 62 = .ok (.lconst 0, 1) := by decide +kernel
theorem dX8_fulfilItem_63 : decode cX8_fulfilItem 63 = .ok (.lastore, 1) := by decide +kernel
theorem dX8_fulfilItem_64 : decode cX8_fulfilItem 64 = .ok (.iconst 0, 1) := by decide +kernel
theorem dX8_fulfilItem_65 : decode cX8_fulfilItem 65 = .ok (.istore 6, 2) := by decide +kernel
theorem dX8_fulfilItem_67 : decode cX8_fulfilItem 67 = .ok (.iload 6, 2) := by decide +kernel
theorem dX8_fulfilItem_69 : decode cX8_fulfilItem 69 = .ok (.aload_n 1, 1) := by decide +kernel
theorem dX8_fulfilItem_70 : decode cX8_fulfilItem 70 = .ok (.getfield 46, 3) := by decide +kernel
theorem dX8_fulfilItem_73 : decode cX8_fulfilItem 73 = .ok (.if_icmp .ge 38, 3) := by decide +kernel
theorem dX8_fulfilItem_76 : decode cX8_fulfilItem 76 = .ok (.aload_n 0, 1) := by decide +kernel
theorem dX8_fulfilItem_77 : decode cX8_fulfilItem 77 = .ok (.getfield 20, 3) := by decide +kernel
theorem dX8_fulfilItem_80 : decode cX8_fulfilItem 80 = .ok (.iload 5, 2) := by decide +kernel
theorem dX8_fulfilItem_82 : decode cX8_fulfilItem 82 = .ok (.dup2, 1) := by decide +kernel
theorem dX8_fulfilItem_83 : decode cX8_fulfilItem 83 = .ok (.laload, 1) := by decide +kernel
theorem dX8_fulfilItem_84 : decode cX8_fulfilItem 84 = .ok (.aload_n 1, 1) := by decide +kernel
theorem dX8_fulfilItem_85 : decode cX8_fulfilItem 85 = .ok (.iload_n 2, 1) := by decide +kernel
theorem dX8_fulfilItem_86 : decode cX8_fulfilItem 86 = .ok (.iload 6, 2) := by decide +kernel
theorem dX8_fulfilItem_88 : decode cX8_fulfilItem 88 = .ok (.invokevirtual 77, 3) := by decide +kernel
theorem dX8_fulfilItem_91 : decode cX8_fulfilItem 91 = .ok (.i2l, 1) := by decide +kernel
theorem dX8_fulfilItem_92 : decode cX8_fulfilItem 92 = .ok (.aload_n 0, 1) := by decide +kernel
theorem dX8_fulfilItem_93 : decode cX8_fulfilItem 93 = .ok (.getfield 17, 3) := by decide +kernel
theorem dX8_fulfilItem_96 : decode cX8_fulfilItem 96 = .ok (.iload 5, 2) := by decide +kernel
theorem dX8_fulfilItem_98 : decode cX8_fulfilItem 98 = .ok (.aaload, 1) := by decide +kernel
theorem dX8_fulfilItem_99 : decode cX8_fulfilItem 99 = .ok (.iload 6, 2) := by decide +kernel
theorem dX8_fulfilItem_101 : decode cX8_fulfilItem 101 = .ok (.laload, 1) := by decide +kernel
theorem dX8_fulfilItem_102 : decode cX8_fulfilItem 102 = .ok (.lmul, 1) := by decide +kernel
theorem dX8_fulfilItem_103 : decode cX8_fulfilItem 103 = .ok (.ladd, 1) := by decide +kernel
theorem dX8_fulfilItem_104 : decode cX8_fulfilItem 104 = .ok (.lastore, 1) := by decide +kernel
theorem dX8_fulfilItem_105 : decode cX8_fulfilItem 105 = .ok (.iinc 6 1, 3) := by decide +kernel
theorem dX8_fulfilItem_108 : decode cX8_fulfilItem 108 = .ok (.goto (-41), 3) := by decide +kernel
theorem dX8_fulfilItem_111 : decode cX8_fulfilItem 111 = .ok (.iinc 5 1, 3) := by decide +kernel
theorem dX8_fulfilItem_114 : decode cX8_fulfilItem 114 = .ok (.goto (-67), 3) := by decide +kernel
theorem dX8_fulfilItem_117 : decode cX8_fulfilItem 117 = .ok (.aload_n 0, 1) := by decide +kernel
theorem dX8_fulfilItem_118 : decode cX8_fulfilItem 118 = .ok (.invokevirtual 97, 3) := by decide +kernel
theorem dX8_fulfilItem_121 : decode cX8_fulfilItem 121 = .ok (.istore 5, 2) := by decide +kernel
theorem dX8_fulfilItem_123 : decode cX8_fulfilItem 123 = .ok (.iload 5, 2) := by decide +kernel
theorem dX8_fulfilItem_125 : decode cX8_fulfilItem 125 = .ok (.ifCond .lt 15, 3) := by decide +kernel
theorem dX8_fulfilItem_128 : decode cX8_fulfilItem 128 = .ok (.aload_n 0, 1) := by decide +kernel
theorem dX8_fulfilItem_129 : decode cX8_fulfilItem 129 = .ok (.getfield 20, 3) := by decide +kernel
theorem dX8_fulfilItem_132 : decode cX8_fulfilItem 132 = .ok (.iload 5, 2) := by decide +kernel
theorem dX8_fulfilItem_134 : decode cX8_fulfilItem 134 = .ok (.laload, 1) := by decide +kernel
theorem dX8_fulfilItem_135 : decode cX8_fulfilItem 135 = .ok (.lconst 0, 1) := by decide +kernel
theorem dX8_fulfilItem_136 : decode cX8_fulfilItem 136 = .ok (.lcmp, 1) := by decide +kernel
theorem dX8_fulfilItem_137 : decode cX8_fulfilItem 137 = .ok (.ifCond .ne 15, 3) := by decide +kernel
theorem dX8_fulfilItem_140 : decode cX8_fulfilItem 140 = .ok (.lload_n 3, 1) := by decide +kernel
theorem dX8_fulfilItem_141 : decode cX8_fulfilItem 141 = .ok (.lconst 0, 1) := by decide +kernel
theorem dX8_fulfilItem_142 : decode cX8_fulfilItem 142 = .ok (.lcmp, 1) := by decide +kernel
theorem dX8_fulfilItem_143 : decode cX8_fulfilItem 143 = .ok (.ifCond .ne 7, 3) := by decide +kernel
theorem dX8_fulfilItem_146 : decode cX8_fulfilItem 146 = .ok (.iconst 1, 1) := by decide +kernel
theorem dX8_fulfilItem_147 : decode cX8_fulfilItem 147 = .ok (.goto 4, 3) := by decide +kernel
theorem dX8_fulfilItem_150 : decode cX8_fulfilItem 150 = .ok (.iconst 0, 1) := by decide +kernel
theorem dX8_fulfilItem_151 : decode cX8_fulfilItem 151 = .ok (.ireturn, 1) := by decide +kernel
theorem dX8_fulfilItem_152 : decode cX8_fulfilItem 152 = .ok (.lload_n 3, 1) := by decide +kernel
theorem dX8_fulfilItem_153 : decode cX8_fulfilItem 153 = .ok (.aload_n 0, 1) := by decide +kernel
theorem dX8_fulfilItem_154 : decode cX8_fulfilItem 154 = .ok (.getfield 20, 3) := by decide +kernel
theorem dX8_fulfilItem_157 : decode cX8_fulfilItem 157 = .ok (.iload 5, 2) := by decide +kernel
theorem dX8_fulfilItem_159 : decode cX8_fulfilItem 159 = .ok (.laload, 1) := by decide +kernel
theorem dX8_fulfilItem_160 : decode cX8_fulfilItem 160 = .ok (.lrem, 1) := by decide +kernel
theorem dX8_fulfilItem_161 : decode cX8_fulfilItem 161 = .ok (.lconst 0, 1) := by decide +kernel
theorem dX8_fulfilItem_162 : decode cX8_fulfilItem 162 = .ok (.lcmp, 1) := by decide +kernel
theorem dX8_fulfilItem_163 : decode cX8_fulfilItem 163 = .ok (.ifCond .eq 5, 3) := by decide +kernel
theorem dX8_fulfilItem_166 : decode cX8_fulfilItem 166 = .ok (.iconst 0, 1) := by decide +kernel
theorem dX8_fulfilItem_167 : decode cX8_fulfilItem 167 = .ok (.ireturn, 1) := by decide +kernel
theorem dX8_fulfilItem_168 : decode cX8_fulfilItem 168 = .ok (.aload_n 0, 1) := by decide +kernel
theorem dX8_fulfilItem_169 : decode cX8_fulfilItem 169 = .ok (.iload 5, 2) := by decide +kernel
theorem dX8_fulfilItem_171 : decode cX8_fulfilItem 171 = .ok (.lload_n 3, 1) := by decide +kernel
theorem dX8_fulfilItem_172 : decode cX8_fulfilItem 172 = .ok (.aload_n 0, 1) := by decide +kernel
theorem dX8_fulfilItem_173 : decode cX8_fulfilItem 173 = .ok (.getfield 20, 3) := by decide +kernel
theorem dX8_fulfilItem_176 : decode cX8_fulfilItem 176 = .ok (.iload 5, 2) := by decide +kernel
theorem dX8_fulfilItem_178 : decode cX8_fulfilItem 178 = .ok (.laload, 1) := by decide +kernel
theorem dX8_fulfilItem_179 : decode cX8_fulfilItem 179 = .ok (.ldiv, 1) := by decide +kernel
theorem dX8_fulfilItem_180 : decode cX8_fulfilItem 180 = .ok (.invokevirtual 101, 3) := by decide +kernel
theorem dX8_fulfilItem_183 : decode cX8_fulfilItem 183 = .ok (.aload_n 0, 1) := by decide +kernel
theorem dX8_fulfilItem_184 : decode cX8_fulfilItem 184 = .ok (.iload 5, 2) := by decide +kernel
theorem dX8_fulfilItem_186 : decode cX8_fulfilItem 186 = .ok (.invokevirtual 105, 3) := by decide +kernel
theorem dX8_fulfilItem_189 : decode cX8_fulfilItem 189 = .ok (.iconst 1, 1) := by decide +kernel
theorem dX8_fulfilItem_190 : decode cX8_fulfilItem 190 = .ok (.ireturn, 1) := by decide +kernel
theorem dX8_gather_0 : decode cX8_gather 0 = .ok (.iconst 0, 1) := by decide +kernel
theorem dX8_gather_1 : decode cX8_gather 1 = .ok (.istore_n 1, 1) := by decide +kernel
theorem dX8_gather_2 : decode cX8_gather 2 = .ok (.iload_n 1, 1) := by decide +kernel
theorem dX8_gather_3 : decode cX8_gather 3 = .ok (.sipush 1000, 3) := by decide +kernel
theorem dX8_gather_6 : decode cX8_gather 6 = .ok (.if_icmp .ge 88, 3) := by decide +kernel
theorem dX8_gather_9 : decode cX8_gather 9 = .ok (.iconst (-1), 1) := by decide +kernel
theorem dX8_gather_10 : decode cX8_gather 10 = .ok (.istore_n 2, 1) := by decide +kernel
theorem dX8_gather_11 : decode cX8_gather 11 = .ok (.iconst 0, 1) := by decide +kernel
theorem dX8_gather_12 : decode cX8_gather 12 = .ok (.istore_n 3, 1) := by decide +kernel
theorem dX8_gather_13 : decode cX8_gather 13 = .ok (.iconst 0, 1) := by decide +kernel
theorem dX8_gather_14 : decode cX8_gather 14 = .ok (.istore 4, 2) := by decide +kernel
theorem dX8_gather_16 : decode cX8_gather 16 = .ok (.iload 4, 2) := by decide +kernel
theorem dX8_gather_18 : decode cX8_gather 18 = .ok (.aload_n 0, 1) := by decide +kernel
theorem dX8_gather_19 : decode cX8_gather 19 = .ok (.getfield 80, 3) := by decide +kernel
theorem dX8_gather_22 : decode cX8_gather 22 = .ok (.if_icmp .ge 54, 3) := by decide +kernel
theorem dX8_gather_25 : decode cX8_gather 25 = .ok (.aload_n 0, 1) := by decide +kernel
theorem dX8_gather_26 : decode cX8_gather 26 = .ok (.getfield 20, 3) := by decide +kernel
theorem dX8_gather_29 : decode cX8_gather 29 = .ok (.iload 4, 2) := by decide +kernel
theorem dX8_gather_31 : decode cX8_gather 31 = .ok (.laload, 1) := by decide +kernel
theorem dX8_gather_32 : decode cX8_gather 32 = .ok (.lconst 0, 1) := by decide +kernel
theorem dX8_gather_33 : decode cX8_gather 33 = .ok (.lcmp, 1) := by decide +kernel
theorem dX8_gather_34 : decode cX8_gather 34 = .ok (.ifCond .eq 36, 3) := by decide +kernel
theorem dX8_gather_37 : decode cX8_gather 37 = .ok (.iinc 3 1, 3) := by decide +kernel
theorem dX8_gather_40 : decode cX8_gather 40 = .ok (.iload_n 2, 1) := by decide +kernel
theorem dX8_gather_41 : decode cX8_gather 41 = .ok (.ifCond .lt 26, 3) := by decide +kernel
theorem dX8_gather_44 : decode cX8_gather 44 = .ok (.aload_n 0, 1) := by decide +kernel
theorem dX8_gather_45 : decode cX8_gather 45 = .ok (.getfield 20, 3) := by decide +kernel
theorem dX8_gather_48 : decode cX8_gather 48 = .ok (.iload 4, 2) := by decide +kernel
theorem dX8_gather_50 : decode cX8_gather 50 = .ok (.laload, 1) := by decide +kernel
theorem dX8_gather_51 : decode cX8_gather 51 = .ok (.invokestatic 108, 3) := by decide +kernel
theorem dX8_gather_54 : decode cX8_gather 54 = .ok (.aload_n 0, 1) := by decide +kernel
theorem dX8_gather_55 : decode cX8_gather 55 = .ok (.getfield 20, 3) := by decide +kernel
theorem dX8_gather_58 : decode cX8_gather 58 = .ok (.iload_n 2, 1) := by decide +kernel
theorem dX8_gather_59 : decode cX8_gather 59 = .ok (.laload, 1) := by decide +kernel
theorem dX8_gather_60 : decode cX8_gather 60 = .ok (.invokestatic 108, 3) := by decide +kernel
theorem dX8_gather_63 : decode cX8_gather 63 = .ok (.lcmp, 1) := by decide +kernel
theorem dX8_gather_64 : decode cX8_gather 64 = .ok (.ifCond .ge 6, 3) := by decide +kernel
theorem dX8_gather_67 : decode cX8_gather 67 = .ok (.iload 4, 2) := by decide +kernel
theorem dX8_gather_69 : decode cX8_gather 69 = .ok (.istore_n 2, 1) := by decide +kernel
theorem dX8_gather_70 : decode cX8_gather 70 = .ok (.iinc 4 1, 3) := by decide +kernel
theorem dX8_gather_73 : decode cX8_gather 73 = .ok (.goto (-57), 3) := by decide +kernel
theorem dX8_gather_76 : decode cX8_gather 76 = .ok (.iload_n 3, 1) := by decide +kernel
theorem dX8_gather_77 : decode cX8_gather 77 = .ok (.iconst 1, 1) := by decide +kernel
theorem dX8_gather_78 : decode cX8_gather 78 = .ok (.if_icmp .gt 5, 3) := by decide +kernel
theorem dX8_gather_81 : decode cX8_gather 81 = .ok (.iload_n 2, 1) := by decide +kernel
theorem dX8_gather_82 : decode cX8_gather 82 = .ok (.ireturn, 1) := by decide +kernel
theorem dX8_gather_83 : decode cX8_gather 83 = .ok (.aload_n 0, 1) := by decide +kernel
theorem dX8_gather_84 : decode cX8_gather 84 = .ok (.iload_n 2, 1) := by decide +kernel
theorem dX8_gather_85 : decode cX8_gather 85 = .ok (.invokevirtual 114, 3) := by decide +kernel
theorem dX8_gather_88 : decode cX8_gather 88 = .ok (.iinc 1 1, 3) := by decide +kernel
theorem dX8_gather_91 : decode cX8_gather 91 = .ok (.goto (-89), 3) := by decide +kernel
theorem dX8_gather_94 : decode cX8_gather 94 = .ok (.iconst (-1), 1) := by decide +kernel
theorem dX8_gather_95 : decode cX8_gather 95 = .ok (.ireturn, 1) := by decide +kernel
theorem dX8_takeFromOthers_0 : decode cX8_takeFromOthers 0 = .ok (.iconst 0, 1) := by decide +kernel
theorem dX8_takeFromOthers_1 : decode cX8_takeFromOthers 1 = .ok (.istore_n 2, 1) := by decide +kernel
theorem dX8_takeFromOthers_2 : decode cX8_takeFromOthers 2 = .ok (.iload_n 2, 1) := by decide +kernel
theorem dX8_takeFromOthers_3 : decode cX8_takeFromOthers 3 = .ok (.aload_n 0, 1) := by decide +kernel
theorem dX8_takeFromOthers_4 : decode cX8_takeFromOthers 4 = .ok (.getfield 80, 3) := by decide +kernel
theorem dX8_takeFromOthers_7 : decode cX8_takeFromOthers 7 = .ok (.if_icmp .ge 94, 3) := by decide +kernel
theorem dX8_takeFromOthers_10 : decode cX8_takeFromOthers 10 = .ok (.iload_n 2, 1) := by decide +kernel
theorem dX8_takeFromOthers_11 : decode cX8_takeFromOthers 11 = .ok (.iload_n 1, 1) := by decide +kernel
theorem dX8_takeFromOthers_12 : decode cX8_takeFromOthers 12 = .ok (.if_icmp .eq 83, 3) := by decide +kernel
theorem dX8_takeFromOthers_15 : decode cX8_takeFromOthers 15 = .ok (.aload_n 0, 1) := by decide +kernel
theorem dX8_takeFromOthers_16 : decode cX8_takeFromOthers 16 = .ok (.getfield 20, 3) := by decide +kernel
theorem dX8_takeFromOthers_19 : decode cX8_takeFromOthers 19 = .ok (.iload_n 1, 1) := by decide +kernel
theorem dX8_takeFromOthers_20 : decode cX8_takeFromOthers 20 = .ok (.laload, 1) := by decide +kernel
theorem dX8_takeFromOthers_21 : decode cX8_takeFromOthers 21 = .ok (.lconst 0, 1) := by decide +kernel
theorem dX8_takeFromOthers_22 : decode cX8_takeFromOthers 22 = .ok (.lcmp, 1) := by decide +kernel
theorem dX8_takeFromOthers_23 : decode cX8_takeFromOthers 23 = .ok (.ifCond .eq 72, 3) := by decide +kernel
theorem dX8_takeFromOthers_26 : decode cX8_takeFromOthers 26 = .ok (.aload_n 0, 1) := by decide +kernel
theorem dX8_takeFromOthers_27 : decode cX8_takeFromOthers 27 = .ok (.getfield 20, 3) := by decide +kernel
theorem dX8_takeFromOthers_30 : decode cX8_takeFromOthers 30 = .ok (.iload_n 2, 1) := by decide +kernel
theorem dX8_takeFromOthers_31 : decode cX8_takeFromOthers 31 = .ok (.laload, 1) := by decide +kernel
theorem dX8_takeFromOthers_32 : decode cX8_takeFromOthers 32 = .ok (.aload_n 0, 1) := by decide +kernel
theorem dX8_takeFromOthers_33 : decode cX8_takeFromOthers 33 = .ok (.getfield 20, 3) := by decide +kernel
theorem dX8_takeFromOthers_36 : decode cX8_takeFromOthers 36 = .ok (.iload_n 1, 1) := by decide +kernel
theorem dX8_takeFromOthers_37 : decode cX8_takeFromOthers 37 = .ok (.laload, 1) := by decide +kernel
theorem dX8_takeFromOthers_38 : decode cX8_takeFromOthers 38 = .ok (.ldiv, 1) := by decide +kernel
theorem dX8_takeFromOthers_39 : decode cX8_takeFromOthers 39 = .ok (.lstore_n 3, 1) := by decide +kernel
theorem dX8_takeFromOthers_40 : decode cX8_takeFromOthers 40 = .ok (.aload_n 0, 1) := by decide +kernel
theorem dX8_takeFromOthers_41 : decode cX8_takeFromOthers 41 = .ok (.getfield 20, 3) := by decide +kernel
theorem dX8_takeFromOthers_44 : decode cX8_takeFromOthers 44 = .ok (.iload_n 2, 1) := by decide +kernel
theorem dX8_takeFromOthers_45 : decode cX8_takeFromOthers 45 = .ok (.dup2, 1) := by decide +kernel
theorem dX8_takeFromOthers_46 : decode cX8_takeFromOthers 46 = .ok (.laload, 1) := by decide +kernel
theorem dX8_takeFromOthers_47 : decode cX8_takeFromOthers 47 = .ok (.lload_n 3, 1) := by decide +kernel
theorem dX8_takeFromOthers_48 : decode cX8_takeFromOthers 48 = .ok (.aload_n 0, 1) := by decide +kernel
theorem dX8_takeFromOthers_49 : decode cX8_takeFromOthers 49 = .ok (.getfield 20, 3) := by decide +kernel
theorem dX8_takeFromOthers_52 : decode cX8_takeFromOthers 52 = .ok (.iload_n 1, 1) := by decide +kernel
theorem dX8_takeFromOthers_53 : decode cX8_takeFromOthers 53 = .ok (.laload, 1) := by decide +kernel
theorem dX8_takeFromOthers_54 : decode cX8_takeFromOthers 54 = .ok (.lmul, 1) := by decide +kernel
theorem dX8_takeFromOthers_55 : decode cX8_takeFromOthers 55 = .ok (.lsub, 1) := by decide +kernel
theorem dX8_takeFromOthers_56 : decode cX8_takeFromOthers 56 = .ok (.lastore, 1) := by decide +kernel
theorem dX8_takeFromOthers_57 : decode cX8_takeFromOthers 57 = .ok (.iconst 0, 1) := by decide +kernel
theorem dX8_takeFromOthers_58 : decode cX8_takeFromOthers 58 = .ok (.istore 5, 2) := by decide +kernel
theorem dX8_takeFromOthers_60 : decode cX8_takeFromOthers 60 = .ok (.iload 5, 2) := by decide +kernel
theorem dX8_takeFromOthers_62 : decode cX8_takeFromOthers 62 = .ok (.iconst 4, 1) := by decide +kernel
theorem dX8_takeFromOthers_63 : decode cX8_takeFromOthers 63 = .ok (.if_icmp .ge 32, 3) := by decide +kernel
theorem dX8_takeFromOthers_66 : decode cX8_takeFromOthers 66 = .ok (.aload_n 0, 1) := by decide +kernel
theorem dX8_takeFromOthers_67 : decode cX8_takeFromOthers 67 = .ok (.getfield 17, 3) := by decide +kernel
theorem dX8_takeFromOthers_70 : decode cX8_takeFromOthers 70 = .ok (.iload_n 2, 1) := by decide +kernel
theorem dX8_takeFromOthers_71 : decode cX8_takeFromOthers 71 = .ok (.aaload, 1) := by decide +kernel
theorem dX8_takeFromOthers_72 : decode cX8_takeFromOthers 72 = .ok (.iload 5, 2) := by decide +kernel
theorem dX8_takeFromOthers_74 : decode cX8_takeFromOthers 74 = .ok (.dup2, 1) := by decide +kernel
theorem dX8_takeFromOthers_75 : decode cX8_takeFromOthers 75 = .ok (.laload, 1) := by decide +kernel
theorem dX8_takeFromOthers_76 : decode cX8_takeFromOthers 76 = .ok (.lload_n 3, 1) := by decide +kernel
theorem dX8_takeFromOthers_77 : decode cX8_takeFromOthers 77 = .ok (.aload_n 0, 1) := by decide +kernel
theorem dX8_takeFromOthers_78 : decode cX8_takeFromOthers 78 = .ok (.getfield 17, 3) := by decide +kernel
theorem dX8_takeFromOthers_81 : decode cX8_takeFromOthers 81 = .ok (.iload_n 1, 1) := by decide +kernel
theorem dX8_takeFromOthers_82 : decode cX8_takeFromOthers 82 = .ok (.aaload, 1) := by decide +kernel
theorem dX8_takeFromOthers_83 : decode cX8_takeFromOthers 83 = .ok (.iload 5, 2) := by decide +kernel
theorem dX8_takeFromOthers_85 : decode cX8_takeFromOthers 85 = .ok (.laload, 1) := by decide +kernel
theorem dX8_takeFromOthers_86 : decode cX8_takeFromOthers 86 = .ok (.lmul, 1) := by decide +kernel
theorem dX8_takeFromOthers_87 : decode cX8_takeFromOthers 87 = .ok (.lsub, 1) := by decide +kernel
theorem dX8_takeFromOthers_88 : decode cX8_takeFromOthers 88 = .ok (.lastore, 1) := by decide +kernel
theorem dX8_takeFromOthers_89 : decode cX8_takeFromOthers 89 = .ok (.iinc 5 1, 3) := by decide +kernel
theorem dX8_takeFromOthers_92 : decode cX8_takeFromOthers 92 = .ok (.goto (-32), 3) := by decide +kernel
theorem dX8_takeFromOthers_95 : decode cX8_takeFromOthers 95 = .ok (.iinc 2 1, 3) := by decide +kernel
theorem dX8_takeFromOthers_98 : decode cX8_takeFromOthers 98 = .ok (.goto (-96), 3) := by decide +kernel
theorem dX8_takeFromOthers_101 : decode cX8_takeFromOthers 101 = .ok (.return_, 1) := by decide +kernel
theorem dX8_movePoint_0 : decode cX8_movePoint 0 = .ok (.iconst 0, 1) := by decide +kernel
theorem dX8_movePoint_1 : decode cX8_movePoint 1 = .ok (.istore 4, 2) := by decide +kernel
theorem dX8_movePoint_3 : decode cX8_movePoint 3 = .ok (.iload 4, 2) := by decide +kernel
theorem dX8_movePoint_5 : decode cX8_movePoint 5 = .ok (.iconst 4, 1) := by decide +kernel
theorem dX8_movePoint_6 : decode cX8_movePoint 6 = .ok (.if_icmp .ge 30, 3) := by decide +kernel
theorem dX8_movePoint_9 : decode cX8_movePoint 9 = .ok (.aload_n 0, 1) := by decide +kernel
theorem dX8_movePoint_10 : decode cX8_movePoint 10 = .ok (.getfield 11, 3) := by decide +kernel
theorem dX8_movePoint_13 : decode cX8_movePoint 13 = .ok (.iload 4, 2) := by decide +kernel
theorem dX8_movePoint_15 : decode cX8_movePoint 15 = .ok (.dup2, 1) := by decide +kernel
theorem dX8_movePoint_16 : decode cX8_movePoint 16 = .ok (.laload, 1) := by decide +kernel
theorem dX8_movePoint_17 : decode cX8_movePoint 17 = .ok (.lload_n 2, 1) := by decide +kernel
theorem dX8_movePoint_18 : decode cX8_movePoint 18 = .ok (.aload_n 0, 1) := by decide +kernel
theorem dX8_movePoint_19 : decode cX8_movePoint 19 = .ok (.getfield 17, 3) := by decide +kernel
theorem dX8_movePoint_22 : decode cX8_movePoint 22 = .ok (.iload_n 1, 1) := by decide +kernel
theorem dX8_movePoint_23 : decode cX8_movePoint 23 = .ok (.aaload, 1) := by decide +kernel
theorem dX8_movePoint_24 : decode cX8_movePoint 24 = .ok (.iload 4, 2) := by decide +kernel
theorem dX8_movePoint_26 : decode cX8_movePoint 26 = .ok (.laload, 1) := by decide +kernel
theorem dX8_movePoint_27 : decode cX8_movePoint 27 = .ok (.lmul, 1) := by decide +kernel
theorem dX8_movePoint_28 : decode cX8_movePoint 28 = .ok (.ladd, 1) := by decide +kernel
theorem dX8_movePoint_29 : decode cX8_movePoint 29 = .ok (.lastore, 1) := by decide +kernel
theorem dX8_movePoint_30 : decode cX8_movePoint 30 = .ok (.iinc 4 1, 3) := by decide +kernel
theorem dX8_movePoint_33 : decode cX8_movePoint 33 = .ok (.goto (-30), 3) := by decide +kernel
theorem dX8_movePoint_36 : decode cX8_movePoint 36 = .ok (.return_, 1) := by decide +kernel
theorem dX8_removeBasis_0 : decode cX8_removeBasis 0 = .ok (.aload_n 0, 1) := by decide +kernel
theorem dX8_removeBasis_1 : decode cX8_removeBasis 1 = .ok (.dup, 1) := by decide +kernel
theorem dX8_removeBasis_2 : decode cX8_removeBasis 2 = .ok (.getfield 80, 3) := by decide +kernel
theorem dX8_removeBasis_5 : decode cX8_removeBasis 5 = .ok (.iconst 1, 1) := by decide +kernel
theorem dX8_removeBasis_6 : decode cX8_removeBasis 6 = .ok (.isub, 1) := by decide +kernel
theorem dX8_removeBasis_7 : decode cX8_removeBasis 7 = .ok (.putfield 80, 3) := by decide +kernel
theorem dX8_removeBasis_10 : decode cX8_removeBasis 10 = .ok (.iconst 0, 1) := by decide +kernel
theorem dX8_removeBasis_11 : decode cX8_removeBasis 11 = .ok (.istore_n 2, 1) := by decide +kernel
theorem dX8_removeBasis_12 : decode cX8_removeBasis 12 = .ok (.iload_n 2, 1) := by decide +kernel
theorem dX8_removeBasis_13 : decode cX8_removeBasis 13 = .ok (.iconst 4, 1) := by decide +kernel
theorem dX8_removeBasis_14 : decode cX8_removeBasis 14 = .ok (.if_icmp .ge 28, 3) := by decide +kernel
theorem dX8_removeBasis_17 : decode cX8_removeBasis 17 = .ok (.aload_n 0, 1) := by decide +kernel
theorem dX8_removeBasis_18 : decode cX8_removeBasis 18 = .ok (.getfield 17, 3) := by decide +kernel
theorem dX8_removeBasis_21 : decode cX8_removeBasis 21 = .ok (.iload_n 1, 1) := by decide +kernel
theorem dX8_removeBasis_22 : decode cX8_removeBasis 22 = .ok (.aaload, 1) := by decide +kernel
theorem dX8_removeBasis_23 : decode cX8_removeBasis 23 = .ok (.iload_n 2, 1) := by decide +kernel
theorem dX8_removeBasis_24 : decode cX8_removeBasis 24 = .ok (.aload_n 0, 1) := by decide +kernel
theorem dX8_removeBasis_25 : decode cX8_removeBasis 25 = .ok (.getfield 17, 3) := by decide +kernel
theorem dX8_removeBasis_28 : decode cX8_removeBasis 28 = .ok (.aload_n 0, 1) := by decide +kernel
theorem dX8_removeBasis_29 : decode cX8_removeBasis 29 = .ok (.getfield 80, 3) := by decide +kernel
theorem dX8_removeBasis_32 : decode cX8_removeBasis 32 = .ok (.aaload, 1) := by decide +kernel
theorem dX8_removeBasis_33 : decode cX8_removeBasis 33 = .ok (.iload_n 2, 1) := by decide +kernel
theorem dX8_removeBasis_34 : decode cX8_removeBasis 34 = .ok (.laload, 1) := by decide +kernel
theorem dX8_removeBasis_35 : decode cX8_removeBasis 35 = .ok (.lastore, 1) := by decide +kernel
theorem dX8_removeBasis_36 : decode cX8_removeBasis 36 = .ok (.iinc 2 1, 3) := by decide +kernel
theorem dX8_removeBasis_39 : decode cX8_removeBasis 39 = .ok (.goto (-27), 3) := by decide +kernel
theorem dX8_removeBasis_42 : decode cX8_removeBasis 42 = .ok (.return_, 1) := by decide +kernel
theorem dX8_takeLeastAmount_0 : decode cX8_takeLeastAmount 0 = .ok (.iconst 0, 1) := by decide +kernel
theorem dX8_takeLeastAmount_1 : decode cX8_takeLeastAmount 1 = .ok (.istore_n 2, 1) := by decide +kernel
theorem dX8_takeLeastAmount_2 : decode cX8_takeLeastAmount 2 = .ok (.iload_n 2, 1) := by decide +kernel
theorem dX8_takeLeastAmount_3 : decode cX8_takeLeastAmount 3 = .ok (.aload_n 0, 1) := by decide +kernel
theorem dX8_takeLeastAmount_4 : decode cX8_takeLeastAmount 4 = .ok (.getfield 80, 3) := by decide +kernel
theorem dX8_takeLeastAmount_7 : decode cX8_takeLeastAmount 7 = .ok (.if_icmp .ge 23, 3) := by decide +kernel
theorem dX8_takeLeastAmount_10 : decode cX8_takeLeastAmount 10 = .ok (.aload_n 0, 1) := by decide +kernel
theorem dX8_takeLeastAmount_11 : decode cX8_takeLeastAmount 11 = .ok (.getfield 20, 3) := by decide +kernel
theorem dX8_takeLeastAmount_14 : decode cX8_takeLeastAmount 14 = .ok (.iload_n 2, 1) := by decide +kernel
theorem dX8_takeLeastAmount_15 : decode cX8_takeLeastAmount 15 = .ok (.aload_n 0, 1) := by decide +kernel
theorem dX8_takeLeastAmount_16 : decode cX8_takeLeastAmount 16 = .ok (.getfield 17, 3) := by decide +kernel
theorem dX8_takeLeastAmount_19 : decode cX8_takeLeastAmount 19 = .ok (.iload_n 2, 1) := by decide +kernel
theorem dX8_takeLeastAmount_20 : decode cX8_takeLeastAmount 20 = .ok (.aaload, 1) := by decide +kernel
theorem dX8_takeLeastAmount_21 : decode cX8_takeLeastAmount 21 = .ok (.iload_n 1, 1) := by decide +kernel
theorem dX8_takeLeastAmount_22 : decode cX8_takeLeastAmount 22 = .ok (.laload, 1) := by decide +kernel
theorem dX8_takeLeastAmount_23 : decode cX8_takeLeastAmount 23 = .ok (.lastore, 1) := by decide +kernel
theorem dX8_takeLeastAmount_24 : decode cX8_takeLeastAmount 24 = .ok (.iinc 2 1, 3) := by decide +kernel
theorem dX8_takeLeastAmount_27 : decode cX8_takeLeastAmount 27 = .ok (.goto (-25), 3) := by decide +kernel
theorem dX8_takeLeastAmount_30 : decode cX8_takeLeastAmount 30 = .ok (.aload_n 0, 1) := by decide +kernel
theorem dX8_takeLeastAmount_31 : decode cX8_takeLeastAmount 31 = .ok (.invokevirtual 97, 3) := by decide +kernel
theorem dX8_takeLeastAmount_34 : decode cX8_takeLeastAmount 34 = .ok (.istore_n 2, 1) := by decide +kernel
theorem dX8_takeLeastAmount_35 : decode cX8_takeLeastAmount 35 = .ok (.iload_n 2, 1) := by decide +kernel
theorem dX8_takeLeastAmount_36 : decode cX8_takeLeastAmount 36 = .ok (.ifCond .lt 14, 3) := by decide +kernel
theorem dX8_takeLeastAmount_39 : decode cX8_takeLeastAmount 39 = .ok (.aload_n 0, 1) := by decide +kernel
theorem dX8_takeLeastAmount_40 : decode cX8_takeLeastAmount 40 = .ok (.getfield 20, 3) := by decide +kernel
theorem dX8_takeLeastAmount_43 : decode cX8_takeLeastAmount 43 = .ok (.iload_n 2, 1) := by decide +kernel
theorem dX8_takeLeastAmount_44 : decode cX8_takeLeastAmount 44 = .ok (.laload, 1) := by decide +kernel
theorem dX8_takeLeastAmount_45 : decode cX8_takeLeastAmount 45 = .ok (.lconst 0, 1) := by decide +kernel
theorem dX8_takeLeastAmount_46 : decode cX8_takeLeastAmount 46 = .ok (.lcmp, 1) := by decide +kernel
theorem dX8_takeLeastAmount_47 : decode cX8_takeLeastAmount 47 = .ok (.ifCond .ne 4, 3) := by decide +kernel
theorem dX8_takeLeastAmount_50 : decode cX8_takeLeastAmount 50 = .ok (.return_, 1) := by decide +kernel
theorem dX8_takeLeastAmount_51 : decode cX8_takeLeastAmount 51 = .ok (.aload_n 0, 1) := by decide +kernel
theorem dX8_takeLeastAmount_52 : decode cX8_takeLeastAmount 52 = .ok (.getfield 20, 3) := by decide +kernel
theorem dX8_takeLeastAmount_55 : decode cX8_takeLeastAmount 55 = .ok (.iload_n 2, 1) := by decide +kernel
theorem dX8_takeLeastAmount_56 : decode cX8_takeLeastAmount 56 = .ok (.laload, 1) := by decide +kernel
theorem dX8_takeLeastAmount_57 : decode cX8_takeLeastAmount 57 = .ok (.invokestatic 108, 3) := by decide +kernel
theorem dX8_takeLeastAmount_60 : decode cX8_takeLeastAmount 60 = .ok (.lstore_n 3, 1) := by decide +kernel
theorem dX8_takeLeastAmount_61 : decode cX8_takeLeastAmount 61 = .ok (.aload_n 0, 1) := by decide +kernel
theorem dX8_takeLeastAmount_62 : decode cX8_takeLeastAmount 62 = .ok (.getfield 11, 3) := by decide +kernel
theorem dX8_takeLeastAmount_65 : decode cX8_takeLeastAmount 65 = .ok (.iload_n 1, 1) := by decide +kernel
theorem dX8_takeLeastAmount_66 : decode cX8_takeLeastAmount 66 = .ok (.laload, 1) := by decide +kernel
theorem dX8_takeLeastAmount_67 : decode cX8_takeLeastAmount 67 = .ok (.lload_n 3, 1) := by decide +kernel
theorem dX8_takeLeastAmount_68 : decode cX8_takeLeastAmount 68 = .ok (.invokestatic 117, 3) := by decide +kernel
theorem dX8_takeLeastAmount_71 : decode cX8_takeLeastAmount 71 = .ok (.lstore 5, 2) := by decide +kernel
theorem dX8_takeLeastAmount_73 : decode cX8_takeLeastAmount 73 = .ok (.lload 5, 2) := by decide +kernel
theorem dX8_takeLeastAmount_75 : decode cX8_takeLeastAmount 75 = .ok (.lload_n 3, 1) := by decide +kernel
theorem dX8_takeLeastAmount_76 : decode cX8_takeLeastAmount 76 = .ok (.lload 5, 2) := by decide +kernel
theorem dX8_takeLeastAmount_78 : decode cX8_takeLeastAmount 78 = .ok (.lsub, 1) := by decide +kernel
theorem dX8_takeLeastAmount_79 : decode cX8_takeLeastAmount 79 = .ok (.lcmp, 1) := by decide +kernel
theorem dX8_takeLeastAmount_80 : decode cX8_takeLeastAmount 80 = .ok (.ifCond .le 9, 3) := by decide +kernel
theorem dX8_takeLeastAmount_83 : decode cX8_takeLeastAmount 83 = .ok (.lload 5, 2) := by decide +kernel
theorem dX8_takeLeastAmount_85 : decode cX8_takeLeastAmount 85 = .ok (.lload_n 3, 1) := by decide +kernel
theorem dX8_takeLeastAmount_86 : decode cX8_takeLeastAmount 86 = .ok (.lsub, 1) := by decide +kernel
theorem dX8_takeLeastAmount_87 : decode cX8_takeLeastAmount 87 = .ok (.lstore 5, 2) := by decide +kernel
theorem dX8_takeLeastAmount_89 : decode cX8_takeLeastAmount 89 = .ok (.aload_n 0, 1) := by decide +kernel
theorem dX8_takeLeastAmount_90 : decode cX8_takeLeastAmount 90 = .ok (.iload_n 2, 1) := by decide +kernel
theorem dX8_takeLeastAmount_91 : decode cX8_takeLeastAmount 91 = .ok (.lload 5, 2) := by decide +kernel
theorem dX8_takeLeastAmount_93 : decode cX8_takeLeastAmount 93 = .ok (.aload_n 0, 1) := by decide +kernel
theorem dX8_takeLeastAmount_94 : decode cX8_takeLeastAmount 94 = .ok (.getfield 11, 3) := by decide +kernel
theorem dX8_takeLeastAmount_97 : decode cX8_takeLeastAmount 97 = .ok (.iload_n 1, 1) := by decide +kernel
theorem dX8_takeLeastAmount_98 : decode cX8_takeLeastAmount 98 = .ok (.laload, 1) := by decide +kernel
theorem dX8_takeLeastAmount_99 : decode cX8_takeLeastAmount 99 = .ok (.lsub, 1) := by decide +kernel
theorem dX8_takeLeastAmount_100 : decode cX8_takeLeastAmount 100 = .ok (.aload_n 0, 1) := by decide +kernel
theorem dX8_takeLeastAmount_101 : decode cX8_takeLeastAmount 101 = .ok (.getfield 20, 3) := by decide +kernel
theorem dX8_takeLeastAmount_104 : decode cX8_takeLeastAmount 104 = .ok (.iload_n 2, 1) := by decide +kernel
theorem dX8_takeLeastAmount_105 : decode cX8_takeLeastAmount 105 = .ok (.laload, 1) := by decide +kernel
theorem dX8_takeLeastAmount_106 : decode cX8_takeLeastAmount 106 = .ok (.ldiv, 1) := by decide +kernel
theorem dX8_takeLeastAmount_107 : decode cX8_takeLeastAmount 107 = .ok (.invokevirtual 101, 3) := by decide +kernel
theorem dX8_takeLeastAmount_110 : decode cX8_takeLeastAmount 110 = .ok (.aload_n 0, 1) := by decide +kernel
theorem dX8_takeLeastAmount_111 : decode cX8_takeLeastAmount 111 = .ok (.iload_n 2, 1) := by decide +kernel
theorem dX8_takeLeastAmount_112 : decode cX8_takeLeastAmount 112 = .ok (.invokevirtual 105, 3) := by decide +kernel
theorem dX8_takeLeastAmount_115 : decode cX8_takeLeastAmount 115 = .ok (.return_, 1) := by decide +kernel
theorem dX8_writeModulus_0 : decode cX8_writeModulus 0 = .ok (.aload_n 0, 1) := by decide +kernel
theorem dX8_writeModulus_1 : decode cX8_writeModulus 1 = .ok (.getfield 71, 3) := by decide +kernel
theorem dX8_writeModulus_4 : decode cX8_writeModulus 4 = .ok (.iconst 1, 1) := by decide +kernel
theorem dX8_writeModulus_5 : decode cX8_writeModulus 5 = .ok (.if_icmp .le 7, 3) := by decide +kernel
theorem dX8_writeModulus_8 : decode cX8_writeModulus 8 = .ok (.iconst 1, 1) := by decide +kernel
theorem dX8_writeModulus_9 : decode cX8_writeModulus 9 = .ok (.goto 4, 3) := by decide +kernel
theorem dX8_writeModulus_12 : decode cX8_writeModulus 12 = .ok (.iconst 0, 1) := by decide +kernel
theorem dX8_writeModulus_13 : decode cX8_writeModulus 13 = .ok (.istore_n 1, 1) := by decide +kernel
theorem dX8_writeModulus_14 : decode cX8_writeModulus 14 = .ok (.iconst 2, 1) := by decide +kernel
theorem dX8_writeModulus_15 : decode cX8_writeModulus 15 = .ok (.istore_n 2, 1) := by decide +kernel
theorem dX8_writeModulus_16 : decode cX8_writeModulus 16 = .ok (.iload_n 2, 1) := by decide +kernel
theorem dX8_writeModulus_17 : decode cX8_writeModulus 17 = .ok (.sipush 1000, 3) := by decide +kernel
theorem dX8_writeModulus_20 : decode cX8_writeModulus 20 = .ok (.if_icmp .ge 105, 3) := by decide +kernel
theorem dX8_writeModulus_23 : decode cX8_writeModulus 23 = .ok (.iconst 0, 1) := by decide +kernel
theorem dX8_writeModulus_24 : decode cX8_writeModulus 24 = .ok (.istore_n 3, 1) := by decide +kernel
theorem dX8_writeModulus_25 : decode cX8_writeModulus 25 = .ok (.iload_n 3, 1) := by decide +kernel
theorem dX8_writeModulus_26 : decode cX8_writeModulus 26 = .ok (.iload_n 2, 1) := by decide +kernel
theorem dX8_writeModulus_27 : decode cX8_writeModulus 27 = .ok (.if_icmp .ge 92, 3) := by decide +kernel
theorem dX8_writeModulus_30 : decode cX8_writeModulus 30 = .ok (.iconst 0, 1) := by decide +kernel
theorem dX8_writeModulus_31 : decode cX8_writeModulus 31 = .ok (.istore 4, 2) := by decide +kernel
theorem dX8_writeModulus_33 : decode cX8_writeModulus 33 = .ok (.iload 4, 2) := by decide +kernel
theorem dX8_writeModulus_35 : decode cX8_writeModulus 35 = .ok (.iload_n 1, 1) := by decide +kernel
theorem dX8_writeModulus_36 : decode cX8_writeModulus 36 = .ok (.ifCond .eq 7, 3) := by decide +kernel
theorem dX8_writeModulus_39 : decode cX8_writeModulus 39 = .ok (.iload_n 2, 1) := by decide +kernel
theorem dX8_writeModulus_40 : decode cX8_writeModulus 40 = .ok (.goto 4, 3) := by decide +kernel
theorem dX8_writeModulus_43 : decode cX8_writeModulus 43 = .ok (.iconst 1, 1) := by decide +kernel
theorem dX8_writeModulus_44 : decode cX8_writeModulus 44 = .ok (.if_icmp .ge 69, 3) := by decide +kernel
theorem dX8_writeModulus_47 : decode cX8_writeModulus 47 = .ok (.aload_n 0, 1) := by decide +kernel
theorem dX8_writeModulus_48 : decode cX8_writeModulus 48 = .ok (.iload_n 2, 1) := by decide +kernel
theorem dX8_writeModulus_49 : decode cX8_writeModulus 49 = .ok (.i2l, 1) := by decide +kernel
theorem dX8_writeModulus_50 : decode cX8_writeModulus 50 = .ok (.iload_n 3, 1) := by decide +kernel
theorem dX8_writeModulus_51 : decode cX8_writeModulus 51 = .ok (.i2l, 1) := by decide +kernel
theorem dX8_writeModulus_52 : decode cX8_writeModulus 52 = .ok (.iload 4, 2) := by decide +kernel
theorem dX8_writeModulus_54 : decode cX8_writeModulus 54 = .ok (.i2l, 1) := by decide +kernel
theorem dX8_writeModulus_55 : decode cX8_writeModulus 55 = .ok (.invokestatic 124, 3) := by decide +kernel
theorem dX8_writeModulus_58 : decode cX8_writeModulus 58 = .ok (.ifCond .eq 49, 3) := by decide +kernel
theorem dX8_writeModulus_61 : decode cX8_writeModulus 61 = .ok (.aload_n 0, 1) := by decide +kernel
theorem dX8_writeModulus_62 : decode cX8_writeModulus 62 = .ok (.iload_n 2, 1) := by decide +kernel
theorem dX8_writeModulus_63 : decode cX8_writeModulus 63 = .ok (.i2l, 1) := by decide +kernel
theorem dX8_writeModulus_64 : decode cX8_writeModulus 64 = .ok (.iload_n 3, 1) := by decide +kernel
theorem dX8_writeModulus_65 : decode cX8_writeModulus 65 = .ok (.i2l, 1) := by decide +kernel
theorem dX8_writeModulus_66 : decode cX8_writeModulus 66 = .ok (.iload 4, 2) := by decide +kernel
theorem dX8_writeModulus_68 : decode cX8_writeModulus 68 = .ok (.i2l, 1) := by decide +kernel
theorem dX8_writeModulus_69 : decode cX8_writeModulus 69 = .ok (.invokestatic 128, 3) := by decide +kernel
theorem dX8_writeModulus_72 : decode cX8_writeModulus 72 = .ok (.ifCond .eq 35, 3) := by decide +kernel
theorem dX8_writeModulus_75 : decode cX8_writeModulus 75 = .ok (.aload_n 0, 1) := by decide +kernel
theorem dX8_writeModulus_76 : decode cX8_writeModulus 76 = .ok (.getfield 54, 3) := by decide +kernel
theorem dX8_writeModulus_79 : decode cX8_writeModulus 79 = .ok (.iload_n 2, 1) := by decide +kernel
theorem dX8_writeModulus_80 : decode cX8_writeModulus 80 = .ok (.invokevirtual 58, 3) := by decide +kernel
theorem dX8_writeModulus_83 : decode cX8_writeModulus 83 = .ok (.aload_n 0, 1) := by decide +kernel
theorem dX8_writeModulus_84 : decode cX8_writeModulus 84 = .ok (.getfield 54, 3) := by decide +kernel
theorem dX8_writeModulus_87 : decode cX8_writeModulus 87 = .ok (.iload_n 3, 1) := by decide +kernel
theorem dX8_writeModulus_88 : decode cX8_writeModulus 88 = .ok (.invokevirtual 58, 3) := by decide +kernel
theorem dX8_writeModulus_91 : decode cX8_writeModulus 91 = .ok (.aload_n 0, 1) := by decide +kernel
theorem dX8_writeModulus_92 : decode cX8_writeModulus 92 = .ok (.getfield 54, 3) := by decide +kernel
theorem dX8_writeModulus_95 : decode cX8_writeModulus 95 = .ok (.aload_n 0, 1) := by decide +kernel
theorem dX8_writeModulus_96 : decode cX8_writeModulus 96 = .ok (.getfield 71, 3) := by decide +kernel
theorem dX8_writeModulus_99 : decode cX8_writeModulus 99 = .ok (.iconst 1, 1) := by decide +kernel
theorem dX8_writeModulus_100 : decode cX8_writeModulus 100 = .ok (.iadd, 1) := by decide +kernel
theorem dX8_writeModulus_101 : decode cX8_writeModulus 101 = .ok (.iload 4, 2) := by decide +kernel
theorem dX8_writeModulus_103 : decode cX8_writeModulus 103 = .ok (.invokevirtual 131, 3) := by decide +kernel
theorem dX8_writeModulus_106 : decode cX8_writeModulus 106 = .ok (.return_, 1) := by decide +kernel
theorem dX8_writeModulus_107 : decode cX8_writeModulus 107 = .ok (.iinc 4 1, 3) := by decide +kernel
theorem dX8_writeModulus_110 : decode cX8_writeModulus 110 = .ok (.goto (-77), 3) := by decide +kernel
theorem dX8_writeModulus_113 : decode cX8_writeModulus 113 = .ok (.iinc 3 1, 3) := by decide +kernel
theorem dX8_writeModulus_116 : decode cX8_writeModulus 116 = .ok (.goto (-91), 3) := by decide +kernel
theorem dX8_writeModulus_119 : decode cX8_writeModulus 119 = .ok (.iinc 2 1, 3) := by decide +kernel
theorem dX8_writeModulus_122 : decode cX8_writeModulus 122 = .ok (.goto (-106), 3) := by decide +kernel
theorem dX8_writeModulus_125 : decode cX8_writeModulus 125 = .ok (.return_, 1) := by decide +kernel
theorem dX8_areMultiples_0 : decode cX8_areMultiples 0 = .ok (.iconst 0, 1) := by decide +kernel
theorem dX8_areMultiples_1 : decode cX8_areMultiples 1 = .ok (.istore 7, 2) := by decide +kernel
theorem dX8_areMultiples_3 : decode cX8_areMultiples 3 = .ok (.iload 7, 2) := by decide +kernel
theorem dX8_areMultiples_5 : decode cX8_areMultiples 5 = .ok (.aload_n 0, 1) := by decide +kernel
theorem dX8_areMultiples_6 : decode cX8_areMultiples 6 = .ok (.getfield 46, 3) := by decide +kernel
theorem dX8_areMultiples_9 : decode cX8_areMultiples 9 = .ok (.if_icmp .ge 50, 3) := by decide +kernel
theorem dX8_areMultiples_12 : decode cX8_areMultiples 12 = .ok (.aload_n 0, 1) := by decide +kernel
theorem dX8_areMultiples_13 : decode cX8_areMultiples 13 = .ok (.iconst 0, 1) := by decide +kernel
theorem dX8_areMultiples_14 : decode cX8_areMultiples 14 = .ok (.iload 7, 2) := by decide +kernel
theorem dX8_areMultiples_16 : decode cX8_areMultiples 16 = .ok (.invokevirtual 77, 3) := by decide +kernel
theorem dX8_areMultiples_19 : decode cX8_areMultiples 19 = .ok (.i2l, 1) := by decide +kernel
theorem dX8_areMultiples_20 : decode cX8_areMultiples 20 = .ok (.lload_n 3, 1) := by decide +kernel
theorem dX8_areMultiples_21 : decode cX8_areMultiples 21 = .ok (.lmul, 1) := by decide +kernel
theorem dX8_areMultiples_22 : decode cX8_areMultiples 22 = .ok (.aload_n 0, 1) := by decide +kernel
theorem dX8_areMultiples_23 : decode cX8_areMultiples 23 = .ok (.iconst 1, 1) := by decide +kernel
theorem dX8_areMultiples_24 : decode cX8_areMultiples 24 = .ok (.iload 7, 2) := by decide +kernel
theorem dX8_areMultiples_26 : decode cX8_areMultiples 26 = .ok (.invokevirtual 77, 3) := by decide +kernel
theorem dX8_areMultiples_29 : decode cX8_areMultiples 29 = .ok (.i2l, 1) := by decide +kernel
theorem dX8_areMultiples_30 : decode cX8_areMultiples 30 = .ok (.lload 5, 2) := by decide +kernel
theorem dX8_areMultiples_32 : decode cX8_areMultiples 32 = .ok (.lmul, 1) := by decide +kernel
theorem dX8_areMultiples_33 : decode cX8_areMultiples 33 = .ok (.ladd, 1) := by decide +kernel
theorem dX8_areMultiples_34 : decode cX8_areMultiples 34 = .ok (.lstore 8, 2) := by decide +kernel
theorem dX8_areMultiples_36 : decode cX8_areMultiples 36 = .ok (.lload_n 1, 1) := by decide +kernel
theorem dX8_areMultiples_37 : decode cX8_areMultiples 37 = .ok (.lconst 1, 1) := by decide +kernel
theorem dX8_areMultiples_38 : decode cX8_areMultiples 38 = .ok (.lcmp, 1) := by decide +kernel
theorem dX8_areMultiples_39 : decode cX8_areMultiples 39 = .ok (.ifCond .lt 12, 3) := by decide +kernel
theorem dX8_areMultiples_42 : decode cX8_areMultiples 42 = .ok (.lload 8, 2) := by decide +kernel
theorem dX8_areMultiples_44 : decode cX8_areMultiples 44 = .ok (.lload_n 1, 1) := by decide +kernel
theorem dX8_areMultiples_45 : decode cX8_areMultiples 45 = .ok (.lrem, 1) := by decide +kernel
theorem dX8_areMultiples_46 : decode cX8_areMultiples 46 = .ok (.lconst 0, 1) := by decide +kernel
theorem dX8_areMultiples_47 : decode cX8_areMultiples 47 = .ok (.lcmp, 1) := by decide +kernel
theorem dX8_areMultiples_48 : decode cX8_areMultiples 48 = .ok (.ifCond .eq 5, 3) := by decide +kernel
theorem dX8_areMultiples_51 : decode cX8_areMultiples 51 = .ok (.iconst 0, 1) := by decide +kernel
theorem dX8_areMultiples_52 : decode cX8_areMultiples 52 = .ok (.ireturn, 1) := by decide +kernel
theorem dX8_areMultiples_53 : decode cX8_areMultiples 53 = .ok (.iinc 7 1, 3) := by decide +kernel
theorem dX8_areMultiples_56 : decode cX8_areMultiples 56 = .ok (.goto (-53), 3) := by decide +kernel
theorem dX8_areMultiples_59 : decode cX8_areMultiples 59 = .ok (.iconst 1, 1) := by decide +kernel
theorem dX8_areMultiples_60 : decode cX8_areMultiples 60 = .ok (.ireturn, 1) := by decide +kernel
theorem dX8_isNoMultiple_0 : decode cX8_isNoMultiple 0 = .ok (.lconst 0, 1) := by decide +kernel
theorem dX8_isNoMultiple_1 : decode cX8_isNoMultiple 1 = .ok (.lstore 7, 2) := by decide +kernel
theorem dX8_isNoMultiple_3 : decode cX8_isNoMultiple 3 = .ok (.aload_n 0, 1) := by decide +kernel
theorem dX8_isNoMultiple_4 : decode cX8_isNoMultiple 4 = .ok (.getfield 71, 3) := by decide +kernel
theorem dX8_isNoMultiple_7 : decode cX8_isNoMultiple 7 = .ok (.ifCond .le 16, 3) := by decide +kernel
theorem dX8_isNoMultiple_10 : decode cX8_isNoMultiple 10 = .ok (.lload 7, 2) := by decide +kernel
theorem dX8_isNoMultiple_12 : decode cX8_isNoMultiple 12 = .ok (.aload_n 0, 1) := by decide +kernel
theorem dX8_isNoMultiple_13 : decode cX8_isNoMultiple 13 = .ok (.iconst 0, 1) := by decide +kernel
theorem dX8_isNoMultiple_14 : decode cX8_isNoMultiple 14 = .ok (.invokestatic 93, 3) := by decide +kernel
theorem dX8_isNoMultiple_17 : decode cX8_isNoMultiple 17 = .ok (.i2l, 1) := by decide +kernel
theorem dX8_isNoMultiple_18 : decode cX8_isNoMultiple 18 = .ok (.lload_n 3, 1) := by decide +kernel
theorem dX8_isNoMultiple_19 : decode cX8_isNoMultiple 19 = .ok (.lmul, 1) := by decide +kernel
theorem dX8_isNoMultiple_20 : decode cX8_isNoMultiple 20 = .ok (.ladd, 1) := by decide +kernel
theorem dX8_isNoMultiple_21 : decode cX8_isNoMultiple 21 = .ok (.lstore 7, 2) := by decide +kernel
theorem dX8_isNoMultiple_23 : decode cX8_isNoMultiple 23 = .ok (.aload_n 0, 1) := by decide +kernel
theorem dX8_isNoMultiple_24 : decode cX8_isNoMultiple 24 = .ok (.getfield 71, 3) := by decide +kernel
theorem dX8_isNoMultiple_27 : decode cX8_isNoMultiple 27 = .ok (.iconst 1, 1) := by decide +kernel
theorem dX8_isNoMultiple_28 : decode cX8_isNoMultiple 28 = .ok (.if_icmp .le 17, 3) := by decide +kernel
theorem dX8_isNoMultiple_31 : decode cX8_isNoMultiple 31 = .ok (.lload 7, 2) := by decide +kernel
theorem dX8_isNoMultiple_33 : decode cX8_isNoMultiple 33 = .ok (.aload_n 0, 1) := by decide +kernel
theorem dX8_isNoMultiple_34 : decode cX8_isNoMultiple 34 = .ok (.iconst 1, 1) := by decide +kernel
theorem dX8_isNoMultiple_35 : decode cX8_isNoMultiple 35 = .ok (.invokestatic 93, 3) := by decide +kernel
theorem dX8_isNoMultiple_38 : decode cX8_isNoMultiple 38 = .ok (.i2l, 1) := by decide +kernel
theorem dX8_isNoMultiple_39 : decode cX8_isNoMultiple 39 = .ok (.lload 5, 2) := by decide +kernel
theorem dX8_isNoMultiple_41 : decode cX8_isNoMultiple 41 = .ok (.lmul, 1) := by decide +kernel
theorem dX8_isNoMultiple_42 : decode cX8_isNoMultiple 42 = .ok (.ladd, 1) := by decide +kernel
theorem dX8_isNoMultiple_43 : decode cX8_isNoMultiple 43 = .ok (.lstore 7, 2) := by decide +kernel
theorem dX8_isNoMultiple_45 : decode cX8_isNoMultiple 45 = .ok (.lload_n 1, 1) := by decide +kernel
theorem dX8_isNoMultiple_46 : decode cX8_isNoMultiple 46 = .ok (.lconst 1, 1) := by decide +kernel
theorem dX8_isNoMultiple_47 : decode cX8_isNoMultiple 47 = .ok (.lcmp, 1) := by decide +kernel
theorem dX8_isNoMultiple_48 : decode cX8_isNoMultiple 48 = .ok (.ifCond .lt 16, 3) := by decide +kernel
theorem dX8_isNoMultiple_51 : decode cX8_isNoMultiple 51 = .ok (.lload 7, 2) := by decide +kernel
theorem dX8_isNoMultiple_53 : decode cX8_isNoMultiple 53 = .ok (.lload_n 1, 1) := by decide +kernel
theorem dX8_isNoMultiple_54 : decode cX8_isNoMultiple 54 = .ok (.lrem, 1) := by decide +kernel
theorem dX8_isNoMultiple_55 : decode cX8_isNoMultiple 55 = .ok (.lconst 0, 1) := by decide +kernel
theorem dX8_isNoMultiple_56 : decode cX8_isNoMultiple 56 = .ok (.lcmp, 1) := by decide +kernel
theorem dX8_isNoMultiple_57 : decode cX8_isNoMultiple 57 = .ok (.ifCond .eq 7, 3) := by decide +kernel
theorem dX8_isNoMultiple_60 : decode cX8_isNoMultiple 60 = .ok (.iconst 1, 1) := by decide +kernel
theorem dX8_isNoMultiple_61 : decode cX8_isNoMultiple 61 = .ok (.goto 4, 3) := by decide +kernel
theorem dX8_isNoMultiple_64 : decode cX8_isNoMultiple 64 = .ok (.iconst 0, 1) := by decide +kernel
theorem dX8_isNoMultiple_65 : decode cX8_isNoMultiple 65 = .ok (.ireturn, 1) := by decide +kernel
theorem dX8_judgeUnknowns_0 : decode cX8_judgeUnknowns 0 = .ok (.aload_n 2, 1) := by decide +kernel
theorem dX8_judgeUnknowns_1 : decode cX8_judgeUnknowns 1 = .ok (.getfield 135, 3) := by decide +kernel
theorem dX8_judgeUnknowns_4 : decode cX8_judgeUnknowns 4 = .ok (.aload_n 1, 1) := by decide +kernel
theorem dX8_judgeUnknowns_5 : decode cX8_judgeUnknowns 5 = .ok (.getfield 46, 3) := by decide +kernel
theorem dX8_judgeUnknowns_8 : decode cX8_judgeUnknowns 8 = .ok (.if_icmp .eq 5, 3) := by decide +kernel
theorem dX8_judgeUnknowns_11 : decode cX8_judgeUnknowns 11 = .ok (.iconst 1, 1) := by decide +kernel
theorem dX8_judgeUnknowns_12 : decode cX8_judgeUnknowns 12 = .ok (.ireturn, 1) := by decide +kernel
theorem dX8_judgeUnknowns_13 : decode cX8_judgeUnknowns 13 = .ok (.iconst 0, 1) := by decide +kernel
theorem dX8_judgeUnknowns_14 : decode cX8_judgeUnknowns 14 = .ok (.istore_n 3, 1) := by decide +kernel
theorem dX8_judgeUnknowns_15 : decode cX8_judgeUnknowns 15 = .ok (.iload_n 3, 1) := by decide +kernel
theorem dX8_judgeUnknowns_16 : decode cX8_judgeUnknowns 16 = .ok (.aload_n 1, 1) := by decide +kernel
theorem dX8_judgeUnknowns_17 : decode cX8_judgeUnknowns 17 = .ok (.getfield 71, 3) := by decide +kernel
theorem dX8_judgeUnknowns_20 : decode cX8_judgeUnknowns 20 = .ok (.if_icmp .ge 65, 3) := by decide +kernel
theorem dX8_judgeUnknowns_23 : decode cX8_judgeUnknowns 23 = .ok (.lconst 0, 1) := by decide +kernel
theorem dX8_judgeUnknowns_24 : decode cX8_judgeUnknowns 24 = .ok (.lstore 4, 2) := by decide +kernel
theorem dX8_judgeUnknowns_26 : decode cX8_judgeUnknowns 26 = .ok (.iconst 0, 1) := by decide +kernel
theorem dX8_judgeUnknowns_27 : decode cX8_judgeUnknowns 27 = .ok (.istore 6, 2) := by decide +kernel
theorem dX8_judgeUnknowns_29 : decode cX8_judgeUnknowns 29 = .ok (.iload 6, 2) := by decide +kernel
theorem dX8_judgeUnknowns_31 : decode cX8_judgeUnknowns 31 = .ok (.aload_n 1, 1) := by decide +kernel
theorem dX8_judgeUnknowns_32 : decode cX8_judgeUnknowns 32 = .ok (.getfield 46, 3) := by decide +kernel
theorem dX8_judgeUnknowns_35 : decode cX8_judgeUnknowns 35 = .ok (.if_icmp .ge 30, 3) := by decide +kernel
theorem dX8_judgeUnknowns_38 : decode cX8_judgeUnknowns 38 = .ok (.lload 4, 2) := by decide +kernel
theorem dX8_judgeUnknowns_40 : decode cX8_judgeUnknowns 40 = .ok (.aload_n 1, 1) := by decide +kernel
theorem dX8_judgeUnknowns_41 : decode cX8_judgeUnknowns 41 = .ok (.iload_n 3, 1) := by decide +kernel
theorem dX8_judgeUnknowns_42 : decode cX8_judgeUnknowns 42 = .ok (.iload 6, 2) := by decide +kernel
theorem dX8_judgeUnknowns_44 : decode cX8_judgeUnknowns 44 = .ok (.invokevirtual 77, 3) := by decide +kernel
theorem dX8_judgeUnknowns_47 : decode cX8_judgeUnknowns 47 = .ok (.i2l, 1) := by decide +kernel
theorem dX8_judgeUnknowns_48 : decode cX8_judgeUnknowns 48 = .ok (.aload_n 2, 1) := by decide +kernel
theorem dX8_judgeUnknowns_49 : decode cX8_judgeUnknowns 49 = .ok (.iload 6, 2) := by decide +kernel
theorem dX8_judgeUnknowns_51 : decode cX8_judgeUnknowns 51 = .ok (.invokevirtual 67, 3) := by decide +kernel
theorem dX8_judgeUnknowns_54 : decode cX8_judgeUnknowns 54 = .ok (.i2l, 1) := by decide +kernel
theorem dX8_judgeUnknowns_55 : decode cX8_judgeUnknowns 55 = .ok (.lmul, 1) := by decide +kernel
theorem dX8_judgeUnknowns_56 : decode cX8_judgeUnknowns 56 = .ok (.ladd, 1) := by decide +kernel
theorem dX8_judgeUnknowns_57 : decode cX8_judgeUnknowns 57 = .ok (.lstore 4, 2) := by decide +kernel
theorem dX8_judgeUnknowns_59 : decode cX8_judgeUnknowns 59 = .ok (.iinc 6 1, 3) := by decide +kernel
theorem dX8_judgeUnknowns_62 : decode cX8_judgeUnknowns 62 = .ok (.goto (-33), 3) := by decide +kernel
theorem dX8_judgeUnknowns_65 : decode cX8_judgeUnknowns 65 = .ok (.lload 4, 2) := by decide +kernel
theorem dX8_judgeUnknowns_67 : decode cX8_judgeUnknowns 67 = .ok (.aload_n 1, 1) := by decide +kernel
theorem dX8_judgeUnknowns_68 : decode cX8_judgeUnknowns 68 = .ok (.iload_n 3, 1) := by decide +kernel
theorem dX8_judgeUnknowns_69 : decode cX8_judgeUnknowns 69 = .ok (.invokestatic 93, 3) := by decide +kernel
theorem dX8_judgeUnknowns_72 : decode cX8_judgeUnknowns 72 = .ok (.i2l, 1) := by decide +kernel
theorem dX8_judgeUnknowns_73 : decode cX8_judgeUnknowns 73 = .ok (.lcmp, 1) := by decide +kernel
theorem dX8_judgeUnknowns_74 : decode cX8_judgeUnknowns 74 = .ok (.ifCond .eq 5, 3) := by decide +kernel
theorem dX8_judgeUnknowns_77 : decode cX8_judgeUnknowns 77 = .ok (.iconst 2, 1) := by decide +kernel
theorem dX8_judgeUnknowns_78 : decode cX8_judgeUnknowns 78 = .ok (.ireturn, 1) := by decide +kernel
theorem dX8_judgeUnknowns_79 : decode cX8_judgeUnknowns 79 = .ok (.iinc 3 1, 3) := by decide +kernel
theorem dX8_judgeUnknowns_82 : decode cX8_judgeUnknowns 82 = .ok (.goto (-67), 3) := by decide +kernel
theorem dX8_judgeUnknowns_85 : decode cX8_judgeUnknowns 85 = .ok (.iconst 0, 1) := by decide +kernel
theorem dX8_judgeUnknowns_86 : decode cX8_judgeUnknowns 86 = .ok (.ireturn, 1) := by decide +kernel
theorem dX8_judgeModulus_0 : decode cX8_judgeModulus 0 = .ok (.aload_n 2, 1) := by decide +kernel
theorem dX8_judgeModulus_1 : decode cX8_judgeModulus 1 = .ok (.getfield 135, 3) := by decide +kernel
theorem dX8_judgeModulus_4 : decode cX8_judgeModulus 4 = .ok (.aload_n 1, 1) := by decide +kernel
theorem dX8_judgeModulus_5 : decode cX8_judgeModulus 5 = .ok (.getfield 71, 3) := by decide +kernel
theorem dX8_judgeModulus_8 : decode cX8_judgeModulus 8 = .ok (.iconst 1, 1) := by decide +kernel
theorem dX8_judgeModulus_9 : decode cX8_judgeModulus 9 = .ok (.iadd, 1) := by decide +kernel
theorem dX8_judgeModulus_10 : decode cX8_judgeModulus 10 = .ok (.if_icmp .ne 12, 3) := by decide +kernel
theorem dX8_judgeModulus_13 : decode cX8_judgeModulus 13 = .ok (.aload_n 2, 1) := by decide +kernel
theorem dX8_judgeModulus_14 : decode cX8_judgeModulus 14 = .ok (.iconst 0, 1) := by decide +kernel
theorem dX8_judgeModulus_15 : decode cX8_judgeModulus 15 = .ok (.invokevirtual 67, 3) := by decide +kernel
theorem dX8_judgeModulus_18 : decode cX8_judgeModulus 18 = .ok (.iconst 2, 1) := by decide +kernel
theorem dX8_judgeModulus_19 : decode cX8_judgeModulus 19 = .ok (.if_icmp .ge 5, 3) := by decide +kernel
theorem dX8_judgeModulus_22 : decode cX8_judgeModulus 22 = .ok (.iconst 1, 1) := by decide +kernel
theorem dX8_judgeModulus_23 : decode cX8_judgeModulus 23 = .ok (.ireturn, 1) := by decide +kernel
theorem dX8_judgeModulus_24 : decode cX8_judgeModulus 24 = .ok (.aload_n 1, 1) := by decide +kernel
theorem dX8_judgeModulus_25 : decode cX8_judgeModulus 25 = .ok (.aload_n 2, 1) := by decide +kernel
theorem dX8_judgeModulus_26 : decode cX8_judgeModulus 26 = .ok (.iconst 0, 1) := by decide +kernel
theorem dX8_judgeModulus_27 : decode cX8_judgeModulus 27 = .ok (.invokevirtual 67, 3) := by decide +kernel
theorem dX8_judgeModulus_30 : decode cX8_judgeModulus 30 = .ok (.i2l, 1) := by decide +kernel
theorem dX8_judgeModulus_31 : decode cX8_judgeModulus 31 = .ok (.aload_n 2, 1) := by decide +kernel
theorem dX8_judgeModulus_32 : decode cX8_judgeModulus 32 = .ok (.iconst 1, 1) := by decide +kernel
theorem dX8_judgeModulus_33 : decode cX8_judgeModulus 33 = .ok (.invokevirtual 67, 3) := by decide +kernel
theorem dX8_judgeModulus_36 : decode cX8_judgeModulus 36 = .ok (.i2l, 1) := by decide +kernel
theorem dX8_judgeModulus_37 : decode cX8_judgeModulus 37 = .ok (.aload_n 2, 1) := by decide +kernel
theorem dX8_judgeModulus_38 : decode cX8_judgeModulus 38 = .ok (.iconst 2, 1) := by decide +kernel
theorem dX8_judgeModulus_39 : decode cX8_judgeModulus 39 = .ok (.invokevirtual 67, 3) := by decide +kernel
theorem dX8_judgeModulus_42 : decode cX8_judgeModulus 42 = .ok (.i2l, 1) := by decide +kernel
theorem dX8_judgeModulus_43 : decode cX8_judgeModulus 43 = .ok (.invokestatic 124, 3) := by decide +kernel
theorem dX8_judgeModulus_46 : decode cX8_judgeModulus 46 = .ok (.ifCond .ne 5, 3) := by decide +kernel
theorem dX8_judgeModulus_49 : decode cX8_judgeModulus 49 = .ok (.iconst 2, 1) := by decide +kernel
theorem dX8_judgeModulus_50 : decode cX8_judgeModulus 50 = .ok (.ireturn, 1) := by decide +kernel
theorem dX8_judgeModulus_51 : decode cX8_judgeModulus 51 = .ok (.aload_n 1, 1) := by decide +kernel
theorem dX8_judgeModulus_52 : decode cX8_judgeModulus 52 = .ok (.aload_n 2, 1) := by decide +kernel
theorem dX8_judgeModulus_53 : decode cX8_judgeModulus 53 = .ok (.iconst 0, 1) := by decide +kernel
theorem dX8_judgeModulus_54 : decode cX8_judgeModulus 54 = .ok (.invokevirtual 67, 3) := by decide +kernel
theorem dX8_judgeModulus_57 : decode cX8_judgeModulus 57 = .ok (.i2l, 1) := by decide +kernel
theorem dX8_judgeModulus_58 : decode cX8_judgeModulus 58 = .ok (.aload_n 2, 1) := by decide +kernel
theorem dX8_judgeModulus_59 : decode cX8_judgeModulus 59 = .ok (.iconst 1, 1) := by decide +kernel
theorem dX8_judgeModulus_60 : decode cX8_judgeModulus 60 = .ok (.invokevirtual 67, 3) := by decide +kernel
theorem dX8_judgeModulus_63 : decode cX8_judgeModulus 63 = .ok (.i2l, 1) := by decide +kernel
theorem dX8_judgeModulus_64 : decode cX8_judgeModulus 64 = .ok (.aload_n 2, 1) := by decide +kernel
theorem dX8_judgeModulus_65 : decode cX8_judgeModulus 65 = .ok (.iconst 2, 1) := by decide +kernel
theorem dX8_judgeModulus_66 : decode cX8_judgeModulus 66 = .ok (.invokevirtual 67, 3) := by decide +kernel
theorem dX8_judgeModulus_69 : decode cX8_judgeModulus 69 = .ok (.i2l, 1) := by decide +kernel
theorem dX8_judgeModulus_70 : decode cX8_judgeModulus 70 = .ok (.invokestatic 128, 3) := by decide +kernel
theorem dX8_judgeModulus_73 : decode cX8_judgeModulus 73 = .ok (.ifCond .eq 7, 3) := by decide +kernel
theorem dX8_judgeModulus_76 : decode cX8_judgeModulus 76 = .ok (.iconst 0, 1) := by decide +kernel
theorem dX8_judgeModulus_77 : decode cX8_judgeModulus 77 = .ok (.goto 4, 3) := by decide +kernel
theorem dX8_judgeModulus_80 : decode cX8_judgeModulus 80 = .ok (.iconst 3, 1) := by decide +kernel
theorem dX8_judgeModulus_81 : decode cX8_judgeModulus 81 = .ok (.ireturn, 1) := by decide +kernel
theorem dX8_solvePrimes_0 : decode cX8_solvePrimes 0 = .ok (.aload_n 1, 1) := by decide +kernel
theorem dX8_solvePrimes_1 : decode cX8_solvePrimes 1 = .ok (.getfield 74, 3) := by decide +kernel
theorem dX8_solvePrimes_4 : decode cX8_solvePrimes 4 = .ok (.istore_n 2, 1) := by decide +kernel
theorem dX8_solvePrimes_5 : decode cX8_solvePrimes 5 = .ok (.iload_n 2, 1) := by decide +kernel
theorem dX8_solvePrimes_6 : decode cX8_solvePrimes 6 = .ok (.invokestatic 138, 3) := by decide +kernel
theorem dX8_solvePrimes_9 : decode cX8_solvePrimes 9 = .ok (.istore_n 3, 1) := by decide +kernel
theorem dX8_solvePrimes_10 : decode cX8_solvePrimes 10 = .ok (.aload_n 1, 1) := by decide +kernel
theorem dX8_solvePrimes_11 : decode cX8_solvePrimes 11 = .ok (.iload_n 3, 1) := by decide +kernel
theorem dX8_solvePrimes_12 : decode cX8_solvePrimes 12 = .ok (.iload_n 2, 1) := by decide +kernel
theorem dX8_solvePrimes_13 : decode cX8_solvePrimes 13 = .ok (.if_icmp .ne 7, 3) := by decide +kernel
theorem dX8_solvePrimes_16 : decode cX8_solvePrimes 16 = .ok (.iconst 1, 1) := by decide +kernel
theorem dX8_solvePrimes_17 : decode cX8_solvePrimes 17 = .ok (.goto 4, 3) := by decide +kernel
theorem dX8_solvePrimes_20 : decode cX8_solvePrimes 20 = .ok (.iconst 0, 1) := by decide +kernel
theorem dX8_solvePrimes_21 : decode cX8_solvePrimes 21 = .ok (.iload_n 3, 1) := by decide +kernel
theorem dX8_solvePrimes_22 : decode cX8_solvePrimes 22 = .ok (.invokevirtual 40, 3) := by decide +kernel
theorem dX8_solvePrimes_25 : decode cX8_solvePrimes 25 = .ok (.iload_n 3, 1) := by decide +kernel
theorem dX8_solvePrimes_26 : decode cX8_solvePrimes 26 = .ok (.iload_n 2, 1) := by decide +kernel
theorem dX8_solvePrimes_27 : decode cX8_solvePrimes 27 = .ok (.if_icmp .ne 15, 3) := by decide +kernel
theorem dX8_solvePrimes_30 : decode cX8_solvePrimes 30 = .ok (.iload_n 2, 1) := by decide +kernel
theorem dX8_solvePrimes_31 : decode cX8_solvePrimes 31 = .ok (.aload_n 1, 1) := by decide +kernel
theorem dX8_solvePrimes_32 : decode cX8_solvePrimes 32 = .ok (.getfield 54, 3) := by decide +kernel
theorem dX8_solvePrimes_35 : decode cX8_solvePrimes 35 = .ok (.iconst 0, 1) := by decide +kernel
theorem dX8_solvePrimes_36 : decode cX8_solvePrimes 36 = .ok (.invokestatic 141, 3) := by decide +kernel
theorem dX8_solvePrimes_39 : decode cX8_solvePrimes 39 = .ok (.goto 21, 3) := by decide +kernel
theorem dX8_solvePrimes_42 : decode cX8_solvePrimes 42 = .ok (.aload_n 1, 1) := by decide +kernel
theorem dX8_solvePrimes_43 : decode cX8_solvePrimes 43 = .ok (.getfield 54, 3) := by decide +kernel
theorem dX8_solvePrimes_46 : decode cX8_solvePrimes 46 = .ok (.iload_n 3, 1) := by decide +kernel
theorem dX8_solvePrimes_47 : decode cX8_solvePrimes 47 = .ok (.invokevirtual 58, 3) := by decide +kernel
theorem dX8_solvePrimes_50 : decode cX8_solvePrimes 50 = .ok (.aload_n 1, 1) := by decide +kernel
theorem dX8_solvePrimes_51 : decode cX8_solvePrimes 51 = .ok (.getfield 54, 3) := by decide +kernel
theorem dX8_solvePrimes_54 : decode cX8_solvePrimes 54 = .ok (.iload_n 2, 1) := by decide +kernel
theorem dX8_solvePrimes_55 : decode cX8_solvePrimes 55 = .ok (.iload_n 3, 1) := by decide +kernel
theorem dX8_solvePrimes_56 : decode cX8_solvePrimes 56 = .ok (.idiv, 1) := by decide +kernel
theorem dX8_solvePrimes_57 : decode cX8_solvePrimes 57 = .ok (.invokevirtual 58, 3) := by decide +kernel
theorem dX8_solvePrimes_60 : decode cX8_solvePrimes 60 = .ok (.return_, 1) := by decide +kernel
theorem dX8_leastDivisor_0 : decode cX8_leastDivisor 0 = .ok (.iconst 2, 1) := by decide +kernel
theorem dX8_leastDivisor_1 : decode cX8_leastDivisor 1 = .ok (.istore_n 1, 1) := by decide +kernel
theorem dX8_leastDivisor_2 : decode cX8_leastDivisor 2 = .ok (.iload_n 1, 1) := by decide +kernel
theorem dX8_leastDivisor_3 : decode cX8_leastDivisor 3 = .ok (.iload_n 0, 1) := by decide +kernel
theorem dX8_leastDivisor_4 : decode cX8_leastDivisor 4 = .ok (.iload_n 1, 1) := by decide +kernel
theorem dX8_leastDivisor_5 : decode cX8_leastDivisor 5 = .ok (.idiv, 1) := by decide +kernel
theorem dX8_leastDivisor_6 : decode cX8_leastDivisor 6 = .ok (.if_icmp .gt 17, 3) := by decide +kernel
theorem dX8_leastDivisor_9 : decode cX8_leastDivisor 9 = .ok (.iload_n 0, 1) := by decide +kernel
theorem dX8_leastDivisor_10 : decode cX8_leastDivisor 10 = .ok (.iload_n 1, 1) := by decide +kernel
theorem dX8_leastDivisor_11 : decode cX8_leastDivisor 11 = .ok (.irem, 1) := by decide +kernel
theorem dX8_leastDivisor_12 : decode cX8_leastDivisor 12 = .ok (.ifCond .ne 5, 3) := by decide +kernel
theorem dX8_leastDivisor_15 : decode cX8_leastDivisor 15 = .ok (.iload_n 1, 1) := by decide +kernel
theorem dX8_leastDivisor_16 : decode cX8_leastDivisor 16 = .ok (.ireturn, 1) := by decide +kernel
theorem dX8_leastDivisor_17 : decode cX8_leastDivisor 17 = .ok (.iinc 1 1, 3) := by decide +kernel
theorem dX8_leastDivisor_20 : decode cX8_leastDivisor 20 = .ok (.goto (-18), 3) := by decide +kernel
theorem dX8_leastDivisor_23 : decode cX8_leastDivisor 23 = .ok (.iload_n 0, 1) := by decide +kernel
theorem dX8_leastDivisor_24 : decode cX8_leastDivisor 24 = .ok (.ireturn, 1) := by decide +kernel
theorem dX8_writePrime_0 : decode cX8_writePrime 0 = .ok (.aload_n 1, 1) := by decide +kernel
theorem dX8_writePrime_1 : decode cX8_writePrime 1 = .ok (.iload_n 0, 1) := by decide +kernel
theorem dX8_writePrime_2 : decode cX8_writePrime 2 = .ok (.invokevirtual 58, 3) := by decide +kernel
theorem dX8_writePrime_5 : decode cX8_writePrime 5 = .ok (.iload_n 0, 1) := by decide +kernel
theorem dX8_writePrime_6 : decode cX8_writePrime 6 = .ok (.iconst 2, 1) := by decide +kernel
theorem dX8_writePrime_7 : decode cX8_writePrime 7 = .ok (.if_icmp .le 9, 3) := by decide +kernel
theorem dX8_writePrime_10 : decode cX8_writePrime 10 = .ok (.iload_n 2, 1) := by decide +kernel
theorem dX8_writePrime_11 : decode cX8_writePrime 11 = .ok (.bipush 40, 2) := by decide +kernel
theorem dX8_writePrime_13 : decode cX8_writePrime 13 = .ok (.if_icmp .le 4, 3) := by decide +kernel
theorem dX8_writePrime_16 : decode cX8_writePrime 16 = .ok (.return_, 1) := by decide +kernel
theorem dX8_writePrime_17 : decode cX8_writePrime 17 = .ok (.aload_n 1, 1) := by decide +kernel
theorem dX8_writePrime_18 : decode cX8_writePrime 18 = .ok (.iload_n 0, 1) := by decide +kernel
theorem dX8_writePrime_19 : decode cX8_writePrime 19 = .ok (.invokestatic 145, 3) := by decide +kernel
theorem dX8_writePrime_22 : decode cX8_writePrime 22 = .ok (.invokevirtual 58, 3) := by decide +kernel
theorem dX8_writePrime_25 : decode cX8_writePrime 25 = .ok (.iload_n 0, 1) := by decide +kernel
theorem dX8_writePrime_26 : decode cX8_writePrime 26 = .ok (.iconst 1, 1) := by decide +kernel
theorem dX8_writePrime_27 : decode cX8_writePrime 27 = .ok (.isub, 1) := by decide +kernel
theorem dX8_writePrime_28 : decode cX8_writePrime 28 = .ok (.istore_n 3, 1) := by decide +kernel
theorem dX8_writePrime_29 : decode cX8_writePrime 29 = .ok (.iconst 0, 1) := by decide +kernel
theorem dX8_writePrime_30 : decode cX8_writePrime 30 = .ok (.istore 4, 2) := by decide +kernel
theorem dX8_writePrime_32 : decode cX8_writePrime 32 = .ok (.iload 4, 2) := by decide +kernel
theorem dX8_writePrime_34 : decode cX8_writePrime 34 = .ok (.bipush 40, 2) := by decide +kernel
theorem dX8_writePrime_36 : decode cX8_writePrime 36 = .ok (.if_icmp .ge 36, 3) := by decide +kernel
theorem dX8_writePrime_39 : decode cX8_writePrime 39 = .ok (.iload_n 3, 1) := by decide +kernel
theorem dX8_writePrime_40 : decode cX8_writePrime 40 = .ok (.iconst 1, 1) := by decide +kernel
theorem dX8_writePrime_41 : decode cX8_writePrime 41 = .ok (.if_icmp .le 31, 3) := by decide +kernel
theorem dX8_writePrime_44 : decode cX8_writePrime 44 = .ok (.iload_n 3, 1) := by decide +kernel
theorem dX8_writePrime_45 : decode cX8_writePrime 45 = .ok (.invokestatic 138, 3) := by decide +kernel
theorem dX8_writePrime_48 : decode cX8_writePrime 48 = .ok (.istore 5, 2) := by decide +kernel
theorem dX8_writePrime_50 : decode cX8_writePrime 50 = .ok (.iload 5, 2) := by decide +kernel
theorem dX8_writePrime_52 : decode cX8_writePrime 52 = .ok (.aload_n 1, 1) := by decide +kernel
theorem dX8_writePrime_53 : decode cX8_writePrime 53 = .ok (.iload_n 2, 1) := by decide +kernel
theorem dX8_writePrime_54 : decode cX8_writePrime 54 = .ok (.iconst 1, 1) := by decide +kernel
theorem dX8_writePrime_55 : decode cX8_writePrime 55 = .ok (.iadd, 1) := by decide +kernel
theorem dX8_writePrime_56 : decode cX8_writePrime 56 = .ok (.invokestatic 141, 3) := by decide +kernel
theorem dX8_writePrime_59 : decode cX8_writePrime 59 = .ok (.iload_n 3, 1) := by decide +kernel
theorem dX8_writePrime_60 : decode cX8_writePrime 60 = .ok (.iload 5, 2) := by decide +kernel
theorem dX8_writePrime_62 : decode cX8_writePrime 62 = .ok (.invokestatic 148, 3) := by decide +kernel
theorem dX8_writePrime_65 : decode cX8_writePrime 65 = .ok (.istore_n 3, 1) := by decide +kernel
theorem dX8_writePrime_66 : decode cX8_writePrime 66 = .ok (.iinc 4 1, 3) := by decide +kernel
theorem dX8_writePrime_69 : decode cX8_writePrime 69 = .ok (.goto (-37), 3) := by decide +kernel
theorem dX8_writePrime_72 : decode cX8_writePrime 72 = .ok (.return_, 1) := by decide +kernel
theorem dX8_withoutDivisor_0 : decode cX8_withoutDivisor 0 = .ok (.iload_n 0, 1) := by decide +kernel
theorem dX8_withoutDivisor_1 : decode cX8_withoutDivisor 1 = .ok (.istore_n 2, 1) := by decide +kernel
theorem dX8_withoutDivisor_2 : decode cX8_withoutDivisor 2 = .ok (.iconst 0, 1) := by decide +kernel
theorem dX8_withoutDivisor_3 : decode cX8_withoutDivisor 3 = .ok (.istore_n 3, 1) := by decide +kernel
theorem dX8_withoutDivisor_4 : decode cX8_withoutDivisor 4 = .ok (.iload_n 3, 1) := by decide +kernel
theorem dX8_withoutDivisor_5 : decode cX8_withoutDivisor 5 = .ok (.bipush 32, 2) := by decide +kernel
theorem dX8_withoutDivisor_7 : decode cX8_withoutDivisor 7 = .ok (.if_icmp .ge 29, 3) := by decide +kernel
theorem dX8_withoutDivisor_10 : decode cX8_withoutDivisor 10 = .ok (.iload_n 1, 1) := by decide +kernel
theorem dX8_withoutDivisor_11 : decode cX8_withoutDivisor 11 = .ok (.iconst 1, 1) := by decide +kernel
theorem dX8_withoutDivisor_12 : decode cX8_withoutDivisor 12 = .ok (.if_icmp .le 24, 3) := by decide +kernel
theorem dX8_withoutDivisor_15 : decode cX8_withoutDivisor 15 = .ok (.iload_n 2, 1) := by decide +kernel
theorem dX8_withoutDivisor_16 : decode cX8_withoutDivisor 16 = .ok (.iconst 1, 1) := by decide +kernel
theorem dX8_withoutDivisor_17 : decode cX8_withoutDivisor 17 = .ok (.if_icmp .le 19, 3) := by decide +kernel
theorem dX8_withoutDivisor_20 : decode cX8_withoutDivisor 20 = .ok (.iload_n 2, 1) := by decide +kernel
theorem dX8_withoutDivisor_21 : decode cX8_withoutDivisor 21 = .ok (.iload_n 1, 1) := by decide +kernel
theorem dX8_withoutDivisor_22 : decode cX8_withoutDivisor 22 = .ok (.irem, 1) := by decide +kernel
theorem dX8_withoutDivisor_23 : decode cX8_withoutDivisor 23 = .ok (.ifCond .ne 13, 3) := by decide +kernel
theorem dX8_withoutDivisor_26 : decode cX8_withoutDivisor 26 = .ok (.iload_n 2, 1) := by decide +kernel
theorem dX8_withoutDivisor_27 : decode cX8_withoutDivisor 27 = .ok (.iload_n 1, 1) := by decide +kernel
theorem dX8_withoutDivisor_28 : decode cX8_withoutDivisor 28 = .ok (.idiv, 1) := by decide +kernel
theorem dX8_withoutDivisor_29 : decode cX8_withoutDivisor 29 = .ok (.istore_n 2, 1) := by decide +kernel
theorem dX8_withoutDivisor_30 : decode cX8_withoutDivisor 30 = .ok (.iinc 3 1, 3) := by decide +kernel
theorem dX8_withoutDivisor_33 : decode cX8_withoutDivisor 33 = .ok (.goto (-29), 3) := by decide +kernel
theorem dX8_withoutDivisor_36 : decode cX8_withoutDivisor 36 = .ok (.iload_n 2, 1) := by decide +kernel
theorem dX8_withoutDivisor_37 : decode cX8_withoutDivisor 37 = .ok (.ireturn, 1) := by decide +kernel
theorem dX8_baseOf_0 : decode cX8_baseOf 0 = .ok (.iconst 2, 1) := by decide +kernel
theorem dX8_baseOf_1 : decode cX8_baseOf 1 = .ok (.istore_n 1, 1) := by decide +kernel
theorem dX8_baseOf_2 : decode cX8_baseOf 2 = .ok (.iload_n 1, 1) := by decide +kernel
theorem dX8_baseOf_3 : decode cX8_baseOf 3 = .ok (.iload_n 0, 1) := by decide +kernel
theorem dX8_baseOf_4 : decode cX8_baseOf 4 = .ok (.if_icmp .ge 19, 3) := by decide +kernel
theorem dX8_baseOf_7 : decode cX8_baseOf 7 = .ok (.iload_n 1, 1) := by decide +kernel
theorem dX8_baseOf_8 : decode cX8_baseOf 8 = .ok (.iload_n 0, 1) := by decide +kernel
theorem dX8_baseOf_9 : decode cX8_baseOf 9 = .ok (.invokestatic 151, 3) := by decide +kernel
theorem dX8_baseOf_12 : decode cX8_baseOf 12 = .ok (.ifCond .eq 5, 3) := by decide +kernel
theorem dX8_baseOf_15 : decode cX8_baseOf 15 = .ok (.iload_n 1, 1) := by decide +kernel
theorem dX8_baseOf_16 : decode cX8_baseOf 16 = .ok (.ireturn, 1) := by decide +kernel
theorem dX8_baseOf_17 : decode cX8_baseOf 17 = .ok (.iinc 1 1, 3) := by decide +kernel
theorem dX8_baseOf_20 : decode cX8_baseOf 20 = .ok (.goto (-18), 3) := by decide +kernel
theorem dX8_baseOf_23 : decode cX8_baseOf 23 = .ok (.iconst 1, 1) := by decide +kernel
theorem dX8_baseOf_24 : decode cX8_baseOf 24 = .ok (.ireturn, 1) := by decide +kernel
theorem dX8_isBaseOf_0 : decode cX8_isBaseOf 0 = .ok (.iload_n 1, 1) := by decide +kernel
theorem dX8_isBaseOf_1 : decode cX8_isBaseOf 1 = .ok (.iconst 1, 1) := by decide +kernel
theorem dX8_isBaseOf_2 : decode cX8_isBaseOf 2 = .ok (.isub, 1) := by decide +kernel
theorem dX8_isBaseOf_3 : decode cX8_isBaseOf 3 = .ok (.istore_n 2, 1) := by decide +kernel
theorem dX8_isBaseOf_4 : decode cX8_isBaseOf 4 = .ok (.iconst 0, 1) := by decide +kernel
theorem dX8_isBaseOf_5 : decode cX8_isBaseOf 5 = .ok (.istore_n 3, 1) := by decide +kernel
theorem dX8_isBaseOf_6 : decode cX8_isBaseOf 6 = .ok (.iload_n 3, 1) := by decide +kernel
theorem dX8_isBaseOf_7 : decode cX8_isBaseOf 7 = .ok (.bipush 40, 2) := by decide +kernel
theorem dX8_isBaseOf_9 : decode cX8_isBaseOf 9 = .ok (.if_icmp .ge 50, 3) := by decide +kernel
theorem dX8_isBaseOf_12 : decode cX8_isBaseOf 12 = .ok (.iload_n 2, 1) := by decide +kernel
theorem dX8_isBaseOf_13 : decode cX8_isBaseOf 13 = .ok (.iconst 1, 1) := by decide +kernel
theorem dX8_isBaseOf_14 : decode cX8_isBaseOf 14 = .ok (.if_icmp .le 45, 3) := by decide +kernel
theorem dX8_isBaseOf_17 : decode cX8_isBaseOf 17 = .ok (.iload_n 2, 1) := by decide +kernel
theorem dX8_isBaseOf_18 : decode cX8_isBaseOf 18 = .ok (.invokestatic 138, 3) := by decide +kernel
theorem dX8_isBaseOf_21 : decode cX8_isBaseOf 21 = .ok (.istore 4, 2) := by decide +kernel
theorem dX8_isBaseOf_23 : decode cX8_isBaseOf 23 = .ok (.iload 4, 2) := by decide +kernel
theorem dX8_isBaseOf_25 : decode cX8_isBaseOf 25 = .ok (.iconst 2, 1) := by decide +kernel
theorem dX8_isBaseOf_26 : decode cX8_isBaseOf 26 = .ok (.if_icmp .lt 18, 3) := by decide +kernel
theorem dX8_isBaseOf_29 : decode cX8_isBaseOf 29 = .ok (.iload_n 0, 1) := by decide +kernel
theorem dX8_isBaseOf_30 : decode cX8_isBaseOf 30 = .ok (.iload_n 1, 1) := by decide +kernel
theorem dX8_isBaseOf_31 : decode cX8_isBaseOf 31 = .ok (.iconst 1, 1) := by decide +kernel
theorem dX8_isBaseOf_32 : decode cX8_isBaseOf 32 = .ok (.isub, 1) := by decide +kernel
theorem dX8_isBaseOf_33 : decode cX8_isBaseOf 33 = .ok (.iload 4, 2) := by decide +kernel
theorem dX8_isBaseOf_35 : decode cX8_isBaseOf 35 = .ok (.idiv, 1) := by decide +kernel
theorem dX8_isBaseOf_36 : decode cX8_isBaseOf 36 = .ok (.iload_n 1, 1) := by decide +kernel
theorem dX8_isBaseOf_37 : decode cX8_isBaseOf 37 = .ok (.invokestatic 155, 3) := by decide +kernel
theorem dX8_isBaseOf_40 : decode cX8_isBaseOf 40 = .ok (.iconst 1, 1) := by decide +kernel
theorem dX8_isBaseOf_41 : decode cX8_isBaseOf 41 = .ok (.if_icmp .ne 5, 3) := by decide +kernel
theorem dX8_isBaseOf_44 : decode cX8_isBaseOf 44 = .ok (.iconst 0, 1) := by decide +kernel
theorem dX8_isBaseOf_45 : decode cX8_isBaseOf 45 = .ok (.ireturn, 1) := by decide +kernel
theorem dX8_isBaseOf_46 : decode cX8_isBaseOf 46 = .ok (.iload_n 2, 1) := by decide +kernel
theorem dX8_isBaseOf_47 : decode cX8_isBaseOf 47 = .ok (.iload 4, 2) := by decide +kernel
theorem dX8_isBaseOf_49 : decode cX8_isBaseOf 49 = .ok (.invokestatic 148, 3) := by decide +kernel
theorem dX8_isBaseOf_52 : decode cX8_isBaseOf 52 = .ok (.istore_n 2, 1) := by decide +kernel
theorem dX8_isBaseOf_53 : decode cX8_isBaseOf 53 = .ok (.iinc 3 1, 3) := by decide +kernel
theorem dX8_isBaseOf_56 : decode cX8_isBaseOf 56 = .ok (.goto (-50), 3) := by decide +kernel
theorem dX8_isBaseOf_59 : decode cX8_isBaseOf 59 = .ok (.iconst 1, 1) := by decide +kernel
theorem dX8_isBaseOf_60 : decode cX8_isBaseOf 60 = .ok (.ireturn, 1) := by decide +kernel
theorem dX8_judgePrime_0 : decode cX8_judgePrime 0 = .ok (.aload_n 2, 1) := by decide +kernel
theorem dX8_judgePrime_1 : decode cX8_judgePrime 1 = .ok (.iconst 0, 1) := by decide +kernel
theorem dX8_judgePrime_2 : decode cX8_judgePrime 2 = .ok (.iconst 0, 1) := by decide +kernel
theorem dX8_judgePrime_3 : decode cX8_judgePrime 3 = .ok (.iconst 0, 1) := by decide +kernel
theorem dX8_judgePrime_4 : decode cX8_judgePrime 4 = .ok (.invokestatic 159, 3) := by decide +kernel
theorem dX8_judgePrime_7 : decode cX8_judgePrime 7 = .ok (.aload_n 2, 1) := by decide +kernel
theorem dX8_judgePrime_8 : decode cX8_judgePrime 8 = .ok (.getfield 135, 3) := by decide +kernel
theorem dX8_judgePrime_11 : decode cX8_judgePrime 11 = .ok (.if_icmp .eq 5, 3) := by decide +kernel
theorem dX8_judgePrime_14 : decode cX8_judgePrime 14 = .ok (.iconst 1, 1) := by decide +kernel
theorem dX8_judgePrime_15 : decode cX8_judgePrime 15 = .ok (.ireturn, 1) := by decide +kernel
theorem dX8_judgePrime_16 : decode cX8_judgePrime 16 = .ok (.aload_n 2, 1) := by decide +kernel
theorem dX8_judgePrime_17 : decode cX8_judgePrime 17 = .ok (.iconst 0, 1) := by decide +kernel
theorem dX8_judgePrime_18 : decode cX8_judgePrime 18 = .ok (.invokevirtual 67, 3) := by decide +kernel
theorem dX8_judgePrime_21 : decode cX8_judgePrime 21 = .ok (.aload_n 1, 1) := by decide +kernel
theorem dX8_judgePrime_22 : decode cX8_judgePrime 22 = .ok (.getfield 74, 3) := by decide +kernel
theorem dX8_judgePrime_25 : decode cX8_judgePrime 25 = .ok (.if_icmp .eq 5, 3) := by decide +kernel
theorem dX8_judgePrime_28 : decode cX8_judgePrime 28 = .ok (.iconst 2, 1) := by decide +kernel
theorem dX8_judgePrime_29 : decode cX8_judgePrime 29 = .ok (.ireturn, 1) := by decide +kernel
theorem dX8_judgePrime_30 : decode cX8_judgePrime 30 = .ok (.aload_n 2, 1) := by decide +kernel
theorem dX8_judgePrime_31 : decode cX8_judgePrime 31 = .ok (.iconst 0, 1) := by decide +kernel
theorem dX8_judgePrime_32 : decode cX8_judgePrime 32 = .ok (.iconst 0, 1) := by decide +kernel
theorem dX8_judgePrime_33 : decode cX8_judgePrime 33 = .ok (.iconst 1, 1) := by decide +kernel
theorem dX8_judgePrime_34 : decode cX8_judgePrime 34 = .ok (.invokestatic 159, 3) := by decide +kernel
theorem dX8_judgePrime_37 : decode cX8_judgePrime 37 = .ok (.aload_n 2, 1) := by decide +kernel
theorem dX8_judgePrime_38 : decode cX8_judgePrime 38 = .ok (.getfield 135, 3) := by decide +kernel
theorem dX8_judgePrime_41 : decode cX8_judgePrime 41 = .ok (.if_icmp .ne 7, 3) := by decide +kernel
theorem dX8_judgePrime_44 : decode cX8_judgePrime 44 = .ok (.iconst 0, 1) := by decide +kernel
theorem dX8_judgePrime_45 : decode cX8_judgePrime 45 = .ok (.goto 4, 3) := by decide +kernel
theorem dX8_judgePrime_48 : decode cX8_judgePrime 48 = .ok (.iconst 3, 1) := by decide +kernel
theorem dX8_judgePrime_49 : decode cX8_judgePrime 49 = .ok (.ireturn, 1) := by decide +kernel
theorem dX8_readPrime_0 : decode cX8_readPrime 0 = .ok (.aload_n 0, 1) := by decide +kernel
theorem dX8_readPrime_1 : decode cX8_readPrime 1 = .ok (.iload_n 1, 1) := by decide +kernel
theorem dX8_readPrime_2 : decode cX8_readPrime 2 = .ok (.invokevirtual 67, 3) := by decide +kernel
theorem dX8_readPrime_5 : decode cX8_readPrime 5 = .ok (.istore 4, 2) := by decide +kernel
theorem dX8_readPrime_7 : decode cX8_readPrime 7 = .ok (.iload_n 1, 1) := by decide +kernel
theorem dX8_readPrime_8 : decode cX8_readPrime 8 = .ok (.aload_n 0, 1) := by decide +kernel
theorem dX8_readPrime_9 : decode cX8_readPrime 9 = .ok (.getfield 135, 3) := by decide +kernel
theorem dX8_readPrime_12 : decode cX8_readPrime 12 = .ok (.if_icmp .ge 15, 3) := by decide +kernel
theorem dX8_readPrime_15 : decode cX8_readPrime 15 = .ok (.iload 4, 2) := by decide +kernel
theorem dX8_readPrime_17 : decode cX8_readPrime 17 = .ok (.iconst 2, 1) := by decide +kernel
theorem dX8_readPrime_18 : decode cX8_readPrime 18 = .ok (.if_icmp .lt 9, 3) := by decide +kernel
theorem dX8_readPrime_21 : decode cX8_readPrime 21 = .ok (.iload_n 2, 1) := by decide +kernel
theorem dX8_readPrime_22 : decode cX8_readPrime 22 = .ok (.bipush 40, 2) := by decide +kernel
theorem dX8_readPrime_24 : decode cX8_readPrime 24 = .ok (.if_icmp .le 5, 3) := by decide +kernel
theorem dX8_readPrime_27 : decode cX8_readPrime 27 = .ok (.iconst (-1), 1) := by decide +kernel
theorem dX8_readPrime_28 : decode cX8_readPrime 28 = .ok (.ireturn, 1) := by decide +kernel
theorem dX8_readPrime_29 : decode cX8_readPrime 29 = .ok (.iload 4, 2) := by decide +kernel
theorem dX8_readPrime_31 : decode cX8_readPrime 31 = .ok (.iconst 2, 1) := by decide +kernel
theorem dX8_readPrime_32 : decode cX8_readPrime 32 = .ok (.if_icmp .ne 7, 3) := by decide +kernel
theorem dX8_readPrime_35 : decode cX8_readPrime 35 = .ok (.iload_n 1, 1) := by decide +kernel
theorem dX8_readPrime_36 : decode cX8_readPrime 36 = .ok (.iconst 1, 1) := by decide +kernel
theorem dX8_readPrime_37 : decode cX8_readPrime 37 = .ok (.iadd, 1) := by decide +kernel
theorem dX8_readPrime_38 : decode cX8_readPrime 38 = .ok (.ireturn, 1) := by decide +kernel
theorem dX8_readPrime_39 : decode cX8_readPrime 39 = .ok (.aload_n 0, 1) := by decide +kernel
theorem dX8_readPrime_40 : decode cX8_readPrime 40 = .ok (.iload_n 1, 1) := by decide +kernel
theorem dX8_readPrime_41 : decode cX8_readPrime 41 = .ok (.iconst 1, 1) := by decide +kernel
theorem dX8_readPrime_42 : decode cX8_readPrime 42 = .ok (.iadd, 1) := by decide +kernel
theorem dX8_readPrime_43 : decode cX8_readPrime 43 = .ok (.invokevirtual 67, 3) := by decide +kernel
theorem dX8_readPrime_46 : decode cX8_readPrime 46 = .ok (.istore 5, 2) := by decide +kernel
theorem dX8_readPrime_48 : decode cX8_readPrime 48 = .ok (.iload 5, 2) := by decide +kernel
theorem dX8_readPrime_50 : decode cX8_readPrime 50 = .ok (.iconst 1, 1) := by decide +kernel
theorem dX8_readPrime_51 : decode cX8_readPrime 51 = .ok (.if_icmp .lt 29, 3) := by decide +kernel
theorem dX8_readPrime_54 : decode cX8_readPrime 54 = .ok (.iload 5, 2) := by decide +kernel
theorem dX8_readPrime_56 : decode cX8_readPrime 56 = .ok (.iload 4, 2) := by decide +kernel
theorem dX8_readPrime_58 : decode cX8_readPrime 58 = .ok (.if_icmp .ge 22, 3) := by decide +kernel
theorem dX8_readPrime_61 : decode cX8_readPrime 61 = .ok (.iload_n 3, 1) := by decide +kernel
theorem dX8_readPrime_62 : decode cX8_readPrime 62 = .ok (.ifCond .eq 20, 3) := by decide +kernel
theorem dX8_readPrime_65 : decode cX8_readPrime 65 = .ok (.iload 5, 2) := by decide +kernel
theorem dX8_readPrime_67 : decode cX8_readPrime 67 = .ok (.iload 4, 2) := by decide +kernel
theorem dX8_readPrime_69 : decode cX8_readPrime 69 = .ok (.iconst 1, 1) := by decide +kernel
theorem dX8_readPrime_70 : decode cX8_readPrime 70 = .ok (.isub, 1) := by decide +kernel
theorem dX8_readPrime_71 : decode cX8_readPrime 71 = .ok (.iload 4, 2) := by decide +kernel
theorem dX8_readPrime_73 : decode cX8_readPrime 73 = .ok (.invokestatic 155, 3) := by decide +kernel
theorem dX8_readPrime_76 : decode cX8_readPrime 76 = .ok (.iconst 1, 1) := by decide +kernel
theorem dX8_readPrime_77 : decode cX8_readPrime 77 = .ok (.if_icmp .eq 5, 3) := by decide +kernel
theorem dX8_readPrime_80 : decode cX8_readPrime 80 = .ok (.iconst (-1), 1) := by decide +kernel
theorem dX8_readPrime_81 : decode cX8_readPrime 81 = .ok (.ireturn, 1) := by decide +kernel
theorem dX8_readPrime_82 : decode cX8_readPrime 82 = .ok (.iload_n 1, 1) := by decide +kernel
theorem dX8_readPrime_83 : decode cX8_readPrime 83 = .ok (.iconst 2, 1) := by decide +kernel
theorem dX8_readPrime_84 : decode cX8_readPrime 84 = .ok (.iadd, 1) := by decide +kernel
theorem dX8_readPrime_85 : decode cX8_readPrime 85 = .ok (.istore 6, 2) := by decide +kernel
theorem dX8_readPrime_87 : decode cX8_readPrime 87 = .ok (.iconst 1, 1) := by decide +kernel
theorem dX8_readPrime_88 : decode cX8_readPrime 88 = .ok (.istore 7, 2) := by decide +kernel
theorem dX8_readPrime_90 : decode cX8_readPrime 90 = .ok (.iload 4, 2) := by decide +kernel
theorem dX8_readPrime_92 : decode cX8_readPrime 92 = .ok (.iconst 1, 1) := by decide +kernel
theorem dX8_readPrime_93 : decode cX8_readPrime 93 = .ok (.isub, 1) := by decide +kernel
theorem dX8_readPrime_94 : decode cX8_readPrime 94 = .ok (.istore 8, 2) := by decide +kernel
theorem dX8_readPrime_96 : decode cX8_readPrime 96 = .ok (.iconst 0, 1) := by decide +kernel
theorem dX8_readPrime_97 : decode cX8_readPrime 97 = .ok (.istore 9, 2) := by decide +kernel
theorem dX8_readPrime_99 : decode cX8_readPrime 99 = .ok (.iload 9, 2) := by decide +kernel
theorem dX8_readPrime_101 : decode cX8_readPrime 101 = .ok (.bipush 40, 2) := by decide +kernel
theorem dX8_readPrime_103 : decode cX8_readPrime 103 = .ok (.if_icmp .ge 105, 3) := by decide +kernel
theorem dX8_readPrime_106 : decode cX8_readPrime 106 = .ok (.iload 8, 2) := by decide +kernel
theorem dX8_readPrime_108 : decode cX8_readPrime 108 = .ok (.iconst 1, 1) := by decide +kernel
theorem dX8_readPrime_109 : decode cX8_readPrime 109 = .ok (.if_icmp .eq 99, 3) := by decide +kernel
theorem dX8_readPrime_112 : decode cX8_readPrime 112 = .ok (.iload 6, 2) := by decide +kernel
theorem dX8_readPrime_114 : decode cX8_readPrime 114 = .ok (.aload_n 0, 1) := by decide +kernel
theorem dX8_readPrime_115 : decode cX8_readPrime 115 = .ok (.getfield 135, 3) := by decide +kernel
theorem dX8_readPrime_118 : decode cX8_readPrime 118 = .ok (.if_icmp .ge 90, 3) := by decide +kernel
theorem dX8_readPrime_121 : decode cX8_readPrime 121 = .ok (.aload_n 0, 1) := by decide +kernel
theorem dX8_readPrime_122 : decode cX8_readPrime 122 = .ok (.iload 6, 2) := by decide +kernel
theorem dX8_readPrime_124 : decode cX8_readPrime 124 = .ok (.invokevirtual 67, 3) := by decide +kernel
theorem dX8_readPrime_127 : decode cX8_readPrime 127 = .ok (.istore 10, 2) := by decide +kernel
theorem dX8_readPrime_129 : decode cX8_readPrime 129 = .ok (.iload 10, 2) := by decide +kernel
theorem dX8_readPrime_131 : decode cX8_readPrime 131 = .ok (.iload 7, 2) := by decide +kernel
theorem dX8_readPrime_133 : decode cX8_readPrime 133 = .ok (.if_icmp .le 11, 3) := by decide +kernel
theorem dX8_readPrime_136 : decode cX8_readPrime 136 = .ok (.iload 8, 2) := by decide +kernel
theorem dX8_readPrime_138 : decode cX8_readPrime 138 = .ok (.iload 10, 2) := by decide +kernel
theorem dX8_readPrime_140 : decode cX8_readPrime 140 = .ok (.irem, 1) := by decide +kernel
theorem dX8_readPrime_141 : decode cX8_readPrime 141 = .ok (.ifCond .eq 5, 3) := by decide +kernel
theorem dX8_readPrime_144 : decode cX8_readPrime 144 = .ok (.iconst (-1), 1) := by decide +kernel
theorem dX8_readPrime_145 : decode cX8_readPrime 145 = .ok (.ireturn, 1) := by decide +kernel
theorem dX8_readPrime_146 : decode cX8_readPrime 146 = .ok (.iload_n 3, 1) := by decide +kernel
theorem dX8_readPrime_147 : decode cX8_readPrime 147 = .ok (.ifCond .eq 23, 3) := by decide +kernel
theorem dX8_readPrime_150 : decode cX8_readPrime 150 = .ok (.iload 5, 2) := by decide +kernel
theorem dX8_readPrime_152 : decode cX8_readPrime 152 = .ok (.iload 4, 2) := by decide +kernel
theorem dX8_readPrime_154 : decode cX8_readPrime 154 = .ok (.iconst 1, 1) := by decide +kernel
theorem dX8_readPrime_155 : decode cX8_readPrime 155 = .ok (.isub, 1) := by decide +kernel
theorem dX8_readPrime_156 : decode cX8_readPrime 156 = .ok (.iload 10, 2) := by decide +kernel
theorem dX8_readPrime_158 : decode cX8_readPrime 158 = .ok (.idiv, 1) := by decide +kernel
theorem dX8_readPrime_159 : decode cX8_readPrime 159 = .ok (.iload 4, 2) := by decide +kernel
theorem dX8_readPrime_161 : decode cX8_readPrime 161 = .ok (.invokestatic 155, 3) := by decide +kernel
theorem dX8_readPrime_164 : decode cX8_readPrime 164 = .ok (.iconst 1, 1) := by decide +kernel
theorem dX8_readPrime_165 : decode cX8_readPrime 165 = .ok (.if_icmp .ne 5, 3) := by decide +kernel
theorem dX8_readPrime_168 : decode cX8_readPrime 168 = .ok (.iconst (-1), 1) := by decide +kernel
theorem dX8_readPrime_169 : decode cX8_readPrime 169 = .ok (.ireturn, 1) := by decide +kernel
theorem dX8_readPrime_170 : decode cX8_readPrime 170 = .ok (.aload_n 0, 1) := by decide +kernel
theorem dX8_readPrime_171 : decode cX8_readPrime 171 = .ok (.iload 6, 2) := by decide +kernel
theorem dX8_readPrime_173 : decode cX8_readPrime 173 = .ok (.iload_n 2, 1) := by decide +kernel
theorem dX8_readPrime_174 : decode cX8_readPrime 174 = .ok (.iconst 1, 1) := by decide +kernel
theorem dX8_readPrime_175 : decode cX8_readPrime 175 = .ok (.iadd, 1) := by decide +kernel
theorem dX8_readPrime_176 : decode cX8_readPrime 176 = .ok (.iload_n 3, 1) := by decide +kernel
theorem dX8_readPrime_177 : decode cX8_readPrime 177 = .ok (.invokestatic 159, 3) := by decide +kernel
theorem dX8_readPrime_180 : decode cX8_readPrime 180 = .ok (.istore 6, 2) := by decide +kernel
theorem dX8_readPrime_182 : decode cX8_readPrime 182 = .ok (.iload 6, 2) := by decide +kernel
theorem dX8_readPrime_184 : decode cX8_readPrime 184 = .ok (.ifCond .ge 5, 3) := by decide +kernel
theorem dX8_readPrime_187 : decode cX8_readPrime 187 = .ok (.iconst (-1), 1) := by decide +kernel
theorem dX8_readPrime_188 : decode cX8_readPrime 188 = .ok (.ireturn, 1) := by decide +kernel
theorem dX8_readPrime_189 : decode cX8_readPrime 189 = .ok (.iload 10, 2) := by decide +kernel
theorem dX8_readPrime_191 : decode cX8_readPrime 191 = .ok (.istore 7, 2) := by decide +kernel
theorem dX8_readPrime_193 : decode cX8_readPrime 193 = .ok (.iload 8, 2) := by decide +kernel
theorem dX8_readPrime_195 : decode cX8_readPrime 195 = .ok (.iload 10, 2) := by decide +kernel
theorem dX8_readPrime_197 : decode cX8_readPrime 197 = .ok (.invokestatic 148, 3) := by decide +kernel
theorem dX8_readPrime_200 : decode cX8_readPrime 200 = .ok (.istore 8, 2) := by decide +kernel
theorem dX8_readPrime_202 : decode cX8_readPrime 202 = .ok (.iinc 9 1, 3) := by decide +kernel
theorem dX8_readPrime_205 : decode cX8_readPrime 205 = .ok (.goto (-106), 3) := by decide +kernel
theorem dX8_readPrime_208 : decode cX8_readPrime 208 = .ok (.iload 8, 2) := by decide +kernel
theorem dX8_readPrime_210 : decode cX8_readPrime 210 = .ok (.iconst 1, 1) := by decide +kernel
theorem dX8_readPrime_211 : decode cX8_readPrime 211 = .ok (.if_icmp .ne 8, 3) := by decide +kernel
theorem dX8_readPrime_214 : decode cX8_readPrime 214 = .ok (.iload 6, 2) := by decide +kernel
theorem dX8_readPrime_216 : decode cX8_readPrime 216 = .ok (.goto 4, 3) := by decide +kernel
theorem dX8_readPrime_219 : decode cX8_readPrime 219 = .ok (.iconst (-1), 1) := by decide +kernel
theorem dX8_readPrime_220 : decode cX8_readPrime 220 = .ok (.ireturn, 1) := by decide +kernel
theorem dX8_judgeProduct_0 : decode cX8_judgeProduct 0 = .ok (.aload_n 2, 1) := by decide +kernel
theorem dX8_judgeProduct_1 : decode cX8_judgeProduct 1 = .ok (.getfield 135, 3) := by decide +kernel
theorem dX8_judgeProduct_4 : decode cX8_judgeProduct 4 = .ok (.iconst 2, 1) := by decide +kernel
theorem dX8_judgeProduct_5 : decode cX8_judgeProduct 5 = .ok (.if_icmp .ne 21, 3) := by decide +kernel
theorem dX8_judgeProduct_8 : decode cX8_judgeProduct 8 = .ok (.aload_n 2, 1) := by decide +kernel
theorem dX8_judgeProduct_9 : decode cX8_judgeProduct 9 = .ok (.iconst 0, 1) := by decide +kernel
theorem dX8_judgeProduct_10 : decode cX8_judgeProduct 10 = .ok (.invokevirtual 67, 3) := by decide +kernel
theorem dX8_judgeProduct_13 : decode cX8_judgeProduct 13 = .ok (.iconst 2, 1) := by decide +kernel
theorem dX8_judgeProduct_14 : decode cX8_judgeProduct 14 = .ok (.if_icmp .lt 12, 3) := by decide +kernel
theorem dX8_judgeProduct_17 : decode cX8_judgeProduct 17 = .ok (.aload_n 2, 1) := by decide +kernel
theorem dX8_judgeProduct_18 : decode cX8_judgeProduct 18 = .ok (.iconst 1, 1) := by decide +kernel
theorem dX8_judgeProduct_19 : decode cX8_judgeProduct 19 = .ok (.invokevirtual 67, 3) := by decide +kernel
theorem dX8_judgeProduct_22 : decode cX8_judgeProduct 22 = .ok (.iconst 2, 1) := by decide +kernel
theorem dX8_judgeProduct_23 : decode cX8_judgeProduct 23 = .ok (.if_icmp .ge 5, 3) := by decide +kernel
theorem dX8_judgeProduct_26 : decode cX8_judgeProduct 26 = .ok (.iconst 1, 1) := by decide +kernel
theorem dX8_judgeProduct_27 : decode cX8_judgeProduct 27 = .ok (.ireturn, 1) := by decide +kernel
theorem dX8_judgeProduct_28 : decode cX8_judgeProduct 28 = .ok (.aload_n 2, 1) := by decide +kernel
theorem dX8_judgeProduct_29 : decode cX8_judgeProduct 29 = .ok (.iconst 0, 1) := by decide +kernel
theorem dX8_judgeProduct_30 : decode cX8_judgeProduct 30 = .ok (.invokevirtual 67, 3) := by decide +kernel
theorem dX8_judgeProduct_33 : decode cX8_judgeProduct 33 = .ok (.i2l, 1) := by decide +kernel
theorem dX8_judgeProduct_34 : decode cX8_judgeProduct 34 = .ok (.aload_n 2, 1) := by decide +kernel
theorem dX8_judgeProduct_35 : decode cX8_judgeProduct 35 = .ok (.iconst 1, 1) := by decide +kernel
theorem dX8_judgeProduct_36 : decode cX8_judgeProduct 36 = .ok (.invokevirtual 67, 3) := by decide +kernel
theorem dX8_judgeProduct_39 : decode cX8_judgeProduct 39 = .ok (.i2l, 1) := by decide +kernel
theorem dX8_judgeProduct_40 : decode cX8_judgeProduct 40 = .ok (.lmul, 1) := by decide +kernel
theorem dX8_judgeProduct_41 : decode cX8_judgeProduct 41 = .ok (.aload_n 1, 1) := by decide +kernel
theorem dX8_judgeProduct_42 : decode cX8_judgeProduct 42 = .ok (.getfield 74, 3) := by decide +kernel
theorem dX8_judgeProduct_45 : decode cX8_judgeProduct 45 = .ok (.i2l, 1) := by decide +kernel
theorem dX8_judgeProduct_46 : decode cX8_judgeProduct 46 = .ok (.lcmp, 1) := by decide +kernel
theorem dX8_judgeProduct_47 : decode cX8_judgeProduct 47 = .ok (.ifCond .ne 7, 3) := by decide +kernel
theorem dX8_judgeProduct_50 : decode cX8_judgeProduct 50 = .ok (.iconst 0, 1) := by decide +kernel
theorem dX8_judgeProduct_51 : decode cX8_judgeProduct 51 = .ok (.goto 4, 3) := by decide +kernel
theorem dX8_judgeProduct_54 : decode cX8_judgeProduct 54 = .ok (.iconst 2, 1) := by decide +kernel
theorem dX8_judgeProduct_55 : decode cX8_judgeProduct 55 = .ok (.ireturn, 1) := by decide +kernel
theorem dX8_solveRoots_0 : decode cX8_solveRoots 0 = .ok (.aload_n 0, 1) := by decide +kernel
theorem dX8_solveRoots_1 : decode cX8_solveRoots 1 = .ok (.aload_n 1, 1) := by decide +kernel
theorem dX8_solveRoots_2 : decode cX8_solveRoots 2 = .ok (.invokevirtual 163, 3) := by decide +kernel
theorem dX8_solveRoots_5 : decode cX8_solveRoots 5 = .ok (.aload_n 0, 1) := by decide +kernel
theorem dX8_solveRoots_6 : decode cX8_solveRoots 6 = .ok (.iconst 0, 1) := by decide +kernel
theorem dX8_solveRoots_7 : decode cX8_solveRoots 7 = .ok (.iconst 0, 1) := by decide +kernel
theorem dX8_solveRoots_8 : decode cX8_solveRoots 8 = .ok (.invokevirtual 166, 3) := by decide +kernel
theorem dX8_solveRoots_11 : decode cX8_solveRoots 11 = .ok (.istore_n 2, 1) := by decide +kernel
theorem dX8_solveRoots_12 : decode cX8_solveRoots 12 = .ok (.iload_n 2, 1) := by decide +kernel
theorem dX8_solveRoots_13 : decode cX8_solveRoots 13 = .ok (.aload_n 1, 1) := by decide +kernel
theorem dX8_solveRoots_14 : decode cX8_solveRoots 14 = .ok (.getfield 74, 3) := by decide +kernel
theorem dX8_solveRoots_17 : decode cX8_solveRoots 17 = .ok (.if_icmp .lt 7, 3) := by decide +kernel
theorem dX8_solveRoots_20 : decode cX8_solveRoots 20 = .ok (.iconst 1, 1) := by decide +kernel
theorem dX8_solveRoots_21 : decode cX8_solveRoots 21 = .ok (.goto 4, 3) := by decide +kernel
theorem dX8_solveRoots_24 : decode cX8_solveRoots 24 = .ok (.iconst 0, 1) := by decide +kernel
theorem dX8_solveRoots_25 : decode cX8_solveRoots 25 = .ok (.istore_n 3, 1) := by decide +kernel
theorem dX8_solveRoots_26 : decode cX8_solveRoots 26 = .ok (.aload_n 1, 1) := by decide +kernel
theorem dX8_solveRoots_27 : decode cX8_solveRoots 27 = .ok (.iload_n 3, 1) := by decide +kernel
theorem dX8_solveRoots_28 : decode cX8_solveRoots 28 = .ok (.iload_n 2, 1) := by decide +kernel
theorem dX8_solveRoots_29 : decode cX8_solveRoots 29 = .ok (.invokevirtual 40, 3) := by decide +kernel
theorem dX8_solveRoots_32 : decode cX8_solveRoots 32 = .ok (.iload_n 3, 1) := by decide +kernel
theorem dX8_solveRoots_33 : decode cX8_solveRoots 33 = .ok (.ifCond .eq 16, 3) := by decide +kernel
theorem dX8_solveRoots_36 : decode cX8_solveRoots 36 = .ok (.aload_n 0, 1) := by decide +kernel
theorem dX8_solveRoots_37 : decode cX8_solveRoots 37 = .ok (.iconst 0, 1) := by decide +kernel
theorem dX8_solveRoots_38 : decode cX8_solveRoots 38 = .ok (.iconst 0, 1) := by decide +kernel
theorem dX8_solveRoots_39 : decode cX8_solveRoots 39 = .ok (.aload_n 1, 1) := by decide +kernel
theorem dX8_solveRoots_40 : decode cX8_solveRoots 40 = .ok (.getfield 54, 3) := by decide +kernel
theorem dX8_solveRoots_43 : decode cX8_solveRoots 43 = .ok (.invokevirtual 169, 3) := by decide +kernel
theorem dX8_solveRoots_46 : decode cX8_solveRoots 46 = .ok (.goto 36, 3) := by decide +kernel
theorem dX8_solveRoots_49 : decode cX8_solveRoots 49 = .ok (.iconst 0, 1) := by decide +kernel
theorem dX8_solveRoots_50 : decode cX8_solveRoots 50 = .ok (.istore 4, 2) := by decide +kernel
theorem dX8_solveRoots_52 : decode cX8_solveRoots 52 = .ok (.iload 4, 2) := by decide +kernel
theorem dX8_solveRoots_54 : decode cX8_solveRoots 54 = .ok (.iconst 2, 1) := by decide +kernel
theorem dX8_solveRoots_55 : decode cX8_solveRoots 55 = .ok (.aload_n 0, 1) := by decide +kernel
theorem dX8_solveRoots_56 : decode cX8_solveRoots 56 = .ok (.getfield 173, 3) := by decide +kernel
theorem dX8_solveRoots_59 : decode cX8_solveRoots 59 = .ok (.imul, 1) := by decide +kernel
theorem dX8_solveRoots_60 : decode cX8_solveRoots 60 = .ok (.if_icmp .ge 22, 3) := by decide +kernel
theorem dX8_solveRoots_63 : decode cX8_solveRoots 63 = .ok (.aload_n 1, 1) := by decide +kernel
theorem dX8_solveRoots_64 : decode cX8_solveRoots 64 = .ok (.getfield 54, 3) := by decide +kernel
theorem dX8_solveRoots_67 : decode cX8_solveRoots 67 = .ok (.aload_n 0, 1) := by decide +kernel
theorem dX8_solveRoots_68 : decode cX8_solveRoots 68 = .ok (.iload 4, 2) := by decide +kernel
theorem dX8_solveRoots_70 : decode cX8_solveRoots 70 = .ok (.invokevirtual 176, 3) := by decide +kernel
theorem dX8_solveRoots_73 : decode cX8_solveRoots 73 = .ok (.invokevirtual 58, 3) := by decide +kernel
theorem dX8_solveRoots_76 : decode cX8_solveRoots 76 = .ok (.iinc 4 1, 3) := by decide +kernel
theorem dX8_solveRoots_79 : decode cX8_solveRoots 79 = .ok (.goto (-27), 3) := by decide +kernel
theorem dX8_solveRoots_82 : decode cX8_solveRoots 82 = .ok (.return_, 1) := by decide +kernel
theorem dX8_writeParts_0 : decode cX8_writeParts 0 = .ok (.aload_n 0, 1) := by decide +kernel
theorem dX8_writeParts_1 : decode cX8_writeParts 1 = .ok (.iload_n 1, 1) := by decide +kernel
theorem dX8_writeParts_2 : decode cX8_writeParts 2 = .ok (.iload_n 2, 1) := by decide +kernel
theorem dX8_writeParts_3 : decode cX8_writeParts 3 = .ok (.invokevirtual 166, 3) := by decide +kernel
theorem dX8_writeParts_6 : decode cX8_writeParts 6 = .ok (.istore 4, 2) := by decide +kernel
theorem dX8_writeParts_8 : decode cX8_writeParts 8 = .ok (.iload 4, 2) := by decide +kernel
theorem dX8_writeParts_10 : decode cX8_writeParts 10 = .ok (.iconst 1, 1) := by decide +kernel
theorem dX8_writeParts_11 : decode cX8_writeParts 11 = .ok (.if_icmp .ne 16, 3) := by decide +kernel
theorem dX8_writeParts_14 : decode cX8_writeParts 14 = .ok (.aload_n 3, 1) := by decide +kernel
theorem dX8_writeParts_15 : decode cX8_writeParts 15 = .ok (.iload_n 1, 1) := by decide +kernel
theorem dX8_writeParts_16 : decode cX8_writeParts 16 = .ok (.invokevirtual 58, 3) := by decide +kernel
theorem dX8_writeParts_19 : decode cX8_writeParts 19 = .ok (.aload_n 3, 1) := by decide +kernel
theorem dX8_writeParts_20 : decode cX8_writeParts 20 = .ok (.iload_n 2, 1) := by decide +kernel
theorem dX8_writeParts_21 : decode cX8_writeParts 21 = .ok (.invokevirtual 58, 3) := by decide +kernel
theorem dX8_writeParts_24 : decode cX8_writeParts 24 = .ok (.goto 39, 3) := by decide +kernel
theorem dX8_writeParts_27 : decode cX8_writeParts 27 = .ok (.iload 4, 2) := by decide +kernel
theorem dX8_writeParts_29 : decode cX8_writeParts 29 = .ok (.iconst 1, 1) := by decide +kernel
theorem dX8_writeParts_30 : decode cX8_writeParts 30 = .ok (.if_icmp .le 33, 3) := by decide +kernel
theorem dX8_writeParts_33 : decode cX8_writeParts 33 = .ok (.iload_n 1, 1) := by decide +kernel
theorem dX8_writeParts_34 : decode cX8_writeParts 34 = .ok (.bipush 16, 2) := by decide +kernel
theorem dX8_writeParts_36 : decode cX8_writeParts 36 = .ok (.if_icmp .ge 27, 3) := by decide +kernel
theorem dX8_writeParts_39 : decode cX8_writeParts 39 = .ok (.aload_n 0, 1) := by decide +kernel
theorem dX8_writeParts_40 : decode cX8_writeParts 40 = .ok (.iload_n 1, 1) := by decide +kernel
theorem dX8_writeParts_41 : decode cX8_writeParts 41 = .ok (.iconst 1, 1) := by decide +kernel
theorem dX8_writeParts_42 : decode cX8_writeParts 42 = .ok (.iadd, 1) := by decide +kernel
theorem dX8_writeParts_43 : decode cX8_writeParts 43 = .ok (.iconst 2, 1) := by decide +kernel
theorem dX8_writeParts_44 : decode cX8_writeParts 44 = .ok (.iload_n 2, 1) := by decide +kernel
theorem dX8_writeParts_45 : decode cX8_writeParts 45 = .ok (.imul, 1) := by decide +kernel
theorem dX8_writeParts_46 : decode cX8_writeParts 46 = .ok (.aload_n 3, 1) := by decide +kernel
theorem dX8_writeParts_47 : decode cX8_writeParts 47 = .ok (.invokevirtual 169, 3) := by decide +kernel
theorem dX8_writeParts_50 : decode cX8_writeParts 50 = .ok (.aload_n 0, 1) := by decide +kernel
theorem dX8_writeParts_51 : decode cX8_writeParts 51 = .ok (.iload_n 1, 1) := by decide +kernel
theorem dX8_writeParts_52 : decode cX8_writeParts 52 = .ok (.iconst 1, 1) := by decide +kernel
theorem dX8_writeParts_53 : decode cX8_writeParts 53 = .ok (.iadd, 1) := by decide +kernel
theorem dX8_writeParts_54 : decode cX8_writeParts 54 = .ok (.iconst 2, 1) := by decide +kernel
theorem dX8_writeParts_55 : decode cX8_writeParts 55 = .ok (.iload_n 2, 1) := by decide +kernel
theorem dX8_writeParts_56 : decode cX8_writeParts 56 = .ok (.imul, 1) := by decide +kernel
theorem dX8_writeParts_57 : decode cX8_writeParts 57 = .ok (.iconst 1, 1) := by decide +kernel
theorem dX8_writeParts_58 : decode cX8_writeParts 58 = .ok (.iadd, 1) := by decide +kernel
theorem dX8_writeParts_59 : decode cX8_writeParts 59 = .ok (.aload_n 3, 1) := by decide +kernel
theorem dX8_writeParts_60 : decode cX8_writeParts 60 = .ok (.invokevirtual 169, 3) := by decide +kernel
theorem dX8_writeParts_63 : decode cX8_writeParts 63 = .ok (.return_, 1) := by decide +kernel
theorem dX8_rootsOfPart_0 : decode cX8_rootsOfPart 0 = .ok (.aload_n 0, 1) := by decide +kernel
theorem dX8_rootsOfPart_1 : decode cX8_rootsOfPart 1 = .ok (.iload_n 1, 1) := by decide +kernel
theorem dX8_rootsOfPart_2 : decode cX8_rootsOfPart 2 = .ok (.iload_n 2, 1) := by decide +kernel
theorem dX8_rootsOfPart_3 : decode cX8_rootsOfPart 3 = .ok (.invokevirtual 179, 3) := by decide +kernel
theorem dX8_rootsOfPart_6 : decode cX8_rootsOfPart 6 = .ok (.aload_n 0, 1) := by decide +kernel
theorem dX8_rootsOfPart_7 : decode cX8_rootsOfPart 7 = .ok (.iload_n 1, 1) := by decide +kernel
theorem dX8_rootsOfPart_8 : decode cX8_rootsOfPart 8 = .ok (.iload_n 2, 1) := by decide +kernel
theorem dX8_rootsOfPart_9 : decode cX8_rootsOfPart 9 = .ok (.iconst 1, 1) := by decide +kernel
theorem dX8_rootsOfPart_10 : decode cX8_rootsOfPart 10 = .ok (.iadd, 1) := by decide +kernel
theorem dX8_rootsOfPart_11 : decode cX8_rootsOfPart 11 = .ok (.invokevirtual 179, 3) := by decide +kernel
theorem dX8_rootsOfPart_14 : decode cX8_rootsOfPart 14 = .ok (.isub, 1) := by decide +kernel
theorem dX8_rootsOfPart_15 : decode cX8_rootsOfPart 15 = .ok (.ireturn, 1) := by decide +kernel
theorem dX8_buildChain_0 : decode cX8_buildChain 0 = .ok (.aload_n 0, 1) := by decide +kernel
theorem dX8_buildChain_1 : decode cX8_buildChain 1 = .ok (.iconst 0, 1) := by decide +kernel
theorem dX8_buildChain_2 : decode cX8_buildChain 2 = .ok (.putfield 173, 3) := by decide +kernel
theorem dX8_buildChain_5 : decode cX8_buildChain 5 = .ok (.iconst 0, 1) := by decide +kernel
theorem dX8_buildChain_6 : decode cX8_buildChain 6 = .ok (.istore_n 2, 1) := by decide +kernel
theorem dX8_buildChain_7 : decode cX8_buildChain 7 = .ok (.iload_n 2, 1) := by decide +kernel
theorem dX8_buildChain_8 : decode cX8_buildChain 8 = .ok (.iconst 4, 1) := by decide +kernel
theorem dX8_buildChain_9 : decode cX8_buildChain 9 = .ok (.if_icmp .ge 24, 3) := by decide +kernel
theorem dX8_buildChain_12 : decode cX8_buildChain 12 = .ok (.aload_n 0, 1) := by decide +kernel
theorem dX8_buildChain_13 : decode cX8_buildChain 13 = .ok (.getfield 23, 3) := by decide +kernel
theorem dX8_buildChain_16 : decode cX8_buildChain 16 = .ok (.iconst 0, 1) := by decide +kernel
theorem dX8_buildChain_17 : decode cX8_buildChain 17 = .ok (.aaload, 1) := by decide +kernel
theorem dX8_buildChain_18 : decode cX8_buildChain 18 = .ok (.iload_n 2, 1) := by decide +kernel
theorem dX8_buildChain_19 : decode cX8_buildChain 19 = .ok (.aload_n 1, 1) := by decide +kernel
theorem dX8_buildChain_20 : decode cX8_buildChain 20 = .ok (.iconst 0, 1) := by decide +kernel
theorem dX8_buildChain_21 : decode cX8_buildChain 21 = .ok (.iload_n 2, 1) := by decide +kernel
theorem dX8_buildChain_22 : decode cX8_buildChain 22 = .ok (.invokevirtual 77, 3) := by decide +kernel
theorem dX8_buildChain_25 : decode cX8_buildChain 25 = .ok (.i2l, 1) := by decide +kernel
theorem dX8_buildChain_26 : decode cX8_buildChain 26 = .ok (.lastore, 1) := by decide +kernel
theorem dX8_buildChain_27 : decode cX8_buildChain 27 = .ok (.iinc 2 1, 3) := by decide +kernel
theorem dX8_buildChain_30 : decode cX8_buildChain 30 = .ok (.goto (-23), 3) := by decide +kernel
theorem dX8_buildChain_33 : decode cX8_buildChain 33 = .ok (.aload_n 0, 1) := by decide +kernel
theorem dX8_buildChain_34 : decode cX8_buildChain 34 = .ok (.getfield 23, 3) := by decide +kernel
theorem dX8_buildChain_37 : decode cX8_buildChain 37 = .ok (.iconst 0, 1) := by decide +kernel
theorem dX8_buildChain_38 : decode cX8_buildChain 38 = .ok (.aaload, 1) := by decide +kernel
theorem dX8_buildChain_39 : decode cX8_buildChain 39 = .ok (.invokestatic 182, 3) := by decide +kernel
theorem dX8_buildChain_42 : decode cX8_buildChain 42 = .ok (.istore_n 2, 1) := by decide +kernel
theorem dX8_buildChain_43 : decode cX8_buildChain 43 = .ok (.iload_n 2, 1) := by decide +kernel
theorem dX8_buildChain_44 : decode cX8_buildChain 44 = .ok (.ifCond .ge 4, 3) := by decide +kernel
theorem dX8_buildChain_47 : decode cX8_buildChain 47 = .ok (.return_, 1) := by decide +kernel
theorem dX8_buildChain_48 : decode cX8_buildChain 48 = .ok (.aload_n 0, 1) := by decide +kernel
theorem dX8_buildChain_49 : decode cX8_buildChain 49 = .ok (.getfield 26, 3) := by decide +kernel
theorem dX8_buildChain_52 : decode cX8_buildChain 52 = .ok (.iconst 0, 1) := by decide +kernel
theorem dX8_buildChain_53 : decode cX8_buildChain 53 = .ok (.iload_n 2, 1) := by decide +kernel
theorem dX8_buildChain_54 : decode cX8_buildChain 54 = .ok (.iastore, 1) := by decide +kernel
theorem dX8_buildChain_55 : decode cX8_buildChain 55 = .ok (.aload_n 0, 1) := by decide +kernel
theorem dX8_buildChain_56 : decode cX8_buildChain 56 = .ok (.invokevirtual 186, 3) := by decide +kernel
theorem dX8_buildChain_59 : decode cX8_buildChain 59 = .ok (.aload_n 0, 1) := by decide +kernel
theorem dX8_buildChain_60 : decode cX8_buildChain 60 = .ok (.aload_n 0, 1) := by decide +kernel
theorem dX8_buildChain_61 : decode cX8_buildChain 61 = .ok (.getfield 173, 3) := by decide +kernel
theorem dX8_buildChain_64 : decode cX8_buildChain 64 = .ok (.iconst 1, 1) := by decide +kernel
theorem dX8_buildChain_65 : decode cX8_buildChain 65 = .ok (.isub, 1) := by decide +kernel
theorem dX8_buildChain_66 : decode cX8_buildChain 66 = .ok (.invokevirtual 189, 3) := by decide +kernel
theorem dX8_buildChain_69 : decode cX8_buildChain 69 = .ok (.aload_n 0, 1) := by decide +kernel
theorem dX8_buildChain_70 : decode cX8_buildChain 70 = .ok (.invokevirtual 186, 3) := by decide +kernel
theorem dX8_buildChain_73 : decode cX8_buildChain 73 = .ok (.return_, 1) := by decide +kernel
theorem dX8_degreeOf_0 : decode cX8_degreeOf 0 = .ok (.iconst (-1), 1) := by decide +kernel
theorem dX8_degreeOf_1 : decode cX8_degreeOf 1 = .ok (.istore_n 1, 1) := by decide +kernel
theorem dX8_degreeOf_2 : decode cX8_degreeOf 2 = .ok (.iconst 0, 1) := by decide +kernel
theorem dX8_degreeOf_3 : decode cX8_degreeOf 3 = .ok (.istore_n 2, 1) := by decide +kernel
theorem dX8_degreeOf_4 : decode cX8_degreeOf 4 = .ok (.iload_n 2, 1) := by decide +kernel
theorem dX8_degreeOf_5 : decode cX8_degreeOf 5 = .ok (.aload_n 0, 1) := by decide +kernel
theorem dX8_degreeOf_6 : decode cX8_degreeOf 6 = .ok (.arraylength, 1) := by decide +kernel
theorem dX8_degreeOf_7 : decode cX8_degreeOf 7 = .ok (.if_icmp .ge 19, 3) := by decide +kernel
theorem dX8_degreeOf_10 : decode cX8_degreeOf 10 = .ok (.aload_n 0, 1) := by decide +kernel
theorem dX8_degreeOf_11 : decode cX8_degreeOf 11 = .ok (.iload_n 2, 1) := by decide +kernel
theorem dX8_degreeOf_12 : decode cX8_degreeOf 12 = .ok (.laload, 1) := by decide +kernel
theorem dX8_degreeOf_13 : decode cX8_degreeOf 13 = .ok (.lconst 0, 1) := by decide +kernel
theorem dX8_degreeOf_14 : decode cX8_degreeOf 14 = .ok (.lcmp, 1) := by decide +kernel
theorem dX8_degreeOf_15 : decode cX8_degreeOf 15 = .ok (.ifCond .eq 5, 3) := by decide +kernel
theorem dX8_degreeOf_18 : decode cX8_degreeOf 18 = .ok (.iload_n 2, 1) := by decide +kernel
theorem dX8_degreeOf_19 : decode cX8_degreeOf 19 = .ok (.istore_n 1, 1) := by decide +kernel
theorem dX8_degreeOf_20 : decode cX8_degreeOf 20 = .ok (.iinc 2 1, 3) := by decide +kernel
theorem dX8_degreeOf_23 : decode cX8_degreeOf 23 = .ok (.goto (-19), 3) := by decide +kernel
theorem dX8_degreeOf_26 : decode cX8_degreeOf 26 = .ok (.iload_n 1, 1) := by decide +kernel
theorem dX8_degreeOf_27 : decode cX8_degreeOf 27 = .ok (.ireturn, 1) := by decide +kernel
theorem dX8_continueChain_0 : decode cX8_continueChain 0 = .ok (.aload_n 0, 1) := by decide +kernel
theorem dX8_continueChain_1 : decode cX8_continueChain 1 = .ok (.iconst 1, 1) := by decide +kernel
theorem dX8_continueChain_2 : decode cX8_continueChain 2 = .ok (.putfield 173, 3) := by decide +kernel
theorem dX8_continueChain_5 : decode cX8_continueChain 5 = .ok (.aload_n 0, 1) := by decide +kernel
theorem dX8_continueChain_6 : decode cX8_continueChain 6 = .ok (.getfield 26, 3) := by decide +kernel
theorem dX8_continueChain_9 : decode cX8_continueChain 9 = .ok (.iconst 0, 1) := by decide +kernel
theorem dX8_continueChain_10 : decode cX8_continueChain 10 = .ok (.iaload, 1) := by decide +kernel
theorem dX8_continueChain_11 : decode cX8_continueChain 11 = .ok (.ifCond .ne 4, 3) := by decide +kernel
theorem dX8_continueChain_14 : decode cX8_continueChain 14 = .ok (.return_, 1) := by decide +kernel
theorem dX8_continueChain_15 : decode cX8_continueChain 15 = .ok (.aload_n 0, 1) := by decide +kernel
theorem dX8_continueChain_16 : decode cX8_continueChain 16 = .ok (.getfield 23, 3) := by decide +kernel
theorem dX8_continueChain_19 : decode cX8_continueChain 19 = .ok (.iconst 1, 1) := by decide +kernel
theorem dX8_continueChain_20 : decode cX8_continueChain 20 = .ok (.aaload, 1) := by decide +kernel
theorem dX8_continueChain_21 : decode cX8_continueChain 21 = .ok (.lconst 0, 1) := by decide +kernel
theorem dX8_continueChain_22 : decode cX8_continueChain 22 = .ok (.invokestatic 83, 3) := by decide +kernel
theorem dX8_continueChain_25 : decode cX8_continueChain 25 = .ok (.iconst 1, 1) := by decide +kernel
theorem dX8_continueChain_26 : decode cX8_continueChain 26 = .ok (.istore_n 1, 1) := by decide +kernel
theorem dX8_continueChain_27 : decode cX8_continueChain 27 = .ok (.iload_n 1, 1) := by decide +kernel
theorem dX8_continueChain_28 : decode cX8_continueChain 28 = .ok (.iconst 4, 1) := by decide +kernel
theorem dX8_continueChain_29 : decode cX8_continueChain 29 = .ok (.if_icmp .ge 30, 3) := by decide +kernel
theorem dX8_continueChain_32 : decode cX8_continueChain 32 = .ok (.aload_n 0, 1) := by decide +kernel
theorem dX8_continueChain_33 : decode cX8_continueChain 33 = .ok (.getfield 23, 3) := by decide +kernel
theorem dX8_continueChain_36 : decode cX8_continueChain 36 = .ok (.iconst 1, 1) := by decide +kernel
theorem dX8_continueChain_37 : decode cX8_continueChain 37 = .ok (.aaload, 1) := by decide +kernel
theorem dX8_continueChain_38 : decode cX8_continueChain 38 = .ok (.iload_n 1, 1) := by decide +kernel
theorem dX8_continueChain_39 : decode cX8_continueChain 39 = .ok (.iconst 1, 1) := by decide +kernel
theorem dX8_continueChain_40 : decode cX8_continueChain 40 = .ok (.isub, 1) := by decide +kernel
theorem dX8_continueChain_41 : decode cX8_continueChain 41 = .ok (.iload_n 1, 1) := by decide +kernel
theorem dX8_continueChain_42 : decode cX8_continueChain 42 = .ok (.i2l, 1) := by decide +kernel
theorem dX8_continueChain_43 : decode cX8_continueChain 43 = .ok (.aload_n 0, 1) := by decide +kernel
theorem dX8_continueChain_44 : decode cX8_continueChain 44 = .ok (.getfield 23, 3) := by decide +kernel
theorem dX8_continueChain_47 : decode cX8_continueChain 47 = .ok (.iconst 0, 1) := by decide +kernel
theorem dX8_continueChain_48 : decode cX8_continueChain 48 = .ok (.aaload, 1) := by decide +kernel
theorem dX8_continueChain_49 : decode cX8_continueChain 49 = .ok (.iload_n 1, 1) := by decide +kernel
theorem dX8_continueChain_50 : decode cX8_continueChain 50 = .ok (.laload, 1) := by decide +kernel
theorem dX8_continueChain_51 : decode cX8_continueChain 51 = .ok (.lmul, 1) := by decide +kernel
theorem dX8_continueChain_52 : decode cX8_continueChain 52 = .ok (.lastore, 1) := by decide +kernel
theorem dX8_continueChain_53 : decode cX8_continueChain 53 = .ok (.iinc 1 1, 3) := by decide +kernel
theorem dX8_continueChain_56 : decode cX8_continueChain 56 = .ok (.goto (-29), 3) := by decide +kernel
theorem dX8_continueChain_59 : decode cX8_continueChain 59 = .ok (.aload_n 0, 1) := by decide +kernel
theorem dX8_continueChain_60 : decode cX8_continueChain 60 = .ok (.getfield 23, 3) := by decide +kernel
theorem dX8_continueChain_63 : decode cX8_continueChain 63 = .ok (.iconst 1, 1) := by decide +kernel
theorem dX8_continueChain_64 : decode cX8_continueChain 64 = .ok (.aaload, 1) := by decide +kernel
theorem dX8_continueChain_65 : decode cX8_continueChain 65 = .ok (.invokestatic 192, 3) := by decide +kernel
theorem dX8_continueChain_68 : decode cX8_continueChain 68 = .ok (.aload_n 0, 1) := by decide +kernel
theorem dX8_continueChain_69 : decode cX8_continueChain 69 = .ok (.getfield 26, 3) := by decide +kernel
theorem dX8_continueChain_72 : decode cX8_continueChain 72 = .ok (.iconst 1, 1) := by decide +kernel
theorem dX8_continueChain_73 : decode cX8_continueChain 73 = .ok (.aload_n 0, 1) := by decide +kernel
theorem dX8_continueChain_74 : decode cX8_continueChain 74 = .ok (.getfield 26, 3) := by decide +kernel
theorem dX8_continueChain_77 : decode cX8_continueChain 77 = .ok (.iconst 0, 1) := by decide +kernel
theorem dX8_continueChain_78 : decode cX8_continueChain 78 = .ok (.iaload, 1) := by decide +kernel
theorem dX8_continueChain_79 : decode cX8_continueChain 79 = .ok (.iconst 1, 1) := by decide +kernel
theorem dX8_continueChain_80 : decode cX8_continueChain 80 = .ok (.isub, 1) := by decide +kernel
theorem dX8_continueChain_81 : decode cX8_continueChain 81 = .ok (.iastore, 1) := by decide +kernel
theorem dX8_continueChain_82 : decode cX8_continueChain 82 = .ok (.aload_n 0, 1) := by decide +kernel
theorem dX8_continueChain_83 : decode cX8_continueChain 83 = .ok (.iconst 2, 1) := by decide +kernel
theorem dX8_continueChain_84 : decode cX8_continueChain 84 = .ok (.putfield 173, 3) := by decide +kernel
theorem dX8_continueChain_87 : decode cX8_continueChain 87 = .ok (.aload_n 0, 1) := by decide +kernel
theorem dX8_continueChain_88 : decode cX8_continueChain 88 = .ok (.getfield 173, 3) := by decide +kernel
theorem dX8_continueChain_91 : decode cX8_continueChain 91 = .ok (.iconst 5, 1) := by decide +kernel
theorem dX8_continueChain_92 : decode cX8_continueChain 92 = .ok (.if_icmp .ge 49, 3) := by decide +kernel
theorem dX8_continueChain_95 : decode cX8_continueChain 95 = .ok (.aload_n 0, 1) := by decide +kernel
theorem dX8_continueChain_96 : decode cX8_continueChain 96 = .ok (.getfield 26, 3) := by decide +kernel
theorem dX8_continueChain_99 : decode cX8_continueChain 99 = .ok (.aload_n 0, 1) := by decide +kernel
theorem dX8_continueChain_100 : decode cX8_continueChain 100 = .ok (.getfield 173, 3) := by decide +kernel
theorem dX8_continueChain_103 : decode cX8_continueChain 103 = .ok (.iconst 1, 1) := by decide +kernel
theorem dX8_continueChain_104 : decode cX8_continueChain 104 = .ok (.isub, 1) := by decide +kernel
theorem dX8_continueChain_105 : decode cX8_continueChain 105 = .ok (.iaload, 1) := by decide +kernel
theorem dX8_continueChain_106 : decode cX8_continueChain 106 = .ok (.ifCond .le 35, 3) := by decide +kernel
theorem dX8_continueChain_109 : decode cX8_continueChain 109 = .ok (.aload_n 0, 1) := by decide +kernel
theorem dX8_continueChain_110 : decode cX8_continueChain 110 = .ok (.invokevirtual 196, 3) := by decide +kernel
theorem dX8_continueChain_113 : decode cX8_continueChain 113 = .ok (.ifCond .eq 28, 3) := by decide +kernel
theorem dX8_continueChain_116 : decode cX8_continueChain 116 = .ok (.aload_n 0, 1) := by decide +kernel
theorem dX8_continueChain_117 : decode cX8_continueChain 117 = .ok (.getfield 23, 3) := by decide +kernel
theorem dX8_continueChain_120 : decode cX8_continueChain 120 = .ok (.aload_n 0, 1) := by decide +kernel
theorem dX8_continueChain_121 : decode cX8_continueChain 121 = .ok (.getfield 173, 3) := by decide +kernel
theorem dX8_continueChain_124 : decode cX8_continueChain 124 = .ok (.aaload, 1) := by decide +kernel
theorem dX8_continueChain_125 : decode cX8_continueChain 125 = .ok (.invokestatic 192, 3) := by decide +kernel
theorem dX8_continueChain_128 : decode cX8_continueChain 128 = .ok (.aload_n 0, 1) := by decide +kernel
theorem dX8_continueChain_129 : decode cX8_continueChain 129 = .ok (.dup, 1) := by decide +kernel
theorem dX8_continueChain_130 : decode cX8_continueChain 130 = .ok (.getfield 173, 3) := by decide +kernel
theorem dX8_continueChain_133 : decode cX8_continueChain 133 = .ok (.iconst 1, 1) := by decide +kernel
theorem dX8_continueChain_134 : decode cX8_continueChain 134 = .ok (.iadd, 1) := by decide +kernel
theorem dX8_continueChain_135 : decode cX8_continueChain 135 = .ok (.putfield 173, 3) := by decide +kernel
theorem dX8_continueChain_138 : decode cX8_continueChain 138 = .ok (.goto (-51), 3) := by decide +kernel
theorem dX8_continueChain_141 : decode cX8_continueChain 141 = .ok (.return_, 1) := by decide +kernel
theorem dX8_addRest_0 : decode cX8_addRest 0 = .ok (.aload_n 0, 1) := by decide +kernel
theorem dX8_addRest_1 : decode cX8_addRest 1 = .ok (.getfield 23, 3) := by decide +kernel
theorem dX8_addRest_4 : decode cX8_addRest 4 = .ok (.aload_n 0, 1) := by decide +kernel
theorem dX8_addRest_5 : decode cX8_addRest 5 = .ok (.getfield 173, 3) := by decide +kernel
theorem dX8_addRest_8 : decode cX8_addRest 8 = .ok (.iconst 1, 1) := by decide +kernel
theorem dX8_addRest_9 : decode cX8_addRest 9 = .ok (.isub, 1) := by decide +kernel
theorem dX8_addRest_10 : decode cX8_addRest 10 = .ok (.aaload, 1) := by decide +kernel
theorem dX8_addRest_11 : decode cX8_addRest 11 = .ok (.astore_n 1, 1) := by decide +kernel
theorem dX8_addRest_12 : decode cX8_addRest 12 = .ok (.aload_n 0, 1) := by decide +kernel
theorem dX8_addRest_13 : decode cX8_addRest 13 = .ok (.getfield 26, 3) := by decide +kernel
theorem dX8_addRest_16 : decode cX8_addRest 16 = .ok (.aload_n 0, 1) := by decide +kernel
theorem dX8_addRest_17 : decode cX8_addRest 17 = .ok (.getfield 173, 3) := by decide +kernel
theorem dX8_addRest_20 : decode cX8_addRest 20 = .ok (.iconst 1, 1) := by decide +kernel
theorem dX8_addRest_21 : decode cX8_addRest 21 = .ok (.isub, 1) := by decide +kernel
theorem dX8_addRest_22 : decode cX8_addRest 22 = .ok (.iaload, 1) := by decide +kernel
theorem dX8_addRest_23 : decode cX8_addRest 23 = .ok (.istore_n 2, 1) := by decide +kernel
theorem dX8_addRest_24 : decode cX8_addRest 24 = .ok (.aload_n 0, 1) := by decide +kernel
theorem dX8_addRest_25 : decode cX8_addRest 25 = .ok (.aload_n 0, 1) := by decide +kernel
theorem dX8_addRest_26 : decode cX8_addRest 26 = .ok (.getfield 23, 3) := by decide +kernel
theorem dX8_addRest_29 : decode cX8_addRest 29 = .ok (.aload_n 0, 1) := by decide +kernel
theorem dX8_addRest_30 : decode cX8_addRest 30 = .ok (.getfield 173, 3) := by decide +kernel
theorem dX8_addRest_33 : decode cX8_addRest 33 = .ok (.iconst 2, 1) := by decide +kernel
theorem dX8_addRest_34 : decode cX8_addRest 34 = .ok (.isub, 1) := by decide +kernel
theorem dX8_addRest_35 : decode cX8_addRest 35 = .ok (.aaload, 1) := by decide +kernel
theorem dX8_addRest_36 : decode cX8_addRest 36 = .ok (.aload_n 1, 1) := by decide +kernel
theorem dX8_addRest_37 : decode cX8_addRest 37 = .ok (.aload_n 0, 1) := by decide +kernel
theorem dX8_addRest_38 : decode cX8_addRest 38 = .ok (.getfield 26, 3) := by decide +kernel
theorem dX8_addRest_41 : decode cX8_addRest 41 = .ok (.aload_n 0, 1) := by decide +kernel
theorem dX8_addRest_42 : decode cX8_addRest 42 = .ok (.getfield 173, 3) := by decide +kernel
theorem dX8_addRest_45 : decode cX8_addRest 45 = .ok (.iconst 2, 1) := by decide +kernel
theorem dX8_addRest_46 : decode cX8_addRest 46 = .ok (.isub, 1) := by decide +kernel
theorem dX8_addRest_47 : decode cX8_addRest 47 = .ok (.iaload, 1) := by decide +kernel
theorem dX8_addRest_48 : decode cX8_addRest 48 = .ok (.iload_n 2, 1) := by decide +kernel
theorem dX8_addRest_49 : decode cX8_addRest 49 = .ok (.invokevirtual 200, 3) := by decide +kernel
theorem dX8_addRest_52 : decode cX8_addRest 52 = .ok (.aload_n 0, 1) := by decide +kernel
theorem dX8_addRest_53 : decode cX8_addRest 53 = .ok (.getfield 30, 3) := by decide +kernel
theorem dX8_addRest_56 : decode cX8_addRest 56 = .ok (.invokestatic 182, 3) := by decide +kernel
theorem dX8_addRest_59 : decode cX8_addRest 59 = .ok (.istore_n 3, 1) := by decide +kernel
theorem dX8_addRest_60 : decode cX8_addRest 60 = .ok (.iload_n 3, 1) := by decide +kernel
theorem dX8_addRest_61 : decode cX8_addRest 61 = .ok (.ifCond .ge 5, 3) := by decide +kernel
theorem dX8_addRest_64 : decode cX8_addRest 64 = .ok (.iconst 0, 1) := by decide +kernel
theorem dX8_addRest_65 : decode cX8_addRest 65 = .ok (.ireturn, 1) := by decide +kernel
theorem dX8_addRest_66 : decode cX8_addRest 66 = .ok (.iconst 0, 1) := by decide +kernel
theorem dX8_addRest_67 : decode cX8_addRest 67 = .ok (.istore 4, 2) := by decide +kernel
theorem dX8_addRest_69 : decode cX8_addRest 69 = .ok (.iload 4, 2) := by decide +kernel
theorem dX8_addRest_71 : decode cX8_addRest 71 = .ok (.iconst 4, 1) := by decide +kernel
theorem dX8_addRest_72 : decode cX8_addRest 72 = .ok (.if_icmp .ge 29, 3) := by decide +kernel
theorem dX8_addRest_75 : decode cX8_addRest 75 = .ok (.aload_n 0, 1) := by decide +kernel
theorem dX8_addRest_76 : decode cX8_addRest 76 = .ok (.getfield 23, 3) := by decide +kernel
theorem dX8_addRest_79 : decode cX8_addRest 79 = .ok (.aload_n 0, 1) := by decide +kernel
theorem dX8_addRest_80 : decode cX8_addRest 80 = .ok (.getfield 173, 3) := by decide +kernel
theorem dX8_addRest_83 : decode cX8_addRest 83 = .ok (.aaload, 1) := by decide +kernel
theorem dX8_addRest_84 : decode cX8_addRest 84 = .ok (.iload 4, 2) := by decide +kernel
theorem dX8_addRest_86 : decode cX8_addRest 86 = .ok (.aload_n 0, 1) := by decide +kernel
theorem dX8_addRest_87 : decode cX8_addRest 87 = .ok (.getfield 30, 3) := by decide +kernel
theorem dX8_addRest_90 : decode cX8_addRest 90 = .ok (.iload 4, 2) := by decide +kernel
theorem dX8_addRest_92 : decode cX8_addRest 92 = .ok (.laload, 1) := by decide +kernel
theorem dX8_addRest_93 : decode cX8_addRest 93 = .ok (.lneg, 1) := by decide +kernel
theorem dX8_addRest_94 : decode cX8_addRest 94 = .ok (.lastore, 1) := by decide +kernel
theorem dX8_addRest_95 : decode cX8_addRest 95 = .ok (.iinc 4 1, 3) := by decide +kernel
theorem dX8_addRest_98 : decode cX8_addRest 98 = .ok (.goto (-29), 3) := by decide +kernel
theorem dX8_addRest_101 : decode cX8_addRest 101 = .ok (.aload_n 0, 1) := by decide +kernel
theorem dX8_addRest_102 : decode cX8_addRest 102 = .ok (.getfield 26, 3) := by decide +kernel
theorem dX8_addRest_105 : decode cX8_addRest 105 = .ok (.aload_n 0, 1) := by decide +kernel
theorem dX8_addRest_106 : decode cX8_addRest 106 = .ok (.getfield 173, 3) := by decide +kernel
theorem dX8_addRest_109 : decode cX8_addRest 109 = .ok (.iload_n 3, 1) := by decide +kernel
theorem dX8_addRest_110 : decode cX8_addRest 110 = .ok (.iastore, 1) := by decide +kernel
theorem dX8_addRest_111 : decode cX8_addRest 111 = .ok (.iconst 1, 1) := by decide +kernel
theorem dX8_addRest_112 : decode cX8_addRest 112 = .ok (.ireturn, 1) := by decide +kernel
theorem dX8_divide_0 : decode cX8_divide 0 = .ok (.aload_n 1, 1) := by decide +kernel
theorem dX8_divide_1 : decode cX8_divide 1 = .ok (.iconst 0, 1) := by decide +kernel
theorem dX8_divide_2 : decode cX8_divide 2 = .ok (.aload_n 0, 1) := by decide +kernel
theorem dX8_divide_3 : decode cX8_divide 3 = .ok (.getfield 30, 3) := by decide +kernel
theorem dX8_divide_6 : decode cX8_divide 6 = .ok (.iconst 0, 1) := by decide +kernel
theorem dX8_divide_7 : decode cX8_divide 7 = .ok (.iconst 4, 1) := by decide +kernel
theorem dX8_divide_8 : decode cX8_divide 8 = .ok (.invokestatic 204, 3) := by decide +kernel
theorem dX8_divide_11 : decode cX8_divide 11 = .ok (.aload_n 0, 1) := by decide +kernel
theorem dX8_divide_12 : decode cX8_divide 12 = .ok (.getfield 33, 3) := by decide +kernel
theorem dX8_divide_15 : decode cX8_divide 15 = .ok (.lconst 0, 1) := by decide +kernel
theorem dX8_divide_16 : decode cX8_divide 16 = .ok (.invokestatic 83, 3) := by decide +kernel
theorem dX8_divide_19 : decode cX8_divide 19 = .ok (.aload_n 2, 1) := by decide +kernel
theorem dX8_divide_20 : decode cX8_divide 20 = .ok (.iload 4, 2) := by decide +kernel
theorem dX8_divide_22 : decode cX8_divide 22 = .ok (.laload, 1) := by decide +kernel
theorem dX8_divide_23 : decode cX8_divide 23 = .ok (.lstore 5, 2) := by decide +kernel
theorem dX8_divide_25 : decode cX8_divide 25 = .ok (.iload_n 3, 1) := by decide +kernel
theorem dX8_divide_26 : decode cX8_divide 26 = .ok (.iload 4, 2) := by decide +kernel
theorem dX8_divide_28 : decode cX8_divide 28 = .ok (.isub, 1) := by decide +kernel
theorem dX8_divide_29 : decode cX8_divide 29 = .ok (.istore 7, 2) := by decide +kernel
theorem dX8_divide_31 : decode cX8_divide 31 = .ok (.iload 7, 2) := by decide +kernel
theorem dX8_divide_33 : decode cX8_divide 33 = .ok (.ifCond .lt 121, 3) := by decide +kernel
theorem dX8_divide_36 : decode cX8_divide 36 = .ok (.lload 5, 2) := by decide +kernel
theorem dX8_divide_38 : decode cX8_divide 38 = .ok (.lconst 0, 1) := by decide +kernel
theorem dX8_divide_39 : decode cX8_divide 39 = .ok (.lcmp, 1) := by decide +kernel
theorem dX8_divide_40 : decode cX8_divide 40 = .ok (.ifCond .eq 114, 3) := by decide +kernel
theorem dX8_divide_43 : decode cX8_divide 43 = .ok (.iconst 0, 1) := by decide +kernel
theorem dX8_divide_44 : decode cX8_divide 44 = .ok (.istore 8, 2) := by decide +kernel
theorem dX8_divide_46 : decode cX8_divide 46 = .ok (.iload 8, 2) := by decide +kernel
theorem dX8_divide_48 : decode cX8_divide 48 = .ok (.iconst 4, 1) := by decide +kernel
theorem dX8_divide_49 : decode cX8_divide 49 = .ok (.if_icmp .ge 39, 3) := by decide +kernel
theorem dX8_divide_52 : decode cX8_divide 52 = .ok (.aload_n 0, 1) := by decide +kernel
theorem dX8_divide_53 : decode cX8_divide 53 = .ok (.getfield 30, 3) := by decide +kernel
theorem dX8_divide_56 : decode cX8_divide 56 = .ok (.iload 8, 2) := by decide +kernel
theorem dX8_divide_58 : decode cX8_divide 58 = .ok (.dup2, 1) := by decide +kernel
theorem dX8_divide_59 : decode cX8_divide 59 = .ok (.laload, 1) := by decide +kernel
theorem dX8_divide_60 : decode cX8_divide 60 = .ok (.lload 5, 2) := by decide +kernel
theorem dX8_divide_62 : decode cX8_divide 62 = .ok (.invokestatic 108, 3) := by decide +kernel
theorem dX8_divide_65 : decode cX8_divide 65 = .ok (.lmul, 1) := by decide +kernel
theorem dX8_divide_66 : decode cX8_divide 66 = .ok (.lastore, 1) := by decide +kernel
theorem dX8_divide_67 : decode cX8_divide 67 = .ok (.aload_n 0, 1) := by decide +kernel
theorem dX8_divide_68 : decode cX8_divide 68 = .ok (.getfield 33, 3) := by decide +kernel
theorem dX8_divide_71 : decode cX8_divide 71 = .ok (.iload 8, 2) := by decide +kernel
theorem dX8_divide_73 : decode cX8_divide 73 = .ok (.dup2, 1) := by decide +kernel
theorem dX8_divide_74 : decode cX8_divide 74 = .ok (.laload, 1) := by decide +kernel
theorem dX8_divide_75 : decode cX8_divide 75 = .ok (.lload 5, 2) := by decide +kernel
theorem dX8_divide_77 : decode cX8_divide 77 = .ok (.invokestatic 108, 3) := by decide +kernel
theorem dX8_divide_80 : decode cX8_divide 80 = .ok (.lmul, 1) := by decide +kernel
theorem dX8_divide_81 : decode cX8_divide 81 = .ok (.lastore, 1) := by decide +kernel
theorem dX8_divide_82 : decode cX8_divide 82 = .ok (.iinc 8 1, 3) := by decide +kernel
theorem dX8_divide_85 : decode cX8_divide 85 = .ok (.goto (-39), 3) := by decide +kernel
theorem dX8_divide_88 : decode cX8_divide 88 = .ok (.aload_n 0, 1) := by decide +kernel
theorem dX8_divide_89 : decode cX8_divide 89 = .ok (.getfield 30, 3) := by decide +kernel
theorem dX8_divide_92 : decode cX8_divide 92 = .ok (.iload 7, 2) := by decide +kernel
theorem dX8_divide_94 : decode cX8_divide 94 = .ok (.iload 4, 2) := by decide +kernel
theorem dX8_divide_96 : decode cX8_divide 96 = .ok (.iadd, 1) := by decide +kernel
theorem dX8_divide_97 : decode cX8_divide 97 = .ok (.laload, 1) := by decide +kernel
theorem dX8_divide_98 : decode cX8_divide 98 = .ok (.lload 5, 2) := by decide +kernel
theorem dX8_divide_100 : decode cX8_divide 100 = .ok (.ldiv, 1) := by decide +kernel
theorem dX8_divide_101 : decode cX8_divide 101 = .ok (.lstore 8, 2) := by decide +kernel
theorem dX8_divide_103 : decode cX8_divide 103 = .ok (.aload_n 0, 1) := by decide +kernel
theorem dX8_divide_104 : decode cX8_divide 104 = .ok (.getfield 33, 3) := by decide +kernel
theorem dX8_divide_107 : decode cX8_divide 107 = .ok (.iload 7, 2) := by decide +kernel
theorem dX8_divide_109 : decode cX8_divide 109 = .ok (.lload 8, 2) := by decide +kernel
theorem dX8_divide_111 : decode cX8_divide 111 = .ok (.lastore, 1) := by decide +kernel
theorem dX8_divide_112 : decode cX8_divide 112 = .ok (.iconst 0, 1) := by decide +kernel
theorem dX8_divide_113 : decode cX8_divide 113 = .ok (.istore 10, 2) := by decide +kernel
theorem dX8_divide_115 : decode cX8_divide 115 = .ok (.iload 10, 2) := by decide +kernel
theorem dX8_divide_117 : decode cX8_divide 117 = .ok (.iload 4, 2) := by decide +kernel
theorem dX8_divide_119 : decode cX8_divide 119 = .ok (.if_icmp .gt 29, 3) := by decide +kernel
theorem dX8_divide_122 : decode cX8_divide 122 = .ok (.aload_n 0, 1) := by decide +kernel
theorem dX8_divide_123 : decode cX8_divide 123 = .ok (.getfield 30, 3) := by decide +kernel
theorem dX8_divide_126 : decode cX8_divide 126 = .ok (.iload 7, 2) := by decide +kernel
theorem dX8_divide_128 : decode cX8_divide 128 = .ok (.iload 10, 2) := by decide +kernel
theorem dX8_divide_130 : decode cX8_divide 130 = .ok (.iadd, 1) := by decide +kernel
theorem dX8_divide_131 : decode cX8_divide 131 = .ok (.dup2, 1) := by decide +kernel
theorem dX8_divide_132 : decode cX8_divide 132 = .ok (.laload, 1) := by decide +kernel
theorem dX8_divide_133 : decode cX8_divide 133 = .ok (.lload 8, 2) := by decide +kernel
theorem dX8_divide_135 : decode cX8_divide 135 = .ok (.aload_n 2, 1) := by decide +kernel
theorem dX8_divide_136 : decode cX8_divide 136 = .ok (.iload 10, 2) := by decide +kernel
theorem dX8_divide_138 : decode cX8_divide 138 = .ok (.laload, 1) := by decide +kernel
theorem dX8_divide_139 : decode cX8_divide 139 = .ok (.lmul, 1) := by decide +kernel
theorem dX8_divide_140 : decode cX8_divide 140 = .ok (.lsub, 1) := by decide +kernel
theorem dX8_divide_141 : decode cX8_divide 141 = .ok (.lastore, 1) := by decide +kernel
theorem dX8_divide_142 : decode cX8_divide 142 = .ok (.iinc 10 1, 3) := by decide +kernel
theorem dX8_divide_145 : decode cX8_divide 145 = .ok (.goto (-30), 3) := by decide +kernel
theorem dX8_divide_148 : decode cX8_divide 148 = .ok (.iinc 7 (-1), 3) := by decide +kernel
theorem dX8_divide_151 : decode cX8_divide 151 = .ok (.goto (-120), 3) := by decide +kernel
theorem dX8_divide_154 : decode cX8_divide 154 = .ok (.return_, 1) := by decide +kernel
theorem dX8_divideFirst_0 : decode cX8_divideFirst 0 = .ok (.aload_n 0, 1) := by decide +kernel
theorem dX8_divideFirst_1 : decode cX8_divideFirst 1 = .ok (.aload_n 0, 1) := by decide +kernel
theorem dX8_divideFirst_2 : decode cX8_divideFirst 2 = .ok (.getfield 23, 3) := by decide +kernel
theorem dX8_divideFirst_5 : decode cX8_divideFirst 5 = .ok (.iconst 0, 1) := by decide +kernel
theorem dX8_divideFirst_6 : decode cX8_divideFirst 6 = .ok (.aaload, 1) := by decide +kernel
theorem dX8_divideFirst_7 : decode cX8_divideFirst 7 = .ok (.aload_n 0, 1) := by decide +kernel
theorem dX8_divideFirst_8 : decode cX8_divideFirst 8 = .ok (.getfield 23, 3) := by decide +kernel
theorem dX8_divideFirst_11 : decode cX8_divideFirst 11 = .ok (.iload_n 1, 1) := by decide +kernel
theorem dX8_divideFirst_12 : decode cX8_divideFirst 12 = .ok (.aaload, 1) := by decide +kernel
theorem dX8_divideFirst_13 : decode cX8_divideFirst 13 = .ok (.aload_n 0, 1) := by decide +kernel
theorem dX8_divideFirst_14 : decode cX8_divideFirst 14 = .ok (.getfield 26, 3) := by decide +kernel
theorem dX8_divideFirst_17 : decode cX8_divideFirst 17 = .ok (.iconst 0, 1) := by decide +kernel
theorem dX8_divideFirst_18 : decode cX8_divideFirst 18 = .ok (.iaload, 1) := by decide +kernel
theorem dX8_divideFirst_19 : decode cX8_divideFirst 19 = .ok (.aload_n 0, 1) := by decide +kernel
theorem dX8_divideFirst_20 : decode cX8_divideFirst 20 = .ok (.getfield 26, 3) := by decide +kernel
theorem dX8_divideFirst_23 : decode cX8_divideFirst 23 = .ok (.iload_n 1, 1) := by decide +kernel
theorem dX8_divideFirst_24 : decode cX8_divideFirst 24 = .ok (.iaload, 1) := by decide +kernel
theorem dX8_divideFirst_25 : decode cX8_divideFirst 25 = .ok (.invokevirtual 200, 3) := by decide +kernel
theorem dX8_divideFirst_28 : decode cX8_divideFirst 28 = .ok (.aload_n 0, 1) := by decide +kernel
theorem dX8_divideFirst_29 : decode cX8_divideFirst 29 = .ok (.getfield 26, 3) := by decide +kernel
theorem dX8_divideFirst_32 : decode cX8_divideFirst 32 = .ok (.iconst 0, 1) := by decide +kernel
theorem dX8_divideFirst_33 : decode cX8_divideFirst 33 = .ok (.iconst 0, 1) := by decide +kernel
theorem dX8_divideFirst_34 : decode cX8_divideFirst 34 = .ok (.aload_n 0, 1) := by decide +kernel
theorem dX8_divideFirst_35 : decode cX8_divideFirst 35 = .ok (.getfield 33, 3) := by decide +kernel
theorem dX8_divideFirst_38 : decode cX8_divideFirst 38 = .ok (.invokestatic 182, 3) := by decide +kernel
theorem dX8_divideFirst_41 : decode cX8_divideFirst 41 = .ok (.invokestatic 210, 3) := by decide +kernel
theorem dX8_divideFirst_44 : decode cX8_divideFirst 44 = .ok (.iastore, 1) := by decide +kernel
theorem dX8_divideFirst_45 : decode cX8_divideFirst 45 = .ok (.aload_n 0, 1) := by decide +kernel
theorem dX8_divideFirst_46 : decode cX8_divideFirst 46 = .ok (.getfield 33, 3) := by decide +kernel
theorem dX8_divideFirst_49 : decode cX8_divideFirst 49 = .ok (.aload_n 0, 1) := by decide +kernel
theorem dX8_divideFirst_50 : decode cX8_divideFirst 50 = .ok (.getfield 26, 3) := by decide +kernel
theorem dX8_divideFirst_53 : decode cX8_divideFirst 53 = .ok (.iconst 0, 1) := by decide +kernel
theorem dX8_divideFirst_54 : decode cX8_divideFirst 54 = .ok (.iaload, 1) := by decide +kernel
theorem dX8_divideFirst_55 : decode cX8_divideFirst 55 = .ok (.laload, 1) := by decide +kernel
theorem dX8_divideFirst_56 : decode cX8_divideFirst 56 = .ok (.lconst 0, 1) := by decide +kernel
theorem dX8_divideFirst_57 : decode cX8_divideFirst 57 = .ok (.lcmp, 1) := by decide +kernel
theorem dX8_divideFirst_58 : decode cX8_divideFirst 58 = .ok (.ifCond .ge 9, 3) := by decide +kernel
theorem dX8_divideFirst_61 : decode cX8_divideFirst 61 = .ok (.ldc2_w 213, 3) := by decide +kernel
theorem dX8_divideFirst_64 : decode cX8_divideFirst 64 = .ok (.goto 4, 3) := by decide +kernel
theorem dX8_divideFirst_67 : decode cX8_divideFirst 67 = .ok (.lconst 1, 1) := by decide +kernel
theorem dX8_divideFirst_68 : decode cX8_divideFirst 68 = .ok (.lstore_n 2, 1) := by decide +kernel
theorem dX8_divideFirst_69 : decode cX8_divideFirst 69 = .ok (.iconst 0, 1) := by decide +kernel
theorem dX8_divideFirst_70 : decode cX8_divideFirst 70 = .ok (.istore 4, 2) := by decide +kernel
theorem dX8_divideFirst_72 : decode cX8_divideFirst 72 = .ok (.iload 4, 2) := by decide +kernel
theorem dX8_divideFirst_74 : decode cX8_divideFirst 74 = .ok (.iconst 4, 1) := by decide +kernel
theorem dX8_divideFirst_75 : decode cX8_divideFirst 75 = .ok (.if_icmp .ge 27, 3) := by decide +kernel
theorem dX8_divideFirst_78 : decode cX8_divideFirst 78 = .ok (.aload_n 0, 1) := by decide +kernel
theorem dX8_divideFirst_79 : decode cX8_divideFirst 79 = .ok (.getfield 23, 3) := by decide +kernel
theorem dX8_divideFirst_82 : decode cX8_divideFirst 82 = .ok (.iconst 0, 1) := by decide +kernel
theorem dX8_divideFirst_83 : decode cX8_divideFirst 83 = .ok (.aaload, 1) := by decide +kernel
theorem dX8_divideFirst_84 : decode cX8_divideFirst 84 = .ok (.iload 4, 2) := by decide +kernel
theorem dX8_divideFirst_86 : decode cX8_divideFirst 86 = .ok (.lload_n 2, 1) := by decide +kernel
theorem dX8_divideFirst_87 : decode cX8_divideFirst 87 = .ok (.aload_n 0, 1) := by decide +kernel
theorem dX8_divideFirst_88 : decode cX8_divideFirst 88 = .ok (.getfield 33, 3) := by decide +kernel
theorem dX8_divideFirst_91 : decode cX8_divideFirst 91 = .ok (.iload 4, 2) := by decide +kernel
theorem dX8_divideFirst_93 : decode cX8_divideFirst 93 = .ok (.laload, 1) := by decide +kernel
theorem dX8_divideFirst_94 : decode cX8_divideFirst 94 = .ok (.lmul, 1) := by decide +kernel
theorem dX8_divideFirst_95 : decode cX8_divideFirst 95 = .ok (.lastore, 1) := by decide +kernel
theorem dX8_divideFirst_96 : decode cX8_divideFirst 96 = .ok (.iinc 4 1, 3) := by decide +kernel
theorem dX8_divideFirst_99 : decode cX8_divideFirst 99 = .ok (.goto (-27), 3) := by decide +kernel
theorem dX8_divideFirst_102 : decode cX8_divideFirst 102 = .ok (.aload_n 0, 1) := by decide +kernel
theorem dX8_divideFirst_103 : decode cX8_divideFirst 103 = .ok (.getfield 23, 3) := by decide +kernel
theorem dX8_divideFirst_106 : decode cX8_divideFirst 106 = .ok (.iconst 0, 1) := by decide +kernel
theorem dX8_divideFirst_107 : decode cX8_divideFirst 107 = .ok (.aaload, 1) := by decide +kernel
theorem dX8_divideFirst_108 : decode cX8_divideFirst 108 = .ok (.invokestatic 192, 3) := by decide +kernel
theorem dX8_divideFirst_111 : decode cX8_divideFirst 111 = .ok (.return_, 1) := by decide +kernel
theorem dX8_makeFree_0 : decode cX8_makeFree 0 = .ok (.lconst 0, 1) := by decide +kernel
theorem dX8_makeFree_1 : decode cX8_makeFree 1 = .ok (.lstore_n 1, 1) := by decide +kernel
theorem dX8_makeFree_2 : decode cX8_makeFree 2 = .ok (.iconst 0, 1) := by decide +kernel
theorem dX8_makeFree_3 : decode cX8_makeFree 3 = .ok (.istore_n 3, 1) := by decide +kernel
theorem dX8_makeFree_4 : decode cX8_makeFree 4 = .ok (.iload_n 3, 1) := by decide +kernel
theorem dX8_makeFree_5 : decode cX8_makeFree 5 = .ok (.aload_n 0, 1) := by decide +kernel
theorem dX8_makeFree_6 : decode cX8_makeFree 6 = .ok (.arraylength, 1) := by decide +kernel
theorem dX8_makeFree_7 : decode cX8_makeFree 7 = .ok (.if_icmp .ge 17, 3) := by decide +kernel
theorem dX8_makeFree_10 : decode cX8_makeFree 10 = .ok (.lload_n 1, 1) := by decide +kernel
theorem dX8_makeFree_11 : decode cX8_makeFree 11 = .ok (.aload_n 0, 1) := by decide +kernel
theorem dX8_makeFree_12 : decode cX8_makeFree 12 = .ok (.iload_n 3, 1) := by decide +kernel
theorem dX8_makeFree_13 : decode cX8_makeFree 13 = .ok (.laload, 1) := by decide +kernel
theorem dX8_makeFree_14 : decode cX8_makeFree 14 = .ok (.invokestatic 121, 3) := by decide +kernel
theorem dX8_makeFree_17 : decode cX8_makeFree 17 = .ok (.lstore_n 1, 1) := by decide +kernel
theorem dX8_makeFree_18 : decode cX8_makeFree 18 = .ok (.iinc 3 1, 3) := by decide +kernel
theorem dX8_makeFree_21 : decode cX8_makeFree 21 = .ok (.goto (-17), 3) := by decide +kernel
theorem dX8_makeFree_24 : decode cX8_makeFree 24 = .ok (.iconst 0, 1) := by decide +kernel
theorem dX8_makeFree_25 : decode cX8_makeFree 25 = .ok (.istore_n 3, 1) := by decide +kernel
theorem dX8_makeFree_26 : decode cX8_makeFree 26 = .ok (.iload_n 3, 1) := by decide +kernel
theorem dX8_makeFree_27 : decode cX8_makeFree 27 = .ok (.aload_n 0, 1) := by decide +kernel
theorem dX8_makeFree_28 : decode cX8_makeFree 28 = .ok (.arraylength, 1) := by decide +kernel
theorem dX8_makeFree_29 : decode cX8_makeFree 29 = .ok (.if_icmp .ge 22, 3) := by decide +kernel
theorem dX8_makeFree_32 : decode cX8_makeFree 32 = .ok (.lload_n 1, 1) := by decide +kernel
theorem dX8_makeFree_33 : decode cX8_makeFree 33 = .ok (.lconst 1, 1) := by decide +kernel
theorem dX8_makeFree_34 : decode cX8_makeFree 34 = .ok (.lcmp, 1) := by decide +kernel
theorem dX8_makeFree_35 : decode cX8_makeFree 35 = .ok (.ifCond .le 16, 3) := by decide +kernel
theorem dX8_makeFree_38 : decode cX8_makeFree 38 = .ok (.aload_n 0, 1) := by decide +kernel
theorem dX8_makeFree_39 : decode cX8_makeFree 39 = .ok (.iload_n 3, 1) := by decide +kernel
theorem dX8_makeFree_40 : decode cX8_makeFree 40 = .ok (.dup2, 1) := by decide +kernel
theorem dX8_makeFree_41 : decode cX8_makeFree 41 = .ok (.laload, 1) := by decide +kernel
theorem dX8_makeFree_42 : decode cX8_makeFree 42 = .ok (.lload_n 1, 1) := by decide +kernel
theorem dX8_makeFree_43 : decode cX8_makeFree 43 = .ok (.ldiv, 1) := by decide +kernel
theorem dX8_makeFree_44 : decode cX8_makeFree 44 = .ok (.lastore, 1) := by decide +kernel
theorem dX8_makeFree_45 : decode cX8_makeFree 45 = .ok (.iinc 3 1, 3) := by decide +kernel
theorem dX8_makeFree_48 : decode cX8_makeFree 48 = .ok (.goto (-22), 3) := by decide +kernel
theorem dX8_makeFree_51 : decode cX8_makeFree 51 = .ok (.return_, 1) := by decide +kernel
theorem dX8_changesAt_0 : decode cX8_changesAt 0 = .ok (.iconst 0, 1) := by decide +kernel
theorem dX8_changesAt_1 : decode cX8_changesAt 1 = .ok (.istore_n 3, 1) := by decide +kernel
theorem dX8_changesAt_2 : decode cX8_changesAt 2 = .ok (.iconst 0, 1) := by decide +kernel
theorem dX8_changesAt_3 : decode cX8_changesAt 3 = .ok (.istore 4, 2) := by decide +kernel
theorem dX8_changesAt_5 : decode cX8_changesAt 5 = .ok (.iconst 0, 1) := by decide +kernel
theorem dX8_changesAt_6 : decode cX8_changesAt 6 = .ok (.istore 5, 2) := by decide +kernel
theorem dX8_changesAt_8 : decode cX8_changesAt 8 = .ok (.iload 5, 2) := by decide +kernel
theorem dX8_changesAt_10 : decode cX8_changesAt 10 = .ok (.aload_n 0, 1) := by decide +kernel
theorem dX8_changesAt_11 : decode cX8_changesAt 11 = .ok (.getfield 173, 3) := by decide +kernel
theorem dX8_changesAt_14 : decode cX8_changesAt 14 = .ok (.if_icmp .ge 48, 3) := by decide +kernel
theorem dX8_changesAt_17 : decode cX8_changesAt 17 = .ok (.aload_n 0, 1) := by decide +kernel
theorem dX8_changesAt_18 : decode cX8_changesAt 18 = .ok (.iload 5, 2) := by decide +kernel
theorem dX8_changesAt_20 : decode cX8_changesAt 20 = .ok (.iload_n 1, 1) := by decide +kernel
theorem dX8_changesAt_21 : decode cX8_changesAt 21 = .ok (.iload_n 2, 1) := by decide +kernel
theorem dX8_changesAt_22 : decode cX8_changesAt 22 = .ok (.invokevirtual 215, 3) := by decide +kernel
theorem dX8_changesAt_25 : decode cX8_changesAt 25 = .ok (.istore 6, 2) := by decide +kernel
theorem dX8_changesAt_27 : decode cX8_changesAt 27 = .ok (.iload 6, 2) := by decide +kernel
theorem dX8_changesAt_29 : decode cX8_changesAt 29 = .ok (.ifCond .eq 27, 3) := by decide +kernel
theorem dX8_changesAt_32 : decode cX8_changesAt 32 = .ok (.iload_n 3, 1) := by decide +kernel
theorem dX8_changesAt_33 : decode cX8_changesAt 33 = .ok (.iload 4, 2) := by decide +kernel
theorem dX8_changesAt_35 : decode cX8_changesAt 35 = .ok (.ifCond .eq 14, 3) := by decide +kernel
theorem dX8_changesAt_38 : decode cX8_changesAt 38 = .ok (.iload 6, 2) := by decide +kernel
theorem dX8_changesAt_40 : decode cX8_changesAt 40 = .ok (.iload 4, 2) := by decide +kernel
theorem dX8_changesAt_42 : decode cX8_changesAt 42 = .ok (.if_icmp .eq 7, 3) := by decide +kernel
theorem dX8_changesAt_45 : decode cX8_changesAt 45 = .ok (.iconst 1, 1) := by decide +kernel
theorem dX8_changesAt_46 : decode cX8_changesAt 46 = .ok (.goto 4, 3) := by decide +kernel
theorem dX8_changesAt_49 : decode cX8_changesAt 49 = .ok (.iconst 0, 1) := by decide +kernel
theorem dX8_changesAt_50 : decode cX8_changesAt 50 = .ok (.iadd, 1) := by decide +kernel
theorem dX8_changesAt_51 : decode cX8_changesAt 51 = .ok (.istore_n 3, 1) := by decide +kernel
theorem dX8_changesAt_52 : decode cX8_changesAt 52 = .ok (.iload 6, 2) := by decide +kernel
theorem dX8_changesAt_54 : decode cX8_changesAt 54 = .ok (.istore 4, 2) := by decide +kernel
theorem dX8_changesAt_56 : decode cX8_changesAt 56 = .ok (.iinc 5 1, 3) := by decide +kernel
theorem dX8_changesAt_59 : decode cX8_changesAt 59 = .ok (.goto (-51), 3) := by decide +kernel
theorem dX8_changesAt_62 : decode cX8_changesAt 62 = .ok (.iload_n 3, 1) := by decide +kernel
theorem dX8_changesAt_63 : decode cX8_changesAt 63 = .ok (.ireturn, 1) := by decide +kernel
theorem dX8_senseAt_0 : decode cX8_senseAt 0 = .ok (.ldc2_w 218, 3) := by decide +kernel
theorem dX8_senseAt_3 : decode cX8_senseAt 3 = .ok (.iload_n 3, 1) := by decide +kernel
theorem dX8_senseAt_4 : decode cX8_senseAt 4 = .ok (.i2l, 1) := by decide +kernel
theorem dX8_senseAt_5 : decode cX8_senseAt 5 = .ok (.lmul, 1) := by decide +kernel
theorem dX8_senseAt_6 : decode cX8_senseAt 6 = .ok (.ldc2_w 220, 3) := by decide +kernel
theorem dX8_senseAt_9 : decode cX8_senseAt 9 = .ok (.iload_n 2, 1) := by decide +kernel
theorem dX8_senseAt_10 : decode cX8_senseAt 10 = .ok (.lshl, 1) := by decide +kernel
theorem dX8_senseAt_11 : decode cX8_senseAt 11 = .ok (.lsub, 1) := by decide +kernel
theorem dX8_senseAt_12 : decode cX8_senseAt 12 = .ok (.lstore 4, 2) := by decide +kernel
theorem dX8_senseAt_14 : decode cX8_senseAt 14 = .ok (.lconst 1, 1) := by decide +kernel
theorem dX8_senseAt_15 : decode cX8_senseAt 15 = .ok (.iload_n 2, 1) := by decide +kernel
theorem dX8_senseAt_16 : decode cX8_senseAt 16 = .ok (.lshl, 1) := by decide +kernel
theorem dX8_senseAt_17 : decode cX8_senseAt 17 = .ok (.lstore 6, 2) := by decide +kernel
theorem dX8_senseAt_19 : decode cX8_senseAt 19 = .ok (.iconst 0, 1) := by decide +kernel
theorem dX8_senseAt_20 : decode cX8_senseAt 20 = .ok (.istore 8, 2) := by decide +kernel
theorem dX8_senseAt_22 : decode cX8_senseAt 22 = .ok (.iload 8, 2) := by decide +kernel
theorem dX8_senseAt_24 : decode cX8_senseAt 24 = .ok (.iload_n 2, 1) := by decide +kernel
theorem dX8_senseAt_25 : decode cX8_senseAt 25 = .ok (.if_icmp .ge 43, 3) := by decide +kernel
theorem dX8_senseAt_28 : decode cX8_senseAt 28 = .ok (.lload 4, 2) := by decide +kernel
theorem dX8_senseAt_30 : decode cX8_senseAt 30 = .ok (.ldc2_w 222, 3) := by decide +kernel
theorem dX8_senseAt_33 : decode cX8_senseAt 33 = .ok (.lrem, 1) := by decide +kernel
theorem dX8_senseAt_34 : decode cX8_senseAt 34 = .ok (.lconst 0, 1) := by decide +kernel
theorem dX8_senseAt_35 : decode cX8_senseAt 35 = .ok (.lcmp, 1) := by decide +kernel
theorem dX8_senseAt_36 : decode cX8_senseAt 36 = .ok (.ifCond .ne 32, 3) := by decide +kernel
theorem dX8_senseAt_39 : decode cX8_senseAt 39 = .ok (.lload 6, 2) := by decide +kernel
theorem dX8_senseAt_41 : decode cX8_senseAt 41 = .ok (.lconst 1, 1) := by decide +kernel
theorem dX8_senseAt_42 : decode cX8_senseAt 42 = .ok (.lcmp, 1) := by decide +kernel
theorem dX8_senseAt_43 : decode cX8_senseAt 43 = .ok (.ifCond .le 25, 3) := by decide +kernel
theorem dX8_senseAt_46 : decode cX8_senseAt 46 = .ok (.lload 4, 2) := by decide +kernel
theorem dX8_senseAt_48 : decode cX8_senseAt 48 = .ok (.ldc2_w 222, 3) := by decide +kernel
theorem dX8_senseAt_51 : decode cX8_senseAt 51 = .ok (.ldiv, 1) := by decide +kernel
theorem dX8_senseAt_52 : decode cX8_senseAt 52 = .ok (.lstore 4, 2) := by decide +kernel
theorem dX8_senseAt_54 : decode cX8_senseAt 54 = .ok (.lload 6, 2) := by decide +kernel
theorem dX8_senseAt_56 : decode cX8_senseAt 56 = .ok (.ldc2_w 222, 3) := by decide +kernel
theorem dX8_senseAt_59 : decode cX8_senseAt 59 = .ok (.ldiv, 1) := by decide +kernel
theorem dX8_senseAt_60 : decode cX8_senseAt 60 = .ok (.lstore 6, 2) := by decide +kernel
theorem dX8_senseAt_62 : decode cX8_senseAt 62 = .ok (.iinc 8 1, 3) := by decide +kernel
theorem dX8_senseAt_65 : decode cX8_senseAt 65 = .ok (.goto (-43), 3) := by decide +kernel
theorem dX8_senseAt_68 : decode cX8_senseAt 68 = .ok (.aload_n 0, 1) := by decide +kernel
theorem dX8_senseAt_69 : decode cX8_senseAt 69 = .ok (.getfield 26, 3) := by decide +kernel
theorem dX8_senseAt_72 : decode cX8_senseAt 72 = .ok (.iload_n 1, 1) := by decide +kernel
theorem dX8_senseAt_73 : decode cX8_senseAt 73 = .ok (.iaload, 1) := by decide +kernel
theorem dX8_senseAt_74 : decode cX8_senseAt 74 = .ok (.istore 8, 2) := by decide +kernel
theorem dX8_senseAt_76 : decode cX8_senseAt 76 = .ok (.aload_n 0, 1) := by decide +kernel
theorem dX8_senseAt_77 : decode cX8_senseAt 77 = .ok (.getfield 23, 3) := by decide +kernel
theorem dX8_senseAt_80 : decode cX8_senseAt 80 = .ok (.iload_n 1, 1) := by decide +kernel
theorem dX8_senseAt_81 : decode cX8_senseAt 81 = .ok (.aaload, 1) := by decide +kernel
theorem dX8_senseAt_82 : decode cX8_senseAt 82 = .ok (.iload 8, 2) := by decide +kernel
theorem dX8_senseAt_84 : decode cX8_senseAt 84 = .ok (.laload, 1) := by decide +kernel
theorem dX8_senseAt_85 : decode cX8_senseAt 85 = .ok (.lstore 9, 2) := by decide +kernel
theorem dX8_senseAt_87 : decode cX8_senseAt 87 = .ok (.lconst 1, 1) := by decide +kernel
theorem dX8_senseAt_88 : decode cX8_senseAt 88 = .ok (.lstore 11, 2) := by decide +kernel
theorem dX8_senseAt_90 : decode cX8_senseAt 90 = .ok (.iload 8, 2) := by decide +kernel
theorem dX8_senseAt_92 : decode cX8_senseAt 92 = .ok (.iconst 1, 1) := by decide +kernel
theorem dX8_senseAt_93 : decode cX8_senseAt 93 = .ok (.isub, 1) := by decide +kernel
theorem dX8_senseAt_94 : decode cX8_senseAt 94 = .ok (.istore 13, 2) := by decide +kernel
theorem dX8_senseAt_96 : decode cX8_senseAt 96 = .ok (.iload 13, 2) := by decide +kernel
theorem dX8_senseAt_98 : decode cX8_senseAt 98 = .ok (.ifCond .lt 36, 3) := by decide +kernel
theorem dX8_senseAt_101 : decode cX8_senseAt 101 = .ok (.lload 11, 2) := by decide +kernel
theorem dX8_senseAt_103 : decode cX8_senseAt 103 = .ok (.lload 6, 2) := by decide +kernel
theorem dX8_senseAt_105 : decode cX8_senseAt 105 = .ok (.lmul, 1) := by decide +kernel
theorem dX8_senseAt_106 : decode cX8_senseAt 106 = .ok (.lstore 11, 2) := by decide +kernel
theorem dX8_senseAt_108 : decode cX8_senseAt 108 = .ok (.lload 9, 2) := by decide +kernel
theorem dX8_senseAt_110 : decode cX8_senseAt 110 = .ok (.lload 4, 2) := by decide +kernel
theorem dX8_senseAt_112 : decode cX8_senseAt 112 = .ok (.lmul, 1) := by decide +kernel
theorem dX8_senseAt_113 : decode cX8_senseAt 113 = .ok (.aload_n 0, 1) := by decide +kernel
theorem dX8_senseAt_114 : decode cX8_senseAt 114 = .ok (.getfield 23, 3) := by decide +kernel
theorem dX8_senseAt_117 : decode cX8_senseAt 117 = .ok (.iload_n 1, 1) := by decide +kernel
theorem dX8_senseAt_118 : decode cX8_senseAt 118 = .ok (.aaload, 1) := by decide +kernel
theorem dX8_senseAt_119 : decode cX8_senseAt 119 = .ok (.iload 13, 2) := by decide +kernel
theorem dX8_senseAt_121 : decode cX8_senseAt 121 = .ok (.laload, 1) := by decide +kernel
theorem dX8_senseAt_122 : decode cX8_senseAt 122 = .ok (.lload 11, 2) := by decide +kernel
theorem dX8_senseAt_124 : decode cX8_senseAt 124 = .ok (.lmul, 1) := by decide +kernel
theorem dX8_senseAt_125 : decode cX8_senseAt 125 = .ok (.ladd, 1) := by decide +kernel
theorem dX8_senseAt_126 : decode cX8_senseAt 126 = .ok (.lstore 9, 2) := by decide +kernel
theorem dX8_senseAt_128 : decode cX8_senseAt 128 = .ok (.iinc 13 (-1), 3) := by decide +kernel
theorem dX8_senseAt_131 : decode cX8_senseAt 131 = .ok (.goto (-35), 3) := by decide +kernel
theorem dX8_senseAt_134 : decode cX8_senseAt 134 = .ok (.lload 9, 2) := by decide +kernel
theorem dX8_senseAt_136 : decode cX8_senseAt 136 = .ok (.lconst 0, 1) := by decide +kernel
theorem dX8_senseAt_137 : decode cX8_senseAt 137 = .ok (.lcmp, 1) := by decide +kernel
theorem dX8_senseAt_138 : decode cX8_senseAt 138 = .ok (.ifCond .le 7, 3) := by decide +kernel
theorem dX8_senseAt_141 : decode cX8_senseAt 141 = .ok (.iconst 1, 1) := by decide +kernel
theorem dX8_senseAt_142 : decode cX8_senseAt 142 = .ok (.goto 15, 3) := by decide +kernel
theorem dX8_senseAt_145 : decode cX8_senseAt 145 = .ok (.lload 9, 2) := by decide +kernel
theorem dX8_senseAt_147 : decode cX8_senseAt 147 = .ok (.lconst 0, 1) := by decide +kernel
theorem dX8_senseAt_148 : decode cX8_senseAt 148 = .ok (.lcmp, 1) := by decide +kernel
theorem dX8_senseAt_149 : decode cX8_senseAt 149 = .ok (.ifCond .ge 7, 3) := by decide +kernel
theorem dX8_senseAt_152 : decode cX8_senseAt 152 = .ok (.iconst (-1), 1) := by decide +kernel
theorem dX8_senseAt_153 : decode cX8_senseAt 153 = .ok (.goto 4, 3) := by decide +kernel
theorem dX8_senseAt_156 : decode cX8_senseAt 156 = .ok (.iconst 0, 1) := by decide +kernel
theorem dX8_senseAt_157 : decode cX8_senseAt 157 = .ok (.ireturn, 1) := by decide +kernel
theorem dX8_signInRow_0 : decode cX8_signInRow 0 = .ok (.aload_n 0, 1) := by decide +kernel
theorem dX8_signInRow_1 : decode cX8_signInRow 1 = .ok (.iload_n 1, 1) := by decide +kernel
theorem dX8_signInRow_2 : decode cX8_signInRow 2 = .ok (.iconst 1, 1) := by decide +kernel
theorem dX8_signInRow_3 : decode cX8_signInRow 3 = .ok (.aload_n 0, 1) := by decide +kernel
theorem dX8_signInRow_4 : decode cX8_signInRow 4 = .ok (.getfield 173, 3) := by decide +kernel
theorem dX8_signInRow_7 : decode cX8_signInRow 7 = .ok (.invokestatic 210, 3) := by decide +kernel
theorem dX8_signInRow_10 : decode cX8_signInRow 10 = .ok (.irem, 1) := by decide +kernel
theorem dX8_signInRow_11 : decode cX8_signInRow 11 = .ok (.iconst 0, 1) := by decide +kernel
theorem dX8_signInRow_12 : decode cX8_signInRow 12 = .ok (.iload_n 1, 1) := by decide +kernel
theorem dX8_signInRow_13 : decode cX8_signInRow 13 = .ok (.aload_n 0, 1) := by decide +kernel
theorem dX8_signInRow_14 : decode cX8_signInRow 14 = .ok (.getfield 173, 3) := by decide +kernel
theorem dX8_signInRow_17 : decode cX8_signInRow 17 = .ok (.if_icmp .ge 7, 3) := by decide +kernel
theorem dX8_signInRow_20 : decode cX8_signInRow 20 = .ok (.iconst 0, 1) := by decide +kernel
theorem dX8_signInRow_21 : decode cX8_signInRow 21 = .ok (.goto 4, 3) := by decide +kernel
theorem dX8_signInRow_24 : decode cX8_signInRow 24 = .ok (.iconst 1, 1) := by decide +kernel
theorem dX8_signInRow_25 : decode cX8_signInRow 25 = .ok (.invokevirtual 215, 3) := by decide +kernel
theorem dX8_signInRow_28 : decode cX8_signInRow 28 = .ok (.ireturn, 1) := by decide +kernel
theorem dX8_judgeParts_0 : decode cX8_judgeParts 0 = .ok (.aload_n 2, 1) := by decide +kernel
theorem dX8_judgeParts_1 : decode cX8_judgeParts 1 = .ok (.getfield 135, 3) := by decide +kernel
theorem dX8_judgeParts_4 : decode cX8_judgeParts 4 = .ok (.iconst 2, 1) := by decide +kernel
theorem dX8_judgeParts_5 : decode cX8_judgeParts 5 = .ok (.irem, 1) := by decide +kernel
theorem dX8_judgeParts_6 : decode cX8_judgeParts 6 = .ok (.ifCond .ne 10, 3) := by decide +kernel
theorem dX8_judgeParts_9 : decode cX8_judgeParts 9 = .ok (.aload_n 2, 1) := by decide +kernel
theorem dX8_judgeParts_10 : decode cX8_judgeParts 10 = .ok (.invokestatic 224, 3) := by decide +kernel
theorem dX8_judgeParts_13 : decode cX8_judgeParts 13 = .ok (.ifCond .ne 5, 3) := by decide +kernel
theorem dX8_judgeParts_16 : decode cX8_judgeParts 16 = .ok (.iconst 1, 1) := by decide +kernel
theorem dX8_judgeParts_17 : decode cX8_judgeParts 17 = .ok (.ireturn, 1) := by decide +kernel
theorem dX8_judgeParts_18 : decode cX8_judgeParts 18 = .ok (.aload_n 2, 1) := by decide +kernel
theorem dX8_judgeParts_19 : decode cX8_judgeParts 19 = .ok (.invokestatic 228, 3) := by decide +kernel
theorem dX8_judgeParts_22 : decode cX8_judgeParts 22 = .ok (.ifCond .ne 5, 3) := by decide +kernel
theorem dX8_judgeParts_25 : decode cX8_judgeParts 25 = .ok (.iconst 2, 1) := by decide +kernel
theorem dX8_judgeParts_26 : decode cX8_judgeParts 26 = .ok (.ireturn, 1) := by decide +kernel
theorem dX8_judgeParts_27 : decode cX8_judgeParts 27 = .ok (.aload_n 2, 1) := by decide +kernel
theorem dX8_judgeParts_28 : decode cX8_judgeParts 28 = .ok (.getfield 135, 3) := by decide +kernel
theorem dX8_judgeParts_31 : decode cX8_judgeParts 31 = .ok (.iconst 2, 1) := by decide +kernel
theorem dX8_judgeParts_32 : decode cX8_judgeParts 32 = .ok (.idiv, 1) := by decide +kernel
theorem dX8_judgeParts_33 : decode cX8_judgeParts 33 = .ok (.aload_n 1, 1) := by decide +kernel
theorem dX8_judgeParts_34 : decode cX8_judgeParts 34 = .ok (.getfield 74, 3) := by decide +kernel
theorem dX8_judgeParts_37 : decode cX8_judgeParts 37 = .ok (.if_icmp .ge 5, 3) := by decide +kernel
theorem dX8_judgeParts_40 : decode cX8_judgeParts 40 = .ok (.iconst 3, 1) := by decide +kernel
theorem dX8_judgeParts_41 : decode cX8_judgeParts 41 = .ok (.ireturn, 1) := by decide +kernel
theorem dX8_judgeParts_42 : decode cX8_judgeParts 42 = .ok (.aload_n 0, 1) := by decide +kernel
theorem dX8_judgeParts_43 : decode cX8_judgeParts 43 = .ok (.aload_n 1, 1) := by decide +kernel
theorem dX8_judgeParts_44 : decode cX8_judgeParts 44 = .ok (.invokevirtual 163, 3) := by decide +kernel
theorem dX8_judgeParts_47 : decode cX8_judgeParts 47 = .ok (.iconst 0, 1) := by decide +kernel
theorem dX8_judgeParts_48 : decode cX8_judgeParts 48 = .ok (.istore_n 3, 1) := by decide +kernel
theorem dX8_judgeParts_49 : decode cX8_judgeParts 49 = .ok (.iload_n 3, 1) := by decide +kernel
theorem dX8_judgeParts_50 : decode cX8_judgeParts 50 = .ok (.aload_n 2, 1) := by decide +kernel
theorem dX8_judgeParts_51 : decode cX8_judgeParts 51 = .ok (.getfield 135, 3) := by decide +kernel
theorem dX8_judgeParts_54 : decode cX8_judgeParts 54 = .ok (.if_icmp .ge 31, 3) := by decide +kernel
theorem dX8_judgeParts_57 : decode cX8_judgeParts 57 = .ok (.aload_n 0, 1) := by decide +kernel
theorem dX8_judgeParts_58 : decode cX8_judgeParts 58 = .ok (.aload_n 2, 1) := by decide +kernel
theorem dX8_judgeParts_59 : decode cX8_judgeParts 59 = .ok (.iload_n 3, 1) := by decide +kernel
theorem dX8_judgeParts_60 : decode cX8_judgeParts 60 = .ok (.invokevirtual 67, 3) := by decide +kernel
theorem dX8_judgeParts_63 : decode cX8_judgeParts 63 = .ok (.aload_n 2, 1) := by decide +kernel
theorem dX8_judgeParts_64 : decode cX8_judgeParts 64 = .ok (.iload_n 3, 1) := by decide +kernel
theorem dX8_judgeParts_65 : decode cX8_judgeParts 65 = .ok (.iconst 1, 1) := by decide +kernel
theorem dX8_judgeParts_66 : decode cX8_judgeParts 66 = .ok (.iadd, 1) := by decide +kernel
theorem dX8_judgeParts_67 : decode cX8_judgeParts 67 = .ok (.invokevirtual 67, 3) := by decide +kernel
theorem dX8_judgeParts_70 : decode cX8_judgeParts 70 = .ok (.invokevirtual 166, 3) := by decide +kernel
theorem dX8_judgeParts_73 : decode cX8_judgeParts 73 = .ok (.iconst 1, 1) := by decide +kernel
theorem dX8_judgeParts_74 : decode cX8_judgeParts 74 = .ok (.if_icmp .ge 5, 3) := by decide +kernel
theorem dX8_judgeParts_77 : decode cX8_judgeParts 77 = .ok (.iconst 4, 1) := by decide +kernel
theorem dX8_judgeParts_78 : decode cX8_judgeParts 78 = .ok (.ireturn, 1) := by decide +kernel
theorem dX8_judgeParts_79 : decode cX8_judgeParts 79 = .ok (.iinc 3 2, 3) := by decide +kernel
theorem dX8_judgeParts_82 : decode cX8_judgeParts 82 = .ok (.goto (-33), 3) := by decide +kernel
theorem dX8_judgeParts_85 : decode cX8_judgeParts 85 = .ok (.iconst 0, 1) := by decide +kernel
theorem dX8_judgeParts_86 : decode cX8_judgeParts 86 = .ok (.ireturn, 1) := by decide +kernel
theorem dX8_areParts_0 : decode cX8_areParts 0 = .ok (.iconst 0, 1) := by decide +kernel
theorem dX8_areParts_1 : decode cX8_areParts 1 = .ok (.istore_n 1, 1) := by decide +kernel
theorem dX8_areParts_2 : decode cX8_areParts 2 = .ok (.iload_n 1, 1) := by decide +kernel
theorem dX8_areParts_3 : decode cX8_areParts 3 = .ok (.aload_n 0, 1) := by decide +kernel
theorem dX8_areParts_4 : decode cX8_areParts 4 = .ok (.getfield 135, 3) := by decide +kernel
theorem dX8_areParts_7 : decode cX8_areParts 7 = .ok (.if_icmp .ge 46, 3) := by decide +kernel
theorem dX8_areParts_10 : decode cX8_areParts 10 = .ok (.aload_n 0, 1) := by decide +kernel
theorem dX8_areParts_11 : decode cX8_areParts 11 = .ok (.iload_n 1, 1) := by decide +kernel
theorem dX8_areParts_12 : decode cX8_areParts 12 = .ok (.invokevirtual 67, 3) := by decide +kernel
theorem dX8_areParts_15 : decode cX8_areParts 15 = .ok (.istore_n 2, 1) := by decide +kernel
theorem dX8_areParts_16 : decode cX8_areParts 16 = .ok (.aload_n 0, 1) := by decide +kernel
theorem dX8_areParts_17 : decode cX8_areParts 17 = .ok (.iload_n 1, 1) := by decide +kernel
theorem dX8_areParts_18 : decode cX8_areParts 18 = .ok (.iconst 1, 1) := by decide +kernel
theorem dX8_areParts_19 : decode cX8_areParts 19 = .ok (.iadd, 1) := by decide +kernel
theorem dX8_areParts_20 : decode cX8_areParts 20 = .ok (.invokevirtual 67, 3) := by decide +kernel
theorem dX8_areParts_23 : decode cX8_areParts 23 = .ok (.istore_n 3, 1) := by decide +kernel
theorem dX8_areParts_24 : decode cX8_areParts 24 = .ok (.iload_n 2, 1) := by decide +kernel
theorem dX8_areParts_25 : decode cX8_areParts 25 = .ok (.ifCond .lt 20, 3) := by decide +kernel
theorem dX8_areParts_28 : decode cX8_areParts 28 = .ok (.iload_n 2, 1) := by decide +kernel
theorem dX8_areParts_29 : decode cX8_areParts 29 = .ok (.bipush 16, 2) := by decide +kernel
theorem dX8_areParts_31 : decode cX8_areParts 31 = .ok (.if_icmp .gt 14, 3) := by decide +kernel
theorem dX8_areParts_34 : decode cX8_areParts 34 = .ok (.iload_n 3, 1) := by decide +kernel
theorem dX8_areParts_35 : decode cX8_areParts 35 = .ok (.ifCond .lt 10, 3) := by decide +kernel
theorem dX8_areParts_38 : decode cX8_areParts 38 = .ok (.iload_n 3, 1) := by decide +kernel
theorem dX8_areParts_39 : decode cX8_areParts 39 = .ok (.iconst 1, 1) := by decide +kernel
theorem dX8_areParts_40 : decode cX8_areParts 40 = .ok (.iload_n 2, 1) := by decide +kernel
theorem dX8_areParts_41 : decode cX8_areParts 41 = .ok (.ishl, 1) := by decide +kernel
theorem dX8_areParts_42 : decode cX8_areParts 42 = .ok (.if_icmp .lt 5, 3) := by decide +kernel
theorem dX8_areParts_45 : decode cX8_areParts 45 = .ok (.iconst 0, 1) := by decide +kernel
theorem dX8_areParts_46 : decode cX8_areParts 46 = .ok (.ireturn, 1) := by decide +kernel
theorem dX8_areParts_47 : decode cX8_areParts 47 = .ok (.iinc 1 2, 3) := by decide +kernel
theorem dX8_areParts_50 : decode cX8_areParts 50 = .ok (.goto (-48), 3) := by decide +kernel
theorem dX8_areParts_53 : decode cX8_areParts 53 = .ok (.iconst 1, 1) := by decide +kernel
theorem dX8_areParts_54 : decode cX8_areParts 54 = .ok (.ireturn, 1) := by decide +kernel
theorem dX8_areOrdered_0 : decode cX8_areOrdered 0 = .ok (.iconst 2, 1) := by decide +kernel
theorem dX8_areOrdered_1 : decode cX8_areOrdered 1 = .ok (.istore_n 1, 1) := by decide +kernel
theorem dX8_areOrdered_2 : decode cX8_areOrdered 2 = .ok (.iload_n 1, 1) := by decide +kernel
theorem dX8_areOrdered_3 : decode cX8_areOrdered 3 = .ok (.aload_n 0, 1) := by decide +kernel
theorem dX8_areOrdered_4 : decode cX8_areOrdered 4 = .ok (.getfield 135, 3) := by decide +kernel
theorem dX8_areOrdered_7 : decode cX8_areOrdered 7 = .ok (.if_icmp .ge 53, 3) := by decide +kernel
theorem dX8_areOrdered_10 : decode cX8_areOrdered 10 = .ok (.aload_n 0, 1) := by decide +kernel
theorem dX8_areOrdered_11 : decode cX8_areOrdered 11 = .ok (.iload_n 1, 1) := by decide +kernel
theorem dX8_areOrdered_12 : decode cX8_areOrdered 12 = .ok (.iconst 1, 1) := by decide +kernel
theorem dX8_areOrdered_13 : decode cX8_areOrdered 13 = .ok (.isub, 1) := by decide +kernel
theorem dX8_areOrdered_14 : decode cX8_areOrdered 14 = .ok (.invokevirtual 67, 3) := by decide +kernel
theorem dX8_areOrdered_17 : decode cX8_areOrdered 17 = .ok (.i2l, 1) := by decide +kernel
theorem dX8_areOrdered_18 : decode cX8_areOrdered 18 = .ok (.lconst 1, 1) := by decide +kernel
theorem dX8_areOrdered_19 : decode cX8_areOrdered 19 = .ok (.ladd, 1) := by decide +kernel
theorem dX8_areOrdered_20 : decode cX8_areOrdered 20 = .ok (.aload_n 0, 1) := by decide +kernel
theorem dX8_areOrdered_21 : decode cX8_areOrdered 21 = .ok (.iload_n 1, 1) := by decide +kernel
theorem dX8_areOrdered_22 : decode cX8_areOrdered 22 = .ok (.invokevirtual 67, 3) := by decide +kernel
theorem dX8_areOrdered_25 : decode cX8_areOrdered 25 = .ok (.lshl, 1) := by decide +kernel
theorem dX8_areOrdered_26 : decode cX8_areOrdered 26 = .ok (.lstore_n 2, 1) := by decide +kernel
theorem dX8_areOrdered_27 : decode cX8_areOrdered 27 = .ok (.aload_n 0, 1) := by decide +kernel
theorem dX8_areOrdered_28 : decode cX8_areOrdered 28 = .ok (.iload_n 1, 1) := by decide +kernel
theorem dX8_areOrdered_29 : decode cX8_areOrdered 29 = .ok (.iconst 1, 1) := by decide +kernel
theorem dX8_areOrdered_30 : decode cX8_areOrdered 30 = .ok (.iadd, 1) := by decide +kernel
theorem dX8_areOrdered_31 : decode cX8_areOrdered 31 = .ok (.invokevirtual 67, 3) := by decide +kernel
theorem dX8_areOrdered_34 : decode cX8_areOrdered 34 = .ok (.i2l, 1) := by decide +kernel
theorem dX8_areOrdered_35 : decode cX8_areOrdered 35 = .ok (.aload_n 0, 1) := by decide +kernel
theorem dX8_areOrdered_36 : decode cX8_areOrdered 36 = .ok (.iload_n 1, 1) := by decide +kernel
theorem dX8_areOrdered_37 : decode cX8_areOrdered 37 = .ok (.iconst 2, 1) := by decide +kernel
theorem dX8_areOrdered_38 : decode cX8_areOrdered 38 = .ok (.isub, 1) := by decide +kernel
theorem dX8_areOrdered_39 : decode cX8_areOrdered 39 = .ok (.invokevirtual 67, 3) := by decide +kernel
theorem dX8_areOrdered_42 : decode cX8_areOrdered 42 = .ok (.lshl, 1) := by decide +kernel
theorem dX8_areOrdered_43 : decode cX8_areOrdered 43 = .ok (.lstore 4, 2) := by decide +kernel
theorem dX8_areOrdered_45 : decode cX8_areOrdered 45 = .ok (.lload 4, 2) := by decide +kernel
theorem dX8_areOrdered_47 : decode cX8_areOrdered 47 = .ok (.lload_n 2, 1) := by decide +kernel
theorem dX8_areOrdered_48 : decode cX8_areOrdered 48 = .ok (.lcmp, 1) := by decide +kernel
theorem dX8_areOrdered_49 : decode cX8_areOrdered 49 = .ok (.ifCond .ge 5, 3) := by decide +kernel
theorem dX8_areOrdered_52 : decode cX8_areOrdered 52 = .ok (.iconst 0, 1) := by decide +kernel
theorem dX8_areOrdered_53 : decode cX8_areOrdered 53 = .ok (.ireturn, 1) := by decide +kernel
theorem dX8_areOrdered_54 : decode cX8_areOrdered 54 = .ok (.iinc 1 2, 3) := by decide +kernel
theorem dX8_areOrdered_57 : decode cX8_areOrdered 57 = .ok (.goto (-55), 3) := by decide +kernel
theorem dX8_areOrdered_60 : decode cX8_areOrdered 60 = .ok (.iconst 1, 1) := by decide +kernel
theorem dX8_areOrdered_61 : decode cX8_areOrdered 61 = .ok (.ireturn, 1) := by decide +kernel
theorem dX8_judgeSigns_0 : decode cX8_judgeSigns 0 = .ok (.aload_n 0, 1) := by decide +kernel
theorem dX8_judgeSigns_1 : decode cX8_judgeSigns 1 = .ok (.aload_n 1, 1) := by decide +kernel
theorem dX8_judgeSigns_2 : decode cX8_judgeSigns 2 = .ok (.invokevirtual 163, 3) := by decide +kernel
theorem dX8_judgeSigns_5 : decode cX8_judgeSigns 5 = .ok (.aload_n 2, 1) := by decide +kernel
theorem dX8_judgeSigns_6 : decode cX8_judgeSigns 6 = .ok (.getfield 135, 3) := by decide +kernel
theorem dX8_judgeSigns_9 : decode cX8_judgeSigns 9 = .ok (.iconst 2, 1) := by decide +kernel
theorem dX8_judgeSigns_10 : decode cX8_judgeSigns 10 = .ok (.aload_n 0, 1) := by decide +kernel
theorem dX8_judgeSigns_11 : decode cX8_judgeSigns 11 = .ok (.getfield 173, 3) := by decide +kernel
theorem dX8_judgeSigns_14 : decode cX8_judgeSigns 14 = .ok (.imul, 1) := by decide +kernel
theorem dX8_judgeSigns_15 : decode cX8_judgeSigns 15 = .ok (.if_icmp .eq 5, 3) := by decide +kernel
theorem dX8_judgeSigns_18 : decode cX8_judgeSigns 18 = .ok (.iconst 1, 1) := by decide +kernel
theorem dX8_judgeSigns_19 : decode cX8_judgeSigns 19 = .ok (.ireturn, 1) := by decide +kernel
theorem dX8_judgeSigns_20 : decode cX8_judgeSigns 20 = .ok (.iconst 0, 1) := by decide +kernel
theorem dX8_judgeSigns_21 : decode cX8_judgeSigns 21 = .ok (.istore_n 3, 1) := by decide +kernel
theorem dX8_judgeSigns_22 : decode cX8_judgeSigns 22 = .ok (.iload_n 3, 1) := by decide +kernel
theorem dX8_judgeSigns_23 : decode cX8_judgeSigns 23 = .ok (.aload_n 2, 1) := by decide +kernel
theorem dX8_judgeSigns_24 : decode cX8_judgeSigns 24 = .ok (.getfield 135, 3) := by decide +kernel
theorem dX8_judgeSigns_27 : decode cX8_judgeSigns 27 = .ok (.if_icmp .ge 24, 3) := by decide +kernel
theorem dX8_judgeSigns_30 : decode cX8_judgeSigns 30 = .ok (.aload_n 2, 1) := by decide +kernel
theorem dX8_judgeSigns_31 : decode cX8_judgeSigns 31 = .ok (.iload_n 3, 1) := by decide +kernel
theorem dX8_judgeSigns_32 : decode cX8_judgeSigns 32 = .ok (.invokevirtual 67, 3) := by decide +kernel
theorem dX8_judgeSigns_35 : decode cX8_judgeSigns 35 = .ok (.aload_n 0, 1) := by decide +kernel
theorem dX8_judgeSigns_36 : decode cX8_judgeSigns 36 = .ok (.iload_n 3, 1) := by decide +kernel
theorem dX8_judgeSigns_37 : decode cX8_judgeSigns 37 = .ok (.invokevirtual 176, 3) := by decide +kernel
theorem dX8_judgeSigns_40 : decode cX8_judgeSigns 40 = .ok (.if_icmp .eq 5, 3) := by decide +kernel
theorem dX8_judgeSigns_43 : decode cX8_judgeSigns 43 = .ok (.iconst 2, 1) := by decide +kernel
theorem dX8_judgeSigns_44 : decode cX8_judgeSigns 44 = .ok (.ireturn, 1) := by decide +kernel
theorem dX8_judgeSigns_45 : decode cX8_judgeSigns 45 = .ok (.iinc 3 1, 3) := by decide +kernel
theorem dX8_judgeSigns_48 : decode cX8_judgeSigns 48 = .ok (.goto (-26), 3) := by decide +kernel
theorem dX8_judgeSigns_51 : decode cX8_judgeSigns 51 = .ok (.aload_n 0, 1) := by decide +kernel
theorem dX8_judgeSigns_52 : decode cX8_judgeSigns 52 = .ok (.iconst 0, 1) := by decide +kernel
theorem dX8_judgeSigns_53 : decode cX8_judgeSigns 53 = .ok (.iconst 0, 1) := by decide +kernel
theorem dX8_judgeSigns_54 : decode cX8_judgeSigns 54 = .ok (.invokevirtual 166, 3) := by decide +kernel
theorem dX8_judgeSigns_57 : decode cX8_judgeSigns 57 = .ok (.aload_n 1, 1) := by decide +kernel
theorem dX8_judgeSigns_58 : decode cX8_judgeSigns 58 = .ok (.getfield 74, 3) := by decide +kernel
theorem dX8_judgeSigns_61 : decode cX8_judgeSigns 61 = .ok (.if_icmp .ge 7, 3) := by decide +kernel
theorem dX8_judgeSigns_64 : decode cX8_judgeSigns 64 = .ok (.iconst 0, 1) := by decide +kernel
theorem dX8_judgeSigns_65 : decode cX8_judgeSigns 65 = .ok (.goto 4, 3) := by decide +kernel
theorem dX8_judgeSigns_68 : decode cX8_judgeSigns 68 = .ok (.iconst 3, 1) := by decide +kernel
theorem dX8_judgeSigns_69 : decode cX8_judgeSigns 69 = .ok (.ireturn, 1) := by decide +kernel
