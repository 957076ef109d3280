theorem dX11_init_0 : decode cX11_init 0 = .ok (.aload_n 0, 1) := by decide +kernel
theorem dX11_init_1 : decode cX11_init 1 = .ok (.invokespecial 1, 3) := by decide +kernel
theorem dX11_init_4 : decode cX11_init 4 = .ok (.aload_n 0, 1) := by decide +kernel
theorem dX11_init_5 : decode cX11_init 5 = .ok (.new 7, 3) := by decide +kernel
theorem dX11_init_8 : decode cX11_init 8 = .ok (.dup, 1) := by decide +kernel
theorem dX11_init_9 : decode cX11_init 9 = .ok (.invokespecial 9, 3) := by decide +kernel
theorem dX11_init_12 : decode cX11_init 12 = .ok (.putfield 10, 3) := by decide +kernel
theorem dX11_init_15 : decode cX11_init 15 = .ok (.aload_n 0, 1) := by decide +kernel
theorem dX11_init_16 : decode cX11_init 16 = .ok (.bipush 12, 2) := by decide +kernel
theorem dX11_init_18 : decode cX11_init 18 = .ok (.anewarray 16, 3) := by decide +kernel
theorem dX11_init_21 : decode cX11_init 21 = .ok (.putfield 18, 3) := by decide +kernel
theorem dX11_init_24 : decode cX11_init 24 = .ok (.aload_n 0, 1) := by decide +kernel
theorem dX11_init_25 : decode cX11_init 25 = .ok (.bipush 12, 2) := by decide +kernel
theorem dX11_init_27 : decode cX11_init 27 = .ok (.newarray .int, 2) := by decide +kernel
theorem dX11_init_29 : decode cX11_init 29 = .ok (.putfield 22, 3) := by decide +kernel
theorem dX11_init_32 : decode cX11_init 32 = .ok (.aload_n 0, 1) := by decide +kernel
theorem dX11_init_33 : decode cX11_init 33 = .ok (.iconst 5, 1) := by decide +kernel
theorem dX11_init_34 : decode cX11_init 34 = .ok (.newarray .int, 2) := by decide +kernel
theorem dX11_init_36 : decode cX11_init 36 = .ok (.putfield 26, 3) := by decide +kernel
theorem dX11_init_39 : decode cX11_init 39 = .ok (.aload_n 0, 1) := by decide +kernel
theorem dX11_init_40 : decode cX11_init 40 = .ok (.new 16, 3) := by decide +kernel
theorem dX11_init_43 : decode cX11_init 43 = .ok (.dup, 1) := by decide +kernel
theorem dX11_init_44 : decode cX11_init 44 = .ok (.invokespecial 29, 3) := by decide +kernel
theorem dX11_init_47 : decode cX11_init 47 = .ok (.putfield 30, 3) := by decide +kernel
theorem dX11_init_50 : decode cX11_init 50 = .ok (.aload_n 0, 1) := by decide +kernel
theorem dX11_init_51 : decode cX11_init 51 = .ok (.bipush 24, 2) := by decide +kernel
theorem dX11_init_53 : decode cX11_init 53 = .ok (.anewarray 16, 3) := by decide +kernel
theorem dX11_init_56 : decode cX11_init 56 = .ok (.putfield 34, 3) := by decide +kernel
theorem dX11_init_59 : decode cX11_init 59 = .ok (.aload_n 0, 1) := by decide +kernel
theorem dX11_init_60 : decode cX11_init 60 = .ok (.bipush 24, 2) := by decide +kernel
theorem dX11_init_62 : decode cX11_init 62 = .ok (.newarray .char, 2) := by decide +kernel
theorem dX11_init_64 : decode cX11_init 64 = .ok (.putfield 37, 3) := by decide +kernel
theorem dX11_init_67 : decode cX11_init 67 = .ok (.aload_n 0, 1) := by decide +kernel
theorem dX11_init_68 : decode cX11_init 68 = .ok (.bipush 24, 2) := by decide +kernel
theorem dX11_init_70 : decode cX11_init 70 = .ok (.newarray .int, 2) := by decide +kernel
theorem dX11_init_72 : decode cX11_init 72 = .ok (.putfield 41, 3) := by decide +kernel
theorem dX11_init_75 : decode cX11_init 75 = .ok (.aload_n 0, 1) := by decide +kernel
theorem dX11_init_76 : decode cX11_init 76 = .ok (.new 44, 3) := by decide +kernel
theorem dX11_init_79 : decode cX11_init 79 = .ok (.dup, 1) := by decide +kernel
theorem dX11_init_80 : decode cX11_init 80 = .ok (.invokespecial 46, 3) := by decide +kernel
theorem dX11_init_83 : decode cX11_init 83 = .ok (.putfield 47, 3) := by decide +kernel
theorem dX11_init_86 : decode cX11_init 86 = .ok (.aload_n 0, 1) := by decide +kernel
theorem dX11_init_87 : decode cX11_init 87 = .ok (.bipush 6, 2) := by decide +kernel
theorem dX11_init_89 : decode cX11_init 89 = .ok (.newarray .int, 2) := by decide +kernel
theorem dX11_init_91 : decode cX11_init 91 = .ok (.putfield 51, 3) := by decide +kernel
theorem dX11_init_94 : decode cX11_init 94 = .ok (.aload_n 0, 1) := by decide +kernel
theorem dX11_init_95 : decode cX11_init 95 = .ok (.bipush 16, 2) := by decide +kernel
theorem dX11_init_97 : decode cX11_init 97 = .ok (.anewarray 54, 3) := by decide +kernel
theorem dX11_init_100 : decode cX11_init 100 = .ok (.putfield 56, 3) := by decide +kernel
theorem dX11_init_103 : decode cX11_init 103 = .ok (.aload_n 0, 1) := by decide +kernel
theorem dX11_init_104 : decode cX11_init 104 = .ok (.sipush 256, 3) := by decide +kernel
theorem dX11_init_107 : decode cX11_init 107 = .ok (.newarray .int, 2) := by decide +kernel
theorem dX11_init_109 : decode cX11_init 109 = .ok (.putfield 60, 3) := by decide +kernel
theorem dX11_init_112 : decode cX11_init 112 = .ok (.iconst 0, 1) := by decide +kernel
theorem dX11_init_113 : decode cX11_init 113 = .ok (.istore_n 1, 1) := by decide +kernel
theorem dX11_init_114 : decode cX11_init 114 = .ok (.iload_n 1, 1) := by decide +kernel
theorem dX11_init_115 : decode cX11_init 115 = .ok (.bipush 12, 2) := by decide +kernel
theorem dX11_init_117 : decode cX11_init 117 = .ok (.if_icmp .ge 22, 3) := by decide +kernel
theorem dX11_init_120 : decode cX11_init 120 = .ok (.aload_n 0, 1) := by decide +kernel
theorem dX11_init_121 : decode cX11_init 121 = .ok (.getfield 18, 3) := by decide +kernel
theorem dX11_init_124 : decode cX11_init 124 = .ok (.iload_n 1, 1) := by decide +kernel
theorem dX11_init_125 : decode cX11_init 125 = .ok (.new 16, 3) := by decide +kernel
theorem dX11_init_128 : decode cX11_init 128 = .ok (.dup, 1) := by decide +kernel
theorem dX11_init_129 : decode cX11_init 129 = .ok (.invokespecial 29, 3) := by decide +kernel
theorem dX11_init_132 : decode cX11_init 132 = .ok (.aastore, 1) := by decide +kernel
theorem dX11_init_133 : decode cX11_init 133 = .ok (.iinc 1 1, 3) := by decide +kernel
theorem dX11_init_136 : decode cX11_init 136 = .ok (.goto (-22), 3) := by decide +kernel
theorem dX11_init_139 : decode cX11_init 139 = .ok (.iconst 0, 1) := by decide +kernel
theorem dX11_init_140 : decode cX11_init 140 = .ok (.istore_n 1, 1) := by decide +kernel
theorem dX11_init_141 : decode cX11_init 141 = .ok (.iload_n 1, 1) := by decide +kernel
theorem dX11_init_142 : decode cX11_init 142 = .ok (.bipush 24, 2) := by decide +kernel
theorem dX11_init_144 : decode cX11_init 144 = .ok (.if_icmp .ge 22, 3) := by decide +kernel
theorem dX11_init_147 : decode cX11_init 147 = .ok (.aload_n 0, 1) := by decide +kernel
theorem dX11_init_148 : decode cX11_init 148 = .ok (.getfield 34, 3) := by decide +kernel
theorem dX11_init_151 : decode cX11_init 151 = .ok (.iload_n 1, 1) := by decide +kernel
theorem dX11_init_152 : decode cX11_init 152 = .ok (.new 16, 3) := by decide +kernel
theorem dX11_init_155 : decode cX11_init 155 = .ok (.dup, 1) := by decide +kernel
theorem dX11_init_156 : decode cX11_init 156 = .ok (.invokespecial 29, 3) := by decide +kernel
theorem dX11_init_159 : decode cX11_init 159 = .ok (.aastore, 1) := by decide +kernel
theorem dX11_init_160 : decode cX11_init 160 = .ok (.iinc 1 1, 3) := by decide +kernel
theorem dX11_init_163 : decode cX11_init 163 = .ok (.goto (-22), 3) := by decide +kernel
theorem dX11_init_166 : decode cX11_init 166 = .ok (.iconst 0, 1) := by decide +kernel
theorem dX11_init_167 : decode cX11_init 167 = .ok (.istore_n 1, 1) := by decide +kernel
theorem dX11_init_168 : decode cX11_init 168 = .ok (.iload_n 1, 1) := by decide +kernel
theorem dX11_init_169 : decode cX11_init 169 = .ok (.bipush 16, 2) := by decide +kernel
theorem dX11_init_171 : decode cX11_init 171 = .ok (.if_icmp .ge 22, 3) := by decide +kernel
theorem dX11_init_174 : decode cX11_init 174 = .ok (.aload_n 0, 1) := by decide +kernel
theorem dX11_init_175 : decode cX11_init 175 = .ok (.getfield 56, 3) := by decide +kernel
theorem dX11_init_178 : decode cX11_init 178 = .ok (.iload_n 1, 1) := by decide +kernel
theorem dX11_init_179 : decode cX11_init 179 = .ok (.new 54, 3) := by decide +kernel
theorem dX11_init_182 : decode cX11_init 182 = .ok (.dup, 1) := by decide +kernel
theorem dX11_init_183 : decode cX11_init 183 = .ok (.invokespecial 63, 3) := by decide +kernel
theorem dX11_init_186 : decode cX11_init 186 = .ok (.aastore, 1) := by decide +kernel
theorem dX11_init_187 : decode cX11_init 187 = .ok (.iinc 1 1, 3) := by decide +kernel
theorem dX11_init_190 : decode cX11_init 190 = .ok (.goto (-22), 3) := by decide +kernel
theorem dX11_init_193 : decode cX11_init 193 = .ok (.return_, 1) := by decide +kernel
theorem dX11_open_0 : decode cX11_open 0 = .ok (.ldc 64, 2) := by decide +kernel
theorem dX11_open_2 : decode cX11_open 2 = .ok (.iload_n 1, 1) := by decide +kernel
theorem dX11_open_3 : decode cX11_open 3 = .ok (.invokevirtual 66, 3) := by decide +kernel
theorem dX11_open_6 : decode cX11_open 6 = .ok (.istore 4, 2) := by decide +kernel
theorem dX11_open_8 : decode cX11_open 8 = .ok (.iload 4, 2) := by decide +kernel
theorem dX11_open_10 : decode cX11_open 10 = .ok (.ifCond .lt 21, 3) := by decide +kernel
theorem dX11_open_13 : decode cX11_open 13 = .ok (.iload 4, 2) := by decide +kernel
theorem dX11_open_15 : decode cX11_open 15 = .ok (.iload_n 2, 1) := by decide +kernel
theorem dX11_open_16 : decode cX11_open 16 = .ok (.invokestatic 72, 3) := by decide +kernel
theorem dX11_open_19 : decode cX11_open 19 = .ok (.ifCond .eq 12, 3) := by decide +kernel
theorem dX11_open_22 : decode cX11_open 22 = .ok (.iload 4, 2) := by decide +kernel
theorem dX11_open_24 : decode cX11_open 24 = .ok (.iload_n 3, 1) := by decide +kernel
theorem dX11_open_25 : decode cX11_open 25 = .ok (.invokestatic 76, 3) := by decide +kernel
theorem dX11_open_28 : decode cX11_open 28 = .ok (.ifCond .ne 13, 3) := by decide +kernel
theorem dX11_open_31 : decode cX11_open 31 = .ok (.new 79, 3) := by decide +kernel
theorem dX11_open_34 : decode cX11_open 34 = .ok (.dup, 1) := by decide +kernel
theorem dX11_open_35 : decode cX11_open 35 = .ok (.ldc 81, 2) := by decide +kernel
theorem dX11_open_37 : decode cX11_open 37 = .ok (.invokespecial 83, 3) := by decide +kernel
theorem dX11_open_40 : decode cX11_open 40 = .ok (.athrow, 1) := by decide +kernel
theorem dX11_open_41 : decode cX11_open 41 = .ok (.aload_n 0, 1) := by decide +kernel
theorem dX11_open_42 : decode cX11_open 42 = .ok (.getfield 86, 3) := by decide +kernel
theorem dX11_open_45 : decode cX11_open 45 = .ok (.bipush 12, 2) := by decide +kernel
theorem dX11_open_47 : decode cX11_open 47 = .ok (.if_icmp .lt 13, 3) := by decide +kernel
theorem dX11_open_50 : decode cX11_open 50 = .ok (.new 90, 3) := by decide +kernel
theorem dX11_open_53 : decode cX11_open 53 = .ok (.dup, 1) := by decide +kernel
theorem dX11_open_54 : decode cX11_open 54 = .ok (.ldc 92, 2) := by decide +kernel
theorem dX11_open_56 : decode cX11_open 56 = .ok (.invokespecial 94, 3) := by decide +kernel
theorem dX11_open_59 : decode cX11_open 59 = .ok (.athrow, 1) := by decide +kernel
theorem dX11_open_60 : decode cX11_open 60 = .ok (.aload_n 0, 1) := by decide +kernel
theorem dX11_open_61 : decode cX11_open 61 = .ok (.getfield 18, 3) := by decide +kernel
theorem dX11_open_64 : decode cX11_open 64 = .ok (.aload_n 0, 1) := by decide +kernel
theorem dX11_open_65 : decode cX11_open 65 = .ok (.getfield 86, 3) := by decide +kernel
theorem dX11_open_68 : decode cX11_open 68 = .ok (.aaload, 1) := by decide +kernel
theorem dX11_open_69 : decode cX11_open 69 = .ok (.iload 4, 2) := by decide +kernel
theorem dX11_open_71 : decode cX11_open 71 = .ok (.iload_n 2, 1) := by decide +kernel
theorem dX11_open_72 : decode cX11_open 72 = .ok (.iload_n 3, 1) := by decide +kernel
theorem dX11_open_73 : decode cX11_open 73 = .ok (.invokevirtual 95, 3) := by decide +kernel
theorem dX11_open_76 : decode cX11_open 76 = .ok (.aload_n 0, 1) := by decide +kernel
theorem dX11_open_77 : decode cX11_open 77 = .ok (.bipush 111, 2) := by decide +kernel
theorem dX11_open_79 : decode cX11_open 79 = .ok (.aload_n 0, 1) := by decide +kernel
theorem dX11_open_80 : decode cX11_open 80 = .ok (.getfield 86, 3) := by decide +kernel
theorem dX11_open_83 : decode cX11_open 83 = .ok (.invokevirtual 99, 3) := by decide +kernel
theorem dX11_open_86 : decode cX11_open 86 = .ok (.aload_n 0, 1) := by decide +kernel
theorem dX11_open_87 : decode cX11_open 87 = .ok (.dup, 1) := by decide +kernel
theorem dX11_open_88 : decode cX11_open 88 = .ok (.getfield 86, 3) := by decide +kernel
theorem dX11_open_91 : decode cX11_open 91 = .ok (.iconst 1, 1) := by decide +kernel
theorem dX11_open_92 : decode cX11_open 92 = .ok (.iadd, 1) := by decide +kernel
theorem dX11_open_93 : decode cX11_open 93 = .ok (.putfield 86, 3) := by decide +kernel
theorem dX11_open_96 : decode cX11_open 96 = .ok (.aload_n 0, 1) := by decide +kernel
theorem dX11_open_97 : decode cX11_open 97 = .ok (.getfield 86, 3) := by decide +kernel
theorem dX11_open_100 : decode cX11_open 100 = .ok (.iconst 1, 1) := by decide +kernel
theorem dX11_open_101 : decode cX11_open 101 = .ok (.isub, 1) := by decide +kernel
theorem dX11_open_102 : decode cX11_open 102 = .ok (.ireturn, 1) := by decide +kernel
theorem dX11_put_0 : decode cX11_put 0 = .ok (.aload_n 0, 1) := by decide +kernel
theorem dX11_put_1 : decode cX11_put 1 = .ok (.iload_n 1, 1) := by decide +kernel
theorem dX11_put_2 : decode cX11_put 2 = .ok (.invokevirtual 103, 3) := by decide +kernel
theorem dX11_put_5 : decode cX11_put 5 = .ok (.astore 7, 2) := by decide +kernel
theorem dX11_put_7 : decode cX11_put 7 = .ok (.aload_n 0, 1) := by decide +kernel
theorem dX11_put_8 : decode cX11_put 8 = .ok (.iload_n 2, 1) := by decide +kernel
theorem dX11_put_9 : decode cX11_put 9 = .ok (.iload_n 3, 1) := by decide +kernel
theorem dX11_put_10 : decode cX11_put 10 = .ok (.iload 4, 2) := by decide +kernel
theorem dX11_put_12 : decode cX11_put 12 = .ok (.iload 5, 2) := by decide +kernel
theorem dX11_put_14 : decode cX11_put 14 = .ok (.iload 6, 2) := by decide +kernel
theorem dX11_put_16 : decode cX11_put 16 = .ok (.invokevirtual 107, 3) := by decide +kernel
theorem dX11_put_19 : decode cX11_put 19 = .ok (.aload_n 0, 1) := by decide +kernel
theorem dX11_put_20 : decode cX11_put 20 = .ok (.aload 7, 2) := by decide +kernel
theorem dX11_put_22 : decode cX11_put 22 = .ok (.aload 7, 2) := by decide +kernel
theorem dX11_put_24 : decode cX11_put 24 = .ok (.getfield 111, 3) := by decide +kernel
theorem dX11_put_27 : decode cX11_put 27 = .ok (.invokevirtual 114, 3) := by decide +kernel
theorem dX11_put_30 : decode cX11_put 30 = .ok (.aload 7, 2) := by decide +kernel
theorem dX11_put_32 : decode cX11_put 32 = .ok (.getfield 111, 3) := by decide +kernel
theorem dX11_put_35 : decode cX11_put 35 = .ok (.aload 7, 2) := by decide +kernel
theorem dX11_put_37 : decode cX11_put 37 = .ok (.invokestatic 118, 3) := by decide +kernel
theorem dX11_put_40 : decode cX11_put 40 = .ok (.if_icmp .lt 13, 3) := by decide +kernel
theorem dX11_put_43 : decode cX11_put 43 = .ok (.new 90, 3) := by decide +kernel
theorem dX11_put_46 : decode cX11_put 46 = .ok (.dup, 1) := by decide +kernel
theorem dX11_put_47 : decode cX11_put 47 = .ok (.ldc 122, 2) := by decide +kernel
theorem dX11_put_49 : decode cX11_put 49 = .ok (.invokespecial 94, 3) := by decide +kernel
theorem dX11_put_52 : decode cX11_put 52 = .ok (.athrow, 1) := by decide +kernel
theorem dX11_put_53 : decode cX11_put 53 = .ok (.aload_n 0, 1) := by decide +kernel
theorem dX11_put_54 : decode cX11_put 54 = .ok (.bipush 112, 2) := by decide +kernel
theorem dX11_put_56 : decode cX11_put 56 = .ok (.iload_n 1, 1) := by decide +kernel
theorem dX11_put_57 : decode cX11_put 57 = .ok (.invokevirtual 99, 3) := by decide +kernel
theorem dX11_put_60 : decode cX11_put 60 = .ok (.aload 7, 2) := by decide +kernel
theorem dX11_put_62 : decode cX11_put 62 = .ok (.aload 7, 2) := by decide +kernel
theorem dX11_put_64 : decode cX11_put 64 = .ok (.getfield 111, 3) := by decide +kernel
theorem dX11_put_67 : decode cX11_put 67 = .ok (.aload_n 0, 1) := by decide +kernel
theorem dX11_put_68 : decode cX11_put 68 = .ok (.getfield 26, 3) := by decide +kernel
theorem dX11_put_71 : decode cX11_put 71 = .ok (.invokevirtual 124, 3) := by decide +kernel
theorem dX11_put_74 : decode cX11_put 74 = .ok (.aload 7, 2) := by decide +kernel
theorem dX11_put_76 : decode cX11_put 76 = .ok (.dup, 1) := by decide +kernel
theorem dX11_put_77 : decode cX11_put 77 = .ok (.getfield 111, 3) := by decide +kernel
theorem dX11_put_80 : decode cX11_put 80 = .ok (.iconst 1, 1) := by decide +kernel
theorem dX11_put_81 : decode cX11_put 81 = .ok (.iadd, 1) := by decide +kernel
theorem dX11_put_82 : decode cX11_put 82 = .ok (.putfield 111, 3) := by decide +kernel
theorem dX11_put_85 : decode cX11_put 85 = .ok (.aload 7, 2) := by decide +kernel
theorem dX11_put_87 : decode cX11_put 87 = .ok (.iconst 0, 1) := by decide +kernel
theorem dX11_put_88 : decode cX11_put 88 = .ok (.putfield 128, 3) := by decide +kernel
theorem dX11_put_91 : decode cX11_put 91 = .ok (.aload 7, 2) := by decide +kernel
theorem dX11_put_93 : decode cX11_put 93 = .ok (.getfield 111, 3) := by decide +kernel
theorem dX11_put_96 : decode cX11_put 96 = .ok (.ireturn, 1) := by decide +kernel
theorem dX11_change_0 : decode cX11_change 0 = .ok (.aload_n 0, 1) := by decide +kernel
theorem dX11_change_1 : decode cX11_change 1 = .ok (.iload_n 1, 1) := by decide +kernel
theorem dX11_change_2 : decode cX11_change 2 = .ok (.invokevirtual 103, 3) := by decide +kernel
theorem dX11_change_5 : decode cX11_change 5 = .ok (.astore 8, 2) := by decide +kernel
theorem dX11_change_7 : decode cX11_change 7 = .ok (.iload_n 2, 1) := by decide +kernel
theorem dX11_change_8 : decode cX11_change 8 = .ok (.aload 8, 2) := by decide +kernel
theorem dX11_change_10 : decode cX11_change 10 = .ok (.getfield 111, 3) := by decide +kernel
theorem dX11_change_13 : decode cX11_change 13 = .ok (.invokestatic 132, 3) := by decide +kernel
theorem dX11_change_16 : decode cX11_change 16 = .ok (.aload_n 0, 1) := by decide +kernel
theorem dX11_change_17 : decode cX11_change 17 = .ok (.iload_n 3, 1) := by decide +kernel
theorem dX11_change_18 : decode cX11_change 18 = .ok (.iload 4, 2) := by decide +kernel
theorem dX11_change_20 : decode cX11_change 20 = .ok (.iload 5, 2) := by decide +kernel
theorem dX11_change_22 : decode cX11_change 22 = .ok (.iload 6, 2) := by decide +kernel
theorem dX11_change_24 : decode cX11_change 24 = .ok (.iload 7, 2) := by decide +kernel
theorem dX11_change_26 : decode cX11_change 26 = .ok (.invokevirtual 107, 3) := by decide +kernel
theorem dX11_change_29 : decode cX11_change 29 = .ok (.aload_n 0, 1) := by decide +kernel
theorem dX11_change_30 : decode cX11_change 30 = .ok (.aload 8, 2) := by decide +kernel
theorem dX11_change_32 : decode cX11_change 32 = .ok (.iload_n 2, 1) := by decide +kernel
theorem dX11_change_33 : decode cX11_change 33 = .ok (.invokevirtual 114, 3) := by decide +kernel
theorem dX11_change_36 : decode cX11_change 36 = .ok (.aload_n 0, 1) := by decide +kernel
theorem dX11_change_37 : decode cX11_change 37 = .ok (.bipush 99, 2) := by decide +kernel
theorem dX11_change_39 : decode cX11_change 39 = .ok (.iload_n 1, 1) := by decide +kernel
theorem dX11_change_40 : decode cX11_change 40 = .ok (.invokevirtual 99, 3) := by decide +kernel
theorem dX11_change_43 : decode cX11_change 43 = .ok (.aload 8, 2) := by decide +kernel
theorem dX11_change_45 : decode cX11_change 45 = .ok (.iload_n 2, 1) := by decide +kernel
theorem dX11_change_46 : decode cX11_change 46 = .ok (.aload_n 0, 1) := by decide +kernel
theorem dX11_change_47 : decode cX11_change 47 = .ok (.getfield 26, 3) := by decide +kernel
theorem dX11_change_50 : decode cX11_change 50 = .ok (.invokevirtual 136, 3) := by decide +kernel
theorem dX11_change_53 : decode cX11_change 53 = .ok (.istore 9, 2) := by decide +kernel
theorem dX11_change_55 : decode cX11_change 55 = .ok (.aload 8, 2) := by decide +kernel
theorem dX11_change_57 : decode cX11_change 57 = .ok (.iload_n 2, 1) := by decide +kernel
theorem dX11_change_58 : decode cX11_change 58 = .ok (.aload_n 0, 1) := by decide +kernel
theorem dX11_change_59 : decode cX11_change 59 = .ok (.getfield 26, 3) := by decide +kernel
theorem dX11_change_62 : decode cX11_change 62 = .ok (.invokevirtual 124, 3) := by decide +kernel
theorem dX11_change_65 : decode cX11_change 65 = .ok (.aload 8, 2) := by decide +kernel
theorem dX11_change_67 : decode cX11_change 67 = .ok (.iconst 0, 1) := by decide +kernel
theorem dX11_change_68 : decode cX11_change 68 = .ok (.putfield 128, 3) := by decide +kernel
theorem dX11_change_71 : decode cX11_change 71 = .ok (.iload 9, 2) := by decide +kernel
theorem dX11_change_73 : decode cX11_change 73 = .ok (.ireturn, 1) := by decide +kernel
theorem dX11_drop_0 : decode cX11_drop 0 = .ok (.aload_n 0, 1) := by decide +kernel
theorem dX11_drop_1 : decode cX11_drop 1 = .ok (.iload_n 1, 1) := by decide +kernel
theorem dX11_drop_2 : decode cX11_drop 2 = .ok (.invokevirtual 103, 3) := by decide +kernel
theorem dX11_drop_5 : decode cX11_drop 5 = .ok (.astore_n 3, 1) := by decide +kernel
theorem dX11_drop_6 : decode cX11_drop 6 = .ok (.iload_n 2, 1) := by decide +kernel
theorem dX11_drop_7 : decode cX11_drop 7 = .ok (.aload_n 3, 1) := by decide +kernel
theorem dX11_drop_8 : decode cX11_drop 8 = .ok (.getfield 111, 3) := by decide +kernel
theorem dX11_drop_11 : decode cX11_drop 11 = .ok (.invokestatic 132, 3) := by decide +kernel
theorem dX11_drop_14 : decode cX11_drop 14 = .ok (.aload_n 0, 1) := by decide +kernel
theorem dX11_drop_15 : decode cX11_drop 15 = .ok (.bipush 100, 2) := by decide +kernel
theorem dX11_drop_17 : decode cX11_drop 17 = .ok (.iload_n 1, 1) := by decide +kernel
theorem dX11_drop_18 : decode cX11_drop 18 = .ok (.invokevirtual 99, 3) := by decide +kernel
theorem dX11_drop_21 : decode cX11_drop 21 = .ok (.aload_n 3, 1) := by decide +kernel
theorem dX11_drop_22 : decode cX11_drop 22 = .ok (.iload_n 2, 1) := by decide +kernel
theorem dX11_drop_23 : decode cX11_drop 23 = .ok (.invokevirtual 140, 3) := by decide +kernel
theorem dX11_drop_26 : decode cX11_drop 26 = .ok (.aload_n 3, 1) := by decide +kernel
theorem dX11_drop_27 : decode cX11_drop 27 = .ok (.iconst 0, 1) := by decide +kernel
theorem dX11_drop_28 : decode cX11_drop 28 = .ok (.putfield 128, 3) := by decide +kernel
theorem dX11_drop_31 : decode cX11_drop 31 = .ok (.aload_n 3, 1) := by decide +kernel
theorem dX11_drop_32 : decode cX11_drop 32 = .ok (.getfield 111, 3) := by decide +kernel
theorem dX11_drop_35 : decode cX11_drop 35 = .ok (.ireturn, 1) := by decide +kernel
theorem dX11_setBound_0 : decode cX11_setBound 0 = .ok (.aload_n 0, 1) := by decide +kernel
theorem dX11_setBound_1 : decode cX11_setBound 1 = .ok (.iload_n 1, 1) := by decide +kernel
theorem dX11_setBound_2 : decode cX11_setBound 2 = .ok (.invokevirtual 144, 3) := by decide +kernel
theorem dX11_setBound_5 : decode cX11_setBound 5 = .ok (.astore_n 3, 1) := by decide +kernel
theorem dX11_setBound_6 : decode cX11_setBound 6 = .ok (.aload_n 3, 1) := by decide +kernel
theorem dX11_setBound_7 : decode cX11_setBound 7 = .ok (.getfield 147, 3) := by decide +kernel
theorem dX11_setBound_10 : decode cX11_setBound 10 = .ok (.iload_n 2, 1) := by decide +kernel
theorem dX11_setBound_11 : decode cX11_setBound 11 = .ok (.invokestatic 76, 3) := by decide +kernel
theorem dX11_setBound_14 : decode cX11_setBound 14 = .ok (.ifCond .ne 13, 3) := by decide +kernel
theorem dX11_setBound_17 : decode cX11_setBound 17 = .ok (.new 79, 3) := by decide +kernel
theorem dX11_setBound_20 : decode cX11_setBound 20 = .ok (.dup, 1) := by decide +kernel
theorem dX11_setBound_21 : decode cX11_setBound 21 = .ok (.ldc 150, 2) := by decide +kernel
theorem dX11_setBound_23 : decode cX11_setBound 23 = .ok (.invokespecial 83, 3) := by decide +kernel
theorem dX11_setBound_26 : decode cX11_setBound 26 = .ok (.athrow, 1) := by decide +kernel
theorem dX11_setBound_27 : decode cX11_setBound 27 = .ok (.aload_n 0, 1) := by decide +kernel
theorem dX11_setBound_28 : decode cX11_setBound 28 = .ok (.bipush 98, 2) := by decide +kernel
theorem dX11_setBound_30 : decode cX11_setBound 30 = .ok (.iload_n 1, 1) := by decide +kernel
theorem dX11_setBound_31 : decode cX11_setBound 31 = .ok (.invokevirtual 99, 3) := by decide +kernel
theorem dX11_setBound_34 : decode cX11_setBound 34 = .ok (.aload_n 3, 1) := by decide +kernel
theorem dX11_setBound_35 : decode cX11_setBound 35 = .ok (.getfield 152, 3) := by decide +kernel
theorem dX11_setBound_38 : decode cX11_setBound 38 = .ok (.istore 4, 2) := by decide +kernel
theorem dX11_setBound_40 : decode cX11_setBound 40 = .ok (.aload_n 3, 1) := by decide +kernel
theorem dX11_setBound_41 : decode cX11_setBound 41 = .ok (.iload_n 2, 1) := by decide +kernel
theorem dX11_setBound_42 : decode cX11_setBound 42 = .ok (.putfield 155, 3) := by decide +kernel
theorem dX11_setBound_45 : decode cX11_setBound 45 = .ok (.aload_n 3, 1) := by decide +kernel
theorem dX11_setBound_46 : decode cX11_setBound 46 = .ok (.iconst (-1), 1) := by decide +kernel
theorem dX11_setBound_47 : decode cX11_setBound 47 = .ok (.putfield 158, 3) := by decide +kernel
theorem dX11_setBound_50 : decode cX11_setBound 50 = .ok (.iload 4, 2) := by decide +kernel
theorem dX11_setBound_52 : decode cX11_setBound 52 = .ok (.ireturn, 1) := by decide +kernel
theorem dX11_lean_0 : decode cX11_lean 0 = .ok (.aload_n 0, 1) := by decide +kernel
theorem dX11_lean_1 : decode cX11_lean 1 = .ok (.iload_n 1, 1) := by decide +kernel
theorem dX11_lean_2 : decode cX11_lean 2 = .ok (.invokevirtual 103, 3) := by decide +kernel
theorem dX11_lean_5 : decode cX11_lean 5 = .ok (.astore 4, 2) := by decide +kernel
theorem dX11_lean_7 : decode cX11_lean 7 = .ok (.aload_n 0, 1) := by decide +kernel
theorem dX11_lean_8 : decode cX11_lean 8 = .ok (.iload_n 2, 1) := by decide +kernel
theorem dX11_lean_9 : decode cX11_lean 9 = .ok (.invokevirtual 103, 3) := by decide +kernel
theorem dX11_lean_12 : decode cX11_lean 12 = .ok (.pop, 1) := by decide +kernel
theorem dX11_lean_13 : decode cX11_lean 13 = .ok (.iload_n 3, 1) := by decide +kernel
theorem dX11_lean_14 : decode cX11_lean 14 = .ok (.bipush (-20), 2) := by decide +kernel
theorem dX11_lean_16 : decode cX11_lean 16 = .ok (.if_icmp .lt 9, 3) := by decide +kernel
theorem dX11_lean_19 : decode cX11_lean 19 = .ok (.iload_n 3, 1) := by decide +kernel
theorem dX11_lean_20 : decode cX11_lean 20 = .ok (.bipush 20, 2) := by decide +kernel
theorem dX11_lean_22 : decode cX11_lean 22 = .ok (.if_icmp .le 13, 3) := by decide +kernel
theorem dX11_lean_25 : decode cX11_lean 25 = .ok (.new 79, 3) := by decide +kernel
theorem dX11_lean_28 : decode cX11_lean 28 = .ok (.dup, 1) := by decide +kernel
theorem dX11_lean_29 : decode cX11_lean 29 = .ok (.ldc 161, 2) := by decide +kernel
theorem dX11_lean_31 : decode cX11_lean 31 = .ok (.invokespecial 83, 3) := by decide +kernel
theorem dX11_lean_34 : decode cX11_lean 34 = .ok (.athrow, 1) := by decide +kernel
theorem dX11_lean_35 : decode cX11_lean 35 = .ok (.aload_n 0, 1) := by decide +kernel
theorem dX11_lean_36 : decode cX11_lean 36 = .ok (.iload_n 2, 1) := by decide +kernel
theorem dX11_lean_37 : decode cX11_lean 37 = .ok (.iload_n 1, 1) := by decide +kernel
theorem dX11_lean_38 : decode cX11_lean 38 = .ok (.invokevirtual 163, 3) := by decide +kernel
theorem dX11_lean_41 : decode cX11_lean 41 = .ok (.ifCond .eq 13, 3) := by decide +kernel
theorem dX11_lean_44 : decode cX11_lean 44 = .ok (.new 166, 3) := by decide +kernel
theorem dX11_lean_47 : decode cX11_lean 47 = .ok (.dup, 1) := by decide +kernel
theorem dX11_lean_48 : decode cX11_lean 48 = .ok (.ldc 168, 2) := by decide +kernel
theorem dX11_lean_50 : decode cX11_lean 50 = .ok (.invokespecial 170, 3) := by decide +kernel
theorem dX11_lean_53 : decode cX11_lean 53 = .ok (.athrow, 1) := by decide +kernel
theorem dX11_lean_54 : decode cX11_lean 54 = .ok (.aload_n 0, 1) := by decide +kernel
theorem dX11_lean_55 : decode cX11_lean 55 = .ok (.bipush 108, 2) := by decide +kernel
theorem dX11_lean_57 : decode cX11_lean 57 = .ok (.iload_n 1, 1) := by decide +kernel
theorem dX11_lean_58 : decode cX11_lean 58 = .ok (.invokevirtual 99, 3) := by decide +kernel
theorem dX11_lean_61 : decode cX11_lean 61 = .ok (.aload 4, 2) := by decide +kernel
theorem dX11_lean_63 : decode cX11_lean 63 = .ok (.iload_n 2, 1) := by decide +kernel
theorem dX11_lean_64 : decode cX11_lean 64 = .ok (.putfield 158, 3) := by decide +kernel
theorem dX11_lean_67 : decode cX11_lean 67 = .ok (.aload 4, 2) := by decide +kernel
theorem dX11_lean_69 : decode cX11_lean 69 = .ok (.iload_n 3, 1) := by decide +kernel
theorem dX11_lean_70 : decode cX11_lean 70 = .ok (.putfield 171, 3) := by decide +kernel
theorem dX11_lean_73 : decode cX11_lean 73 = .ok (.aload_n 0, 1) := by decide +kernel
theorem dX11_lean_74 : decode cX11_lean 74 = .ok (.iload_n 1, 1) := by decide +kernel
theorem dX11_lean_75 : decode cX11_lean 75 = .ok (.invokevirtual 144, 3) := by decide +kernel
theorem dX11_lean_78 : decode cX11_lean 78 = .ok (.getfield 152, 3) := by decide +kernel
theorem dX11_lean_81 : decode cX11_lean 81 = .ok (.ireturn, 1) := by decide +kernel
theorem dX11_stand_0 : decode cX11_stand 0 = .ok (.aload_n 0, 1) := by decide +kernel
theorem dX11_stand_1 : decode cX11_stand 1 = .ok (.iload_n 1, 1) := by decide +kernel
theorem dX11_stand_2 : decode cX11_stand 2 = .ok (.invokevirtual 144, 3) := by decide +kernel
theorem dX11_stand_5 : decode cX11_stand 5 = .ok (.astore_n 2, 1) := by decide +kernel
theorem dX11_stand_6 : decode cX11_stand 6 = .ok (.aload_n 2, 1) := by decide +kernel
theorem dX11_stand_7 : decode cX11_stand 7 = .ok (.getfield 158, 3) := by decide +kernel
theorem dX11_stand_10 : decode cX11_stand 10 = .ok (.ifCond .ge 13, 3) := by decide +kernel
theorem dX11_stand_13 : decode cX11_stand 13 = .ok (.new 166, 3) := by decide +kernel
theorem dX11_stand_16 : decode cX11_stand 16 = .ok (.dup, 1) := by decide +kernel
theorem dX11_stand_17 : decode cX11_stand 17 = .ok (.ldc 174, 2) := by decide +kernel
theorem dX11_stand_19 : decode cX11_stand 19 = .ok (.invokespecial 170, 3) := by decide +kernel
theorem dX11_stand_22 : decode cX11_stand 22 = .ok (.athrow, 1) := by decide +kernel
theorem dX11_stand_23 : decode cX11_stand 23 = .ok (.aload_n 0, 1) := by decide +kernel
theorem dX11_stand_24 : decode cX11_stand 24 = .ok (.bipush 115, 2) := by decide +kernel
theorem dX11_stand_26 : decode cX11_stand 26 = .ok (.iload_n 1, 1) := by decide +kernel
theorem dX11_stand_27 : decode cX11_stand 27 = .ok (.invokevirtual 99, 3) := by decide +kernel
theorem dX11_stand_30 : decode cX11_stand 30 = .ok (.aload_n 2, 1) := by decide +kernel
theorem dX11_stand_31 : decode cX11_stand 31 = .ok (.aload_n 2, 1) := by decide +kernel
theorem dX11_stand_32 : decode cX11_stand 32 = .ok (.getfield 152, 3) := by decide +kernel
theorem dX11_stand_35 : decode cX11_stand 35 = .ok (.putfield 155, 3) := by decide +kernel
theorem dX11_stand_38 : decode cX11_stand 38 = .ok (.aload_n 2, 1) := by decide +kernel
theorem dX11_stand_39 : decode cX11_stand 39 = .ok (.iconst (-1), 1) := by decide +kernel
theorem dX11_stand_40 : decode cX11_stand 40 = .ok (.putfield 158, 3) := by decide +kernel
theorem dX11_stand_43 : decode cX11_stand 43 = .ok (.aload_n 2, 1) := by decide +kernel
theorem dX11_stand_44 : decode cX11_stand 44 = .ok (.getfield 155, 3) := by decide +kernel
theorem dX11_stand_47 : decode cX11_stand 47 = .ok (.ireturn, 1) := by decide +kernel
theorem dX11_carry_0 : decode cX11_carry 0 = .ok (.aload_n 0, 1) := by decide +kernel
theorem dX11_carry_1 : decode cX11_carry 1 = .ok (.iload_n 1, 1) := by decide +kernel
theorem dX11_carry_2 : decode cX11_carry 2 = .ok (.invokevirtual 144, 3) := by decide +kernel
theorem dX11_carry_5 : decode cX11_carry 5 = .ok (.astore_n 3, 1) := by decide +kernel
theorem dX11_carry_6 : decode cX11_carry 6 = .ok (.ldc 64, 2) := by decide +kernel
theorem dX11_carry_8 : decode cX11_carry 8 = .ok (.iload_n 2, 1) := by decide +kernel
theorem dX11_carry_9 : decode cX11_carry 9 = .ok (.invokevirtual 66, 3) := by decide +kernel
theorem dX11_carry_12 : decode cX11_carry 12 = .ok (.istore 4, 2) := by decide +kernel
theorem dX11_carry_14 : decode cX11_carry 14 = .ok (.iload 4, 2) := by decide +kernel
theorem dX11_carry_16 : decode cX11_carry 16 = .ok (.ifCond .ge 13, 3) := by decide +kernel
theorem dX11_carry_19 : decode cX11_carry 19 = .ok (.new 79, 3) := by decide +kernel
theorem dX11_carry_22 : decode cX11_carry 22 = .ok (.dup, 1) := by decide +kernel
theorem dX11_carry_23 : decode cX11_carry 23 = .ok (.ldc 176, 2) := by decide +kernel
theorem dX11_carry_25 : decode cX11_carry 25 = .ok (.invokespecial 83, 3) := by decide +kernel
theorem dX11_carry_28 : decode cX11_carry 28 = .ok (.athrow, 1) := by decide +kernel
theorem dX11_carry_29 : decode cX11_carry 29 = .ok (.aload_n 0, 1) := by decide +kernel
theorem dX11_carry_30 : decode cX11_carry 30 = .ok (.getfield 10, 3) := by decide +kernel
theorem dX11_carry_33 : decode cX11_carry 33 = .ok (.aload_n 3, 1) := by decide +kernel
theorem dX11_carry_34 : decode cX11_carry 34 = .ok (.iload 4, 2) := by decide +kernel
theorem dX11_carry_36 : decode cX11_carry 36 = .ok (.aload_n 0, 1) := by decide +kernel
theorem dX11_carry_37 : decode cX11_carry 37 = .ok (.getfield 30, 3) := by decide +kernel
theorem dX11_carry_40 : decode cX11_carry 40 = .ok (.invokevirtual 178, 3) := by decide +kernel
theorem dX11_carry_43 : decode cX11_carry 43 = .ok (.ifCond .ne 13, 3) := by decide +kernel
theorem dX11_carry_46 : decode cX11_carry 46 = .ok (.new 166, 3) := by decide +kernel
theorem dX11_carry_49 : decode cX11_carry 49 = .ok (.dup, 1) := by decide +kernel
theorem dX11_carry_50 : decode cX11_carry 50 = .ok (.ldc 182, 2) := by decide +kernel
theorem dX11_carry_52 : decode cX11_carry 52 = .ok (.invokespecial 170, 3) := by decide +kernel
theorem dX11_carry_55 : decode cX11_carry 55 = .ok (.athrow, 1) := by decide +kernel
theorem dX11_carry_56 : decode cX11_carry 56 = .ok (.aload_n 0, 1) := by decide +kernel
theorem dX11_carry_57 : decode cX11_carry 57 = .ok (.getfield 86, 3) := by decide +kernel
theorem dX11_carry_60 : decode cX11_carry 60 = .ok (.bipush 12, 2) := by decide +kernel
theorem dX11_carry_62 : decode cX11_carry 62 = .ok (.if_icmp .lt 13, 3) := by decide +kernel
theorem dX11_carry_65 : decode cX11_carry 65 = .ok (.new 90, 3) := by decide +kernel
theorem dX11_carry_68 : decode cX11_carry 68 = .ok (.dup, 1) := by decide +kernel
theorem dX11_carry_69 : decode cX11_carry 69 = .ok (.ldc 92, 2) := by decide +kernel
theorem dX11_carry_71 : decode cX11_carry 71 = .ok (.invokespecial 94, 3) := by decide +kernel
theorem dX11_carry_74 : decode cX11_carry 74 = .ok (.athrow, 1) := by decide +kernel
theorem dX11_carry_75 : decode cX11_carry 75 = .ok (.aload_n 0, 1) := by decide +kernel
theorem dX11_carry_76 : decode cX11_carry 76 = .ok (.getfield 18, 3) := by decide +kernel
theorem dX11_carry_79 : decode cX11_carry 79 = .ok (.aload_n 0, 1) := by decide +kernel
theorem dX11_carry_80 : decode cX11_carry 80 = .ok (.getfield 86, 3) := by decide +kernel
theorem dX11_carry_83 : decode cX11_carry 83 = .ok (.aaload, 1) := by decide +kernel
theorem dX11_carry_84 : decode cX11_carry 84 = .ok (.astore 5, 2) := by decide +kernel
theorem dX11_carry_86 : decode cX11_carry 86 = .ok (.aload 5, 2) := by decide +kernel
theorem dX11_carry_88 : decode cX11_carry 88 = .ok (.iload 4, 2) := by decide +kernel
theorem dX11_carry_90 : decode cX11_carry 90 = .ok (.aload_n 0, 1) := by decide +kernel
theorem dX11_carry_91 : decode cX11_carry 91 = .ok (.getfield 30, 3) := by decide +kernel
theorem dX11_carry_94 : decode cX11_carry 94 = .ok (.getfield 184, 3) := by decide +kernel
theorem dX11_carry_97 : decode cX11_carry 97 = .ok (.aload_n 0, 1) := by decide +kernel
theorem dX11_carry_98 : decode cX11_carry 98 = .ok (.getfield 30, 3) := by decide +kernel
theorem dX11_carry_101 : decode cX11_carry 101 = .ok (.getfield 155, 3) := by decide +kernel
theorem dX11_carry_104 : decode cX11_carry 104 = .ok (.invokevirtual 95, 3) := by decide +kernel
theorem dX11_carry_107 : decode cX11_carry 107 = .ok (.aload 5, 2) := by decide +kernel
theorem dX11_carry_109 : decode cX11_carry 109 = .ok (.aload_n 0, 1) := by decide +kernel
theorem dX11_carry_110 : decode cX11_carry 110 = .ok (.getfield 30, 3) := by decide +kernel
theorem dX11_carry_113 : decode cX11_carry 113 = .ok (.invokevirtual 187, 3) := by decide +kernel
theorem dX11_carry_116 : decode cX11_carry 116 = .ok (.aload 5, 2) := by decide +kernel
theorem dX11_carry_118 : decode cX11_carry 118 = .ok (.iload_n 1, 1) := by decide +kernel
theorem dX11_carry_119 : decode cX11_carry 119 = .ok (.putfield 191, 3) := by decide +kernel
theorem dX11_carry_122 : decode cX11_carry 122 = .ok (.aload_n 0, 1) := by decide +kernel
theorem dX11_carry_123 : decode cX11_carry 123 = .ok (.bipush 121, 2) := by decide +kernel
theorem dX11_carry_125 : decode cX11_carry 125 = .ok (.aload_n 0, 1) := by decide +kernel
theorem dX11_carry_126 : decode cX11_carry 126 = .ok (.getfield 86, 3) := by decide +kernel
theorem dX11_carry_129 : decode cX11_carry 129 = .ok (.invokevirtual 99, 3) := by decide +kernel
theorem dX11_carry_132 : decode cX11_carry 132 = .ok (.aload_n 0, 1) := by decide +kernel
theorem dX11_carry_133 : decode cX11_carry 133 = .ok (.dup, 1) := by decide +kernel
theorem dX11_carry_134 : decode cX11_carry 134 = .ok (.getfield 86, 3) := by decide +kernel
theorem dX11_carry_137 : decode cX11_carry 137 = .ok (.iconst 1, 1) := by decide +kernel
theorem dX11_carry_138 : decode cX11_carry 138 = .ok (.iadd, 1) := by decide +kernel
theorem dX11_carry_139 : decode cX11_carry 139 = .ok (.putfield 86, 3) := by decide +kernel
theorem dX11_carry_142 : decode cX11_carry 142 = .ok (.aload_n 0, 1) := by decide +kernel
theorem dX11_carry_143 : decode cX11_carry 143 = .ok (.getfield 86, 3) := by decide +kernel
theorem dX11_carry_146 : decode cX11_carry 146 = .ok (.iconst 1, 1) := by decide +kernel
theorem dX11_carry_147 : decode cX11_carry 147 = .ok (.isub, 1) := by decide +kernel
theorem dX11_carry_148 : decode cX11_carry 148 = .ok (.ireturn, 1) := by decide +kernel
theorem dX11_undo_0 : decode cX11_undo 0 = .ok (.aload_n 0, 1) := by decide +kernel
theorem dX11_undo_1 : decode cX11_undo 1 = .ok (.getfield 194, 3) := by decide +kernel
theorem dX11_undo_4 : decode cX11_undo 4 = .ok (.ifCond .ne 13, 3) := by decide +kernel
theorem dX11_undo_7 : decode cX11_undo 7 = .ok (.new 197, 3) := by decide +kernel
theorem dX11_undo_10 : decode cX11_undo 10 = .ok (.dup, 1) := by decide +kernel
theorem dX11_undo_11 : decode cX11_undo 11 = .ok (.ldc 199, 2) := by decide +kernel
theorem dX11_undo_13 : decode cX11_undo 13 = .ok (.invokespecial 201, 3) := by decide +kernel
theorem dX11_undo_16 : decode cX11_undo 16 = .ok (.athrow, 1) := by decide +kernel
theorem dX11_undo_17 : decode cX11_undo 17 = .ok (.aload_n 0, 1) := by decide +kernel
theorem dX11_undo_18 : decode cX11_undo 18 = .ok (.dup, 1) := by decide +kernel
theorem dX11_undo_19 : decode cX11_undo 19 = .ok (.getfield 194, 3) := by decide +kernel
theorem dX11_undo_22 : decode cX11_undo 22 = .ok (.iconst 1, 1) := by decide +kernel
theorem dX11_undo_23 : decode cX11_undo 23 = .ok (.isub, 1) := by decide +kernel
theorem dX11_undo_24 : decode cX11_undo 24 = .ok (.putfield 194, 3) := by decide +kernel
theorem dX11_undo_27 : decode cX11_undo 27 = .ok (.aload_n 0, 1) := by decide +kernel
theorem dX11_undo_28 : decode cX11_undo 28 = .ok (.getfield 202, 3) := by decide +kernel
theorem dX11_undo_31 : decode cX11_undo 31 = .ok (.aload_n 0, 1) := by decide +kernel
theorem dX11_undo_32 : decode cX11_undo 32 = .ok (.getfield 194, 3) := by decide +kernel
theorem dX11_undo_35 : decode cX11_undo 35 = .ok (.iadd, 1) := by decide +kernel
theorem dX11_undo_36 : decode cX11_undo 36 = .ok (.bipush 24, 2) := by decide +kernel
theorem dX11_undo_38 : decode cX11_undo 38 = .ok (.irem, 1) := by decide +kernel
theorem dX11_undo_39 : decode cX11_undo 39 = .ok (.istore_n 1, 1) := by decide +kernel
theorem dX11_undo_40 : decode cX11_undo 40 = .ok (.aload_n 0, 1) := by decide +kernel
theorem dX11_undo_41 : decode cX11_undo 41 = .ok (.getfield 37, 3) := by decide +kernel
theorem dX11_undo_44 : decode cX11_undo 44 = .ok (.iload_n 1, 1) := by decide +kernel
theorem dX11_undo_45 : decode cX11_undo 45 = .ok (.caload, 1) := by decide +kernel
theorem dX11_undo_46 : decode cX11_undo 46 = .ok (.istore_n 2, 1) := by decide +kernel
theorem dX11_undo_47 : decode cX11_undo 47 = .ok (.aload_n 0, 1) := by decide +kernel
theorem dX11_undo_48 : decode cX11_undo 48 = .ok (.getfield 41, 3) := by decide +kernel
theorem dX11_undo_51 : decode cX11_undo 51 = .ok (.iload_n 1, 1) := by decide +kernel
theorem dX11_undo_52 : decode cX11_undo 52 = .ok (.iaload, 1) := by decide +kernel
theorem dX11_undo_53 : decode cX11_undo 53 = .ok (.istore_n 3, 1) := by decide +kernel
theorem dX11_undo_54 : decode cX11_undo 54 = .ok (.iload_n 2, 1) := by decide +kernel
theorem dX11_undo_55 : decode cX11_undo 55 = .ok (.bipush 111, 2) := by decide +kernel
theorem dX11_undo_57 : decode cX11_undo 57 = .ok (.if_icmp .eq 9, 3) := by decide +kernel
theorem dX11_undo_60 : decode cX11_undo 60 = .ok (.iload_n 2, 1) := by decide +kernel
theorem dX11_undo_61 : decode cX11_undo 61 = .ok (.bipush 121, 2) := by decide +kernel
theorem dX11_undo_63 : decode cX11_undo 63 = .ok (.if_icmp .ne 11, 3) := by decide +kernel
theorem dX11_undo_66 : decode cX11_undo 66 = .ok (.aload_n 0, 1) := by decide +kernel
theorem dX11_undo_67 : decode cX11_undo 67 = .ok (.iload_n 3, 1) := by decide +kernel
theorem dX11_undo_68 : decode cX11_undo 68 = .ok (.invokevirtual 205, 3) := by decide +kernel
theorem dX11_undo_71 : decode cX11_undo 71 = .ok (.goto 28, 3) := by decide +kernel
theorem dX11_undo_74 : decode cX11_undo 74 = .ok (.aload_n 0, 1) := by decide +kernel
theorem dX11_undo_75 : decode cX11_undo 75 = .ok (.getfield 18, 3) := by decide +kernel
theorem dX11_undo_78 : decode cX11_undo 78 = .ok (.iload_n 3, 1) := by decide +kernel
theorem dX11_undo_79 : decode cX11_undo 79 = .ok (.aaload, 1) := by decide +kernel
theorem dX11_undo_80 : decode cX11_undo 80 = .ok (.aload_n 0, 1) := by decide +kernel
theorem dX11_undo_81 : decode cX11_undo 81 = .ok (.getfield 34, 3) := by decide +kernel
theorem dX11_undo_84 : decode cX11_undo 84 = .ok (.iload_n 1, 1) := by decide +kernel
theorem dX11_undo_85 : decode cX11_undo 85 = .ok (.aaload, 1) := by decide +kernel
theorem dX11_undo_86 : decode cX11_undo 86 = .ok (.invokevirtual 187, 3) := by decide +kernel
theorem dX11_undo_89 : decode cX11_undo 89 = .ok (.aload_n 0, 1) := by decide +kernel
theorem dX11_undo_90 : decode cX11_undo 90 = .ok (.getfield 18, 3) := by decide +kernel
theorem dX11_undo_93 : decode cX11_undo 93 = .ok (.iload_n 3, 1) := by decide +kernel
theorem dX11_undo_94 : decode cX11_undo 94 = .ok (.aaload, 1) := by decide +kernel
theorem dX11_undo_95 : decode cX11_undo 95 = .ok (.iconst 0, 1) := by decide +kernel
theorem dX11_undo_96 : decode cX11_undo 96 = .ok (.putfield 128, 3) := by decide +kernel
theorem dX11_undo_99 : decode cX11_undo 99 = .ok (.iload_n 2, 1) := by decide +kernel
theorem dX11_undo_100 : decode cX11_undo 100 = .ok (.ireturn, 1) := by decide +kernel
theorem dX11_entries_0 : decode cX11_entries 0 = .ok (.aload_n 0, 1) := by decide +kernel
theorem dX11_entries_1 : decode cX11_entries 1 = .ok (.getfield 86, 3) := by decide +kernel
theorem dX11_entries_4 : decode cX11_entries 4 = .ok (.ireturn, 1) := by decide +kernel
theorem dX11_kindOf_0 : decode cX11_kindOf 0 = .ok (.ldc 64, 2) := by decide +kernel
theorem dX11_kindOf_2 : decode cX11_kindOf 2 = .ok (.aload_n 0, 1) := by decide +kernel
theorem dX11_kindOf_3 : decode cX11_kindOf 3 = .ok (.iload_n 1, 1) := by decide +kernel
theorem dX11_kindOf_4 : decode cX11_kindOf 4 = .ok (.invokevirtual 103, 3) := by decide +kernel
theorem dX11_kindOf_7 : decode cX11_kindOf 7 = .ok (.getfield 147, 3) := by decide +kernel
theorem dX11_kindOf_10 : decode cX11_kindOf 10 = .ok (.invokevirtual 208, 3) := by decide +kernel
theorem dX11_kindOf_13 : decode cX11_kindOf 13 = .ok (.ireturn, 1) := by decide +kernel
theorem dX11_sizeOf_0 : decode cX11_sizeOf 0 = .ok (.aload_n 0, 1) := by decide +kernel
theorem dX11_sizeOf_1 : decode cX11_sizeOf 1 = .ok (.iload_n 1, 1) := by decide +kernel
theorem dX11_sizeOf_2 : decode cX11_sizeOf 2 = .ok (.invokevirtual 103, 3) := by decide +kernel
theorem dX11_sizeOf_5 : decode cX11_sizeOf 5 = .ok (.getfield 184, 3) := by decide +kernel
theorem dX11_sizeOf_8 : decode cX11_sizeOf 8 = .ok (.ireturn, 1) := by decide +kernel
theorem dX11_boundOf_0 : decode cX11_boundOf 0 = .ok (.aload_n 0, 1) := by decide +kernel
theorem dX11_boundOf_1 : decode cX11_boundOf 1 = .ok (.iload_n 1, 1) := by decide +kernel
theorem dX11_boundOf_2 : decode cX11_boundOf 2 = .ok (.invokevirtual 144, 3) := by decide +kernel
theorem dX11_boundOf_5 : decode cX11_boundOf 5 = .ok (.getfield 152, 3) := by decide +kernel
theorem dX11_boundOf_8 : decode cX11_boundOf 8 = .ok (.ireturn, 1) := by decide +kernel
theorem dX11_items_0 : decode cX11_items 0 = .ok (.aload_n 0, 1) := by decide +kernel
theorem dX11_items_1 : decode cX11_items 1 = .ok (.iload_n 1, 1) := by decide +kernel
theorem dX11_items_2 : decode cX11_items 2 = .ok (.invokevirtual 103, 3) := by decide +kernel
theorem dX11_items_5 : decode cX11_items 5 = .ok (.getfield 111, 3) := by decide +kernel
theorem dX11_items_8 : decode cX11_items 8 = .ok (.ireturn, 1) := by decide +kernel
theorem dX11_item_0 : decode cX11_item 0 = .ok (.aload_n 0, 1) := by decide +kernel
theorem dX11_item_1 : decode cX11_item 1 = .ok (.iload_n 1, 1) := by decide +kernel
theorem dX11_item_2 : decode cX11_item 2 = .ok (.invokevirtual 103, 3) := by decide +kernel
theorem dX11_item_5 : decode cX11_item 5 = .ok (.astore 4, 2) := by decide +kernel
theorem dX11_item_7 : decode cX11_item 7 = .ok (.iload_n 2, 1) := by decide +kernel
theorem dX11_item_8 : decode cX11_item 8 = .ok (.aload 4, 2) := by decide +kernel
theorem dX11_item_10 : decode cX11_item 10 = .ok (.getfield 111, 3) := by decide +kernel
theorem dX11_item_13 : decode cX11_item 13 = .ok (.invokestatic 132, 3) := by decide +kernel
theorem dX11_item_16 : decode cX11_item 16 = .ok (.iload_n 3, 1) := by decide +kernel
theorem dX11_item_17 : decode cX11_item 17 = .ok (.iconst 0, 1) := by decide +kernel
theorem dX11_item_18 : decode cX11_item 18 = .ok (.iconst 4, 1) := by decide +kernel
theorem dX11_item_19 : decode cX11_item 19 = .ok (.invokestatic 212, 3) := by decide +kernel
theorem dX11_item_22 : decode cX11_item 22 = .ok (.aload 4, 2) := by decide +kernel
theorem dX11_item_24 : decode cX11_item 24 = .ok (.iload_n 2, 1) := by decide +kernel
theorem dX11_item_25 : decode cX11_item 25 = .ok (.iload_n 3, 1) := by decide +kernel
theorem dX11_item_26 : decode cX11_item 26 = .ok (.invokevirtual 215, 3) := by decide +kernel
theorem dX11_item_29 : decode cX11_item 29 = .ok (.ireturn, 1) := by decide +kernel
theorem dX11_cameFrom_0 : decode cX11_cameFrom 0 = .ok (.aload_n 0, 1) := by decide +kernel
theorem dX11_cameFrom_1 : decode cX11_cameFrom 1 = .ok (.iload_n 1, 1) := by decide +kernel
theorem dX11_cameFrom_2 : decode cX11_cameFrom 2 = .ok (.invokevirtual 103, 3) := by decide +kernel
theorem dX11_cameFrom_5 : decode cX11_cameFrom 5 = .ok (.astore_n 2, 1) := by decide +kernel
theorem dX11_cameFrom_6 : decode cX11_cameFrom 6 = .ok (.aload_n 2, 1) := by decide +kernel
theorem dX11_cameFrom_7 : decode cX11_cameFrom 7 = .ok (.getfield 191, 3) := by decide +kernel
theorem dX11_cameFrom_10 : decode cX11_cameFrom 10 = .ok (.ifCond .ge 13, 3) := by decide +kernel
theorem dX11_cameFrom_13 : decode cX11_cameFrom 13 = .ok (.new 197, 3) := by decide +kernel
theorem dX11_cameFrom_16 : decode cX11_cameFrom 16 = .ok (.dup, 1) := by decide +kernel
theorem dX11_cameFrom_17 : decode cX11_cameFrom 17 = .ok (.ldc 219, 2) := by decide +kernel
theorem dX11_cameFrom_19 : decode cX11_cameFrom 19 = .ok (.invokespecial 201, 3) := by decide +kernel
theorem dX11_cameFrom_22 : decode cX11_cameFrom 22 = .ok (.athrow, 1) := by decide +kernel
theorem dX11_cameFrom_23 : decode cX11_cameFrom 23 = .ok (.aload_n 2, 1) := by decide +kernel
theorem dX11_cameFrom_24 : decode cX11_cameFrom 24 = .ok (.getfield 191, 3) := by decide +kernel
theorem dX11_cameFrom_27 : decode cX11_cameFrom 27 = .ok (.ireturn, 1) := by decide +kernel
theorem dX11_answer_0 : decode cX11_answer 0 = .ok (.aload_n 0, 1) := by decide +kernel
theorem dX11_answer_1 : decode cX11_answer 1 = .ok (.iload_n 1, 1) := by decide +kernel
theorem dX11_answer_2 : decode cX11_answer 2 = .ok (.invokevirtual 144, 3) := by decide +kernel
theorem dX11_answer_5 : decode cX11_answer 5 = .ok (.getfield 221, 3) := by decide +kernel
theorem dX11_answer_8 : decode cX11_answer 8 = .ok (.ireturn, 1) := by decide +kernel
theorem dX11_number_0 : decode cX11_number 0 = .ok (.aload_n 0, 1) := by decide +kernel
theorem dX11_number_1 : decode cX11_number 1 = .ok (.iload_n 1, 1) := by decide +kernel
theorem dX11_number_2 : decode cX11_number 2 = .ok (.invokevirtual 144, 3) := by decide +kernel
theorem dX11_number_5 : decode cX11_number 5 = .ok (.getfield 225, 3) := by decide +kernel
theorem dX11_number_8 : decode cX11_number 8 = .ok (.ireturn, 1) := by decide +kernel
theorem dX11_length_0 : decode cX11_length 0 = .ok (.aload_n 0, 1) := by decide +kernel
theorem dX11_length_1 : decode cX11_length 1 = .ok (.iload_n 1, 1) := by decide +kernel
theorem dX11_length_2 : decode cX11_length 2 = .ok (.invokevirtual 144, 3) := by decide +kernel
theorem dX11_length_5 : decode cX11_length 5 = .ok (.getfield 227, 3) := by decide +kernel
theorem dX11_length_8 : decode cX11_length 8 = .ok (.getfield 230, 3) := by decide +kernel
theorem dX11_length_11 : decode cX11_length 11 = .ok (.ireturn, 1) := by decide +kernel
theorem dX11_rowSum_0 : decode cX11_rowSum 0 = .ok (.aload_n 0, 1) := by decide +kernel
theorem dX11_rowSum_1 : decode cX11_rowSum 1 = .ok (.iload_n 1, 1) := by decide +kernel
theorem dX11_rowSum_2 : decode cX11_rowSum 2 = .ok (.invokevirtual 144, 3) := by decide +kernel
theorem dX11_rowSum_5 : decode cX11_rowSum 5 = .ok (.getfield 227, 3) := by decide +kernel
theorem dX11_rowSum_8 : decode cX11_rowSum 8 = .ok (.invokevirtual 235, 3) := by decide +kernel
theorem dX11_rowSum_11 : decode cX11_rowSum 11 = .ok (.lreturn, 1) := by decide +kernel
theorem dX11_person_0 : decode cX11_person 0 = .ok (.aload_n 0, 1) := by decide +kernel
theorem dX11_person_1 : decode cX11_person 1 = .ok (.getfield 339, 3) := by decide +kernel
theorem dX11_person_4 : decode cX11_person 4 = .ok (.bipush 6, 2) := by decide +kernel
theorem dX11_person_6 : decode cX11_person 6 = .ok (.if_icmp .lt 14, 3) := by decide +kernel
theorem dX11_person_9 : decode cX11_person 9 = .ok (.new 90, 3) := by decide +kernel
theorem dX11_person_12 : decode cX11_person 12 = .ok (.dup, 1) := by decide +kernel
theorem dX11_person_13 : decode cX11_person 13 = .ok (.ldc_w 342, 3) := by decide +kernel
theorem dX11_person_16 : decode cX11_person 16 = .ok (.invokespecial 94, 3) := by decide +kernel
theorem dX11_person_19 : decode cX11_person 19 = .ok (.athrow, 1) := by decide +kernel
theorem dX11_person_20 : decode cX11_person 20 = .ok (.aload_n 0, 1) := by decide +kernel
theorem dX11_person_21 : decode cX11_person 21 = .ok (.dup, 1) := by decide +kernel
theorem dX11_person_22 : decode cX11_person 22 = .ok (.getfield 339, 3) := by decide +kernel
theorem dX11_person_25 : decode cX11_person 25 = .ok (.iconst 1, 1) := by decide +kernel
theorem dX11_person_26 : decode cX11_person 26 = .ok (.iadd, 1) := by decide +kernel
theorem dX11_person_27 : decode cX11_person 27 = .ok (.putfield 339, 3) := by decide +kernel
theorem dX11_person_30 : decode cX11_person 30 = .ok (.aload_n 0, 1) := by decide +kernel
theorem dX11_person_31 : decode cX11_person 31 = .ok (.getfield 339, 3) := by decide +kernel
theorem dX11_person_34 : decode cX11_person 34 = .ok (.iconst 1, 1) := by decide +kernel
theorem dX11_person_35 : decode cX11_person 35 = .ok (.isub, 1) := by decide +kernel
theorem dX11_person_36 : decode cX11_person 36 = .ok (.ireturn, 1) := by decide +kernel
theorem dX11_type_0 : decode cX11_type 0 = .ok (.aload_n 0, 1) := by decide +kernel
theorem dX11_type_1 : decode cX11_type 1 = .ok (.getfield 47, 3) := by decide +kernel
theorem dX11_type_4 : decode cX11_type 4 = .ok (.getfield 230, 3) := by decide +kernel
theorem dX11_type_7 : decode cX11_type 7 = .ok (.bipush 64, 2) := by decide +kernel
theorem dX11_type_9 : decode cX11_type 9 = .ok (.if_icmp .lt 14, 3) := by decide +kernel
theorem dX11_type_12 : decode cX11_type 12 = .ok (.new 90, 3) := by decide +kernel
theorem dX11_type_15 : decode cX11_type 15 = .ok (.dup, 1) := by decide +kernel
theorem dX11_type_16 : decode cX11_type 16 = .ok (.ldc_w 344, 3) := by decide +kernel
theorem dX11_type_19 : decode cX11_type 19 = .ok (.invokespecial 94, 3) := by decide +kernel
theorem dX11_type_22 : decode cX11_type 22 = .ok (.athrow, 1) := by decide +kernel
theorem dX11_type_23 : decode cX11_type 23 = .ok (.aload_n 0, 1) := by decide +kernel
theorem dX11_type_24 : decode cX11_type 24 = .ok (.getfield 47, 3) := by decide +kernel
theorem dX11_type_27 : decode cX11_type 27 = .ok (.iload_n 1, 1) := by decide +kernel
theorem dX11_type_28 : decode cX11_type 28 = .ok (.invokevirtual 346, 3) := by decide +kernel
theorem dX11_type_31 : decode cX11_type 31 = .ok (.aload_n 0, 1) := by decide +kernel
theorem dX11_type_32 : decode cX11_type 32 = .ok (.getfield 47, 3) := by decide +kernel
theorem dX11_type_35 : decode cX11_type 35 = .ok (.getfield 230, 3) := by decide +kernel
theorem dX11_type_38 : decode cX11_type 38 = .ok (.ireturn, 1) := by decide +kernel
theorem dX11_alter_0 : decode cX11_alter 0 = .ok (.iload_n 1, 1) := by decide +kernel
theorem dX11_alter_1 : decode cX11_alter 1 = .ok (.aload_n 0, 1) := by decide +kernel
theorem dX11_alter_2 : decode cX11_alter 2 = .ok (.getfield 47, 3) := by decide +kernel
theorem dX11_alter_5 : decode cX11_alter 5 = .ok (.getfield 230, 3) := by decide +kernel
theorem dX11_alter_8 : decode cX11_alter 8 = .ok (.invokestatic 132, 3) := by decide +kernel
theorem dX11_alter_11 : decode cX11_alter 11 = .ok (.aload_n 0, 1) := by decide +kernel
theorem dX11_alter_12 : decode cX11_alter 12 = .ok (.getfield 47, 3) := by decide +kernel
theorem dX11_alter_15 : decode cX11_alter 15 = .ok (.iload_n 1, 1) := by decide +kernel
theorem dX11_alter_16 : decode cX11_alter 16 = .ok (.invokevirtual 233, 3) := by decide +kernel
theorem dX11_alter_19 : decode cX11_alter 19 = .ok (.istore_n 3, 1) := by decide +kernel
theorem dX11_alter_20 : decode cX11_alter 20 = .ok (.aload_n 0, 1) := by decide +kernel
theorem dX11_alter_21 : decode cX11_alter 21 = .ok (.getfield 47, 3) := by decide +kernel
theorem dX11_alter_24 : decode cX11_alter 24 = .ok (.iload_n 1, 1) := by decide +kernel
theorem dX11_alter_25 : decode cX11_alter 25 = .ok (.iload_n 2, 1) := by decide +kernel
theorem dX11_alter_26 : decode cX11_alter 26 = .ok (.invokevirtual 354, 3) := by decide +kernel
theorem dX11_alter_29 : decode cX11_alter 29 = .ok (.iload_n 3, 1) := by decide +kernel
theorem dX11_alter_30 : decode cX11_alter 30 = .ok (.ireturn, 1) := by decide +kernel
theorem dX11_wipe_0 : decode cX11_wipe 0 = .ok (.aload_n 0, 1) := by decide +kernel
theorem dX11_wipe_1 : decode cX11_wipe 1 = .ok (.getfield 47, 3) := by decide +kernel
theorem dX11_wipe_4 : decode cX11_wipe 4 = .ok (.getfield 230, 3) := by decide +kernel
theorem dX11_wipe_7 : decode cX11_wipe 7 = .ok (.istore_n 1, 1) := by decide +kernel
theorem dX11_wipe_8 : decode cX11_wipe 8 = .ok (.aload_n 0, 1) := by decide +kernel
theorem dX11_wipe_9 : decode cX11_wipe 9 = .ok (.getfield 47, 3) := by decide +kernel
theorem dX11_wipe_12 : decode cX11_wipe 12 = .ok (.invokevirtual 357, 3) := by decide +kernel
theorem dX11_wipe_15 : decode cX11_wipe 15 = .ok (.iload_n 1, 1) := by decide +kernel
theorem dX11_wipe_16 : decode cX11_wipe 16 = .ok (.ireturn, 1) := by decide +kernel
theorem dX11_borrow_0 : decode cX11_borrow 0 = .ok (.aload_n 0, 1) := by decide +kernel
theorem dX11_borrow_1 : decode cX11_borrow 1 = .ok (.iload_n 1, 1) := by decide +kernel
theorem dX11_borrow_2 : decode cX11_borrow 2 = .ok (.invokevirtual 144, 3) := by decide +kernel
theorem dX11_borrow_5 : decode cX11_borrow 5 = .ok (.astore_n 2, 1) := by decide +kernel
theorem dX11_borrow_6 : decode cX11_borrow 6 = .ok (.aload_n 2, 1) := by decide +kernel
theorem dX11_borrow_7 : decode cX11_borrow 7 = .ok (.getfield 227, 3) := by decide +kernel
theorem dX11_borrow_10 : decode cX11_borrow 10 = .ok (.getfield 230, 3) := by decide +kernel
theorem dX11_borrow_13 : decode cX11_borrow 13 = .ok (.bipush 64, 2) := by decide +kernel
theorem dX11_borrow_15 : decode cX11_borrow 15 = .ok (.if_icmp .le 14, 3) := by decide +kernel
theorem dX11_borrow_18 : decode cX11_borrow 18 = .ok (.new 166, 3) := by decide +kernel
theorem dX11_borrow_21 : decode cX11_borrow 21 = .ok (.dup, 1) := by decide +kernel
theorem dX11_borrow_22 : decode cX11_borrow 22 = .ok (.ldc_w 360, 3) := by decide +kernel
theorem dX11_borrow_25 : decode cX11_borrow 25 = .ok (.invokespecial 170, 3) := by decide +kernel
theorem dX11_borrow_28 : decode cX11_borrow 28 = .ok (.athrow, 1) := by decide +kernel
theorem dX11_borrow_29 : decode cX11_borrow 29 = .ok (.aload_n 0, 1) := by decide +kernel
theorem dX11_borrow_30 : decode cX11_borrow 30 = .ok (.getfield 47, 3) := by decide +kernel
theorem dX11_borrow_33 : decode cX11_borrow 33 = .ok (.aload_n 2, 1) := by decide +kernel
theorem dX11_borrow_34 : decode cX11_borrow 34 = .ok (.getfield 227, 3) := by decide +kernel
theorem dX11_borrow_37 : decode cX11_borrow 37 = .ok (.invokevirtual 362, 3) := by decide +kernel
theorem dX11_borrow_40 : decode cX11_borrow 40 = .ok (.aload_n 0, 1) := by decide +kernel
theorem dX11_borrow_41 : decode cX11_borrow 41 = .ok (.getfield 47, 3) := by decide +kernel
theorem dX11_borrow_44 : decode cX11_borrow 44 = .ok (.getfield 230, 3) := by decide +kernel
theorem dX11_borrow_47 : decode cX11_borrow 47 = .ok (.ireturn, 1) := by decide +kernel
theorem dX11_bring_0 : decode cX11_bring 0 = .ok (.aload_n 0, 1) := by decide +kernel
theorem dX11_bring_1 : decode cX11_bring 1 = .ok (.iload_n 1, 1) := by decide +kernel
theorem dX11_bring_2 : decode cX11_bring 2 = .ok (.invokevirtual 144, 3) := by decide +kernel
theorem dX11_bring_5 : decode cX11_bring 5 = .ok (.astore_n 2, 1) := by decide +kernel
theorem dX11_bring_6 : decode cX11_bring 6 = .ok (.aload_n 2, 1) := by decide +kernel
theorem dX11_bring_7 : decode cX11_bring 7 = .ok (.getfield 191, 3) := by decide +kernel
theorem dX11_bring_10 : decode cX11_bring 10 = .ok (.ifCond .lt 12, 3) := by decide +kernel
theorem dX11_bring_13 : decode cX11_bring 13 = .ok (.aload_n 0, 1) := by decide +kernel
theorem dX11_bring_14 : decode cX11_bring 14 = .ok (.aload_n 2, 1) := by decide +kernel
theorem dX11_bring_15 : decode cX11_bring 15 = .ok (.getfield 191, 3) := by decide +kernel
theorem dX11_bring_18 : decode cX11_bring 18 = .ok (.invokevirtual 144, 3) := by decide +kernel
theorem dX11_bring_21 : decode cX11_bring 21 = .ok (.pop, 1) := by decide +kernel
theorem dX11_bring_22 : decode cX11_bring 22 = .ok (.aload_n 0, 1) := by decide +kernel
theorem dX11_bring_23 : decode cX11_bring 23 = .ok (.aload_n 2, 1) := by decide +kernel
theorem dX11_bring_24 : decode cX11_bring 24 = .ok (.invokevirtual 366, 3) := by decide +kernel
theorem dX11_bring_27 : decode cX11_bring 27 = .ok (.ifCond .ne 14, 3) := by decide +kernel
theorem dX11_bring_30 : decode cX11_bring 30 = .ok (.new 166, 3) := by decide +kernel
theorem dX11_bring_33 : decode cX11_bring 33 = .ok (.dup, 1) := by decide +kernel
theorem dX11_bring_34 : decode cX11_bring 34 = .ok (.ldc_w 370, 3) := by decide +kernel
theorem dX11_bring_37 : decode cX11_bring 37 = .ok (.invokespecial 170, 3) := by decide +kernel
theorem dX11_bring_40 : decode cX11_bring 40 = .ok (.athrow, 1) := by decide +kernel
theorem dX11_bring_41 : decode cX11_bring 41 = .ok (.aload_n 0, 1) := by decide +kernel
theorem dX11_bring_42 : decode cX11_bring 42 = .ok (.getfield 10, 3) := by decide +kernel
theorem dX11_bring_45 : decode cX11_bring 45 = .ok (.aload_n 2, 1) := by decide +kernel
theorem dX11_bring_46 : decode cX11_bring 46 = .ok (.aload_n 0, 1) := by decide +kernel
theorem dX11_bring_47 : decode cX11_bring 47 = .ok (.getfield 18, 3) := by decide +kernel
theorem dX11_bring_50 : decode cX11_bring 50 = .ok (.aload_n 2, 1) := by decide +kernel
theorem dX11_bring_51 : decode cX11_bring 51 = .ok (.getfield 191, 3) := by decide +kernel
theorem dX11_bring_54 : decode cX11_bring 54 = .ok (.aaload, 1) := by decide +kernel
theorem dX11_bring_55 : decode cX11_bring 55 = .ok (.invokevirtual 372, 3) := by decide +kernel
theorem dX11_bring_58 : decode cX11_bring 58 = .ok (.ifCond .ne 14, 3) := by decide +kernel
theorem dX11_bring_61 : decode cX11_bring 61 = .ok (.new 166, 3) := by decide +kernel
theorem dX11_bring_64 : decode cX11_bring 64 = .ok (.dup, 1) := by decide +kernel
theorem dX11_bring_65 : decode cX11_bring 65 = .ok (.ldc_w 376, 3) := by decide +kernel
theorem dX11_bring_68 : decode cX11_bring 68 = .ok (.invokespecial 170, 3) := by decide +kernel
theorem dX11_bring_71 : decode cX11_bring 71 = .ok (.athrow, 1) := by decide +kernel
theorem dX11_bring_72 : decode cX11_bring 72 = .ok (.aload_n 0, 1) := by decide +kernel
theorem dX11_bring_73 : decode cX11_bring 73 = .ok (.getfield 10, 3) := by decide +kernel
theorem dX11_bring_76 : decode cX11_bring 76 = .ok (.aload_n 2, 1) := by decide +kernel
theorem dX11_bring_77 : decode cX11_bring 77 = .ok (.aload_n 0, 1) := by decide +kernel
theorem dX11_bring_78 : decode cX11_bring 78 = .ok (.getfield 18, 3) := by decide +kernel
theorem dX11_bring_81 : decode cX11_bring 81 = .ok (.aload_n 2, 1) := by decide +kernel
theorem dX11_bring_82 : decode cX11_bring 82 = .ok (.getfield 191, 3) := by decide +kernel
theorem dX11_bring_85 : decode cX11_bring 85 = .ok (.aaload, 1) := by decide +kernel
theorem dX11_bring_86 : decode cX11_bring 86 = .ok (.aload_n 0, 1) := by decide +kernel
theorem dX11_bring_87 : decode cX11_bring 87 = .ok (.getfield 47, 3) := by decide +kernel
theorem dX11_bring_90 : decode cX11_bring 90 = .ok (.invokevirtual 378, 3) := by decide +kernel
theorem dX11_bring_93 : decode cX11_bring 93 = .ok (.aload_n 0, 1) := by decide +kernel
theorem dX11_bring_94 : decode cX11_bring 94 = .ok (.getfield 47, 3) := by decide +kernel
theorem dX11_bring_97 : decode cX11_bring 97 = .ok (.getfield 230, 3) := by decide +kernel
theorem dX11_bring_100 : decode cX11_bring 100 = .ok (.ireturn, 1) := by decide +kernel
theorem dX11_check_0 : decode cX11_check 0 = .ok (.aload_n 0, 1) := by decide +kernel
theorem dX11_check_1 : decode cX11_check 1 = .ok (.getfield 10, 3) := by decide +kernel
theorem dX11_check_4 : decode cX11_check 4 = .ok (.aload_n 0, 1) := by decide +kernel
theorem dX11_check_5 : decode cX11_check 5 = .ok (.iload_n 1, 1) := by decide +kernel
theorem dX11_check_6 : decode cX11_check 6 = .ok (.invokevirtual 144, 3) := by decide +kernel
theorem dX11_check_9 : decode cX11_check 9 = .ok (.aload_n 0, 1) := by decide +kernel
theorem dX11_check_10 : decode cX11_check 10 = .ok (.getfield 47, 3) := by decide +kernel
theorem dX11_check_13 : decode cX11_check 13 = .ok (.iload_n 2, 1) := by decide +kernel
theorem dX11_check_14 : decode cX11_check 14 = .ok (.invokevirtual 382, 3) := by decide +kernel
theorem dX11_check_17 : decode cX11_check 17 = .ok (.ireturn, 1) := by decide +kernel
theorem dX11_claim_0 : decode cX11_claim 0 = .ok (.iload_n 1, 1) := by decide +kernel
theorem dX11_claim_1 : decode cX11_claim 1 = .ok (.ifCond .lt 11, 3) := by decide +kernel
theorem dX11_claim_4 : decode cX11_claim 4 = .ok (.iload_n 1, 1) := by decide +kernel
theorem dX11_claim_5 : decode cX11_claim 5 = .ok (.aload_n 0, 1) := by decide +kernel
theorem dX11_claim_6 : decode cX11_claim 6 = .ok (.getfield 339, 3) := by decide +kernel
theorem dX11_claim_9 : decode cX11_claim 9 = .ok (.if_icmp .lt 14, 3) := by decide +kernel
theorem dX11_claim_12 : decode cX11_claim 12 = .ok (.new 386, 3) := by decide +kernel
theorem dX11_claim_15 : decode cX11_claim 15 = .ok (.dup, 1) := by decide +kernel
theorem dX11_claim_16 : decode cX11_claim 16 = .ok (.ldc_w 388, 3) := by decide +kernel
theorem dX11_claim_19 : decode cX11_claim 19 = .ok (.invokespecial 390, 3) := by decide +kernel
theorem dX11_claim_22 : decode cX11_claim 22 = .ok (.athrow, 1) := by decide +kernel
theorem dX11_claim_23 : decode cX11_claim 23 = .ok (.aload_n 0, 1) := by decide +kernel
theorem dX11_claim_24 : decode cX11_claim 24 = .ok (.iload_n 2, 1) := by decide +kernel
theorem dX11_claim_25 : decode cX11_claim 25 = .ok (.invokevirtual 144, 3) := by decide +kernel
theorem dX11_claim_28 : decode cX11_claim 28 = .ok (.astore 4, 2) := by decide +kernel
theorem dX11_claim_30 : decode cX11_claim 30 = .ok (.aload_n 0, 1) := by decide +kernel
theorem dX11_claim_31 : decode cX11_claim 31 = .ok (.getfield 10, 3) := by decide +kernel
theorem dX11_claim_34 : decode cX11_claim 34 = .ok (.aload 4, 2) := by decide +kernel
theorem dX11_claim_36 : decode cX11_claim 36 = .ok (.aload_n 0, 1) := by decide +kernel
theorem dX11_claim_37 : decode cX11_claim 37 = .ok (.getfield 47, 3) := by decide +kernel
theorem dX11_claim_40 : decode cX11_claim 40 = .ok (.iload_n 3, 1) := by decide +kernel
theorem dX11_claim_41 : decode cX11_claim 41 = .ok (.invokevirtual 382, 3) := by decide +kernel
theorem dX11_claim_44 : decode cX11_claim 44 = .ok (.istore 5, 2) := by decide +kernel
theorem dX11_claim_46 : decode cX11_claim 46 = .ok (.iload 5, 2) := by decide +kernel
theorem dX11_claim_48 : decode cX11_claim 48 = .ok (.ifCond .ne 12, 3) := by decide +kernel
theorem dX11_claim_51 : decode cX11_claim 51 = .ok (.aload_n 0, 1) := by decide +kernel
theorem dX11_claim_52 : decode cX11_claim 52 = .ok (.iload_n 2, 1) := by decide +kernel
theorem dX11_claim_53 : decode cX11_claim 53 = .ok (.iload_n 3, 1) := by decide +kernel
theorem dX11_claim_54 : decode cX11_claim 54 = .ok (.invokevirtual 391, 3) := by decide +kernel
theorem dX11_claim_57 : decode cX11_claim 57 = .ok (.ifCond .eq 6, 3) := by decide +kernel
theorem dX11_claim_60 : decode cX11_claim 60 = .ok (.iload 5, 2) := by decide +kernel
theorem dX11_claim_62 : decode cX11_claim 62 = .ok (.ireturn, 1) := by decide +kernel
theorem dX11_claim_63 : decode cX11_claim 63 = .ok (.aload_n 0, 1) := by decide +kernel
theorem dX11_claim_64 : decode cX11_claim 64 = .ok (.getfield 395, 3) := by decide +kernel
theorem dX11_claim_67 : decode cX11_claim 67 = .ok (.bipush 16, 2) := by decide +kernel
theorem dX11_claim_69 : decode cX11_claim 69 = .ok (.if_icmp .lt 14, 3) := by decide +kernel
theorem dX11_claim_72 : decode cX11_claim 72 = .ok (.new 90, 3) := by decide +kernel
theorem dX11_claim_75 : decode cX11_claim 75 = .ok (.dup, 1) := by decide +kernel
theorem dX11_claim_76 : decode cX11_claim 76 = .ok (.ldc_w 398, 3) := by decide +kernel
theorem dX11_claim_79 : decode cX11_claim 79 = .ok (.invokespecial 94, 3) := by decide +kernel
theorem dX11_claim_82 : decode cX11_claim 82 = .ok (.athrow, 1) := by decide +kernel
theorem dX11_claim_83 : decode cX11_claim 83 = .ok (.aload_n 0, 1) := by decide +kernel
theorem dX11_claim_84 : decode cX11_claim 84 = .ok (.getfield 56, 3) := by decide +kernel
theorem dX11_claim_87 : decode cX11_claim 87 = .ok (.aload_n 0, 1) := by decide +kernel
theorem dX11_claim_88 : decode cX11_claim 88 = .ok (.getfield 395, 3) := by decide +kernel
theorem dX11_claim_91 : decode cX11_claim 91 = .ok (.aaload, 1) := by decide +kernel
theorem dX11_claim_92 : decode cX11_claim 92 = .ok (.iload_n 1, 1) := by decide +kernel
theorem dX11_claim_93 : decode cX11_claim 93 = .ok (.iload_n 2, 1) := by decide +kernel
theorem dX11_claim_94 : decode cX11_claim 94 = .ok (.iload_n 3, 1) := by decide +kernel
theorem dX11_claim_95 : decode cX11_claim 95 = .ok (.aload_n 0, 1) := by decide +kernel
theorem dX11_claim_96 : decode cX11_claim 96 = .ok (.getfield 47, 3) := by decide +kernel
theorem dX11_claim_99 : decode cX11_claim 99 = .ok (.invokevirtual 400, 3) := by decide +kernel
theorem dX11_claim_102 : decode cX11_claim 102 = .ok (.aload_n 0, 1) := by decide +kernel
theorem dX11_claim_103 : decode cX11_claim 103 = .ok (.dup, 1) := by decide +kernel
theorem dX11_claim_104 : decode cX11_claim 104 = .ok (.getfield 395, 3) := by decide +kernel
theorem dX11_claim_107 : decode cX11_claim 107 = .ok (.iconst 1, 1) := by decide +kernel
theorem dX11_claim_108 : decode cX11_claim 108 = .ok (.iadd, 1) := by decide +kernel
theorem dX11_claim_109 : decode cX11_claim 109 = .ok (.putfield 395, 3) := by decide +kernel
theorem dX11_claim_112 : decode cX11_claim 112 = .ok (.aload_n 0, 1) := by decide +kernel
theorem dX11_claim_113 : decode cX11_claim 113 = .ok (.getfield 51, 3) := by decide +kernel
theorem dX11_claim_116 : decode cX11_claim 116 = .ok (.iload_n 1, 1) := by decide +kernel
theorem dX11_claim_117 : decode cX11_claim 117 = .ok (.dup2, 1) := by decide +kernel
theorem dX11_claim_118 : decode cX11_claim 118 = .ok (.iaload, 1) := by decide +kernel
theorem dX11_claim_119 : decode cX11_claim 119 = .ok (.aload_n 0, 1) := by decide +kernel
theorem dX11_claim_120 : decode cX11_claim 120 = .ok (.getfield 47, 3) := by decide +kernel
theorem dX11_claim_123 : decode cX11_claim 123 = .ok (.getfield 230, 3) := by decide +kernel
theorem dX11_claim_126 : decode cX11_claim 126 = .ok (.aload 4, 2) := by decide +kernel
theorem dX11_claim_128 : decode cX11_claim 128 = .ok (.getfield 227, 3) := by decide +kernel
theorem dX11_claim_131 : decode cX11_claim 131 = .ok (.getfield 230, 3) := by decide +kernel
theorem dX11_claim_134 : decode cX11_claim 134 = .ok (.if_icmp .ge 7, 3) := by decide +kernel
theorem dX11_claim_137 : decode cX11_claim 137 = .ok (.iconst 3, 1) := by decide +kernel
theorem dX11_claim_138 : decode cX11_claim 138 = .ok (.goto 4, 3) := by decide +kernel
theorem dX11_claim_141 : decode cX11_claim 141 = .ok (.iconst 1, 1) := by decide +kernel
theorem dX11_claim_142 : decode cX11_claim 142 = .ok (.iadd, 1) := by decide +kernel
theorem dX11_claim_143 : decode cX11_claim 143 = .ok (.iastore, 1) := by decide +kernel
theorem dX11_claim_144 : decode cX11_claim 144 = .ok (.iconst 0, 1) := by decide +kernel
theorem dX11_claim_145 : decode cX11_claim 145 = .ok (.ireturn, 1) := by decide +kernel
theorem dX11_settle_0 : decode cX11_settle 0 = .ok (.aload_n 0, 1) := by decide +kernel
theorem dX11_settle_1 : decode cX11_settle 1 = .ok (.getfield 415, 3) := by decide +kernel
theorem dX11_settle_4 : decode cX11_settle 4 = .ok (.istore_n 1, 1) := by decide +kernel
theorem dX11_settle_5 : decode cX11_settle 5 = .ok (.aload_n 0, 1) := by decide +kernel
theorem dX11_settle_6 : decode cX11_settle 6 = .ok (.dup, 1) := by decide +kernel
theorem dX11_settle_7 : decode cX11_settle 7 = .ok (.getfield 418, 3) := by decide +kernel
theorem dX11_settle_10 : decode cX11_settle 10 = .ok (.iconst 1, 1) := by decide +kernel
theorem dX11_settle_11 : decode cX11_settle 11 = .ok (.iadd, 1) := by decide +kernel
theorem dX11_settle_12 : decode cX11_settle 12 = .ok (.putfield 418, 3) := by decide +kernel
theorem dX11_settle_15 : decode cX11_settle 15 = .ok (.iconst 0, 1) := by decide +kernel
theorem dX11_settle_16 : decode cX11_settle 16 = .ok (.istore_n 2, 1) := by decide +kernel
theorem dX11_settle_17 : decode cX11_settle 17 = .ok (.iload_n 2, 1) := by decide +kernel
theorem dX11_settle_18 : decode cX11_settle 18 = .ok (.aload_n 0, 1) := by decide +kernel
theorem dX11_settle_19 : decode cX11_settle 19 = .ok (.getfield 86, 3) := by decide +kernel
theorem dX11_settle_22 : decode cX11_settle 22 = .ok (.if_icmp .ge 24, 3) := by decide +kernel
theorem dX11_settle_25 : decode cX11_settle 25 = .ok (.aload_n 0, 1) := by decide +kernel
theorem dX11_settle_26 : decode cX11_settle 26 = .ok (.iload_n 2, 1) := by decide +kernel
theorem dX11_settle_27 : decode cX11_settle 27 = .ok (.aload_n 0, 1) := by decide +kernel
theorem dX11_settle_28 : decode cX11_settle 28 = .ok (.iload_n 2, 1) := by decide +kernel
theorem dX11_settle_29 : decode cX11_settle 29 = .ok (.invokevirtual 144, 3) := by decide +kernel
theorem dX11_settle_32 : decode cX11_settle 32 = .ok (.invokevirtual 421, 3) := by decide +kernel
theorem dX11_settle_35 : decode cX11_settle 35 = .ok (.aload_n 0, 1) := by decide +kernel
theorem dX11_settle_36 : decode cX11_settle 36 = .ok (.iload_n 2, 1) := by decide +kernel
theorem dX11_settle_37 : decode cX11_settle 37 = .ok (.invokevirtual 425, 3) := by decide +kernel
theorem dX11_settle_40 : decode cX11_settle 40 = .ok (.iinc 2 1, 3) := by decide +kernel
theorem dX11_settle_43 : decode cX11_settle 43 = .ok (.goto (-26), 3) := by decide +kernel
theorem dX11_settle_46 : decode cX11_settle 46 = .ok (.aload_n 0, 1) := by decide +kernel
theorem dX11_settle_47 : decode cX11_settle 47 = .ok (.getfield 415, 3) := by decide +kernel
theorem dX11_settle_50 : decode cX11_settle 50 = .ok (.iload_n 1, 1) := by decide +kernel
theorem dX11_settle_51 : decode cX11_settle 51 = .ok (.isub, 1) := by decide +kernel
theorem dX11_settle_52 : decode cX11_settle 52 = .ok (.ireturn, 1) := by decide +kernel
theorem dX11_checksum_0 : decode cX11_checksum 0 = .ok (.ldc2_w 446, 3) := by decide +kernel
theorem dX11_checksum_3 : decode cX11_checksum 3 = .ok (.lstore_n 1, 1) := by decide +kernel
theorem dX11_checksum_4 : decode cX11_checksum 4 = .ok (.iconst 0, 1) := by decide +kernel
theorem dX11_checksum_5 : decode cX11_checksum 5 = .ok (.istore_n 3, 1) := by decide +kernel
theorem dX11_checksum_6 : decode cX11_checksum 6 = .ok (.iload_n 3, 1) := by decide +kernel
theorem dX11_checksum_7 : decode cX11_checksum 7 = .ok (.aload_n 0, 1) := by decide +kernel
theorem dX11_checksum_8 : decode cX11_checksum 8 = .ok (.getfield 86, 3) := by decide +kernel
theorem dX11_checksum_11 : decode cX11_checksum 11 = .ok (.if_icmp .ge 70, 3) := by decide +kernel
theorem dX11_checksum_14 : decode cX11_checksum 14 = .ok (.aload_n 0, 1) := by decide +kernel
theorem dX11_checksum_15 : decode cX11_checksum 15 = .ok (.iload_n 3, 1) := by decide +kernel
theorem dX11_checksum_16 : decode cX11_checksum 16 = .ok (.invokevirtual 144, 3) := by decide +kernel
theorem dX11_checksum_19 : decode cX11_checksum 19 = .ok (.astore 4, 2) := by decide +kernel
theorem dX11_checksum_21 : decode cX11_checksum 21 = .ok (.ldc2_w 448, 3) := by decide +kernel
theorem dX11_checksum_24 : decode cX11_checksum 24 = .ok (.lload_n 1, 1) := by decide +kernel
theorem dX11_checksum_25 : decode cX11_checksum 25 = .ok (.lmul, 1) := by decide +kernel
theorem dX11_checksum_26 : decode cX11_checksum 26 = .ok (.aload 4, 2) := by decide +kernel
theorem dX11_checksum_28 : decode cX11_checksum 28 = .ok (.getfield 152, 3) := by decide +kernel
theorem dX11_checksum_31 : decode cX11_checksum 31 = .ok (.i2l, 1) := by decide +kernel
theorem dX11_checksum_32 : decode cX11_checksum 32 = .ok (.ladd, 1) := by decide +kernel
theorem dX11_checksum_33 : decode cX11_checksum 33 = .ok (.lstore_n 1, 1) := by decide +kernel
theorem dX11_checksum_34 : decode cX11_checksum 34 = .ok (.ldc2_w 448, 3) := by decide +kernel
theorem dX11_checksum_37 : decode cX11_checksum 37 = .ok (.lload_n 1, 1) := by decide +kernel
theorem dX11_checksum_38 : decode cX11_checksum 38 = .ok (.lmul, 1) := by decide +kernel
theorem dX11_checksum_39 : decode cX11_checksum 39 = .ok (.aload 4, 2) := by decide +kernel
theorem dX11_checksum_41 : decode cX11_checksum 41 = .ok (.getfield 225, 3) := by decide +kernel
theorem dX11_checksum_44 : decode cX11_checksum 44 = .ok (.i2l, 1) := by decide +kernel
theorem dX11_checksum_45 : decode cX11_checksum 45 = .ok (.ladd, 1) := by decide +kernel
theorem dX11_checksum_46 : decode cX11_checksum 46 = .ok (.lstore_n 1, 1) := by decide +kernel
theorem dX11_checksum_47 : decode cX11_checksum 47 = .ok (.ldc2_w 448, 3) := by decide +kernel
theorem dX11_checksum_50 : decode cX11_checksum 50 = .ok (.lload_n 1, 1) := by decide +kernel
theorem dX11_checksum_51 : decode cX11_checksum 51 = .ok (.lmul, 1) := by decide +kernel
theorem dX11_checksum_52 : decode cX11_checksum 52 = .ok (.aload 4, 2) := by decide +kernel
theorem dX11_checksum_54 : decode cX11_checksum 54 = .ok (.getfield 221, 3) := by decide +kernel
theorem dX11_checksum_57 : decode cX11_checksum 57 = .ok (.i2l, 1) := by decide +kernel
theorem dX11_checksum_58 : decode cX11_checksum 58 = .ok (.ladd, 1) := by decide +kernel
theorem dX11_checksum_59 : decode cX11_checksum 59 = .ok (.lstore_n 1, 1) := by decide +kernel
theorem dX11_checksum_60 : decode cX11_checksum 60 = .ok (.ldc2_w 448, 3) := by decide +kernel
theorem dX11_checksum_63 : decode cX11_checksum 63 = .ok (.lload_n 1, 1) := by decide +kernel
theorem dX11_checksum_64 : decode cX11_checksum 64 = .ok (.lmul, 1) := by decide +kernel
theorem dX11_checksum_65 : decode cX11_checksum 65 = .ok (.aload 4, 2) := by decide +kernel
theorem dX11_checksum_67 : decode cX11_checksum 67 = .ok (.getfield 227, 3) := by decide +kernel
theorem dX11_checksum_70 : decode cX11_checksum 70 = .ok (.invokevirtual 235, 3) := by decide +kernel
theorem dX11_checksum_73 : decode cX11_checksum 73 = .ok (.ladd, 1) := by decide +kernel
theorem dX11_checksum_74 : decode cX11_checksum 74 = .ok (.lstore_n 1, 1) := by decide +kernel
theorem dX11_checksum_75 : decode cX11_checksum 75 = .ok (.iinc 3 1, 3) := by decide +kernel
theorem dX11_checksum_78 : decode cX11_checksum 78 = .ok (.goto (-72), 3) := by decide +kernel
theorem dX11_checksum_81 : decode cX11_checksum 81 = .ok (.lload_n 1, 1) := by decide +kernel
theorem dX11_checksum_82 : decode cX11_checksum 82 = .ok (.lreturn, 1) := by decide +kernel
theorem dX11_isSound_0 : decode cX11_isSound 0 = .ok (.iconst 0, 1) := by decide +kernel
theorem dX11_isSound_1 : decode cX11_isSound 1 = .ok (.istore_n 1, 1) := by decide +kernel
theorem dX11_isSound_2 : decode cX11_isSound 2 = .ok (.iload_n 1, 1) := by decide +kernel
theorem dX11_isSound_3 : decode cX11_isSound 3 = .ok (.aload_n 0, 1) := by decide +kernel
theorem dX11_isSound_4 : decode cX11_isSound 4 = .ok (.getfield 86, 3) := by decide +kernel
theorem dX11_isSound_7 : decode cX11_isSound 7 = .ok (.if_icmp .ge 15, 3) := by decide +kernel
theorem dX11_isSound_10 : decode cX11_isSound 10 = .ok (.aload_n 0, 1) := by decide +kernel
theorem dX11_isSound_11 : decode cX11_isSound 11 = .ok (.iload_n 1, 1) := by decide +kernel
theorem dX11_isSound_12 : decode cX11_isSound 12 = .ok (.invokevirtual 144, 3) := by decide +kernel
theorem dX11_isSound_15 : decode cX11_isSound 15 = .ok (.pop, 1) := by decide +kernel
theorem dX11_isSound_16 : decode cX11_isSound 16 = .ok (.iinc 1 1, 3) := by decide +kernel
theorem dX11_isSound_19 : decode cX11_isSound 19 = .ok (.goto (-17), 3) := by decide +kernel
theorem dX11_isSound_22 : decode cX11_isSound 22 = .ok (.iconst 0, 1) := by decide +kernel
theorem dX11_isSound_23 : decode cX11_isSound 23 = .ok (.istore_n 1, 1) := by decide +kernel
theorem dX11_isSound_24 : decode cX11_isSound 24 = .ok (.iload_n 1, 1) := by decide +kernel
theorem dX11_isSound_25 : decode cX11_isSound 25 = .ok (.aload_n 0, 1) := by decide +kernel
theorem dX11_isSound_26 : decode cX11_isSound 26 = .ok (.getfield 86, 3) := by decide +kernel
theorem dX11_isSound_29 : decode cX11_isSound 29 = .ok (.if_icmp .ge 24, 3) := by decide +kernel
theorem dX11_isSound_32 : decode cX11_isSound 32 = .ok (.aload_n 0, 1) := by decide +kernel
theorem dX11_isSound_33 : decode cX11_isSound 33 = .ok (.aload_n 0, 1) := by decide +kernel
theorem dX11_isSound_34 : decode cX11_isSound 34 = .ok (.getfield 18, 3) := by decide +kernel
theorem dX11_isSound_37 : decode cX11_isSound 37 = .ok (.iload_n 1, 1) := by decide +kernel
theorem dX11_isSound_38 : decode cX11_isSound 38 = .ok (.aaload, 1) := by decide +kernel
theorem dX11_isSound_39 : decode cX11_isSound 39 = .ok (.invokevirtual 450, 3) := by decide +kernel
theorem dX11_isSound_42 : decode cX11_isSound 42 = .ok (.ifCond .ne 5, 3) := by decide +kernel
theorem dX11_isSound_45 : decode cX11_isSound 45 = .ok (.iconst 0, 1) := by decide +kernel
theorem dX11_isSound_46 : decode cX11_isSound 46 = .ok (.ireturn, 1) := by decide +kernel
theorem dX11_isSound_47 : decode cX11_isSound 47 = .ok (.iinc 1 1, 3) := by decide +kernel
theorem dX11_isSound_50 : decode cX11_isSound 50 = .ok (.goto (-26), 3) := by decide +kernel
theorem dX11_isSound_53 : decode cX11_isSound 53 = .ok (.iconst 0, 1) := by decide +kernel
theorem dX11_isSound_54 : decode cX11_isSound 54 = .ok (.istore_n 1, 1) := by decide +kernel
theorem dX11_isSound_55 : decode cX11_isSound 55 = .ok (.iload_n 1, 1) := by decide +kernel
theorem dX11_isSound_56 : decode cX11_isSound 56 = .ok (.aload_n 0, 1) := by decide +kernel
theorem dX11_isSound_57 : decode cX11_isSound 57 = .ok (.getfield 395, 3) := by decide +kernel
theorem dX11_isSound_60 : decode cX11_isSound 60 = .ok (.if_icmp .ge 24, 3) := by decide +kernel
theorem dX11_isSound_63 : decode cX11_isSound 63 = .ok (.aload_n 0, 1) := by decide +kernel
theorem dX11_isSound_64 : decode cX11_isSound 64 = .ok (.aload_n 0, 1) := by decide +kernel
theorem dX11_isSound_65 : decode cX11_isSound 65 = .ok (.getfield 56, 3) := by decide +kernel
theorem dX11_isSound_68 : decode cX11_isSound 68 = .ok (.iload_n 1, 1) := by decide +kernel
theorem dX11_isSound_69 : decode cX11_isSound 69 = .ok (.aaload, 1) := by decide +kernel
theorem dX11_isSound_70 : decode cX11_isSound 70 = .ok (.invokevirtual 453, 3) := by decide +kernel
theorem dX11_isSound_73 : decode cX11_isSound 73 = .ok (.ifCond .eq 5, 3) := by decide +kernel
theorem dX11_isSound_76 : decode cX11_isSound 76 = .ok (.iconst 0, 1) := by decide +kernel
theorem dX11_isSound_77 : decode cX11_isSound 77 = .ok (.ireturn, 1) := by decide +kernel
theorem dX11_isSound_78 : decode cX11_isSound 78 = .ok (.iinc 1 1, 3) := by decide +kernel
theorem dX11_isSound_81 : decode cX11_isSound 81 = .ok (.goto (-26), 3) := by decide +kernel
theorem dX11_isSound_84 : decode cX11_isSound 84 = .ok (.iconst 1, 1) := by decide +kernel
theorem dX11_isSound_85 : decode cX11_isSound 85 = .ok (.ireturn, 1) := by decide +kernel
theorem dX11_canHaveSize_0 : decode cX11_canHaveSize 0 = .ok (.iload_n 1, 1) := by decide +kernel
theorem dX11_canHaveSize_1 : decode cX11_canHaveSize 1 = .ok (.getstatic 457, 3) := by decide +kernel
theorem dX11_canHaveSize_4 : decode cX11_canHaveSize 4 = .ok (.iload_n 0, 1) := by decide +kernel
theorem dX11_canHaveSize_5 : decode cX11_canHaveSize 5 = .ok (.iaload, 1) := by decide +kernel
theorem dX11_canHaveSize_6 : decode cX11_canHaveSize 6 = .ok (.if_icmp .lt 16, 3) := by decide +kernel
theorem dX11_canHaveSize_9 : decode cX11_canHaveSize 9 = .ok (.iload_n 1, 1) := by decide +kernel
theorem dX11_canHaveSize_10 : decode cX11_canHaveSize 10 = .ok (.getstatic 460, 3) := by decide +kernel
theorem dX11_canHaveSize_13 : decode cX11_canHaveSize 13 = .ok (.iload_n 0, 1) := by decide +kernel
theorem dX11_canHaveSize_14 : decode cX11_canHaveSize 14 = .ok (.iaload, 1) := by decide +kernel
theorem dX11_canHaveSize_15 : decode cX11_canHaveSize 15 = .ok (.if_icmp .gt 7, 3) := by decide +kernel
theorem dX11_canHaveSize_18 : decode cX11_canHaveSize 18 = .ok (.iconst 1, 1) := by decide +kernel
theorem dX11_canHaveSize_19 : decode cX11_canHaveSize 19 = .ok (.goto 4, 3) := by decide +kernel
theorem dX11_canHaveSize_22 : decode cX11_canHaveSize 22 = .ok (.iconst 0, 1) := by decide +kernel
theorem dX11_canHaveSize_23 : decode cX11_canHaveSize 23 = .ok (.ireturn, 1) := by decide +kernel
theorem dX11_canHaveBound_0 : decode cX11_canHaveBound 0 = .ok (.iload_n 1, 1) := by decide +kernel
theorem dX11_canHaveBound_1 : decode cX11_canHaveBound 1 = .ok (.getstatic 463, 3) := by decide +kernel
theorem dX11_canHaveBound_4 : decode cX11_canHaveBound 4 = .ok (.iload_n 0, 1) := by decide +kernel
theorem dX11_canHaveBound_5 : decode cX11_canHaveBound 5 = .ok (.iaload, 1) := by decide +kernel
theorem dX11_canHaveBound_6 : decode cX11_canHaveBound 6 = .ok (.if_icmp .lt 16, 3) := by decide +kernel
theorem dX11_canHaveBound_9 : decode cX11_canHaveBound 9 = .ok (.iload_n 1, 1) := by decide +kernel
theorem dX11_canHaveBound_10 : decode cX11_canHaveBound 10 = .ok (.getstatic 466, 3) := by decide +kernel
theorem dX11_canHaveBound_13 : decode cX11_canHaveBound 13 = .ok (.iload_n 0, 1) := by decide +kernel
theorem dX11_canHaveBound_14 : decode cX11_canHaveBound 14 = .ok (.iaload, 1) := by decide +kernel
theorem dX11_canHaveBound_15 : decode cX11_canHaveBound 15 = .ok (.if_icmp .gt 7, 3) := by decide +kernel
theorem dX11_canHaveBound_18 : decode cX11_canHaveBound 18 = .ok (.iconst 1, 1) := by decide +kernel
theorem dX11_canHaveBound_19 : decode cX11_canHaveBound 19 = .ok (.goto 4, 3) := by decide +kernel
theorem dX11_canHaveBound_22 : decode cX11_canHaveBound 22 = .ok (.iconst 0, 1) := by decide +kernel
theorem dX11_canHaveBound_23 : decode cX11_canHaveBound 23 = .ok (.ireturn, 1) := by decide +kernel
theorem dX11_mostItems_0 : decode cX11_mostItems 0 = .ok (.aload_n 0, 1) := by decide +kernel
theorem dX11_mostItems_1 : decode cX11_mostItems 1 = .ok (.getfield 147, 3) := by decide +kernel
theorem dX11_mostItems_4 : decode cX11_mostItems 4 = .ok (.bipush 10, 2) := by decide +kernel
theorem dX11_mostItems_6 : decode cX11_mostItems 6 = .ok (.if_icmp .eq 12, 3) := by decide +kernel
theorem dX11_mostItems_9 : decode cX11_mostItems 9 = .ok (.aload_n 0, 1) := by decide +kernel
theorem dX11_mostItems_10 : decode cX11_mostItems 10 = .ok (.getfield 147, 3) := by decide +kernel
theorem dX11_mostItems_13 : decode cX11_mostItems 13 = .ok (.bipush 11, 2) := by decide +kernel
theorem dX11_mostItems_15 : decode cX11_mostItems 15 = .ok (.if_icmp .ne 8, 3) := by decide +kernel
theorem dX11_mostItems_18 : decode cX11_mostItems 18 = .ok (.aload_n 0, 1) := by decide +kernel
theorem dX11_mostItems_19 : decode cX11_mostItems 19 = .ok (.getfield 184, 3) := by decide +kernel
theorem dX11_mostItems_22 : decode cX11_mostItems 22 = .ok (.ireturn, 1) := by decide +kernel
theorem dX11_mostItems_23 : decode cX11_mostItems 23 = .ok (.getstatic 469, 3) := by decide +kernel
theorem dX11_mostItems_26 : decode cX11_mostItems 26 = .ok (.aload_n 0, 1) := by decide +kernel
theorem dX11_mostItems_27 : decode cX11_mostItems 27 = .ok (.getfield 147, 3) := by decide +kernel
theorem dX11_mostItems_30 : decode cX11_mostItems 30 = .ok (.iaload, 1) := by decide +kernel
theorem dX11_mostItems_31 : decode cX11_mostItems 31 = .ok (.ireturn, 1) := by decide +kernel
theorem dX11_entryAt_0 : decode cX11_entryAt 0 = .ok (.iload_n 1, 1) := by decide +kernel
theorem dX11_entryAt_1 : decode cX11_entryAt 1 = .ok (.ifCond .lt 11, 3) := by decide +kernel
theorem dX11_entryAt_4 : decode cX11_entryAt 4 = .ok (.iload_n 1, 1) := by decide +kernel
theorem dX11_entryAt_5 : decode cX11_entryAt 5 = .ok (.aload_n 0, 1) := by decide +kernel
theorem dX11_entryAt_6 : decode cX11_entryAt 6 = .ok (.getfield 86, 3) := by decide +kernel
theorem dX11_entryAt_9 : decode cX11_entryAt 9 = .ok (.if_icmp .lt 14, 3) := by decide +kernel
theorem dX11_entryAt_12 : decode cX11_entryAt 12 = .ok (.new 386, 3) := by decide +kernel
theorem dX11_entryAt_15 : decode cX11_entryAt 15 = .ok (.dup, 1) := by decide +kernel
theorem dX11_entryAt_16 : decode cX11_entryAt 16 = .ok (.ldc_w 472, 3) := by decide +kernel
theorem dX11_entryAt_19 : decode cX11_entryAt 19 = .ok (.invokespecial 390, 3) := by decide +kernel
theorem dX11_entryAt_22 : decode cX11_entryAt 22 = .ok (.athrow, 1) := by decide +kernel
theorem dX11_entryAt_23 : decode cX11_entryAt 23 = .ok (.aload_n 0, 1) := by decide +kernel
theorem dX11_entryAt_24 : decode cX11_entryAt 24 = .ok (.getfield 18, 3) := by decide +kernel
theorem dX11_entryAt_27 : decode cX11_entryAt 27 = .ok (.iload_n 1, 1) := by decide +kernel
theorem dX11_entryAt_28 : decode cX11_entryAt 28 = .ok (.aaload, 1) := by decide +kernel
theorem dX11_entryAt_29 : decode cX11_entryAt 29 = .ok (.areturn, 1) := by decide +kernel
theorem dX11_testPlace_0 : decode cX11_testPlace 0 = .ok (.iload_n 0, 1) := by decide +kernel
theorem dX11_testPlace_1 : decode cX11_testPlace 1 = .ok (.ifCond .lt 8, 3) := by decide +kernel
theorem dX11_testPlace_4 : decode cX11_testPlace 4 = .ok (.iload_n 0, 1) := by decide +kernel
theorem dX11_testPlace_5 : decode cX11_testPlace 5 = .ok (.iload_n 1, 1) := by decide +kernel
theorem dX11_testPlace_6 : decode cX11_testPlace 6 = .ok (.if_icmp .lt 14, 3) := by decide +kernel
theorem dX11_testPlace_9 : decode cX11_testPlace 9 = .ok (.new 197, 3) := by decide +kernel
theorem dX11_testPlace_12 : decode cX11_testPlace 12 = .ok (.dup, 1) := by decide +kernel
theorem dX11_testPlace_13 : decode cX11_testPlace 13 = .ok (.ldc_w 474, 3) := by decide +kernel
theorem dX11_testPlace_16 : decode cX11_testPlace 16 = .ok (.invokespecial 201, 3) := by decide +kernel
theorem dX11_testPlace_19 : decode cX11_testPlace 19 = .ok (.athrow, 1) := by decide +kernel
theorem dX11_testPlace_20 : decode cX11_testPlace 20 = .ok (.return_, 1) := by decide +kernel
theorem dX11_testRange_0 : decode cX11_testRange 0 = .ok (.iload_n 0, 1) := by decide +kernel
theorem dX11_testRange_1 : decode cX11_testRange 1 = .ok (.iload_n 1, 1) := by decide +kernel
theorem dX11_testRange_2 : decode cX11_testRange 2 = .ok (.if_icmp .lt 8, 3) := by decide +kernel
theorem dX11_testRange_5 : decode cX11_testRange 5 = .ok (.iload_n 0, 1) := by decide +kernel
theorem dX11_testRange_6 : decode cX11_testRange 6 = .ok (.iload_n 2, 1) := by decide +kernel
theorem dX11_testRange_7 : decode cX11_testRange 7 = .ok (.if_icmp .le 14, 3) := by decide +kernel
theorem dX11_testRange_10 : decode cX11_testRange 10 = .ok (.new 79, 3) := by decide +kernel
theorem dX11_testRange_13 : decode cX11_testRange 13 = .ok (.dup, 1) := by decide +kernel
theorem dX11_testRange_14 : decode cX11_testRange 14 = .ok (.ldc_w 476, 3) := by decide +kernel
theorem dX11_testRange_17 : decode cX11_testRange 17 = .ok (.invokespecial 83, 3) := by decide +kernel
theorem dX11_testRange_20 : decode cX11_testRange 20 = .ok (.athrow, 1) := by decide +kernel
theorem dX11_testRange_21 : decode cX11_testRange 21 = .ok (.return_, 1) := by decide +kernel
theorem dX11_tellNumbers_0 : decode cX11_tellNumbers 0 = .ok (.aload_n 0, 1) := by decide +kernel
theorem dX11_tellNumbers_1 : decode cX11_tellNumbers 1 = .ok (.getfield 26, 3) := by decide +kernel
theorem dX11_tellNumbers_4 : decode cX11_tellNumbers 4 = .ok (.iconst 0, 1) := by decide +kernel
theorem dX11_tellNumbers_5 : decode cX11_tellNumbers 5 = .ok (.iload_n 1, 1) := by decide +kernel
theorem dX11_tellNumbers_6 : decode cX11_tellNumbers 6 = .ok (.iastore, 1) := by decide +kernel
theorem dX11_tellNumbers_7 : decode cX11_tellNumbers 7 = .ok (.aload_n 0, 1) := by decide +kernel
theorem dX11_tellNumbers_8 : decode cX11_tellNumbers 8 = .ok (.getfield 26, 3) := by decide +kernel
theorem dX11_tellNumbers_11 : decode cX11_tellNumbers 11 = .ok (.iconst 1, 1) := by decide +kernel
theorem dX11_tellNumbers_12 : decode cX11_tellNumbers 12 = .ok (.iload_n 2, 1) := by decide +kernel
theorem dX11_tellNumbers_13 : decode cX11_tellNumbers 13 = .ok (.iastore, 1) := by decide +kernel
theorem dX11_tellNumbers_14 : decode cX11_tellNumbers 14 = .ok (.aload_n 0, 1) := by decide +kernel
theorem dX11_tellNumbers_15 : decode cX11_tellNumbers 15 = .ok (.getfield 26, 3) := by decide +kernel
theorem dX11_tellNumbers_18 : decode cX11_tellNumbers 18 = .ok (.iconst 2, 1) := by decide +kernel
theorem dX11_tellNumbers_19 : decode cX11_tellNumbers 19 = .ok (.iload_n 3, 1) := by decide +kernel
theorem dX11_tellNumbers_20 : decode cX11_tellNumbers 20 = .ok (.iastore, 1) := by decide +kernel
theorem dX11_tellNumbers_21 : decode cX11_tellNumbers 21 = .ok (.aload_n 0, 1) := by decide +kernel
theorem dX11_tellNumbers_22 : decode cX11_tellNumbers 22 = .ok (.getfield 26, 3) := by decide +kernel
theorem dX11_tellNumbers_25 : decode cX11_tellNumbers 25 = .ok (.iconst 3, 1) := by decide +kernel
theorem dX11_tellNumbers_26 : decode cX11_tellNumbers 26 = .ok (.iload 4, 2) := by decide +kernel
theorem dX11_tellNumbers_28 : decode cX11_tellNumbers 28 = .ok (.iastore, 1) := by decide +kernel
theorem dX11_tellNumbers_29 : decode cX11_tellNumbers 29 = .ok (.aload_n 0, 1) := by decide +kernel
theorem dX11_tellNumbers_30 : decode cX11_tellNumbers 30 = .ok (.getfield 26, 3) := by decide +kernel
theorem dX11_tellNumbers_33 : decode cX11_tellNumbers 33 = .ok (.iconst 4, 1) := by decide +kernel
theorem dX11_tellNumbers_34 : decode cX11_tellNumbers 34 = .ok (.iload 5, 2) := by decide +kernel
theorem dX11_tellNumbers_36 : decode cX11_tellNumbers 36 = .ok (.iastore, 1) := by decide +kernel
theorem dX11_tellNumbers_37 : decode cX11_tellNumbers 37 = .ok (.return_, 1) := by decide +kernel
theorem dX11_testItem_0 : decode cX11_testItem 0 = .ok (.aload_n 0, 1) := by decide +kernel
theorem dX11_testItem_1 : decode cX11_testItem 1 = .ok (.getfield 10, 3) := by decide +kernel
theorem dX11_testItem_4 : decode cX11_testItem 4 = .ok (.aload_n 1, 1) := by decide +kernel
theorem dX11_testItem_5 : decode cX11_testItem 5 = .ok (.iload_n 2, 1) := by decide +kernel
theorem dX11_testItem_6 : decode cX11_testItem 6 = .ok (.aload_n 0, 1) := by decide +kernel
theorem dX11_testItem_7 : decode cX11_testItem 7 = .ok (.getfield 26, 3) := by decide +kernel
theorem dX11_testItem_10 : decode cX11_testItem 10 = .ok (.invokevirtual 480, 3) := by decide +kernel
theorem dX11_testItem_13 : decode cX11_testItem 13 = .ok (.ifCond .ne 14, 3) := by decide +kernel
theorem dX11_testItem_16 : decode cX11_testItem 16 = .ok (.new 79, 3) := by decide +kernel
theorem dX11_testItem_19 : decode cX11_testItem 19 = .ok (.dup, 1) := by decide +kernel
theorem dX11_testItem_20 : decode cX11_testItem 20 = .ok (.ldc_w 484, 3) := by decide +kernel
theorem dX11_testItem_23 : decode cX11_testItem 23 = .ok (.invokespecial 83, 3) := by decide +kernel
theorem dX11_testItem_26 : decode cX11_testItem 26 = .ok (.athrow, 1) := by decide +kernel
theorem dX11_testItem_27 : decode cX11_testItem 27 = .ok (.aload_n 0, 1) := by decide +kernel
theorem dX11_testItem_28 : decode cX11_testItem 28 = .ok (.getfield 10, 3) := by decide +kernel
theorem dX11_testItem_31 : decode cX11_testItem 31 = .ok (.aload_n 1, 1) := by decide +kernel
theorem dX11_testItem_32 : decode cX11_testItem 32 = .ok (.iload_n 2, 1) := by decide +kernel
theorem dX11_testItem_33 : decode cX11_testItem 33 = .ok (.aload_n 0, 1) := by decide +kernel
theorem dX11_testItem_34 : decode cX11_testItem 34 = .ok (.getfield 26, 3) := by decide +kernel
theorem dX11_testItem_37 : decode cX11_testItem 37 = .ok (.invokevirtual 486, 3) := by decide +kernel
theorem dX11_testItem_40 : decode cX11_testItem 40 = .ok (.ifCond .eq 14, 3) := by decide +kernel
theorem dX11_testItem_43 : decode cX11_testItem 43 = .ok (.new 166, 3) := by decide +kernel
theorem dX11_testItem_46 : decode cX11_testItem 46 = .ok (.dup, 1) := by decide +kernel
theorem dX11_testItem_47 : decode cX11_testItem 47 = .ok (.ldc_w 489, 3) := by decide +kernel
theorem dX11_testItem_50 : decode cX11_testItem 50 = .ok (.invokespecial 170, 3) := by decide +kernel
theorem dX11_testItem_53 : decode cX11_testItem 53 = .ok (.athrow, 1) := by decide +kernel
theorem dX11_testItem_54 : decode cX11_testItem 54 = .ok (.return_, 1) := by decide +kernel
theorem dX11_refreshed_0 : decode cX11_refreshed 0 = .ok (.aload_n 0, 1) := by decide +kernel
theorem dX11_refreshed_1 : decode cX11_refreshed 1 = .ok (.iload_n 1, 1) := by decide +kernel
theorem dX11_refreshed_2 : decode cX11_refreshed 2 = .ok (.invokevirtual 103, 3) := by decide +kernel
theorem dX11_refreshed_5 : decode cX11_refreshed 5 = .ok (.astore_n 2, 1) := by decide +kernel
theorem dX11_refreshed_6 : decode cX11_refreshed 6 = .ok (.iconst 0, 1) := by decide +kernel
theorem dX11_refreshed_7 : decode cX11_refreshed 7 = .ok (.istore_n 3, 1) := by decide +kernel
theorem dX11_refreshed_8 : decode cX11_refreshed 8 = .ok (.iload_n 1, 1) := by decide +kernel
theorem dX11_refreshed_9 : decode cX11_refreshed 9 = .ok (.istore 4, 2) := by decide +kernel
theorem dX11_refreshed_11 : decode cX11_refreshed 11 = .ok (.iload 4, 2) := by decide +kernel
theorem dX11_refreshed_13 : decode cX11_refreshed 13 = .ok (.ifCond .lt 35, 3) := by decide +kernel
theorem dX11_refreshed_16 : decode cX11_refreshed 16 = .ok (.iload_n 3, 1) := by decide +kernel
theorem dX11_refreshed_17 : decode cX11_refreshed 17 = .ok (.bipush 12, 2) := by decide +kernel
theorem dX11_refreshed_19 : decode cX11_refreshed 19 = .ok (.if_icmp .ge 29, 3) := by decide +kernel
theorem dX11_refreshed_22 : decode cX11_refreshed 22 = .ok (.aload_n 0, 1) := by decide +kernel
theorem dX11_refreshed_23 : decode cX11_refreshed 23 = .ok (.getfield 22, 3) := by decide +kernel
theorem dX11_refreshed_26 : decode cX11_refreshed 26 = .ok (.iload_n 3, 1) := by decide +kernel
theorem dX11_refreshed_27 : decode cX11_refreshed 27 = .ok (.iload 4, 2) := by decide +kernel
theorem dX11_refreshed_29 : decode cX11_refreshed 29 = .ok (.iastore, 1) := by decide +kernel
theorem dX11_refreshed_30 : decode cX11_refreshed 30 = .ok (.iinc 3 1, 3) := by decide +kernel
theorem dX11_refreshed_33 : decode cX11_refreshed 33 = .ok (.aload_n 0, 1) := by decide +kernel
theorem dX11_refreshed_34 : decode cX11_refreshed 34 = .ok (.getfield 18, 3) := by decide +kernel
theorem dX11_refreshed_37 : decode cX11_refreshed 37 = .ok (.iload 4, 2) := by decide +kernel
theorem dX11_refreshed_39 : decode cX11_refreshed 39 = .ok (.aaload, 1) := by decide +kernel
theorem dX11_refreshed_40 : decode cX11_refreshed 40 = .ok (.getfield 158, 3) := by decide +kernel
theorem dX11_refreshed_43 : decode cX11_refreshed 43 = .ok (.istore 4, 2) := by decide +kernel
theorem dX11_refreshed_45 : decode cX11_refreshed 45 = .ok (.goto (-34), 3) := by decide +kernel
theorem dX11_refreshed_48 : decode cX11_refreshed 48 = .ok (.iload_n 3, 1) := by decide +kernel
theorem dX11_refreshed_49 : decode cX11_refreshed 49 = .ok (.iconst 1, 1) := by decide +kernel
theorem dX11_refreshed_50 : decode cX11_refreshed 50 = .ok (.isub, 1) := by decide +kernel
theorem dX11_refreshed_51 : decode cX11_refreshed 51 = .ok (.istore 5, 2) := by decide +kernel
theorem dX11_refreshed_53 : decode cX11_refreshed 53 = .ok (.iload 5, 2) := by decide +kernel
theorem dX11_refreshed_55 : decode cX11_refreshed 55 = .ok (.ifCond .lt 123, 3) := by decide +kernel
theorem dX11_refreshed_58 : decode cX11_refreshed 58 = .ok (.aload_n 0, 1) := by decide +kernel
theorem dX11_refreshed_59 : decode cX11_refreshed 59 = .ok (.getfield 18, 3) := by decide +kernel
theorem dX11_refreshed_62 : decode cX11_refreshed 62 = .ok (.aload_n 0, 1) := by decide +kernel
theorem dX11_refreshed_63 : decode cX11_refreshed 63 = .ok (.getfield 22, 3) := by decide +kernel
theorem dX11_refreshed_66 : decode cX11_refreshed 66 = .ok (.iload 5, 2) := by decide +kernel
theorem dX11_refreshed_68 : decode cX11_refreshed 68 = .ok (.iaload, 1) := by decide +kernel
theorem dX11_refreshed_69 : decode cX11_refreshed 69 = .ok (.aaload, 1) := by decide +kernel
theorem dX11_refreshed_70 : decode cX11_refreshed 70 = .ok (.astore 6, 2) := by decide +kernel
theorem dX11_refreshed_72 : decode cX11_refreshed 72 = .ok (.aload 6, 2) := by decide +kernel
theorem dX11_refreshed_74 : decode cX11_refreshed 74 = .ok (.aload 6, 2) := by decide +kernel
theorem dX11_refreshed_76 : decode cX11_refreshed 76 = .ok (.getfield 155, 3) := by decide +kernel
theorem dX11_refreshed_79 : decode cX11_refreshed 79 = .ok (.putfield 152, 3) := by decide +kernel
theorem dX11_refreshed_82 : decode cX11_refreshed 82 = .ok (.aload 6, 2) := by decide +kernel
theorem dX11_refreshed_84 : decode cX11_refreshed 84 = .ok (.getfield 158, 3) := by decide +kernel
theorem dX11_refreshed_87 : decode cX11_refreshed 87 = .ok (.ifCond .lt 55, 3) := by decide +kernel
theorem dX11_refreshed_90 : decode cX11_refreshed 90 = .ok (.aload_n 0, 1) := by decide +kernel
theorem dX11_refreshed_91 : decode cX11_refreshed 91 = .ok (.getfield 18, 3) := by decide +kernel
theorem dX11_refreshed_94 : decode cX11_refreshed 94 = .ok (.aload 6, 2) := by decide +kernel
theorem dX11_refreshed_96 : decode cX11_refreshed 96 = .ok (.getfield 158, 3) := by decide +kernel
theorem dX11_refreshed_99 : decode cX11_refreshed 99 = .ok (.aaload, 1) := by decide +kernel
theorem dX11_refreshed_100 : decode cX11_refreshed 100 = .ok (.getfield 225, 3) := by decide +kernel
theorem dX11_refreshed_103 : decode cX11_refreshed 103 = .ok (.aload 6, 2) := by decide +kernel
theorem dX11_refreshed_105 : decode cX11_refreshed 105 = .ok (.getfield 171, 3) := by decide +kernel
theorem dX11_refreshed_108 : decode cX11_refreshed 108 = .ok (.iadd, 1) := by decide +kernel
theorem dX11_refreshed_109 : decode cX11_refreshed 109 = .ok (.istore 7, 2) := by decide +kernel
theorem dX11_refreshed_111 : decode cX11_refreshed 111 = .ok (.aload 6, 2) := by decide +kernel
theorem dX11_refreshed_113 : decode cX11_refreshed 113 = .ok (.getstatic 463, 3) := by decide +kernel
theorem dX11_refreshed_116 : decode cX11_refreshed 116 = .ok (.aload 6, 2) := by decide +kernel
theorem dX11_refreshed_118 : decode cX11_refreshed 118 = .ok (.getfield 147, 3) := by decide +kernel
theorem dX11_refreshed_121 : decode cX11_refreshed 121 = .ok (.iaload, 1) := by decide +kernel
theorem dX11_refreshed_122 : decode cX11_refreshed 122 = .ok (.getstatic 466, 3) := by decide +kernel
theorem dX11_refreshed_125 : decode cX11_refreshed 125 = .ok (.aload 6, 2) := by decide +kernel
theorem dX11_refreshed_127 : decode cX11_refreshed 127 = .ok (.getfield 147, 3) := by decide +kernel
theorem dX11_refreshed_130 : decode cX11_refreshed 130 = .ok (.iaload, 1) := by decide +kernel
theorem dX11_refreshed_131 : decode cX11_refreshed 131 = .ok (.iload 7, 2) := by decide +kernel
theorem dX11_refreshed_133 : decode cX11_refreshed 133 = .ok (.invokestatic 491, 3) := by decide +kernel
theorem dX11_refreshed_136 : decode cX11_refreshed 136 = .ok (.invokestatic 496, 3) := by decide +kernel
theorem dX11_refreshed_139 : decode cX11_refreshed 139 = .ok (.putfield 152, 3) := by decide +kernel
theorem dX11_refreshed_142 : decode cX11_refreshed 142 = .ok (.aload 6, 2) := by decide +kernel
theorem dX11_refreshed_144 : decode cX11_refreshed 144 = .ok (.getfield 128, 3) := by decide +kernel
theorem dX11_refreshed_147 : decode cX11_refreshed 147 = .ok (.ifCond .eq 16, 3) := by decide +kernel
theorem dX11_refreshed_150 : decode cX11_refreshed 150 = .ok (.aload 6, 2) := by decide +kernel
theorem dX11_refreshed_152 : decode cX11_refreshed 152 = .ok (.getfield 499, 3) := by decide +kernel
theorem dX11_refreshed_155 : decode cX11_refreshed 155 = .ok (.aload 6, 2) := by decide +kernel
theorem dX11_refreshed_157 : decode cX11_refreshed 157 = .ok (.getfield 152, 3) := by decide +kernel
theorem dX11_refreshed_160 : decode cX11_refreshed 160 = .ok (.if_icmp .eq 12, 3) := by decide +kernel
theorem dX11_refreshed_163 : decode cX11_refreshed 163 = .ok (.aload_n 0, 1) := by decide +kernel
theorem dX11_refreshed_164 : decode cX11_refreshed 164 = .ok (.getfield 10, 3) := by decide +kernel
theorem dX11_refreshed_167 : decode cX11_refreshed 167 = .ok (.aload 6, 2) := by decide +kernel
theorem dX11_refreshed_169 : decode cX11_refreshed 169 = .ok (.invokevirtual 502, 3) := by decide +kernel
theorem dX11_refreshed_172 : decode cX11_refreshed 172 = .ok (.iinc 5 (-1), 3) := by decide +kernel
theorem dX11_refreshed_175 : decode cX11_refreshed 175 = .ok (.goto (-122), 3) := by decide +kernel
theorem dX11_refreshed_178 : decode cX11_refreshed 178 = .ok (.aload_n 2, 1) := by decide +kernel
theorem dX11_refreshed_179 : decode cX11_refreshed 179 = .ok (.areturn, 1) := by decide +kernel
theorem dX11_leadsTo_0 : decode cX11_leadsTo 0 = .ok (.iload_n 1, 1) := by decide +kernel
theorem dX11_leadsTo_1 : decode cX11_leadsTo 1 = .ok (.istore_n 3, 1) := by decide +kernel
theorem dX11_leadsTo_2 : decode cX11_leadsTo 2 = .ok (.iconst 0, 1) := by decide +kernel
theorem dX11_leadsTo_3 : decode cX11_leadsTo 3 = .ok (.istore 4, 2) := by decide +kernel
theorem dX11_leadsTo_5 : decode cX11_leadsTo 5 = .ok (.iload 4, 2) := by decide +kernel
theorem dX11_leadsTo_7 : decode cX11_leadsTo 7 = .ok (.bipush 12, 2) := by decide +kernel
theorem dX11_leadsTo_9 : decode cX11_leadsTo 9 = .ok (.if_icmp .ge 30, 3) := by decide +kernel
theorem dX11_leadsTo_12 : decode cX11_leadsTo 12 = .ok (.iload_n 3, 1) := by decide +kernel
theorem dX11_leadsTo_13 : decode cX11_leadsTo 13 = .ok (.ifCond .lt 26, 3) := by decide +kernel
theorem dX11_leadsTo_16 : decode cX11_leadsTo 16 = .ok (.iload_n 3, 1) := by decide +kernel
theorem dX11_leadsTo_17 : decode cX11_leadsTo 17 = .ok (.iload_n 2, 1) := by decide +kernel
theorem dX11_leadsTo_18 : decode cX11_leadsTo 18 = .ok (.if_icmp .ne 5, 3) := by decide +kernel
theorem dX11_leadsTo_21 : decode cX11_leadsTo 21 = .ok (.iconst 1, 1) := by decide +kernel
theorem dX11_leadsTo_22 : decode cX11_leadsTo 22 = .ok (.ireturn, 1) := by decide +kernel
theorem dX11_leadsTo_23 : decode cX11_leadsTo 23 = .ok (.aload_n 0, 1) := by decide +kernel
theorem dX11_leadsTo_24 : decode cX11_leadsTo 24 = .ok (.getfield 18, 3) := by decide +kernel
theorem dX11_leadsTo_27 : decode cX11_leadsTo 27 = .ok (.iload_n 3, 1) := by decide +kernel
theorem dX11_leadsTo_28 : decode cX11_leadsTo 28 = .ok (.aaload, 1) := by decide +kernel
theorem dX11_leadsTo_29 : decode cX11_leadsTo 29 = .ok (.getfield 158, 3) := by decide +kernel
theorem dX11_leadsTo_32 : decode cX11_leadsTo 32 = .ok (.istore_n 3, 1) := by decide +kernel
theorem dX11_leadsTo_33 : decode cX11_leadsTo 33 = .ok (.iinc 4 1, 3) := by decide +kernel
theorem dX11_leadsTo_36 : decode cX11_leadsTo 36 = .ok (.goto (-31), 3) := by decide +kernel
theorem dX11_leadsTo_39 : decode cX11_leadsTo 39 = .ok (.iconst 0, 1) := by decide +kernel
theorem dX11_leadsTo_40 : decode cX11_leadsTo 40 = .ok (.ireturn, 1) := by decide +kernel
theorem dX11_remember_0 : decode cX11_remember 0 = .ok (.aload_n 0, 1) := by decide +kernel
theorem dX11_remember_1 : decode cX11_remember 1 = .ok (.getfield 194, 3) := by decide +kernel
theorem dX11_remember_4 : decode cX11_remember 4 = .ok (.bipush 24, 2) := by decide +kernel
theorem dX11_remember_6 : decode cX11_remember 6 = .ok (.if_icmp .ne 26, 3) := by decide +kernel
theorem dX11_remember_9 : decode cX11_remember 9 = .ok (.aload_n 0, 1) := by decide +kernel
theorem dX11_remember_10 : decode cX11_remember 10 = .ok (.aload_n 0, 1) := by decide +kernel
theorem dX11_remember_11 : decode cX11_remember 11 = .ok (.getfield 202, 3) := by decide +kernel
theorem dX11_remember_14 : decode cX11_remember 14 = .ok (.iconst 1, 1) := by decide +kernel
theorem dX11_remember_15 : decode cX11_remember 15 = .ok (.iadd, 1) := by decide +kernel
theorem dX11_remember_16 : decode cX11_remember 16 = .ok (.bipush 24, 2) := by decide +kernel
theorem dX11_remember_18 : decode cX11_remember 18 = .ok (.irem, 1) := by decide +kernel
theorem dX11_remember_19 : decode cX11_remember 19 = .ok (.putfield 202, 3) := by decide +kernel
theorem dX11_remember_22 : decode cX11_remember 22 = .ok (.aload_n 0, 1) := by decide +kernel
theorem dX11_remember_23 : decode cX11_remember 23 = .ok (.dup, 1) := by decide +kernel
theorem dX11_remember_24 : decode cX11_remember 24 = .ok (.getfield 194, 3) := by decide +kernel
theorem dX11_remember_27 : decode cX11_remember 27 = .ok (.iconst 1, 1) := by decide +kernel
theorem dX11_remember_28 : decode cX11_remember 28 = .ok (.isub, 1) := by decide +kernel
theorem dX11_remember_29 : decode cX11_remember 29 = .ok (.putfield 194, 3) := by decide +kernel
theorem dX11_remember_32 : decode cX11_remember 32 = .ok (.aload_n 0, 1) := by decide +kernel
theorem dX11_remember_33 : decode cX11_remember 33 = .ok (.getfield 202, 3) := by decide +kernel
theorem dX11_remember_36 : decode cX11_remember 36 = .ok (.aload_n 0, 1) := by decide +kernel
theorem dX11_remember_37 : decode cX11_remember 37 = .ok (.getfield 194, 3) := by decide +kernel
theorem dX11_remember_40 : decode cX11_remember 40 = .ok (.iadd, 1) := by decide +kernel
theorem dX11_remember_41 : decode cX11_remember 41 = .ok (.bipush 24, 2) := by decide +kernel
theorem dX11_remember_43 : decode cX11_remember 43 = .ok (.irem, 1) := by decide +kernel
theorem dX11_remember_44 : decode cX11_remember 44 = .ok (.istore_n 3, 1) := by decide +kernel
theorem dX11_remember_45 : decode cX11_remember 45 = .ok (.aload_n 0, 1) := by decide +kernel
theorem dX11_remember_46 : decode cX11_remember 46 = .ok (.getfield 37, 3) := by decide +kernel
theorem dX11_remember_49 : decode cX11_remember 49 = .ok (.iload_n 3, 1) := by decide +kernel
theorem dX11_remember_50 : decode cX11_remember 50 = .ok (.iload_n 1, 1) := by decide +kernel
theorem dX11_remember_51 : decode cX11_remember 51 = .ok (.castore, 1) := by decide +kernel
theorem dX11_remember_52 : decode cX11_remember 52 = .ok (.aload_n 0, 1) := by decide +kernel
theorem dX11_remember_53 : decode cX11_remember 53 = .ok (.getfield 41, 3) := by decide +kernel
theorem dX11_remember_56 : decode cX11_remember 56 = .ok (.iload_n 3, 1) := by decide +kernel
theorem dX11_remember_57 : decode cX11_remember 57 = .ok (.iload_n 2, 1) := by decide +kernel
theorem dX11_remember_58 : decode cX11_remember 58 = .ok (.iastore, 1) := by decide +kernel
theorem dX11_remember_59 : decode cX11_remember 59 = .ok (.aload_n 0, 1) := by decide +kernel
theorem dX11_remember_60 : decode cX11_remember 60 = .ok (.getfield 34, 3) := by decide +kernel
theorem dX11_remember_63 : decode cX11_remember 63 = .ok (.iload_n 3, 1) := by decide +kernel
theorem dX11_remember_64 : decode cX11_remember 64 = .ok (.aaload, 1) := by decide +kernel
theorem dX11_remember_65 : decode cX11_remember 65 = .ok (.aload_n 0, 1) := by decide +kernel
theorem dX11_remember_66 : decode cX11_remember 66 = .ok (.getfield 18, 3) := by decide +kernel
theorem dX11_remember_69 : decode cX11_remember 69 = .ok (.iload_n 2, 1) := by decide +kernel
theorem dX11_remember_70 : decode cX11_remember 70 = .ok (.aaload, 1) := by decide +kernel
theorem dX11_remember_71 : decode cX11_remember 71 = .ok (.invokevirtual 187, 3) := by decide +kernel
theorem dX11_remember_74 : decode cX11_remember 74 = .ok (.aload_n 0, 1) := by decide +kernel
theorem dX11_remember_75 : decode cX11_remember 75 = .ok (.dup, 1) := by decide +kernel
theorem dX11_remember_76 : decode cX11_remember 76 = .ok (.getfield 194, 3) := by decide +kernel
theorem dX11_remember_79 : decode cX11_remember 79 = .ok (.iconst 1, 1) := by decide +kernel
theorem dX11_remember_80 : decode cX11_remember 80 = .ok (.iadd, 1) := by decide +kernel
theorem dX11_remember_81 : decode cX11_remember 81 = .ok (.putfield 194, 3) := by decide +kernel
theorem dX11_remember_84 : decode cX11_remember 84 = .ok (.return_, 1) := by decide +kernel
theorem dX11_forgetEntry_0 : decode cX11_forgetEntry 0 = .ok (.aload_n 0, 1) := by decide +kernel
theorem dX11_forgetEntry_1 : decode cX11_forgetEntry 1 = .ok (.getfield 395, 3) := by decide +kernel
theorem dX11_forgetEntry_4 : decode cX11_forgetEntry 4 = .ok (.iconst 1, 1) := by decide +kernel
theorem dX11_forgetEntry_5 : decode cX11_forgetEntry 5 = .ok (.isub, 1) := by decide +kernel
theorem dX11_forgetEntry_6 : decode cX11_forgetEntry 6 = .ok (.istore_n 2, 1) := by decide +kernel
theorem dX11_forgetEntry_7 : decode cX11_forgetEntry 7 = .ok (.iload_n 2, 1) := by decide +kernel
theorem dX11_forgetEntry_8 : decode cX11_forgetEntry 8 = .ok (.ifCond .lt 27, 3) := by decide +kernel
theorem dX11_forgetEntry_11 : decode cX11_forgetEntry 11 = .ok (.aload_n 0, 1) := by decide +kernel
theorem dX11_forgetEntry_12 : decode cX11_forgetEntry 12 = .ok (.getfield 56, 3) := by decide +kernel
theorem dX11_forgetEntry_15 : decode cX11_forgetEntry 15 = .ok (.iload_n 2, 1) := by decide +kernel
theorem dX11_forgetEntry_16 : decode cX11_forgetEntry 16 = .ok (.aaload, 1) := by decide +kernel
theorem dX11_forgetEntry_17 : decode cX11_forgetEntry 17 = .ok (.getfield 406, 3) := by decide +kernel
theorem dX11_forgetEntry_20 : decode cX11_forgetEntry 20 = .ok (.iload_n 1, 1) := by decide +kernel
theorem dX11_forgetEntry_21 : decode cX11_forgetEntry 21 = .ok (.if_icmp .ne 8, 3) := by decide +kernel
theorem dX11_forgetEntry_24 : decode cX11_forgetEntry 24 = .ok (.aload_n 0, 1) := by decide +kernel
theorem dX11_forgetEntry_25 : decode cX11_forgetEntry 25 = .ok (.iload_n 2, 1) := by decide +kernel
theorem dX11_forgetEntry_26 : decode cX11_forgetEntry 26 = .ok (.invokevirtual 505, 3) := by decide +kernel
theorem dX11_forgetEntry_29 : decode cX11_forgetEntry 29 = .ok (.iinc 2 (-1), 3) := by decide +kernel
theorem dX11_forgetEntry_32 : decode cX11_forgetEntry 32 = .ok (.goto (-25), 3) := by decide +kernel
theorem dX11_forgetEntry_35 : decode cX11_forgetEntry 35 = .ok (.aload_n 0, 1) := by decide +kernel
theorem dX11_forgetEntry_36 : decode cX11_forgetEntry 36 = .ok (.getfield 18, 3) := by decide +kernel
theorem dX11_forgetEntry_39 : decode cX11_forgetEntry 39 = .ok (.iload_n 1, 1) := by decide +kernel
theorem dX11_forgetEntry_40 : decode cX11_forgetEntry 40 = .ok (.aaload, 1) := by decide +kernel
theorem dX11_forgetEntry_41 : decode cX11_forgetEntry 41 = .ok (.iconst 0, 1) := by decide +kernel
theorem dX11_forgetEntry_42 : decode cX11_forgetEntry 42 = .ok (.putfield 428, 3) := by decide +kernel
theorem dX11_forgetEntry_45 : decode cX11_forgetEntry 45 = .ok (.aload_n 0, 1) := by decide +kernel
theorem dX11_forgetEntry_46 : decode cX11_forgetEntry 46 = .ok (.dup, 1) := by decide +kernel
theorem dX11_forgetEntry_47 : decode cX11_forgetEntry 47 = .ok (.getfield 86, 3) := by decide +kernel
theorem dX11_forgetEntry_50 : decode cX11_forgetEntry 50 = .ok (.iconst 1, 1) := by decide +kernel
theorem dX11_forgetEntry_51 : decode cX11_forgetEntry 51 = .ok (.isub, 1) := by decide +kernel
theorem dX11_forgetEntry_52 : decode cX11_forgetEntry 52 = .ok (.putfield 86, 3) := by decide +kernel
theorem dX11_forgetEntry_55 : decode cX11_forgetEntry 55 = .ok (.return_, 1) := by decide +kernel
theorem dX11_removeClaim_0 : decode cX11_removeClaim 0 = .ok (.aload_n 0, 1) := by decide +kernel
theorem dX11_removeClaim_1 : decode cX11_removeClaim 1 = .ok (.getfield 56, 3) := by decide +kernel
theorem dX11_removeClaim_4 : decode cX11_removeClaim 4 = .ok (.iload_n 1, 1) := by decide +kernel
theorem dX11_removeClaim_5 : decode cX11_removeClaim 5 = .ok (.aaload, 1) := by decide +kernel
theorem dX11_removeClaim_6 : decode cX11_removeClaim 6 = .ok (.astore_n 2, 1) := by decide +kernel
theorem dX11_removeClaim_7 : decode cX11_removeClaim 7 = .ok (.iload_n 1, 1) := by decide +kernel
theorem dX11_removeClaim_8 : decode cX11_removeClaim 8 = .ok (.istore_n 3, 1) := by decide +kernel
theorem dX11_removeClaim_9 : decode cX11_removeClaim 9 = .ok (.iload_n 3, 1) := by decide +kernel
theorem dX11_removeClaim_10 : decode cX11_removeClaim 10 = .ok (.aload_n 0, 1) := by decide +kernel
theorem dX11_removeClaim_11 : decode cX11_removeClaim 11 = .ok (.getfield 395, 3) := by decide +kernel
theorem dX11_removeClaim_14 : decode cX11_removeClaim 14 = .ok (.iconst 1, 1) := by decide +kernel
theorem dX11_removeClaim_15 : decode cX11_removeClaim 15 = .ok (.isub, 1) := by decide +kernel
theorem dX11_removeClaim_16 : decode cX11_removeClaim 16 = .ok (.if_icmp .ge 23, 3) := by decide +kernel
theorem dX11_removeClaim_19 : decode cX11_removeClaim 19 = .ok (.aload_n 0, 1) := by decide +kernel
theorem dX11_removeClaim_20 : decode cX11_removeClaim 20 = .ok (.getfield 56, 3) := by decide +kernel
theorem dX11_removeClaim_23 : decode cX11_removeClaim 23 = .ok (.iload_n 3, 1) := by decide +kernel
theorem dX11_removeClaim_24 : decode cX11_removeClaim 24 = .ok (.aload_n 0, 1) := by decide +kernel
theorem dX11_removeClaim_25 : decode cX11_removeClaim 25 = .ok (.getfield 56, 3) := by decide +kernel
theorem dX11_removeClaim_28 : decode cX11_removeClaim 28 = .ok (.iload_n 3, 1) := by decide +kernel
theorem dX11_removeClaim_29 : decode cX11_removeClaim 29 = .ok (.iconst 1, 1) := by decide +kernel
theorem dX11_removeClaim_30 : decode cX11_removeClaim 30 = .ok (.iadd, 1) := by decide +kernel
theorem dX11_removeClaim_31 : decode cX11_removeClaim 31 = .ok (.aaload, 1) := by decide +kernel
theorem dX11_removeClaim_32 : decode cX11_removeClaim 32 = .ok (.aastore, 1) := by decide +kernel
theorem dX11_removeClaim_33 : decode cX11_removeClaim 33 = .ok (.iinc 3 1, 3) := by decide +kernel
theorem dX11_removeClaim_36 : decode cX11_removeClaim 36 = .ok (.goto (-27), 3) := by decide +kernel
theorem dX11_removeClaim_39 : decode cX11_removeClaim 39 = .ok (.aload_n 0, 1) := by decide +kernel
theorem dX11_removeClaim_40 : decode cX11_removeClaim 40 = .ok (.dup, 1) := by decide +kernel
theorem dX11_removeClaim_41 : decode cX11_removeClaim 41 = .ok (.getfield 395, 3) := by decide +kernel
theorem dX11_removeClaim_44 : decode cX11_removeClaim 44 = .ok (.iconst 1, 1) := by decide +kernel
theorem dX11_removeClaim_45 : decode cX11_removeClaim 45 = .ok (.isub, 1) := by decide +kernel
theorem dX11_removeClaim_46 : decode cX11_removeClaim 46 = .ok (.putfield 395, 3) := by decide +kernel
theorem dX11_removeClaim_49 : decode cX11_removeClaim 49 = .ok (.aload_n 0, 1) := by decide +kernel
theorem dX11_removeClaim_50 : decode cX11_removeClaim 50 = .ok (.getfield 56, 3) := by decide +kernel
theorem dX11_removeClaim_53 : decode cX11_removeClaim 53 = .ok (.aload_n 0, 1) := by decide +kernel
theorem dX11_removeClaim_54 : decode cX11_removeClaim 54 = .ok (.getfield 395, 3) := by decide +kernel
theorem dX11_removeClaim_57 : decode cX11_removeClaim 57 = .ok (.aload_n 2, 1) := by decide +kernel
theorem dX11_removeClaim_58 : decode cX11_removeClaim 58 = .ok (.aastore, 1) := by decide +kernel
theorem dX11_removeClaim_59 : decode cX11_removeClaim 59 = .ok (.return_, 1) := by decide +kernel
theorem dX11_standsAlready_0 : decode cX11_standsAlready 0 = .ok (.iconst 0, 1) := by decide +kernel
theorem dX11_standsAlready_1 : decode cX11_standsAlready 1 = .ok (.istore_n 3, 1) := by decide +kernel
theorem dX11_standsAlready_2 : decode cX11_standsAlready 2 = .ok (.iload_n 3, 1) := by decide +kernel
theorem dX11_standsAlready_3 : decode cX11_standsAlready 3 = .ok (.aload_n 0, 1) := by decide +kernel
theorem dX11_standsAlready_4 : decode cX11_standsAlready 4 = .ok (.getfield 395, 3) := by decide +kernel
theorem dX11_standsAlready_7 : decode cX11_standsAlready 7 = .ok (.if_icmp .ge 52, 3) := by decide +kernel
theorem dX11_standsAlready_10 : decode cX11_standsAlready 10 = .ok (.aload_n 0, 1) := by decide +kernel
theorem dX11_standsAlready_11 : decode cX11_standsAlready 11 = .ok (.getfield 56, 3) := by decide +kernel
theorem dX11_standsAlready_14 : decode cX11_standsAlready 14 = .ok (.iload_n 3, 1) := by decide +kernel
theorem dX11_standsAlready_15 : decode cX11_standsAlready 15 = .ok (.aaload, 1) := by decide +kernel
theorem dX11_standsAlready_16 : decode cX11_standsAlready 16 = .ok (.astore 4, 2) := by decide +kernel
theorem dX11_standsAlready_18 : decode cX11_standsAlready 18 = .ok (.aload 4, 2) := by decide +kernel
theorem dX11_standsAlready_20 : decode cX11_standsAlready 20 = .ok (.getfield 406, 3) := by decide +kernel
theorem dX11_standsAlready_23 : decode cX11_standsAlready 23 = .ok (.iload_n 1, 1) := by decide +kernel
theorem dX11_standsAlready_24 : decode cX11_standsAlready 24 = .ok (.if_icmp .ne 29, 3) := by decide +kernel
theorem dX11_standsAlready_27 : decode cX11_standsAlready 27 = .ok (.aload 4, 2) := by decide +kernel
theorem dX11_standsAlready_29 : decode cX11_standsAlready 29 = .ok (.getfield 409, 3) := by decide +kernel
theorem dX11_standsAlready_32 : decode cX11_standsAlready 32 = .ok (.iload_n 2, 1) := by decide +kernel
theorem dX11_standsAlready_33 : decode cX11_standsAlready 33 = .ok (.if_icmp .ne 20, 3) := by decide +kernel
theorem dX11_standsAlready_36 : decode cX11_standsAlready 36 = .ok (.aload 4, 2) := by decide +kernel
theorem dX11_standsAlready_38 : decode cX11_standsAlready 38 = .ok (.getfield 412, 3) := by decide +kernel
theorem dX11_standsAlready_41 : decode cX11_standsAlready 41 = .ok (.aload_n 0, 1) := by decide +kernel
theorem dX11_standsAlready_42 : decode cX11_standsAlready 42 = .ok (.getfield 47, 3) := by decide +kernel
theorem dX11_standsAlready_45 : decode cX11_standsAlready 45 = .ok (.invokevirtual 437, 3) := by decide +kernel
theorem dX11_standsAlready_48 : decode cX11_standsAlready 48 = .ok (.ifCond .eq 5, 3) := by decide +kernel
theorem dX11_standsAlready_51 : decode cX11_standsAlready 51 = .ok (.iconst 1, 1) := by decide +kernel
theorem dX11_standsAlready_52 : decode cX11_standsAlready 52 = .ok (.ireturn, 1) := by decide +kernel
theorem dX11_standsAlready_53 : decode cX11_standsAlready 53 = .ok (.iinc 3 1, 3) := by decide +kernel
theorem dX11_standsAlready_56 : decode cX11_standsAlready 56 = .ok (.goto (-54), 3) := by decide +kernel
theorem dX11_standsAlready_59 : decode cX11_standsAlready 59 = .ok (.iconst 0, 1) := by decide +kernel
theorem dX11_standsAlready_60 : decode cX11_standsAlready 60 = .ok (.ireturn, 1) := by decide +kernel
theorem dX11_wouldBeCarriedSo_0 : decode cX11_wouldBeCarriedSo 0 = .ok (.aload_n 1, 1) := by decide +kernel
theorem dX11_wouldBeCarriedSo_1 : decode cX11_wouldBeCarriedSo 1 = .ok (.getfield 191, 3) := by decide +kernel
theorem dX11_wouldBeCarriedSo_4 : decode cX11_wouldBeCarriedSo 4 = .ok (.ifCond .ge 5, 3) := by decide +kernel
theorem dX11_wouldBeCarriedSo_7 : decode cX11_wouldBeCarriedSo 7 = .ok (.iconst 0, 1) := by decide +kernel
theorem dX11_wouldBeCarriedSo_8 : decode cX11_wouldBeCarriedSo 8 = .ok (.ireturn, 1) := by decide +kernel
theorem dX11_wouldBeCarriedSo_9 : decode cX11_wouldBeCarriedSo 9 = .ok (.aload_n 0, 1) := by decide +kernel
theorem dX11_wouldBeCarriedSo_10 : decode cX11_wouldBeCarriedSo 10 = .ok (.getfield 10, 3) := by decide +kernel
theorem dX11_wouldBeCarriedSo_13 : decode cX11_wouldBeCarriedSo 13 = .ok (.aload_n 0, 1) := by decide +kernel
theorem dX11_wouldBeCarriedSo_14 : decode cX11_wouldBeCarriedSo 14 = .ok (.getfield 18, 3) := by decide +kernel
theorem dX11_wouldBeCarriedSo_17 : decode cX11_wouldBeCarriedSo 17 = .ok (.aload_n 1, 1) := by decide +kernel
theorem dX11_wouldBeCarriedSo_18 : decode cX11_wouldBeCarriedSo 18 = .ok (.getfield 191, 3) := by decide +kernel
theorem dX11_wouldBeCarriedSo_21 : decode cX11_wouldBeCarriedSo 21 = .ok (.aaload, 1) := by decide +kernel
theorem dX11_wouldBeCarriedSo_22 : decode cX11_wouldBeCarriedSo 22 = .ok (.aload_n 1, 1) := by decide +kernel
theorem dX11_wouldBeCarriedSo_23 : decode cX11_wouldBeCarriedSo 23 = .ok (.getfield 147, 3) := by decide +kernel
theorem dX11_wouldBeCarriedSo_26 : decode cX11_wouldBeCarriedSo 26 = .ok (.aload_n 0, 1) := by decide +kernel
theorem dX11_wouldBeCarriedSo_27 : decode cX11_wouldBeCarriedSo 27 = .ok (.getfield 30, 3) := by decide +kernel
theorem dX11_wouldBeCarriedSo_30 : decode cX11_wouldBeCarriedSo 30 = .ok (.invokevirtual 178, 3) := by decide +kernel
theorem dX11_wouldBeCarriedSo_33 : decode cX11_wouldBeCarriedSo 33 = .ok (.ifCond .eq 18, 3) := by decide +kernel
theorem dX11_wouldBeCarriedSo_36 : decode cX11_wouldBeCarriedSo 36 = .ok (.aload_n 0, 1) := by decide +kernel
theorem dX11_wouldBeCarriedSo_37 : decode cX11_wouldBeCarriedSo 37 = .ok (.getfield 30, 3) := by decide +kernel
theorem dX11_wouldBeCarriedSo_40 : decode cX11_wouldBeCarriedSo 40 = .ok (.aload_n 1, 1) := by decide +kernel
theorem dX11_wouldBeCarriedSo_41 : decode cX11_wouldBeCarriedSo 41 = .ok (.invokevirtual 508, 3) := by decide +kernel
theorem dX11_wouldBeCarriedSo_44 : decode cX11_wouldBeCarriedSo 44 = .ok (.ifCond .eq 7, 3) := by decide +kernel
theorem dX11_wouldBeCarriedSo_47 : decode cX11_wouldBeCarriedSo 47 = .ok (.iconst 1, 1) := by decide +kernel
theorem dX11_wouldBeCarriedSo_48 : decode cX11_wouldBeCarriedSo 48 = .ok (.goto 4, 3) := by decide +kernel
theorem dX11_wouldBeCarriedSo_51 : decode cX11_wouldBeCarriedSo 51 = .ok (.iconst 0, 1) := by decide +kernel
theorem dX11_wouldBeCarriedSo_52 : decode cX11_wouldBeCarriedSo 52 = .ok (.ireturn, 1) := by decide +kernel
theorem dX11_settleEntry_0 : decode cX11_settleEntry 0 = .ok (.aload_n 2, 1) := by decide +kernel
theorem dX11_settleEntry_1 : decode cX11_settleEntry 1 = .ok (.getfield 428, 3) := by decide +kernel
theorem dX11_settleEntry_4 : decode cX11_settleEntry 4 = .ok (.ifCond .eq 27, 3) := by decide +kernel
theorem dX11_settleEntry_7 : decode cX11_settleEntry 7 = .ok (.aload_n 2, 1) := by decide +kernel
theorem dX11_settleEntry_8 : decode cX11_settleEntry 8 = .ok (.getfield 221, 3) := by decide +kernel
theorem dX11_settleEntry_11 : decode cX11_settleEntry 11 = .ok (.aload_n 2, 1) := by decide +kernel
theorem dX11_settleEntry_12 : decode cX11_settleEntry 12 = .ok (.getfield 431, 3) := by decide +kernel
theorem dX11_settleEntry_15 : decode cX11_settleEntry 15 = .ok (.if_icmp .eq 16, 3) := by decide +kernel
theorem dX11_settleEntry_18 : decode cX11_settleEntry 18 = .ok (.aload_n 0, 1) := by decide +kernel
theorem dX11_settleEntry_19 : decode cX11_settleEntry 19 = .ok (.iload_n 1, 1) := by decide +kernel
theorem dX11_settleEntry_20 : decode cX11_settleEntry 20 = .ok (.aload_n 2, 1) := by decide +kernel
theorem dX11_settleEntry_21 : decode cX11_settleEntry 21 = .ok (.getfield 221, 3) := by decide +kernel
theorem dX11_settleEntry_24 : decode cX11_settleEntry 24 = .ok (.iconst 0, 1) := by decide +kernel
theorem dX11_settleEntry_25 : decode cX11_settleEntry 25 = .ok (.invokevirtual 511, 3) := by decide +kernel
theorem dX11_settleEntry_28 : decode cX11_settleEntry 28 = .ok (.goto 42, 3) := by decide +kernel
theorem dX11_settleEntry_31 : decode cX11_settleEntry 31 = .ok (.aload_n 2, 1) := by decide +kernel
theorem dX11_settleEntry_32 : decode cX11_settleEntry 32 = .ok (.getfield 428, 3) := by decide +kernel
theorem dX11_settleEntry_35 : decode cX11_settleEntry 35 = .ok (.ifCond .eq 35, 3) := by decide +kernel
theorem dX11_settleEntry_38 : decode cX11_settleEntry 38 = .ok (.aload_n 2, 1) := by decide +kernel
theorem dX11_settleEntry_39 : decode cX11_settleEntry 39 = .ok (.getfield 227, 3) := by decide +kernel
theorem dX11_settleEntry_42 : decode cX11_settleEntry 42 = .ok (.aload_n 2, 1) := by decide +kernel
theorem dX11_settleEntry_43 : decode cX11_settleEntry 43 = .ok (.getfield 434, 3) := by decide +kernel
theorem dX11_settleEntry_46 : decode cX11_settleEntry 46 = .ok (.invokevirtual 437, 3) := by decide +kernel
theorem dX11_settleEntry_49 : decode cX11_settleEntry 49 = .ok (.ifCond .ne 21, 3) := by decide +kernel
theorem dX11_settleEntry_52 : decode cX11_settleEntry 52 = .ok (.aload_n 0, 1) := by decide +kernel
theorem dX11_settleEntry_53 : decode cX11_settleEntry 53 = .ok (.iload_n 1, 1) := by decide +kernel
theorem dX11_settleEntry_54 : decode cX11_settleEntry 54 = .ok (.bipush 114, 2) := by decide +kernel
theorem dX11_settleEntry_56 : decode cX11_settleEntry 56 = .ok (.aload_n 2, 1) := by decide +kernel
theorem dX11_settleEntry_57 : decode cX11_settleEntry 57 = .ok (.getfield 227, 3) := by decide +kernel
theorem dX11_settleEntry_60 : decode cX11_settleEntry 60 = .ok (.aload_n 2, 1) := by decide +kernel
theorem dX11_settleEntry_61 : decode cX11_settleEntry 61 = .ok (.getfield 434, 3) := by decide +kernel
theorem dX11_settleEntry_64 : decode cX11_settleEntry 64 = .ok (.invokevirtual 515, 3) := by decide +kernel
theorem dX11_settleEntry_67 : decode cX11_settleEntry 67 = .ok (.invokevirtual 511, 3) := by decide +kernel
theorem dX11_settleEntry_70 : decode cX11_settleEntry 70 = .ok (.aload_n 2, 1) := by decide +kernel
theorem dX11_settleEntry_71 : decode cX11_settleEntry 71 = .ok (.iconst 1, 1) := by decide +kernel
theorem dX11_settleEntry_72 : decode cX11_settleEntry 72 = .ok (.putfield 428, 3) := by decide +kernel
theorem dX11_settleEntry_75 : decode cX11_settleEntry 75 = .ok (.aload_n 2, 1) := by decide +kernel
theorem dX11_settleEntry_76 : decode cX11_settleEntry 76 = .ok (.aload_n 2, 1) := by decide +kernel
theorem dX11_settleEntry_77 : decode cX11_settleEntry 77 = .ok (.getfield 221, 3) := by decide +kernel
theorem dX11_settleEntry_80 : decode cX11_settleEntry 80 = .ok (.putfield 431, 3) := by decide +kernel
theorem dX11_settleEntry_83 : decode cX11_settleEntry 83 = .ok (.aload_n 2, 1) := by decide +kernel
theorem dX11_settleEntry_84 : decode cX11_settleEntry 84 = .ok (.getfield 434, 3) := by decide +kernel
theorem dX11_settleEntry_87 : decode cX11_settleEntry 87 = .ok (.aload_n 2, 1) := by decide +kernel
theorem dX11_settleEntry_88 : decode cX11_settleEntry 88 = .ok (.getfield 227, 3) := by decide +kernel
theorem dX11_settleEntry_91 : decode cX11_settleEntry 91 = .ok (.invokevirtual 362, 3) := by decide +kernel
theorem dX11_settleEntry_94 : decode cX11_settleEntry 94 = .ok (.return_, 1) := by decide +kernel
theorem dX11_settleClaims_0 : decode cX11_settleClaims 0 = .ok (.iconst 0, 1) := by decide +kernel
theorem dX11_settleClaims_1 : decode cX11_settleClaims 1 = .ok (.istore_n 2, 1) := by decide +kernel
theorem dX11_settleClaims_2 : decode cX11_settleClaims 2 = .ok (.iconst 0, 1) := by decide +kernel
theorem dX11_settleClaims_3 : decode cX11_settleClaims 3 = .ok (.istore_n 3, 1) := by decide +kernel
theorem dX11_settleClaims_4 : decode cX11_settleClaims 4 = .ok (.iload_n 3, 1) := by decide +kernel
theorem dX11_settleClaims_5 : decode cX11_settleClaims 5 = .ok (.bipush 16, 2) := by decide +kernel
theorem dX11_settleClaims_7 : decode cX11_settleClaims 7 = .ok (.if_icmp .ge 91, 3) := by decide +kernel
theorem dX11_settleClaims_10 : decode cX11_settleClaims 10 = .ok (.iload_n 2, 1) := by decide +kernel
theorem dX11_settleClaims_11 : decode cX11_settleClaims 11 = .ok (.aload_n 0, 1) := by decide +kernel
theorem dX11_settleClaims_12 : decode cX11_settleClaims 12 = .ok (.getfield 395, 3) := by decide +kernel
theorem dX11_settleClaims_15 : decode cX11_settleClaims 15 = .ok (.if_icmp .ge 83, 3) := by decide +kernel
theorem dX11_settleClaims_18 : decode cX11_settleClaims 18 = .ok (.iconst 0, 1) := by decide +kernel
theorem dX11_settleClaims_19 : decode cX11_settleClaims 19 = .ok (.istore 4, 2) := by decide +kernel
theorem dX11_settleClaims_21 : decode cX11_settleClaims 21 = .ok (.aload_n 0, 1) := by decide +kernel
theorem dX11_settleClaims_22 : decode cX11_settleClaims 22 = .ok (.getfield 56, 3) := by decide +kernel
theorem dX11_settleClaims_25 : decode cX11_settleClaims 25 = .ok (.iload_n 2, 1) := by decide +kernel
theorem dX11_settleClaims_26 : decode cX11_settleClaims 26 = .ok (.aaload, 1) := by decide +kernel
theorem dX11_settleClaims_27 : decode cX11_settleClaims 27 = .ok (.getfield 406, 3) := by decide +kernel
theorem dX11_settleClaims_30 : decode cX11_settleClaims 30 = .ok (.iload_n 1, 1) := by decide +kernel
theorem dX11_settleClaims_31 : decode cX11_settleClaims 31 = .ok (.if_icmp .ne 36, 3) := by decide +kernel
theorem dX11_settleClaims_34 : decode cX11_settleClaims 34 = .ok (.aload_n 0, 1) := by decide +kernel
theorem dX11_settleClaims_35 : decode cX11_settleClaims 35 = .ok (.getfield 10, 3) := by decide +kernel
theorem dX11_settleClaims_38 : decode cX11_settleClaims 38 = .ok (.aload_n 0, 1) := by decide +kernel
theorem dX11_settleClaims_39 : decode cX11_settleClaims 39 = .ok (.getfield 18, 3) := by decide +kernel
theorem dX11_settleClaims_42 : decode cX11_settleClaims 42 = .ok (.iload_n 1, 1) := by decide +kernel
theorem dX11_settleClaims_43 : decode cX11_settleClaims 43 = .ok (.aaload, 1) := by decide +kernel
theorem dX11_settleClaims_44 : decode cX11_settleClaims 44 = .ok (.aload_n 0, 1) := by decide +kernel
theorem dX11_settleClaims_45 : decode cX11_settleClaims 45 = .ok (.getfield 56, 3) := by decide +kernel
theorem dX11_settleClaims_48 : decode cX11_settleClaims 48 = .ok (.iload_n 2, 1) := by decide +kernel
theorem dX11_settleClaims_49 : decode cX11_settleClaims 49 = .ok (.aaload, 1) := by decide +kernel
theorem dX11_settleClaims_50 : decode cX11_settleClaims 50 = .ok (.getfield 412, 3) := by decide +kernel
theorem dX11_settleClaims_53 : decode cX11_settleClaims 53 = .ok (.aload_n 0, 1) := by decide +kernel
theorem dX11_settleClaims_54 : decode cX11_settleClaims 54 = .ok (.getfield 56, 3) := by decide +kernel
theorem dX11_settleClaims_57 : decode cX11_settleClaims 57 = .ok (.iload_n 2, 1) := by decide +kernel
theorem dX11_settleClaims_58 : decode cX11_settleClaims 58 = .ok (.aaload, 1) := by decide +kernel
theorem dX11_settleClaims_59 : decode cX11_settleClaims 59 = .ok (.getfield 409, 3) := by decide +kernel
theorem dX11_settleClaims_62 : decode cX11_settleClaims 62 = .ok (.invokevirtual 382, 3) := by decide +kernel
theorem dX11_settleClaims_65 : decode cX11_settleClaims 65 = .ok (.istore 4, 2) := by decide +kernel
theorem dX11_settleClaims_67 : decode cX11_settleClaims 67 = .ok (.iload 4, 2) := by decide +kernel
theorem dX11_settleClaims_69 : decode cX11_settleClaims 69 = .ok (.ifCond .eq 20, 3) := by decide +kernel
theorem dX11_settleClaims_72 : decode cX11_settleClaims 72 = .ok (.aload_n 0, 1) := by decide +kernel
theorem dX11_settleClaims_73 : decode cX11_settleClaims 73 = .ok (.iload_n 1, 1) := by decide +kernel
theorem dX11_settleClaims_74 : decode cX11_settleClaims 74 = .ok (.bipush 99, 2) := by decide +kernel
theorem dX11_settleClaims_76 : decode cX11_settleClaims 76 = .ok (.iload 4, 2) := by decide +kernel
theorem dX11_settleClaims_78 : decode cX11_settleClaims 78 = .ok (.invokevirtual 511, 3) := by decide +kernel
theorem dX11_settleClaims_81 : decode cX11_settleClaims 81 = .ok (.aload_n 0, 1) := by decide +kernel
theorem dX11_settleClaims_82 : decode cX11_settleClaims 82 = .ok (.iload_n 2, 1) := by decide +kernel
theorem dX11_settleClaims_83 : decode cX11_settleClaims 83 = .ok (.invokevirtual 505, 3) := by decide +kernel
theorem dX11_settleClaims_86 : decode cX11_settleClaims 86 = .ok (.goto 6, 3) := by decide +kernel
theorem dX11_settleClaims_89 : decode cX11_settleClaims 89 = .ok (.iinc 2 1, 3) := by decide +kernel
theorem dX11_settleClaims_92 : decode cX11_settleClaims 92 = .ok (.iinc 3 1, 3) := by decide +kernel
theorem dX11_settleClaims_95 : decode cX11_settleClaims 95 = .ok (.goto (-91), 3) := by decide +kernel
theorem dX11_settleClaims_98 : decode cX11_settleClaims 98 = .ok (.return_, 1) := by decide +kernel
theorem dX11_addError_0 : decode cX11_addError 0 = .ok (.aload_n 0, 1) := by decide +kernel
theorem dX11_addError_1 : decode cX11_addError 1 = .ok (.getfield 415, 3) := by decide +kernel
theorem dX11_addError_4 : decode cX11_addError 4 = .ok (.sipush 8192, 3) := by decide +kernel
theorem dX11_addError_7 : decode cX11_addError 7 = .ok (.if_icmp .lt 4, 3) := by decide +kernel
theorem dX11_addError_10 : decode cX11_addError 10 = .ok (.return_, 1) := by decide +kernel
theorem dX11_addError_11 : decode cX11_addError 11 = .ok (.aload_n 0, 1) := by decide +kernel
theorem dX11_addError_12 : decode cX11_addError 12 = .ok (.getfield 415, 3) := by decide +kernel
theorem dX11_addError_15 : decode cX11_addError 15 = .ok (.iconst 4, 1) := by decide +kernel
theorem dX11_addError_16 : decode cX11_addError 16 = .ok (.imul, 1) := by decide +kernel
theorem dX11_addError_17 : decode cX11_addError 17 = .ok (.istore 4, 2) := by decide +kernel
theorem dX11_addError_19 : decode cX11_addError 19 = .ok (.iload 4, 2) := by decide +kernel
theorem dX11_addError_21 : decode cX11_addError 21 = .ok (.aload_n 0, 1) := by decide +kernel
theorem dX11_addError_22 : decode cX11_addError 22 = .ok (.getfield 60, 3) := by decide +kernel
theorem dX11_addError_25 : decode cX11_addError 25 = .ok (.arraylength, 1) := by decide +kernel
theorem dX11_addError_26 : decode cX11_addError 26 = .ok (.if_icmp .lt 21, 3) := by decide +kernel
theorem dX11_addError_29 : decode cX11_addError 29 = .ok (.aload_n 0, 1) := by decide +kernel
theorem dX11_addError_30 : decode cX11_addError 30 = .ok (.aload_n 0, 1) := by decide +kernel
theorem dX11_addError_31 : decode cX11_addError 31 = .ok (.getfield 60, 3) := by decide +kernel
theorem dX11_addError_34 : decode cX11_addError 34 = .ok (.iconst 2, 1) := by decide +kernel
theorem dX11_addError_35 : decode cX11_addError 35 = .ok (.aload_n 0, 1) := by decide +kernel
theorem dX11_addError_36 : decode cX11_addError 36 = .ok (.getfield 60, 3) := by decide +kernel
theorem dX11_addError_39 : decode cX11_addError 39 = .ok (.arraylength, 1) := by decide +kernel
theorem dX11_addError_40 : decode cX11_addError 40 = .ok (.imul, 1) := by decide +kernel
theorem dX11_addError_41 : decode cX11_addError 41 = .ok (.invokestatic 519, 3) := by decide +kernel
theorem dX11_addError_44 : decode cX11_addError 44 = .ok (.putfield 60, 3) := by decide +kernel
theorem dX11_addError_47 : decode cX11_addError 47 = .ok (.aload_n 0, 1) := by decide +kernel
theorem dX11_addError_48 : decode cX11_addError 48 = .ok (.getfield 60, 3) := by decide +kernel
theorem dX11_addError_51 : decode cX11_addError 51 = .ok (.iload 4, 2) := by decide +kernel
theorem dX11_addError_53 : decode cX11_addError 53 = .ok (.aload_n 0, 1) := by decide +kernel
theorem dX11_addError_54 : decode cX11_addError 54 = .ok (.getfield 418, 3) := by decide +kernel
theorem dX11_addError_57 : decode cX11_addError 57 = .ok (.iastore, 1) := by decide +kernel
theorem dX11_addError_58 : decode cX11_addError 58 = .ok (.aload_n 0, 1) := by decide +kernel
theorem dX11_addError_59 : decode cX11_addError 59 = .ok (.getfield 60, 3) := by decide +kernel
theorem dX11_addError_62 : decode cX11_addError 62 = .ok (.iload 4, 2) := by decide +kernel
theorem dX11_addError_64 : decode cX11_addError 64 = .ok (.iconst 1, 1) := by decide +kernel
theorem dX11_addError_65 : decode cX11_addError 65 = .ok (.iadd, 1) := by decide +kernel
theorem dX11_addError_66 : decode cX11_addError 66 = .ok (.iload_n 1, 1) := by decide +kernel
theorem dX11_addError_67 : decode cX11_addError 67 = .ok (.iastore, 1) := by decide +kernel
theorem dX11_addError_68 : decode cX11_addError 68 = .ok (.aload_n 0, 1) := by decide +kernel
theorem dX11_addError_69 : decode cX11_addError 69 = .ok (.getfield 60, 3) := by decide +kernel
theorem dX11_addError_72 : decode cX11_addError 72 = .ok (.iload 4, 2) := by decide +kernel
theorem dX11_addError_74 : decode cX11_addError 74 = .ok (.iconst 2, 1) := by decide +kernel
theorem dX11_addError_75 : decode cX11_addError 75 = .ok (.iadd, 1) := by decide +kernel
theorem dX11_addError_76 : decode cX11_addError 76 = .ok (.iload_n 2, 1) := by decide +kernel
theorem dX11_addError_77 : decode cX11_addError 77 = .ok (.iastore, 1) := by decide +kernel
theorem dX11_addError_78 : decode cX11_addError 78 = .ok (.aload_n 0, 1) := by decide +kernel
theorem dX11_addError_79 : decode cX11_addError 79 = .ok (.getfield 60, 3) := by decide +kernel
theorem dX11_addError_82 : decode cX11_addError 82 = .ok (.iload 4, 2) := by decide +kernel
theorem dX11_addError_84 : decode cX11_addError 84 = .ok (.iconst 3, 1) := by decide +kernel
theorem dX11_addError_85 : decode cX11_addError 85 = .ok (.iadd, 1) := by decide +kernel
theorem dX11_addError_86 : decode cX11_addError 86 = .ok (.iload_n 3, 1) := by decide +kernel
theorem dX11_addError_87 : decode cX11_addError 87 = .ok (.iastore, 1) := by decide +kernel
theorem dX11_addError_88 : decode cX11_addError 88 = .ok (.aload_n 0, 1) := by decide +kernel
theorem dX11_addError_89 : decode cX11_addError 89 = .ok (.dup, 1) := by decide +kernel
theorem dX11_addError_90 : decode cX11_addError 90 = .ok (.getfield 415, 3) := by decide +kernel
theorem dX11_addError_93 : decode cX11_addError 93 = .ok (.iconst 1, 1) := by decide +kernel
theorem dX11_addError_94 : decode cX11_addError 94 = .ok (.iadd, 1) := by decide +kernel
theorem dX11_addError_95 : decode cX11_addError 95 = .ok (.putfield 415, 3) := by decide +kernel
theorem dX11_addError_98 : decode cX11_addError 98 = .ok (.return_, 1) := by decide +kernel
theorem dX11_isSoundEntry_0 : decode cX11_isSoundEntry 0 = .ok (.aload_n 0, 1) := by decide +kernel
theorem dX11_isSoundEntry_1 : decode cX11_isSoundEntry 1 = .ok (.getfield 10, 3) := by decide +kernel
theorem dX11_isSoundEntry_4 : decode cX11_isSoundEntry 4 = .ok (.aload_n 1, 1) := by decide +kernel
theorem dX11_isSoundEntry_5 : decode cX11_isSoundEntry 5 = .ok (.aload_n 1, 1) := by decide +kernel
theorem dX11_isSoundEntry_6 : decode cX11_isSoundEntry 6 = .ok (.getfield 227, 3) := by decide +kernel
theorem dX11_isSoundEntry_9 : decode cX11_isSoundEntry 9 = .ok (.aload_n 1, 1) := by decide +kernel
theorem dX11_isSoundEntry_10 : decode cX11_isSoundEntry 10 = .ok (.getfield 221, 3) := by decide +kernel
theorem dX11_isSoundEntry_13 : decode cX11_isSoundEntry 13 = .ok (.bipush 121, 2) := by decide +kernel
theorem dX11_isSoundEntry_15 : decode cX11_isSoundEntry 15 = .ok (.if_icmp .ne 7, 3) := by decide +kernel
theorem dX11_isSoundEntry_18 : decode cX11_isSoundEntry 18 = .ok (.iconst 1, 1) := by decide +kernel
theorem dX11_isSoundEntry_19 : decode cX11_isSoundEntry 19 = .ok (.goto 4, 3) := by decide +kernel
theorem dX11_isSoundEntry_22 : decode cX11_isSoundEntry 22 = .ok (.iconst 0, 1) := by decide +kernel
theorem dX11_isSoundEntry_23 : decode cX11_isSoundEntry 23 = .ok (.invokevirtual 382, 3) := by decide +kernel
theorem dX11_isSoundEntry_26 : decode cX11_isSoundEntry 26 = .ok (.ifCond .eq 5, 3) := by decide +kernel
theorem dX11_isSoundEntry_29 : decode cX11_isSoundEntry 29 = .ok (.iconst 0, 1) := by decide +kernel
theorem dX11_isSoundEntry_30 : decode cX11_isSoundEntry 30 = .ok (.ireturn, 1) := by decide +kernel
theorem dX11_isSoundEntry_31 : decode cX11_isSoundEntry 31 = .ok (.aload_n 0, 1) := by decide +kernel
theorem dX11_isSoundEntry_32 : decode cX11_isSoundEntry 32 = .ok (.aload_n 1, 1) := by decide +kernel
theorem dX11_isSoundEntry_33 : decode cX11_isSoundEntry 33 = .ok (.invokevirtual 366, 3) := by decide +kernel
theorem dX11_isSoundEntry_36 : decode cX11_isSoundEntry 36 = .ok (.ifCond .eq 22, 3) := by decide +kernel
theorem dX11_isSoundEntry_39 : decode cX11_isSoundEntry 39 = .ok (.aload_n 0, 1) := by decide +kernel
theorem dX11_isSoundEntry_40 : decode cX11_isSoundEntry 40 = .ok (.getfield 18, 3) := by decide +kernel
theorem dX11_isSoundEntry_43 : decode cX11_isSoundEntry 43 = .ok (.aload_n 1, 1) := by decide +kernel
theorem dX11_isSoundEntry_44 : decode cX11_isSoundEntry 44 = .ok (.getfield 191, 3) := by decide +kernel
theorem dX11_isSoundEntry_47 : decode cX11_isSoundEntry 47 = .ok (.aaload, 1) := by decide +kernel
theorem dX11_isSoundEntry_48 : decode cX11_isSoundEntry 48 = .ok (.getfield 221, 3) := by decide +kernel
theorem dX11_isSoundEntry_51 : decode cX11_isSoundEntry 51 = .ok (.aload_n 1, 1) := by decide +kernel
theorem dX11_isSoundEntry_52 : decode cX11_isSoundEntry 52 = .ok (.getfield 221, 3) := by decide +kernel
theorem dX11_isSoundEntry_55 : decode cX11_isSoundEntry 55 = .ok (.if_icmp .ne 7, 3) := by decide +kernel
theorem dX11_isSoundEntry_58 : decode cX11_isSoundEntry 58 = .ok (.iconst 1, 1) := by decide +kernel
theorem dX11_isSoundEntry_59 : decode cX11_isSoundEntry 59 = .ok (.goto 4, 3) := by decide +kernel
theorem dX11_isSoundEntry_62 : decode cX11_isSoundEntry 62 = .ok (.iconst 0, 1) := by decide +kernel
theorem dX11_isSoundEntry_63 : decode cX11_isSoundEntry 63 = .ok (.ireturn, 1) := by decide +kernel
theorem dX11_isUnsoundClaim_0 : decode cX11_isUnsoundClaim 0 = .ok (.aload_n 0, 1) := by decide +kernel
theorem dX11_isUnsoundClaim_1 : decode cX11_isUnsoundClaim 1 = .ok (.getfield 18, 3) := by decide +kernel
theorem dX11_isUnsoundClaim_4 : decode cX11_isUnsoundClaim 4 = .ok (.aload_n 1, 1) := by decide +kernel
theorem dX11_isUnsoundClaim_5 : decode cX11_isUnsoundClaim 5 = .ok (.getfield 406, 3) := by decide +kernel
theorem dX11_isUnsoundClaim_8 : decode cX11_isUnsoundClaim 8 = .ok (.aaload, 1) := by decide +kernel
theorem dX11_isUnsoundClaim_9 : decode cX11_isUnsoundClaim 9 = .ok (.astore_n 2, 1) := by decide +kernel
theorem dX11_isUnsoundClaim_10 : decode cX11_isUnsoundClaim 10 = .ok (.aload_n 1, 1) := by decide +kernel
theorem dX11_isUnsoundClaim_11 : decode cX11_isUnsoundClaim 11 = .ok (.getfield 409, 3) := by decide +kernel
theorem dX11_isUnsoundClaim_14 : decode cX11_isUnsoundClaim 14 = .ok (.aload_n 2, 1) := by decide +kernel
theorem dX11_isUnsoundClaim_15 : decode cX11_isUnsoundClaim 15 = .ok (.getfield 221, 3) := by decide +kernel
theorem dX11_isUnsoundClaim_18 : decode cX11_isUnsoundClaim 18 = .ok (.bipush 121, 2) := by decide +kernel
theorem dX11_isUnsoundClaim_20 : decode cX11_isUnsoundClaim 20 = .ok (.if_icmp .ne 7, 3) := by decide +kernel
theorem dX11_isUnsoundClaim_23 : decode cX11_isUnsoundClaim 23 = .ok (.iconst 1, 1) := by decide +kernel
theorem dX11_isUnsoundClaim_24 : decode cX11_isUnsoundClaim 24 = .ok (.goto 4, 3) := by decide +kernel
theorem dX11_isUnsoundClaim_27 : decode cX11_isUnsoundClaim 27 = .ok (.iconst 0, 1) := by decide +kernel
theorem dX11_isUnsoundClaim_28 : decode cX11_isUnsoundClaim 28 = .ok (.if_icmp .eq 7, 3) := by decide +kernel
theorem dX11_isUnsoundClaim_31 : decode cX11_isUnsoundClaim 31 = .ok (.iconst 1, 1) := by decide +kernel
theorem dX11_isUnsoundClaim_32 : decode cX11_isUnsoundClaim 32 = .ok (.goto 4, 3) := by decide +kernel
theorem dX11_isUnsoundClaim_35 : decode cX11_isUnsoundClaim 35 = .ok (.iconst 0, 1) := by decide +kernel
theorem dX11_isUnsoundClaim_36 : decode cX11_isUnsoundClaim 36 = .ok (.istore_n 3, 1) := by decide +kernel
theorem dX11_isUnsoundClaim_37 : decode cX11_isUnsoundClaim 37 = .ok (.iload_n 3, 1) := by decide +kernel
theorem dX11_isUnsoundClaim_38 : decode cX11_isUnsoundClaim 38 = .ok (.ifCond .eq 26, 3) := by decide +kernel
theorem dX11_isUnsoundClaim_41 : decode cX11_isUnsoundClaim 41 = .ok (.aload_n 0, 1) := by decide +kernel
theorem dX11_isUnsoundClaim_42 : decode cX11_isUnsoundClaim 42 = .ok (.getfield 10, 3) := by decide +kernel
theorem dX11_isUnsoundClaim_45 : decode cX11_isUnsoundClaim 45 = .ok (.aload_n 2, 1) := by decide +kernel
theorem dX11_isUnsoundClaim_46 : decode cX11_isUnsoundClaim 46 = .ok (.aload_n 1, 1) := by decide +kernel
theorem dX11_isUnsoundClaim_47 : decode cX11_isUnsoundClaim 47 = .ok (.getfield 412, 3) := by decide +kernel
theorem dX11_isUnsoundClaim_50 : decode cX11_isUnsoundClaim 50 = .ok (.aload_n 1, 1) := by decide +kernel
theorem dX11_isUnsoundClaim_51 : decode cX11_isUnsoundClaim 51 = .ok (.getfield 409, 3) := by decide +kernel
theorem dX11_isUnsoundClaim_54 : decode cX11_isUnsoundClaim 54 = .ok (.invokevirtual 382, 3) := by decide +kernel
theorem dX11_isUnsoundClaim_57 : decode cX11_isUnsoundClaim 57 = .ok (.ifCond .ne 7, 3) := by decide +kernel
theorem dX11_isUnsoundClaim_60 : decode cX11_isUnsoundClaim 60 = .ok (.iconst 1, 1) := by decide +kernel
theorem dX11_isUnsoundClaim_61 : decode cX11_isUnsoundClaim 61 = .ok (.goto 4, 3) := by decide +kernel
theorem dX11_isUnsoundClaim_64 : decode cX11_isUnsoundClaim 64 = .ok (.iconst 0, 1) := by decide +kernel
theorem dX11_isUnsoundClaim_65 : decode cX11_isUnsoundClaim 65 = .ok (.ireturn, 1) := by decide +kernel
theorem dX11_has_0 : decode cX11_has 0 = .ok (.iload_n 0, 1) := by decide +kernel
theorem dX11_has_1 : decode cX11_has 1 = .ok (.iload_n 1, 1) := by decide +kernel
theorem dX11_has_2 : decode cX11_has 2 = .ok (.ishr, 1) := by decide +kernel
theorem dX11_has_3 : decode cX11_has 3 = .ok (.iconst 1, 1) := by decide +kernel
theorem dX11_has_4 : decode cX11_has 4 = .ok (.iand, 1) := by decide +kernel
theorem dX11_has_5 : decode cX11_has 5 = .ok (.ifCond .eq 7, 3) := by decide +kernel
theorem dX11_has_8 : decode cX11_has 8 = .ok (.iconst 1, 1) := by decide +kernel
theorem dX11_has_9 : decode cX11_has 9 = .ok (.goto 4, 3) := by decide +kernel
theorem dX11_has_12 : decode cX11_has 12 = .ok (.iconst 0, 1) := by decide +kernel
theorem dX11_has_13 : decode cX11_has 13 = .ok (.ireturn, 1) := by decide +kernel
theorem dX11_lowest_0 : decode cX11_lowest 0 = .ok (.iconst 0, 1) := by decide +kernel
theorem dX11_lowest_1 : decode cX11_lowest 1 = .ok (.istore_n 1, 1) := by decide +kernel
theorem dX11_lowest_2 : decode cX11_lowest 2 = .ok (.iload_n 1, 1) := by decide +kernel
theorem dX11_lowest_3 : decode cX11_lowest 3 = .ok (.bipush 31, 2) := by decide +kernel
theorem dX11_lowest_5 : decode cX11_lowest 5 = .ok (.if_icmp .ge 19, 3) := by decide +kernel
theorem dX11_lowest_8 : decode cX11_lowest 8 = .ok (.iload_n 0, 1) := by decide +kernel
theorem dX11_lowest_9 : decode cX11_lowest 9 = .ok (.iload_n 1, 1) := by decide +kernel
theorem dX11_lowest_10 : decode cX11_lowest 10 = .ok (.invokestatic 525, 3) := by decide +kernel
theorem dX11_lowest_13 : decode cX11_lowest 13 = .ok (.ifCond .eq 5, 3) := by decide +kernel
theorem dX11_lowest_16 : decode cX11_lowest 16 = .ok (.iload_n 1, 1) := by decide +kernel
theorem dX11_lowest_17 : decode cX11_lowest 17 = .ok (.ireturn, 1) := by decide +kernel
theorem dX11_lowest_18 : decode cX11_lowest 18 = .ok (.iinc 1 1, 3) := by decide +kernel
theorem dX11_lowest_21 : decode cX11_lowest 21 = .ok (.goto (-19), 3) := by decide +kernel
theorem dX11_lowest_24 : decode cX11_lowest 24 = .ok (.iconst (-1), 1) := by decide +kernel
theorem dX11_lowest_25 : decode cX11_lowest 25 = .ok (.ireturn, 1) := by decide +kernel
theorem dX11_hangingTogether_0 : decode cX11_hangingTogether 0 = .ok (.iconst 1, 1) := by decide +kernel
theorem dX11_hangingTogether_1 : decode cX11_hangingTogether 1 = .ok (.iload_n 1, 1) := by decide +kernel
theorem dX11_hangingTogether_2 : decode cX11_hangingTogether 2 = .ok (.ishl, 1) := by decide +kernel
theorem dX11_hangingTogether_3 : decode cX11_hangingTogether 3 = .ok (.istore_n 3, 1) := by decide +kernel
theorem dX11_hangingTogether_4 : decode cX11_hangingTogether 4 = .ok (.iconst 0, 1) := by decide +kernel
theorem dX11_hangingTogether_5 : decode cX11_hangingTogether 5 = .ok (.istore 4, 2) := by decide +kernel
theorem dX11_hangingTogether_7 : decode cX11_hangingTogether 7 = .ok (.iload 4, 2) := by decide +kernel
theorem dX11_hangingTogether_9 : decode cX11_hangingTogether 9 = .ok (.aload_n 0, 1) := by decide +kernel
theorem dX11_hangingTogether_10 : decode cX11_hangingTogether 10 = .ok (.arraylength, 1) := by decide +kernel
theorem dX11_hangingTogether_11 : decode cX11_hangingTogether 11 = .ok (.if_icmp .ge 51, 3) := by decide +kernel
theorem dX11_hangingTogether_14 : decode cX11_hangingTogether 14 = .ok (.iload_n 3, 1) := by decide +kernel
theorem dX11_hangingTogether_15 : decode cX11_hangingTogether 15 = .ok (.istore 5, 2) := by decide +kernel
theorem dX11_hangingTogether_17 : decode cX11_hangingTogether 17 = .ok (.iconst 0, 1) := by decide +kernel
theorem dX11_hangingTogether_18 : decode cX11_hangingTogether 18 = .ok (.istore 6, 2) := by decide +kernel
theorem dX11_hangingTogether_20 : decode cX11_hangingTogether 20 = .ok (.iload 6, 2) := by decide +kernel
theorem dX11_hangingTogether_22 : decode cX11_hangingTogether 22 = .ok (.aload_n 0, 1) := by decide +kernel
theorem dX11_hangingTogether_23 : decode cX11_hangingTogether 23 = .ok (.arraylength, 1) := by decide +kernel
theorem dX11_hangingTogether_24 : decode cX11_hangingTogether 24 = .ok (.if_icmp .ge 29, 3) := by decide +kernel
theorem dX11_hangingTogether_27 : decode cX11_hangingTogether 27 = .ok (.iload_n 3, 1) := by decide +kernel
theorem dX11_hangingTogether_28 : decode cX11_hangingTogether 28 = .ok (.iload 6, 2) := by decide +kernel
theorem dX11_hangingTogether_30 : decode cX11_hangingTogether 30 = .ok (.ishr, 1) := by decide +kernel
theorem dX11_hangingTogether_31 : decode cX11_hangingTogether 31 = .ok (.iconst 1, 1) := by decide +kernel
theorem dX11_hangingTogether_32 : decode cX11_hangingTogether 32 = .ok (.iand, 1) := by decide +kernel
theorem dX11_hangingTogether_33 : decode cX11_hangingTogether 33 = .ok (.ifCond .eq 14, 3) := by decide +kernel
theorem dX11_hangingTogether_36 : decode cX11_hangingTogether 36 = .ok (.iload 5, 2) := by decide +kernel
theorem dX11_hangingTogether_38 : decode cX11_hangingTogether 38 = .ok (.aload_n 0, 1) := by decide +kernel
theorem dX11_hangingTogether_39 : decode cX11_hangingTogether 39 = .ok (.iload 6, 2) := by decide +kernel
theorem dX11_hangingTogether_41 : decode cX11_hangingTogether 41 = .ok (.iaload, 1) := by decide +kernel
theorem dX11_hangingTogether_42 : decode cX11_hangingTogether 42 = .ok (.iload_n 2, 1) := by decide +kernel
theorem dX11_hangingTogether_43 : decode cX11_hangingTogether 43 = .ok (.iand, 1) := by decide +kernel
theorem dX11_hangingTogether_44 : decode cX11_hangingTogether 44 = .ok (.ior, 1) := by decide +kernel
theorem dX11_hangingTogether_45 : decode cX11_hangingTogether 45 = .ok (.istore 5, 2) := by decide +kernel
theorem dX11_hangingTogether_47 : decode cX11_hangingTogether 47 = .ok (.iinc 6 1, 3) := by decide +kernel
theorem dX11_hangingTogether_50 : decode cX11_hangingTogether 50 = .ok (.goto (-30), 3) := by decide +kernel
theorem dX11_hangingTogether_53 : decode cX11_hangingTogether 53 = .ok (.iload 5, 2) := by decide +kernel
theorem dX11_hangingTogether_55 : decode cX11_hangingTogether 55 = .ok (.istore_n 3, 1) := by decide +kernel
theorem dX11_hangingTogether_56 : decode cX11_hangingTogether 56 = .ok (.iinc 4 1, 3) := by decide +kernel
theorem dX11_hangingTogether_59 : decode cX11_hangingTogether 59 = .ok (.goto (-52), 3) := by decide +kernel
theorem dX11_hangingTogether_62 : decode cX11_hangingTogether 62 = .ok (.iload_n 3, 1) := by decide +kernel
theorem dX11_hangingTogether_63 : decode cX11_hangingTogether 63 = .ok (.ireturn, 1) := by decide +kernel
theorem dX11_divisorInCommon_0 : decode cX11_divisorInCommon 0 = .ok (.lload_n 0, 1) := by decide +kernel
theorem dX11_divisorInCommon_1 : decode cX11_divisorInCommon 1 = .ok (.invokestatic 528, 3) := by decide +kernel
theorem dX11_divisorInCommon_4 : decode cX11_divisorInCommon 4 = .ok (.lstore 4, 2) := by decide +kernel
theorem dX11_divisorInCommon_6 : decode cX11_divisorInCommon 6 = .ok (.lload_n 2, 1) := by decide +kernel
theorem dX11_divisorInCommon_7 : decode cX11_divisorInCommon 7 = .ok (.invokestatic 528, 3) := by decide +kernel
theorem dX11_divisorInCommon_10 : decode cX11_divisorInCommon 10 = .ok (.lstore 6, 2) := by decide +kernel
theorem dX11_divisorInCommon_12 : decode cX11_divisorInCommon 12 = .ok (.iconst 0, 1) := by decide +kernel
theorem dX11_divisorInCommon_13 : decode cX11_divisorInCommon 13 = .ok (.istore 8, 2) := by decide +kernel
theorem dX11_divisorInCommon_15 : decode cX11_divisorInCommon 15 = .ok (.iload 8, 2) := by decide +kernel
theorem dX11_divisorInCommon_17 : decode cX11_divisorInCommon 17 = .ok (.sipush 200, 3) := by decide +kernel
theorem dX11_divisorInCommon_20 : decode cX11_divisorInCommon 20 = .ok (.if_icmp .ge 31, 3) := by decide +kernel
theorem dX11_divisorInCommon_23 : decode cX11_divisorInCommon 23 = .ok (.lload 6, 2) := by decide +kernel
theorem dX11_divisorInCommon_25 : decode cX11_divisorInCommon 25 = .ok (.lconst 0, 1) := by decide +kernel
theorem dX11_divisorInCommon_26 : decode cX11_divisorInCommon 26 = .ok (.lcmp, 1) := by decide +kernel
theorem dX11_divisorInCommon_27 : decode cX11_divisorInCommon 27 = .ok (.ifCond .eq 24, 3) := by decide +kernel
theorem dX11_divisorInCommon_30 : decode cX11_divisorInCommon 30 = .ok (.lload 4, 2) := by decide +kernel
theorem dX11_divisorInCommon_32 : decode cX11_divisorInCommon 32 = .ok (.lload 6, 2) := by decide +kernel
theorem dX11_divisorInCommon_34 : decode cX11_divisorInCommon 34 = .ok (.lrem, 1) := by decide +kernel
theorem dX11_divisorInCommon_35 : decode cX11_divisorInCommon 35 = .ok (.lstore 9, 2) := by decide +kernel
theorem dX11_divisorInCommon_37 : decode cX11_divisorInCommon 37 = .ok (.lload 6, 2) := by decide +kernel
theorem dX11_divisorInCommon_39 : decode cX11_divisorInCommon 39 = .ok (.lstore 4, 2) := by decide +kernel
theorem dX11_divisorInCommon_41 : decode cX11_divisorInCommon 41 = .ok (.lload 9, 2) := by decide +kernel
theorem dX11_divisorInCommon_43 : decode cX11_divisorInCommon 43 = .ok (.lstore 6, 2) := by decide +kernel
theorem dX11_divisorInCommon_45 : decode cX11_divisorInCommon 45 = .ok (.iinc 8 1, 3) := by decide +kernel
theorem dX11_divisorInCommon_48 : decode cX11_divisorInCommon 48 = .ok (.goto (-33), 3) := by decide +kernel
theorem dX11_divisorInCommon_51 : decode cX11_divisorInCommon 51 = .ok (.lload 4, 2) := by decide +kernel
theorem dX11_divisorInCommon_53 : decode cX11_divisorInCommon 53 = .ok (.lreturn, 1) := by decide +kernel
theorem dX11_restOfPower_0 : decode cX11_restOfPower 0 = .ok (.iload_n 2, 1) := by decide +kernel
theorem dX11_restOfPower_1 : decode cX11_restOfPower 1 = .ok (.iconst 1, 1) := by decide +kernel
theorem dX11_restOfPower_2 : decode cX11_restOfPower 2 = .ok (.if_icmp .ge 5, 3) := by decide +kernel
theorem dX11_restOfPower_5 : decode cX11_restOfPower 5 = .ok (.iconst 0, 1) := by decide +kernel
theorem dX11_restOfPower_6 : decode cX11_restOfPower 6 = .ok (.ireturn, 1) := by decide +kernel
theorem dX11_restOfPower_7 : decode cX11_restOfPower 7 = .ok (.iconst 1, 1) := by decide +kernel
theorem dX11_restOfPower_8 : decode cX11_restOfPower 8 = .ok (.iload_n 2, 1) := by decide +kernel
theorem dX11_restOfPower_9 : decode cX11_restOfPower 9 = .ok (.irem, 1) := by decide +kernel
theorem dX11_restOfPower_10 : decode cX11_restOfPower 10 = .ok (.i2l, 1) := by decide +kernel
theorem dX11_restOfPower_11 : decode cX11_restOfPower 11 = .ok (.lstore_n 3, 1) := by decide +kernel
theorem dX11_restOfPower_12 : decode cX11_restOfPower 12 = .ok (.iload_n 0, 1) := by decide +kernel
theorem dX11_restOfPower_13 : decode cX11_restOfPower 13 = .ok (.iload_n 2, 1) := by decide +kernel
theorem dX11_restOfPower_14 : decode cX11_restOfPower 14 = .ok (.irem, 1) := by decide +kernel
theorem dX11_restOfPower_15 : decode cX11_restOfPower 15 = .ok (.i2l, 1) := by decide +kernel
theorem dX11_restOfPower_16 : decode cX11_restOfPower 16 = .ok (.lstore 5, 2) := by decide +kernel
theorem dX11_restOfPower_18 : decode cX11_restOfPower 18 = .ok (.iload_n 1, 1) := by decide +kernel
theorem dX11_restOfPower_19 : decode cX11_restOfPower 19 = .ok (.istore 7, 2) := by decide +kernel
theorem dX11_restOfPower_21 : decode cX11_restOfPower 21 = .ok (.iconst 0, 1) := by decide +kernel
theorem dX11_restOfPower_22 : decode cX11_restOfPower 22 = .ok (.istore 8, 2) := by decide +kernel
theorem dX11_restOfPower_24 : decode cX11_restOfPower 24 = .ok (.iload 8, 2) := by decide +kernel
theorem dX11_restOfPower_26 : decode cX11_restOfPower 26 = .ok (.bipush 31, 2) := by decide +kernel
theorem dX11_restOfPower_28 : decode cX11_restOfPower 28 = .ok (.if_icmp .ge 46, 3) := by decide +kernel
theorem dX11_restOfPower_31 : decode cX11_restOfPower 31 = .ok (.iload 7, 2) := by decide +kernel
theorem dX11_restOfPower_33 : decode cX11_restOfPower 33 = .ok (.ifCond .le 41, 3) := by decide +kernel
theorem dX11_restOfPower_36 : decode cX11_restOfPower 36 = .ok (.iload 7, 2) := by decide +kernel
theorem dX11_restOfPower_38 : decode cX11_restOfPower 38 = .ok (.iconst 1, 1) := by decide +kernel
theorem dX11_restOfPower_39 : decode cX11_restOfPower 39 = .ok (.iand, 1) := by decide +kernel
theorem dX11_restOfPower_40 : decode cX11_restOfPower 40 = .ok (.iconst 1, 1) := by decide +kernel
theorem dX11_restOfPower_41 : decode cX11_restOfPower 41 = .ok (.if_icmp .ne 11, 3) := by decide +kernel
theorem dX11_restOfPower_44 : decode cX11_restOfPower 44 = .ok (.lload_n 3, 1) := by decide +kernel
theorem dX11_restOfPower_45 : decode cX11_restOfPower 45 = .ok (.lload 5, 2) := by decide +kernel
theorem dX11_restOfPower_47 : decode cX11_restOfPower 47 = .ok (.lmul, 1) := by decide +kernel
theorem dX11_restOfPower_48 : decode cX11_restOfPower 48 = .ok (.iload_n 2, 1) := by decide +kernel
theorem dX11_restOfPower_49 : decode cX11_restOfPower 49 = .ok (.i2l, 1) := by decide +kernel
theorem dX11_restOfPower_50 : decode cX11_restOfPower 50 = .ok (.lrem, 1) := by decide +kernel
theorem dX11_restOfPower_51 : decode cX11_restOfPower 51 = .ok (.lstore_n 3, 1) := by decide +kernel
theorem dX11_restOfPower_52 : decode cX11_restOfPower 52 = .ok (.lload 5, 2) := by decide +kernel
theorem dX11_restOfPower_54 : decode cX11_restOfPower 54 = .ok (.lload 5, 2) := by decide +kernel
theorem dX11_restOfPower_56 : decode cX11_restOfPower 56 = .ok (.lmul, 1) := by decide +kernel
theorem dX11_restOfPower_57 : decode cX11_restOfPower 57 = .ok (.iload_n 2, 1) := by decide +kernel
theorem dX11_restOfPower_58 : decode cX11_restOfPower 58 = .ok (.i2l, 1) := by decide +kernel
theorem dX11_restOfPower_59 : decode cX11_restOfPower 59 = .ok (.lrem, 1) := by decide +kernel
theorem dX11_restOfPower_60 : decode cX11_restOfPower 60 = .ok (.lstore 5, 2) := by decide +kernel
theorem dX11_restOfPower_62 : decode cX11_restOfPower 62 = .ok (.iload 7, 2) := by decide +kernel
theorem dX11_restOfPower_64 : decode cX11_restOfPower 64 = .ok (.iconst 1, 1) := by decide +kernel
theorem dX11_restOfPower_65 : decode cX11_restOfPower 65 = .ok (.ishr, 1) := by decide +kernel
theorem dX11_restOfPower_66 : decode cX11_restOfPower 66 = .ok (.istore 7, 2) := by decide +kernel
theorem dX11_restOfPower_68 : decode cX11_restOfPower 68 = .ok (.iinc 8 1, 3) := by decide +kernel
theorem dX11_restOfPower_71 : decode cX11_restOfPower 71 = .ok (.goto (-47), 3) := by decide +kernel
theorem dX11_restOfPower_74 : decode cX11_restOfPower 74 = .ok (.lload_n 3, 1) := by decide +kernel
theorem dX11_restOfPower_75 : decode cX11_restOfPower 75 = .ok (.l2i, 1) := by decide +kernel
theorem dX11_restOfPower_76 : decode cX11_restOfPower 76 = .ok (.ireturn, 1) := by decide +kernel
