theorem dX4_init_0 : decode cX4_init 0 = .ok (.aload_n 0, 1) := by decide +kernel
theorem dX4_init_1 : decode cX4_init 1 = .ok (.invokespecial 3, 3) := by decide +kernel
theorem dX4_init_4 : decode cX4_init 4 = .ok (.aload_n 0, 1) := by decide +kernel
theorem dX4_init_5 : decode cX4_init 5 = .ok (.new 9, 3) := by decide +kernel
theorem dX4_init_8 : decode cX4_init 8 = .ok (.dup, 1) := by decide +kernel
theorem dX4_init_9 : decode cX4_init 9 = .ok (.invokespecial 11, 3) := by decide +kernel
theorem dX4_init_12 : decode cX4_init 12 = .ok (.putfield 12, 3) := by decide +kernel
theorem dX4_init_15 : decode cX4_init 15 = .ok (.aload_n 0, 1) := by decide +kernel
theorem dX4_init_16 : decode cX4_init 16 = .ok (.new 18, 3) := by decide +kernel
theorem dX4_init_19 : decode cX4_init 19 = .ok (.dup, 1) := by decide +kernel
theorem dX4_init_20 : decode cX4_init 20 = .ok (.invokespecial 20, 3) := by decide +kernel
theorem dX4_init_23 : decode cX4_init 23 = .ok (.putfield 21, 3) := by decide +kernel
theorem dX4_init_26 : decode cX4_init 26 = .ok (.aload_n 0, 1) := by decide +kernel
theorem dX4_init_27 : decode cX4_init 27 = .ok (.new 25, 3) := by decide +kernel
theorem dX4_init_30 : decode cX4_init 30 = .ok (.dup, 1) := by decide +kernel
theorem dX4_init_31 : decode cX4_init 31 = .ok (.invokespecial 27, 3) := by decide +kernel
theorem dX4_init_34 : decode cX4_init 34 = .ok (.putfield 28, 3) := by decide +kernel
theorem dX4_init_37 : decode cX4_init 37 = .ok (.aload_n 0, 1) := by decide +kernel
theorem dX4_init_38 : decode cX4_init 38 = .ok (.new 32, 3) := by decide +kernel
theorem dX4_init_41 : decode cX4_init 41 = .ok (.dup, 1) := by decide +kernel
theorem dX4_init_42 : decode cX4_init 42 = .ok (.invokespecial 34, 3) := by decide +kernel
theorem dX4_init_45 : decode cX4_init 45 = .ok (.putfield 35, 3) := by decide +kernel
theorem dX4_init_48 : decode cX4_init 48 = .ok (.aload_n 0, 1) := by decide +kernel
theorem dX4_init_49 : decode cX4_init 49 = .ok (.new 39, 3) := by decide +kernel
theorem dX4_init_52 : decode cX4_init 52 = .ok (.dup, 1) := by decide +kernel
theorem dX4_init_53 : decode cX4_init 53 = .ok (.invokespecial 41, 3) := by decide +kernel
theorem dX4_init_56 : decode cX4_init 56 = .ok (.putfield 42, 3) := by decide +kernel
theorem dX4_init_59 : decode cX4_init 59 = .ok (.aload_n 0, 1) := by decide +kernel
theorem dX4_init_60 : decode cX4_init 60 = .ok (.new 46, 3) := by decide +kernel
theorem dX4_init_63 : decode cX4_init 63 = .ok (.dup, 1) := by decide +kernel
theorem dX4_init_64 : decode cX4_init 64 = .ok (.invokespecial 48, 3) := by decide +kernel
theorem dX4_init_67 : decode cX4_init 67 = .ok (.putfield 49, 3) := by decide +kernel
theorem dX4_init_70 : decode cX4_init 70 = .ok (.aload_n 0, 1) := by decide +kernel
theorem dX4_init_71 : decode cX4_init 71 = .ok (.new 53, 3) := by decide +kernel
theorem dX4_init_74 : decode cX4_init 74 = .ok (.dup, 1) := by decide +kernel
theorem dX4_init_75 : decode cX4_init 75 = .ok (.invokespecial 55, 3) := by decide +kernel
theorem dX4_init_78 : decode cX4_init 78 = .ok (.putfield 56, 3) := by decide +kernel
theorem dX4_init_81 : decode cX4_init 81 = .ok (.aload_n 0, 1) := by decide +kernel
theorem dX4_init_82 : decode cX4_init 82 = .ok (.bipush 9, 2) := by decide +kernel
theorem dX4_init_84 : decode cX4_init 84 = .ok (.newarray .int, 2) := by decide +kernel
theorem dX4_init_86 : decode cX4_init 86 = .ok (.putfield 60, 3) := by decide +kernel
theorem dX4_init_89 : decode cX4_init 89 = .ok (.return_, 1) := by decide +kernel
theorem dX4_solve_0 : decode cX4_solve 0 = .ok (.aload_n 1, 1) := by decide +kernel
theorem dX4_solve_1 : decode cX4_solve 1 = .ok (.getfield 64, 3) := by decide +kernel
theorem dX4_solve_4 : decode cX4_solve 4 = .ok (.invokevirtual 70, 3) := by decide +kernel
theorem dX4_solve_7 : decode cX4_solve 7 = .ok (.aload_n 1, 1) := by decide +kernel
theorem dX4_solve_8 : decode cX4_solve 8 = .ok (.getfield 75, 3) := by decide +kernel
theorem dX4_solve_11 : decode cX4_solve 11 = .ok (.tableswitch 178 0 10 #[57, 68, 79, 90, 101, 112, 123, 134, 145, 156, 167], 57) := by decide +kernel
theorem dX4_solve_68 : decode cX4_solve 68 = .ok (.aload_n 0, 1) := by decide +kernel
theorem dX4_solve_69 : decode cX4_solve 69 = .ok (.getfield 12, 3) := by decide +kernel
theorem dX4_solve_72 : decode cX4_solve 72 = .ok (.aload_n 1, 1) := by decide +kernel
theorem dX4_solve_73 : decode cX4_solve 73 = .ok (.invokevirtual 79, 3) := by decide +kernel
theorem dX4_solve_76 : decode cX4_solve 76 = .ok (.goto 121, 3) := by decide +kernel
theorem dX4_solve_79 : decode cX4_solve 79 = .ok (.aload_n 0, 1) := by decide +kernel
theorem dX4_solve_80 : decode cX4_solve 80 = .ok (.getfield 12, 3) := by decide +kernel
theorem dX4_solve_83 : decode cX4_solve 83 = .ok (.aload_n 1, 1) := by decide +kernel
theorem dX4_solve_84 : decode cX4_solve 84 = .ok (.invokevirtual 83, 3) := by decide +kernel
theorem dX4_solve_87 : decode cX4_solve 87 = .ok (.goto 110, 3) := by decide +kernel
theorem dX4_solve_90 : decode cX4_solve 90 = .ok (.aload_n 0, 1) := by decide +kernel
theorem dX4_solve_91 : decode cX4_solve 91 = .ok (.getfield 21, 3) := by decide +kernel
theorem dX4_solve_94 : decode cX4_solve 94 = .ok (.aload_n 1, 1) := by decide +kernel
theorem dX4_solve_95 : decode cX4_solve 95 = .ok (.invokevirtual 86, 3) := by decide +kernel
theorem dX4_solve_98 : decode cX4_solve 98 = .ok (.goto 99, 3) := by decide +kernel
theorem dX4_solve_101 : decode cX4_solve 101 = .ok (.aload_n 0, 1) := by decide +kernel
theorem dX4_solve_102 : decode cX4_solve 102 = .ok (.getfield 28, 3) := by decide +kernel
theorem dX4_solve_105 : decode cX4_solve 105 = .ok (.aload_n 1, 1) := by decide +kernel
theorem dX4_solve_106 : decode cX4_solve 106 = .ok (.invokevirtual 89, 3) := by decide +kernel
theorem dX4_solve_109 : decode cX4_solve 109 = .ok (.goto 88, 3) := by decide +kernel
theorem dX4_solve_112 : decode cX4_solve 112 = .ok (.aload_n 0, 1) := by decide +kernel
theorem dX4_solve_113 : decode cX4_solve 113 = .ok (.getfield 35, 3) := by decide +kernel
theorem dX4_solve_116 : decode cX4_solve 116 = .ok (.aload_n 1, 1) := by decide +kernel
theorem dX4_solve_117 : decode cX4_solve 117 = .ok (.invokevirtual 90, 3) := by decide +kernel
theorem dX4_solve_120 : decode cX4_solve 120 = .ok (.goto 77, 3) := by decide +kernel
theorem dX4_solve_123 : decode cX4_solve 123 = .ok (.aload_n 0, 1) := by decide +kernel
theorem dX4_solve_124 : decode cX4_solve 124 = .ok (.getfield 42, 3) := by decide +kernel
theorem dX4_solve_127 : decode cX4_solve 127 = .ok (.aload_n 1, 1) := by decide +kernel
theorem dX4_solve_128 : decode cX4_solve 128 = .ok (.invokevirtual 91, 3) := by decide +kernel
theorem dX4_solve_131 : decode cX4_solve 131 = .ok (.goto 66, 3) := by decide +kernel
theorem dX4_solve_134 : decode cX4_solve 134 = .ok (.aload_n 0, 1) := by decide +kernel
theorem dX4_solve_135 : decode cX4_solve 135 = .ok (.getfield 42, 3) := by decide +kernel
theorem dX4_solve_138 : decode cX4_solve 138 = .ok (.aload_n 1, 1) := by decide +kernel
theorem dX4_solve_139 : decode cX4_solve 139 = .ok (.invokevirtual 94, 3) := by decide +kernel
theorem dX4_solve_142 : decode cX4_solve 142 = .ok (.goto 55, 3) := by decide +kernel
theorem dX4_solve_145 : decode cX4_solve 145 = .ok (.aload_n 0, 1) := by decide +kernel
theorem dX4_solve_146 : decode cX4_solve 146 = .ok (.getfield 42, 3) := by decide +kernel
theorem dX4_solve_149 : decode cX4_solve 149 = .ok (.aload_n 1, 1) := by decide +kernel
theorem dX4_solve_150 : decode cX4_solve 150 = .ok (.invokevirtual 97, 3) := by decide +kernel
theorem dX4_solve_153 : decode cX4_solve 153 = .ok (.goto 44, 3) := by decide +kernel
theorem dX4_solve_156 : decode cX4_solve 156 = .ok (.aload_n 0, 1) := by decide +kernel
theorem dX4_solve_157 : decode cX4_solve 157 = .ok (.getfield 49, 3) := by decide +kernel
theorem dX4_solve_160 : decode cX4_solve 160 = .ok (.aload_n 1, 1) := by decide +kernel
theorem dX4_solve_161 : decode cX4_solve 161 = .ok (.invokevirtual 100, 3) := by decide +kernel
theorem dX4_solve_164 : decode cX4_solve 164 = .ok (.goto 33, 3) := by decide +kernel
theorem dX4_solve_167 : decode cX4_solve 167 = .ok (.aload_n 0, 1) := by decide +kernel
theorem dX4_solve_168 : decode cX4_solve 168 = .ok (.getfield 49, 3) := by decide +kernel
theorem dX4_solve_171 : decode cX4_solve 171 = .ok (.aload_n 1, 1) := by decide +kernel
theorem dX4_solve_172 : decode cX4_solve 172 = .ok (.invokevirtual 103, 3) := by decide +kernel
theorem dX4_solve_175 : decode cX4_solve 175 = .ok (.goto 22, 3) := by decide +kernel
theorem dX4_solve_178 : decode cX4_solve 178 = .ok (.aload_n 0, 1) := by decide +kernel
theorem dX4_solve_179 : decode cX4_solve 179 = .ok (.getfield 56, 3) := by decide +kernel
theorem dX4_solve_182 : decode cX4_solve 182 = .ok (.aload_n 1, 1) := by decide +kernel
theorem dX4_solve_183 : decode cX4_solve 183 = .ok (.invokevirtual 106, 3) := by decide +kernel
theorem dX4_solve_186 : decode cX4_solve 186 = .ok (.goto 11, 3) := by decide +kernel
theorem dX4_solve_189 : decode cX4_solve 189 = .ok (.aload_n 0, 1) := by decide +kernel
theorem dX4_solve_190 : decode cX4_solve 190 = .ok (.getfield 56, 3) := by decide +kernel
theorem dX4_solve_193 : decode cX4_solve 193 = .ok (.aload_n 1, 1) := by decide +kernel
theorem dX4_solve_194 : decode cX4_solve 194 = .ok (.invokevirtual 109, 3) := by decide +kernel
theorem dX4_solve_197 : decode cX4_solve 197 = .ok (.aload_n 1, 1) := by decide +kernel
theorem dX4_solve_198 : decode cX4_solve 198 = .ok (.iconst 1, 1) := by decide +kernel
theorem dX4_solve_199 : decode cX4_solve 199 = .ok (.putfield 112, 3) := by decide +kernel
theorem dX4_solve_202 : decode cX4_solve 202 = .ok (.aload_n 1, 1) := by decide +kernel
theorem dX4_solve_203 : decode cX4_solve 203 = .ok (.aload_n 1, 1) := by decide +kernel
theorem dX4_solve_204 : decode cX4_solve 204 = .ok (.getfield 116, 3) := by decide +kernel
theorem dX4_solve_207 : decode cX4_solve 207 = .ok (.putfield 119, 3) := by decide +kernel
theorem dX4_solve_210 : decode cX4_solve 210 = .ok (.return_, 1) := by decide +kernel
theorem dX4_judge_0 : decode cX4_judge 0 = .ok (.aload_n 1, 1) := by decide +kernel
theorem dX4_judge_1 : decode cX4_judge 1 = .ok (.getfield 75, 3) := by decide +kernel
theorem dX4_judge_4 : decode cX4_judge 4 = .ok (.tableswitch 346 0 10 #[60, 86, 112, 138, 164, 190, 216, 242, 268, 294, 320], 60) := by decide +kernel
theorem dX4_judge_64 : decode cX4_judge 64 = .ok (.iload_n 3, 1) := by decide +kernel
theorem dX4_judge_65 : decode cX4_judge 65 = .ok (.ifCond .eq 15, 3) := by decide +kernel
theorem dX4_judge_68 : decode cX4_judge 68 = .ok (.aload_n 0, 1) := by decide +kernel
theorem dX4_judge_69 : decode cX4_judge 69 = .ok (.getfield 12, 3) := by decide +kernel
theorem dX4_judge_72 : decode cX4_judge 72 = .ok (.aload_n 1, 1) := by decide +kernel
theorem dX4_judge_73 : decode cX4_judge 73 = .ok (.aload_n 2, 1) := by decide +kernel
theorem dX4_judge_74 : decode cX4_judge 74 = .ok (.invokevirtual 122, 3) := by decide +kernel
theorem dX4_judge_77 : decode cX4_judge 77 = .ok (.goto 12, 3) := by decide +kernel
theorem dX4_judge_80 : decode cX4_judge 80 = .ok (.aload_n 0, 1) := by decide +kernel
theorem dX4_judge_81 : decode cX4_judge 81 = .ok (.getfield 12, 3) := by decide +kernel
theorem dX4_judge_84 : decode cX4_judge 84 = .ok (.aload_n 1, 1) := by decide +kernel
theorem dX4_judge_85 : decode cX4_judge 85 = .ok (.aload_n 2, 1) := by decide +kernel
theorem dX4_judge_86 : decode cX4_judge 86 = .ok (.invokevirtual 126, 3) := by decide +kernel
theorem dX4_judge_89 : decode cX4_judge 89 = .ok (.ireturn, 1) := by decide +kernel
theorem dX4_judge_90 : decode cX4_judge 90 = .ok (.iload_n 3, 1) := by decide +kernel
theorem dX4_judge_91 : decode cX4_judge 91 = .ok (.ifCond .eq 15, 3) := by decide +kernel
theorem dX4_judge_94 : decode cX4_judge 94 = .ok (.aload_n 0, 1) := by decide +kernel
theorem dX4_judge_95 : decode cX4_judge 95 = .ok (.getfield 12, 3) := by decide +kernel
theorem dX4_judge_98 : decode cX4_judge 98 = .ok (.aload_n 1, 1) := by decide +kernel
theorem dX4_judge_99 : decode cX4_judge 99 = .ok (.aload_n 2, 1) := by decide +kernel
theorem dX4_judge_100 : decode cX4_judge 100 = .ok (.invokevirtual 129, 3) := by decide +kernel
theorem dX4_judge_103 : decode cX4_judge 103 = .ok (.goto 12, 3) := by decide +kernel
theorem dX4_judge_106 : decode cX4_judge 106 = .ok (.aload_n 0, 1) := by decide +kernel
theorem dX4_judge_107 : decode cX4_judge 107 = .ok (.getfield 12, 3) := by decide +kernel
theorem dX4_judge_110 : decode cX4_judge 110 = .ok (.aload_n 1, 1) := by decide +kernel
theorem dX4_judge_111 : decode cX4_judge 111 = .ok (.aload_n 2, 1) := by decide +kernel
theorem dX4_judge_112 : decode cX4_judge 112 = .ok (.invokevirtual 132, 3) := by decide +kernel
theorem dX4_judge_115 : decode cX4_judge 115 = .ok (.ireturn, 1) := by decide +kernel
theorem dX4_judge_116 : decode cX4_judge 116 = .ok (.iload_n 3, 1) := by decide +kernel
theorem dX4_judge_117 : decode cX4_judge 117 = .ok (.ifCond .eq 15, 3) := by decide +kernel
theorem dX4_judge_120 : decode cX4_judge 120 = .ok (.aload_n 0, 1) := by decide +kernel
theorem dX4_judge_121 : decode cX4_judge 121 = .ok (.getfield 21, 3) := by decide +kernel
theorem dX4_judge_124 : decode cX4_judge 124 = .ok (.aload_n 1, 1) := by decide +kernel
theorem dX4_judge_125 : decode cX4_judge 125 = .ok (.aload_n 2, 1) := by decide +kernel
theorem dX4_judge_126 : decode cX4_judge 126 = .ok (.invokevirtual 135, 3) := by decide +kernel
theorem dX4_judge_129 : decode cX4_judge 129 = .ok (.goto 12, 3) := by decide +kernel
theorem dX4_judge_132 : decode cX4_judge 132 = .ok (.aload_n 0, 1) := by decide +kernel
theorem dX4_judge_133 : decode cX4_judge 133 = .ok (.getfield 21, 3) := by decide +kernel
theorem dX4_judge_136 : decode cX4_judge 136 = .ok (.aload_n 1, 1) := by decide +kernel
theorem dX4_judge_137 : decode cX4_judge 137 = .ok (.aload_n 2, 1) := by decide +kernel
theorem dX4_judge_138 : decode cX4_judge 138 = .ok (.invokevirtual 138, 3) := by decide +kernel
theorem dX4_judge_141 : decode cX4_judge 141 = .ok (.ireturn, 1) := by decide +kernel
theorem dX4_judge_142 : decode cX4_judge 142 = .ok (.iload_n 3, 1) := by decide +kernel
theorem dX4_judge_143 : decode cX4_judge 143 = .ok (.ifCond .eq 15, 3) := by decide +kernel
theorem dX4_judge_146 : decode cX4_judge 146 = .ok (.aload_n 0, 1) := by decide +kernel
theorem dX4_judge_147 : decode cX4_judge 147 = .ok (.getfield 28, 3) := by decide +kernel
theorem dX4_judge_150 : decode cX4_judge 150 = .ok (.aload_n 1, 1) := by decide +kernel
theorem dX4_judge_151 : decode cX4_judge 151 = .ok (.aload_n 2, 1) := by decide +kernel
theorem dX4_judge_152 : decode cX4_judge 152 = .ok (.invokevirtual 141, 3) := by decide +kernel
theorem dX4_judge_155 : decode cX4_judge 155 = .ok (.goto 12, 3) := by decide +kernel
theorem dX4_judge_158 : decode cX4_judge 158 = .ok (.aload_n 0, 1) := by decide +kernel
theorem dX4_judge_159 : decode cX4_judge 159 = .ok (.getfield 28, 3) := by decide +kernel
theorem dX4_judge_162 : decode cX4_judge 162 = .ok (.aload_n 1, 1) := by decide +kernel
theorem dX4_judge_163 : decode cX4_judge 163 = .ok (.aload_n 2, 1) := by decide +kernel
theorem dX4_judge_164 : decode cX4_judge 164 = .ok (.invokevirtual 144, 3) := by decide +kernel
theorem dX4_judge_167 : decode cX4_judge 167 = .ok (.ireturn, 1) := by decide +kernel
theorem dX4_judge_168 : decode cX4_judge 168 = .ok (.iload_n 3, 1) := by decide +kernel
theorem dX4_judge_169 : decode cX4_judge 169 = .ok (.ifCond .eq 15, 3) := by decide +kernel
theorem dX4_judge_172 : decode cX4_judge 172 = .ok (.aload_n 0, 1) := by decide +kernel
theorem dX4_judge_173 : decode cX4_judge 173 = .ok (.getfield 35, 3) := by decide +kernel
theorem dX4_judge_176 : decode cX4_judge 176 = .ok (.aload_n 1, 1) := by decide +kernel
theorem dX4_judge_177 : decode cX4_judge 177 = .ok (.aload_n 2, 1) := by decide +kernel
theorem dX4_judge_178 : decode cX4_judge 178 = .ok (.invokevirtual 147, 3) := by decide +kernel
theorem dX4_judge_181 : decode cX4_judge 181 = .ok (.goto 12, 3) := by decide +kernel
theorem dX4_judge_184 : decode cX4_judge 184 = .ok (.aload_n 0, 1) := by decide +kernel
theorem dX4_judge_185 : decode cX4_judge 185 = .ok (.getfield 35, 3) := by decide +kernel
theorem dX4_judge_188 : decode cX4_judge 188 = .ok (.aload_n 1, 1) := by decide +kernel
theorem dX4_judge_189 : decode cX4_judge 189 = .ok (.aload_n 2, 1) := by decide +kernel
theorem dX4_judge_190 : decode cX4_judge 190 = .ok (.invokevirtual 150, 3) := by decide +kernel
theorem dX4_judge_193 : decode cX4_judge 193 = .ok (.ireturn, 1) := by decide +kernel
theorem dX4_judge_194 : decode cX4_judge 194 = .ok (.iload_n 3, 1) := by decide +kernel
theorem dX4_judge_195 : decode cX4_judge 195 = .ok (.ifCond .eq 15, 3) := by decide +kernel
theorem dX4_judge_198 : decode cX4_judge 198 = .ok (.aload_n 0, 1) := by decide +kernel
theorem dX4_judge_199 : decode cX4_judge 199 = .ok (.getfield 42, 3) := by decide +kernel
theorem dX4_judge_202 : decode cX4_judge 202 = .ok (.aload_n 1, 1) := by decide +kernel
theorem dX4_judge_203 : decode cX4_judge 203 = .ok (.aload_n 2, 1) := by decide +kernel
theorem dX4_judge_204 : decode cX4_judge 204 = .ok (.invokevirtual 153, 3) := by decide +kernel
theorem dX4_judge_207 : decode cX4_judge 207 = .ok (.goto 12, 3) := by decide +kernel
theorem dX4_judge_210 : decode cX4_judge 210 = .ok (.aload_n 0, 1) := by decide +kernel
theorem dX4_judge_211 : decode cX4_judge 211 = .ok (.getfield 42, 3) := by decide +kernel
theorem dX4_judge_214 : decode cX4_judge 214 = .ok (.aload_n 1, 1) := by decide +kernel
theorem dX4_judge_215 : decode cX4_judge 215 = .ok (.aload_n 2, 1) := by decide +kernel
theorem dX4_judge_216 : decode cX4_judge 216 = .ok (.invokevirtual 154, 3) := by decide +kernel
theorem dX4_judge_219 : decode cX4_judge 219 = .ok (.ireturn, 1) := by decide +kernel
theorem dX4_judge_220 : decode cX4_judge 220 = .ok (.iload_n 3, 1) := by decide +kernel
theorem dX4_judge_221 : decode cX4_judge 221 = .ok (.ifCond .eq 15, 3) := by decide +kernel
theorem dX4_judge_224 : decode cX4_judge 224 = .ok (.aload_n 0, 1) := by decide +kernel
theorem dX4_judge_225 : decode cX4_judge 225 = .ok (.getfield 42, 3) := by decide +kernel
theorem dX4_judge_228 : decode cX4_judge 228 = .ok (.aload_n 1, 1) := by decide +kernel
theorem dX4_judge_229 : decode cX4_judge 229 = .ok (.aload_n 2, 1) := by decide +kernel
theorem dX4_judge_230 : decode cX4_judge 230 = .ok (.invokevirtual 157, 3) := by decide +kernel
theorem dX4_judge_233 : decode cX4_judge 233 = .ok (.goto 12, 3) := by decide +kernel
theorem dX4_judge_236 : decode cX4_judge 236 = .ok (.aload_n 0, 1) := by decide +kernel
theorem dX4_judge_237 : decode cX4_judge 237 = .ok (.getfield 42, 3) := by decide +kernel
theorem dX4_judge_240 : decode cX4_judge 240 = .ok (.aload_n 1, 1) := by decide +kernel
theorem dX4_judge_241 : decode cX4_judge 241 = .ok (.aload_n 2, 1) := by decide +kernel
theorem dX4_judge_242 : decode cX4_judge 242 = .ok (.invokevirtual 160, 3) := by decide +kernel
theorem dX4_judge_245 : decode cX4_judge 245 = .ok (.ireturn, 1) := by decide +kernel
theorem dX4_judge_246 : decode cX4_judge 246 = .ok (.iload_n 3, 1) := by decide +kernel
theorem dX4_judge_247 : decode cX4_judge 247 = .ok (.ifCond .eq 15, 3) := by decide +kernel
theorem dX4_judge_250 : decode cX4_judge 250 = .ok (.aload_n 0, 1) := by decide +kernel
theorem dX4_judge_251 : decode cX4_judge 251 = .ok (.getfield 42, 3) := by decide +kernel
theorem dX4_judge_254 : decode cX4_judge 254 = .ok (.aload_n 1, 1) := by decide +kernel
theorem dX4_judge_255 : decode cX4_judge 255 = .ok (.aload_n 2, 1) := by decide +kernel
theorem dX4_judge_256 : decode cX4_judge 256 = .ok (.invokevirtual 163, 3) := by decide +kernel
theorem dX4_judge_259 : decode cX4_judge 259 = .ok (.goto 12, 3) := by decide +kernel
theorem dX4_judge_262 : decode cX4_judge 262 = .ok (.aload_n 0, 1) := by decide +kernel
theorem dX4_judge_263 : decode cX4_judge 263 = .ok (.getfield 42, 3) := by decide +kernel
theorem dX4_judge_266 : decode cX4_judge 266 = .ok (.aload_n 1, 1) := by decide +kernel
theorem dX4_judge_267 : decode cX4_judge 267 = .ok (.aload_n 2, 1) := by decide +kernel
theorem dX4_judge_268 : decode cX4_judge 268 = .ok (.invokevirtual 166, 3) := by decide +kernel
theorem dX4_judge_271 : decode cX4_judge 271 = .ok (.ireturn, 1) := by decide +kernel
theorem dX4_judge_272 : decode cX4_judge 272 = .ok (.iload_n 3, 1) := by decide +kernel
theorem dX4_judge_273 : decode cX4_judge 273 = .ok (.ifCond .eq 15, 3) := by decide +kernel
theorem dX4_judge_276 : decode cX4_judge 276 = .ok (.aload_n 0, 1) := by decide +kernel
theorem dX4_judge_277 : decode cX4_judge 277 = .ok (.getfield 49, 3) := by decide +kernel
theorem dX4_judge_280 : decode cX4_judge 280 = .ok (.aload_n 1, 1) := by decide +kernel
theorem dX4_judge_281 : decode cX4_judge 281 = .ok (.aload_n 2, 1) := by decide +kernel
theorem dX4_judge_282 : decode cX4_judge 282 = .ok (.invokevirtual 169, 3) := by decide +kernel
theorem dX4_judge_285 : decode cX4_judge 285 = .ok (.goto 12, 3) := by decide +kernel
theorem dX4_judge_288 : decode cX4_judge 288 = .ok (.aload_n 0, 1) := by decide +kernel
theorem dX4_judge_289 : decode cX4_judge 289 = .ok (.getfield 49, 3) := by decide +kernel
theorem dX4_judge_292 : decode cX4_judge 292 = .ok (.aload_n 1, 1) := by decide +kernel
theorem dX4_judge_293 : decode cX4_judge 293 = .ok (.aload_n 2, 1) := by decide +kernel
theorem dX4_judge_294 : decode cX4_judge 294 = .ok (.invokevirtual 172, 3) := by decide +kernel
theorem dX4_judge_297 : decode cX4_judge 297 = .ok (.ireturn, 1) := by decide +kernel
theorem dX4_judge_298 : decode cX4_judge 298 = .ok (.iload_n 3, 1) := by decide +kernel
theorem dX4_judge_299 : decode cX4_judge 299 = .ok (.ifCond .eq 15, 3) := by decide +kernel
theorem dX4_judge_302 : decode cX4_judge 302 = .ok (.aload_n 0, 1) := by decide +kernel
theorem dX4_judge_303 : decode cX4_judge 303 = .ok (.getfield 49, 3) := by decide +kernel
theorem dX4_judge_306 : decode cX4_judge 306 = .ok (.aload_n 1, 1) := by decide +kernel
theorem dX4_judge_307 : decode cX4_judge 307 = .ok (.aload_n 2, 1) := by decide +kernel
theorem dX4_judge_308 : decode cX4_judge 308 = .ok (.invokevirtual 175, 3) := by decide +kernel
theorem dX4_judge_311 : decode cX4_judge 311 = .ok (.goto 12, 3) := by decide +kernel
theorem dX4_judge_314 : decode cX4_judge 314 = .ok (.aload_n 0, 1) := by decide +kernel
theorem dX4_judge_315 : decode cX4_judge 315 = .ok (.getfield 49, 3) := by decide +kernel
theorem dX4_judge_318 : decode cX4_judge 318 = .ok (.aload_n 1, 1) := by decide +kernel
theorem dX4_judge_319 : decode cX4_judge 319 = .ok (.aload_n 2, 1) := by decide +kernel
theorem dX4_judge_320 : decode cX4_judge 320 = .ok (.invokevirtual 178, 3) := by decide +kernel
theorem dX4_judge_323 : decode cX4_judge 323 = .ok (.ireturn, 1) := by decide +kernel
theorem dX4_judge_324 : decode cX4_judge 324 = .ok (.iload_n 3, 1) := by decide +kernel
theorem dX4_judge_325 : decode cX4_judge 325 = .ok (.ifCond .eq 15, 3) := by decide +kernel
theorem dX4_judge_328 : decode cX4_judge 328 = .ok (.aload_n 0, 1) := by decide +kernel
theorem dX4_judge_329 : decode cX4_judge 329 = .ok (.getfield 56, 3) := by decide +kernel
theorem dX4_judge_332 : decode cX4_judge 332 = .ok (.aload_n 1, 1) := by decide +kernel
theorem dX4_judge_333 : decode cX4_judge 333 = .ok (.aload_n 2, 1) := by decide +kernel
theorem dX4_judge_334 : decode cX4_judge 334 = .ok (.invokevirtual 181, 3) := by decide +kernel
theorem dX4_judge_337 : decode cX4_judge 337 = .ok (.goto 12, 3) := by decide +kernel
theorem dX4_judge_340 : decode cX4_judge 340 = .ok (.aload_n 0, 1) := by decide +kernel
theorem dX4_judge_341 : decode cX4_judge 341 = .ok (.getfield 56, 3) := by decide +kernel
theorem dX4_judge_344 : decode cX4_judge 344 = .ok (.aload_n 1, 1) := by decide +kernel
theorem dX4_judge_345 : decode cX4_judge 345 = .ok (.aload_n 2, 1) := by decide +kernel
theorem dX4_judge_346 : decode cX4_judge 346 = .ok (.invokevirtual 184, 3) := by decide +kernel
theorem dX4_judge_349 : decode cX4_judge 349 = .ok (.ireturn, 1) := by decide +kernel
theorem dX4_judge_350 : decode cX4_judge 350 = .ok (.aload_n 0, 1) := by decide +kernel
theorem dX4_judge_351 : decode cX4_judge 351 = .ok (.getfield 56, 3) := by decide +kernel
theorem dX4_judge_354 : decode cX4_judge 354 = .ok (.aload_n 1, 1) := by decide +kernel
theorem dX4_judge_355 : decode cX4_judge 355 = .ok (.aload_n 2, 1) := by decide +kernel
theorem dX4_judge_356 : decode cX4_judge 356 = .ok (.iload_n 3, 1) := by decide +kernel
theorem dX4_judge_357 : decode cX4_judge 357 = .ok (.ifCond .eq 7, 3) := by decide +kernel
theorem dX4_judge_360 : decode cX4_judge 360 = .ok (.iconst 0, 1) := by decide +kernel
theorem dX4_judge_361 : decode cX4_judge 361 = .ok (.goto 4, 3) := by decide +kernel
theorem dX4_judge_364 : decode cX4_judge 364 = .ok (.iconst 1, 1) := by decide +kernel
theorem dX4_judge_365 : decode cX4_judge 365 = .ok (.invokevirtual 187, 3) := by decide +kernel
theorem dX4_judge_368 : decode cX4_judge 368 = .ok (.ireturn, 1) := by decide +kernel
theorem dX4_isItemOf_0 : decode cX4_isItemOf 0 = .ok (.aload_n 1, 1) := by decide +kernel
theorem dX4_isItemOf_1 : decode cX4_isItemOf 1 = .ok (.getfield 191, 3) := by decide +kernel
theorem dX4_isItemOf_4 : decode cX4_isItemOf 4 = .ok (.iconst 1, 1) := by decide +kernel
theorem dX4_isItemOf_5 : decode cX4_isItemOf 5 = .ok (.isub, 1) := by decide +kernel
theorem dX4_isItemOf_6 : decode cX4_isItemOf 6 = .ok (.istore 4, 2) := by decide +kernel
theorem dX4_isItemOf_8 : decode cX4_isItemOf 8 = .ok (.aload_n 1, 1) := by decide +kernel
theorem dX4_isItemOf_9 : decode cX4_isItemOf 9 = .ok (.getfield 75, 3) := by decide +kernel
theorem dX4_isItemOf_12 : decode cX4_isItemOf 12 = .ok (.tableswitch 269 0 10 #[60, 67, 60, 94, 126, 162, 194, 196, 204, 211, 228], 60) := by decide +kernel
theorem dX4_isItemOf_72 : decode cX4_isItemOf 72 = .ok (.aload_n 3, 1) := by decide +kernel
theorem dX4_isItemOf_73 : decode cX4_isItemOf 73 = .ok (.iload 4, 2) := by decide +kernel
theorem dX4_isItemOf_75 : decode cX4_isItemOf 75 = .ok (.invokestatic 194, 3) := by decide +kernel
theorem dX4_isItemOf_78 : decode cX4_isItemOf 78 = .ok (.ireturn, 1) := by decide +kernel
theorem dX4_isItemOf_79 : decode cX4_isItemOf 79 = .ok (.aload_n 3, 1) := by decide +kernel
theorem dX4_isItemOf_80 : decode cX4_isItemOf 80 = .ok (.iload 4, 2) := by decide +kernel
theorem dX4_isItemOf_82 : decode cX4_isItemOf 82 = .ok (.invokestatic 194, 3) := by decide +kernel
theorem dX4_isItemOf_85 : decode cX4_isItemOf 85 = .ok (.ifCond .eq 19, 3) := by decide +kernel
theorem dX4_isItemOf_88 : decode cX4_isItemOf 88 = .ok (.aload_n 3, 1) := by decide +kernel
theorem dX4_isItemOf_89 : decode cX4_isItemOf 89 = .ok (.iconst 2, 1) := by decide +kernel
theorem dX4_isItemOf_90 : decode cX4_isItemOf 90 = .ok (.iaload, 1) := by decide +kernel
theorem dX4_isItemOf_91 : decode cX4_isItemOf 91 = .ok (.iconst 0, 1) := by decide +kernel
theorem dX4_isItemOf_92 : decode cX4_isItemOf 92 = .ok (.bipush 6, 2) := by decide +kernel
theorem dX4_isItemOf_94 : decode cX4_isItemOf 94 = .ok (.invokestatic 198, 3) := by decide +kernel
theorem dX4_isItemOf_97 : decode cX4_isItemOf 97 = .ok (.ifCond .eq 7, 3) := by decide +kernel
theorem dX4_isItemOf_100 : decode cX4_isItemOf 100 = .ok (.iconst 1, 1) := by decide +kernel
theorem dX4_isItemOf_101 : decode cX4_isItemOf 101 = .ok (.goto 4, 3) := by decide +kernel
theorem dX4_isItemOf_104 : decode cX4_isItemOf 104 = .ok (.iconst 0, 1) := by decide +kernel
theorem dX4_isItemOf_105 : decode cX4_isItemOf 105 = .ok (.ireturn, 1) := by decide +kernel
theorem dX4_isItemOf_106 : decode cX4_isItemOf 106 = .ok (.aload_n 3, 1) := by decide +kernel
theorem dX4_isItemOf_107 : decode cX4_isItemOf 107 = .ok (.aload_n 1, 1) := by decide +kernel
theorem dX4_isItemOf_108 : decode cX4_isItemOf 108 = .ok (.getfield 191, 3) := by decide +kernel
theorem dX4_isItemOf_111 : decode cX4_isItemOf 111 = .ok (.bipush 9, 2) := by decide +kernel
theorem dX4_isItemOf_113 : decode cX4_isItemOf 113 = .ok (.invokestatic 202, 3) := by decide +kernel
theorem dX4_isItemOf_116 : decode cX4_isItemOf 116 = .ok (.ifCond .eq 20, 3) := by decide +kernel
theorem dX4_isItemOf_119 : decode cX4_isItemOf 119 = .ok (.aload_n 3, 1) := by decide +kernel
theorem dX4_isItemOf_120 : decode cX4_isItemOf 120 = .ok (.iconst 4, 1) := by decide +kernel
theorem dX4_isItemOf_121 : decode cX4_isItemOf 121 = .ok (.iaload, 1) := by decide +kernel
theorem dX4_isItemOf_122 : decode cX4_isItemOf 122 = .ok (.bipush (-60), 2) := by decide +kernel
theorem dX4_isItemOf_124 : decode cX4_isItemOf 124 = .ok (.bipush 60, 2) := by decide +kernel
theorem dX4_isItemOf_126 : decode cX4_isItemOf 126 = .ok (.invokestatic 198, 3) := by decide +kernel
theorem dX4_isItemOf_129 : decode cX4_isItemOf 129 = .ok (.ifCond .eq 7, 3) := by decide +kernel
theorem dX4_isItemOf_132 : decode cX4_isItemOf 132 = .ok (.iconst 1, 1) := by decide +kernel
theorem dX4_isItemOf_133 : decode cX4_isItemOf 133 = .ok (.goto 4, 3) := by decide +kernel
theorem dX4_isItemOf_136 : decode cX4_isItemOf 136 = .ok (.iconst 0, 1) := by decide +kernel
theorem dX4_isItemOf_137 : decode cX4_isItemOf 137 = .ok (.ireturn, 1) := by decide +kernel
theorem dX4_isItemOf_138 : decode cX4_isItemOf 138 = .ok (.aload_n 3, 1) := by decide +kernel
theorem dX4_isItemOf_139 : decode cX4_isItemOf 139 = .ok (.iconst 3, 1) := by decide +kernel
theorem dX4_isItemOf_140 : decode cX4_isItemOf 140 = .ok (.aload_n 1, 1) := by decide +kernel
theorem dX4_isItemOf_141 : decode cX4_isItemOf 141 = .ok (.getfield 191, 3) := by decide +kernel
theorem dX4_isItemOf_144 : decode cX4_isItemOf 144 = .ok (.invokestatic 202, 3) := by decide +kernel
theorem dX4_isItemOf_147 : decode cX4_isItemOf 147 = .ok (.ifCond .eq 25, 3) := by decide +kernel
theorem dX4_isItemOf_150 : decode cX4_isItemOf 150 = .ok (.aload_n 3, 1) := by decide +kernel
theorem dX4_isItemOf_151 : decode cX4_isItemOf 151 = .ok (.iconst 0, 1) := by decide +kernel
theorem dX4_isItemOf_152 : decode cX4_isItemOf 152 = .ok (.iaload, 1) := by decide +kernel
theorem dX4_isItemOf_153 : decode cX4_isItemOf 153 = .ok (.ifCond .ne 15, 3) := by decide +kernel
theorem dX4_isItemOf_156 : decode cX4_isItemOf 156 = .ok (.aload_n 3, 1) := by decide +kernel
theorem dX4_isItemOf_157 : decode cX4_isItemOf 157 = .ok (.iconst 1, 1) := by decide +kernel
theorem dX4_isItemOf_158 : decode cX4_isItemOf 158 = .ok (.iaload, 1) := by decide +kernel
theorem dX4_isItemOf_159 : decode cX4_isItemOf 159 = .ok (.ifCond .ne 9, 3) := by decide +kernel
theorem dX4_isItemOf_162 : decode cX4_isItemOf 162 = .ok (.aload_n 3, 1) := by decide +kernel
theorem dX4_isItemOf_163 : decode cX4_isItemOf 163 = .ok (.iconst 2, 1) := by decide +kernel
theorem dX4_isItemOf_164 : decode cX4_isItemOf 164 = .ok (.iaload, 1) := by decide +kernel
theorem dX4_isItemOf_165 : decode cX4_isItemOf 165 = .ok (.ifCond .eq 7, 3) := by decide +kernel
theorem dX4_isItemOf_168 : decode cX4_isItemOf 168 = .ok (.iconst 1, 1) := by decide +kernel
theorem dX4_isItemOf_169 : decode cX4_isItemOf 169 = .ok (.goto 4, 3) := by decide +kernel
theorem dX4_isItemOf_172 : decode cX4_isItemOf 172 = .ok (.iconst 0, 1) := by decide +kernel
theorem dX4_isItemOf_173 : decode cX4_isItemOf 173 = .ok (.ireturn, 1) := by decide +kernel
theorem dX4_isItemOf_174 : decode cX4_isItemOf 174 = .ok (.aload_n 3, 1) := by decide +kernel
theorem dX4_isItemOf_175 : decode cX4_isItemOf 175 = .ok (.aload_n 1, 1) := by decide +kernel
theorem dX4_isItemOf_176 : decode cX4_isItemOf 176 = .ok (.getfield 191, 3) := by decide +kernel
theorem dX4_isItemOf_179 : decode cX4_isItemOf 179 = .ok (.bipush 6, 2) := by decide +kernel
theorem dX4_isItemOf_181 : decode cX4_isItemOf 181 = .ok (.invokestatic 202, 3) := by decide +kernel
theorem dX4_isItemOf_184 : decode cX4_isItemOf 184 = .ok (.ifCond .eq 20, 3) := by decide +kernel
theorem dX4_isItemOf_187 : decode cX4_isItemOf 187 = .ok (.aload_n 3, 1) := by decide +kernel
theorem dX4_isItemOf_188 : decode cX4_isItemOf 188 = .ok (.iconst 4, 1) := by decide +kernel
theorem dX4_isItemOf_189 : decode cX4_isItemOf 189 = .ok (.iaload, 1) := by decide +kernel
theorem dX4_isItemOf_190 : decode cX4_isItemOf 190 = .ok (.bipush (-20), 2) := by decide +kernel
theorem dX4_isItemOf_192 : decode cX4_isItemOf 192 = .ok (.bipush 20, 2) := by decide +kernel
theorem dX4_isItemOf_194 : decode cX4_isItemOf 194 = .ok (.invokestatic 198, 3) := by decide +kernel
theorem dX4_isItemOf_197 : decode cX4_isItemOf 197 = .ok (.ifCond .eq 7, 3) := by decide +kernel
theorem dX4_isItemOf_200 : decode cX4_isItemOf 200 = .ok (.iconst 1, 1) := by decide +kernel
theorem dX4_isItemOf_201 : decode cX4_isItemOf 201 = .ok (.goto 4, 3) := by decide +kernel
theorem dX4_isItemOf_204 : decode cX4_isItemOf 204 = .ok (.iconst 0, 1) := by decide +kernel
theorem dX4_isItemOf_205 : decode cX4_isItemOf 205 = .ok (.ireturn, 1) := by decide +kernel
theorem dX4_isItemOf_206 : decode cX4_isItemOf 206 = .ok (.iconst 1, 1) := by decide +kernel
theorem dX4_isItemOf_207 : decode cX4_isItemOf 207 = .ok (.ireturn, 1) := by decide +kernel
theorem dX4_isItemOf_208 : decode cX4_isItemOf 208 = .ok (.aload_n 3, 1) := by decide +kernel
theorem dX4_isItemOf_209 : decode cX4_isItemOf 209 = .ok (.iconst 4, 1) := by decide +kernel
theorem dX4_isItemOf_210 : decode cX4_isItemOf 210 = .ok (.bipush 7, 2) := by decide +kernel
theorem dX4_isItemOf_212 : decode cX4_isItemOf 212 = .ok (.invokestatic 202, 3) := by decide +kernel
theorem dX4_isItemOf_215 : decode cX4_isItemOf 215 = .ok (.ireturn, 1) := by decide +kernel
theorem dX4_isItemOf_216 : decode cX4_isItemOf 216 = .ok (.aload_n 3, 1) := by decide +kernel
theorem dX4_isItemOf_217 : decode cX4_isItemOf 217 = .ok (.iload 4, 2) := by decide +kernel
theorem dX4_isItemOf_219 : decode cX4_isItemOf 219 = .ok (.invokestatic 206, 3) := by decide +kernel
theorem dX4_isItemOf_222 : decode cX4_isItemOf 222 = .ok (.ireturn, 1) := by decide +kernel
theorem dX4_isItemOf_223 : decode cX4_isItemOf 223 = .ok (.aload_n 3, 1) := by decide +kernel
theorem dX4_isItemOf_224 : decode cX4_isItemOf 224 = .ok (.iload_n 2, 1) := by decide +kernel
theorem dX4_isItemOf_225 : decode cX4_isItemOf 225 = .ok (.ifCond .ne 9, 3) := by decide +kernel
theorem dX4_isItemOf_228 : decode cX4_isItemOf 228 = .ok (.sipush 255, 3) := by decide +kernel
theorem dX4_isItemOf_231 : decode cX4_isItemOf 231 = .ok (.goto 5, 3) := by decide +kernel
theorem dX4_isItemOf_234 : decode cX4_isItemOf 234 = .ok (.bipush 31, 2) := by decide +kernel
theorem dX4_isItemOf_236 : decode cX4_isItemOf 236 = .ok (.invokestatic 209, 3) := by decide +kernel
theorem dX4_isItemOf_239 : decode cX4_isItemOf 239 = .ok (.ireturn, 1) := by decide +kernel
theorem dX4_isItemOf_240 : decode cX4_isItemOf 240 = .ok (.aload_n 3, 1) := by decide +kernel
theorem dX4_isItemOf_241 : decode cX4_isItemOf 241 = .ok (.iconst 0, 1) := by decide +kernel
theorem dX4_isItemOf_242 : decode cX4_isItemOf 242 = .ok (.iaload, 1) := by decide +kernel
theorem dX4_isItemOf_243 : decode cX4_isItemOf 243 = .ok (.iconst 0, 1) := by decide +kernel
theorem dX4_isItemOf_244 : decode cX4_isItemOf 244 = .ok (.iload 4, 2) := by decide +kernel
theorem dX4_isItemOf_246 : decode cX4_isItemOf 246 = .ok (.invokestatic 198, 3) := by decide +kernel
theorem dX4_isItemOf_249 : decode cX4_isItemOf 249 = .ok (.ifCond .eq 30, 3) := by decide +kernel
theorem dX4_isItemOf_252 : decode cX4_isItemOf 252 = .ok (.aload_n 3, 1) := by decide +kernel
theorem dX4_isItemOf_253 : decode cX4_isItemOf 253 = .ok (.iconst 1, 1) := by decide +kernel
theorem dX4_isItemOf_254 : decode cX4_isItemOf 254 = .ok (.iaload, 1) := by decide +kernel
theorem dX4_isItemOf_255 : decode cX4_isItemOf 255 = .ok (.iconst 0, 1) := by decide +kernel
theorem dX4_isItemOf_256 : decode cX4_isItemOf 256 = .ok (.iload 4, 2) := by decide +kernel
theorem dX4_isItemOf_258 : decode cX4_isItemOf 258 = .ok (.invokestatic 198, 3) := by decide +kernel
theorem dX4_isItemOf_261 : decode cX4_isItemOf 261 = .ok (.ifCond .eq 18, 3) := by decide +kernel
theorem dX4_isItemOf_264 : decode cX4_isItemOf 264 = .ok (.aload_n 3, 1) := by decide +kernel
theorem dX4_isItemOf_265 : decode cX4_isItemOf 265 = .ok (.iconst 2, 1) := by decide +kernel
theorem dX4_isItemOf_266 : decode cX4_isItemOf 266 = .ok (.iaload, 1) := by decide +kernel
theorem dX4_isItemOf_267 : decode cX4_isItemOf 267 = .ok (.iconst 0, 1) := by decide +kernel
theorem dX4_isItemOf_268 : decode cX4_isItemOf 268 = .ok (.iconst 1, 1) := by decide +kernel
theorem dX4_isItemOf_269 : decode cX4_isItemOf 269 = .ok (.invokestatic 198, 3) := by decide +kernel
theorem dX4_isItemOf_272 : decode cX4_isItemOf 272 = .ok (.ifCond .eq 7, 3) := by decide +kernel
theorem dX4_isItemOf_275 : decode cX4_isItemOf 275 = .ok (.iconst 1, 1) := by decide +kernel
theorem dX4_isItemOf_276 : decode cX4_isItemOf 276 = .ok (.goto 4, 3) := by decide +kernel
theorem dX4_isItemOf_279 : decode cX4_isItemOf 279 = .ok (.iconst 0, 1) := by decide +kernel
theorem dX4_isItemOf_280 : decode cX4_isItemOf 280 = .ok (.ireturn, 1) := by decide +kernel
theorem dX4_isItemOf_281 : decode cX4_isItemOf 281 = .ok (.aload_n 3, 1) := by decide +kernel
theorem dX4_isItemOf_282 : decode cX4_isItemOf 282 = .ok (.iload 4, 2) := by decide +kernel
theorem dX4_isItemOf_284 : decode cX4_isItemOf 284 = .ok (.invokestatic 212, 3) := by decide +kernel
theorem dX4_isItemOf_287 : decode cX4_isItemOf 287 = .ok (.ireturn, 1) := by decide +kernel
theorem dX4_isWithin_0 : decode cX4_isWithin 0 = .ok (.iload_n 0, 1) := by decide +kernel
theorem dX4_isWithin_1 : decode cX4_isWithin 1 = .ok (.iload_n 1, 1) := by decide +kernel
theorem dX4_isWithin_2 : decode cX4_isWithin 2 = .ok (.if_icmp .lt 12, 3) := by decide +kernel
theorem dX4_isWithin_5 : decode cX4_isWithin 5 = .ok (.iload_n 0, 1) := by decide +kernel
theorem dX4_isWithin_6 : decode cX4_isWithin 6 = .ok (.iload_n 2, 1) := by decide +kernel
theorem dX4_isWithin_7 : decode cX4_isWithin 7 = .ok (.if_icmp .gt 7, 3) := by decide +kernel
theorem dX4_isWithin_10 : decode cX4_isWithin 10 = .ok (.iconst 1, 1) := by decide +kernel
theorem dX4_isWithin_11 : decode cX4_isWithin 11 = .ok (.goto 4, 3) := by decide +kernel
theorem dX4_isWithin_14 : decode cX4_isWithin 14 = .ok (.iconst 0, 1) := by decide +kernel
theorem dX4_isWithin_15 : decode cX4_isWithin 15 = .ok (.ireturn, 1) := by decide +kernel
theorem dX4_areWithin_0 : decode cX4_areWithin 0 = .ok (.iconst 0, 1) := by decide +kernel
theorem dX4_areWithin_1 : decode cX4_areWithin 1 = .ok (.istore_n 3, 1) := by decide +kernel
theorem dX4_areWithin_2 : decode cX4_areWithin 2 = .ok (.iload_n 3, 1) := by decide +kernel
theorem dX4_areWithin_3 : decode cX4_areWithin 3 = .ok (.iload_n 1, 1) := by decide +kernel
theorem dX4_areWithin_4 : decode cX4_areWithin 4 = .ok (.if_icmp .ge 29, 3) := by decide +kernel
theorem dX4_areWithin_7 : decode cX4_areWithin 7 = .ok (.iload_n 3, 1) := by decide +kernel
theorem dX4_areWithin_8 : decode cX4_areWithin 8 = .ok (.aload_n 0, 1) := by decide +kernel
theorem dX4_areWithin_9 : decode cX4_areWithin 9 = .ok (.arraylength, 1) := by decide +kernel
theorem dX4_areWithin_10 : decode cX4_areWithin 10 = .ok (.if_icmp .ge 23, 3) := by decide +kernel
theorem dX4_areWithin_13 : decode cX4_areWithin 13 = .ok (.aload_n 0, 1) := by decide +kernel
theorem dX4_areWithin_14 : decode cX4_areWithin 14 = .ok (.iload_n 3, 1) := by decide +kernel
theorem dX4_areWithin_15 : decode cX4_areWithin 15 = .ok (.iaload, 1) := by decide +kernel
theorem dX4_areWithin_16 : decode cX4_areWithin 16 = .ok (.iload_n 2, 1) := by decide +kernel
theorem dX4_areWithin_17 : decode cX4_areWithin 17 = .ok (.ineg, 1) := by decide +kernel
theorem dX4_areWithin_18 : decode cX4_areWithin 18 = .ok (.iload_n 2, 1) := by decide +kernel
theorem dX4_areWithin_19 : decode cX4_areWithin 19 = .ok (.invokestatic 198, 3) := by decide +kernel
theorem dX4_areWithin_22 : decode cX4_areWithin 22 = .ok (.ifCond .ne 5, 3) := by decide +kernel
theorem dX4_areWithin_25 : decode cX4_areWithin 25 = .ok (.iconst 0, 1) := by decide +kernel
theorem dX4_areWithin_26 : decode cX4_areWithin 26 = .ok (.ireturn, 1) := by decide +kernel
theorem dX4_areWithin_27 : decode cX4_areWithin 27 = .ok (.iinc 3 1, 3) := by decide +kernel
theorem dX4_areWithin_30 : decode cX4_areWithin 30 = .ok (.goto (-28), 3) := by decide +kernel
theorem dX4_areWithin_33 : decode cX4_areWithin 33 = .ok (.iconst 1, 1) := by decide +kernel
theorem dX4_areWithin_34 : decode cX4_areWithin 34 = .ok (.ireturn, 1) := by decide +kernel
theorem dX4_areUnlikeNodes_0 : decode cX4_areUnlikeNodes 0 = .ok (.aload_n 0, 1) := by decide +kernel
theorem dX4_areUnlikeNodes_1 : decode cX4_areUnlikeNodes 1 = .ok (.iconst 0, 1) := by decide +kernel
theorem dX4_areUnlikeNodes_2 : decode cX4_areUnlikeNodes 2 = .ok (.iaload, 1) := by decide +kernel
theorem dX4_areUnlikeNodes_3 : decode cX4_areUnlikeNodes 3 = .ok (.iconst 0, 1) := by decide +kernel
theorem dX4_areUnlikeNodes_4 : decode cX4_areUnlikeNodes 4 = .ok (.iload_n 1, 1) := by decide +kernel
theorem dX4_areUnlikeNodes_5 : decode cX4_areUnlikeNodes 5 = .ok (.invokestatic 198, 3) := by decide +kernel
theorem dX4_areUnlikeNodes_8 : decode cX4_areUnlikeNodes 8 = .ok (.ifCond .eq 27, 3) := by decide +kernel
theorem dX4_areUnlikeNodes_11 : decode cX4_areUnlikeNodes 11 = .ok (.aload_n 0, 1) := by decide +kernel
theorem dX4_areUnlikeNodes_12 : decode cX4_areUnlikeNodes 12 = .ok (.iconst 1, 1) := by decide +kernel
theorem dX4_areUnlikeNodes_13 : decode cX4_areUnlikeNodes 13 = .ok (.iaload, 1) := by decide +kernel
theorem dX4_areUnlikeNodes_14 : decode cX4_areUnlikeNodes 14 = .ok (.iconst 0, 1) := by decide +kernel
theorem dX4_areUnlikeNodes_15 : decode cX4_areUnlikeNodes 15 = .ok (.iload_n 1, 1) := by decide +kernel
theorem dX4_areUnlikeNodes_16 : decode cX4_areUnlikeNodes 16 = .ok (.invokestatic 198, 3) := by decide +kernel
theorem dX4_areUnlikeNodes_19 : decode cX4_areUnlikeNodes 19 = .ok (.ifCond .eq 16, 3) := by decide +kernel
theorem dX4_areUnlikeNodes_22 : decode cX4_areUnlikeNodes 22 = .ok (.aload_n 0, 1) := by decide +kernel
theorem dX4_areUnlikeNodes_23 : decode cX4_areUnlikeNodes 23 = .ok (.iconst 0, 1) := by decide +kernel
theorem dX4_areUnlikeNodes_24 : decode cX4_areUnlikeNodes 24 = .ok (.iaload, 1) := by decide +kernel
theorem dX4_areUnlikeNodes_25 : decode cX4_areUnlikeNodes 25 = .ok (.aload_n 0, 1) := by decide +kernel
theorem dX4_areUnlikeNodes_26 : decode cX4_areUnlikeNodes 26 = .ok (.iconst 1, 1) := by decide +kernel
theorem dX4_areUnlikeNodes_27 : decode cX4_areUnlikeNodes 27 = .ok (.iaload, 1) := by decide +kernel
theorem dX4_areUnlikeNodes_28 : decode cX4_areUnlikeNodes 28 = .ok (.if_icmp .eq 7, 3) := by decide +kernel
theorem dX4_areUnlikeNodes_31 : decode cX4_areUnlikeNodes 31 = .ok (.iconst 1, 1) := by decide +kernel
theorem dX4_areUnlikeNodes_32 : decode cX4_areUnlikeNodes 32 = .ok (.goto 4, 3) := by decide +kernel
theorem dX4_areUnlikeNodes_35 : decode cX4_areUnlikeNodes 35 = .ok (.iconst 0, 1) := by decide +kernel
theorem dX4_areUnlikeNodes_36 : decode cX4_areUnlikeNodes 36 = .ok (.ireturn, 1) := by decide +kernel
theorem dX4_areUnlikePoints_0 : decode cX4_areUnlikePoints 0 = .ok (.iconst 0, 1) := by decide +kernel
theorem dX4_areUnlikePoints_1 : decode cX4_areUnlikePoints 1 = .ok (.istore_n 2, 1) := by decide +kernel
theorem dX4_areUnlikePoints_2 : decode cX4_areUnlikePoints 2 = .ok (.iconst 0, 1) := by decide +kernel
theorem dX4_areUnlikePoints_3 : decode cX4_areUnlikePoints 3 = .ok (.istore_n 3, 1) := by decide +kernel
theorem dX4_areUnlikePoints_4 : decode cX4_areUnlikePoints 4 = .ok (.iload_n 3, 1) := by decide +kernel
theorem dX4_areUnlikePoints_5 : decode cX4_areUnlikePoints 5 = .ok (.iload_n 1, 1) := by decide +kernel
theorem dX4_areUnlikePoints_6 : decode cX4_areUnlikePoints 6 = .ok (.if_icmp .gt 46, 3) := by decide +kernel
theorem dX4_areUnlikePoints_9 : decode cX4_areUnlikePoints 9 = .ok (.iload_n 3, 1) := by decide +kernel
theorem dX4_areUnlikePoints_10 : decode cX4_areUnlikePoints 10 = .ok (.aload_n 0, 1) := by decide +kernel
theorem dX4_areUnlikePoints_11 : decode cX4_areUnlikePoints 11 = .ok (.arraylength, 1) := by decide +kernel
theorem dX4_areUnlikePoints_12 : decode cX4_areUnlikePoints 12 = .ok (.if_icmp .ge 40, 3) := by decide +kernel
theorem dX4_areUnlikePoints_15 : decode cX4_areUnlikePoints 15 = .ok (.aload_n 0, 1) := by decide +kernel
theorem dX4_areUnlikePoints_16 : decode cX4_areUnlikePoints 16 = .ok (.iload_n 3, 1) := by decide +kernel
theorem dX4_areUnlikePoints_17 : decode cX4_areUnlikePoints 17 = .ok (.iaload, 1) := by decide +kernel
theorem dX4_areUnlikePoints_18 : decode cX4_areUnlikePoints 18 = .ok (.iconst 0, 1) := by decide +kernel
theorem dX4_areUnlikePoints_19 : decode cX4_areUnlikePoints 19 = .ok (.iload_n 1, 1) := by decide +kernel
theorem dX4_areUnlikePoints_20 : decode cX4_areUnlikePoints 20 = .ok (.invokestatic 198, 3) := by decide +kernel
theorem dX4_areUnlikePoints_23 : decode cX4_areUnlikePoints 23 = .ok (.ifCond .eq 13, 3) := by decide +kernel
theorem dX4_areUnlikePoints_26 : decode cX4_areUnlikePoints 26 = .ok (.iload_n 2, 1) := by decide +kernel
theorem dX4_areUnlikePoints_27 : decode cX4_areUnlikePoints 27 = .ok (.aload_n 0, 1) := by decide +kernel
theorem dX4_areUnlikePoints_28 : decode cX4_areUnlikePoints 28 = .ok (.iload_n 3, 1) := by decide +kernel
theorem dX4_areUnlikePoints_29 : decode cX4_areUnlikePoints 29 = .ok (.iaload, 1) := by decide +kernel
theorem dX4_areUnlikePoints_30 : decode cX4_areUnlikePoints 30 = .ok (.invokestatic 215, 3) := by decide +kernel
theorem dX4_areUnlikePoints_33 : decode cX4_areUnlikePoints 33 = .ok (.ifCond .eq 5, 3) := by decide +kernel
theorem dX4_areUnlikePoints_36 : decode cX4_areUnlikePoints 36 = .ok (.iconst 0, 1) := by decide +kernel
theorem dX4_areUnlikePoints_37 : decode cX4_areUnlikePoints 37 = .ok (.ireturn, 1) := by decide +kernel
theorem dX4_areUnlikePoints_38 : decode cX4_areUnlikePoints 38 = .ok (.iload_n 2, 1) := by decide +kernel
theorem dX4_areUnlikePoints_39 : decode cX4_areUnlikePoints 39 = .ok (.iconst 1, 1) := by decide +kernel
theorem dX4_areUnlikePoints_40 : decode cX4_areUnlikePoints 40 = .ok (.aload_n 0, 1) := by decide +kernel
theorem dX4_areUnlikePoints_41 : decode cX4_areUnlikePoints 41 = .ok (.iload_n 3, 1) := by decide +kernel
theorem dX4_areUnlikePoints_42 : decode cX4_areUnlikePoints 42 = .ok (.iaload, 1) := by decide +kernel
theorem dX4_areUnlikePoints_43 : decode cX4_areUnlikePoints 43 = .ok (.ishl, 1) := by decide +kernel
theorem dX4_areUnlikePoints_44 : decode cX4_areUnlikePoints 44 = .ok (.ior, 1) := by decide +kernel
theorem dX4_areUnlikePoints_45 : decode cX4_areUnlikePoints 45 = .ok (.istore_n 2, 1) := by decide +kernel
theorem dX4_areUnlikePoints_46 : decode cX4_areUnlikePoints 46 = .ok (.iinc 3 1, 3) := by decide +kernel
theorem dX4_areUnlikePoints_49 : decode cX4_areUnlikePoints 49 = .ok (.goto (-45), 3) := by decide +kernel
theorem dX4_areUnlikePoints_52 : decode cX4_areUnlikePoints 52 = .ok (.iconst 1, 1) := by decide +kernel
theorem dX4_areUnlikePoints_53 : decode cX4_areUnlikePoints 53 = .ok (.ireturn, 1) := by decide +kernel
theorem dX4_areWords_0 : decode cX4_areWords 0 = .ok (.aload_n 0, 1) := by decide +kernel
theorem dX4_areWords_1 : decode cX4_areWords 1 = .ok (.iconst 0, 1) := by decide +kernel
theorem dX4_areWords_2 : decode cX4_areWords 2 = .ok (.iaload, 1) := by decide +kernel
theorem dX4_areWords_3 : decode cX4_areWords 3 = .ok (.iconst 1, 1) := by decide +kernel
theorem dX4_areWords_4 : decode cX4_areWords 4 = .ok (.iload_n 1, 1) := by decide +kernel
theorem dX4_areWords_5 : decode cX4_areWords 5 = .ok (.invokestatic 198, 3) := by decide +kernel
theorem dX4_areWords_8 : decode cX4_areWords 8 = .ok (.ifCond .eq 18, 3) := by decide +kernel
theorem dX4_areWords_11 : decode cX4_areWords 11 = .ok (.aload_n 0, 1) := by decide +kernel
theorem dX4_areWords_12 : decode cX4_areWords 12 = .ok (.iconst 1, 1) := by decide +kernel
theorem dX4_areWords_13 : decode cX4_areWords 13 = .ok (.iaload, 1) := by decide +kernel
theorem dX4_areWords_14 : decode cX4_areWords 14 = .ok (.iconst 1, 1) := by decide +kernel
theorem dX4_areWords_15 : decode cX4_areWords 15 = .ok (.iload_n 1, 1) := by decide +kernel
theorem dX4_areWords_16 : decode cX4_areWords 16 = .ok (.invokestatic 198, 3) := by decide +kernel
theorem dX4_areWords_19 : decode cX4_areWords 19 = .ok (.ifCond .eq 7, 3) := by decide +kernel
theorem dX4_areWords_22 : decode cX4_areWords 22 = .ok (.iconst 1, 1) := by decide +kernel
theorem dX4_areWords_23 : decode cX4_areWords 23 = .ok (.goto 4, 3) := by decide +kernel
theorem dX4_areWords_26 : decode cX4_areWords 26 = .ok (.iconst 0, 1) := by decide +kernel
theorem dX4_areWords_27 : decode cX4_areWords 27 = .ok (.ireturn, 1) := by decide +kernel
theorem dX4_isGameItem_0 : decode cX4_isGameItem 0 = .ok (.aload_n 0, 1) := by decide +kernel
theorem dX4_isGameItem_1 : decode cX4_isGameItem 1 = .ok (.iconst 0, 1) := by decide +kernel
theorem dX4_isGameItem_2 : decode cX4_isGameItem 2 = .ok (.iaload, 1) := by decide +kernel
theorem dX4_isGameItem_3 : decode cX4_isGameItem 3 = .ok (.iconst 0, 1) := by decide +kernel
theorem dX4_isGameItem_4 : decode cX4_isGameItem 4 = .ok (.iconst 1, 1) := by decide +kernel
theorem dX4_isGameItem_5 : decode cX4_isGameItem 5 = .ok (.invokestatic 198, 3) := by decide +kernel
theorem dX4_isGameItem_8 : decode cX4_isGameItem 8 = .ok (.ifCond .eq 51, 3) := by decide +kernel
theorem dX4_isGameItem_11 : decode cX4_isGameItem 11 = .ok (.aload_n 0, 1) := by decide +kernel
theorem dX4_isGameItem_12 : decode cX4_isGameItem 12 = .ok (.iconst 1, 1) := by decide +kernel
theorem dX4_isGameItem_13 : decode cX4_isGameItem 13 = .ok (.iaload, 1) := by decide +kernel
theorem dX4_isGameItem_14 : decode cX4_isGameItem 14 = .ok (.iconst 0, 1) := by decide +kernel
theorem dX4_isGameItem_15 : decode cX4_isGameItem 15 = .ok (.iconst 5, 1) := by decide +kernel
theorem dX4_isGameItem_16 : decode cX4_isGameItem 16 = .ok (.invokestatic 198, 3) := by decide +kernel
theorem dX4_isGameItem_19 : decode cX4_isGameItem 19 = .ok (.ifCond .eq 40, 3) := by decide +kernel
theorem dX4_isGameItem_22 : decode cX4_isGameItem 22 = .ok (.aload_n 0, 1) := by decide +kernel
theorem dX4_isGameItem_23 : decode cX4_isGameItem 23 = .ok (.iconst 2, 1) := by decide +kernel
theorem dX4_isGameItem_24 : decode cX4_isGameItem 24 = .ok (.iaload, 1) := by decide +kernel
theorem dX4_isGameItem_25 : decode cX4_isGameItem 25 = .ok (.iconst 0, 1) := by decide +kernel
theorem dX4_isGameItem_26 : decode cX4_isGameItem 26 = .ok (.iload_n 1, 1) := by decide +kernel
theorem dX4_isGameItem_27 : decode cX4_isGameItem 27 = .ok (.invokestatic 198, 3) := by decide +kernel
theorem dX4_isGameItem_30 : decode cX4_isGameItem 30 = .ok (.ifCond .eq 29, 3) := by decide +kernel
theorem dX4_isGameItem_33 : decode cX4_isGameItem 33 = .ok (.aload_n 0, 1) := by decide +kernel
theorem dX4_isGameItem_34 : decode cX4_isGameItem 34 = .ok (.iconst 3, 1) := by decide +kernel
theorem dX4_isGameItem_35 : decode cX4_isGameItem 35 = .ok (.iaload, 1) := by decide +kernel
theorem dX4_isGameItem_36 : decode cX4_isGameItem 36 = .ok (.iconst (-1), 1) := by decide +kernel
theorem dX4_isGameItem_37 : decode cX4_isGameItem 37 = .ok (.iload_n 1, 1) := by decide +kernel
theorem dX4_isGameItem_38 : decode cX4_isGameItem 38 = .ok (.invokestatic 198, 3) := by decide +kernel
theorem dX4_isGameItem_41 : decode cX4_isGameItem 41 = .ok (.ifCond .eq 18, 3) := by decide +kernel
theorem dX4_isGameItem_44 : decode cX4_isGameItem 44 = .ok (.aload_n 0, 1) := by decide +kernel
theorem dX4_isGameItem_45 : decode cX4_isGameItem 45 = .ok (.iconst 4, 1) := by decide +kernel
theorem dX4_isGameItem_46 : decode cX4_isGameItem 46 = .ok (.iaload, 1) := by decide +kernel
theorem dX4_isGameItem_47 : decode cX4_isGameItem 47 = .ok (.iconst (-1), 1) := by decide +kernel
theorem dX4_isGameItem_48 : decode cX4_isGameItem 48 = .ok (.iload_n 1, 1) := by decide +kernel
theorem dX4_isGameItem_49 : decode cX4_isGameItem 49 = .ok (.invokestatic 198, 3) := by decide +kernel
theorem dX4_isGameItem_52 : decode cX4_isGameItem 52 = .ok (.ifCond .eq 7, 3) := by decide +kernel
theorem dX4_isGameItem_55 : decode cX4_isGameItem 55 = .ok (.iconst 1, 1) := by decide +kernel
theorem dX4_isGameItem_56 : decode cX4_isGameItem 56 = .ok (.goto 4, 3) := by decide +kernel
theorem dX4_isGameItem_59 : decode cX4_isGameItem 59 = .ok (.iconst 0, 1) := by decide +kernel
theorem dX4_isGameItem_60 : decode cX4_isGameItem 60 = .ok (.ireturn, 1) := by decide +kernel
theorem dX4_isEdgeAgain_0 : decode cX4_isEdgeAgain 0 = .ok (.aload_n 1, 1) := by decide +kernel
theorem dX4_isEdgeAgain_1 : decode cX4_isEdgeAgain 1 = .ok (.getfield 75, 3) := by decide +kernel
theorem dX4_isEdgeAgain_4 : decode cX4_isEdgeAgain 4 = .ok (.ifCond .eq 13, 3) := by decide +kernel
theorem dX4_isEdgeAgain_7 : decode cX4_isEdgeAgain 7 = .ok (.aload_n 1, 1) := by decide +kernel
theorem dX4_isEdgeAgain_8 : decode cX4_isEdgeAgain 8 = .ok (.getfield 75, 3) := by decide +kernel
theorem dX4_isEdgeAgain_11 : decode cX4_isEdgeAgain 11 = .ok (.iconst 2, 1) := by decide +kernel
theorem dX4_isEdgeAgain_12 : decode cX4_isEdgeAgain 12 = .ok (.if_icmp .eq 5, 3) := by decide +kernel
theorem dX4_isEdgeAgain_15 : decode cX4_isEdgeAgain 15 = .ok (.iconst 0, 1) := by decide +kernel
theorem dX4_isEdgeAgain_16 : decode cX4_isEdgeAgain 16 = .ok (.ireturn, 1) := by decide +kernel
theorem dX4_isEdgeAgain_17 : decode cX4_isEdgeAgain 17 = .ok (.iconst 1, 1) := by decide +kernel
theorem dX4_isEdgeAgain_18 : decode cX4_isEdgeAgain 18 = .ok (.aload_n 3, 1) := by decide +kernel
theorem dX4_isEdgeAgain_19 : decode cX4_isEdgeAgain 19 = .ok (.iconst 0, 1) := by decide +kernel
theorem dX4_isEdgeAgain_20 : decode cX4_isEdgeAgain 20 = .ok (.iaload, 1) := by decide +kernel
theorem dX4_isEdgeAgain_21 : decode cX4_isEdgeAgain 21 = .ok (.ishl, 1) := by decide +kernel
theorem dX4_isEdgeAgain_22 : decode cX4_isEdgeAgain 22 = .ok (.iconst 1, 1) := by decide +kernel
theorem dX4_isEdgeAgain_23 : decode cX4_isEdgeAgain 23 = .ok (.aload_n 3, 1) := by decide +kernel
theorem dX4_isEdgeAgain_24 : decode cX4_isEdgeAgain 24 = .ok (.iconst 1, 1) := by decide +kernel
theorem dX4_isEdgeAgain_25 : decode cX4_isEdgeAgain 25 = .ok (.iaload, 1) := by decide +kernel
theorem dX4_isEdgeAgain_26 : decode cX4_isEdgeAgain 26 = .ok (.ishl, 1) := by decide +kernel
theorem dX4_isEdgeAgain_27 : decode cX4_isEdgeAgain 27 = .ok (.ior, 1) := by decide +kernel
theorem dX4_isEdgeAgain_28 : decode cX4_isEdgeAgain 28 = .ok (.istore 4, 2) := by decide +kernel
theorem dX4_isEdgeAgain_30 : decode cX4_isEdgeAgain 30 = .ok (.iconst 0, 1) := by decide +kernel
theorem dX4_isEdgeAgain_31 : decode cX4_isEdgeAgain 31 = .ok (.istore 5, 2) := by decide +kernel
theorem dX4_isEdgeAgain_33 : decode cX4_isEdgeAgain 33 = .ok (.iload 5, 2) := by decide +kernel
theorem dX4_isEdgeAgain_35 : decode cX4_isEdgeAgain 35 = .ok (.aload_n 1, 1) := by decide +kernel
theorem dX4_isEdgeAgain_36 : decode cX4_isEdgeAgain 36 = .ok (.getfield 219, 3) := by decide +kernel
theorem dX4_isEdgeAgain_39 : decode cX4_isEdgeAgain 39 = .ok (.if_icmp .ge 41, 3) := by decide +kernel
theorem dX4_isEdgeAgain_42 : decode cX4_isEdgeAgain 42 = .ok (.iload 5, 2) := by decide +kernel
theorem dX4_isEdgeAgain_44 : decode cX4_isEdgeAgain 44 = .ok (.iload_n 2, 1) := by decide +kernel
theorem dX4_isEdgeAgain_45 : decode cX4_isEdgeAgain 45 = .ok (.if_icmp .eq 29, 3) := by decide +kernel
theorem dX4_isEdgeAgain_48 : decode cX4_isEdgeAgain 48 = .ok (.iconst 1, 1) := by decide +kernel
theorem dX4_isEdgeAgain_49 : decode cX4_isEdgeAgain 49 = .ok (.aload_n 1, 1) := by decide +kernel
theorem dX4_isEdgeAgain_50 : decode cX4_isEdgeAgain 50 = .ok (.iload 5, 2) := by decide +kernel
theorem dX4_isEdgeAgain_52 : decode cX4_isEdgeAgain 52 = .ok (.iconst 0, 1) := by decide +kernel
theorem dX4_isEdgeAgain_53 : decode cX4_isEdgeAgain 53 = .ok (.invokevirtual 222, 3) := by decide +kernel
theorem dX4_isEdgeAgain_56 : decode cX4_isEdgeAgain 56 = .ok (.ishl, 1) := by decide +kernel
theorem dX4_isEdgeAgain_57 : decode cX4_isEdgeAgain 57 = .ok (.iconst 1, 1) := by decide +kernel
theorem dX4_isEdgeAgain_58 : decode cX4_isEdgeAgain 58 = .ok (.aload_n 1, 1) := by decide +kernel
theorem dX4_isEdgeAgain_59 : decode cX4_isEdgeAgain 59 = .ok (.iload 5, 2) := by decide +kernel
theorem dX4_isEdgeAgain_61 : decode cX4_isEdgeAgain 61 = .ok (.iconst 1, 1) := by decide +kernel
theorem dX4_isEdgeAgain_62 : decode cX4_isEdgeAgain 62 = .ok (.invokevirtual 222, 3) := by decide +kernel
theorem dX4_isEdgeAgain_65 : decode cX4_isEdgeAgain 65 = .ok (.ishl, 1) := by decide +kernel
theorem dX4_isEdgeAgain_66 : decode cX4_isEdgeAgain 66 = .ok (.ior, 1) := by decide +kernel
theorem dX4_isEdgeAgain_67 : decode cX4_isEdgeAgain 67 = .ok (.iload 4, 2) := by decide +kernel
theorem dX4_isEdgeAgain_69 : decode cX4_isEdgeAgain 69 = .ok (.if_icmp .ne 5, 3) := by decide +kernel
theorem dX4_isEdgeAgain_72 : decode cX4_isEdgeAgain 72 = .ok (.iconst 1, 1) := by decide +kernel
theorem dX4_isEdgeAgain_73 : decode cX4_isEdgeAgain 73 = .ok (.ireturn, 1) := by decide +kernel
theorem dX4_isEdgeAgain_74 : decode cX4_isEdgeAgain 74 = .ok (.iinc 5 1, 3) := by decide +kernel
theorem dX4_isEdgeAgain_77 : decode cX4_isEdgeAgain 77 = .ok (.goto (-44), 3) := by decide +kernel
theorem dX4_isEdgeAgain_80 : decode cX4_isEdgeAgain 80 = .ok (.iconst 0, 1) := by decide +kernel
theorem dX4_isEdgeAgain_81 : decode cX4_isEdgeAgain 81 = .ok (.ireturn, 1) := by decide +kernel
theorem dX4_carriesOver_0 : decode cX4_carriesOver 0 = .ok (.aload_n 1, 1) := by decide +kernel
theorem dX4_carriesOver_1 : decode cX4_carriesOver 1 = .ok (.getfield 75, 3) := by decide +kernel
theorem dX4_carriesOver_4 : decode cX4_carriesOver 4 = .ok (.ifCond .ne 15, 3) := by decide +kernel
theorem dX4_carriesOver_7 : decode cX4_carriesOver 7 = .ok (.iload_n 2, 1) := by decide +kernel
theorem dX4_carriesOver_8 : decode cX4_carriesOver 8 = .ok (.iconst 1, 1) := by decide +kernel
theorem dX4_carriesOver_9 : decode cX4_carriesOver 9 = .ok (.if_icmp .ne 10, 3) := by decide +kernel
theorem dX4_carriesOver_12 : decode cX4_carriesOver 12 = .ok (.aload_n 0, 1) := by decide +kernel
theorem dX4_carriesOver_13 : decode cX4_carriesOver 13 = .ok (.aload_n 1, 1) := by decide +kernel
theorem dX4_carriesOver_14 : decode cX4_carriesOver 14 = .ok (.aload_n 3, 1) := by decide +kernel
theorem dX4_carriesOver_15 : decode cX4_carriesOver 15 = .ok (.invokevirtual 226, 3) := by decide +kernel
theorem dX4_carriesOver_18 : decode cX4_carriesOver 18 = .ok (.ireturn, 1) := by decide +kernel
theorem dX4_carriesOver_19 : decode cX4_carriesOver 19 = .ok (.aload_n 1, 1) := by decide +kernel
theorem dX4_carriesOver_20 : decode cX4_carriesOver 20 = .ok (.getfield 75, 3) := by decide +kernel
theorem dX4_carriesOver_23 : decode cX4_carriesOver 23 = .ok (.iconst 1, 1) := by decide +kernel
theorem dX4_carriesOver_24 : decode cX4_carriesOver 24 = .ok (.if_icmp .ne 15, 3) := by decide +kernel
theorem dX4_carriesOver_27 : decode cX4_carriesOver 27 = .ok (.iload_n 2, 1) := by decide +kernel
theorem dX4_carriesOver_28 : decode cX4_carriesOver 28 = .ok (.iconst 3, 1) := by decide +kernel
theorem dX4_carriesOver_29 : decode cX4_carriesOver 29 = .ok (.if_icmp .ne 10, 3) := by decide +kernel
theorem dX4_carriesOver_32 : decode cX4_carriesOver 32 = .ok (.aload_n 0, 1) := by decide +kernel
theorem dX4_carriesOver_33 : decode cX4_carriesOver 33 = .ok (.aload_n 1, 1) := by decide +kernel
theorem dX4_carriesOver_34 : decode cX4_carriesOver 34 = .ok (.aload_n 3, 1) := by decide +kernel
theorem dX4_carriesOver_35 : decode cX4_carriesOver 35 = .ok (.invokevirtual 230, 3) := by decide +kernel
theorem dX4_carriesOver_38 : decode cX4_carriesOver 38 = .ok (.ireturn, 1) := by decide +kernel
theorem dX4_carriesOver_39 : decode cX4_carriesOver 39 = .ok (.aload_n 1, 1) := by decide +kernel
theorem dX4_carriesOver_40 : decode cX4_carriesOver 40 = .ok (.getfield 75, 3) := by decide +kernel
theorem dX4_carriesOver_43 : decode cX4_carriesOver 43 = .ok (.ifCond .ne 15, 3) := by decide +kernel
theorem dX4_carriesOver_46 : decode cX4_carriesOver 46 = .ok (.iload_n 2, 1) := by decide +kernel
theorem dX4_carriesOver_47 : decode cX4_carriesOver 47 = .ok (.iconst 4, 1) := by decide +kernel
theorem dX4_carriesOver_48 : decode cX4_carriesOver 48 = .ok (.if_icmp .ne 10, 3) := by decide +kernel
theorem dX4_carriesOver_51 : decode cX4_carriesOver 51 = .ok (.aload_n 0, 1) := by decide +kernel
theorem dX4_carriesOver_52 : decode cX4_carriesOver 52 = .ok (.aload_n 1, 1) := by decide +kernel
theorem dX4_carriesOver_53 : decode cX4_carriesOver 53 = .ok (.aload_n 3, 1) := by decide +kernel
theorem dX4_carriesOver_54 : decode cX4_carriesOver 54 = .ok (.invokevirtual 233, 3) := by decide +kernel
theorem dX4_carriesOver_57 : decode cX4_carriesOver 57 = .ok (.ireturn, 1) := by decide +kernel
theorem dX4_carriesOver_58 : decode cX4_carriesOver 58 = .ok (.iconst 0, 1) := by decide +kernel
theorem dX4_carriesOver_59 : decode cX4_carriesOver 59 = .ok (.ireturn, 1) := by decide +kernel
theorem dX4_carriesPairings_0 : decode cX4_carriesPairings 0 = .ok (.aload_n 1, 1) := by decide +kernel
theorem dX4_carriesPairings_1 : decode cX4_carriesPairings 1 = .ok (.getfield 191, 3) := by decide +kernel
theorem dX4_carriesPairings_4 : decode cX4_carriesPairings 4 = .ok (.istore_n 3, 1) := by decide +kernel
theorem dX4_carriesPairings_5 : decode cX4_carriesPairings 5 = .ok (.aload_n 0, 1) := by decide +kernel
theorem dX4_carriesPairings_6 : decode cX4_carriesPairings 6 = .ok (.aload_n 1, 1) := by decide +kernel
theorem dX4_carriesPairings_7 : decode cX4_carriesPairings 7 = .ok (.invokevirtual 236, 3) := by decide +kernel
theorem dX4_carriesPairings_10 : decode cX4_carriesPairings 10 = .ok (.istore 4, 2) := by decide +kernel
theorem dX4_carriesPairings_12 : decode cX4_carriesPairings 12 = .ok (.iload 4, 2) := by decide +kernel
theorem dX4_carriesPairings_14 : decode cX4_carriesPairings 14 = .ok (.ifCond .lt 28, 3) := by decide +kernel
theorem dX4_carriesPairings_17 : decode cX4_carriesPairings 17 = .ok (.iload_n 3, 1) := by decide +kernel
theorem dX4_carriesPairings_18 : decode cX4_carriesPairings 18 = .ok (.iconst 2, 1) := by decide +kernel
theorem dX4_carriesPairings_19 : decode cX4_carriesPairings 19 = .ok (.iadd, 1) := by decide +kernel
theorem dX4_carriesPairings_20 : decode cX4_carriesPairings 20 = .ok (.getstatic 240, 3) := by decide +kernel
theorem dX4_carriesPairings_23 : decode cX4_carriesPairings 23 = .ok (.iconst 1, 1) := by decide +kernel
theorem dX4_carriesPairings_24 : decode cX4_carriesPairings 24 = .ok (.iaload, 1) := by decide +kernel
theorem dX4_carriesPairings_25 : decode cX4_carriesPairings 25 = .ok (.if_icmp .gt 17, 3) := by decide +kernel
theorem dX4_carriesPairings_28 : decode cX4_carriesPairings 28 = .ok (.iload_n 3, 1) := by decide +kernel
theorem dX4_carriesPairings_29 : decode cX4_carriesPairings 29 = .ok (.aload_n 1, 1) := by decide +kernel
theorem dX4_carriesPairings_30 : decode cX4_carriesPairings 30 = .ok (.getfield 219, 3) := by decide +kernel
theorem dX4_carriesPairings_33 : decode cX4_carriesPairings 33 = .ok (.iadd, 1) := by decide +kernel
theorem dX4_carriesPairings_34 : decode cX4_carriesPairings 34 = .ok (.getstatic 243, 3) := by decide +kernel
theorem dX4_carriesPairings_37 : decode cX4_carriesPairings 37 = .ok (.iconst 1, 1) := by decide +kernel
theorem dX4_carriesPairings_38 : decode cX4_carriesPairings 38 = .ok (.iaload, 1) := by decide +kernel
theorem dX4_carriesPairings_39 : decode cX4_carriesPairings 39 = .ok (.if_icmp .le 5, 3) := by decide +kernel
theorem dX4_carriesPairings_42 : decode cX4_carriesPairings 42 = .ok (.iconst 0, 1) := by decide +kernel
theorem dX4_carriesPairings_43 : decode cX4_carriesPairings 43 = .ok (.ireturn, 1) := by decide +kernel
theorem dX4_carriesPairings_44 : decode cX4_carriesPairings 44 = .ok (.iconst 0, 1) := by decide +kernel
theorem dX4_carriesPairings_45 : decode cX4_carriesPairings 45 = .ok (.iload_n 3, 1) := by decide +kernel
theorem dX4_carriesPairings_46 : decode cX4_carriesPairings 46 = .ok (.aload_n 1, 1) := by decide +kernel
theorem dX4_carriesPairings_47 : decode cX4_carriesPairings 47 = .ok (.getfield 116, 3) := by decide +kernel
theorem dX4_carriesPairings_50 : decode cX4_carriesPairings 50 = .ok (.isub, 1) := by decide +kernel
theorem dX4_carriesPairings_51 : decode cX4_carriesPairings 51 = .ok (.invokestatic 246, 3) := by decide +kernel
theorem dX4_carriesPairings_54 : decode cX4_carriesPairings 54 = .ok (.istore 5, 2) := by decide +kernel
theorem dX4_carriesPairings_56 : decode cX4_carriesPairings 56 = .ok (.aload_n 2, 1) := by decide +kernel
theorem dX4_carriesPairings_57 : decode cX4_carriesPairings 57 = .ok (.iconst 1, 1) := by decide +kernel
theorem dX4_carriesPairings_58 : decode cX4_carriesPairings 58 = .ok (.iload_n 3, 1) := by decide +kernel
theorem dX4_carriesPairings_59 : decode cX4_carriesPairings 59 = .ok (.iconst 2, 1) := by decide +kernel
theorem dX4_carriesPairings_60 : decode cX4_carriesPairings 60 = .ok (.iadd, 1) := by decide +kernel
theorem dX4_carriesPairings_61 : decode cX4_carriesPairings 61 = .ok (.iload 5, 2) := by decide +kernel
theorem dX4_carriesPairings_63 : decode cX4_carriesPairings 63 = .ok (.iconst 1, 1) := by decide +kernel
theorem dX4_carriesPairings_64 : decode cX4_carriesPairings 64 = .ok (.iadd, 1) := by decide +kernel
theorem dX4_carriesPairings_65 : decode cX4_carriesPairings 65 = .ok (.iconst 2, 1) := by decide +kernel
theorem dX4_carriesPairings_66 : decode cX4_carriesPairings 66 = .ok (.idiv, 1) := by decide +kernel
theorem dX4_carriesPairings_67 : decode cX4_carriesPairings 67 = .ok (.invokevirtual 251, 3) := by decide +kernel
theorem dX4_carriesPairings_70 : decode cX4_carriesPairings 70 = .ok (.iconst 0, 1) := by decide +kernel
theorem dX4_carriesPairings_71 : decode cX4_carriesPairings 71 = .ok (.istore 6, 2) := by decide +kernel
theorem dX4_carriesPairings_73 : decode cX4_carriesPairings 73 = .ok (.iload 6, 2) := by decide +kernel
theorem dX4_carriesPairings_75 : decode cX4_carriesPairings 75 = .ok (.iload_n 3, 1) := by decide +kernel
theorem dX4_carriesPairings_76 : decode cX4_carriesPairings 76 = .ok (.if_icmp .ge 44, 3) := by decide +kernel
theorem dX4_carriesPairings_79 : decode cX4_carriesPairings 79 = .ok (.iload 4, 2) := by decide +kernel
theorem dX4_carriesPairings_81 : decode cX4_carriesPairings 81 = .ok (.iload 6, 2) := by decide +kernel
theorem dX4_carriesPairings_83 : decode cX4_carriesPairings 83 = .ok (.invokestatic 215, 3) := by decide +kernel
theorem dX4_carriesPairings_86 : decode cX4_carriesPairings 86 = .ok (.ifCond .eq 16, 3) := by decide +kernel
theorem dX4_carriesPairings_89 : decode cX4_carriesPairings 89 = .ok (.aload_n 2, 1) := by decide +kernel
theorem dX4_carriesPairings_90 : decode cX4_carriesPairings 90 = .ok (.iconst 0, 1) := by decide +kernel
theorem dX4_carriesPairings_91 : decode cX4_carriesPairings 91 = .ok (.iload 6, 2) := by decide +kernel
theorem dX4_carriesPairings_93 : decode cX4_carriesPairings 93 = .ok (.iconst 1, 1) := by decide +kernel
theorem dX4_carriesPairings_94 : decode cX4_carriesPairings 94 = .ok (.iadd, 1) := by decide +kernel
theorem dX4_carriesPairings_95 : decode cX4_carriesPairings 95 = .ok (.iconst 1, 1) := by decide +kernel
theorem dX4_carriesPairings_96 : decode cX4_carriesPairings 96 = .ok (.invokevirtual 255, 3) := by decide +kernel
theorem dX4_carriesPairings_99 : decode cX4_carriesPairings 99 = .ok (.goto 15, 3) := by decide +kernel
theorem dX4_carriesPairings_102 : decode cX4_carriesPairings 102 = .ok (.aload_n 2, 1) := by decide +kernel
theorem dX4_carriesPairings_103 : decode cX4_carriesPairings 103 = .ok (.iload 6, 2) := by decide +kernel
theorem dX4_carriesPairings_105 : decode cX4_carriesPairings 105 = .ok (.iconst 1, 1) := by decide +kernel
theorem dX4_carriesPairings_106 : decode cX4_carriesPairings 106 = .ok (.iadd, 1) := by decide +kernel
theorem dX4_carriesPairings_107 : decode cX4_carriesPairings 107 = .ok (.iload_n 3, 1) := by decide +kernel
theorem dX4_carriesPairings_108 : decode cX4_carriesPairings 108 = .ok (.iconst 1, 1) := by decide +kernel
theorem dX4_carriesPairings_109 : decode cX4_carriesPairings 109 = .ok (.iadd, 1) := by decide +kernel
theorem dX4_carriesPairings_110 : decode cX4_carriesPairings 110 = .ok (.iconst 1, 1) := by decide +kernel
theorem dX4_carriesPairings_111 : decode cX4_carriesPairings 111 = .ok (.invokevirtual 255, 3) := by decide +kernel
theorem dX4_carriesPairings_114 : decode cX4_carriesPairings 114 = .ok (.iinc 6 1, 3) := by decide +kernel
theorem dX4_carriesPairings_117 : decode cX4_carriesPairings 117 = .ok (.goto (-44), 3) := by decide +kernel
theorem dX4_carriesPairings_120 : decode cX4_carriesPairings 120 = .ok (.iconst 0, 1) := by decide +kernel
theorem dX4_carriesPairings_121 : decode cX4_carriesPairings 121 = .ok (.istore 6, 2) := by decide +kernel
theorem dX4_carriesPairings_123 : decode cX4_carriesPairings 123 = .ok (.iload 6, 2) := by decide +kernel
theorem dX4_carriesPairings_125 : decode cX4_carriesPairings 125 = .ok (.aload_n 1, 1) := by decide +kernel
theorem dX4_carriesPairings_126 : decode cX4_carriesPairings 126 = .ok (.getfield 219, 3) := by decide +kernel
theorem dX4_carriesPairings_129 : decode cX4_carriesPairings 129 = .ok (.if_icmp .ge 71, 3) := by decide +kernel
theorem dX4_carriesPairings_132 : decode cX4_carriesPairings 132 = .ok (.aload_n 1, 1) := by decide +kernel
theorem dX4_carriesPairings_133 : decode cX4_carriesPairings 133 = .ok (.iload 6, 2) := by decide +kernel
theorem dX4_carriesPairings_135 : decode cX4_carriesPairings 135 = .ok (.iconst 0, 1) := by decide +kernel
theorem dX4_carriesPairings_136 : decode cX4_carriesPairings 136 = .ok (.invokevirtual 222, 3) := by decide +kernel
theorem dX4_carriesPairings_139 : decode cX4_carriesPairings 139 = .ok (.iconst 1, 1) := by decide +kernel
theorem dX4_carriesPairings_140 : decode cX4_carriesPairings 140 = .ok (.iadd, 1) := by decide +kernel
theorem dX4_carriesPairings_141 : decode cX4_carriesPairings 141 = .ok (.istore 7, 2) := by decide +kernel
theorem dX4_carriesPairings_143 : decode cX4_carriesPairings 143 = .ok (.aload_n 1, 1) := by decide +kernel
theorem dX4_carriesPairings_144 : decode cX4_carriesPairings 144 = .ok (.iload 6, 2) := by decide +kernel
theorem dX4_carriesPairings_146 : decode cX4_carriesPairings 146 = .ok (.iconst 1, 1) := by decide +kernel
theorem dX4_carriesPairings_147 : decode cX4_carriesPairings 147 = .ok (.invokevirtual 222, 3) := by decide +kernel
theorem dX4_carriesPairings_150 : decode cX4_carriesPairings 150 = .ok (.iconst 1, 1) := by decide +kernel
theorem dX4_carriesPairings_151 : decode cX4_carriesPairings 151 = .ok (.iadd, 1) := by decide +kernel
theorem dX4_carriesPairings_152 : decode cX4_carriesPairings 152 = .ok (.istore 8, 2) := by decide +kernel
theorem dX4_carriesPairings_154 : decode cX4_carriesPairings 154 = .ok (.iload 4, 2) := by decide +kernel
theorem dX4_carriesPairings_156 : decode cX4_carriesPairings 156 = .ok (.iload 7, 2) := by decide +kernel
theorem dX4_carriesPairings_158 : decode cX4_carriesPairings 158 = .ok (.iconst 1, 1) := by decide +kernel
theorem dX4_carriesPairings_159 : decode cX4_carriesPairings 159 = .ok (.isub, 1) := by decide +kernel
theorem dX4_carriesPairings_160 : decode cX4_carriesPairings 160 = .ok (.invokestatic 215, 3) := by decide +kernel
theorem dX4_carriesPairings_163 : decode cX4_carriesPairings 163 = .ok (.istore 9, 2) := by decide +kernel
theorem dX4_carriesPairings_165 : decode cX4_carriesPairings 165 = .ok (.aload_n 2, 1) := by decide +kernel
theorem dX4_carriesPairings_166 : decode cX4_carriesPairings 166 = .ok (.iload 9, 2) := by decide +kernel
theorem dX4_carriesPairings_168 : decode cX4_carriesPairings 168 = .ok (.ifCond .eq 8, 3) := by decide +kernel
theorem dX4_carriesPairings_171 : decode cX4_carriesPairings 171 = .ok (.iload 7, 2) := by decide +kernel
theorem dX4_carriesPairings_173 : decode cX4_carriesPairings 173 = .ok (.goto 5, 3) := by decide +kernel
theorem dX4_carriesPairings_176 : decode cX4_carriesPairings 176 = .ok (.iload 8, 2) := by decide +kernel
theorem dX4_carriesPairings_178 : decode cX4_carriesPairings 178 = .ok (.iload 9, 2) := by decide +kernel
theorem dX4_carriesPairings_180 : decode cX4_carriesPairings 180 = .ok (.ifCond .eq 8, 3) := by decide +kernel
theorem dX4_carriesPairings_183 : decode cX4_carriesPairings 183 = .ok (.iload 8, 2) := by decide +kernel
theorem dX4_carriesPairings_185 : decode cX4_carriesPairings 185 = .ok (.goto 5, 3) := by decide +kernel
theorem dX4_carriesPairings_188 : decode cX4_carriesPairings 188 = .ok (.iload 7, 2) := by decide +kernel
theorem dX4_carriesPairings_190 : decode cX4_carriesPairings 190 = .ok (.iconst 1, 1) := by decide +kernel
theorem dX4_carriesPairings_191 : decode cX4_carriesPairings 191 = .ok (.invokevirtual 255, 3) := by decide +kernel
theorem dX4_carriesPairings_194 : decode cX4_carriesPairings 194 = .ok (.iinc 6 1, 3) := by decide +kernel
theorem dX4_carriesPairings_197 : decode cX4_carriesPairings 197 = .ok (.goto (-74), 3) := by decide +kernel
theorem dX4_carriesPairings_200 : decode cX4_carriesPairings 200 = .ok (.iconst 1, 1) := by decide +kernel
theorem dX4_carriesPairings_201 : decode cX4_carriesPairings 201 = .ok (.ireturn, 1) := by decide +kernel
theorem dX4_leftSide_0 : decode cX4_leftSide 0 = .ok (.aload_n 1, 1) := by decide +kernel
theorem dX4_leftSide_1 : decode cX4_leftSide 1 = .ok (.aload_n 0, 1) := by decide +kernel
theorem dX4_leftSide_2 : decode cX4_leftSide 2 = .ok (.getfield 60, 3) := by decide +kernel
theorem dX4_leftSide_5 : decode cX4_leftSide 5 = .ok (.iconst (-1), 1) := by decide +kernel
theorem dX4_leftSide_6 : decode cX4_leftSide 6 = .ok (.invokevirtual 258, 3) := by decide +kernel
theorem dX4_leftSide_9 : decode cX4_leftSide 9 = .ok (.iconst 0, 1) := by decide +kernel
theorem dX4_leftSide_10 : decode cX4_leftSide 10 = .ok (.istore_n 2, 1) := by decide +kernel
theorem dX4_leftSide_11 : decode cX4_leftSide 11 = .ok (.iconst 0, 1) := by decide +kernel
theorem dX4_leftSide_12 : decode cX4_leftSide 12 = .ok (.istore_n 3, 1) := by decide +kernel
theorem dX4_leftSide_13 : decode cX4_leftSide 13 = .ok (.iconst 0, 1) := by decide +kernel
theorem dX4_leftSide_14 : decode cX4_leftSide 14 = .ok (.istore 4, 2) := by decide +kernel
theorem dX4_leftSide_16 : decode cX4_leftSide 16 = .ok (.iload 4, 2) := by decide +kernel
theorem dX4_leftSide_18 : decode cX4_leftSide 18 = .ok (.aload_n 1, 1) := by decide +kernel
theorem dX4_leftSide_19 : decode cX4_leftSide 19 = .ok (.getfield 191, 3) := by decide +kernel
theorem dX4_leftSide_22 : decode cX4_leftSide 22 = .ok (.if_icmp .ge 61, 3) := by decide +kernel
theorem dX4_leftSide_25 : decode cX4_leftSide 25 = .ok (.iload_n 2, 1) := by decide +kernel
theorem dX4_leftSide_26 : decode cX4_leftSide 26 = .ok (.iload_n 3, 1) := by decide +kernel
theorem dX4_leftSide_27 : decode cX4_leftSide 27 = .ok (.ior, 1) := by decide +kernel
theorem dX4_leftSide_28 : decode cX4_leftSide 28 = .ok (.iload 4, 2) := by decide +kernel
theorem dX4_leftSide_30 : decode cX4_leftSide 30 = .ok (.invokestatic 215, 3) := by decide +kernel
theorem dX4_leftSide_33 : decode cX4_leftSide 33 = .ok (.ifCond .ne 10, 3) := by decide +kernel
theorem dX4_leftSide_36 : decode cX4_leftSide 36 = .ok (.iload_n 2, 1) := by decide +kernel
theorem dX4_leftSide_37 : decode cX4_leftSide 37 = .ok (.iconst 1, 1) := by decide +kernel
theorem dX4_leftSide_38 : decode cX4_leftSide 38 = .ok (.iload 4, 2) := by decide +kernel
theorem dX4_leftSide_40 : decode cX4_leftSide 40 = .ok (.ishl, 1) := by decide +kernel
theorem dX4_leftSide_41 : decode cX4_leftSide 41 = .ok (.ior, 1) := by decide +kernel
theorem dX4_leftSide_42 : decode cX4_leftSide 42 = .ok (.istore_n 2, 1) := by decide +kernel
theorem dX4_leftSide_43 : decode cX4_leftSide 43 = .ok (.iconst 0, 1) := by decide +kernel
theorem dX4_leftSide_44 : decode cX4_leftSide 44 = .ok (.istore 5, 2) := by decide +kernel
theorem dX4_leftSide_46 : decode cX4_leftSide 46 = .ok (.iload 5, 2) := by decide +kernel
theorem dX4_leftSide_48 : decode cX4_leftSide 48 = .ok (.aload_n 1, 1) := by decide +kernel
theorem dX4_leftSide_49 : decode cX4_leftSide 49 = .ok (.getfield 191, 3) := by decide +kernel
theorem dX4_leftSide_52 : decode cX4_leftSide 52 = .ok (.if_icmp .ge 25, 3) := by decide +kernel
theorem dX4_leftSide_55 : decode cX4_leftSide 55 = .ok (.iload_n 3, 1) := by decide +kernel
theorem dX4_leftSide_56 : decode cX4_leftSide 56 = .ok (.aload_n 0, 1) := by decide +kernel
theorem dX4_leftSide_57 : decode cX4_leftSide 57 = .ok (.iload_n 2, 1) := by decide +kernel
theorem dX4_leftSide_58 : decode cX4_leftSide 58 = .ok (.invokevirtual 262, 3) := by decide +kernel
theorem dX4_leftSide_61 : decode cX4_leftSide 61 = .ok (.ior, 1) := by decide +kernel
theorem dX4_leftSide_62 : decode cX4_leftSide 62 = .ok (.istore_n 3, 1) := by decide +kernel
theorem dX4_leftSide_63 : decode cX4_leftSide 63 = .ok (.iload_n 2, 1) := by decide +kernel
theorem dX4_leftSide_64 : decode cX4_leftSide 64 = .ok (.aload_n 0, 1) := by decide +kernel
theorem dX4_leftSide_65 : decode cX4_leftSide 65 = .ok (.iload_n 3, 1) := by decide +kernel
theorem dX4_leftSide_66 : decode cX4_leftSide 66 = .ok (.invokevirtual 262, 3) := by decide +kernel
theorem dX4_leftSide_69 : decode cX4_leftSide 69 = .ok (.ior, 1) := by decide +kernel
theorem dX4_leftSide_70 : decode cX4_leftSide 70 = .ok (.istore_n 2, 1) := by decide +kernel
theorem dX4_leftSide_71 : decode cX4_leftSide 71 = .ok (.iinc 5 1, 3) := by decide +kernel
theorem dX4_leftSide_74 : decode cX4_leftSide 74 = .ok (.goto (-28), 3) := by decide +kernel
theorem dX4_leftSide_77 : decode cX4_leftSide 77 = .ok (.iinc 4 1, 3) := by decide +kernel
theorem dX4_leftSide_80 : decode cX4_leftSide 80 = .ok (.goto (-64), 3) := by decide +kernel
theorem dX4_leftSide_83 : decode cX4_leftSide 83 = .ok (.iload_n 2, 1) := by decide +kernel
theorem dX4_leftSide_84 : decode cX4_leftSide 84 = .ok (.iload_n 3, 1) := by decide +kernel
theorem dX4_leftSide_85 : decode cX4_leftSide 85 = .ok (.iand, 1) := by decide +kernel
theorem dX4_leftSide_86 : decode cX4_leftSide 86 = .ok (.ifCond .ne 7, 3) := by decide +kernel
theorem dX4_leftSide_89 : decode cX4_leftSide 89 = .ok (.iload_n 2, 1) := by decide +kernel
theorem dX4_leftSide_90 : decode cX4_leftSide 90 = .ok (.goto 4, 3) := by decide +kernel
theorem dX4_leftSide_93 : decode cX4_leftSide 93 = .ok (.iconst (-1), 1) := by decide +kernel
theorem dX4_leftSide_94 : decode cX4_leftSide 94 = .ok (.ireturn, 1) := by decide +kernel
theorem dX4_neighboursOf_0 : decode cX4_neighboursOf 0 = .ok (.iconst 0, 1) := by decide +kernel
theorem dX4_neighboursOf_1 : decode cX4_neighboursOf 1 = .ok (.istore_n 2, 1) := by decide +kernel
theorem dX4_neighboursOf_2 : decode cX4_neighboursOf 2 = .ok (.iconst 0, 1) := by decide +kernel
theorem dX4_neighboursOf_3 : decode cX4_neighboursOf 3 = .ok (.istore_n 3, 1) := by decide +kernel
theorem dX4_neighboursOf_4 : decode cX4_neighboursOf 4 = .ok (.iload_n 3, 1) := by decide +kernel
theorem dX4_neighboursOf_5 : decode cX4_neighboursOf 5 = .ok (.aload_n 0, 1) := by decide +kernel
theorem dX4_neighboursOf_6 : decode cX4_neighboursOf 6 = .ok (.getfield 60, 3) := by decide +kernel
theorem dX4_neighboursOf_9 : decode cX4_neighboursOf 9 = .ok (.arraylength, 1) := by decide +kernel
theorem dX4_neighboursOf_10 : decode cX4_neighboursOf 10 = .ok (.if_icmp .ge 26, 3) := by decide +kernel
theorem dX4_neighboursOf_13 : decode cX4_neighboursOf 13 = .ok (.iload_n 1, 1) := by decide +kernel
theorem dX4_neighboursOf_14 : decode cX4_neighboursOf 14 = .ok (.iload_n 3, 1) := by decide +kernel
theorem dX4_neighboursOf_15 : decode cX4_neighboursOf 15 = .ok (.invokestatic 215, 3) := by decide +kernel
theorem dX4_neighboursOf_18 : decode cX4_neighboursOf 18 = .ok (.ifCond .eq 12, 3) := by decide +kernel
theorem dX4_neighboursOf_21 : decode cX4_neighboursOf 21 = .ok (.iload_n 2, 1) := by decide +kernel
theorem dX4_neighboursOf_22 : decode cX4_neighboursOf 22 = .ok (.aload_n 0, 1) := by decide +kernel
theorem dX4_neighboursOf_23 : decode cX4_neighboursOf 23 = .ok (.getfield 60, 3) := by decide +kernel
theorem dX4_neighboursOf_26 : decode cX4_neighboursOf 26 = .ok (.iload_n 3, 1) := by decide +kernel
theorem dX4_neighboursOf_27 : decode cX4_neighboursOf 27 = .ok (.iaload, 1) := by decide +kernel
theorem dX4_neighboursOf_28 : decode cX4_neighboursOf 28 = .ok (.ior, 1) := by decide +kernel
theorem dX4_neighboursOf_29 : decode cX4_neighboursOf 29 = .ok (.istore_n 2, 1) := by decide +kernel
theorem dX4_neighboursOf_30 : decode cX4_neighboursOf 30 = .ok (.iinc 3 1, 3) := by decide +kernel
theorem dX4_neighboursOf_33 : decode cX4_neighboursOf 33 = .ok (.goto (-29), 3) := by decide +kernel
theorem dX4_neighboursOf_36 : decode cX4_neighboursOf 36 = .ok (.iload_n 2, 1) := by decide +kernel
theorem dX4_neighboursOf_37 : decode cX4_neighboursOf 37 = .ok (.ireturn, 1) := by decide +kernel
theorem dX4_carriesFlows_0 : decode cX4_carriesFlows 0 = .ok (.aload_n 1, 1) := by decide +kernel
theorem dX4_carriesFlows_1 : decode cX4_carriesFlows 1 = .ok (.getfield 219, 3) := by decide +kernel
theorem dX4_carriesFlows_4 : decode cX4_carriesFlows 4 = .ok (.istore_n 3, 1) := by decide +kernel
theorem dX4_carriesFlows_5 : decode cX4_carriesFlows 5 = .ok (.iload_n 3, 1) := by decide +kernel
theorem dX4_carriesFlows_6 : decode cX4_carriesFlows 6 = .ok (.iconst 2, 1) := by decide +kernel
theorem dX4_carriesFlows_7 : decode cX4_carriesFlows 7 = .ok (.aload_n 1, 1) := by decide +kernel
theorem dX4_carriesFlows_8 : decode cX4_carriesFlows 8 = .ok (.getfield 191, 3) := by decide +kernel
theorem dX4_carriesFlows_11 : decode cX4_carriesFlows 11 = .ok (.iconst 2, 1) := by decide +kernel
theorem dX4_carriesFlows_12 : decode cX4_carriesFlows 12 = .ok (.isub, 1) := by decide +kernel
theorem dX4_carriesFlows_13 : decode cX4_carriesFlows 13 = .ok (.imul, 1) := by decide +kernel
theorem dX4_carriesFlows_14 : decode cX4_carriesFlows 14 = .ok (.iadd, 1) := by decide +kernel
theorem dX4_carriesFlows_15 : decode cX4_carriesFlows 15 = .ok (.iconst 2, 1) := by decide +kernel
theorem dX4_carriesFlows_16 : decode cX4_carriesFlows 16 = .ok (.iadd, 1) := by decide +kernel
theorem dX4_carriesFlows_17 : decode cX4_carriesFlows 17 = .ok (.istore 4, 2) := by decide +kernel
theorem dX4_carriesFlows_19 : decode cX4_carriesFlows 19 = .ok (.iload_n 3, 1) := by decide +kernel
theorem dX4_carriesFlows_20 : decode cX4_carriesFlows 20 = .ok (.iconst 1, 1) := by decide +kernel
theorem dX4_carriesFlows_21 : decode cX4_carriesFlows 21 = .ok (.if_icmp .lt 22, 3) := by decide +kernel
theorem dX4_carriesFlows_24 : decode cX4_carriesFlows 24 = .ok (.iload_n 3, 1) := by decide +kernel
theorem dX4_carriesFlows_25 : decode cX4_carriesFlows 25 = .ok (.getstatic 240, 3) := by decide +kernel
theorem dX4_carriesFlows_28 : decode cX4_carriesFlows 28 = .ok (.iconst 3, 1) := by decide +kernel
theorem dX4_carriesFlows_29 : decode cX4_carriesFlows 29 = .ok (.iaload, 1) := by decide +kernel
theorem dX4_carriesFlows_30 : decode cX4_carriesFlows 30 = .ok (.if_icmp .gt 13, 3) := by decide +kernel
theorem dX4_carriesFlows_33 : decode cX4_carriesFlows 33 = .ok (.iload 4, 2) := by decide +kernel
theorem dX4_carriesFlows_35 : decode cX4_carriesFlows 35 = .ok (.getstatic 243, 3) := by decide +kernel
theorem dX4_carriesFlows_38 : decode cX4_carriesFlows 38 = .ok (.iconst 3, 1) := by decide +kernel
theorem dX4_carriesFlows_39 : decode cX4_carriesFlows 39 = .ok (.iaload, 1) := by decide +kernel
theorem dX4_carriesFlows_40 : decode cX4_carriesFlows 40 = .ok (.if_icmp .le 5, 3) := by decide +kernel
theorem dX4_carriesFlows_43 : decode cX4_carriesFlows 43 = .ok (.iconst 0, 1) := by decide +kernel
theorem dX4_carriesFlows_44 : decode cX4_carriesFlows 44 = .ok (.ireturn, 1) := by decide +kernel
theorem dX4_carriesFlows_45 : decode cX4_carriesFlows 45 = .ok (.aload_n 2, 1) := by decide +kernel
theorem dX4_carriesFlows_46 : decode cX4_carriesFlows 46 = .ok (.iconst 3, 1) := by decide +kernel
theorem dX4_carriesFlows_47 : decode cX4_carriesFlows 47 = .ok (.iload_n 3, 1) := by decide +kernel
theorem dX4_carriesFlows_48 : decode cX4_carriesFlows 48 = .ok (.getstatic 266, 3) := by decide +kernel
theorem dX4_carriesFlows_51 : decode cX4_carriesFlows 51 = .ok (.iconst 3, 1) := by decide +kernel
theorem dX4_carriesFlows_52 : decode cX4_carriesFlows 52 = .ok (.iaload, 1) := by decide +kernel
theorem dX4_carriesFlows_53 : decode cX4_carriesFlows 53 = .ok (.invokevirtual 251, 3) := by decide +kernel
theorem dX4_carriesFlows_56 : decode cX4_carriesFlows 56 = .ok (.iconst 0, 1) := by decide +kernel
theorem dX4_carriesFlows_57 : decode cX4_carriesFlows 57 = .ok (.istore 5, 2) := by decide +kernel
theorem dX4_carriesFlows_59 : decode cX4_carriesFlows 59 = .ok (.iload 5, 2) := by decide +kernel
theorem dX4_carriesFlows_61 : decode cX4_carriesFlows 61 = .ok (.iload_n 3, 1) := by decide +kernel
theorem dX4_carriesFlows_62 : decode cX4_carriesFlows 62 = .ok (.if_icmp .ge 39, 3) := by decide +kernel
theorem dX4_carriesFlows_65 : decode cX4_carriesFlows 65 = .ok (.aload_n 2, 1) := by decide +kernel
theorem dX4_carriesFlows_66 : decode cX4_carriesFlows 66 = .ok (.iconst 0, 1) := by decide +kernel
theorem dX4_carriesFlows_67 : decode cX4_carriesFlows 67 = .ok (.iconst 0, 1) := by decide +kernel
theorem dX4_carriesFlows_68 : decode cX4_carriesFlows 68 = .ok (.iconst 0, 1) := by decide +kernel
theorem dX4_carriesFlows_69 : decode cX4_carriesFlows 69 = .ok (.invokevirtual 255, 3) := by decide +kernel
theorem dX4_carriesFlows_72 : decode cX4_carriesFlows 72 = .ok (.aload_n 2, 1) := by decide +kernel
theorem dX4_carriesFlows_73 : decode cX4_carriesFlows 73 = .ok (.iload 5, 2) := by decide +kernel
theorem dX4_carriesFlows_75 : decode cX4_carriesFlows 75 = .ok (.iload 5, 2) := by decide +kernel
theorem dX4_carriesFlows_77 : decode cX4_carriesFlows 77 = .ok (.iconst 1, 1) := by decide +kernel
theorem dX4_carriesFlows_78 : decode cX4_carriesFlows 78 = .ok (.invokevirtual 269, 3) := by decide +kernel
theorem dX4_carriesFlows_81 : decode cX4_carriesFlows 81 = .ok (.aload_n 2, 1) := by decide +kernel
theorem dX4_carriesFlows_82 : decode cX4_carriesFlows 82 = .ok (.iload 5, 2) := by decide +kernel
theorem dX4_carriesFlows_84 : decode cX4_carriesFlows 84 = .ok (.iconst 4, 1) := by decide +kernel
theorem dX4_carriesFlows_85 : decode cX4_carriesFlows 85 = .ok (.aload_n 1, 1) := by decide +kernel
theorem dX4_carriesFlows_86 : decode cX4_carriesFlows 86 = .ok (.iload 5, 2) := by decide +kernel
theorem dX4_carriesFlows_88 : decode cX4_carriesFlows 88 = .ok (.iconst 2, 1) := by decide +kernel
theorem dX4_carriesFlows_89 : decode cX4_carriesFlows 89 = .ok (.invokevirtual 222, 3) := by decide +kernel
theorem dX4_carriesFlows_92 : decode cX4_carriesFlows 92 = .ok (.invokevirtual 269, 3) := by decide +kernel
theorem dX4_carriesFlows_95 : decode cX4_carriesFlows 95 = .ok (.iinc 5 1, 3) := by decide +kernel
theorem dX4_carriesFlows_98 : decode cX4_carriesFlows 98 = .ok (.goto (-39), 3) := by decide +kernel
theorem dX4_carriesFlows_101 : decode cX4_carriesFlows 101 = .ok (.iconst 1, 1) := by decide +kernel
theorem dX4_carriesFlows_102 : decode cX4_carriesFlows 102 = .ok (.istore 5, 2) := by decide +kernel
theorem dX4_carriesFlows_104 : decode cX4_carriesFlows 104 = .ok (.iload 5, 2) := by decide +kernel
theorem dX4_carriesFlows_106 : decode cX4_carriesFlows 106 = .ok (.aload_n 1, 1) := by decide +kernel
theorem dX4_carriesFlows_107 : decode cX4_carriesFlows 107 = .ok (.getfield 191, 3) := by decide +kernel
theorem dX4_carriesFlows_110 : decode cX4_carriesFlows 110 = .ok (.iconst 1, 1) := by decide +kernel
theorem dX4_carriesFlows_111 : decode cX4_carriesFlows 111 = .ok (.isub, 1) := by decide +kernel
theorem dX4_carriesFlows_112 : decode cX4_carriesFlows 112 = .ok (.if_icmp .ge 27, 3) := by decide +kernel
theorem dX4_carriesFlows_115 : decode cX4_carriesFlows 115 = .ok (.aload_n 1, 1) := by decide +kernel
theorem dX4_carriesFlows_116 : decode cX4_carriesFlows 116 = .ok (.aload_n 2, 1) := by decide +kernel
theorem dX4_carriesFlows_117 : decode cX4_carriesFlows 117 = .ok (.iload 5, 2) := by decide +kernel
theorem dX4_carriesFlows_119 : decode cX4_carriesFlows 119 = .ok (.iconst (-1), 1) := by decide +kernel
theorem dX4_carriesFlows_120 : decode cX4_carriesFlows 120 = .ok (.iconst 0, 1) := by decide +kernel
theorem dX4_carriesFlows_121 : decode cX4_carriesFlows 121 = .ok (.invokestatic 272, 3) := by decide +kernel
theorem dX4_carriesFlows_124 : decode cX4_carriesFlows 124 = .ok (.aload_n 1, 1) := by decide +kernel
theorem dX4_carriesFlows_125 : decode cX4_carriesFlows 125 = .ok (.aload_n 2, 1) := by decide +kernel
theorem dX4_carriesFlows_126 : decode cX4_carriesFlows 126 = .ok (.iload 5, 2) := by decide +kernel
theorem dX4_carriesFlows_128 : decode cX4_carriesFlows 128 = .ok (.iconst 1, 1) := by decide +kernel
theorem dX4_carriesFlows_129 : decode cX4_carriesFlows 129 = .ok (.iconst 0, 1) := by decide +kernel
theorem dX4_carriesFlows_130 : decode cX4_carriesFlows 130 = .ok (.invokestatic 272, 3) := by decide +kernel
theorem dX4_carriesFlows_133 : decode cX4_carriesFlows 133 = .ok (.iinc 5 1, 3) := by decide +kernel
theorem dX4_carriesFlows_136 : decode cX4_carriesFlows 136 = .ok (.goto (-32), 3) := by decide +kernel
theorem dX4_carriesFlows_139 : decode cX4_carriesFlows 139 = .ok (.aload_n 1, 1) := by decide +kernel
theorem dX4_carriesFlows_140 : decode cX4_carriesFlows 140 = .ok (.aload_n 2, 1) := by decide +kernel
theorem dX4_carriesFlows_141 : decode cX4_carriesFlows 141 = .ok (.iconst 0, 1) := by decide +kernel
theorem dX4_carriesFlows_142 : decode cX4_carriesFlows 142 = .ok (.iconst 1, 1) := by decide +kernel
theorem dX4_carriesFlows_143 : decode cX4_carriesFlows 143 = .ok (.aload_n 1, 1) := by decide +kernel
theorem dX4_carriesFlows_144 : decode cX4_carriesFlows 144 = .ok (.getfield 116, 3) := by decide +kernel
theorem dX4_carriesFlows_147 : decode cX4_carriesFlows 147 = .ok (.invokestatic 272, 3) := by decide +kernel
theorem dX4_carriesFlows_150 : decode cX4_carriesFlows 150 = .ok (.aload_n 1, 1) := by decide +kernel
theorem dX4_carriesFlows_151 : decode cX4_carriesFlows 151 = .ok (.aload_n 2, 1) := by decide +kernel
theorem dX4_carriesFlows_152 : decode cX4_carriesFlows 152 = .ok (.iconst 0, 1) := by decide +kernel
theorem dX4_carriesFlows_153 : decode cX4_carriesFlows 153 = .ok (.iconst (-1), 1) := by decide +kernel
theorem dX4_carriesFlows_154 : decode cX4_carriesFlows 154 = .ok (.aload_n 1, 1) := by decide +kernel
theorem dX4_carriesFlows_155 : decode cX4_carriesFlows 155 = .ok (.getfield 116, 3) := by decide +kernel
theorem dX4_carriesFlows_158 : decode cX4_carriesFlows 158 = .ok (.ineg, 1) := by decide +kernel
theorem dX4_carriesFlows_159 : decode cX4_carriesFlows 159 = .ok (.invokestatic 272, 3) := by decide +kernel
theorem dX4_carriesFlows_162 : decode cX4_carriesFlows 162 = .ok (.iconst 1, 1) := by decide +kernel
theorem dX4_carriesFlows_163 : decode cX4_carriesFlows 163 = .ok (.ireturn, 1) := by decide +kernel
theorem dX4_addBalance_0 : decode cX4_addBalance 0 = .ok (.aload_n 1, 1) := by decide +kernel
theorem dX4_addBalance_1 : decode cX4_addBalance 1 = .ok (.getfield 219, 3) := by decide +kernel
theorem dX4_addBalance_4 : decode cX4_addBalance 4 = .ok (.istore 5, 2) := by decide +kernel
theorem dX4_addBalance_6 : decode cX4_addBalance 6 = .ok (.aload_n 1, 1) := by decide +kernel
theorem dX4_addBalance_7 : decode cX4_addBalance 7 = .ok (.iconst 0, 1) := by decide +kernel
theorem dX4_addBalance_8 : decode cX4_addBalance 8 = .ok (.iconst 0, 1) := by decide +kernel
theorem dX4_addBalance_9 : decode cX4_addBalance 9 = .ok (.iconst 0, 1) := by decide +kernel
theorem dX4_addBalance_10 : decode cX4_addBalance 10 = .ok (.invokevirtual 255, 3) := by decide +kernel
theorem dX4_addBalance_13 : decode cX4_addBalance 13 = .ok (.iconst 0, 1) := by decide +kernel
theorem dX4_addBalance_14 : decode cX4_addBalance 14 = .ok (.istore 6, 2) := by decide +kernel
theorem dX4_addBalance_16 : decode cX4_addBalance 16 = .ok (.iload 6, 2) := by decide +kernel
theorem dX4_addBalance_18 : decode cX4_addBalance 18 = .ok (.aload_n 0, 1) := by decide +kernel
theorem dX4_addBalance_19 : decode cX4_addBalance 19 = .ok (.getfield 219, 3) := by decide +kernel
theorem dX4_addBalance_22 : decode cX4_addBalance 22 = .ok (.if_icmp .ge 50, 3) := by decide +kernel
theorem dX4_addBalance_25 : decode cX4_addBalance 25 = .ok (.aload_n 0, 1) := by decide +kernel
theorem dX4_addBalance_26 : decode cX4_addBalance 26 = .ok (.iload 6, 2) := by decide +kernel
theorem dX4_addBalance_28 : decode cX4_addBalance 28 = .ok (.iconst 0, 1) := by decide +kernel
theorem dX4_addBalance_29 : decode cX4_addBalance 29 = .ok (.invokevirtual 222, 3) := by decide +kernel
theorem dX4_addBalance_32 : decode cX4_addBalance 32 = .ok (.iload_n 2, 1) := by decide +kernel
theorem dX4_addBalance_33 : decode cX4_addBalance 33 = .ok (.if_icmp .ne 12, 3) := by decide +kernel
theorem dX4_addBalance_36 : decode cX4_addBalance 36 = .ok (.aload_n 1, 1) := by decide +kernel
theorem dX4_addBalance_37 : decode cX4_addBalance 37 = .ok (.iload 5, 2) := by decide +kernel
theorem dX4_addBalance_39 : decode cX4_addBalance 39 = .ok (.iload 6, 2) := by decide +kernel
theorem dX4_addBalance_41 : decode cX4_addBalance 41 = .ok (.iload_n 3, 1) := by decide +kernel
theorem dX4_addBalance_42 : decode cX4_addBalance 42 = .ok (.invokevirtual 269, 3) := by decide +kernel
theorem dX4_addBalance_45 : decode cX4_addBalance 45 = .ok (.aload_n 0, 1) := by decide +kernel
theorem dX4_addBalance_46 : decode cX4_addBalance 46 = .ok (.iload 6, 2) := by decide +kernel
theorem dX4_addBalance_48 : decode cX4_addBalance 48 = .ok (.iconst 1, 1) := by decide +kernel
theorem dX4_addBalance_49 : decode cX4_addBalance 49 = .ok (.invokevirtual 222, 3) := by decide +kernel
theorem dX4_addBalance_52 : decode cX4_addBalance 52 = .ok (.iload_n 2, 1) := by decide +kernel
theorem dX4_addBalance_53 : decode cX4_addBalance 53 = .ok (.if_icmp .ne 13, 3) := by decide +kernel
theorem dX4_addBalance_56 : decode cX4_addBalance 56 = .ok (.aload_n 1, 1) := by decide +kernel
theorem dX4_addBalance_57 : decode cX4_addBalance 57 = .ok (.iload 5, 2) := by decide +kernel
theorem dX4_addBalance_59 : decode cX4_addBalance 59 = .ok (.iload 6, 2) := by decide +kernel
theorem dX4_addBalance_61 : decode cX4_addBalance 61 = .ok (.iload_n 3, 1) := by decide +kernel
theorem dX4_addBalance_62 : decode cX4_addBalance 62 = .ok (.ineg, 1) := by decide +kernel
theorem dX4_addBalance_63 : decode cX4_addBalance 63 = .ok (.invokevirtual 269, 3) := by decide +kernel
theorem dX4_addBalance_66 : decode cX4_addBalance 66 = .ok (.iinc 6 1, 3) := by decide +kernel
theorem dX4_addBalance_69 : decode cX4_addBalance 69 = .ok (.goto (-53), 3) := by decide +kernel
theorem dX4_addBalance_72 : decode cX4_addBalance 72 = .ok (.aload_n 1, 1) := by decide +kernel
theorem dX4_addBalance_73 : decode cX4_addBalance 73 = .ok (.iload 5, 2) := by decide +kernel
theorem dX4_addBalance_75 : decode cX4_addBalance 75 = .ok (.iconst 4, 1) := by decide +kernel
theorem dX4_addBalance_76 : decode cX4_addBalance 76 = .ok (.iload 4, 2) := by decide +kernel
theorem dX4_addBalance_78 : decode cX4_addBalance 78 = .ok (.invokevirtual 269, 3) := by decide +kernel
theorem dX4_addBalance_81 : decode cX4_addBalance 81 = .ok (.return_, 1) := by decide +kernel
theorem dX4_carriesEdges_0 : decode cX4_carriesEdges 0 = .ok (.aload_n 1, 1) := by decide +kernel
theorem dX4_carriesEdges_1 : decode cX4_carriesEdges 1 = .ok (.getfield 219, 3) := by decide +kernel
theorem dX4_carriesEdges_4 : decode cX4_carriesEdges 4 = .ok (.istore_n 3, 1) := by decide +kernel
theorem dX4_carriesEdges_5 : decode cX4_carriesEdges 5 = .ok (.aload_n 1, 1) := by decide +kernel
theorem dX4_carriesEdges_6 : decode cX4_carriesEdges 6 = .ok (.getfield 116, 3) := by decide +kernel
theorem dX4_carriesEdges_9 : decode cX4_carriesEdges 9 = .ok (.ifCond .ne 17, 3) := by decide +kernel
theorem dX4_carriesEdges_12 : decode cX4_carriesEdges 12 = .ok (.iload_n 3, 1) := by decide +kernel
theorem dX4_carriesEdges_13 : decode cX4_carriesEdges 13 = .ok (.iconst 1, 1) := by decide +kernel
theorem dX4_carriesEdges_14 : decode cX4_carriesEdges 14 = .ok (.if_icmp .lt 12, 3) := by decide +kernel
theorem dX4_carriesEdges_17 : decode cX4_carriesEdges 17 = .ok (.iload_n 3, 1) := by decide +kernel
theorem dX4_carriesEdges_18 : decode cX4_carriesEdges 18 = .ok (.getstatic 240, 3) := by decide +kernel
theorem dX4_carriesEdges_21 : decode cX4_carriesEdges 21 = .ok (.iconst 4, 1) := by decide +kernel
theorem dX4_carriesEdges_22 : decode cX4_carriesEdges 22 = .ok (.iaload, 1) := by decide +kernel
theorem dX4_carriesEdges_23 : decode cX4_carriesEdges 23 = .ok (.if_icmp .le 5, 3) := by decide +kernel
theorem dX4_carriesEdges_26 : decode cX4_carriesEdges 26 = .ok (.iconst 0, 1) := by decide +kernel
theorem dX4_carriesEdges_27 : decode cX4_carriesEdges 27 = .ok (.ireturn, 1) := by decide +kernel
theorem dX4_carriesEdges_28 : decode cX4_carriesEdges 28 = .ok (.aload_n 2, 1) := by decide +kernel
theorem dX4_carriesEdges_29 : decode cX4_carriesEdges 29 = .ok (.iconst 4, 1) := by decide +kernel
theorem dX4_carriesEdges_30 : decode cX4_carriesEdges 30 = .ok (.iload_n 3, 1) := by decide +kernel
theorem dX4_carriesEdges_31 : decode cX4_carriesEdges 31 = .ok (.iload_n 3, 1) := by decide +kernel
theorem dX4_carriesEdges_32 : decode cX4_carriesEdges 32 = .ok (.invokevirtual 251, 3) := by decide +kernel
theorem dX4_carriesEdges_35 : decode cX4_carriesEdges 35 = .ok (.iconst 0, 1) := by decide +kernel
theorem dX4_carriesEdges_36 : decode cX4_carriesEdges 36 = .ok (.istore 4, 2) := by decide +kernel
theorem dX4_carriesEdges_38 : decode cX4_carriesEdges 38 = .ok (.iload 4, 2) := by decide +kernel
theorem dX4_carriesEdges_40 : decode cX4_carriesEdges 40 = .ok (.aload_n 1, 1) := by decide +kernel
theorem dX4_carriesEdges_41 : decode cX4_carriesEdges 41 = .ok (.getfield 191, 3) := by decide +kernel
theorem dX4_carriesEdges_44 : decode cX4_carriesEdges 44 = .ok (.if_icmp .ge 21, 3) := by decide +kernel
theorem dX4_carriesEdges_47 : decode cX4_carriesEdges 47 = .ok (.aload_n 1, 1) := by decide +kernel
theorem dX4_carriesEdges_48 : decode cX4_carriesEdges 48 = .ok (.aload_n 2, 1) := by decide +kernel
theorem dX4_carriesEdges_49 : decode cX4_carriesEdges 49 = .ok (.iload 4, 2) := by decide +kernel
theorem dX4_carriesEdges_51 : decode cX4_carriesEdges 51 = .ok (.invokestatic 276, 3) := by decide +kernel
theorem dX4_carriesEdges_54 : decode cX4_carriesEdges 54 = .ok (.ifCond .ne 5, 3) := by decide +kernel
theorem dX4_carriesEdges_57 : decode cX4_carriesEdges 57 = .ok (.iconst 0, 1) := by decide +kernel
theorem dX4_carriesEdges_58 : decode cX4_carriesEdges 58 = .ok (.ireturn, 1) := by decide +kernel
theorem dX4_carriesEdges_59 : decode cX4_carriesEdges 59 = .ok (.iinc 4 1, 3) := by decide +kernel
theorem dX4_carriesEdges_62 : decode cX4_carriesEdges 62 = .ok (.goto (-24), 3) := by decide +kernel
theorem dX4_carriesEdges_65 : decode cX4_carriesEdges 65 = .ok (.iconst 0, 1) := by decide +kernel
theorem dX4_carriesEdges_66 : decode cX4_carriesEdges 66 = .ok (.istore 4, 2) := by decide +kernel
theorem dX4_carriesEdges_68 : decode cX4_carriesEdges 68 = .ok (.iload 4, 2) := by decide +kernel
theorem dX4_carriesEdges_70 : decode cX4_carriesEdges 70 = .ok (.iload_n 3, 1) := by decide +kernel
theorem dX4_carriesEdges_71 : decode cX4_carriesEdges 71 = .ok (.if_icmp .ge 93, 3) := by decide +kernel
theorem dX4_carriesEdges_74 : decode cX4_carriesEdges 74 = .ok (.iload 4, 2) := by decide +kernel
theorem dX4_carriesEdges_76 : decode cX4_carriesEdges 76 = .ok (.iconst 1, 1) := by decide +kernel
theorem dX4_carriesEdges_77 : decode cX4_carriesEdges 77 = .ok (.iadd, 1) := by decide +kernel
theorem dX4_carriesEdges_78 : decode cX4_carriesEdges 78 = .ok (.istore 5, 2) := by decide +kernel
theorem dX4_carriesEdges_80 : decode cX4_carriesEdges 80 = .ok (.iload 5, 2) := by decide +kernel
theorem dX4_carriesEdges_82 : decode cX4_carriesEdges 82 = .ok (.iload_n 3, 1) := by decide +kernel
theorem dX4_carriesEdges_83 : decode cX4_carriesEdges 83 = .ok (.if_icmp .ge 75, 3) := by decide +kernel
theorem dX4_carriesEdges_86 : decode cX4_carriesEdges 86 = .ok (.iconst 1, 1) := by decide +kernel
theorem dX4_carriesEdges_87 : decode cX4_carriesEdges 87 = .ok (.aload_n 1, 1) := by decide +kernel
theorem dX4_carriesEdges_88 : decode cX4_carriesEdges 88 = .ok (.iload 5, 2) := by decide +kernel
theorem dX4_carriesEdges_90 : decode cX4_carriesEdges 90 = .ok (.iconst 0, 1) := by decide +kernel
theorem dX4_carriesEdges_91 : decode cX4_carriesEdges 91 = .ok (.invokevirtual 222, 3) := by decide +kernel
theorem dX4_carriesEdges_94 : decode cX4_carriesEdges 94 = .ok (.ishl, 1) := by decide +kernel
theorem dX4_carriesEdges_95 : decode cX4_carriesEdges 95 = .ok (.iconst 1, 1) := by decide +kernel
theorem dX4_carriesEdges_96 : decode cX4_carriesEdges 96 = .ok (.aload_n 1, 1) := by decide +kernel
theorem dX4_carriesEdges_97 : decode cX4_carriesEdges 97 = .ok (.iload 5, 2) := by decide +kernel
theorem dX4_carriesEdges_99 : decode cX4_carriesEdges 99 = .ok (.iconst 1, 1) := by decide +kernel
theorem dX4_carriesEdges_100 : decode cX4_carriesEdges 100 = .ok (.invokevirtual 222, 3) := by decide +kernel
theorem dX4_carriesEdges_103 : decode cX4_carriesEdges 103 = .ok (.ishl, 1) := by decide +kernel
theorem dX4_carriesEdges_104 : decode cX4_carriesEdges 104 = .ok (.ior, 1) := by decide +kernel
theorem dX4_carriesEdges_105 : decode cX4_carriesEdges 105 = .ok (.istore 6, 2) := by decide +kernel
theorem dX4_carriesEdges_107 : decode cX4_carriesEdges 107 = .ok (.iload 6, 2) := by decide +kernel
theorem dX4_carriesEdges_109 : decode cX4_carriesEdges 109 = .ok (.aload_n 1, 1) := by decide +kernel
theorem dX4_carriesEdges_110 : decode cX4_carriesEdges 110 = .ok (.iload 4, 2) := by decide +kernel
theorem dX4_carriesEdges_112 : decode cX4_carriesEdges 112 = .ok (.iconst 0, 1) := by decide +kernel
theorem dX4_carriesEdges_113 : decode cX4_carriesEdges 113 = .ok (.invokevirtual 222, 3) := by decide +kernel
theorem dX4_carriesEdges_116 : decode cX4_carriesEdges 116 = .ok (.invokestatic 215, 3) := by decide +kernel
theorem dX4_carriesEdges_119 : decode cX4_carriesEdges 119 = .ok (.ifCond .ne 18, 3) := by decide +kernel
theorem dX4_carriesEdges_122 : decode cX4_carriesEdges 122 = .ok (.iload 6, 2) := by decide +kernel
theorem dX4_carriesEdges_124 : decode cX4_carriesEdges 124 = .ok (.aload_n 1, 1) := by decide +kernel
theorem dX4_carriesEdges_125 : decode cX4_carriesEdges 125 = .ok (.iload 4, 2) := by decide +kernel
theorem dX4_carriesEdges_127 : decode cX4_carriesEdges 127 = .ok (.iconst 1, 1) := by decide +kernel
theorem dX4_carriesEdges_128 : decode cX4_carriesEdges 128 = .ok (.invokevirtual 222, 3) := by decide +kernel
theorem dX4_carriesEdges_131 : decode cX4_carriesEdges 131 = .ok (.invokestatic 215, 3) := by decide +kernel
theorem dX4_carriesEdges_134 : decode cX4_carriesEdges 134 = .ok (.ifCond .eq 18, 3) := by decide +kernel
theorem dX4_carriesEdges_137 : decode cX4_carriesEdges 137 = .ok (.aload_n 2, 1) := by decide +kernel
theorem dX4_carriesEdges_138 : decode cX4_carriesEdges 138 = .ok (.iload 4, 2) := by decide +kernel
theorem dX4_carriesEdges_140 : decode cX4_carriesEdges 140 = .ok (.ineg, 1) := by decide +kernel
theorem dX4_carriesEdges_141 : decode cX4_carriesEdges 141 = .ok (.iconst 1, 1) := by decide +kernel
theorem dX4_carriesEdges_142 : decode cX4_carriesEdges 142 = .ok (.isub, 1) := by decide +kernel
theorem dX4_carriesEdges_143 : decode cX4_carriesEdges 143 = .ok (.iload 5, 2) := by decide +kernel
theorem dX4_carriesEdges_145 : decode cX4_carriesEdges 145 = .ok (.ineg, 1) := by decide +kernel
theorem dX4_carriesEdges_146 : decode cX4_carriesEdges 146 = .ok (.iconst 1, 1) := by decide +kernel
theorem dX4_carriesEdges_147 : decode cX4_carriesEdges 147 = .ok (.isub, 1) := by decide +kernel
theorem dX4_carriesEdges_148 : decode cX4_carriesEdges 148 = .ok (.iconst 0, 1) := by decide +kernel
theorem dX4_carriesEdges_149 : decode cX4_carriesEdges 149 = .ok (.invokevirtual 255, 3) := by decide +kernel
theorem dX4_carriesEdges_152 : decode cX4_carriesEdges 152 = .ok (.iinc 5 1, 3) := by decide +kernel
theorem dX4_carriesEdges_155 : decode cX4_carriesEdges 155 = .ok (.goto (-75), 3) := by decide +kernel
theorem dX4_carriesEdges_158 : decode cX4_carriesEdges 158 = .ok (.iinc 4 1, 3) := by decide +kernel
theorem dX4_carriesEdges_161 : decode cX4_carriesEdges 161 = .ok (.goto (-93), 3) := by decide +kernel
theorem dX4_carriesEdges_164 : decode cX4_carriesEdges 164 = .ok (.aload_n 2, 1) := by decide +kernel
theorem dX4_carriesEdges_165 : decode cX4_carriesEdges 165 = .ok (.getfield 219, 3) := by decide +kernel
theorem dX4_carriesEdges_168 : decode cX4_carriesEdges 168 = .ok (.getstatic 243, 3) := by decide +kernel
theorem dX4_carriesEdges_171 : decode cX4_carriesEdges 171 = .ok (.iconst 4, 1) := by decide +kernel
theorem dX4_carriesEdges_172 : decode cX4_carriesEdges 172 = .ok (.iaload, 1) := by decide +kernel
theorem dX4_carriesEdges_173 : decode cX4_carriesEdges 173 = .ok (.if_icmp .gt 7, 3) := by decide +kernel
theorem dX4_carriesEdges_176 : decode cX4_carriesEdges 176 = .ok (.iconst 1, 1) := by decide +kernel
theorem dX4_carriesEdges_177 : decode cX4_carriesEdges 177 = .ok (.goto 4, 3) := by decide +kernel
theorem dX4_carriesEdges_180 : decode cX4_carriesEdges 180 = .ok (.iconst 0, 1) := by decide +kernel
theorem dX4_carriesEdges_181 : decode cX4_carriesEdges 181 = .ok (.ireturn, 1) := by decide +kernel
theorem dX4_addSomeEdge_0 : decode cX4_addSomeEdge 0 = .ok (.aload_n 1, 1) := by decide +kernel
theorem dX4_addSomeEdge_1 : decode cX4_addSomeEdge 1 = .ok (.getfield 219, 3) := by decide +kernel
theorem dX4_addSomeEdge_4 : decode cX4_addSomeEdge 4 = .ok (.istore_n 3, 1) := by decide +kernel
theorem dX4_addSomeEdge_5 : decode cX4_addSomeEdge 5 = .ok (.iconst 0, 1) := by decide +kernel
theorem dX4_addSomeEdge_6 : decode cX4_addSomeEdge 6 = .ok (.istore 4, 2) := by decide +kernel
theorem dX4_addSomeEdge_8 : decode cX4_addSomeEdge 8 = .ok (.iconst 0, 1) := by decide +kernel
theorem dX4_addSomeEdge_9 : decode cX4_addSomeEdge 9 = .ok (.istore 5, 2) := by decide +kernel
theorem dX4_addSomeEdge_11 : decode cX4_addSomeEdge 11 = .ok (.iload 5, 2) := by decide +kernel
theorem dX4_addSomeEdge_13 : decode cX4_addSomeEdge 13 = .ok (.aload_n 0, 1) := by decide +kernel
theorem dX4_addSomeEdge_14 : decode cX4_addSomeEdge 14 = .ok (.getfield 219, 3) := by decide +kernel
theorem dX4_addSomeEdge_17 : decode cX4_addSomeEdge 17 = .ok (.if_icmp .ge 63, 3) := by decide +kernel
theorem dX4_addSomeEdge_20 : decode cX4_addSomeEdge 20 = .ok (.aload_n 0, 1) := by decide +kernel
theorem dX4_addSomeEdge_21 : decode cX4_addSomeEdge 21 = .ok (.iload 5, 2) := by decide +kernel
theorem dX4_addSomeEdge_23 : decode cX4_addSomeEdge 23 = .ok (.iconst 0, 1) := by decide +kernel
theorem dX4_addSomeEdge_24 : decode cX4_addSomeEdge 24 = .ok (.invokevirtual 222, 3) := by decide +kernel
theorem dX4_addSomeEdge_27 : decode cX4_addSomeEdge 27 = .ok (.iload_n 2, 1) := by decide +kernel
theorem dX4_addSomeEdge_28 : decode cX4_addSomeEdge 28 = .ok (.if_icmp .eq 14, 3) := by decide +kernel
theorem dX4_addSomeEdge_31 : decode cX4_addSomeEdge 31 = .ok (.aload_n 0, 1) := by decide +kernel
theorem dX4_addSomeEdge_32 : decode cX4_addSomeEdge 32 = .ok (.iload 5, 2) := by decide +kernel
theorem dX4_addSomeEdge_34 : decode cX4_addSomeEdge 34 = .ok (.iconst 1, 1) := by decide +kernel
theorem dX4_addSomeEdge_35 : decode cX4_addSomeEdge 35 = .ok (.invokevirtual 222, 3) := by decide +kernel
theorem dX4_addSomeEdge_38 : decode cX4_addSomeEdge 38 = .ok (.iload_n 2, 1) := by decide +kernel
theorem dX4_addSomeEdge_39 : decode cX4_addSomeEdge 39 = .ok (.if_icmp .ne 35, 3) := by decide +kernel
theorem dX4_addSomeEdge_42 : decode cX4_addSomeEdge 42 = .ok (.iload 4, 2) := by decide +kernel
theorem dX4_addSomeEdge_44 : decode cX4_addSomeEdge 44 = .ok (.ifCond .ne 10, 3) := by decide +kernel
theorem dX4_addSomeEdge_47 : decode cX4_addSomeEdge 47 = .ok (.aload_n 1, 1) := by decide +kernel
theorem dX4_addSomeEdge_48 : decode cX4_addSomeEdge 48 = .ok (.iconst 0, 1) := by decide +kernel
theorem dX4_addSomeEdge_49 : decode cX4_addSomeEdge 49 = .ok (.iconst 0, 1) := by decide +kernel
theorem dX4_addSomeEdge_50 : decode cX4_addSomeEdge 50 = .ok (.iconst 0, 1) := by decide +kernel
theorem dX4_addSomeEdge_51 : decode cX4_addSomeEdge 51 = .ok (.invokevirtual 255, 3) := by decide +kernel
theorem dX4_addSomeEdge_54 : decode cX4_addSomeEdge 54 = .ok (.iload 4, 2) := by decide +kernel
theorem dX4_addSomeEdge_56 : decode cX4_addSomeEdge 56 = .ok (.iconst 3, 1) := by decide +kernel
theorem dX4_addSomeEdge_57 : decode cX4_addSomeEdge 57 = .ok (.if_icmp .ge 14, 3) := by decide +kernel
theorem dX4_addSomeEdge_60 : decode cX4_addSomeEdge 60 = .ok (.aload_n 1, 1) := by decide +kernel
theorem dX4_addSomeEdge_61 : decode cX4_addSomeEdge 61 = .ok (.iload_n 3, 1) := by decide +kernel
theorem dX4_addSomeEdge_62 : decode cX4_addSomeEdge 62 = .ok (.iload 4, 2) := by decide +kernel
theorem dX4_addSomeEdge_64 : decode cX4_addSomeEdge 64 = .ok (.iload 5, 2) := by decide +kernel
theorem dX4_addSomeEdge_66 : decode cX4_addSomeEdge 66 = .ok (.iconst 1, 1) := by decide +kernel
theorem dX4_addSomeEdge_67 : decode cX4_addSomeEdge 67 = .ok (.iadd, 1) := by decide +kernel
theorem dX4_addSomeEdge_68 : decode cX4_addSomeEdge 68 = .ok (.invokevirtual 269, 3) := by decide +kernel
theorem dX4_addSomeEdge_71 : decode cX4_addSomeEdge 71 = .ok (.iinc 4 1, 3) := by decide +kernel
theorem dX4_addSomeEdge_74 : decode cX4_addSomeEdge 74 = .ok (.iinc 5 1, 3) := by decide +kernel
theorem dX4_addSomeEdge_77 : decode cX4_addSomeEdge 77 = .ok (.goto (-66), 3) := by decide +kernel
theorem dX4_addSomeEdge_80 : decode cX4_addSomeEdge 80 = .ok (.iload 4, 2) := by decide +kernel
theorem dX4_addSomeEdge_82 : decode cX4_addSomeEdge 82 = .ok (.iconst 1, 1) := by decide +kernel
theorem dX4_addSomeEdge_83 : decode cX4_addSomeEdge 83 = .ok (.if_icmp .lt 13, 3) := by decide +kernel
theorem dX4_addSomeEdge_86 : decode cX4_addSomeEdge 86 = .ok (.iload 4, 2) := by decide +kernel
theorem dX4_addSomeEdge_88 : decode cX4_addSomeEdge 88 = .ok (.iconst 3, 1) := by decide +kernel
theorem dX4_addSomeEdge_89 : decode cX4_addSomeEdge 89 = .ok (.if_icmp .gt 7, 3) := by decide +kernel
theorem dX4_addSomeEdge_92 : decode cX4_addSomeEdge 92 = .ok (.iconst 1, 1) := by decide +kernel
theorem dX4_addSomeEdge_93 : decode cX4_addSomeEdge 93 = .ok (.goto 4, 3) := by decide +kernel
theorem dX4_addSomeEdge_96 : decode cX4_addSomeEdge 96 = .ok (.iconst 0, 1) := by decide +kernel
theorem dX4_addSomeEdge_97 : decode cX4_addSomeEdge 97 = .ok (.ireturn, 1) := by decide +kernel
theorem dX4_canBringBack_0 : decode cX4_canBringBack 0 = .ok (.aload_n 1, 1) := by decide +kernel
theorem dX4_canBringBack_1 : decode cX4_canBringBack 1 = .ok (.getfield 75, 3) := by decide +kernel
theorem dX4_canBringBack_4 : decode cX4_canBringBack 4 = .ok (.iconst 1, 1) := by decide +kernel
theorem dX4_canBringBack_5 : decode cX4_canBringBack 5 = .ok (.if_icmp .ne 16, 3) := by decide +kernel
theorem dX4_canBringBack_8 : decode cX4_canBringBack 8 = .ok (.aload_n 2, 1) := by decide +kernel
theorem dX4_canBringBack_9 : decode cX4_canBringBack 9 = .ok (.getfield 75, 3) := by decide +kernel
theorem dX4_canBringBack_12 : decode cX4_canBringBack 12 = .ok (.ifCond .ne 7, 3) := by decide +kernel
theorem dX4_canBringBack_15 : decode cX4_canBringBack 15 = .ok (.iconst 1, 1) := by decide +kernel
theorem dX4_canBringBack_16 : decode cX4_canBringBack 16 = .ok (.goto 4, 3) := by decide +kernel
theorem dX4_canBringBack_19 : decode cX4_canBringBack 19 = .ok (.iconst 0, 1) := by decide +kernel
theorem dX4_canBringBack_20 : decode cX4_canBringBack 20 = .ok (.ireturn, 1) := by decide +kernel
theorem dX4_canBringBack_21 : decode cX4_canBringBack 21 = .ok (.aload_n 1, 1) := by decide +kernel
theorem dX4_canBringBack_22 : decode cX4_canBringBack 22 = .ok (.getfield 75, 3) := by decide +kernel
theorem dX4_canBringBack_25 : decode cX4_canBringBack 25 = .ok (.iconst 3, 1) := by decide +kernel
theorem dX4_canBringBack_26 : decode cX4_canBringBack 26 = .ok (.if_icmp .ne 38, 3) := by decide +kernel
theorem dX4_canBringBack_29 : decode cX4_canBringBack 29 = .ok (.aload_n 2, 1) := by decide +kernel
theorem dX4_canBringBack_30 : decode cX4_canBringBack 30 = .ok (.getfield 75, 3) := by decide +kernel
theorem dX4_canBringBack_33 : decode cX4_canBringBack 33 = .ok (.iconst 1, 1) := by decide +kernel
theorem dX4_canBringBack_34 : decode cX4_canBringBack 34 = .ok (.if_icmp .ne 28, 3) := by decide +kernel
theorem dX4_canBringBack_37 : decode cX4_canBringBack 37 = .ok (.aload_n 1, 1) := by decide +kernel
theorem dX4_canBringBack_38 : decode cX4_canBringBack 38 = .ok (.getfield 280, 3) := by decide +kernel
theorem dX4_canBringBack_41 : decode cX4_canBringBack 41 = .ok (.bipush 121, 2) := by decide +kernel
theorem dX4_canBringBack_43 : decode cX4_canBringBack 43 = .ok (.if_icmp .ne 19, 3) := by decide +kernel
theorem dX4_canBringBack_46 : decode cX4_canBringBack 46 = .ok (.aload_n 1, 1) := by decide +kernel
theorem dX4_canBringBack_47 : decode cX4_canBringBack 47 = .ok (.getfield 64, 3) := by decide +kernel
theorem dX4_canBringBack_50 : decode cX4_canBringBack 50 = .ok (.iconst 0, 1) := by decide +kernel
theorem dX4_canBringBack_51 : decode cX4_canBringBack 51 = .ok (.invokevirtual 284, 3) := by decide +kernel
theorem dX4_canBringBack_54 : decode cX4_canBringBack 54 = .ok (.iconst 1, 1) := by decide +kernel
theorem dX4_canBringBack_55 : decode cX4_canBringBack 55 = .ok (.if_icmp .ne 7, 3) := by decide +kernel
theorem dX4_canBringBack_58 : decode cX4_canBringBack 58 = .ok (.iconst 1, 1) := by decide +kernel
theorem dX4_canBringBack_59 : decode cX4_canBringBack 59 = .ok (.goto 4, 3) := by decide +kernel
theorem dX4_canBringBack_62 : decode cX4_canBringBack 62 = .ok (.iconst 0, 1) := by decide +kernel
theorem dX4_canBringBack_63 : decode cX4_canBringBack 63 = .ok (.ireturn, 1) := by decide +kernel
theorem dX4_canBringBack_64 : decode cX4_canBringBack 64 = .ok (.aload_n 1, 1) := by decide +kernel
theorem dX4_canBringBack_65 : decode cX4_canBringBack 65 = .ok (.getfield 75, 3) := by decide +kernel
theorem dX4_canBringBack_68 : decode cX4_canBringBack 68 = .ok (.iconst 4, 1) := by decide +kernel
theorem dX4_canBringBack_69 : decode cX4_canBringBack 69 = .ok (.if_icmp .ne 23, 3) := by decide +kernel
theorem dX4_canBringBack_72 : decode cX4_canBringBack 72 = .ok (.aload_n 2, 1) := by decide +kernel
theorem dX4_canBringBack_73 : decode cX4_canBringBack 73 = .ok (.getfield 75, 3) := by decide +kernel
theorem dX4_canBringBack_76 : decode cX4_canBringBack 76 = .ok (.ifCond .ne 16, 3) := by decide +kernel
theorem dX4_canBringBack_79 : decode cX4_canBringBack 79 = .ok (.aload_n 1, 1) := by decide +kernel
theorem dX4_canBringBack_80 : decode cX4_canBringBack 80 = .ok (.getfield 280, 3) := by decide +kernel
theorem dX4_canBringBack_83 : decode cX4_canBringBack 83 = .ok (.bipush 121, 2) := by decide +kernel
theorem dX4_canBringBack_85 : decode cX4_canBringBack 85 = .ok (.if_icmp .ne 7, 3) := by decide +kernel
theorem dX4_canBringBack_88 : decode cX4_canBringBack 88 = .ok (.iconst 1, 1) := by decide +kernel
theorem dX4_canBringBack_89 : decode cX4_canBringBack 89 = .ok (.goto 4, 3) := by decide +kernel
theorem dX4_canBringBack_92 : decode cX4_canBringBack 92 = .ok (.iconst 0, 1) := by decide +kernel
theorem dX4_canBringBack_93 : decode cX4_canBringBack 93 = .ok (.ireturn, 1) := by decide +kernel
theorem dX4_bringBack_0 : decode cX4_bringBack 0 = .ok (.aload_n 3, 1) := by decide +kernel
theorem dX4_bringBack_1 : decode cX4_bringBack 1 = .ok (.invokevirtual 70, 3) := by decide +kernel
theorem dX4_bringBack_4 : decode cX4_bringBack 4 = .ok (.aload_n 1, 1) := by decide +kernel
theorem dX4_bringBack_5 : decode cX4_bringBack 5 = .ok (.getfield 75, 3) := by decide +kernel
theorem dX4_bringBack_8 : decode cX4_bringBack 8 = .ok (.iconst 3, 1) := by decide +kernel
theorem dX4_bringBack_9 : decode cX4_bringBack 9 = .ok (.if_icmp .ne 40, 3) := by decide +kernel
theorem dX4_bringBack_12 : decode cX4_bringBack 12 = .ok (.iconst 1, 1) := by decide +kernel
theorem dX4_bringBack_13 : decode cX4_bringBack 13 = .ok (.istore 4, 2) := by decide +kernel
theorem dX4_bringBack_15 : decode cX4_bringBack 15 = .ok (.iload 4, 2) := by decide +kernel
theorem dX4_bringBack_17 : decode cX4_bringBack 17 = .ok (.aload_n 1, 1) := by decide +kernel
theorem dX4_bringBack_18 : decode cX4_bringBack 18 = .ok (.getfield 64, 3) := by decide +kernel
theorem dX4_bringBack_21 : decode cX4_bringBack 21 = .ok (.getfield 286, 3) := by decide +kernel
theorem dX4_bringBack_24 : decode cX4_bringBack 24 = .ok (.if_icmp .ge 22, 3) := by decide +kernel
theorem dX4_bringBack_27 : decode cX4_bringBack 27 = .ok (.aload_n 3, 1) := by decide +kernel
theorem dX4_bringBack_28 : decode cX4_bringBack 28 = .ok (.aload_n 1, 1) := by decide +kernel
theorem dX4_bringBack_29 : decode cX4_bringBack 29 = .ok (.getfield 64, 3) := by decide +kernel
theorem dX4_bringBack_32 : decode cX4_bringBack 32 = .ok (.iload 4, 2) := by decide +kernel
theorem dX4_bringBack_34 : decode cX4_bringBack 34 = .ok (.invokevirtual 284, 3) := by decide +kernel
theorem dX4_bringBack_37 : decode cX4_bringBack 37 = .ok (.invokevirtual 289, 3) := by decide +kernel
theorem dX4_bringBack_40 : decode cX4_bringBack 40 = .ok (.iinc 4 1, 3) := by decide +kernel
theorem dX4_bringBack_43 : decode cX4_bringBack 43 = .ok (.goto (-28), 3) := by decide +kernel
theorem dX4_bringBack_46 : decode cX4_bringBack 46 = .ok (.goto 54, 3) := by decide +kernel
theorem dX4_bringBack_49 : decode cX4_bringBack 49 = .ok (.aload_n 1, 1) := by decide +kernel
theorem dX4_bringBack_50 : decode cX4_bringBack 50 = .ok (.getfield 280, 3) := by decide +kernel
theorem dX4_bringBack_53 : decode cX4_bringBack 53 = .ok (.bipush 121, 2) := by decide +kernel
theorem dX4_bringBack_55 : decode cX4_bringBack 55 = .ok (.if_icmp .ne 35, 3) := by decide +kernel
theorem dX4_bringBack_58 : decode cX4_bringBack 58 = .ok (.aload_n 1, 1) := by decide +kernel
theorem dX4_bringBack_59 : decode cX4_bringBack 59 = .ok (.getfield 75, 3) := by decide +kernel
theorem dX4_bringBack_62 : decode cX4_bringBack 62 = .ok (.iconst 1, 1) := by decide +kernel
theorem dX4_bringBack_63 : decode cX4_bringBack 63 = .ok (.if_icmp .ne 10, 3) := by decide +kernel
theorem dX4_bringBack_66 : decode cX4_bringBack 66 = .ok (.aload_n 2, 1) := by decide +kernel
theorem dX4_bringBack_67 : decode cX4_bringBack 67 = .ok (.getfield 191, 3) := by decide +kernel
theorem dX4_bringBack_70 : decode cX4_bringBack 70 = .ok (.goto 4, 3) := by decide +kernel
theorem dX4_bringBack_73 : decode cX4_bringBack 73 = .ok (.iconst 0, 1) := by decide +kernel
theorem dX4_bringBack_74 : decode cX4_bringBack 74 = .ok (.istore 4, 2) := by decide +kernel
theorem dX4_bringBack_76 : decode cX4_bringBack 76 = .ok (.aload_n 1, 1) := by decide +kernel
theorem dX4_bringBack_77 : decode cX4_bringBack 77 = .ok (.getfield 64, 3) := by decide +kernel
theorem dX4_bringBack_80 : decode cX4_bringBack 80 = .ok (.iload 4, 2) := by decide +kernel
theorem dX4_bringBack_82 : decode cX4_bringBack 82 = .ok (.aload_n 2, 1) := by decide +kernel
theorem dX4_bringBack_83 : decode cX4_bringBack 83 = .ok (.aload_n 3, 1) := by decide +kernel
theorem dX4_bringBack_84 : decode cX4_bringBack 84 = .ok (.invokestatic 293, 3) := by decide +kernel
theorem dX4_bringBack_87 : decode cX4_bringBack 87 = .ok (.goto 13, 3) := by decide +kernel
theorem dX4_bringBack_90 : decode cX4_bringBack 90 = .ok (.aload_n 0, 1) := by decide +kernel
theorem dX4_bringBack_91 : decode cX4_bringBack 91 = .ok (.aload_n 1, 1) := by decide +kernel
theorem dX4_bringBack_92 : decode cX4_bringBack 92 = .ok (.getfield 64, 3) := by decide +kernel
theorem dX4_bringBack_95 : decode cX4_bringBack 95 = .ok (.aload_n 2, 1) := by decide +kernel
theorem dX4_bringBack_96 : decode cX4_bringBack 96 = .ok (.aload_n 3, 1) := by decide +kernel
theorem dX4_bringBack_97 : decode cX4_bringBack 97 = .ok (.invokevirtual 297, 3) := by decide +kernel
theorem dX4_bringBack_100 : decode cX4_bringBack 100 = .ok (.return_, 1) := by decide +kernel
theorem dX4_bringPairs_0 : decode cX4_bringPairs 0 = .ok (.iconst 0, 1) := by decide +kernel
theorem dX4_bringPairs_1 : decode cX4_bringPairs 1 = .ok (.istore 4, 2) := by decide +kernel
theorem dX4_bringPairs_3 : decode cX4_bringPairs 3 = .ok (.iload 4, 2) := by decide +kernel
theorem dX4_bringPairs_5 : decode cX4_bringPairs 5 = .ok (.aload_n 2, 1) := by decide +kernel
theorem dX4_bringPairs_6 : decode cX4_bringPairs 6 = .ok (.getfield 191, 3) := by decide +kernel
theorem dX4_bringPairs_9 : decode cX4_bringPairs 9 = .ok (.if_icmp .ge 15, 3) := by decide +kernel
theorem dX4_bringPairs_12 : decode cX4_bringPairs 12 = .ok (.aload_n 3, 1) := by decide +kernel
theorem dX4_bringPairs_13 : decode cX4_bringPairs 13 = .ok (.iload 4, 2) := by decide +kernel
theorem dX4_bringPairs_15 : decode cX4_bringPairs 15 = .ok (.invokevirtual 289, 3) := by decide +kernel
theorem dX4_bringPairs_18 : decode cX4_bringPairs 18 = .ok (.iinc 4 1, 3) := by decide +kernel
theorem dX4_bringPairs_21 : decode cX4_bringPairs 21 = .ok (.goto (-18), 3) := by decide +kernel
theorem dX4_bringPairs_24 : decode cX4_bringPairs 24 = .ok (.iconst 0, 1) := by decide +kernel
theorem dX4_bringPairs_25 : decode cX4_bringPairs 25 = .ok (.istore 4, 2) := by decide +kernel
theorem dX4_bringPairs_27 : decode cX4_bringPairs 27 = .ok (.iload 4, 2) := by decide +kernel
theorem dX4_bringPairs_29 : decode cX4_bringPairs 29 = .ok (.aload_n 2, 1) := by decide +kernel
theorem dX4_bringPairs_30 : decode cX4_bringPairs 30 = .ok (.getfield 219, 3) := by decide +kernel
theorem dX4_bringPairs_33 : decode cX4_bringPairs 33 = .ok (.if_icmp .ge 57, 3) := by decide +kernel
theorem dX4_bringPairs_36 : decode cX4_bringPairs 36 = .ok (.aload_n 0, 1) := by decide +kernel
theorem dX4_bringPairs_37 : decode cX4_bringPairs 37 = .ok (.iload_n 1, 1) := by decide +kernel
theorem dX4_bringPairs_38 : decode cX4_bringPairs 38 = .ok (.iload 4, 2) := by decide +kernel
theorem dX4_bringPairs_40 : decode cX4_bringPairs 40 = .ok (.iadd, 1) := by decide +kernel
theorem dX4_bringPairs_41 : decode cX4_bringPairs 41 = .ok (.invokevirtual 284, 3) := by decide +kernel
theorem dX4_bringPairs_44 : decode cX4_bringPairs 44 = .ok (.iconst 1, 1) := by decide +kernel
theorem dX4_bringPairs_45 : decode cX4_bringPairs 45 = .ok (.if_icmp .ne 39, 3) := by decide +kernel
theorem dX4_bringPairs_48 : decode cX4_bringPairs 48 = .ok (.aload_n 3, 1) := by decide +kernel
theorem dX4_bringPairs_49 : decode cX4_bringPairs 49 = .ok (.aload_n 2, 1) := by decide +kernel
theorem dX4_bringPairs_50 : decode cX4_bringPairs 50 = .ok (.iload 4, 2) := by decide +kernel
theorem dX4_bringPairs_52 : decode cX4_bringPairs 52 = .ok (.iconst 0, 1) := by decide +kernel
theorem dX4_bringPairs_53 : decode cX4_bringPairs 53 = .ok (.invokevirtual 222, 3) := by decide +kernel
theorem dX4_bringPairs_56 : decode cX4_bringPairs 56 = .ok (.aload_n 2, 1) := by decide +kernel
theorem dX4_bringPairs_57 : decode cX4_bringPairs 57 = .ok (.iload 4, 2) := by decide +kernel
theorem dX4_bringPairs_59 : decode cX4_bringPairs 59 = .ok (.iconst 1, 1) := by decide +kernel
theorem dX4_bringPairs_60 : decode cX4_bringPairs 60 = .ok (.invokevirtual 222, 3) := by decide +kernel
theorem dX4_bringPairs_63 : decode cX4_bringPairs 63 = .ok (.invokevirtual 301, 3) := by decide +kernel
theorem dX4_bringPairs_66 : decode cX4_bringPairs 66 = .ok (.aload_n 3, 1) := by decide +kernel
theorem dX4_bringPairs_67 : decode cX4_bringPairs 67 = .ok (.aload_n 2, 1) := by decide +kernel
theorem dX4_bringPairs_68 : decode cX4_bringPairs 68 = .ok (.iload 4, 2) := by decide +kernel
theorem dX4_bringPairs_70 : decode cX4_bringPairs 70 = .ok (.iconst 1, 1) := by decide +kernel
theorem dX4_bringPairs_71 : decode cX4_bringPairs 71 = .ok (.invokevirtual 222, 3) := by decide +kernel
theorem dX4_bringPairs_74 : decode cX4_bringPairs 74 = .ok (.aload_n 2, 1) := by decide +kernel
theorem dX4_bringPairs_75 : decode cX4_bringPairs 75 = .ok (.iload 4, 2) := by decide +kernel
theorem dX4_bringPairs_77 : decode cX4_bringPairs 77 = .ok (.iconst 0, 1) := by decide +kernel
theorem dX4_bringPairs_78 : decode cX4_bringPairs 78 = .ok (.invokevirtual 222, 3) := by decide +kernel
theorem dX4_bringPairs_81 : decode cX4_bringPairs 81 = .ok (.invokevirtual 301, 3) := by decide +kernel
theorem dX4_bringPairs_84 : decode cX4_bringPairs 84 = .ok (.iinc 4 1, 3) := by decide +kernel
theorem dX4_bringPairs_87 : decode cX4_bringPairs 87 = .ok (.goto (-60), 3) := by decide +kernel
theorem dX4_bringPairs_90 : decode cX4_bringPairs 90 = .ok (.return_, 1) := by decide +kernel
theorem dX4_bringNodes_0 : decode cX4_bringNodes 0 = .ok (.aload_n 0, 1) := by decide +kernel
theorem dX4_bringNodes_1 : decode cX4_bringNodes 1 = .ok (.aload_n 2, 1) := by decide +kernel
theorem dX4_bringNodes_2 : decode cX4_bringNodes 2 = .ok (.invokevirtual 236, 3) := by decide +kernel
theorem dX4_bringNodes_5 : decode cX4_bringNodes 5 = .ok (.istore 4, 2) := by decide +kernel
theorem dX4_bringNodes_7 : decode cX4_bringNodes 7 = .ok (.iconst 0, 1) := by decide +kernel
theorem dX4_bringNodes_8 : decode cX4_bringNodes 8 = .ok (.istore 5, 2) := by decide +kernel
theorem dX4_bringNodes_10 : decode cX4_bringNodes 10 = .ok (.iload 5, 2) := by decide +kernel
theorem dX4_bringNodes_12 : decode cX4_bringNodes 12 = .ok (.aload_n 2, 1) := by decide +kernel
theorem dX4_bringNodes_13 : decode cX4_bringNodes 13 = .ok (.getfield 191, 3) := by decide +kernel
theorem dX4_bringNodes_16 : decode cX4_bringNodes 16 = .ok (.if_icmp .ge 38, 3) := by decide +kernel
theorem dX4_bringNodes_19 : decode cX4_bringNodes 19 = .ok (.aload_n 1, 1) := by decide +kernel
theorem dX4_bringNodes_20 : decode cX4_bringNodes 20 = .ok (.iconst 0, 1) := by decide +kernel
theorem dX4_bringNodes_21 : decode cX4_bringNodes 21 = .ok (.iload 5, 2) := by decide +kernel
theorem dX4_bringNodes_23 : decode cX4_bringNodes 23 = .ok (.iconst 1, 1) := by decide +kernel
theorem dX4_bringNodes_24 : decode cX4_bringNodes 24 = .ok (.iadd, 1) := by decide +kernel
theorem dX4_bringNodes_25 : decode cX4_bringNodes 25 = .ok (.invokevirtual 305, 3) := by decide +kernel
theorem dX4_bringNodes_28 : decode cX4_bringNodes 28 = .ok (.istore 6, 2) := by decide +kernel
theorem dX4_bringNodes_30 : decode cX4_bringNodes 30 = .ok (.iload 4, 2) := by decide +kernel
theorem dX4_bringNodes_32 : decode cX4_bringNodes 32 = .ok (.iload 5, 2) := by decide +kernel
theorem dX4_bringNodes_34 : decode cX4_bringNodes 34 = .ok (.invokestatic 215, 3) := by decide +kernel
theorem dX4_bringNodes_37 : decode cX4_bringNodes 37 = .ok (.iload 6, 2) := by decide +kernel
theorem dX4_bringNodes_39 : decode cX4_bringNodes 39 = .ok (.if_icmp .eq 9, 3) := by decide +kernel
theorem dX4_bringNodes_42 : decode cX4_bringNodes 42 = .ok (.aload_n 3, 1) := by decide +kernel
theorem dX4_bringNodes_43 : decode cX4_bringNodes 43 = .ok (.iload 5, 2) := by decide +kernel
theorem dX4_bringNodes_45 : decode cX4_bringNodes 45 = .ok (.invokevirtual 289, 3) := by decide +kernel
theorem dX4_bringNodes_48 : decode cX4_bringNodes 48 = .ok (.iinc 5 1, 3) := by decide +kernel
theorem dX4_bringNodes_51 : decode cX4_bringNodes 51 = .ok (.goto (-41), 3) := by decide +kernel
theorem dX4_bringNodes_54 : decode cX4_bringNodes 54 = .ok (.return_, 1) := by decide +kernel
