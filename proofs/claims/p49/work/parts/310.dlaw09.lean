/-! the law: decode rows 9 -/
theorem dL_areBagged_122 : decode cL_areBagged 122 = .ok (.ireturn, 1) := by decide +kernel
theorem dL_areBagged_123 : decode cL_areBagged 123 = .ok (.iconst 0, 1) := by decide +kernel
theorem dL_areBagged_124 : decode cL_areBagged 124 = .ok (.istore 6, 2) := by decide +kernel
theorem dL_areBagged_126 : decode cL_areBagged 126 = .ok (.iload 6, 2) := by decide +kernel
theorem dL_areBagged_128 : decode cL_areBagged 128 = .ok (.iload 5, 2) := by decide +kernel
theorem dL_areBagged_130 : decode cL_areBagged 130 = .ok (.if_icmp .ge 31, 3) := by decide +kernel
theorem dL_areBagged_133 : decode cL_areBagged 133 = .ok (.aload_n 0, 1) := by decide +kernel
theorem dL_areBagged_134 : decode cL_areBagged 134 = .ok (.iload_n 3, 1) := by decide +kernel
theorem dL_areBagged_135 : decode cL_areBagged 135 = .ok (.iload 6, 2) := by decide +kernel
theorem dL_areBagged_137 : decode cL_areBagged 137 = .ok (.invokestatic 244, 3) := by decide +kernel
theorem dL_areBagged_140 : decode cL_areBagged 140 = .ok (.aload_n 2, 1) := by decide +kernel
theorem dL_areBagged_141 : decode cL_areBagged 141 = .ok (.iload_n 3, 1) := by decide +kernel
theorem dL_areBagged_142 : decode cL_areBagged 142 = .ok (.aaload, 1) := by decide +kernel
theorem dL_areBagged_143 : decode cL_areBagged 143 = .ok (.iconst 2, 1) := by decide +kernel
theorem dL_areBagged_144 : decode cL_areBagged 144 = .ok (.iconst 2, 1) := by decide +kernel
theorem dL_areBagged_145 : decode cL_areBagged 145 = .ok (.iload 6, 2) := by decide +kernel
theorem dL_areBagged_147 : decode cL_areBagged 147 = .ok (.imul, 1) := by decide +kernel
theorem dL_areBagged_148 : decode cL_areBagged 148 = .ok (.iadd, 1) := by decide +kernel
theorem dL_areBagged_149 : decode cL_areBagged 149 = .ok (.iaload, 1) := by decide +kernel
theorem dL_areBagged_150 : decode cL_areBagged 150 = .ok (.if_icmp .eq 5, 3) := by decide +kernel
theorem dL_areBagged_153 : decode cL_areBagged 153 = .ok (.iconst 0, 1) := by decide +kernel
theorem dL_areBagged_154 : decode cL_areBagged 154 = .ok (.ireturn, 1) := by decide +kernel
theorem dL_areBagged_155 : decode cL_areBagged 155 = .ok (.iinc 6 1, 3) := by decide +kernel
theorem dL_areBagged_158 : decode cL_areBagged 158 = .ok (.goto (-32), 3) := by decide +kernel
theorem dL_areBagged_161 : decode cL_areBagged 161 = .ok (.iinc 3 1, 3) := by decide +kernel
theorem dL_areBagged_164 : decode cL_areBagged 164 = .ok (.goto (-162), 3) := by decide +kernel
theorem dL_areBagged_167 : decode cL_areBagged 167 = .ok (.iconst 1, 1) := by decide +kernel
theorem dL_areBagged_168 : decode cL_areBagged 168 = .ok (.ireturn, 1) := by decide +kernel
theorem dL_isTold_0 : decode cL_isTold 0 = .ok (.iconst 0, 1) := by decide +kernel
theorem dL_isTold_1 : decode cL_isTold 1 = .ok (.istore_n 2, 1) := by decide +kernel
theorem dL_isTold_2 : decode cL_isTold 2 = .ok (.iconst 0, 1) := by decide +kernel
theorem dL_isTold_3 : decode cL_isTold 3 = .ok (.istore_n 3, 1) := by decide +kernel
theorem dL_isTold_4 : decode cL_isTold 4 = .ok (.iconst 0, 1) := by decide +kernel
theorem dL_isTold_5 : decode cL_isTold 5 = .ok (.istore 4, 2) := by decide +kernel
theorem dL_isTold_7 : decode cL_isTold 7 = .ok (.iconst 0, 1) := by decide +kernel
theorem dL_isTold_8 : decode cL_isTold 8 = .ok (.istore 5, 2) := by decide +kernel
theorem dL_isTold_10 : decode cL_isTold 10 = .ok (.iload 5, 2) := by decide +kernel
theorem dL_isTold_12 : decode cL_isTold 12 = .ok (.aload_n 1, 1) := by decide +kernel
theorem dL_isTold_13 : decode cL_isTold 13 = .ok (.iconst 2, 1) := by decide +kernel
theorem dL_isTold_14 : decode cL_isTold 14 = .ok (.iaload, 1) := by decide +kernel
theorem dL_isTold_15 : decode cL_isTold 15 = .ok (.if_icmp .ge 152, 3) := by decide +kernel
theorem dL_isTold_18 : decode cL_isTold 18 = .ok (.sipush 140, 3) := by decide +kernel
theorem dL_isTold_21 : decode cL_isTold 21 = .ok (.bipush 12, 2) := by decide +kernel
theorem dL_isTold_23 : decode cL_isTold 23 = .ok (.iload 5, 2) := by decide +kernel
theorem dL_isTold_25 : decode cL_isTold 25 = .ok (.imul, 1) := by decide +kernel
theorem dL_isTold_26 : decode cL_isTold 26 = .ok (.iadd, 1) := by decide +kernel
theorem dL_isTold_27 : decode cL_isTold 27 = .ok (.istore 6, 2) := by decide +kernel
theorem dL_isTold_29 : decode cL_isTold 29 = .ok (.aload_n 0, 1) := by decide +kernel
theorem dL_isTold_30 : decode cL_isTold 30 = .ok (.iload 5, 2) := by decide +kernel
theorem dL_isTold_32 : decode cL_isTold 32 = .ok (.invokevirtual 142, 3) := by decide +kernel
theorem dL_isTold_35 : decode cL_isTold 35 = .ok (.istore 7, 2) := by decide +kernel
theorem dL_isTold_37 : decode cL_isTold 37 = .ok (.iload 7, 2) := by decide +kernel
theorem dL_isTold_39 : decode cL_isTold 39 = .ok (.ifCond .lt 41, 3) := by decide +kernel
theorem dL_isTold_42 : decode cL_isTold 42 = .ok (.aload_n 1, 1) := by decide +kernel
theorem dL_isTold_43 : decode cL_isTold 43 = .ok (.iload 6, 2) := by decide +kernel
theorem dL_isTold_45 : decode cL_isTold 45 = .ok (.bipush 8, 2) := by decide +kernel
theorem dL_isTold_47 : decode cL_isTold 47 = .ok (.iadd, 1) := by decide +kernel
theorem dL_isTold_48 : decode cL_isTold 48 = .ok (.iaload, 1) := by decide +kernel
theorem dL_isTold_49 : decode cL_isTold 49 = .ok (.ifCond .ge 15, 3) := by decide +kernel
theorem dL_isTold_52 : decode cL_isTold 52 = .ok (.iload 7, 2) := by decide +kernel
theorem dL_isTold_54 : decode cL_isTold 54 = .ok (.aload_n 0, 1) := by decide +kernel
theorem dL_isTold_55 : decode cL_isTold 55 = .ok (.invokevirtual 124, 3) := by decide +kernel
theorem dL_isTold_58 : decode cL_isTold 58 = .ok (.if_icmp .ge 22, 3) := by decide +kernel
theorem dL_isTold_61 : decode cL_isTold 61 = .ok (.goto 15, 3) := by decide +kernel
theorem dL_isTold_64 : decode cL_isTold 64 = .ok (.aload_n 1, 1) := by decide +kernel
theorem dL_isTold_65 : decode cL_isTold 65 = .ok (.iload 6, 2) := by decide +kernel
theorem dL_isTold_67 : decode cL_isTold 67 = .ok (.bipush 8, 2) := by decide +kernel
theorem dL_isTold_69 : decode cL_isTold 69 = .ok (.iadd, 1) := by decide +kernel
theorem dL_isTold_70 : decode cL_isTold 70 = .ok (.iaload, 1) := by decide +kernel
theorem dL_isTold_71 : decode cL_isTold 71 = .ok (.iload 7, 2) := by decide +kernel
theorem dL_isTold_73 : decode cL_isTold 73 = .ok (.if_icmp .le 7, 3) := by decide +kernel
theorem dL_isTold_76 : decode cL_isTold 76 = .ok (.iconst 1, 1) := by decide +kernel
theorem dL_isTold_77 : decode cL_isTold 77 = .ok (.goto 4, 3) := by decide +kernel
theorem dL_isTold_80 : decode cL_isTold 80 = .ok (.iconst 0, 1) := by decide +kernel
theorem dL_isTold_81 : decode cL_isTold 81 = .ok (.istore 8, 2) := by decide +kernel
theorem dL_isTold_83 : decode cL_isTold 83 = .ok (.aload_n 0, 1) := by decide +kernel
theorem dL_isTold_84 : decode cL_isTold 84 = .ok (.iload 5, 2) := by decide +kernel
theorem dL_isTold_86 : decode cL_isTold 86 = .ok (.invokevirtual 246, 3) := by decide +kernel
theorem dL_isTold_89 : decode cL_isTold 89 = .ok (.iload 8, 2) := by decide +kernel
theorem dL_isTold_91 : decode cL_isTold 91 = .ok (.if_icmp .eq 5, 3) := by decide +kernel
theorem dL_isTold_94 : decode cL_isTold 94 = .ok (.iconst 0, 1) := by decide +kernel
theorem dL_isTold_95 : decode cL_isTold 95 = .ok (.ireturn, 1) := by decide +kernel
theorem dL_isTold_96 : decode cL_isTold 96 = .ok (.iload_n 2, 1) := by decide +kernel
theorem dL_isTold_97 : decode cL_isTold 97 = .ok (.iload 8, 2) := by decide +kernel
theorem dL_isTold_99 : decode cL_isTold 99 = .ok (.ifCond .eq 7, 3) := by decide +kernel
theorem dL_isTold_102 : decode cL_isTold 102 = .ok (.iconst 1, 1) := by decide +kernel
theorem dL_isTold_103 : decode cL_isTold 103 = .ok (.goto 4, 3) := by decide +kernel
theorem dL_isTold_106 : decode cL_isTold 106 = .ok (.iconst 0, 1) := by decide +kernel
theorem dL_isTold_107 : decode cL_isTold 107 = .ok (.iadd, 1) := by decide +kernel
theorem dL_isTold_108 : decode cL_isTold 108 = .ok (.istore_n 2, 1) := by decide +kernel
theorem dL_isTold_109 : decode cL_isTold 109 = .ok (.iload_n 3, 1) := by decide +kernel
theorem dL_isTold_110 : decode cL_isTold 110 = .ok (.aload_n 1, 1) := by decide +kernel
theorem dL_isTold_111 : decode cL_isTold 111 = .ok (.iload 6, 2) := by decide +kernel
theorem dL_isTold_113 : decode cL_isTold 113 = .ok (.bipush 11, 2) := by decide +kernel
theorem dL_isTold_115 : decode cL_isTold 115 = .ok (.iadd, 1) := by decide +kernel
theorem dL_isTold_116 : decode cL_isTold 116 = .ok (.iaload, 1) := by decide +kernel
theorem dL_isTold_117 : decode cL_isTold 117 = .ok (.ifCond .ge 7, 3) := by decide +kernel
theorem dL_isTold_120 : decode cL_isTold 120 = .ok (.iconst 0, 1) := by decide +kernel
theorem dL_isTold_121 : decode cL_isTold 121 = .ok (.goto 4, 3) := by decide +kernel
theorem dL_isTold_124 : decode cL_isTold 124 = .ok (.iconst 1, 1) := by decide +kernel
theorem dL_isTold_125 : decode cL_isTold 125 = .ok (.iadd, 1) := by decide +kernel
theorem dL_isTold_126 : decode cL_isTold 126 = .ok (.istore_n 3, 1) := by decide +kernel
theorem dL_isTold_127 : decode cL_isTold 127 = .ok (.iload 4, 2) := by decide +kernel
theorem dL_isTold_129 : decode cL_isTold 129 = .ok (.aload_n 1, 1) := by decide +kernel
theorem dL_isTold_130 : decode cL_isTold 130 = .ok (.iload 6, 2) := by decide +kernel
theorem dL_isTold_132 : decode cL_isTold 132 = .ok (.bipush 11, 2) := by decide +kernel
theorem dL_isTold_134 : decode cL_isTold 134 = .ok (.iadd, 1) := by decide +kernel
theorem dL_isTold_135 : decode cL_isTold 135 = .ok (.iaload, 1) := by decide +kernel
theorem dL_isTold_136 : decode cL_isTold 136 = .ok (.ifCond .ge 7, 3) := by decide +kernel
theorem dL_isTold_139 : decode cL_isTold 139 = .ok (.iconst 0, 1) := by decide +kernel
theorem dL_isTold_140 : decode cL_isTold 140 = .ok (.goto 18, 3) := by decide +kernel
theorem dL_isTold_143 : decode cL_isTold 143 = .ok (.aload_n 1, 1) := by decide +kernel
theorem dL_isTold_144 : decode cL_isTold 144 = .ok (.iload 6, 2) := by decide +kernel
theorem dL_isTold_146 : decode cL_isTold 146 = .ok (.bipush 11, 2) := by decide +kernel
theorem dL_isTold_148 : decode cL_isTold 148 = .ok (.iadd, 1) := by decide +kernel
theorem dL_isTold_149 : decode cL_isTold 149 = .ok (.iaload, 1) := by decide +kernel
theorem dL_isTold_150 : decode cL_isTold 150 = .ok (.aload_n 1, 1) := by decide +kernel
theorem dL_isTold_151 : decode cL_isTold 151 = .ok (.iload 6, 2) := by decide +kernel
theorem dL_isTold_153 : decode cL_isTold 153 = .ok (.bipush 9, 2) := by decide +kernel
theorem dL_isTold_155 : decode cL_isTold 155 = .ok (.iadd, 1) := by decide +kernel
theorem dL_isTold_156 : decode cL_isTold 156 = .ok (.iaload, 1) := by decide +kernel
theorem dL_isTold_157 : decode cL_isTold 157 = .ok (.isub, 1) := by decide +kernel
theorem dL_isTold_158 : decode cL_isTold 158 = .ok (.iadd, 1) := by decide +kernel
theorem dL_isTold_159 : decode cL_isTold 159 = .ok (.istore 4, 2) := by decide +kernel
theorem dL_isTold_161 : decode cL_isTold 161 = .ok (.iinc 5 1, 3) := by decide +kernel
theorem dL_isTold_164 : decode cL_isTold 164 = .ok (.goto (-154), 3) := by decide +kernel
theorem dL_isTold_167 : decode cL_isTold 167 = .ok (.aload_n 1, 1) := by decide +kernel
theorem dL_isTold_168 : decode cL_isTold 168 = .ok (.iconst 2, 1) := by decide +kernel
theorem dL_isTold_169 : decode cL_isTold 169 = .ok (.iaload, 1) := by decide +kernel
theorem dL_isTold_170 : decode cL_isTold 170 = .ok (.ifCond .ne 8, 3) := by decide +kernel
theorem dL_isTold_173 : decode cL_isTold 173 = .ok (.ldc 92, 2) := by decide +kernel
theorem dL_isTold_175 : decode cL_isTold 175 = .ok (.goto 10, 3) := by decide +kernel
theorem dL_isTold_178 : decode cL_isTold 178 = .ok (.iload_n 2, 1) := by decide +kernel
theorem dL_isTold_179 : decode cL_isTold 179 = .ok (.i2f, 1) := by decide +kernel
theorem dL_isTold_180 : decode cL_isTold 180 = .ok (.aload_n 1, 1) := by decide +kernel
theorem dL_isTold_181 : decode cL_isTold 181 = .ok (.iconst 2, 1) := by decide +kernel
theorem dL_isTold_182 : decode cL_isTold 182 = .ok (.iaload, 1) := by decide +kernel
theorem dL_isTold_183 : decode cL_isTold 183 = .ok (.i2f, 1) := by decide +kernel
theorem dL_isTold_184 : decode cL_isTold 184 = .ok (.fdiv, 1) := by decide +kernel
theorem dL_isTold_185 : decode cL_isTold 185 = .ok (.fstore 5, 2) := by decide +kernel
theorem dL_isTold_187 : decode cL_isTold 187 = .ok (.iload_n 3, 1) := by decide +kernel
theorem dL_isTold_188 : decode cL_isTold 188 = .ok (.ifCond .ne 9, 3) := by decide +kernel
theorem dL_isTold_191 : decode cL_isTold 191 = .ok (.ldc2_w 97, 3) := by decide +kernel
theorem dL_isTold_194 : decode cL_isTold 194 = .ok (.goto 9, 3) := by decide +kernel
theorem dL_isTold_197 : decode cL_isTold 197 = .ok (.iload 4, 2) := by decide +kernel
theorem dL_isTold_199 : decode cL_isTold 199 = .ok (.i2d, 1) := by decide +kernel
theorem dL_isTold_200 : decode cL_isTold 200 = .ok (.iload_n 3, 1) := by decide +kernel
theorem dL_isTold_201 : decode cL_isTold 201 = .ok (.i2d, 1) := by decide +kernel
theorem dL_isTold_202 : decode cL_isTold 202 = .ok (.ddiv, 1) := by decide +kernel
theorem dL_isTold_203 : decode cL_isTold 203 = .ok (.dstore 6, 2) := by decide +kernel
theorem dL_isTold_205 : decode cL_isTold 205 = .ok (.aload_n 0, 1) := by decide +kernel
theorem dL_isTold_206 : decode cL_isTold 206 = .ok (.invokestatic 249, 3) := by decide +kernel
theorem dL_isTold_209 : decode cL_isTold 209 = .ok (.fload 5, 2) := by decide +kernel
theorem dL_isTold_211 : decode cL_isTold 211 = .ok (.fcmp .l, 1) := by decide +kernel
theorem dL_isTold_212 : decode cL_isTold 212 = .ok (.ifCond .ne 47, 3) := by decide +kernel
theorem dL_isTold_215 : decode cL_isTold 215 = .ok (.aload_n 0, 1) := by decide +kernel
theorem dL_isTold_216 : decode cL_isTold 216 = .ok (.invokestatic 252, 3) := by decide +kernel
theorem dL_isTold_219 : decode cL_isTold 219 = .ok (.dload 6, 2) := by decide +kernel
theorem dL_isTold_221 : decode cL_isTold 221 = .ok (.dcmp .l, 1) := by decide +kernel
theorem dL_isTold_222 : decode cL_isTold 222 = .ok (.ifCond .ne 37, 3) := by decide +kernel
theorem dL_isTold_225 : decode cL_isTold 225 = .ok (.aload_n 0, 1) := by decide +kernel
theorem dL_isTold_226 : decode cL_isTold 226 = .ok (.invokevirtual 255, 3) := by decide +kernel
theorem dL_isTold_229 : decode cL_isTold 229 = .ok (.aload_n 1, 1) := by decide +kernel
theorem dL_isTold_230 : decode cL_isTold 230 = .ok (.iconst 2, 1) := by decide +kernel
theorem dL_isTold_231 : decode cL_isTold 231 = .ok (.iaload, 1) := by decide +kernel
theorem dL_isTold_232 : decode cL_isTold 232 = .ok (.if_icmp .ne 27, 3) := by decide +kernel
theorem dL_isTold_235 : decode cL_isTold 235 = .ok (.aload_n 0, 1) := by decide +kernel
theorem dL_isTold_236 : decode cL_isTold 236 = .ok (.invokevirtual 258, 3) := by decide +kernel
theorem dL_isTold_239 : decode cL_isTold 239 = .ok (.aload_n 1, 1) := by decide +kernel
theorem dL_isTold_240 : decode cL_isTold 240 = .ok (.iconst 1, 1) := by decide +kernel
theorem dL_isTold_241 : decode cL_isTold 241 = .ok (.iaload, 1) := by decide +kernel
theorem dL_isTold_242 : decode cL_isTold 242 = .ok (.if_icmp .ne 17, 3) := by decide +kernel
theorem dL_isTold_245 : decode cL_isTold 245 = .ok (.aload_n 0, 1) := by decide +kernel
theorem dL_isTold_246 : decode cL_isTold 246 = .ok (.invokevirtual 261, 3) := by decide +kernel
theorem dL_isTold_249 : decode cL_isTold 249 = .ok (.aload_n 1, 1) := by decide +kernel
theorem dL_isTold_250 : decode cL_isTold 250 = .ok (.iconst 0, 1) := by decide +kernel
theorem dL_isTold_251 : decode cL_isTold 251 = .ok (.iaload, 1) := by decide +kernel
theorem dL_isTold_252 : decode cL_isTold 252 = .ok (.if_icmp .ne 7, 3) := by decide +kernel
theorem dL_isTold_255 : decode cL_isTold 255 = .ok (.iconst 1, 1) := by decide +kernel
theorem dL_isTold_256 : decode cL_isTold 256 = .ok (.goto 4, 3) := by decide +kernel
theorem dL_isTold_259 : decode cL_isTold 259 = .ok (.iconst 0, 1) := by decide +kernel
theorem dL_isTold_260 : decode cL_isTold 260 = .ok (.ireturn, 1) := by decide +kernel
theorem dL_law_0 : decode cL_law 0 = .ok (.sipush 700, 3) := by decide +kernel
theorem dL_law_3 : decode cL_law 3 = .ok (.newarray .int, 2) := by decide +kernel
theorem dL_law_5 : decode cL_law 5 = .ok (.astore_n 1, 1) := by decide +kernel
theorem dL_law_6 : decode cL_law 6 = .ok (.aload_n 0, 1) := by decide +kernel
theorem dL_law_7 : decode cL_law 7 = .ok (.aload_n 1, 1) := by decide +kernel
theorem dL_law_8 : decode cL_law 8 = .ok (.invokestatic 264, 3) := by decide +kernel
theorem dL_law_11 : decode cL_law 11 = .ok (.astore_n 2, 1) := by decide +kernel
theorem dL_law_12 : decode cL_law 12 = .ok (.aload_n 2, 1) := by decide +kernel
theorem dL_law_13 : decode cL_law 13 = .ok (.ifnull 11, 3) := by decide +kernel
theorem dL_law_16 : decode cL_law 16 = .ok (.aload_n 2, 1) := by decide +kernel
theorem dL_law_17 : decode cL_law 17 = .ok (.aload_n 1, 1) := by decide +kernel
theorem dL_law_18 : decode cL_law 18 = .ok (.invokestatic 268, 3) := by decide +kernel
theorem dL_law_21 : decode cL_law 21 = .ok (.ifCond .ne 5, 3) := by decide +kernel
theorem dL_law_24 : decode cL_law 24 = .ok (.iconst 0, 1) := by decide +kernel
theorem dL_law_25 : decode cL_law 25 = .ok (.ireturn, 1) := by decide +kernel
theorem dL_law_26 : decode cL_law 26 = .ok (.iconst 0, 1) := by decide +kernel
theorem dL_law_27 : decode cL_law 27 = .ok (.istore_n 3, 1) := by decide +kernel
theorem dL_law_28 : decode cL_law 28 = .ok (.iload_n 3, 1) := by decide +kernel
theorem dL_law_29 : decode cL_law 29 = .ok (.bipush 30, 2) := by decide +kernel
theorem dL_law_31 : decode cL_law 31 = .ok (.if_icmp .ge 73, 3) := by decide +kernel
theorem dL_law_34 : decode cL_law 34 = .ok (.aload_n 2, 1) := by decide +kernel
theorem dL_law_35 : decode cL_law 35 = .ok (.aload_n 1, 1) := by decide +kernel
theorem dL_law_36 : decode cL_law 36 = .ok (.aload_n 0, 1) := by decide +kernel
theorem dL_law_37 : decode cL_law 37 = .ok (.bipush 100, 2) := by decide +kernel
theorem dL_law_39 : decode cL_law 39 = .ok (.bipush 12, 2) := by decide +kernel
theorem dL_law_41 : decode cL_law 41 = .ok (.iload_n 3, 1) := by decide +kernel
theorem dL_law_42 : decode cL_law 42 = .ok (.imul, 1) := by decide +kernel
theorem dL_law_43 : decode cL_law 43 = .ok (.iadd, 1) := by decide +kernel
theorem dL_law_44 : decode cL_law 44 = .ok (.invokestatic 272, 3) := by decide +kernel
theorem dL_law_47 : decode cL_law 47 = .ok (.ifCond .ne 5, 3) := by decide +kernel
theorem dL_law_50 : decode cL_law 50 = .ok (.iconst 0, 1) := by decide +kernel
theorem dL_law_51 : decode cL_law 51 = .ok (.ireturn, 1) := by decide +kernel
theorem dL_law_52 : decode cL_law 52 = .ok (.aload_n 0, 1) := by decide +kernel
theorem dL_law_53 : decode cL_law 53 = .ok (.bipush 109, 2) := by decide +kernel
theorem dL_law_55 : decode cL_law 55 = .ok (.bipush 12, 2) := by decide +kernel
theorem dL_law_57 : decode cL_law 57 = .ok (.iload_n 3, 1) := by decide +kernel
theorem dL_law_58 : decode cL_law 58 = .ok (.imul, 1) := by decide +kernel
theorem dL_law_59 : decode cL_law 59 = .ok (.iadd, 1) := by decide +kernel
theorem dL_law_60 : decode cL_law 60 = .ok (.bipush 7, 2) := by decide +kernel
theorem dL_law_62 : decode cL_law 62 = .ok (.invokestatic 106, 3) := by decide +kernel
theorem dL_law_65 : decode cL_law 65 = .ok (.istore 4, 2) := by decide +kernel
theorem dL_law_67 : decode cL_law 67 = .ok (.iload 4, 2) := by decide +kernel
theorem dL_law_69 : decode cL_law 69 = .ok (.ifCond .le 19, 3) := by decide +kernel
theorem dL_law_72 : decode cL_law 72 = .ok (.aload_n 2, 1) := by decide +kernel
theorem dL_law_73 : decode cL_law 73 = .ok (.aload_n 1, 1) := by decide +kernel
theorem dL_law_74 : decode cL_law 74 = .ok (.invokestatic 275, 3) := by decide +kernel
theorem dL_law_77 : decode cL_law 77 = .ok (.ifCond .ne 5, 3) := by decide +kernel
theorem dL_law_80 : decode cL_law 80 = .ok (.iconst 0, 1) := by decide +kernel
theorem dL_law_81 : decode cL_law 81 = .ok (.ireturn, 1) := by decide +kernel
theorem dL_law_82 : decode cL_law 82 = .ok (.iinc 4 (-1), 3) := by decide +kernel
theorem dL_law_85 : decode cL_law 85 = .ok (.goto (-18), 3) := by decide +kernel
theorem dL_law_88 : decode cL_law 88 = .ok (.aload_n 2, 1) := by decide +kernel
theorem dL_law_89 : decode cL_law 89 = .ok (.aload_n 1, 1) := by decide +kernel
theorem dL_law_90 : decode cL_law 90 = .ok (.invokestatic 268, 3) := by decide +kernel
theorem dL_law_93 : decode cL_law 93 = .ok (.ifCond .ne 5, 3) := by decide +kernel
theorem dL_law_96 : decode cL_law 96 = .ok (.iconst 0, 1) := by decide +kernel
theorem dL_law_97 : decode cL_law 97 = .ok (.ireturn, 1) := by decide +kernel
theorem dL_law_98 : decode cL_law 98 = .ok (.iinc 3 1, 3) := by decide +kernel
theorem dL_law_101 : decode cL_law 101 = .ok (.goto (-73), 3) := by decide +kernel
theorem dL_law_104 : decode cL_law 104 = .ok (.aload_n 2, 1) := by decide +kernel
theorem dL_law_105 : decode cL_law 105 = .ok (.bipush 10, 2) := by decide +kernel
theorem dL_law_107 : decode cL_law 107 = .ok (.iconst 1, 1) := by decide +kernel
theorem dL_law_108 : decode cL_law 108 = .ok (.invokestatic 117, 3) := by decide +kernel
theorem dL_law_111 : decode cL_law 111 = .ok (.ldc 17, 2) := by decide +kernel
theorem dL_law_113 : decode cL_law 113 = .ok (.if_icmp .ne 206, 3) := by decide +kernel
theorem dL_law_116 : decode cL_law 116 = .ok (.aload_n 2, 1) := by decide +kernel
theorem dL_law_117 : decode cL_law 117 = .ok (.sipush 1111, 3) := by decide +kernel
theorem dL_law_120 : decode cL_law 120 = .ok (.iconst 1, 1) := by decide +kernel
theorem dL_law_121 : decode cL_law 121 = .ok (.invokestatic 117, 3) := by decide +kernel
theorem dL_law_124 : decode cL_law 124 = .ok (.ldc 17, 2) := by decide +kernel
theorem dL_law_126 : decode cL_law 126 = .ok (.if_icmp .ne 193, 3) := by decide +kernel
theorem dL_law_129 : decode cL_law 129 = .ok (.aload_n 2, 1) := by decide +kernel
theorem dL_law_130 : decode cL_law 130 = .ok (.aload_n 1, 1) := by decide +kernel
theorem dL_law_131 : decode cL_law 131 = .ok (.bipush 10, 2) := by decide +kernel
theorem dL_law_133 : decode cL_law 133 = .ok (.iaload, 1) := by decide +kernel
theorem dL_law_134 : decode cL_law 134 = .ok (.iconst 1, 1) := by decide +kernel
theorem dL_law_135 : decode cL_law 135 = .ok (.invokestatic 117, 3) := by decide +kernel
theorem dL_law_138 : decode cL_law 138 = .ok (.ldc 20, 2) := by decide +kernel
