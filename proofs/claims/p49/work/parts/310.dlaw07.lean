/-! the law: decode rows 7 -/
theorem dL_bagged_182 : decode cL_bagged 182 = .ok (.iload 8, 2) := by decide +kernel
theorem dL_bagged_184 : decode cL_bagged 184 = .ok (.invokevirtual 128, 3) := by decide +kernel
theorem dL_bagged_187 : decode cL_bagged 187 = .ok (.goto 4, 3) := by decide +kernel
theorem dL_bagged_190 : decode cL_bagged 190 = .ok (.iconst 0, 1) := by decide +kernel
theorem dL_bagged_191 : decode cL_bagged 191 = .ok (.iastore, 1) := by decide +kernel
theorem dL_bagged_192 : decode cL_bagged 192 = .ok (.aload 6, 2) := by decide +kernel
theorem dL_bagged_194 : decode cL_bagged 194 = .ok (.iconst 2, 1) := by decide +kernel
theorem dL_bagged_195 : decode cL_bagged 195 = .ok (.iconst 2, 1) := by decide +kernel
theorem dL_bagged_196 : decode cL_bagged 196 = .ok (.iload 10, 2) := by decide +kernel
theorem dL_bagged_198 : decode cL_bagged 198 = .ok (.imul, 1) := by decide +kernel
theorem dL_bagged_199 : decode cL_bagged 199 = .ok (.iadd, 1) := by decide +kernel
theorem dL_bagged_200 : decode cL_bagged 200 = .ok (.dup2, 1) := by decide +kernel
theorem dL_bagged_201 : decode cL_bagged 201 = .ok (.iaload, 1) := by decide +kernel
theorem dL_bagged_202 : decode cL_bagged 202 = .ok (.iload 11, 2) := by decide +kernel
theorem dL_bagged_204 : decode cL_bagged 204 = .ok (.ifCond .eq 10, 3) := by decide +kernel
theorem dL_bagged_207 : decode cL_bagged 207 = .ok (.aload_n 1, 1) := by decide +kernel
theorem dL_bagged_208 : decode cL_bagged 208 = .ok (.iload 9, 2) := by decide +kernel
theorem dL_bagged_210 : decode cL_bagged 210 = .ok (.iaload, 1) := by decide +kernel
theorem dL_bagged_211 : decode cL_bagged 211 = .ok (.goto 4, 3) := by decide +kernel
theorem dL_bagged_214 : decode cL_bagged 214 = .ok (.iconst 0, 1) := by decide +kernel
theorem dL_bagged_215 : decode cL_bagged 215 = .ok (.iadd, 1) := by decide +kernel
theorem dL_bagged_216 : decode cL_bagged 216 = .ok (.iastore, 1) := by decide +kernel
theorem dL_bagged_217 : decode cL_bagged 217 = .ok (.aload 5, 2) := by decide +kernel
theorem dL_bagged_219 : decode cL_bagged 219 = .ok (.iload 8, 2) := by decide +kernel
theorem dL_bagged_221 : decode cL_bagged 221 = .ok (.iload 11, 2) := by decide +kernel
theorem dL_bagged_223 : decode cL_bagged 223 = .ok (.ifCond .eq 9, 3) := by decide +kernel
theorem dL_bagged_226 : decode cL_bagged 226 = .ok (.iconst 1, 1) := by decide +kernel
theorem dL_bagged_227 : decode cL_bagged 227 = .ok (.iload_n 2, 1) := by decide +kernel
theorem dL_bagged_228 : decode cL_bagged 228 = .ok (.iadd, 1) := by decide +kernel
theorem dL_bagged_229 : decode cL_bagged 229 = .ok (.goto 4, 3) := by decide +kernel
theorem dL_bagged_232 : decode cL_bagged 232 = .ok (.iconst (-1), 1) := by decide +kernel
theorem dL_bagged_233 : decode cL_bagged 233 = .ok (.iastore, 1) := by decide +kernel
theorem dL_bagged_234 : decode cL_bagged 234 = .ok (.iinc 7 1, 3) := by decide +kernel
theorem dL_bagged_237 : decode cL_bagged 237 = .ok (.goto (-228), 3) := by decide +kernel
theorem dL_bagged_240 : decode cL_bagged 240 = .ok (.aload 6, 2) := by decide +kernel
theorem dL_bagged_242 : decode cL_bagged 242 = .ok (.areturn, 1) := by decide +kernel
theorem dL_isOrdered_0 : decode cL_isOrdered 0 = .ok (.iconst 0, 1) := by decide +kernel
theorem dL_isOrdered_1 : decode cL_isOrdered 1 = .ok (.istore_n 3, 1) := by decide +kernel
theorem dL_isOrdered_2 : decode cL_isOrdered 2 = .ok (.iconst 0, 1) := by decide +kernel
theorem dL_isOrdered_3 : decode cL_isOrdered 3 = .ok (.istore 4, 2) := by decide +kernel
theorem dL_isOrdered_5 : decode cL_isOrdered 5 = .ok (.iload 4, 2) := by decide +kernel
theorem dL_isOrdered_7 : decode cL_isOrdered 7 = .ok (.aload_n 1, 1) := by decide +kernel
theorem dL_isOrdered_8 : decode cL_isOrdered 8 = .ok (.iconst 2, 1) := by decide +kernel
theorem dL_isOrdered_9 : decode cL_isOrdered 9 = .ok (.iaload, 1) := by decide +kernel
theorem dL_isOrdered_10 : decode cL_isOrdered 10 = .ok (.if_icmp .ge 38, 3) := by decide +kernel
theorem dL_isOrdered_13 : decode cL_isOrdered 13 = .ok (.iload_n 3, 1) := by decide +kernel
theorem dL_isOrdered_14 : decode cL_isOrdered 14 = .ok (.aload_n 0, 1) := by decide +kernel
theorem dL_isOrdered_15 : decode cL_isOrdered 15 = .ok (.iload 4, 2) := by decide +kernel
theorem dL_isOrdered_17 : decode cL_isOrdered 17 = .ok (.invokestatic 147, 3) := by decide +kernel
theorem dL_isOrdered_20 : decode cL_isOrdered 20 = .ok (.bipush 115, 2) := by decide +kernel
theorem dL_isOrdered_22 : decode cL_isOrdered 22 = .ok (.if_icmp .ne 17, 3) := by decide +kernel
theorem dL_isOrdered_25 : decode cL_isOrdered 25 = .ok (.aload_n 0, 1) := by decide +kernel
theorem dL_isOrdered_26 : decode cL_isOrdered 26 = .ok (.iload 4, 2) := by decide +kernel
theorem dL_isOrdered_28 : decode cL_isOrdered 28 = .ok (.invokestatic 203, 3) := by decide +kernel
theorem dL_isOrdered_31 : decode cL_isOrdered 31 = .ok (.iload_n 2, 1) := by decide +kernel
theorem dL_isOrdered_32 : decode cL_isOrdered 32 = .ok (.if_icmp .ne 7, 3) := by decide +kernel
theorem dL_isOrdered_35 : decode cL_isOrdered 35 = .ok (.iconst 1, 1) := by decide +kernel
theorem dL_isOrdered_36 : decode cL_isOrdered 36 = .ok (.goto 4, 3) := by decide +kernel
theorem dL_isOrdered_39 : decode cL_isOrdered 39 = .ok (.iconst 0, 1) := by decide +kernel
theorem dL_isOrdered_40 : decode cL_isOrdered 40 = .ok (.iadd, 1) := by decide +kernel
theorem dL_isOrdered_41 : decode cL_isOrdered 41 = .ok (.istore_n 3, 1) := by decide +kernel
theorem dL_isOrdered_42 : decode cL_isOrdered 42 = .ok (.iinc 4 1, 3) := by decide +kernel
theorem dL_isOrdered_45 : decode cL_isOrdered 45 = .ok (.goto (-40), 3) := by decide +kernel
theorem dL_isOrdered_48 : decode cL_isOrdered 48 = .ok (.aload_n 0, 1) := by decide +kernel
theorem dL_isOrdered_49 : decode cL_isOrdered 49 = .ok (.iload_n 2, 1) := by decide +kernel
theorem dL_isOrdered_50 : decode cL_isOrdered 50 = .ok (.invokevirtual 193, 3) := by decide +kernel
theorem dL_isOrdered_53 : decode cL_isOrdered 53 = .ok (.iload_n 3, 1) := by decide +kernel
theorem dL_isOrdered_54 : decode cL_isOrdered 54 = .ok (.if_icmp .ne 18, 3) := by decide +kernel
theorem dL_isOrdered_57 : decode cL_isOrdered 57 = .ok (.aload_n 0, 1) := by decide +kernel
theorem dL_isOrdered_58 : decode cL_isOrdered 58 = .ok (.iload_n 2, 1) := by decide +kernel
theorem dL_isOrdered_59 : decode cL_isOrdered 59 = .ok (.iload_n 3, 1) := by decide +kernel
theorem dL_isOrdered_60 : decode cL_isOrdered 60 = .ok (.invokestatic 201, 3) := by decide +kernel
theorem dL_isOrdered_63 : decode cL_isOrdered 63 = .ok (.ldc 20, 2) := by decide +kernel
theorem dL_isOrdered_65 : decode cL_isOrdered 65 = .ok (.if_icmp .ne 7, 3) := by decide +kernel
theorem dL_isOrdered_68 : decode cL_isOrdered 68 = .ok (.iconst 1, 1) := by decide +kernel
theorem dL_isOrdered_69 : decode cL_isOrdered 69 = .ok (.goto 4, 3) := by decide +kernel
theorem dL_isOrdered_72 : decode cL_isOrdered 72 = .ok (.iconst 0, 1) := by decide +kernel
theorem dL_isOrdered_73 : decode cL_isOrdered 73 = .ok (.istore 4, 2) := by decide +kernel
theorem dL_isOrdered_75 : decode cL_isOrdered 75 = .ok (.iconst 0, 1) := by decide +kernel
theorem dL_isOrdered_76 : decode cL_isOrdered 76 = .ok (.istore 5, 2) := by decide +kernel
theorem dL_isOrdered_78 : decode cL_isOrdered 78 = .ok (.iload 5, 2) := by decide +kernel
theorem dL_isOrdered_80 : decode cL_isOrdered 80 = .ok (.iload_n 3, 1) := by decide +kernel
theorem dL_isOrdered_81 : decode cL_isOrdered 81 = .ok (.if_icmp .ge 73, 3) := by decide +kernel
theorem dL_isOrdered_84 : decode cL_isOrdered 84 = .ok (.aload_n 0, 1) := by decide +kernel
theorem dL_isOrdered_85 : decode cL_isOrdered 85 = .ok (.iload_n 2, 1) := by decide +kernel
theorem dL_isOrdered_86 : decode cL_isOrdered 86 = .ok (.iload 5, 2) := by decide +kernel
theorem dL_isOrdered_88 : decode cL_isOrdered 88 = .ok (.invokestatic 201, 3) := by decide +kernel
theorem dL_isOrdered_91 : decode cL_isOrdered 91 = .ok (.istore 6, 2) := by decide +kernel
theorem dL_isOrdered_93 : decode cL_isOrdered 93 = .ok (.iload 4, 2) := by decide +kernel
theorem dL_isOrdered_95 : decode cL_isOrdered 95 = .ok (.aload_n 0, 1) := by decide +kernel
theorem dL_isOrdered_96 : decode cL_isOrdered 96 = .ok (.iload 6, 2) := by decide +kernel
theorem dL_isOrdered_98 : decode cL_isOrdered 98 = .ok (.invokestatic 147, 3) := by decide +kernel
theorem dL_isOrdered_101 : decode cL_isOrdered 101 = .ok (.bipush 115, 2) := by decide +kernel
theorem dL_isOrdered_103 : decode cL_isOrdered 103 = .ok (.if_icmp .ne 41, 3) := by decide +kernel
theorem dL_isOrdered_106 : decode cL_isOrdered 106 = .ok (.aload_n 0, 1) := by decide +kernel
theorem dL_isOrdered_107 : decode cL_isOrdered 107 = .ok (.iload 6, 2) := by decide +kernel
theorem dL_isOrdered_109 : decode cL_isOrdered 109 = .ok (.invokestatic 203, 3) := by decide +kernel
theorem dL_isOrdered_112 : decode cL_isOrdered 112 = .ok (.iload_n 2, 1) := by decide +kernel
theorem dL_isOrdered_113 : decode cL_isOrdered 113 = .ok (.if_icmp .ne 31, 3) := by decide +kernel
theorem dL_isOrdered_116 : decode cL_isOrdered 116 = .ok (.iload 5, 2) := by decide +kernel
theorem dL_isOrdered_118 : decode cL_isOrdered 118 = .ok (.ifCond .eq 22, 3) := by decide +kernel
theorem dL_isOrdered_121 : decode cL_isOrdered 121 = .ok (.aload_n 0, 1) := by decide +kernel
theorem dL_isOrdered_122 : decode cL_isOrdered 122 = .ok (.aload_n 1, 1) := by decide +kernel
theorem dL_isOrdered_123 : decode cL_isOrdered 123 = .ok (.aload_n 0, 1) := by decide +kernel
theorem dL_isOrdered_124 : decode cL_isOrdered 124 = .ok (.iload_n 2, 1) := by decide +kernel
theorem dL_isOrdered_125 : decode cL_isOrdered 125 = .ok (.iload 5, 2) := by decide +kernel
theorem dL_isOrdered_127 : decode cL_isOrdered 127 = .ok (.iconst 1, 1) := by decide +kernel
theorem dL_isOrdered_128 : decode cL_isOrdered 128 = .ok (.isub, 1) := by decide +kernel
theorem dL_isOrdered_129 : decode cL_isOrdered 129 = .ok (.invokestatic 201, 3) := by decide +kernel
theorem dL_isOrdered_132 : decode cL_isOrdered 132 = .ok (.iload 6, 2) := by decide +kernel
theorem dL_isOrdered_134 : decode cL_isOrdered 134 = .ok (.invokestatic 205, 3) := by decide +kernel
theorem dL_isOrdered_137 : decode cL_isOrdered 137 = .ok (.ifCond .eq 7, 3) := by decide +kernel
theorem dL_isOrdered_140 : decode cL_isOrdered 140 = .ok (.iconst 1, 1) := by decide +kernel
theorem dL_isOrdered_141 : decode cL_isOrdered 141 = .ok (.goto 4, 3) := by decide +kernel
theorem dL_isOrdered_144 : decode cL_isOrdered 144 = .ok (.iconst 0, 1) := by decide +kernel
theorem dL_isOrdered_145 : decode cL_isOrdered 145 = .ok (.iand, 1) := by decide +kernel
theorem dL_isOrdered_146 : decode cL_isOrdered 146 = .ok (.istore 4, 2) := by decide +kernel
theorem dL_isOrdered_148 : decode cL_isOrdered 148 = .ok (.iinc 5 1, 3) := by decide +kernel
theorem dL_isOrdered_151 : decode cL_isOrdered 151 = .ok (.goto (-73), 3) := by decide +kernel
theorem dL_isOrdered_154 : decode cL_isOrdered 154 = .ok (.aload_n 0, 1) := by decide +kernel
theorem dL_isOrdered_155 : decode cL_isOrdered 155 = .ok (.aload_n 1, 1) := by decide +kernel
theorem dL_isOrdered_156 : decode cL_isOrdered 156 = .ok (.iload_n 2, 1) := by decide +kernel
theorem dL_isOrdered_157 : decode cL_isOrdered 157 = .ok (.iconst (-1), 1) := by decide +kernel
theorem dL_isOrdered_158 : decode cL_isOrdered 158 = .ok (.bipush 45, 2) := by decide +kernel
theorem dL_isOrdered_160 : decode cL_isOrdered 160 = .ok (.bipush 40, 2) := by decide +kernel
theorem dL_isOrdered_162 : decode cL_isOrdered 162 = .ok (.newarray .int, 2) := by decide +kernel
theorem dL_isOrdered_164 : decode cL_isOrdered 164 = .ok (.invokestatic 209, 3) := by decide +kernel
theorem dL_isOrdered_167 : decode cL_isOrdered 167 = .ok (.iconst 0, 1) := by decide +kernel
theorem dL_isOrdered_168 : decode cL_isOrdered 168 = .ok (.iaload, 1) := by decide +kernel
theorem dL_isOrdered_169 : decode cL_isOrdered 169 = .ok (.istore 5, 2) := by decide +kernel
theorem dL_isOrdered_171 : decode cL_isOrdered 171 = .ok (.iload 4, 2) := by decide +kernel
theorem dL_isOrdered_173 : decode cL_isOrdered 173 = .ok (.ifCond .eq 53, 3) := by decide +kernel
theorem dL_isOrdered_176 : decode cL_isOrdered 176 = .ok (.aload_n 0, 1) := by decide +kernel
theorem dL_isOrdered_177 : decode cL_isOrdered 177 = .ok (.iload_n 2, 1) := by decide +kernel
theorem dL_isOrdered_178 : decode cL_isOrdered 178 = .ok (.invokevirtual 213, 3) := by decide +kernel
theorem dL_isOrdered_181 : decode cL_isOrdered 181 = .ok (.iload 5, 2) := by decide +kernel
theorem dL_isOrdered_183 : decode cL_isOrdered 183 = .ok (.if_icmp .ne 43, 3) := by decide +kernel
theorem dL_isOrdered_186 : decode cL_isOrdered 186 = .ok (.aload_n 0, 1) := by decide +kernel
theorem dL_isOrdered_187 : decode cL_isOrdered 187 = .ok (.iload_n 2, 1) := by decide +kernel
theorem dL_isOrdered_188 : decode cL_isOrdered 188 = .ok (.invokevirtual 216, 3) := by decide +kernel
theorem dL_isOrdered_191 : decode cL_isOrdered 191 = .ok (.iload 5, 2) := by decide +kernel
theorem dL_isOrdered_193 : decode cL_isOrdered 193 = .ok (.if_icmp .gt 33, 3) := by decide +kernel
theorem dL_isOrdered_196 : decode cL_isOrdered 196 = .ok (.aload_n 0, 1) := by decide +kernel
theorem dL_isOrdered_197 : decode cL_isOrdered 197 = .ok (.iload_n 2, 1) := by decide +kernel
theorem dL_isOrdered_198 : decode cL_isOrdered 198 = .ok (.invokevirtual 216, 3) := by decide +kernel
theorem dL_isOrdered_201 : decode cL_isOrdered 201 = .ok (.ifCond .ne 7, 3) := by decide +kernel
theorem dL_isOrdered_204 : decode cL_isOrdered 204 = .ok (.iconst 1, 1) := by decide +kernel
theorem dL_isOrdered_205 : decode cL_isOrdered 205 = .ok (.goto 4, 3) := by decide +kernel
theorem dL_isOrdered_208 : decode cL_isOrdered 208 = .ok (.iconst 0, 1) := by decide +kernel
theorem dL_isOrdered_209 : decode cL_isOrdered 209 = .ok (.iload 5, 2) := by decide +kernel
theorem dL_isOrdered_211 : decode cL_isOrdered 211 = .ok (.ifCond .ne 7, 3) := by decide +kernel
theorem dL_isOrdered_214 : decode cL_isOrdered 214 = .ok (.iconst 1, 1) := by decide +kernel
theorem dL_isOrdered_215 : decode cL_isOrdered 215 = .ok (.goto 4, 3) := by decide +kernel
theorem dL_isOrdered_218 : decode cL_isOrdered 218 = .ok (.iconst 0, 1) := by decide +kernel
theorem dL_isOrdered_219 : decode cL_isOrdered 219 = .ok (.if_icmp .ne 7, 3) := by decide +kernel
theorem dL_isOrdered_222 : decode cL_isOrdered 222 = .ok (.iconst 1, 1) := by decide +kernel
theorem dL_isOrdered_223 : decode cL_isOrdered 223 = .ok (.goto 4, 3) := by decide +kernel
theorem dL_isOrdered_226 : decode cL_isOrdered 226 = .ok (.iconst 0, 1) := by decide +kernel
theorem dL_isOrdered_227 : decode cL_isOrdered 227 = .ok (.ireturn, 1) := by decide +kernel
theorem dL_isPassed_0 : decode cL_isPassed 0 = .ok (.aload_n 0, 1) := by decide +kernel
theorem dL_isPassed_1 : decode cL_isPassed 1 = .ok (.invokevirtual 124, 3) := by decide +kernel
theorem dL_isPassed_4 : decode cL_isPassed 4 = .ok (.iconst 1, 1) := by decide +kernel
theorem dL_isPassed_5 : decode cL_isPassed 5 = .ok (.iadd, 1) := by decide +kernel
theorem dL_isPassed_6 : decode cL_isPassed 6 = .ok (.istore_n 2, 1) := by decide +kernel
theorem dL_isPassed_7 : decode cL_isPassed 7 = .ok (.bipush 40, 2) := by decide +kernel
theorem dL_isPassed_9 : decode cL_isPassed 9 = .ok (.newarray .int, 2) := by decide +kernel
theorem dL_isPassed_11 : decode cL_isPassed 11 = .ok (.astore_n 3, 1) := by decide +kernel
theorem dL_isPassed_12 : decode cL_isPassed 12 = .ok (.bipush 12, 2) := by decide +kernel
theorem dL_isPassed_14 : decode cL_isPassed 14 = .ok (.anewarray 219, 3) := by decide +kernel
theorem dL_isPassed_17 : decode cL_isPassed 17 = .ok (.astore 4, 2) := by decide +kernel
theorem dL_isPassed_19 : decode cL_isPassed 19 = .ok (.iconst 0, 1) := by decide +kernel
theorem dL_isPassed_20 : decode cL_isPassed 20 = .ok (.istore 5, 2) := by decide +kernel
theorem dL_isPassed_22 : decode cL_isPassed 22 = .ok (.iload 5, 2) := by decide +kernel
theorem dL_isPassed_24 : decode cL_isPassed 24 = .ok (.aload_n 1, 1) := by decide +kernel
theorem dL_isPassed_25 : decode cL_isPassed 25 = .ok (.iconst 1, 1) := by decide +kernel
theorem dL_isPassed_26 : decode cL_isPassed 26 = .ok (.iaload, 1) := by decide +kernel
theorem dL_isPassed_27 : decode cL_isPassed 27 = .ok (.if_icmp .ge 102, 3) := by decide +kernel
theorem dL_isPassed_30 : decode cL_isPassed 30 = .ok (.aload_n 1, 1) := by decide +kernel
theorem dL_isPassed_31 : decode cL_isPassed 31 = .ok (.bipush 36, 2) := by decide +kernel
theorem dL_isPassed_33 : decode cL_isPassed 33 = .ok (.bipush 8, 2) := by decide +kernel
theorem dL_isPassed_35 : decode cL_isPassed 35 = .ok (.iload 5, 2) := by decide +kernel
theorem dL_isPassed_37 : decode cL_isPassed 37 = .ok (.imul, 1) := by decide +kernel
theorem dL_isPassed_38 : decode cL_isPassed 38 = .ok (.iadd, 1) := by decide +kernel
theorem dL_isPassed_39 : decode cL_isPassed 39 = .ok (.iaload, 1) := by decide +kernel
theorem dL_isPassed_40 : decode cL_isPassed 40 = .ok (.ifCond .ne 7, 3) := by decide +kernel
theorem dL_isPassed_43 : decode cL_isPassed 43 = .ok (.iconst 1, 1) := by decide +kernel
theorem dL_isPassed_44 : decode cL_isPassed 44 = .ok (.goto 4, 3) := by decide +kernel
theorem dL_isPassed_47 : decode cL_isPassed 47 = .ok (.iconst 0, 1) := by decide +kernel
theorem dL_isPassed_48 : decode cL_isPassed 48 = .ok (.istore 6, 2) := by decide +kernel
theorem dL_isPassed_50 : decode cL_isPassed 50 = .ok (.aload_n 0, 1) := by decide +kernel
theorem dL_isPassed_51 : decode cL_isPassed 51 = .ok (.aload_n 1, 1) := by decide +kernel
theorem dL_isPassed_52 : decode cL_isPassed 52 = .ok (.iload 5, 2) := by decide +kernel
theorem dL_isPassed_54 : decode cL_isPassed 54 = .ok (.invokestatic 221, 3) := by decide +kernel
theorem dL_isPassed_57 : decode cL_isPassed 57 = .ok (.ifCond .eq 24, 3) := by decide +kernel
theorem dL_isPassed_60 : decode cL_isPassed 60 = .ok (.iload 6, 2) := by decide +kernel
theorem dL_isPassed_62 : decode cL_isPassed 62 = .ok (.ifCond .eq 21, 3) := by decide +kernel
theorem dL_isPassed_65 : decode cL_isPassed 65 = .ok (.aload_n 0, 1) := by decide +kernel
theorem dL_isPassed_66 : decode cL_isPassed 66 = .ok (.iload 5, 2) := by decide +kernel
theorem dL_isPassed_68 : decode cL_isPassed 68 = .ok (.invokestatic 198, 3) := by decide +kernel
theorem dL_isPassed_71 : decode cL_isPassed 71 = .ok (.aload_n 1, 1) := by decide +kernel
theorem dL_isPassed_72 : decode cL_isPassed 72 = .ok (.iload 5, 2) := by decide +kernel
theorem dL_isPassed_74 : decode cL_isPassed 74 = .ok (.iload_n 2, 1) := by decide +kernel
theorem dL_isPassed_75 : decode cL_isPassed 75 = .ok (.invokestatic 224, 3) := by decide +kernel
theorem dL_isPassed_78 : decode cL_isPassed 78 = .ok (.if_icmp .eq 5, 3) := by decide +kernel
theorem dL_isPassed_81 : decode cL_isPassed 81 = .ok (.iconst 0, 1) := by decide +kernel
theorem dL_isPassed_82 : decode cL_isPassed 82 = .ok (.ireturn, 1) := by decide +kernel
theorem dL_isPassed_83 : decode cL_isPassed 83 = .ok (.iload 6, 2) := by decide +kernel
theorem dL_isPassed_85 : decode cL_isPassed 85 = .ok (.ifCond .eq 38, 3) := by decide +kernel
theorem dL_isPassed_88 : decode cL_isPassed 88 = .ok (.aload_n 1, 1) := by decide +kernel
theorem dL_isPassed_89 : decode cL_isPassed 89 = .ok (.iload 5, 2) := by decide +kernel
theorem dL_isPassed_91 : decode cL_isPassed 91 = .ok (.iload_n 2, 1) := by decide +kernel
theorem dL_isPassed_92 : decode cL_isPassed 92 = .ok (.invokestatic 224, 3) := by decide +kernel
theorem dL_isPassed_95 : decode cL_isPassed 95 = .ok (.iload_n 2, 1) := by decide +kernel
theorem dL_isPassed_96 : decode cL_isPassed 96 = .ok (.if_icmp .ne 27, 3) := by decide +kernel
theorem dL_isPassed_99 : decode cL_isPassed 99 = .ok (.aload 4, 2) := by decide +kernel
theorem dL_isPassed_101 : decode cL_isPassed 101 = .ok (.iload 5, 2) := by decide +kernel
theorem dL_isPassed_103 : decode cL_isPassed 103 = .ok (.aload_n 0, 1) := by decide +kernel
theorem dL_isPassed_104 : decode cL_isPassed 104 = .ok (.aload_n 1, 1) := by decide +kernel
theorem dL_isPassed_105 : decode cL_isPassed 105 = .ok (.iload 5, 2) := by decide +kernel
theorem dL_isPassed_107 : decode cL_isPassed 107 = .ok (.iload_n 2, 1) := by decide +kernel
theorem dL_isPassed_108 : decode cL_isPassed 108 = .ok (.aload_n 1, 1) := by decide +kernel
theorem dL_isPassed_109 : decode cL_isPassed 109 = .ok (.bipush 35, 2) := by decide +kernel
theorem dL_isPassed_111 : decode cL_isPassed 111 = .ok (.bipush 8, 2) := by decide +kernel
theorem dL_isPassed_113 : decode cL_isPassed 113 = .ok (.iload 5, 2) := by decide +kernel
theorem dL_isPassed_115 : decode cL_isPassed 115 = .ok (.imul, 1) := by decide +kernel
theorem dL_isPassed_116 : decode cL_isPassed 116 = .ok (.iadd, 1) := by decide +kernel
theorem dL_isPassed_117 : decode cL_isPassed 117 = .ok (.iaload, 1) := by decide +kernel
theorem dL_isPassed_118 : decode cL_isPassed 118 = .ok (.aload_n 3, 1) := by decide +kernel
theorem dL_isPassed_119 : decode cL_isPassed 119 = .ok (.invokestatic 209, 3) := by decide +kernel
theorem dL_isPassed_122 : decode cL_isPassed 122 = .ok (.aastore, 1) := by decide +kernel
theorem dL_isPassed_123 : decode cL_isPassed 123 = .ok (.iinc 5 1, 3) := by decide +kernel
theorem dL_isPassed_126 : decode cL_isPassed 126 = .ok (.goto (-104), 3) := by decide +kernel
theorem dL_isPassed_129 : decode cL_isPassed 129 = .ok (.bipush 40, 2) := by decide +kernel
theorem dL_isPassed_131 : decode cL_isPassed 131 = .ok (.newarray .int, 2) := by decide +kernel
theorem dL_isPassed_133 : decode cL_isPassed 133 = .ok (.astore 5, 2) := by decide +kernel
theorem dL_isPassed_135 : decode cL_isPassed 135 = .ok (.iconst 0, 1) := by decide +kernel
theorem dL_isPassed_136 : decode cL_isPassed 136 = .ok (.istore 6, 2) := by decide +kernel
theorem dL_isPassed_138 : decode cL_isPassed 138 = .ok (.iconst 0, 1) := by decide +kernel
theorem dL_isPassed_139 : decode cL_isPassed 139 = .ok (.istore 7, 2) := by decide +kernel
theorem dL_isPassed_141 : decode cL_isPassed 141 = .ok (.iload 7, 2) := by decide +kernel
theorem dL_isPassed_143 : decode cL_isPassed 143 = .ok (.aload_n 1, 1) := by decide +kernel
theorem dL_isPassed_144 : decode cL_isPassed 144 = .ok (.iconst 2, 1) := by decide +kernel
theorem dL_isPassed_145 : decode cL_isPassed 145 = .ok (.iaload, 1) := by decide +kernel
theorem dL_isPassed_146 : decode cL_isPassed 146 = .ok (.if_icmp .ge 55, 3) := by decide +kernel
theorem dL_isPassed_149 : decode cL_isPassed 149 = .ok (.aload 5, 2) := by decide +kernel
theorem dL_isPassed_151 : decode cL_isPassed 151 = .ok (.iload 7, 2) := by decide +kernel
theorem dL_isPassed_153 : decode cL_isPassed 153 = .ok (.aload_n 0, 1) := by decide +kernel
theorem dL_isPassed_154 : decode cL_isPassed 154 = .ok (.iload 7, 2) := by decide +kernel
theorem dL_isPassed_156 : decode cL_isPassed 156 = .ok (.invokestatic 147, 3) := by decide +kernel
theorem dL_isPassed_159 : decode cL_isPassed 159 = .ok (.iastore, 1) := by decide +kernel
theorem dL_isPassed_160 : decode cL_isPassed 160 = .ok (.iload 6, 2) := by decide +kernel
theorem dL_isPassed_162 : decode cL_isPassed 162 = .ok (.aload 5, 2) := by decide +kernel
theorem dL_isPassed_164 : decode cL_isPassed 164 = .ok (.iload 7, 2) := by decide +kernel
theorem dL_isPassed_166 : decode cL_isPassed 166 = .ok (.iaload, 1) := by decide +kernel
theorem dL_isPassed_167 : decode cL_isPassed 167 = .ok (.bipush 116, 2) := by decide +kernel
theorem dL_isPassed_169 : decode cL_isPassed 169 = .ok (.if_icmp .ne 22, 3) := by decide +kernel
theorem dL_isPassed_172 : decode cL_isPassed 172 = .ok (.aload_n 1, 1) := by decide +kernel
theorem dL_isPassed_173 : decode cL_isPassed 173 = .ok (.sipush 144, 3) := by decide +kernel
theorem dL_isPassed_176 : decode cL_isPassed 176 = .ok (.bipush 12, 2) := by decide +kernel
theorem dL_isPassed_178 : decode cL_isPassed 178 = .ok (.iload 7, 2) := by decide +kernel
