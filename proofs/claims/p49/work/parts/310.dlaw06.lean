/-! the law: decode rows 6 -/
theorem dL_isDone_168 : decode cL_isDone 168 = .ok (.goto 15, 3) := by decide +kernel
theorem dL_isDone_171 : decode cL_isDone 171 = .ok (.iload 7, 2) := by decide +kernel
theorem dL_isDone_173 : decode cL_isDone 173 = .ok (.ldc 20, 2) := by decide +kernel
theorem dL_isDone_175 : decode cL_isDone 175 = .ok (.if_icmp .ne 7, 3) := by decide +kernel
theorem dL_isDone_178 : decode cL_isDone 178 = .ok (.iconst 1, 1) := by decide +kernel
theorem dL_isDone_179 : decode cL_isDone 179 = .ok (.goto 4, 3) := by decide +kernel
theorem dL_isDone_182 : decode cL_isDone 182 = .ok (.iconst 0, 1) := by decide +kernel
theorem dL_isDone_183 : decode cL_isDone 183 = .ok (.ireturn, 1) := by decide +kernel
theorem dL_isDone_184 : decode cL_isDone 184 = .ok (.iload 5, 2) := by decide +kernel
theorem dL_isDone_186 : decode cL_isDone 186 = .ok (.bipush 10, 2) := by decide +kernel
theorem dL_isDone_188 : decode cL_isDone 188 = .ok (.if_icmp .ne 13, 3) := by decide +kernel
theorem dL_isDone_191 : decode cL_isDone 191 = .ok (.aload_n 0, 1) := by decide +kernel
theorem dL_isDone_192 : decode cL_isDone 192 = .ok (.aload_n 1, 1) := by decide +kernel
theorem dL_isDone_193 : decode cL_isDone 193 = .ok (.aload_n 2, 1) := by decide +kernel
theorem dL_isDone_194 : decode cL_isDone 194 = .ok (.iload_n 3, 1) := by decide +kernel
theorem dL_isDone_195 : decode cL_isDone 195 = .ok (.iconst 2, 1) := by decide +kernel
theorem dL_isDone_196 : decode cL_isDone 196 = .ok (.iadd, 1) := by decide +kernel
theorem dL_isDone_197 : decode cL_isDone 197 = .ok (.invokestatic 120, 3) := by decide +kernel
theorem dL_isDone_200 : decode cL_isDone 200 = .ok (.ireturn, 1) := by decide +kernel
theorem dL_isDone_201 : decode cL_isDone 201 = .ok (.aload_n 2, 1) := by decide +kernel
theorem dL_isDone_202 : decode cL_isDone 202 = .ok (.iload_n 3, 1) := by decide +kernel
theorem dL_isDone_203 : decode cL_isDone 203 = .ok (.iconst 2, 1) := by decide +kernel
theorem dL_isDone_204 : decode cL_isDone 204 = .ok (.iadd, 1) := by decide +kernel
theorem dL_isDone_205 : decode cL_isDone 205 = .ok (.aload_n 1, 1) := by decide +kernel
theorem dL_isDone_206 : decode cL_isDone 206 = .ok (.iconst 1, 1) := by decide +kernel
theorem dL_isDone_207 : decode cL_isDone 207 = .ok (.iaload, 1) := by decide +kernel
theorem dL_isDone_208 : decode cL_isDone 208 = .ok (.invokestatic 106, 3) := by decide +kernel
theorem dL_isDone_211 : decode cL_isDone 211 = .ok (.istore 6, 2) := by decide +kernel
theorem dL_isDone_213 : decode cL_isDone 213 = .ok (.aload_n 1, 1) := by decide +kernel
theorem dL_isDone_214 : decode cL_isDone 214 = .ok (.bipush 36, 2) := by decide +kernel
theorem dL_isDone_216 : decode cL_isDone 216 = .ok (.bipush 8, 2) := by decide +kernel
theorem dL_isDone_218 : decode cL_isDone 218 = .ok (.iload 6, 2) := by decide +kernel
theorem dL_isDone_220 : decode cL_isDone 220 = .ok (.imul, 1) := by decide +kernel
theorem dL_isDone_221 : decode cL_isDone 221 = .ok (.iadd, 1) := by decide +kernel
theorem dL_isDone_222 : decode cL_isDone 222 = .ok (.iaload, 1) := by decide +kernel
theorem dL_isDone_223 : decode cL_isDone 223 = .ok (.iconst 1, 1) := by decide +kernel
theorem dL_isDone_224 : decode cL_isDone 224 = .ok (.if_icmp .ne 8, 3) := by decide +kernel
theorem dL_isDone_227 : decode cL_isDone 227 = .ok (.ldc 20, 2) := by decide +kernel
theorem dL_isDone_229 : decode cL_isDone 229 = .ok (.goto 9, 3) := by decide +kernel
theorem dL_isDone_232 : decode cL_isDone 232 = .ok (.aload_n 0, 1) := by decide +kernel
theorem dL_isDone_233 : decode cL_isDone 233 = .ok (.iload 6, 2) := by decide +kernel
theorem dL_isDone_235 : decode cL_isDone 235 = .ok (.invokevirtual 193, 3) := by decide +kernel
theorem dL_isDone_238 : decode cL_isDone 238 = .ok (.istore 7, 2) := by decide +kernel
theorem dL_isDone_240 : decode cL_isDone 240 = .ok (.aload_n 1, 1) := by decide +kernel
theorem dL_isDone_241 : decode cL_isDone 241 = .ok (.bipush 36, 2) := by decide +kernel
theorem dL_isDone_243 : decode cL_isDone 243 = .ok (.bipush 8, 2) := by decide +kernel
theorem dL_isDone_245 : decode cL_isDone 245 = .ok (.iload 6, 2) := by decide +kernel
theorem dL_isDone_247 : decode cL_isDone 247 = .ok (.imul, 1) := by decide +kernel
theorem dL_isDone_248 : decode cL_isDone 248 = .ok (.iadd, 1) := by decide +kernel
theorem dL_isDone_249 : decode cL_isDone 249 = .ok (.aload_n 2, 1) := by decide +kernel
theorem dL_isDone_250 : decode cL_isDone 250 = .ok (.iload_n 3, 1) := by decide +kernel
theorem dL_isDone_251 : decode cL_isDone 251 = .ok (.iconst 3, 1) := by decide +kernel
theorem dL_isDone_252 : decode cL_isDone 252 = .ok (.iadd, 1) := by decide +kernel
theorem dL_isDone_253 : decode cL_isDone 253 = .ok (.iconst 2, 1) := by decide +kernel
theorem dL_isDone_254 : decode cL_isDone 254 = .ok (.invokestatic 106, 3) := by decide +kernel
theorem dL_isDone_257 : decode cL_isDone 257 = .ok (.ifCond .ne 7, 3) := by decide +kernel
theorem dL_isDone_260 : decode cL_isDone 260 = .ok (.iconst 1, 1) := by decide +kernel
theorem dL_isDone_261 : decode cL_isDone 261 = .ok (.goto 13, 3) := by decide +kernel
theorem dL_isDone_264 : decode cL_isDone 264 = .ok (.aload_n 1, 1) := by decide +kernel
theorem dL_isDone_265 : decode cL_isDone 265 = .ok (.bipush 36, 2) := by decide +kernel
theorem dL_isDone_267 : decode cL_isDone 267 = .ok (.bipush 8, 2) := by decide +kernel
theorem dL_isDone_269 : decode cL_isDone 269 = .ok (.iload 6, 2) := by decide +kernel
theorem dL_isDone_271 : decode cL_isDone 271 = .ok (.imul, 1) := by decide +kernel
theorem dL_isDone_272 : decode cL_isDone 272 = .ok (.iadd, 1) := by decide +kernel
theorem dL_isDone_273 : decode cL_isDone 273 = .ok (.iaload, 1) := by decide +kernel
theorem dL_isDone_274 : decode cL_isDone 274 = .ok (.iastore, 1) := by decide +kernel
theorem dL_isDone_275 : decode cL_isDone 275 = .ok (.aload_n 2, 1) := by decide +kernel
theorem dL_isDone_276 : decode cL_isDone 276 = .ok (.iload_n 3, 1) := by decide +kernel
theorem dL_isDone_277 : decode cL_isDone 277 = .ok (.iconst 3, 1) := by decide +kernel
theorem dL_isDone_278 : decode cL_isDone 278 = .ok (.iadd, 1) := by decide +kernel
theorem dL_isDone_279 : decode cL_isDone 279 = .ok (.iconst 2, 1) := by decide +kernel
theorem dL_isDone_280 : decode cL_isDone 280 = .ok (.invokestatic 106, 3) := by decide +kernel
theorem dL_isDone_283 : decode cL_isDone 283 = .ok (.ifCond .gt 34, 3) := by decide +kernel
theorem dL_isDone_286 : decode cL_isDone 286 = .ok (.aload_n 0, 1) := by decide +kernel
theorem dL_isDone_287 : decode cL_isDone 287 = .ok (.iload 6, 2) := by decide +kernel
theorem dL_isDone_289 : decode cL_isDone 289 = .ok (.invokestatic 196, 3) := by decide +kernel
theorem dL_isDone_292 : decode cL_isDone 292 = .ok (.iload 7, 2) := by decide +kernel
theorem dL_isDone_294 : decode cL_isDone 294 = .ok (.if_icmp .ne 27, 3) := by decide +kernel
theorem dL_isDone_297 : decode cL_isDone 297 = .ok (.aload_n 0, 1) := by decide +kernel
theorem dL_isDone_298 : decode cL_isDone 298 = .ok (.iload 6, 2) := by decide +kernel
theorem dL_isDone_300 : decode cL_isDone 300 = .ok (.invokestatic 198, 3) := by decide +kernel
theorem dL_isDone_303 : decode cL_isDone 303 = .ok (.ldc 20, 2) := by decide +kernel
theorem dL_isDone_305 : decode cL_isDone 305 = .ok (.if_icmp .ne 16, 3) := by decide +kernel
theorem dL_isDone_308 : decode cL_isDone 308 = .ok (.aload_n 0, 1) := by decide +kernel
theorem dL_isDone_309 : decode cL_isDone 309 = .ok (.iload 6, 2) := by decide +kernel
theorem dL_isDone_311 : decode cL_isDone 311 = .ok (.invokevirtual 193, 3) := by decide +kernel
theorem dL_isDone_314 : decode cL_isDone 314 = .ok (.ifCond .ne 7, 3) := by decide +kernel
theorem dL_isDone_317 : decode cL_isDone 317 = .ok (.iconst 1, 1) := by decide +kernel
theorem dL_isDone_318 : decode cL_isDone 318 = .ok (.goto 4, 3) := by decide +kernel
theorem dL_isDone_321 : decode cL_isDone 321 = .ok (.iconst 0, 1) := by decide +kernel
theorem dL_isDone_322 : decode cL_isDone 322 = .ok (.ireturn, 1) := by decide +kernel
theorem dL_isAhead_0 : decode cL_isAhead 0 = .ok (.aload_n 1, 1) := by decide +kernel
theorem dL_isAhead_1 : decode cL_isAhead 1 = .ok (.sipush 141, 3) := by decide +kernel
theorem dL_isAhead_4 : decode cL_isAhead 4 = .ok (.bipush 12, 2) := by decide +kernel
theorem dL_isAhead_6 : decode cL_isAhead 6 = .ok (.iload_n 2, 1) := by decide +kernel
theorem dL_isAhead_7 : decode cL_isAhead 7 = .ok (.imul, 1) := by decide +kernel
theorem dL_isAhead_8 : decode cL_isAhead 8 = .ok (.iadd, 1) := by decide +kernel
theorem dL_isAhead_9 : decode cL_isAhead 9 = .ok (.iaload, 1) := by decide +kernel
theorem dL_isAhead_10 : decode cL_isAhead 10 = .ok (.aload_n 1, 1) := by decide +kernel
theorem dL_isAhead_11 : decode cL_isAhead 11 = .ok (.sipush 141, 3) := by decide +kernel
theorem dL_isAhead_14 : decode cL_isAhead 14 = .ok (.bipush 12, 2) := by decide +kernel
theorem dL_isAhead_16 : decode cL_isAhead 16 = .ok (.iload_n 3, 1) := by decide +kernel
theorem dL_isAhead_17 : decode cL_isAhead 17 = .ok (.imul, 1) := by decide +kernel
theorem dL_isAhead_18 : decode cL_isAhead 18 = .ok (.iadd, 1) := by decide +kernel
theorem dL_isAhead_19 : decode cL_isAhead 19 = .ok (.iaload, 1) := by decide +kernel
theorem dL_isAhead_20 : decode cL_isAhead 20 = .ok (.isub, 1) := by decide +kernel
theorem dL_isAhead_21 : decode cL_isAhead 21 = .ok (.istore 4, 2) := by decide +kernel
theorem dL_isAhead_23 : decode cL_isAhead 23 = .ok (.aload_n 0, 1) := by decide +kernel
theorem dL_isAhead_24 : decode cL_isAhead 24 = .ok (.iload_n 2, 1) := by decide +kernel
theorem dL_isAhead_25 : decode cL_isAhead 25 = .ok (.invokevirtual 142, 3) := by decide +kernel
theorem dL_isAhead_28 : decode cL_isAhead 28 = .ok (.ifCond .ge 8, 3) := by decide +kernel
theorem dL_isAhead_31 : decode cL_isAhead 31 = .ok (.ldc 200, 2) := by decide +kernel
theorem dL_isAhead_33 : decode cL_isAhead 33 = .ok (.goto 8, 3) := by decide +kernel
theorem dL_isAhead_36 : decode cL_isAhead 36 = .ok (.aload_n 0, 1) := by decide +kernel
theorem dL_isAhead_37 : decode cL_isAhead 37 = .ok (.iload_n 2, 1) := by decide +kernel
theorem dL_isAhead_38 : decode cL_isAhead 38 = .ok (.invokevirtual 142, 3) := by decide +kernel
theorem dL_isAhead_41 : decode cL_isAhead 41 = .ok (.aload_n 0, 1) := by decide +kernel
theorem dL_isAhead_42 : decode cL_isAhead 42 = .ok (.iload_n 3, 1) := by decide +kernel
theorem dL_isAhead_43 : decode cL_isAhead 43 = .ok (.invokevirtual 142, 3) := by decide +kernel
theorem dL_isAhead_46 : decode cL_isAhead 46 = .ok (.ifCond .ge 8, 3) := by decide +kernel
theorem dL_isAhead_49 : decode cL_isAhead 49 = .ok (.ldc 200, 2) := by decide +kernel
theorem dL_isAhead_51 : decode cL_isAhead 51 = .ok (.goto 8, 3) := by decide +kernel
theorem dL_isAhead_54 : decode cL_isAhead 54 = .ok (.aload_n 0, 1) := by decide +kernel
theorem dL_isAhead_55 : decode cL_isAhead 55 = .ok (.iload_n 3, 1) := by decide +kernel
theorem dL_isAhead_56 : decode cL_isAhead 56 = .ok (.invokevirtual 142, 3) := by decide +kernel
theorem dL_isAhead_59 : decode cL_isAhead 59 = .ok (.isub, 1) := by decide +kernel
theorem dL_isAhead_60 : decode cL_isAhead 60 = .ok (.istore 5, 2) := by decide +kernel
theorem dL_isAhead_62 : decode cL_isAhead 62 = .ok (.iload 4, 2) := by decide +kernel
theorem dL_isAhead_64 : decode cL_isAhead 64 = .ok (.ifCond .eq 16, 3) := by decide +kernel
theorem dL_isAhead_67 : decode cL_isAhead 67 = .ok (.iload 4, 2) := by decide +kernel
theorem dL_isAhead_69 : decode cL_isAhead 69 = .ok (.ifCond .ge 7, 3) := by decide +kernel
theorem dL_isAhead_72 : decode cL_isAhead 72 = .ok (.iconst 1, 1) := by decide +kernel
theorem dL_isAhead_73 : decode cL_isAhead 73 = .ok (.goto 35, 3) := by decide +kernel
theorem dL_isAhead_76 : decode cL_isAhead 76 = .ok (.iconst 0, 1) := by decide +kernel
theorem dL_isAhead_77 : decode cL_isAhead 77 = .ok (.goto 31, 3) := by decide +kernel
theorem dL_isAhead_80 : decode cL_isAhead 80 = .ok (.iload 5, 2) := by decide +kernel
theorem dL_isAhead_82 : decode cL_isAhead 82 = .ok (.ifCond .eq 16, 3) := by decide +kernel
theorem dL_isAhead_85 : decode cL_isAhead 85 = .ok (.iload 5, 2) := by decide +kernel
theorem dL_isAhead_87 : decode cL_isAhead 87 = .ok (.ifCond .ge 7, 3) := by decide +kernel
theorem dL_isAhead_90 : decode cL_isAhead 90 = .ok (.iconst 1, 1) := by decide +kernel
theorem dL_isAhead_91 : decode cL_isAhead 91 = .ok (.goto 17, 3) := by decide +kernel
theorem dL_isAhead_94 : decode cL_isAhead 94 = .ok (.iconst 0, 1) := by decide +kernel
theorem dL_isAhead_95 : decode cL_isAhead 95 = .ok (.goto 13, 3) := by decide +kernel
theorem dL_isAhead_98 : decode cL_isAhead 98 = .ok (.iload_n 2, 1) := by decide +kernel
theorem dL_isAhead_99 : decode cL_isAhead 99 = .ok (.iload_n 3, 1) := by decide +kernel
theorem dL_isAhead_100 : decode cL_isAhead 100 = .ok (.if_icmp .ge 7, 3) := by decide +kernel
theorem dL_isAhead_103 : decode cL_isAhead 103 = .ok (.iconst 1, 1) := by decide +kernel
theorem dL_isAhead_104 : decode cL_isAhead 104 = .ok (.goto 4, 3) := by decide +kernel
theorem dL_isAhead_107 : decode cL_isAhead 107 = .ok (.iconst 0, 1) := by decide +kernel
theorem dL_isAhead_108 : decode cL_isAhead 108 = .ok (.ireturn, 1) := by decide +kernel
theorem dL_bagged_0 : decode cL_bagged 0 = .ok (.bipush 100, 2) := by decide +kernel
theorem dL_bagged_2 : decode cL_bagged 2 = .ok (.newarray .int, 2) := by decide +kernel
theorem dL_bagged_4 : decode cL_bagged 4 = .ok (.astore 6, 2) := by decide +kernel
theorem dL_bagged_6 : decode cL_bagged 6 = .ok (.iconst 0, 1) := by decide +kernel
theorem dL_bagged_7 : decode cL_bagged 7 = .ok (.istore 7, 2) := by decide +kernel
theorem dL_bagged_9 : decode cL_bagged 9 = .ok (.iload 7, 2) := by decide +kernel
theorem dL_bagged_11 : decode cL_bagged 11 = .ok (.aload_n 0, 1) := by decide +kernel
theorem dL_bagged_12 : decode cL_bagged 12 = .ok (.iload_n 2, 1) := by decide +kernel
theorem dL_bagged_13 : decode cL_bagged 13 = .ok (.invokevirtual 193, 3) := by decide +kernel
theorem dL_bagged_16 : decode cL_bagged 16 = .ok (.if_icmp .ge 224, 3) := by decide +kernel
theorem dL_bagged_19 : decode cL_bagged 19 = .ok (.aload_n 0, 1) := by decide +kernel
theorem dL_bagged_20 : decode cL_bagged 20 = .ok (.iload_n 2, 1) := by decide +kernel
theorem dL_bagged_21 : decode cL_bagged 21 = .ok (.iload 7, 2) := by decide +kernel
theorem dL_bagged_23 : decode cL_bagged 23 = .ok (.invokestatic 201, 3) := by decide +kernel
theorem dL_bagged_26 : decode cL_bagged 26 = .ok (.istore 8, 2) := by decide +kernel
theorem dL_bagged_28 : decode cL_bagged 28 = .ok (.sipush 140, 3) := by decide +kernel
theorem dL_bagged_31 : decode cL_bagged 31 = .ok (.bipush 12, 2) := by decide +kernel
theorem dL_bagged_33 : decode cL_bagged 33 = .ok (.iload 8, 2) := by decide +kernel
theorem dL_bagged_35 : decode cL_bagged 35 = .ok (.imul, 1) := by decide +kernel
theorem dL_bagged_36 : decode cL_bagged 36 = .ok (.iadd, 1) := by decide +kernel
theorem dL_bagged_37 : decode cL_bagged 37 = .ok (.istore 9, 2) := by decide +kernel
theorem dL_bagged_39 : decode cL_bagged 39 = .ok (.iload_n 3, 1) := by decide +kernel
theorem dL_bagged_40 : decode cL_bagged 40 = .ok (.ifCond .lt 30, 3) := by decide +kernel
theorem dL_bagged_43 : decode cL_bagged 43 = .ok (.iload_n 3, 1) := by decide +kernel
theorem dL_bagged_44 : decode cL_bagged 44 = .ok (.aload_n 1, 1) := by decide +kernel
theorem dL_bagged_45 : decode cL_bagged 45 = .ok (.iload 9, 2) := by decide +kernel
theorem dL_bagged_47 : decode cL_bagged 47 = .ok (.iconst 3, 1) := by decide +kernel
theorem dL_bagged_48 : decode cL_bagged 48 = .ok (.iadd, 1) := by decide +kernel
theorem dL_bagged_49 : decode cL_bagged 49 = .ok (.iaload, 1) := by decide +kernel
theorem dL_bagged_50 : decode cL_bagged 50 = .ok (.isub, 1) := by decide +kernel
theorem dL_bagged_51 : decode cL_bagged 51 = .ok (.aload_n 1, 1) := by decide +kernel
theorem dL_bagged_52 : decode cL_bagged 52 = .ok (.bipush 11, 2) := by decide +kernel
theorem dL_bagged_54 : decode cL_bagged 54 = .ok (.iconst 2, 1) := by decide +kernel
theorem dL_bagged_55 : decode cL_bagged 55 = .ok (.aload_n 1, 1) := by decide +kernel
theorem dL_bagged_56 : decode cL_bagged 56 = .ok (.bipush 30, 2) := by decide +kernel
theorem dL_bagged_58 : decode cL_bagged 58 = .ok (.bipush 8, 2) := by decide +kernel
theorem dL_bagged_60 : decode cL_bagged 60 = .ok (.iload_n 2, 1) := by decide +kernel
theorem dL_bagged_61 : decode cL_bagged 61 = .ok (.imul, 1) := by decide +kernel
theorem dL_bagged_62 : decode cL_bagged 62 = .ok (.iadd, 1) := by decide +kernel
theorem dL_bagged_63 : decode cL_bagged 63 = .ok (.iaload, 1) := by decide +kernel
theorem dL_bagged_64 : decode cL_bagged 64 = .ok (.imul, 1) := by decide +kernel
theorem dL_bagged_65 : decode cL_bagged 65 = .ok (.iadd, 1) := by decide +kernel
theorem dL_bagged_66 : decode cL_bagged 66 = .ok (.iaload, 1) := by decide +kernel
theorem dL_bagged_67 : decode cL_bagged 67 = .ok (.if_icmp .lt 167, 3) := by decide +kernel
theorem dL_bagged_70 : decode cL_bagged 70 = .ok (.iconst 0, 1) := by decide +kernel
theorem dL_bagged_71 : decode cL_bagged 71 = .ok (.istore 10, 2) := by decide +kernel
theorem dL_bagged_73 : decode cL_bagged 73 = .ok (.iload 10, 2) := by decide +kernel
theorem dL_bagged_75 : decode cL_bagged 75 = .ok (.aload 6, 2) := by decide +kernel
theorem dL_bagged_77 : decode cL_bagged 77 = .ok (.iconst 0, 1) := by decide +kernel
theorem dL_bagged_78 : decode cL_bagged 78 = .ok (.iaload, 1) := by decide +kernel
theorem dL_bagged_79 : decode cL_bagged 79 = .ok (.if_icmp .ge 46, 3) := by decide +kernel
theorem dL_bagged_82 : decode cL_bagged 82 = .ok (.aload 6, 2) := by decide +kernel
theorem dL_bagged_84 : decode cL_bagged 84 = .ok (.iconst 1, 1) := by decide +kernel
theorem dL_bagged_85 : decode cL_bagged 85 = .ok (.iconst 2, 1) := by decide +kernel
theorem dL_bagged_86 : decode cL_bagged 86 = .ok (.iload 10, 2) := by decide +kernel
theorem dL_bagged_88 : decode cL_bagged 88 = .ok (.imul, 1) := by decide +kernel
theorem dL_bagged_89 : decode cL_bagged 89 = .ok (.iadd, 1) := by decide +kernel
theorem dL_bagged_90 : decode cL_bagged 90 = .ok (.iaload, 1) := by decide +kernel
theorem dL_bagged_91 : decode cL_bagged 91 = .ok (.aload_n 0, 1) := by decide +kernel
theorem dL_bagged_92 : decode cL_bagged 92 = .ok (.iload 8, 2) := by decide +kernel
theorem dL_bagged_94 : decode cL_bagged 94 = .ok (.invokevirtual 128, 3) := by decide +kernel
theorem dL_bagged_97 : decode cL_bagged 97 = .ok (.if_icmp .ne 22, 3) := by decide +kernel
theorem dL_bagged_100 : decode cL_bagged 100 = .ok (.aload 6, 2) := by decide +kernel
theorem dL_bagged_102 : decode cL_bagged 102 = .ok (.iconst 2, 1) := by decide +kernel
theorem dL_bagged_103 : decode cL_bagged 103 = .ok (.iconst 2, 1) := by decide +kernel
theorem dL_bagged_104 : decode cL_bagged 104 = .ok (.iload 10, 2) := by decide +kernel
theorem dL_bagged_106 : decode cL_bagged 106 = .ok (.imul, 1) := by decide +kernel
theorem dL_bagged_107 : decode cL_bagged 107 = .ok (.iadd, 1) := by decide +kernel
theorem dL_bagged_108 : decode cL_bagged 108 = .ok (.iaload, 1) := by decide +kernel
theorem dL_bagged_109 : decode cL_bagged 109 = .ok (.aload_n 1, 1) := by decide +kernel
theorem dL_bagged_110 : decode cL_bagged 110 = .ok (.iload 9, 2) := by decide +kernel
theorem dL_bagged_112 : decode cL_bagged 112 = .ok (.iaload, 1) := by decide +kernel
theorem dL_bagged_113 : decode cL_bagged 113 = .ok (.iadd, 1) := by decide +kernel
theorem dL_bagged_114 : decode cL_bagged 114 = .ok (.bipush 12, 2) := by decide +kernel
theorem dL_bagged_116 : decode cL_bagged 116 = .ok (.if_icmp .le 9, 3) := by decide +kernel
theorem dL_bagged_119 : decode cL_bagged 119 = .ok (.iinc 10 1, 3) := by decide +kernel
theorem dL_bagged_122 : decode cL_bagged 122 = .ok (.goto (-49), 3) := by decide +kernel
theorem dL_bagged_125 : decode cL_bagged 125 = .ok (.iload 10, 2) := by decide +kernel
theorem dL_bagged_127 : decode cL_bagged 127 = .ok (.iload 4, 2) := by decide +kernel
theorem dL_bagged_129 : decode cL_bagged 129 = .ok (.if_icmp .ge 7, 3) := by decide +kernel
theorem dL_bagged_132 : decode cL_bagged 132 = .ok (.iconst 1, 1) := by decide +kernel
theorem dL_bagged_133 : decode cL_bagged 133 = .ok (.goto 4, 3) := by decide +kernel
theorem dL_bagged_136 : decode cL_bagged 136 = .ok (.iconst 0, 1) := by decide +kernel
theorem dL_bagged_137 : decode cL_bagged 137 = .ok (.istore 11, 2) := by decide +kernel
theorem dL_bagged_139 : decode cL_bagged 139 = .ok (.aload 6, 2) := by decide +kernel
theorem dL_bagged_141 : decode cL_bagged 141 = .ok (.iconst 0, 1) := by decide +kernel
theorem dL_bagged_142 : decode cL_bagged 142 = .ok (.iload 11, 2) := by decide +kernel
theorem dL_bagged_144 : decode cL_bagged 144 = .ok (.ifCond .eq 19, 3) := by decide +kernel
theorem dL_bagged_147 : decode cL_bagged 147 = .ok (.iload 10, 2) := by decide +kernel
theorem dL_bagged_149 : decode cL_bagged 149 = .ok (.aload 6, 2) := by decide +kernel
theorem dL_bagged_151 : decode cL_bagged 151 = .ok (.iconst 0, 1) := by decide +kernel
theorem dL_bagged_152 : decode cL_bagged 152 = .ok (.iaload, 1) := by decide +kernel
theorem dL_bagged_153 : decode cL_bagged 153 = .ok (.if_icmp .ne 10, 3) := by decide +kernel
theorem dL_bagged_156 : decode cL_bagged 156 = .ok (.iload 10, 2) := by decide +kernel
theorem dL_bagged_158 : decode cL_bagged 158 = .ok (.iconst 1, 1) := by decide +kernel
theorem dL_bagged_159 : decode cL_bagged 159 = .ok (.iadd, 1) := by decide +kernel
theorem dL_bagged_160 : decode cL_bagged 160 = .ok (.goto 7, 3) := by decide +kernel
theorem dL_bagged_163 : decode cL_bagged 163 = .ok (.aload 6, 2) := by decide +kernel
theorem dL_bagged_165 : decode cL_bagged 165 = .ok (.iconst 0, 1) := by decide +kernel
theorem dL_bagged_166 : decode cL_bagged 166 = .ok (.iaload, 1) := by decide +kernel
theorem dL_bagged_167 : decode cL_bagged 167 = .ok (.iastore, 1) := by decide +kernel
theorem dL_bagged_168 : decode cL_bagged 168 = .ok (.aload 6, 2) := by decide +kernel
theorem dL_bagged_170 : decode cL_bagged 170 = .ok (.iconst 1, 1) := by decide +kernel
theorem dL_bagged_171 : decode cL_bagged 171 = .ok (.iconst 2, 1) := by decide +kernel
theorem dL_bagged_172 : decode cL_bagged 172 = .ok (.iload 10, 2) := by decide +kernel
theorem dL_bagged_174 : decode cL_bagged 174 = .ok (.imul, 1) := by decide +kernel
theorem dL_bagged_175 : decode cL_bagged 175 = .ok (.iadd, 1) := by decide +kernel
theorem dL_bagged_176 : decode cL_bagged 176 = .ok (.iload 11, 2) := by decide +kernel
theorem dL_bagged_178 : decode cL_bagged 178 = .ok (.ifCond .eq 12, 3) := by decide +kernel
theorem dL_bagged_181 : decode cL_bagged 181 = .ok (.aload_n 0, 1) := by decide +kernel
