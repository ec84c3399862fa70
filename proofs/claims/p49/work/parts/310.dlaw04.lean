/-! the law: decode rows 4 -/
theorem dL_isAccepted_193 : decode cL_isAccepted 193 = .ok (.iload 10, 2) := by decide +kernel
theorem dL_isAccepted_195 : decode cL_isAccepted 195 = .ok (.iconst 3, 1) := by decide +kernel
theorem dL_isAccepted_196 : decode cL_isAccepted 196 = .ok (.iadd, 1) := by decide +kernel
theorem dL_isAccepted_197 : decode cL_isAccepted 197 = .ok (.aload_n 0, 1) := by decide +kernel
theorem dL_isAccepted_198 : decode cL_isAccepted 198 = .ok (.invokevirtual 124, 3) := by decide +kernel
theorem dL_isAccepted_201 : decode cL_isAccepted 201 = .ok (.iastore, 1) := by decide +kernel
theorem dL_isAccepted_202 : decode cL_isAccepted 202 = .ok (.aload_n 1, 1) := by decide +kernel
theorem dL_isAccepted_203 : decode cL_isAccepted 203 = .ok (.iload 10, 2) := by decide +kernel
theorem dL_isAccepted_205 : decode cL_isAccepted 205 = .ok (.bipush 6, 2) := by decide +kernel
theorem dL_isAccepted_207 : decode cL_isAccepted 207 = .ok (.iadd, 1) := by decide +kernel
theorem dL_isAccepted_208 : decode cL_isAccepted 208 = .ok (.iconst 0, 1) := by decide +kernel
theorem dL_isAccepted_209 : decode cL_isAccepted 209 = .ok (.iastore, 1) := by decide +kernel
theorem dL_isAccepted_210 : decode cL_isAccepted 210 = .ok (.aload_n 1, 1) := by decide +kernel
theorem dL_isAccepted_211 : decode cL_isAccepted 211 = .ok (.iload 10, 2) := by decide +kernel
theorem dL_isAccepted_213 : decode cL_isAccepted 213 = .ok (.bipush 8, 2) := by decide +kernel
theorem dL_isAccepted_215 : decode cL_isAccepted 215 = .ok (.iadd, 1) := by decide +kernel
theorem dL_isAccepted_216 : decode cL_isAccepted 216 = .ok (.iload 8, 2) := by decide +kernel
theorem dL_isAccepted_218 : decode cL_isAccepted 218 = .ok (.iload 4, 2) := by decide +kernel
theorem dL_isAccepted_220 : decode cL_isAccepted 220 = .ok (.if_icmp .ne 10, 3) := by decide +kernel
theorem dL_isAccepted_223 : decode cL_isAccepted 223 = .ok (.aload_n 0, 1) := by decide +kernel
theorem dL_isAccepted_224 : decode cL_isAccepted 224 = .ok (.invokevirtual 124, 3) := by decide +kernel
theorem dL_isAccepted_227 : decode cL_isAccepted 227 = .ok (.goto 4, 3) := by decide +kernel
theorem dL_isAccepted_230 : decode cL_isAccepted 230 = .ok (.iconst (-1), 1) := by decide +kernel
theorem dL_isAccepted_231 : decode cL_isAccepted 231 = .ok (.iastore, 1) := by decide +kernel
theorem dL_isAccepted_232 : decode cL_isAccepted 232 = .ok (.aload_n 1, 1) := by decide +kernel
theorem dL_isAccepted_233 : decode cL_isAccepted 233 = .ok (.iload 10, 2) := by decide +kernel
theorem dL_isAccepted_235 : decode cL_isAccepted 235 = .ok (.bipush 9, 2) := by decide +kernel
theorem dL_isAccepted_237 : decode cL_isAccepted 237 = .ok (.iadd, 1) := by decide +kernel
theorem dL_isAccepted_238 : decode cL_isAccepted 238 = .ok (.aload_n 0, 1) := by decide +kernel
theorem dL_isAccepted_239 : decode cL_isAccepted 239 = .ok (.invokevirtual 124, 3) := by decide +kernel
theorem dL_isAccepted_242 : decode cL_isAccepted 242 = .ok (.iastore, 1) := by decide +kernel
theorem dL_isAccepted_243 : decode cL_isAccepted 243 = .ok (.aload_n 1, 1) := by decide +kernel
theorem dL_isAccepted_244 : decode cL_isAccepted 244 = .ok (.iload 10, 2) := by decide +kernel
theorem dL_isAccepted_246 : decode cL_isAccepted 246 = .ok (.bipush 11, 2) := by decide +kernel
theorem dL_isAccepted_248 : decode cL_isAccepted 248 = .ok (.iadd, 1) := by decide +kernel
theorem dL_isAccepted_249 : decode cL_isAccepted 249 = .ok (.iconst (-1), 1) := by decide +kernel
theorem dL_isAccepted_250 : decode cL_isAccepted 250 = .ok (.iastore, 1) := by decide +kernel
theorem dL_isAccepted_251 : decode cL_isAccepted 251 = .ok (.aload_n 1, 1) := by decide +kernel
theorem dL_isAccepted_252 : decode cL_isAccepted 252 = .ok (.iconst 2, 1) := by decide +kernel
theorem dL_isAccepted_253 : decode cL_isAccepted 253 = .ok (.dup2, 1) := by decide +kernel
theorem dL_isAccepted_254 : decode cL_isAccepted 254 = .ok (.iaload, 1) := by decide +kernel
theorem dL_isAccepted_255 : decode cL_isAccepted 255 = .ok (.iconst 1, 1) := by decide +kernel
theorem dL_isAccepted_256 : decode cL_isAccepted 256 = .ok (.iadd, 1) := by decide +kernel
theorem dL_isAccepted_257 : decode cL_isAccepted 257 = .ok (.iastore, 1) := by decide +kernel
theorem dL_isAccepted_258 : decode cL_isAccepted 258 = .ok (.aload_n 0, 1) := by decide +kernel
theorem dL_isAccepted_259 : decode cL_isAccepted 259 = .ok (.iload 4, 2) := by decide +kernel
theorem dL_isAccepted_261 : decode cL_isAccepted 261 = .ok (.iload 5, 2) := by decide +kernel
theorem dL_isAccepted_263 : decode cL_isAccepted 263 = .ok (.iload 6, 2) := by decide +kernel
theorem dL_isAccepted_265 : decode cL_isAccepted 265 = .ok (.iload 7, 2) := by decide +kernel
theorem dL_isAccepted_267 : decode cL_isAccepted 267 = .ok (.invokestatic 139, 3) := by decide +kernel
theorem dL_isAccepted_270 : decode cL_isAccepted 270 = .ok (.iload 9, 2) := by decide +kernel
theorem dL_isAccepted_272 : decode cL_isAccepted 272 = .ok (.if_icmp .ne 64, 3) := by decide +kernel
theorem dL_isAccepted_275 : decode cL_isAccepted 275 = .ok (.aload_n 0, 1) := by decide +kernel
theorem dL_isAccepted_276 : decode cL_isAccepted 276 = .ok (.iload 9, 2) := by decide +kernel
theorem dL_isAccepted_278 : decode cL_isAccepted 278 = .ok (.invokevirtual 128, 3) := by decide +kernel
theorem dL_isAccepted_281 : decode cL_isAccepted 281 = .ok (.iload 8, 2) := by decide +kernel
theorem dL_isAccepted_283 : decode cL_isAccepted 283 = .ok (.if_icmp .ne 53, 3) := by decide +kernel
theorem dL_isAccepted_286 : decode cL_isAccepted 286 = .ok (.aload_n 0, 1) := by decide +kernel
theorem dL_isAccepted_287 : decode cL_isAccepted 287 = .ok (.iload 9, 2) := by decide +kernel
theorem dL_isAccepted_289 : decode cL_isAccepted 289 = .ok (.invokevirtual 142, 3) := by decide +kernel
theorem dL_isAccepted_292 : decode cL_isAccepted 292 = .ok (.aload_n 0, 1) := by decide +kernel
theorem dL_isAccepted_293 : decode cL_isAccepted 293 = .ok (.iload 9, 2) := by decide +kernel
theorem dL_isAccepted_295 : decode cL_isAccepted 295 = .ok (.invokestatic 145, 3) := by decide +kernel
theorem dL_isAccepted_298 : decode cL_isAccepted 298 = .ok (.if_icmp .ne 38, 3) := by decide +kernel
theorem dL_isAccepted_301 : decode cL_isAccepted 301 = .ok (.aload_n 0, 1) := by decide +kernel
theorem dL_isAccepted_302 : decode cL_isAccepted 302 = .ok (.iload 9, 2) := by decide +kernel
theorem dL_isAccepted_304 : decode cL_isAccepted 304 = .ok (.invokestatic 147, 3) := by decide +kernel
theorem dL_isAccepted_307 : decode cL_isAccepted 307 = .ok (.bipush 115, 2) := by decide +kernel
theorem dL_isAccepted_309 : decode cL_isAccepted 309 = .ok (.if_icmp .ne 27, 3) := by decide +kernel
theorem dL_isAccepted_312 : decode cL_isAccepted 312 = .ok (.aload_n 0, 1) := by decide +kernel
theorem dL_isAccepted_313 : decode cL_isAccepted 313 = .ok (.iload 9, 2) := by decide +kernel
theorem dL_isAccepted_315 : decode cL_isAccepted 315 = .ok (.invokestatic 149, 3) := by decide +kernel
theorem dL_isAccepted_318 : decode cL_isAccepted 318 = .ok (.iload 4, 2) := by decide +kernel
theorem dL_isAccepted_320 : decode cL_isAccepted 320 = .ok (.if_icmp .ne 16, 3) := by decide +kernel
theorem dL_isAccepted_323 : decode cL_isAccepted 323 = .ok (.aload_n 0, 1) := by decide +kernel
theorem dL_isAccepted_324 : decode cL_isAccepted 324 = .ok (.iload 9, 2) := by decide +kernel
theorem dL_isAccepted_326 : decode cL_isAccepted 326 = .ok (.invokevirtual 151, 3) := by decide +kernel
theorem dL_isAccepted_329 : decode cL_isAccepted 329 = .ok (.ifCond .ne 7, 3) := by decide +kernel
theorem dL_isAccepted_332 : decode cL_isAccepted 332 = .ok (.iconst 1, 1) := by decide +kernel
theorem dL_isAccepted_333 : decode cL_isAccepted 333 = .ok (.goto 4, 3) := by decide +kernel
theorem dL_isAccepted_336 : decode cL_isAccepted 336 = .ok (.iconst 0, 1) := by decide +kernel
theorem dL_isAccepted_337 : decode cL_isAccepted 337 = .ok (.ireturn, 1) := by decide +kernel
theorem dL_isScanned_0 : decode cL_isScanned 0 = .ok (.aload_n 0, 1) := by decide +kernel
theorem dL_isScanned_1 : decode cL_isScanned 1 = .ok (.iload 4, 2) := by decide +kernel
theorem dL_isScanned_3 : decode cL_isScanned 3 = .ok (.invokestatic 147, 3) := by decide +kernel
theorem dL_isScanned_6 : decode cL_isScanned 6 = .ok (.istore 5, 2) := by decide +kernel
theorem dL_isScanned_8 : decode cL_isScanned 8 = .ok (.aload_n 2, 1) := by decide +kernel
theorem dL_isScanned_9 : decode cL_isScanned 9 = .ok (.iload_n 3, 1) := by decide +kernel
theorem dL_isScanned_10 : decode cL_isScanned 10 = .ok (.iconst 4, 1) := by decide +kernel
theorem dL_isScanned_11 : decode cL_isScanned 11 = .ok (.invokestatic 106, 3) := by decide +kernel
theorem dL_isScanned_14 : decode cL_isScanned 14 = .ok (.ifCond .ne 16, 3) := by decide +kernel
theorem dL_isScanned_17 : decode cL_isScanned 17 = .ok (.aload_n 2, 1) := by decide +kernel
theorem dL_isScanned_18 : decode cL_isScanned 18 = .ok (.iload_n 3, 1) := by decide +kernel
theorem dL_isScanned_19 : decode cL_isScanned 19 = .ok (.iconst 1, 1) := by decide +kernel
theorem dL_isScanned_20 : decode cL_isScanned 20 = .ok (.iadd, 1) := by decide +kernel
theorem dL_isScanned_21 : decode cL_isScanned 21 = .ok (.aload_n 1, 1) := by decide +kernel
theorem dL_isScanned_22 : decode cL_isScanned 22 = .ok (.iconst 0, 1) := by decide +kernel
theorem dL_isScanned_23 : decode cL_isScanned 23 = .ok (.iaload, 1) := by decide +kernel
theorem dL_isScanned_24 : decode cL_isScanned 24 = .ok (.invokestatic 106, 3) := by decide +kernel
theorem dL_isScanned_27 : decode cL_isScanned 27 = .ok (.goto 33, 3) := by decide +kernel
theorem dL_isScanned_30 : decode cL_isScanned 30 = .ok (.iload 5, 2) := by decide +kernel
theorem dL_isScanned_32 : decode cL_isScanned 32 = .ok (.bipush 116, 2) := by decide +kernel
theorem dL_isScanned_34 : decode cL_isScanned 34 = .ok (.if_icmp .ne 20, 3) := by decide +kernel
theorem dL_isScanned_37 : decode cL_isScanned 37 = .ok (.aload_n 1, 1) := by decide +kernel
theorem dL_isScanned_38 : decode cL_isScanned 38 = .ok (.bipush 31, 2) := by decide +kernel
theorem dL_isScanned_40 : decode cL_isScanned 40 = .ok (.bipush 8, 2) := by decide +kernel
theorem dL_isScanned_42 : decode cL_isScanned 42 = .ok (.aload_n 0, 1) := by decide +kernel
theorem dL_isScanned_43 : decode cL_isScanned 43 = .ok (.iload 4, 2) := by decide +kernel
theorem dL_isScanned_45 : decode cL_isScanned 45 = .ok (.invokestatic 155, 3) := by decide +kernel
theorem dL_isScanned_48 : decode cL_isScanned 48 = .ok (.imul, 1) := by decide +kernel
theorem dL_isScanned_49 : decode cL_isScanned 49 = .ok (.iadd, 1) := by decide +kernel
theorem dL_isScanned_50 : decode cL_isScanned 50 = .ok (.iaload, 1) := by decide +kernel
theorem dL_isScanned_51 : decode cL_isScanned 51 = .ok (.goto 9, 3) := by decide +kernel
theorem dL_isScanned_54 : decode cL_isScanned 54 = .ok (.aload_n 0, 1) := by decide +kernel
theorem dL_isScanned_55 : decode cL_isScanned 55 = .ok (.iload 4, 2) := by decide +kernel
theorem dL_isScanned_57 : decode cL_isScanned 57 = .ok (.invokestatic 149, 3) := by decide +kernel
theorem dL_isScanned_60 : decode cL_isScanned 60 = .ok (.istore 6, 2) := by decide +kernel
theorem dL_isScanned_62 : decode cL_isScanned 62 = .ok (.sipush 140, 3) := by decide +kernel
theorem dL_isScanned_65 : decode cL_isScanned 65 = .ok (.bipush 12, 2) := by decide +kernel
theorem dL_isScanned_67 : decode cL_isScanned 67 = .ok (.iload 4, 2) := by decide +kernel
theorem dL_isScanned_69 : decode cL_isScanned 69 = .ok (.imul, 1) := by decide +kernel
theorem dL_isScanned_70 : decode cL_isScanned 70 = .ok (.iadd, 1) := by decide +kernel
theorem dL_isScanned_71 : decode cL_isScanned 71 = .ok (.istore 7, 2) := by decide +kernel
theorem dL_isScanned_73 : decode cL_isScanned 73 = .ok (.iload 5, 2) := by decide +kernel
theorem dL_isScanned_75 : decode cL_isScanned 75 = .ok (.bipush 116, 2) := by decide +kernel
theorem dL_isScanned_77 : decode cL_isScanned 77 = .ok (.if_icmp .eq 18, 3) := by decide +kernel
theorem dL_isScanned_80 : decode cL_isScanned 80 = .ok (.aload_n 0, 1) := by decide +kernel
theorem dL_isScanned_81 : decode cL_isScanned 81 = .ok (.iload 4, 2) := by decide +kernel
theorem dL_isScanned_83 : decode cL_isScanned 83 = .ok (.invokestatic 149, 3) := by decide +kernel
theorem dL_isScanned_86 : decode cL_isScanned 86 = .ok (.iload 6, 2) := by decide +kernel
theorem dL_isScanned_88 : decode cL_isScanned 88 = .ok (.if_icmp .ne 7, 3) := by decide +kernel
theorem dL_isScanned_91 : decode cL_isScanned 91 = .ok (.iconst 1, 1) := by decide +kernel
theorem dL_isScanned_92 : decode cL_isScanned 92 = .ok (.goto 4, 3) := by decide +kernel
theorem dL_isScanned_95 : decode cL_isScanned 95 = .ok (.iconst 0, 1) := by decide +kernel
theorem dL_isScanned_96 : decode cL_isScanned 96 = .ok (.istore 8, 2) := by decide +kernel
theorem dL_isScanned_98 : decode cL_isScanned 98 = .ok (.iload 5, 2) := by decide +kernel
theorem dL_isScanned_100 : decode cL_isScanned 100 = .ok (.bipush 100, 2) := by decide +kernel
theorem dL_isScanned_102 : decode cL_isScanned 102 = .ok (.if_icmp .eq 10, 3) := by decide +kernel
theorem dL_isScanned_105 : decode cL_isScanned 105 = .ok (.iload 5, 2) := by decide +kernel
theorem dL_isScanned_107 : decode cL_isScanned 107 = .ok (.bipush 104, 2) := by decide +kernel
theorem dL_isScanned_109 : decode cL_isScanned 109 = .ok (.if_icmp .ne 8, 3) := by decide +kernel
theorem dL_isScanned_112 : decode cL_isScanned 112 = .ok (.ldc 20, 2) := by decide +kernel
theorem dL_isScanned_114 : decode cL_isScanned 114 = .ok (.goto 43, 3) := by decide +kernel
theorem dL_isScanned_117 : decode cL_isScanned 117 = .ok (.iload 8, 2) := by decide +kernel
theorem dL_isScanned_119 : decode cL_isScanned 119 = .ok (.ifCond .eq 20, 3) := by decide +kernel
theorem dL_isScanned_122 : decode cL_isScanned 122 = .ok (.iload 5, 2) := by decide +kernel
theorem dL_isScanned_124 : decode cL_isScanned 124 = .ok (.bipush 115, 2) := by decide +kernel
theorem dL_isScanned_126 : decode cL_isScanned 126 = .ok (.if_icmp .ne 8, 3) := by decide +kernel
theorem dL_isScanned_129 : decode cL_isScanned 129 = .ok (.bipush 97, 2) := by decide +kernel
theorem dL_isScanned_131 : decode cL_isScanned 131 = .ok (.goto 26, 3) := by decide +kernel
theorem dL_isScanned_134 : decode cL_isScanned 134 = .ok (.bipush 111, 2) := by decide +kernel
theorem dL_isScanned_136 : decode cL_isScanned 136 = .ok (.goto 21, 3) := by decide +kernel
theorem dL_isScanned_139 : decode cL_isScanned 139 = .ok (.aload_n 1, 1) := by decide +kernel
theorem dL_isScanned_140 : decode cL_isScanned 140 = .ok (.iload 7, 2) := by decide +kernel
theorem dL_isScanned_142 : decode cL_isScanned 142 = .ok (.bipush 6, 2) := by decide +kernel
theorem dL_isScanned_144 : decode cL_isScanned 144 = .ok (.iadd, 1) := by decide +kernel
theorem dL_isScanned_145 : decode cL_isScanned 145 = .ok (.iaload, 1) := by decide +kernel
theorem dL_isScanned_146 : decode cL_isScanned 146 = .ok (.iconst 2, 1) := by decide +kernel
theorem dL_isScanned_147 : decode cL_isScanned 147 = .ok (.if_icmp .ne 8, 3) := by decide +kernel
theorem dL_isScanned_150 : decode cL_isScanned 150 = .ok (.bipush 104, 2) := by decide +kernel
theorem dL_isScanned_152 : decode cL_isScanned 152 = .ok (.goto 5, 3) := by decide +kernel
theorem dL_isScanned_155 : decode cL_isScanned 155 = .ok (.bipush 109, 2) := by decide +kernel
theorem dL_isScanned_157 : decode cL_isScanned 157 = .ok (.istore 9, 2) := by decide +kernel
theorem dL_isScanned_159 : decode cL_isScanned 159 = .ok (.aload_n 1, 1) := by decide +kernel
theorem dL_isScanned_160 : decode cL_isScanned 160 = .ok (.iload 7, 2) := by decide +kernel
theorem dL_isScanned_162 : decode cL_isScanned 162 = .ok (.bipush 6, 2) := by decide +kernel
theorem dL_isScanned_164 : decode cL_isScanned 164 = .ok (.iadd, 1) := by decide +kernel
theorem dL_isScanned_165 : decode cL_isScanned 165 = .ok (.dup2, 1) := by decide +kernel
theorem dL_isScanned_166 : decode cL_isScanned 166 = .ok (.iaload, 1) := by decide +kernel
theorem dL_isScanned_167 : decode cL_isScanned 167 = .ok (.iload 9, 2) := by decide +kernel
theorem dL_isScanned_169 : decode cL_isScanned 169 = .ok (.bipush 109, 2) := by decide +kernel
theorem dL_isScanned_171 : decode cL_isScanned 171 = .ok (.if_icmp .eq 10, 3) := by decide +kernel
theorem dL_isScanned_174 : decode cL_isScanned 174 = .ok (.iload 9, 2) := by decide +kernel
theorem dL_isScanned_176 : decode cL_isScanned 176 = .ok (.bipush 104, 2) := by decide +kernel
theorem dL_isScanned_178 : decode cL_isScanned 178 = .ok (.if_icmp .ne 7, 3) := by decide +kernel
theorem dL_isScanned_181 : decode cL_isScanned 181 = .ok (.iconst 1, 1) := by decide +kernel
theorem dL_isScanned_182 : decode cL_isScanned 182 = .ok (.goto 4, 3) := by decide +kernel
theorem dL_isScanned_185 : decode cL_isScanned 185 = .ok (.iconst 0, 1) := by decide +kernel
theorem dL_isScanned_186 : decode cL_isScanned 186 = .ok (.iadd, 1) := by decide +kernel
theorem dL_isScanned_187 : decode cL_isScanned 187 = .ok (.iastore, 1) := by decide +kernel
theorem dL_isScanned_188 : decode cL_isScanned 188 = .ok (.iload 9, 2) := by decide +kernel
theorem dL_isScanned_190 : decode cL_isScanned 190 = .ok (.bipush 111, 2) := by decide +kernel
theorem dL_isScanned_192 : decode cL_isScanned 192 = .ok (.if_icmp .eq 10, 3) := by decide +kernel
theorem dL_isScanned_195 : decode cL_isScanned 195 = .ok (.iload 9, 2) := by decide +kernel
theorem dL_isScanned_197 : decode cL_isScanned 197 = .ok (.bipush 109, 2) := by decide +kernel
theorem dL_isScanned_199 : decode cL_isScanned 199 = .ok (.if_icmp .ne 12, 3) := by decide +kernel
theorem dL_isScanned_202 : decode cL_isScanned 202 = .ok (.aload_n 0, 1) := by decide +kernel
theorem dL_isScanned_203 : decode cL_isScanned 203 = .ok (.aload_n 1, 1) := by decide +kernel
theorem dL_isScanned_204 : decode cL_isScanned 204 = .ok (.iload 4, 2) := by decide +kernel
theorem dL_isScanned_206 : decode cL_isScanned 206 = .ok (.iload 6, 2) := by decide +kernel
theorem dL_isScanned_208 : decode cL_isScanned 208 = .ok (.invokestatic 157, 3) := by decide +kernel
theorem dL_isScanned_211 : decode cL_isScanned 211 = .ok (.iload 9, 2) := by decide +kernel
theorem dL_isScanned_213 : decode cL_isScanned 213 = .ok (.ldc 20, 2) := by decide +kernel
theorem dL_isScanned_215 : decode cL_isScanned 215 = .ok (.if_icmp .ne 7, 3) := by decide +kernel
theorem dL_isScanned_218 : decode cL_isScanned 218 = .ok (.iconst 1, 1) := by decide +kernel
theorem dL_isScanned_219 : decode cL_isScanned 219 = .ok (.goto 4, 3) := by decide +kernel
theorem dL_isScanned_222 : decode cL_isScanned 222 = .ok (.iconst 0, 1) := by decide +kernel
theorem dL_isScanned_223 : decode cL_isScanned 223 = .ok (.istore 10, 2) := by decide +kernel
theorem dL_isScanned_225 : decode cL_isScanned 225 = .ok (.aload_n 0, 1) := by decide +kernel
theorem dL_isScanned_226 : decode cL_isScanned 226 = .ok (.iload 4, 2) := by decide +kernel
theorem dL_isScanned_228 : decode cL_isScanned 228 = .ok (.iload 6, 2) := by decide +kernel
theorem dL_isScanned_230 : decode cL_isScanned 230 = .ok (.invokestatic 161, 3) := by decide +kernel
theorem dL_isScanned_233 : decode cL_isScanned 233 = .ok (.iload 9, 2) := by decide +kernel
theorem dL_isScanned_235 : decode cL_isScanned 235 = .ok (.if_icmp .ne 62, 3) := by decide +kernel
theorem dL_isScanned_238 : decode cL_isScanned 238 = .ok (.aload_n 0, 1) := by decide +kernel
theorem dL_isScanned_239 : decode cL_isScanned 239 = .ok (.iload 4, 2) := by decide +kernel
theorem dL_isScanned_241 : decode cL_isScanned 241 = .ok (.invokevirtual 163, 3) := by decide +kernel
theorem dL_isScanned_244 : decode cL_isScanned 244 = .ok (.aload_n 1, 1) := by decide +kernel
theorem dL_isScanned_245 : decode cL_isScanned 245 = .ok (.iload 7, 2) := by decide +kernel
theorem dL_isScanned_247 : decode cL_isScanned 247 = .ok (.bipush 6, 2) := by decide +kernel
theorem dL_isScanned_249 : decode cL_isScanned 249 = .ok (.iadd, 1) := by decide +kernel
theorem dL_isScanned_250 : decode cL_isScanned 250 = .ok (.iaload, 1) := by decide +kernel
theorem dL_isScanned_251 : decode cL_isScanned 251 = .ok (.if_icmp .ne 46, 3) := by decide +kernel
theorem dL_isScanned_254 : decode cL_isScanned 254 = .ok (.iload 10, 2) := by decide +kernel
theorem dL_isScanned_256 : decode cL_isScanned 256 = .ok (.ifCond .ne 37, 3) := by decide +kernel
theorem dL_isScanned_259 : decode cL_isScanned 259 = .ok (.aload_n 0, 1) := by decide +kernel
theorem dL_isScanned_260 : decode cL_isScanned 260 = .ok (.iload 4, 2) := by decide +kernel
theorem dL_isScanned_262 : decode cL_isScanned 262 = .ok (.invokestatic 149, 3) := by decide +kernel
theorem dL_isScanned_265 : decode cL_isScanned 265 = .ok (.iload 6, 2) := by decide +kernel
theorem dL_isScanned_267 : decode cL_isScanned 267 = .ok (.if_icmp .ne 30, 3) := by decide +kernel
theorem dL_isScanned_270 : decode cL_isScanned 270 = .ok (.aload_n 0, 1) := by decide +kernel
theorem dL_isScanned_271 : decode cL_isScanned 271 = .ok (.iload 4, 2) := by decide +kernel
theorem dL_isScanned_273 : decode cL_isScanned 273 = .ok (.invokestatic 147, 3) := by decide +kernel
theorem dL_isScanned_276 : decode cL_isScanned 276 = .ok (.iload 9, 2) := by decide +kernel
theorem dL_isScanned_278 : decode cL_isScanned 278 = .ok (.bipush 104, 2) := by decide +kernel
theorem dL_isScanned_280 : decode cL_isScanned 280 = .ok (.if_icmp .ne 8, 3) := by decide +kernel
theorem dL_isScanned_283 : decode cL_isScanned 283 = .ok (.bipush 104, 2) := by decide +kernel
theorem dL_isScanned_285 : decode cL_isScanned 285 = .ok (.goto 5, 3) := by decide +kernel
theorem dL_isScanned_288 : decode cL_isScanned 288 = .ok (.bipush 115, 2) := by decide +kernel
theorem dL_isScanned_290 : decode cL_isScanned 290 = .ok (.if_icmp .ne 7, 3) := by decide +kernel
theorem dL_isScanned_293 : decode cL_isScanned 293 = .ok (.iconst 1, 1) := by decide +kernel
theorem dL_isScanned_294 : decode cL_isScanned 294 = .ok (.goto 4, 3) := by decide +kernel
theorem dL_isScanned_297 : decode cL_isScanned 297 = .ok (.iconst 0, 1) := by decide +kernel
theorem dL_isScanned_298 : decode cL_isScanned 298 = .ok (.ireturn, 1) := by decide +kernel
theorem dL_isTurned_0 : decode cL_isTurned 0 = .ok (.sipush 140, 3) := by decide +kernel
theorem dL_isTurned_3 : decode cL_isTurned 3 = .ok (.bipush 12, 2) := by decide +kernel
theorem dL_isTurned_5 : decode cL_isTurned 5 = .ok (.iload_n 2, 1) := by decide +kernel
theorem dL_isTurned_6 : decode cL_isTurned 6 = .ok (.imul, 1) := by decide +kernel
theorem dL_isTurned_7 : decode cL_isTurned 7 = .ok (.iadd, 1) := by decide +kernel
theorem dL_isTurned_8 : decode cL_isTurned 8 = .ok (.istore_n 3, 1) := by decide +kernel
theorem dL_isTurned_9 : decode cL_isTurned 9 = .ok (.aload_n 0, 1) := by decide +kernel
theorem dL_isTurned_10 : decode cL_isTurned 10 = .ok (.invokevirtual 124, 3) := by decide +kernel
theorem dL_isTurned_13 : decode cL_isTurned 13 = .ok (.istore 4, 2) := by decide +kernel
theorem dL_isTurned_15 : decode cL_isTurned 15 = .ok (.aload_n 1, 1) := by decide +kernel
theorem dL_isTurned_16 : decode cL_isTurned 16 = .ok (.iload_n 3, 1) := by decide +kernel
theorem dL_isTurned_17 : decode cL_isTurned 17 = .ok (.iconst 3, 1) := by decide +kernel
theorem dL_isTurned_18 : decode cL_isTurned 18 = .ok (.iadd, 1) := by decide +kernel
theorem dL_isTurned_19 : decode cL_isTurned 19 = .ok (.iload 4, 2) := by decide +kernel
theorem dL_isTurned_21 : decode cL_isTurned 21 = .ok (.iastore, 1) := by decide +kernel
theorem dL_isTurned_22 : decode cL_isTurned 22 = .ok (.aload_n 1, 1) := by decide +kernel
theorem dL_isTurned_23 : decode cL_isTurned 23 = .ok (.iload_n 3, 1) := by decide +kernel
theorem dL_isTurned_24 : decode cL_isTurned 24 = .ok (.bipush 8, 2) := by decide +kernel
theorem dL_isTurned_26 : decode cL_isTurned 26 = .ok (.iadd, 1) := by decide +kernel
theorem dL_isTurned_27 : decode cL_isTurned 27 = .ok (.aload_n 0, 1) := by decide +kernel
theorem dL_isTurned_28 : decode cL_isTurned 28 = .ok (.iload_n 2, 1) := by decide +kernel
theorem dL_isTurned_29 : decode cL_isTurned 29 = .ok (.invokestatic 149, 3) := by decide +kernel
theorem dL_isTurned_32 : decode cL_isTurned 32 = .ok (.aload_n 1, 1) := by decide +kernel
theorem dL_isTurned_33 : decode cL_isTurned 33 = .ok (.iload_n 3, 1) := by decide +kernel
theorem dL_isTurned_34 : decode cL_isTurned 34 = .ok (.iconst 2, 1) := by decide +kernel
theorem dL_isTurned_35 : decode cL_isTurned 35 = .ok (.iadd, 1) := by decide +kernel
