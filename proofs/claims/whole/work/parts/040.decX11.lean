theorem dX11_init_0 : decode cX11_init 0 = .ok (.aload_n 0, 1) := by decide +kernel
theorem dX11_init_1 : decode cX11_init 1 = .ok (.invokespecial 1, 3) := by decide +kernel
theorem dX11_init_4 : decode cX11_init 4 = .ok (.aload_n 0, 1) := by decide +kernel
theorem dX11_init_5 : decode cX11_init 5 = .ok (.bipush 6, 2) := by decide +kernel
theorem dX11_init_7 : decode cX11_init 7 = .ok (.newarray .int, 2) := by decide +kernel
theorem dX11_init_9 : decode cX11_init 9 = .ok (.putfield 9, 3) := by decide +kernel
theorem dX11_init_12 : decode cX11_init 12 = .ok (.aload_n 0, 1) := by decide +kernel
theorem dX11_init_13 : decode cX11_init 13 = .ok (.bipush 6, 2) := by decide +kernel
theorem dX11_init_15 : decode cX11_init 15 = .ok (.newarray .int, 2) := by decide +kernel
theorem dX11_init_17 : decode cX11_init 17 = .ok (.putfield 13, 3) := by decide +kernel
theorem dX11_init_20 : decode cX11_init 20 = .ok (.aload_n 0, 1) := by decide +kernel
theorem dX11_init_21 : decode cX11_init 21 = .ok (.bipush 12, 2) := by decide +kernel
theorem dX11_init_23 : decode cX11_init 23 = .ok (.newarray .int, 2) := by decide +kernel
theorem dX11_init_25 : decode cX11_init 25 = .ok (.putfield 16, 3) := by decide +kernel
theorem dX11_init_28 : decode cX11_init 28 = .ok (.aload_n 0, 1) := by decide +kernel
theorem dX11_init_29 : decode cX11_init 29 = .ok (.bipush 12, 2) := by decide +kernel
theorem dX11_init_31 : decode cX11_init 31 = .ok (.newarray .int, 2) := by decide +kernel
theorem dX11_init_33 : decode cX11_init 33 = .ok (.putfield 19, 3) := by decide +kernel
theorem dX11_init_36 : decode cX11_init 36 = .ok (.aload_n 0, 1) := by decide +kernel
theorem dX11_init_37 : decode cX11_init 37 = .ok (.bipush 12, 2) := by decide +kernel
theorem dX11_init_39 : decode cX11_init 39 = .ok (.newarray .int, 2) := by decide +kernel
theorem dX11_init_41 : decode cX11_init 41 = .ok (.putfield 22, 3) := by decide +kernel
theorem dX11_init_44 : decode cX11_init 44 = .ok (.aload_n 0, 1) := by decide +kernel
theorem dX11_init_45 : decode cX11_init 45 = .ok (.bipush 12, 2) := by decide +kernel
theorem dX11_init_47 : decode cX11_init 47 = .ok (.newarray .int, 2) := by decide +kernel
theorem dX11_init_49 : decode cX11_init 49 = .ok (.putfield 25, 3) := by decide +kernel
theorem dX11_init_52 : decode cX11_init 52 = .ok (.aload_n 0, 1) := by decide +kernel
theorem dX11_init_53 : decode cX11_init 53 = .ok (.bipush 12, 2) := by decide +kernel
theorem dX11_init_55 : decode cX11_init 55 = .ok (.newarray .int, 2) := by decide +kernel
theorem dX11_init_57 : decode cX11_init 57 = .ok (.putfield 28, 3) := by decide +kernel
theorem dX11_init_60 : decode cX11_init 60 = .ok (.aload_n 0, 1) := by decide +kernel
theorem dX11_init_61 : decode cX11_init 61 = .ok (.bipush 12, 2) := by decide +kernel
theorem dX11_init_63 : decode cX11_init 63 = .ok (.newarray .int, 2) := by decide +kernel
theorem dX11_init_65 : decode cX11_init 65 = .ok (.putfield 31, 3) := by decide +kernel
theorem dX11_init_68 : decode cX11_init 68 = .ok (.aload_n 0, 1) := by decide +kernel
theorem dX11_init_69 : decode cX11_init 69 = .ok (.bipush 12, 2) := by decide +kernel
theorem dX11_init_71 : decode cX11_init 71 = .ok (.newarray .int, 2) := by decide +kernel
theorem dX11_init_73 : decode cX11_init 73 = .ok (.putfield 34, 3) := by decide +kernel
theorem dX11_init_76 : decode cX11_init 76 = .ok (.aload_n 0, 1) := by decide +kernel
theorem dX11_init_77 : decode cX11_init 77 = .ok (.bipush 12, 2) := by decide +kernel
theorem dX11_init_79 : decode cX11_init 79 = .ok (.newarray .boolean, 2) := by decide +kernel
theorem dX11_init_81 : decode cX11_init 81 = .ok (.putfield 37, 3) := by decide +kernel
theorem dX11_init_84 : decode cX11_init 84 = .ok (.aload_n 0, 1) := by decide +kernel
theorem dX11_init_85 : decode cX11_init 85 = .ok (.bipush 48, 2) := by decide +kernel
theorem dX11_init_87 : decode cX11_init 87 = .ok (.newarray .int, 2) := by decide +kernel
theorem dX11_init_89 : decode cX11_init 89 = .ok (.putfield 41, 3) := by decide +kernel
theorem dX11_init_92 : decode cX11_init 92 = .ok (.aload_n 0, 1) := by decide +kernel
theorem dX11_init_93 : decode cX11_init 93 = .ok (.bipush 40, 2) := by decide +kernel
theorem dX11_init_95 : decode cX11_init 95 = .ok (.newarray .int, 2) := by decide +kernel
theorem dX11_init_97 : decode cX11_init 97 = .ok (.putfield 44, 3) := by decide +kernel
theorem dX11_init_100 : decode cX11_init 100 = .ok (.aload_n 0, 1) := by decide +kernel
theorem dX11_init_101 : decode cX11_init 101 = .ok (.bipush 40, 2) := by decide +kernel
theorem dX11_init_103 : decode cX11_init 103 = .ok (.newarray .int, 2) := by decide +kernel
theorem dX11_init_105 : decode cX11_init 105 = .ok (.putfield 47, 3) := by decide +kernel
theorem dX11_init_108 : decode cX11_init 108 = .ok (.aload_n 0, 1) := by decide +kernel
theorem dX11_init_109 : decode cX11_init 109 = .ok (.bipush 40, 2) := by decide +kernel
theorem dX11_init_111 : decode cX11_init 111 = .ok (.newarray .int, 2) := by decide +kernel
theorem dX11_init_113 : decode cX11_init 113 = .ok (.putfield 50, 3) := by decide +kernel
theorem dX11_init_116 : decode cX11_init 116 = .ok (.aload_n 0, 1) := by decide +kernel
theorem dX11_init_117 : decode cX11_init 117 = .ok (.bipush 40, 2) := by decide +kernel
theorem dX11_init_119 : decode cX11_init 119 = .ok (.newarray .int, 2) := by decide +kernel
theorem dX11_init_121 : decode cX11_init 121 = .ok (.putfield 53, 3) := by decide +kernel
theorem dX11_init_124 : decode cX11_init 124 = .ok (.aload_n 0, 1) := by decide +kernel
theorem dX11_init_125 : decode cX11_init 125 = .ok (.bipush 40, 2) := by decide +kernel
theorem dX11_init_127 : decode cX11_init 127 = .ok (.newarray .int, 2) := by decide +kernel
theorem dX11_init_129 : decode cX11_init 129 = .ok (.putfield 56, 3) := by decide +kernel
theorem dX11_init_132 : decode cX11_init 132 = .ok (.aload_n 0, 1) := by decide +kernel
theorem dX11_init_133 : decode cX11_init 133 = .ok (.bipush 40, 2) := by decide +kernel
theorem dX11_init_135 : decode cX11_init 135 = .ok (.newarray .int, 2) := by decide +kernel
theorem dX11_init_137 : decode cX11_init 137 = .ok (.putfield 59, 3) := by decide +kernel
theorem dX11_init_140 : decode cX11_init 140 = .ok (.aload_n 0, 1) := by decide +kernel
theorem dX11_init_141 : decode cX11_init 141 = .ok (.bipush 40, 2) := by decide +kernel
theorem dX11_init_143 : decode cX11_init 143 = .ok (.newarray .int, 2) := by decide +kernel
theorem dX11_init_145 : decode cX11_init 145 = .ok (.putfield 62, 3) := by decide +kernel
theorem dX11_init_148 : decode cX11_init 148 = .ok (.aload_n 0, 1) := by decide +kernel
theorem dX11_init_149 : decode cX11_init 149 = .ok (.bipush 40, 2) := by decide +kernel
theorem dX11_init_151 : decode cX11_init 151 = .ok (.newarray .int, 2) := by decide +kernel
theorem dX11_init_153 : decode cX11_init 153 = .ok (.putfield 65, 3) := by decide +kernel
theorem dX11_init_156 : decode cX11_init 156 = .ok (.aload_n 0, 1) := by decide +kernel
theorem dX11_init_157 : decode cX11_init 157 = .ok (.bipush 40, 2) := by decide +kernel
theorem dX11_init_159 : decode cX11_init 159 = .ok (.newarray .int, 2) := by decide +kernel
theorem dX11_init_161 : decode cX11_init 161 = .ok (.putfield 68, 3) := by decide +kernel
theorem dX11_init_164 : decode cX11_init 164 = .ok (.aload_n 0, 1) := by decide +kernel
theorem dX11_init_165 : decode cX11_init 165 = .ok (.bipush 40, 2) := by decide +kernel
theorem dX11_init_167 : decode cX11_init 167 = .ok (.newarray .int, 2) := by decide +kernel
theorem dX11_init_169 : decode cX11_init 169 = .ok (.putfield 71, 3) := by decide +kernel
theorem dX11_init_172 : decode cX11_init 172 = .ok (.aload_n 0, 1) := by decide +kernel
theorem dX11_init_173 : decode cX11_init 173 = .ok (.bipush 40, 2) := by decide +kernel
theorem dX11_init_175 : decode cX11_init 175 = .ok (.newarray .int, 2) := by decide +kernel
theorem dX11_init_177 : decode cX11_init 177 = .ok (.putfield 74, 3) := by decide +kernel
theorem dX11_init_180 : decode cX11_init 180 = .ok (.aload_n 0, 1) := by decide +kernel
theorem dX11_init_181 : decode cX11_init 181 = .ok (.bipush 40, 2) := by decide +kernel
theorem dX11_init_183 : decode cX11_init 183 = .ok (.newarray .int, 2) := by decide +kernel
theorem dX11_init_185 : decode cX11_init 185 = .ok (.putfield 77, 3) := by decide +kernel
theorem dX11_init_188 : decode cX11_init 188 = .ok (.aload_n 0, 1) := by decide +kernel
theorem dX11_init_189 : decode cX11_init 189 = .ok (.bipush 40, 2) := by decide +kernel
theorem dX11_init_191 : decode cX11_init 191 = .ok (.newarray .int, 2) := by decide +kernel
theorem dX11_init_193 : decode cX11_init 193 = .ok (.putfield 80, 3) := by decide +kernel
theorem dX11_init_196 : decode cX11_init 196 = .ok (.aload_n 0, 1) := by decide +kernel
theorem dX11_init_197 : decode cX11_init 197 = .ok (.bipush 40, 2) := by decide +kernel
theorem dX11_init_199 : decode cX11_init 199 = .ok (.newarray .int, 2) := by decide +kernel
theorem dX11_init_201 : decode cX11_init 201 = .ok (.putfield 83, 3) := by decide +kernel
theorem dX11_init_204 : decode cX11_init 204 = .ok (.aload_n 0, 1) := by decide +kernel
theorem dX11_init_205 : decode cX11_init 205 = .ok (.bipush 40, 2) := by decide +kernel
theorem dX11_init_207 : decode cX11_init 207 = .ok (.newarray .int, 2) := by decide +kernel
theorem dX11_init_209 : decode cX11_init 209 = .ok (.putfield 86, 3) := by decide +kernel
theorem dX11_init_212 : decode cX11_init 212 = .ok (.aload_n 0, 1) := by decide +kernel
theorem dX11_init_213 : decode cX11_init 213 = .ok (.bipush 40, 2) := by decide +kernel
theorem dX11_init_215 : decode cX11_init 215 = .ok (.newarray .int, 2) := by decide +kernel
theorem dX11_init_217 : decode cX11_init 217 = .ok (.putfield 89, 3) := by decide +kernel
theorem dX11_init_220 : decode cX11_init 220 = .ok (.aload_n 0, 1) := by decide +kernel
theorem dX11_init_221 : decode cX11_init 221 = .ok (.bipush 40, 2) := by decide +kernel
theorem dX11_init_223 : decode cX11_init 223 = .ok (.newarray .int, 2) := by decide +kernel
theorem dX11_init_225 : decode cX11_init 225 = .ok (.putfield 92, 3) := by decide +kernel
theorem dX11_init_228 : decode cX11_init 228 = .ok (.aload_n 0, 1) := by decide +kernel
theorem dX11_init_229 : decode cX11_init 229 = .ok (.bipush 40, 2) := by decide +kernel
theorem dX11_init_231 : decode cX11_init 231 = .ok (.newarray .char, 2) := by decide +kernel
theorem dX11_init_233 : decode cX11_init 233 = .ok (.putfield 95, 3) := by decide +kernel
theorem dX11_init_236 : decode cX11_init 236 = .ok (.aload_n 0, 1) := by decide +kernel
theorem dX11_init_237 : decode cX11_init 237 = .ok (.bipush 40, 2) := by decide +kernel
theorem dX11_init_239 : decode cX11_init 239 = .ok (.newarray .boolean, 2) := by decide +kernel
theorem dX11_init_241 : decode cX11_init 241 = .ok (.putfield 99, 3) := by decide +kernel
theorem dX11_init_244 : decode cX11_init 244 = .ok (.aload_n 0, 1) := by decide +kernel
theorem dX11_init_245 : decode cX11_init 245 = .ok (.bipush 40, 2) := by decide +kernel
theorem dX11_init_247 : decode cX11_init 247 = .ok (.newarray .boolean, 2) := by decide +kernel
theorem dX11_init_249 : decode cX11_init 249 = .ok (.putfield 102, 3) := by decide +kernel
theorem dX11_init_252 : decode cX11_init 252 = .ok (.aload_n 0, 1) := by decide +kernel
theorem dX11_init_253 : decode cX11_init 253 = .ok (.sipush 4000, 3) := by decide +kernel
theorem dX11_init_256 : decode cX11_init 256 = .ok (.newarray .int, 2) := by decide +kernel
theorem dX11_init_258 : decode cX11_init 258 = .ok (.putfield 105, 3) := by decide +kernel
theorem dX11_init_261 : decode cX11_init 261 = .ok (.aload_n 0, 1) := by decide +kernel
theorem dX11_init_262 : decode cX11_init 262 = .ok (.bipush 6, 2) := by decide +kernel
theorem dX11_init_264 : decode cX11_init 264 = .ok (.newarray .int, 2) := by decide +kernel
theorem dX11_init_266 : decode cX11_init 266 = .ok (.putfield 108, 3) := by decide +kernel
theorem dX11_init_269 : decode cX11_init 269 = .ok (.aload_n 0, 1) := by decide +kernel
theorem dX11_init_270 : decode cX11_init 270 = .ok (.bipush 6, 2) := by decide +kernel
theorem dX11_init_272 : decode cX11_init 272 = .ok (.newarray .int, 2) := by decide +kernel
theorem dX11_init_274 : decode cX11_init 274 = .ok (.putfield 111, 3) := by decide +kernel
theorem dX11_init_277 : decode cX11_init 277 = .ok (.aload_n 0, 1) := by decide +kernel
theorem dX11_init_278 : decode cX11_init 278 = .ok (.bipush 40, 2) := by decide +kernel
theorem dX11_init_280 : decode cX11_init 280 = .ok (.newarray .int, 2) := by decide +kernel
theorem dX11_init_282 : decode cX11_init 282 = .ok (.putfield 114, 3) := by decide +kernel
theorem dX11_init_285 : decode cX11_init 285 = .ok (.aload_n 0, 1) := by decide +kernel
theorem dX11_init_286 : decode cX11_init 286 = .ok (.bipush 40, 2) := by decide +kernel
theorem dX11_init_288 : decode cX11_init 288 = .ok (.newarray .int, 2) := by decide +kernel
theorem dX11_init_290 : decode cX11_init 290 = .ok (.putfield 117, 3) := by decide +kernel
theorem dX11_init_293 : decode cX11_init 293 = .ok (.aload_n 0, 1) := by decide +kernel
theorem dX11_init_294 : decode cX11_init 294 = .ok (.bipush 40, 2) := by decide +kernel
theorem dX11_init_296 : decode cX11_init 296 = .ok (.newarray .int, 2) := by decide +kernel
theorem dX11_init_298 : decode cX11_init 298 = .ok (.putfield 120, 3) := by decide +kernel
theorem dX11_init_301 : decode cX11_init 301 = .ok (.return_, 1) := by decide +kernel
theorem dX11_thrown_0 : decode cX11_thrown 0 = .ok (.aload_n 0, 1) := by decide +kernel
theorem dX11_thrown_1 : decode cX11_thrown 1 = .ok (.getfield 123, 3) := by decide +kernel
theorem dX11_thrown_4 : decode cX11_thrown 4 = .ok (.ireturn, 1) := by decide +kernel
theorem dX11_isIn_0 : decode cX11_isIn 0 = .ok (.iload_n 0, 1) := by decide +kernel
theorem dX11_isIn_1 : decode cX11_isIn 1 = .ok (.iload_n 1, 1) := by decide +kernel
theorem dX11_isIn_2 : decode cX11_isIn 2 = .ok (.if_icmp .lt 12, 3) := by decide +kernel
theorem dX11_isIn_5 : decode cX11_isIn 5 = .ok (.iload_n 0, 1) := by decide +kernel
theorem dX11_isIn_6 : decode cX11_isIn 6 = .ok (.iload_n 2, 1) := by decide +kernel
theorem dX11_isIn_7 : decode cX11_isIn 7 = .ok (.if_icmp .gt 7, 3) := by decide +kernel
theorem dX11_isIn_10 : decode cX11_isIn 10 = .ok (.iconst 1, 1) := by decide +kernel
theorem dX11_isIn_11 : decode cX11_isIn 11 = .ok (.goto 4, 3) := by decide +kernel
theorem dX11_isIn_14 : decode cX11_isIn 14 = .ok (.iconst 0, 1) := by decide +kernel
theorem dX11_isIn_15 : decode cX11_isIn 15 = .ok (.ireturn, 1) := by decide +kernel
theorem dX11_isThrown_0 : decode cX11_isThrown 0 = .ok (.aload_n 0, 1) := by decide +kernel
theorem dX11_isThrown_1 : decode cX11_isThrown 1 = .ok (.iload_n 1, 1) := by decide +kernel
theorem dX11_isThrown_2 : decode cX11_isThrown 2 = .ok (.ifCond .eq 7, 3) := by decide +kernel
theorem dX11_isThrown_5 : decode cX11_isThrown 5 = .ok (.iload_n 2, 1) := by decide +kernel
theorem dX11_isThrown_6 : decode cX11_isThrown 6 = .ok (.goto 4, 3) := by decide +kernel
theorem dX11_isThrown_9 : decode cX11_isThrown 9 = .ok (.iconst 0, 1) := by decide +kernel
theorem dX11_isThrown_10 : decode cX11_isThrown 10 = .ok (.putfield 123, 3) := by decide +kernel
theorem dX11_isThrown_13 : decode cX11_isThrown 13 = .ok (.iload_n 1, 1) := by decide +kernel
theorem dX11_isThrown_14 : decode cX11_isThrown 14 = .ok (.ireturn, 1) := by decide +kernel
theorem dX11_tells_0 : decode cX11_tells 0 = .ok (.aload_n 0, 1) := by decide +kernel
theorem dX11_tells_1 : decode cX11_tells 1 = .ok (.iconst 0, 1) := by decide +kernel
theorem dX11_tells_2 : decode cX11_tells 2 = .ok (.putfield 123, 3) := by decide +kernel
theorem dX11_tells_5 : decode cX11_tells 5 = .ok (.iload_n 1, 1) := by decide +kernel
theorem dX11_tells_6 : decode cX11_tells 6 = .ok (.ireturn, 1) := by decide +kernel
theorem dX11_isDigits_0 : decode cX11_isDigits 0 = .ok (.iload_n 0, 1) := by decide +kernel
theorem dX11_isDigits_1 : decode cX11_isDigits 1 = .ok (.iload_n 1, 1) := by decide +kernel
theorem dX11_isDigits_2 : decode cX11_isDigits 2 = .ok (.iload_n 2, 1) := by decide +kernel
theorem dX11_isDigits_3 : decode cX11_isDigits 3 = .ok (.invokestatic 127, 3) := by decide +kernel
theorem dX11_isDigits_6 : decode cX11_isDigits 6 = .ok (.istore_n 3, 1) := by decide +kernel
theorem dX11_isDigits_7 : decode cX11_isDigits 7 = .ok (.iload_n 0, 1) := by decide +kernel
theorem dX11_isDigits_8 : decode cX11_isDigits 8 = .ok (.istore 4, 2) := by decide +kernel
theorem dX11_isDigits_10 : decode cX11_isDigits 10 = .ok (.iload 4, 2) := by decide +kernel
theorem dX11_isDigits_12 : decode cX11_isDigits 12 = .ok (.ifCond .le 29, 3) := by decide +kernel
theorem dX11_isDigits_15 : decode cX11_isDigits 15 = .ok (.iload_n 3, 1) := by decide +kernel
theorem dX11_isDigits_16 : decode cX11_isDigits 16 = .ok (.iload 4, 2) := by decide +kernel
theorem dX11_isDigits_18 : decode cX11_isDigits 18 = .ok (.bipush 10, 2) := by decide +kernel
theorem dX11_isDigits_20 : decode cX11_isDigits 20 = .ok (.irem, 1) := by decide +kernel
theorem dX11_isDigits_21 : decode cX11_isDigits 21 = .ok (.ifCond .eq 7, 3) := by decide +kernel
theorem dX11_isDigits_24 : decode cX11_isDigits 24 = .ok (.iconst 1, 1) := by decide +kernel
theorem dX11_isDigits_25 : decode cX11_isDigits 25 = .ok (.goto 4, 3) := by decide +kernel
theorem dX11_isDigits_28 : decode cX11_isDigits 28 = .ok (.iconst 0, 1) := by decide +kernel
theorem dX11_isDigits_29 : decode cX11_isDigits 29 = .ok (.iand, 1) := by decide +kernel
theorem dX11_isDigits_30 : decode cX11_isDigits 30 = .ok (.istore_n 3, 1) := by decide +kernel
theorem dX11_isDigits_31 : decode cX11_isDigits 31 = .ok (.iload 4, 2) := by decide +kernel
theorem dX11_isDigits_33 : decode cX11_isDigits 33 = .ok (.bipush 10, 2) := by decide +kernel
theorem dX11_isDigits_35 : decode cX11_isDigits 35 = .ok (.idiv, 1) := by decide +kernel
theorem dX11_isDigits_36 : decode cX11_isDigits 36 = .ok (.istore 4, 2) := by decide +kernel
theorem dX11_isDigits_38 : decode cX11_isDigits 38 = .ok (.goto (-28), 3) := by decide +kernel
theorem dX11_isDigits_41 : decode cX11_isDigits 41 = .ok (.iload_n 3, 1) := by decide +kernel
theorem dX11_isDigits_42 : decode cX11_isDigits 42 = .ok (.ireturn, 1) := by decide +kernel
theorem dX11_isAddress_0 : decode cX11_isAddress 0 = .ok (.iload_n 0, 1) := by decide +kernel
theorem dX11_isAddress_1 : decode cX11_isAddress 1 = .ok (.sipush 1000, 3) := by decide +kernel
theorem dX11_isAddress_4 : decode cX11_isAddress 4 = .ok (.sipush 9999, 3) := by decide +kernel
theorem dX11_isAddress_7 : decode cX11_isAddress 7 = .ok (.invokestatic 131, 3) := by decide +kernel
theorem dX11_isAddress_10 : decode cX11_isAddress 10 = .ok (.ireturn, 1) := by decide +kernel
theorem dX11_isHub_0 : decode cX11_isHub 0 = .ok (.iload_n 1, 1) := by decide +kernel
theorem dX11_isHub_1 : decode cX11_isHub 1 = .ok (.iconst 0, 1) := by decide +kernel
theorem dX11_isHub_2 : decode cX11_isHub 2 = .ok (.aload_n 0, 1) := by decide +kernel
theorem dX11_isHub_3 : decode cX11_isHub 3 = .ok (.getfield 134, 3) := by decide +kernel
theorem dX11_isHub_6 : decode cX11_isHub 6 = .ok (.iconst 1, 1) := by decide +kernel
theorem dX11_isHub_7 : decode cX11_isHub 7 = .ok (.isub, 1) := by decide +kernel
theorem dX11_isHub_8 : decode cX11_isHub 8 = .ok (.invokestatic 127, 3) := by decide +kernel
theorem dX11_isHub_11 : decode cX11_isHub 11 = .ok (.ireturn, 1) := by decide +kernel
theorem dX11_isNoLine_0 : decode cX11_isNoLine 0 = .ok (.aload_n 0, 1) := by decide +kernel
theorem dX11_isNoLine_1 : decode cX11_isNoLine 1 = .ok (.iload_n 1, 1) := by decide +kernel
theorem dX11_isNoLine_2 : decode cX11_isNoLine 2 = .ok (.iconst 0, 1) := by decide +kernel
theorem dX11_isNoLine_3 : decode cX11_isNoLine 3 = .ok (.aload_n 0, 1) := by decide +kernel
theorem dX11_isNoLine_4 : decode cX11_isNoLine 4 = .ok (.getfield 137, 3) := by decide +kernel
theorem dX11_isNoLine_7 : decode cX11_isNoLine 7 = .ok (.iconst 1, 1) := by decide +kernel
theorem dX11_isNoLine_8 : decode cX11_isNoLine 8 = .ok (.isub, 1) := by decide +kernel
theorem dX11_isNoLine_9 : decode cX11_isNoLine 9 = .ok (.invokestatic 127, 3) := by decide +kernel
theorem dX11_isNoLine_12 : decode cX11_isNoLine 12 = .ok (.ifCond .ne 7, 3) := by decide +kernel
theorem dX11_isNoLine_15 : decode cX11_isNoLine 15 = .ok (.iconst 1, 1) := by decide +kernel
theorem dX11_isNoLine_16 : decode cX11_isNoLine 16 = .ok (.goto 4, 3) := by decide +kernel
theorem dX11_isNoLine_19 : decode cX11_isNoLine 19 = .ok (.iconst 0, 1) := by decide +kernel
theorem dX11_isNoLine_20 : decode cX11_isNoLine 20 = .ok (.iconst 1, 1) := by decide +kernel
theorem dX11_isNoLine_21 : decode cX11_isNoLine 21 = .ok (.invokevirtual 140, 3) := by decide +kernel
theorem dX11_isNoLine_24 : decode cX11_isNoLine 24 = .ok (.ireturn, 1) := by decide +kernel
theorem dX11_isNone_0 : decode cX11_isNone 0 = .ok (.aload_n 0, 1) := by decide +kernel
theorem dX11_isNone_1 : decode cX11_isNone 1 = .ok (.iload_n 1, 1) := by decide +kernel
theorem dX11_isNone_2 : decode cX11_isNone 2 = .ok (.iconst 0, 1) := by decide +kernel
theorem dX11_isNone_3 : decode cX11_isNone 3 = .ok (.aload_n 0, 1) := by decide +kernel
theorem dX11_isNone_4 : decode cX11_isNone 4 = .ok (.getfield 144, 3) := by decide +kernel
theorem dX11_isNone_7 : decode cX11_isNone 7 = .ok (.iconst 1, 1) := by decide +kernel
theorem dX11_isNone_8 : decode cX11_isNone 8 = .ok (.isub, 1) := by decide +kernel
theorem dX11_isNone_9 : decode cX11_isNone 9 = .ok (.invokestatic 127, 3) := by decide +kernel
theorem dX11_isNone_12 : decode cX11_isNone 12 = .ok (.ifCond .ne 7, 3) := by decide +kernel
theorem dX11_isNone_15 : decode cX11_isNone 15 = .ok (.iconst 1, 1) := by decide +kernel
theorem dX11_isNone_16 : decode cX11_isNone 16 = .ok (.goto 4, 3) := by decide +kernel
theorem dX11_isNone_19 : decode cX11_isNone 19 = .ok (.iconst 0, 1) := by decide +kernel
theorem dX11_isNone_20 : decode cX11_isNone 20 = .ok (.iconst 1, 1) := by decide +kernel
theorem dX11_isNone_21 : decode cX11_isNone 21 = .ok (.invokevirtual 140, 3) := by decide +kernel
theorem dX11_isNone_24 : decode cX11_isNone 24 = .ok (.ireturn, 1) := by decide +kernel
theorem dX11_happens_0 : decode cX11_happens 0 = .ok (.aload_n 0, 1) := by decide +kernel
theorem dX11_happens_1 : decode cX11_happens 1 = .ok (.getfield 147, 3) := by decide +kernel
theorem dX11_happens_4 : decode cX11_happens 4 = .ok (.iconst 4, 1) := by decide +kernel
theorem dX11_happens_5 : decode cX11_happens 5 = .ok (.iadd, 1) := by decide +kernel
theorem dX11_happens_6 : decode cX11_happens 6 = .ok (.aload_n 0, 1) := by decide +kernel
theorem dX11_happens_7 : decode cX11_happens 7 = .ok (.getfield 105, 3) := by decide +kernel
theorem dX11_happens_10 : decode cX11_happens 10 = .ok (.arraylength, 1) := by decide +kernel
theorem dX11_happens_11 : decode cX11_happens 11 = .ok (.if_icmp .le 50, 3) := by decide +kernel
theorem dX11_happens_14 : decode cX11_happens 14 = .ok (.iconst 2, 1) := by decide +kernel
theorem dX11_happens_15 : decode cX11_happens 15 = .ok (.aload_n 0, 1) := by decide +kernel
theorem dX11_happens_16 : decode cX11_happens 16 = .ok (.getfield 105, 3) := by decide +kernel
theorem dX11_happens_19 : decode cX11_happens 19 = .ok (.arraylength, 1) := by decide +kernel
theorem dX11_happens_20 : decode cX11_happens 20 = .ok (.imul, 1) := by decide +kernel
theorem dX11_happens_21 : decode cX11_happens 21 = .ok (.newarray .int, 2) := by decide +kernel
theorem dX11_happens_23 : decode cX11_happens 23 = .ok (.astore 4, 2) := by decide +kernel
theorem dX11_happens_25 : decode cX11_happens 25 = .ok (.iconst 0, 1) := by decide +kernel
theorem dX11_happens_26 : decode cX11_happens 26 = .ok (.istore 5, 2) := by decide +kernel
theorem dX11_happens_28 : decode cX11_happens 28 = .ok (.iload 5, 2) := by decide +kernel
theorem dX11_happens_30 : decode cX11_happens 30 = .ok (.aload_n 0, 1) := by decide +kernel
theorem dX11_happens_31 : decode cX11_happens 31 = .ok (.getfield 147, 3) := by decide +kernel
theorem dX11_happens_34 : decode cX11_happens 34 = .ok (.if_icmp .ge 21, 3) := by decide +kernel
theorem dX11_happens_37 : decode cX11_happens 37 = .ok (.aload 4, 2) := by decide +kernel
theorem dX11_happens_39 : decode cX11_happens 39 = .ok (.iload 5, 2) := by decide +kernel
theorem dX11_happens_41 : decode cX11_happens 41 = .ok (.aload_n 0, 1) := by decide +kernel
theorem dX11_happens_42 : decode cX11_happens 42 = .ok (.getfield 105, 3) := by decide +kernel
theorem dX11_happens_45 : decode cX11_happens 45 = .ok (.iload 5, 2) := by decide +kernel
theorem dX11_happens_47 : decode cX11_happens 47 = .ok (.iaload, 1) := by decide +kernel
theorem dX11_happens_48 : decode cX11_happens 48 = .ok (.iastore, 1) := by decide +kernel
theorem dX11_happens_49 : decode cX11_happens 49 = .ok (.iinc 5 1, 3) := by decide +kernel
theorem dX11_happens_52 : decode cX11_happens 52 = .ok (.goto (-24), 3) := by decide +kernel
theorem dX11_happens_55 : decode cX11_happens 55 = .ok (.aload_n 0, 1) := by decide +kernel
theorem dX11_happens_56 : decode cX11_happens 56 = .ok (.aload 4, 2) := by decide +kernel
theorem dX11_happens_58 : decode cX11_happens 58 = .ok (.putfield 105, 3) := by decide +kernel
theorem dX11_happens_61 : decode cX11_happens 61 = .ok (.aload_n 0, 1) := by decide +kernel
theorem dX11_happens_62 : decode cX11_happens 62 = .ok (.getfield 105, 3) := by decide +kernel
theorem dX11_happens_65 : decode cX11_happens 65 = .ok (.aload_n 0, 1) := by decide +kernel
theorem dX11_happens_66 : decode cX11_happens 66 = .ok (.getfield 147, 3) := by decide +kernel
theorem dX11_happens_69 : decode cX11_happens 69 = .ok (.iload_n 1, 1) := by decide +kernel
theorem dX11_happens_70 : decode cX11_happens 70 = .ok (.iastore, 1) := by decide +kernel
theorem dX11_happens_71 : decode cX11_happens 71 = .ok (.aload_n 0, 1) := by decide +kernel
theorem dX11_happens_72 : decode cX11_happens 72 = .ok (.getfield 105, 3) := by decide +kernel
theorem dX11_happens_75 : decode cX11_happens 75 = .ok (.aload_n 0, 1) := by decide +kernel
theorem dX11_happens_76 : decode cX11_happens 76 = .ok (.getfield 147, 3) := by decide +kernel
theorem dX11_happens_79 : decode cX11_happens 79 = .ok (.iconst 1, 1) := by decide +kernel
theorem dX11_happens_80 : decode cX11_happens 80 = .ok (.iadd, 1) := by decide +kernel
theorem dX11_happens_81 : decode cX11_happens 81 = .ok (.iload_n 2, 1) := by decide +kernel
theorem dX11_happens_82 : decode cX11_happens 82 = .ok (.iastore, 1) := by decide +kernel
theorem dX11_happens_83 : decode cX11_happens 83 = .ok (.aload_n 0, 1) := by decide +kernel
theorem dX11_happens_84 : decode cX11_happens 84 = .ok (.getfield 105, 3) := by decide +kernel
theorem dX11_happens_87 : decode cX11_happens 87 = .ok (.aload_n 0, 1) := by decide +kernel
theorem dX11_happens_88 : decode cX11_happens 88 = .ok (.getfield 147, 3) := by decide +kernel
theorem dX11_happens_91 : decode cX11_happens 91 = .ok (.iconst 2, 1) := by decide +kernel
theorem dX11_happens_92 : decode cX11_happens 92 = .ok (.iadd, 1) := by decide +kernel
theorem dX11_happens_93 : decode cX11_happens 93 = .ok (.aload_n 0, 1) := by decide +kernel
theorem dX11_happens_94 : decode cX11_happens 94 = .ok (.getfield 150, 3) := by decide +kernel
theorem dX11_happens_97 : decode cX11_happens 97 = .ok (.iastore, 1) := by decide +kernel
theorem dX11_happens_98 : decode cX11_happens 98 = .ok (.aload_n 0, 1) := by decide +kernel
theorem dX11_happens_99 : decode cX11_happens 99 = .ok (.getfield 105, 3) := by decide +kernel
theorem dX11_happens_102 : decode cX11_happens 102 = .ok (.aload_n 0, 1) := by decide +kernel
theorem dX11_happens_103 : decode cX11_happens 103 = .ok (.getfield 147, 3) := by decide +kernel
theorem dX11_happens_106 : decode cX11_happens 106 = .ok (.iconst 3, 1) := by decide +kernel
theorem dX11_happens_107 : decode cX11_happens 107 = .ok (.iadd, 1) := by decide +kernel
theorem dX11_happens_108 : decode cX11_happens 108 = .ok (.aload_n 0, 1) := by decide +kernel
theorem dX11_happens_109 : decode cX11_happens 109 = .ok (.getfield 56, 3) := by decide +kernel
theorem dX11_happens_112 : decode cX11_happens 112 = .ok (.iload_n 1, 1) := by decide +kernel
theorem dX11_happens_113 : decode cX11_happens 113 = .ok (.iaload, 1) := by decide +kernel
theorem dX11_happens_114 : decode cX11_happens 114 = .ok (.iastore, 1) := by decide +kernel
theorem dX11_happens_115 : decode cX11_happens 115 = .ok (.aload_n 0, 1) := by decide +kernel
theorem dX11_happens_116 : decode cX11_happens 116 = .ok (.dup, 1) := by decide +kernel
theorem dX11_happens_117 : decode cX11_happens 117 = .ok (.getfield 147, 3) := by decide +kernel
theorem dX11_happens_120 : decode cX11_happens 120 = .ok (.iconst 4, 1) := by decide +kernel
theorem dX11_happens_121 : decode cX11_happens 121 = .ok (.iadd, 1) := by decide +kernel
theorem dX11_happens_122 : decode cX11_happens 122 = .ok (.putfield 147, 3) := by decide +kernel
theorem dX11_happens_125 : decode cX11_happens 125 = .ok (.iload_n 2, 1) := by decide +kernel
theorem dX11_happens_126 : decode cX11_happens 126 = .ok (.bipush 97, 2) := by decide +kernel
theorem dX11_happens_128 : decode cX11_happens 128 = .ok (.if_icmp .ne 7, 3) := by decide +kernel
theorem dX11_happens_131 : decode cX11_happens 131 = .ok (.iconst 0, 1) := by decide +kernel
theorem dX11_happens_132 : decode cX11_happens 132 = .ok (.goto 77, 3) := by decide +kernel
theorem dX11_happens_135 : decode cX11_happens 135 = .ok (.iload_n 2, 1) := by decide +kernel
theorem dX11_happens_136 : decode cX11_happens 136 = .ok (.bipush 115, 2) := by decide +kernel
theorem dX11_happens_138 : decode cX11_happens 138 = .ok (.if_icmp .ne 7, 3) := by decide +kernel
theorem dX11_happens_141 : decode cX11_happens 141 = .ok (.iconst 1, 1) := by decide +kernel
theorem dX11_happens_142 : decode cX11_happens 142 = .ok (.goto 67, 3) := by decide +kernel
theorem dX11_happens_145 : decode cX11_happens 145 = .ok (.iload_n 2, 1) := by decide +kernel
theorem dX11_happens_146 : decode cX11_happens 146 = .ok (.bipush 109, 2) := by decide +kernel
theorem dX11_happens_148 : decode cX11_happens 148 = .ok (.if_icmp .ne 7, 3) := by decide +kernel
theorem dX11_happens_151 : decode cX11_happens 151 = .ok (.iconst 2, 1) := by decide +kernel
theorem dX11_happens_152 : decode cX11_happens 152 = .ok (.goto 57, 3) := by decide +kernel
theorem dX11_happens_155 : decode cX11_happens 155 = .ok (.iload_n 2, 1) := by decide +kernel
theorem dX11_happens_156 : decode cX11_happens 156 = .ok (.bipush 108, 2) := by decide +kernel
theorem dX11_happens_158 : decode cX11_happens 158 = .ok (.if_icmp .ne 7, 3) := by decide +kernel
theorem dX11_happens_161 : decode cX11_happens 161 = .ok (.iconst 3, 1) := by decide +kernel
theorem dX11_happens_162 : decode cX11_happens 162 = .ok (.goto 47, 3) := by decide +kernel
theorem dX11_happens_165 : decode cX11_happens 165 = .ok (.iload_n 2, 1) := by decide +kernel
theorem dX11_happens_166 : decode cX11_happens 166 = .ok (.bipush 117, 2) := by decide +kernel
theorem dX11_happens_168 : decode cX11_happens 168 = .ok (.if_icmp .ne 7, 3) := by decide +kernel
theorem dX11_happens_171 : decode cX11_happens 171 = .ok (.iconst 4, 1) := by decide +kernel
theorem dX11_happens_172 : decode cX11_happens 172 = .ok (.goto 37, 3) := by decide +kernel
theorem dX11_happens_175 : decode cX11_happens 175 = .ok (.iload_n 2, 1) := by decide +kernel
theorem dX11_happens_176 : decode cX11_happens 176 = .ok (.bipush 100, 2) := by decide +kernel
theorem dX11_happens_178 : decode cX11_happens 178 = .ok (.if_icmp .ne 7, 3) := by decide +kernel
theorem dX11_happens_181 : decode cX11_happens 181 = .ok (.iconst 5, 1) := by decide +kernel
theorem dX11_happens_182 : decode cX11_happens 182 = .ok (.goto 27, 3) := by decide +kernel
theorem dX11_happens_185 : decode cX11_happens 185 = .ok (.iload_n 2, 1) := by decide +kernel
theorem dX11_happens_186 : decode cX11_happens 186 = .ok (.bipush 102, 2) := by decide +kernel
theorem dX11_happens_188 : decode cX11_happens 188 = .ok (.if_icmp .ne 8, 3) := by decide +kernel
theorem dX11_happens_191 : decode cX11_happens 191 = .ok (.bipush 6, 2) := by decide +kernel
theorem dX11_happens_193 : decode cX11_happens 193 = .ok (.goto 16, 3) := by decide +kernel
theorem dX11_happens_196 : decode cX11_happens 196 = .ok (.iload_n 2, 1) := by decide +kernel
theorem dX11_happens_197 : decode cX11_happens 197 = .ok (.bipush 114, 2) := by decide +kernel
theorem dX11_happens_199 : decode cX11_happens 199 = .ok (.if_icmp .ne 8, 3) := by decide +kernel
theorem dX11_happens_202 : decode cX11_happens 202 = .ok (.bipush 7, 2) := by decide +kernel
theorem dX11_happens_204 : decode cX11_happens 204 = .ok (.goto 5, 3) := by decide +kernel
theorem dX11_happens_207 : decode cX11_happens 207 = .ok (.bipush 8, 2) := by decide +kernel
theorem dX11_happens_209 : decode cX11_happens 209 = .ok (.istore 4, 2) := by decide +kernel
theorem dX11_happens_211 : decode cX11_happens 211 = .ok (.bipush 97, 2) := by decide +kernel
theorem dX11_happens_213 : decode cX11_happens 213 = .ok (.aload_n 0, 1) := by decide +kernel
theorem dX11_happens_214 : decode cX11_happens 214 = .ok (.getfield 150, 3) := by decide +kernel
theorem dX11_happens_217 : decode cX11_happens 217 = .ok (.imul, 1) := by decide +kernel
theorem dX11_happens_218 : decode cX11_happens 218 = .ok (.bipush 13, 2) := by decide +kernel
theorem dX11_happens_220 : decode cX11_happens 220 = .ok (.aload_n 0, 1) := by decide +kernel
theorem dX11_happens_221 : decode cX11_happens 221 = .ok (.getfield 56, 3) := by decide +kernel
theorem dX11_happens_224 : decode cX11_happens 224 = .ok (.iload_n 1, 1) := by decide +kernel
theorem dX11_happens_225 : decode cX11_happens 225 = .ok (.iaload, 1) := by decide +kernel
theorem dX11_happens_226 : decode cX11_happens 226 = .ok (.imul, 1) := by decide +kernel
theorem dX11_happens_227 : decode cX11_happens 227 = .ok (.iadd, 1) := by decide +kernel
theorem dX11_happens_228 : decode cX11_happens 228 = .ok (.iload 4, 2) := by decide +kernel
theorem dX11_happens_230 : decode cX11_happens 230 = .ok (.iadd, 1) := by decide +kernel
theorem dX11_happens_231 : decode cX11_happens 231 = .ok (.iload_n 3, 1) := by decide +kernel
theorem dX11_happens_232 : decode cX11_happens 232 = .ok (.ifCond .ge 7, 3) := by decide +kernel
theorem dX11_happens_235 : decode cX11_happens 235 = .ok (.iconst 0, 1) := by decide +kernel
theorem dX11_happens_236 : decode cX11_happens 236 = .ok (.goto 10, 3) := by decide +kernel
theorem dX11_happens_239 : decode cX11_happens 239 = .ok (.bipush 7, 2) := by decide +kernel
theorem dX11_happens_241 : decode cX11_happens 241 = .ok (.iload_n 3, 1) := by decide +kernel
theorem dX11_happens_242 : decode cX11_happens 242 = .ok (.imul, 1) := by decide +kernel
theorem dX11_happens_243 : decode cX11_happens 243 = .ok (.bipush 7, 2) := by decide +kernel
theorem dX11_happens_245 : decode cX11_happens 245 = .ok (.iadd, 1) := by decide +kernel
theorem dX11_happens_246 : decode cX11_happens 246 = .ok (.iadd, 1) := by decide +kernel
theorem dX11_happens_247 : decode cX11_happens 247 = .ok (.istore 5, 2) := by decide +kernel
theorem dX11_happens_249 : decode cX11_happens 249 = .ok (.aload_n 0, 1) := by decide +kernel
theorem dX11_happens_250 : decode cX11_happens 250 = .ok (.getfield 92, 3) := by decide +kernel
theorem dX11_happens_253 : decode cX11_happens 253 = .ok (.iload_n 1, 1) := by decide +kernel
theorem dX11_happens_254 : decode cX11_happens 254 = .ok (.bipush 31, 2) := by decide +kernel
theorem dX11_happens_256 : decode cX11_happens 256 = .ok (.aload_n 0, 1) := by decide +kernel
theorem dX11_happens_257 : decode cX11_happens 257 = .ok (.getfield 92, 3) := by decide +kernel
theorem dX11_happens_260 : decode cX11_happens 260 = .ok (.iload_n 1, 1) := by decide +kernel
theorem dX11_happens_261 : decode cX11_happens 261 = .ok (.iaload, 1) := by decide +kernel
theorem dX11_happens_262 : decode cX11_happens 262 = .ok (.imul, 1) := by decide +kernel
theorem dX11_happens_263 : decode cX11_happens 263 = .ok (.iload 5, 2) := by decide +kernel
theorem dX11_happens_265 : decode cX11_happens 265 = .ok (.iadd, 1) := by decide +kernel
theorem dX11_happens_266 : decode cX11_happens 266 = .ok (.ldc 153, 2) := by decide +kernel
theorem dX11_happens_268 : decode cX11_happens 268 = .ok (.irem, 1) := by decide +kernel
theorem dX11_happens_269 : decode cX11_happens 269 = .ok (.iastore, 1) := by decide +kernel
theorem dX11_happens_270 : decode cX11_happens 270 = .ok (.return_, 1) := by decide +kernel
theorem dX11_leaves_0 : decode cX11_leaves 0 = .ok (.iload_n 2, 1) := by decide +kernel
theorem dX11_leaves_1 : decode cX11_leaves 1 = .ok (.aload_n 0, 1) := by decide +kernel
theorem dX11_leaves_2 : decode cX11_leaves 2 = .ok (.getfield 22, 3) := by decide +kernel
theorem dX11_leaves_5 : decode cX11_leaves 5 = .ok (.iload_n 1, 1) := by decide +kernel
theorem dX11_leaves_6 : decode cX11_leaves 6 = .ok (.iaload, 1) := by decide +kernel
theorem dX11_leaves_7 : decode cX11_leaves 7 = .ok (.isub, 1) := by decide +kernel
theorem dX11_leaves_8 : decode cX11_leaves 8 = .ok (.istore_n 3, 1) := by decide +kernel
theorem dX11_leaves_9 : decode cX11_leaves 9 = .ok (.iload_n 3, 1) := by decide +kernel
theorem dX11_leaves_10 : decode cX11_leaves 10 = .ok (.ifCond .gt 12, 3) := by decide +kernel
theorem dX11_leaves_13 : decode cX11_leaves 13 = .ok (.aload_n 0, 1) := by decide +kernel
theorem dX11_leaves_14 : decode cX11_leaves 14 = .ok (.getfield 22, 3) := by decide +kernel
theorem dX11_leaves_17 : decode cX11_leaves 17 = .ok (.iload_n 1, 1) := by decide +kernel
theorem dX11_leaves_18 : decode cX11_leaves 18 = .ok (.iaload, 1) := by decide +kernel
theorem dX11_leaves_19 : decode cX11_leaves 19 = .ok (.goto 34, 3) := by decide +kernel
theorem dX11_leaves_22 : decode cX11_leaves 22 = .ok (.aload_n 0, 1) := by decide +kernel
theorem dX11_leaves_23 : decode cX11_leaves 23 = .ok (.getfield 22, 3) := by decide +kernel
theorem dX11_leaves_26 : decode cX11_leaves 26 = .ok (.iload_n 1, 1) := by decide +kernel
theorem dX11_leaves_27 : decode cX11_leaves 27 = .ok (.iaload, 1) := by decide +kernel
theorem dX11_leaves_28 : decode cX11_leaves 28 = .ok (.iload_n 3, 1) := by decide +kernel
theorem dX11_leaves_29 : decode cX11_leaves 29 = .ok (.aload_n 0, 1) := by decide +kernel
theorem dX11_leaves_30 : decode cX11_leaves 30 = .ok (.getfield 25, 3) := by decide +kernel
theorem dX11_leaves_33 : decode cX11_leaves 33 = .ok (.iload_n 1, 1) := by decide +kernel
theorem dX11_leaves_34 : decode cX11_leaves 34 = .ok (.iaload, 1) := by decide +kernel
theorem dX11_leaves_35 : decode cX11_leaves 35 = .ok (.iadd, 1) := by decide +kernel
theorem dX11_leaves_36 : decode cX11_leaves 36 = .ok (.iconst 1, 1) := by decide +kernel
theorem dX11_leaves_37 : decode cX11_leaves 37 = .ok (.isub, 1) := by decide +kernel
theorem dX11_leaves_38 : decode cX11_leaves 38 = .ok (.aload_n 0, 1) := by decide +kernel
theorem dX11_leaves_39 : decode cX11_leaves 39 = .ok (.getfield 25, 3) := by decide +kernel
theorem dX11_leaves_42 : decode cX11_leaves 42 = .ok (.iload_n 1, 1) := by decide +kernel
theorem dX11_leaves_43 : decode cX11_leaves 43 = .ok (.iaload, 1) := by decide +kernel
theorem dX11_leaves_44 : decode cX11_leaves 44 = .ok (.idiv, 1) := by decide +kernel
theorem dX11_leaves_45 : decode cX11_leaves 45 = .ok (.aload_n 0, 1) := by decide +kernel
theorem dX11_leaves_46 : decode cX11_leaves 46 = .ok (.getfield 25, 3) := by decide +kernel
theorem dX11_leaves_49 : decode cX11_leaves 49 = .ok (.iload_n 1, 1) := by decide +kernel
theorem dX11_leaves_50 : decode cX11_leaves 50 = .ok (.iaload, 1) := by decide +kernel
theorem dX11_leaves_51 : decode cX11_leaves 51 = .ok (.imul, 1) := by decide +kernel
theorem dX11_leaves_52 : decode cX11_leaves 52 = .ok (.iadd, 1) := by decide +kernel
theorem dX11_leaves_53 : decode cX11_leaves 53 = .ok (.ireturn, 1) := by decide +kernel
theorem dX11_tries_0 : decode cX11_tries 0 = .ok (.iload_n 1, 1) := by decide +kernel
theorem dX11_tries_1 : decode cX11_tries 1 = .ok (.iload 5, 2) := by decide +kernel
theorem dX11_tries_3 : decode cX11_tries 3 = .ok (.if_icmp .ne 77, 3) := by decide +kernel
theorem dX11_tries_6 : decode cX11_tries 6 = .ok (.aload_n 0, 1) := by decide +kernel
theorem dX11_tries_7 : decode cX11_tries 7 = .ok (.getfield 154, 3) := by decide +kernel
theorem dX11_tries_10 : decode cX11_tries 10 = .ok (.ifCond .lt 29, 3) := by decide +kernel
theorem dX11_tries_13 : decode cX11_tries 13 = .ok (.iload 4, 2) := by decide +kernel
theorem dX11_tries_15 : decode cX11_tries 15 = .ok (.aload_n 0, 1) := by decide +kernel
theorem dX11_tries_16 : decode cX11_tries 16 = .ok (.getfield 154, 3) := by decide +kernel
theorem dX11_tries_19 : decode cX11_tries 19 = .ok (.if_icmp .lt 20, 3) := by decide +kernel
theorem dX11_tries_22 : decode cX11_tries 22 = .ok (.iload 4, 2) := by decide +kernel
theorem dX11_tries_24 : decode cX11_tries 24 = .ok (.aload_n 0, 1) := by decide +kernel
theorem dX11_tries_25 : decode cX11_tries 25 = .ok (.getfield 154, 3) := by decide +kernel
theorem dX11_tries_28 : decode cX11_tries 28 = .ok (.if_icmp .ne 51, 3) := by decide +kernel
theorem dX11_tries_31 : decode cX11_tries 31 = .ok (.iload_n 2, 1) := by decide +kernel
theorem dX11_tries_32 : decode cX11_tries 32 = .ok (.aload_n 0, 1) := by decide +kernel
theorem dX11_tries_33 : decode cX11_tries 33 = .ok (.getfield 157, 3) := by decide +kernel
theorem dX11_tries_36 : decode cX11_tries 36 = .ok (.if_icmp .ge 43, 3) := by decide +kernel
theorem dX11_tries_39 : decode cX11_tries 39 = .ok (.aload_n 0, 1) := by decide +kernel
theorem dX11_tries_40 : decode cX11_tries 40 = .ok (.iload 4, 2) := by decide +kernel
theorem dX11_tries_42 : decode cX11_tries 42 = .ok (.putfield 154, 3) := by decide +kernel
theorem dX11_tries_45 : decode cX11_tries 45 = .ok (.aload_n 0, 1) := by decide +kernel
theorem dX11_tries_46 : decode cX11_tries 46 = .ok (.iload_n 2, 1) := by decide +kernel
theorem dX11_tries_47 : decode cX11_tries 47 = .ok (.putfield 157, 3) := by decide +kernel
theorem dX11_tries_50 : decode cX11_tries 50 = .ok (.iconst 0, 1) := by decide +kernel
theorem dX11_tries_51 : decode cX11_tries 51 = .ok (.istore 7, 2) := by decide +kernel
theorem dX11_tries_53 : decode cX11_tries 53 = .ok (.iload 7, 2) := by decide +kernel
theorem dX11_tries_55 : decode cX11_tries 55 = .ok (.iload_n 2, 1) := by decide +kernel
theorem dX11_tries_56 : decode cX11_tries 56 = .ok (.if_icmp .ge 23, 3) := by decide +kernel
theorem dX11_tries_59 : decode cX11_tries 59 = .ok (.aload_n 0, 1) := by decide +kernel
theorem dX11_tries_60 : decode cX11_tries 60 = .ok (.getfield 111, 3) := by decide +kernel
theorem dX11_tries_63 : decode cX11_tries 63 = .ok (.iload 7, 2) := by decide +kernel
theorem dX11_tries_65 : decode cX11_tries 65 = .ok (.aload_n 0, 1) := by decide +kernel
theorem dX11_tries_66 : decode cX11_tries 66 = .ok (.getfield 108, 3) := by decide +kernel
theorem dX11_tries_69 : decode cX11_tries 69 = .ok (.iload 7, 2) := by decide +kernel
theorem dX11_tries_71 : decode cX11_tries 71 = .ok (.iaload, 1) := by decide +kernel
theorem dX11_tries_72 : decode cX11_tries 72 = .ok (.iastore, 1) := by decide +kernel
theorem dX11_tries_73 : decode cX11_tries 73 = .ok (.iinc 7 1, 3) := by decide +kernel
theorem dX11_tries_76 : decode cX11_tries 76 = .ok (.goto (-23), 3) := by decide +kernel
theorem dX11_tries_79 : decode cX11_tries 79 = .ok (.return_, 1) := by decide +kernel
theorem dX11_tries_80 : decode cX11_tries 80 = .ok (.iconst 0, 1) := by decide +kernel
theorem dX11_tries_81 : decode cX11_tries 81 = .ok (.istore 7, 2) := by decide +kernel
theorem dX11_tries_83 : decode cX11_tries 83 = .ok (.iload 7, 2) := by decide +kernel
theorem dX11_tries_85 : decode cX11_tries 85 = .ok (.aload_n 0, 1) := by decide +kernel
theorem dX11_tries_86 : decode cX11_tries 86 = .ok (.getfield 137, 3) := by decide +kernel
theorem dX11_tries_89 : decode cX11_tries 89 = .ok (.if_icmp .ge 116, 3) := by decide +kernel
theorem dX11_tries_92 : decode cX11_tries 92 = .ok (.aload_n 0, 1) := by decide +kernel
theorem dX11_tries_93 : decode cX11_tries 93 = .ok (.getfield 37, 3) := by decide +kernel
theorem dX11_tries_96 : decode cX11_tries 96 = .ok (.iload 7, 2) := by decide +kernel
theorem dX11_tries_98 : decode cX11_tries 98 = .ok (.baload, 1) := by decide +kernel
theorem dX11_tries_99 : decode cX11_tries 99 = .ok (.ifCond .ne 100, 3) := by decide +kernel
theorem dX11_tries_102 : decode cX11_tries 102 = .ok (.aload_n 0, 1) := by decide +kernel
theorem dX11_tries_103 : decode cX11_tries 103 = .ok (.getfield 16, 3) := by decide +kernel
theorem dX11_tries_106 : decode cX11_tries 106 = .ok (.iload 7, 2) := by decide +kernel
theorem dX11_tries_108 : decode cX11_tries 108 = .ok (.iaload, 1) := by decide +kernel
theorem dX11_tries_109 : decode cX11_tries 109 = .ok (.iload_n 1, 1) := by decide +kernel
theorem dX11_tries_110 : decode cX11_tries 110 = .ok (.if_icmp .ne 89, 3) := by decide +kernel
theorem dX11_tries_113 : decode cX11_tries 113 = .ok (.iload 6, 2) := by decide +kernel
theorem dX11_tries_115 : decode cX11_tries 115 = .ok (.aload_n 0, 1) := by decide +kernel
theorem dX11_tries_116 : decode cX11_tries 116 = .ok (.getfield 19, 3) := by decide +kernel
theorem dX11_tries_119 : decode cX11_tries 119 = .ok (.iload 7, 2) := by decide +kernel
theorem dX11_tries_121 : decode cX11_tries 121 = .ok (.iaload, 1) := by decide +kernel
theorem dX11_tries_122 : decode cX11_tries 122 = .ok (.ishr, 1) := by decide +kernel
theorem dX11_tries_123 : decode cX11_tries 123 = .ok (.iconst 1, 1) := by decide +kernel
theorem dX11_tries_124 : decode cX11_tries 124 = .ok (.iand, 1) := by decide +kernel
theorem dX11_tries_125 : decode cX11_tries 125 = .ok (.ifCond .ne 74, 3) := by decide +kernel
theorem dX11_tries_128 : decode cX11_tries 128 = .ok (.aload_n 0, 1) := by decide +kernel
theorem dX11_tries_129 : decode cX11_tries 129 = .ok (.getfield 108, 3) := by decide +kernel
theorem dX11_tries_132 : decode cX11_tries 132 = .ok (.iload_n 2, 1) := by decide +kernel
theorem dX11_tries_133 : decode cX11_tries 133 = .ok (.iload 7, 2) := by decide +kernel
theorem dX11_tries_135 : decode cX11_tries 135 = .ok (.iastore, 1) := by decide +kernel
theorem dX11_tries_136 : decode cX11_tries 136 = .ok (.aload_n 0, 1) := by decide +kernel
theorem dX11_tries_137 : decode cX11_tries 137 = .ok (.iload 7, 2) := by decide +kernel
theorem dX11_tries_139 : decode cX11_tries 139 = .ok (.iload 4, 2) := by decide +kernel
theorem dX11_tries_141 : decode cX11_tries 141 = .ok (.iconst 1, 1) := by decide +kernel
theorem dX11_tries_142 : decode cX11_tries 142 = .ok (.iadd, 1) := by decide +kernel
theorem dX11_tries_143 : decode cX11_tries 143 = .ok (.iload_n 3, 1) := by decide +kernel
theorem dX11_tries_144 : decode cX11_tries 144 = .ok (.aload_n 0, 1) := by decide +kernel
theorem dX11_tries_145 : decode cX11_tries 145 = .ok (.getfield 13, 3) := by decide +kernel
theorem dX11_tries_148 : decode cX11_tries 148 = .ok (.iload_n 1, 1) := by decide +kernel
theorem dX11_tries_149 : decode cX11_tries 149 = .ok (.iaload, 1) := by decide +kernel
theorem dX11_tries_150 : decode cX11_tries 150 = .ok (.iadd, 1) := by decide +kernel
theorem dX11_tries_151 : decode cX11_tries 151 = .ok (.invokestatic 160, 3) := by decide +kernel
theorem dX11_tries_154 : decode cX11_tries 154 = .ok (.invokevirtual 166, 3) := by decide +kernel
theorem dX11_tries_157 : decode cX11_tries 157 = .ok (.aload_n 0, 1) := by decide +kernel
theorem dX11_tries_158 : decode cX11_tries 158 = .ok (.getfield 28, 3) := by decide +kernel
theorem dX11_tries_161 : decode cX11_tries 161 = .ok (.iload 7, 2) := by decide +kernel
theorem dX11_tries_163 : decode cX11_tries 163 = .ok (.iaload, 1) := by decide +kernel
theorem dX11_tries_164 : decode cX11_tries 164 = .ok (.iadd, 1) := by decide +kernel
theorem dX11_tries_165 : decode cX11_tries 165 = .ok (.istore 8, 2) := by decide +kernel
theorem dX11_tries_167 : decode cX11_tries 167 = .ok (.aload_n 0, 1) := by decide +kernel
theorem dX11_tries_168 : decode cX11_tries 168 = .ok (.aload_n 0, 1) := by decide +kernel
theorem dX11_tries_169 : decode cX11_tries 169 = .ok (.getfield 19, 3) := by decide +kernel
theorem dX11_tries_172 : decode cX11_tries 172 = .ok (.iload 7, 2) := by decide +kernel
theorem dX11_tries_174 : decode cX11_tries 174 = .ok (.iaload, 1) := by decide +kernel
theorem dX11_tries_175 : decode cX11_tries 175 = .ok (.iload_n 2, 1) := by decide +kernel
theorem dX11_tries_176 : decode cX11_tries 176 = .ok (.iconst 1, 1) := by decide +kernel
theorem dX11_tries_177 : decode cX11_tries 177 = .ok (.iadd, 1) := by decide +kernel
theorem dX11_tries_178 : decode cX11_tries 178 = .ok (.iload 8, 2) := by decide +kernel
theorem dX11_tries_180 : decode cX11_tries 180 = .ok (.iload 8, 2) := by decide +kernel
theorem dX11_tries_182 : decode cX11_tries 182 = .ok (.iload 5, 2) := by decide +kernel
theorem dX11_tries_184 : decode cX11_tries 184 = .ok (.iload 6, 2) := by decide +kernel
theorem dX11_tries_186 : decode cX11_tries 186 = .ok (.iconst 1, 1) := by decide +kernel
theorem dX11_tries_187 : decode cX11_tries 187 = .ok (.aload_n 0, 1) := by decide +kernel
theorem dX11_tries_188 : decode cX11_tries 188 = .ok (.getfield 19, 3) := by decide +kernel
theorem dX11_tries_191 : decode cX11_tries 191 = .ok (.iload 7, 2) := by decide +kernel
theorem dX11_tries_193 : decode cX11_tries 193 = .ok (.iaload, 1) := by decide +kernel
theorem dX11_tries_194 : decode cX11_tries 194 = .ok (.ishl, 1) := by decide +kernel
theorem dX11_tries_195 : decode cX11_tries 195 = .ok (.ior, 1) := by decide +kernel
theorem dX11_tries_196 : decode cX11_tries 196 = .ok (.invokevirtual 169, 3) := by decide +kernel
theorem dX11_tries_199 : decode cX11_tries 199 = .ok (.iinc 7 1, 3) := by decide +kernel
theorem dX11_tries_202 : decode cX11_tries 202 = .ok (.goto (-119), 3) := by decide +kernel
theorem dX11_tries_205 : decode cX11_tries 205 = .ok (.return_, 1) := by decide +kernel
theorem dX11_lays_0 : decode cX11_lays 0 = .ok (.aload_n 0, 1) := by decide +kernel
theorem dX11_lays_1 : decode cX11_lays 1 = .ok (.iconst (-1), 1) := by decide +kernel
theorem dX11_lays_2 : decode cX11_lays 2 = .ok (.putfield 154, 3) := by decide +kernel
theorem dX11_lays_5 : decode cX11_lays 5 = .ok (.aload_n 0, 1) := by decide +kernel
theorem dX11_lays_6 : decode cX11_lays 6 = .ok (.iconst 0, 1) := by decide +kernel
theorem dX11_lays_7 : decode cX11_lays 7 = .ok (.putfield 157, 3) := by decide +kernel
theorem dX11_lays_10 : decode cX11_lays 10 = .ok (.aload_n 0, 1) := by decide +kernel
theorem dX11_lays_11 : decode cX11_lays 11 = .ok (.aload_n 0, 1) := by decide +kernel
theorem dX11_lays_12 : decode cX11_lays 12 = .ok (.getfield 56, 3) := by decide +kernel
theorem dX11_lays_15 : decode cX11_lays 15 = .ok (.iload_n 1, 1) := by decide +kernel
theorem dX11_lays_16 : decode cX11_lays 16 = .ok (.iaload, 1) := by decide +kernel
theorem dX11_lays_17 : decode cX11_lays 17 = .ok (.iconst 0, 1) := by decide +kernel
theorem dX11_lays_18 : decode cX11_lays 18 = .ok (.aload_n 0, 1) := by decide +kernel
theorem dX11_lays_19 : decode cX11_lays 19 = .ok (.getfield 65, 3) := by decide +kernel
theorem dX11_lays_22 : decode cX11_lays 22 = .ok (.iload_n 1, 1) := by decide +kernel
theorem dX11_lays_23 : decode cX11_lays 23 = .ok (.iaload, 1) := by decide +kernel
theorem dX11_lays_24 : decode cX11_lays 24 = .ok (.aload_n 0, 1) := by decide +kernel
theorem dX11_lays_25 : decode cX11_lays 25 = .ok (.getfield 150, 3) := by decide +kernel
theorem dX11_lays_28 : decode cX11_lays 28 = .ok (.aload_n 0, 1) := by decide +kernel
theorem dX11_lays_29 : decode cX11_lays 29 = .ok (.getfield 53, 3) := by decide +kernel
theorem dX11_lays_32 : decode cX11_lays 32 = .ok (.iload_n 1, 1) := by decide +kernel
theorem dX11_lays_33 : decode cX11_lays 33 = .ok (.iaload, 1) := by decide +kernel
theorem dX11_lays_34 : decode cX11_lays 34 = .ok (.iconst 1, 1) := by decide +kernel
theorem dX11_lays_35 : decode cX11_lays 35 = .ok (.aload_n 0, 1) := by decide +kernel
theorem dX11_lays_36 : decode cX11_lays 36 = .ok (.getfield 56, 3) := by decide +kernel
theorem dX11_lays_39 : decode cX11_lays 39 = .ok (.iload_n 1, 1) := by decide +kernel
theorem dX11_lays_40 : decode cX11_lays 40 = .ok (.iaload, 1) := by decide +kernel
theorem dX11_lays_41 : decode cX11_lays 41 = .ok (.ishl, 1) := by decide +kernel
theorem dX11_lays_42 : decode cX11_lays 42 = .ok (.invokevirtual 169, 3) := by decide +kernel
theorem dX11_lays_45 : decode cX11_lays 45 = .ok (.aload_n 0, 1) := by decide +kernel
theorem dX11_lays_46 : decode cX11_lays 46 = .ok (.getfield 154, 3) := by decide +kernel
theorem dX11_lays_49 : decode cX11_lays 49 = .ok (.ifCond .lt 7, 3) := by decide +kernel
theorem dX11_lays_52 : decode cX11_lays 52 = .ok (.iconst 1, 1) := by decide +kernel
theorem dX11_lays_53 : decode cX11_lays 53 = .ok (.goto 4, 3) := by decide +kernel
theorem dX11_lays_56 : decode cX11_lays 56 = .ok (.iconst 0, 1) := by decide +kernel
theorem dX11_lays_57 : decode cX11_lays 57 = .ok (.ireturn, 1) := by decide +kernel
theorem dX11_planned_0 : decode cX11_planned 0 = .ok (.aload_n 0, 1) := by decide +kernel
theorem dX11_planned_1 : decode cX11_planned 1 = .ok (.iload_n 1, 1) := by decide +kernel
theorem dX11_planned_2 : decode cX11_planned 2 = .ok (.invokevirtual 173, 3) := by decide +kernel
theorem dX11_planned_5 : decode cX11_planned 5 = .ok (.ifCond .eq 19, 3) := by decide +kernel
theorem dX11_planned_8 : decode cX11_planned 8 = .ok (.aload_n 0, 1) := by decide +kernel
theorem dX11_planned_9 : decode cX11_planned 9 = .ok (.getfield 157, 3) := by decide +kernel
theorem dX11_planned_12 : decode cX11_planned 12 = .ok (.ifCond .le 12, 3) := by decide +kernel
theorem dX11_planned_15 : decode cX11_planned 15 = .ok (.aload_n 0, 1) := by decide +kernel
theorem dX11_planned_16 : decode cX11_planned 16 = .ok (.getfield 111, 3) := by decide +kernel
theorem dX11_planned_19 : decode cX11_planned 19 = .ok (.iconst 0, 1) := by decide +kernel
theorem dX11_planned_20 : decode cX11_planned 20 = .ok (.iaload, 1) := by decide +kernel
theorem dX11_planned_21 : decode cX11_planned 21 = .ok (.goto 4, 3) := by decide +kernel
theorem dX11_planned_24 : decode cX11_planned 24 = .ok (.iconst (-1), 1) := by decide +kernel
theorem dX11_planned_25 : decode cX11_planned 25 = .ok (.ireturn, 1) := by decide +kernel
theorem dX11_plans_0 : decode cX11_plans 0 = .ok (.aload_n 0, 1) := by decide +kernel
theorem dX11_plans_1 : decode cX11_plans 1 = .ok (.getfield 68, 3) := by decide +kernel
theorem dX11_plans_4 : decode cX11_plans 4 = .ok (.iload_n 1, 1) := by decide +kernel
theorem dX11_plans_5 : decode cX11_plans 5 = .ok (.aload_n 0, 1) := by decide +kernel
theorem dX11_plans_6 : decode cX11_plans 6 = .ok (.iload_n 1, 1) := by decide +kernel
theorem dX11_plans_7 : decode cX11_plans 7 = .ok (.invokevirtual 177, 3) := by decide +kernel
theorem dX11_plans_10 : decode cX11_plans 10 = .ok (.iastore, 1) := by decide +kernel
theorem dX11_plans_11 : decode cX11_plans 11 = .ok (.return_, 1) := by decide +kernel
theorem dX11_plansAll_0 : decode cX11_plansAll 0 = .ok (.iconst 0, 1) := by decide +kernel
theorem dX11_plansAll_1 : decode cX11_plansAll 1 = .ok (.istore_n 1, 1) := by decide +kernel
theorem dX11_plansAll_2 : decode cX11_plansAll 2 = .ok (.iload_n 1, 1) := by decide +kernel
theorem dX11_plansAll_3 : decode cX11_plansAll 3 = .ok (.aload_n 0, 1) := by decide +kernel
theorem dX11_plansAll_4 : decode cX11_plansAll 4 = .ok (.getfield 144, 3) := by decide +kernel
theorem dX11_plansAll_7 : decode cX11_plansAll 7 = .ok (.if_icmp .ge 25, 3) := by decide +kernel
theorem dX11_plansAll_10 : decode cX11_plansAll 10 = .ok (.aload_n 0, 1) := by decide +kernel
theorem dX11_plansAll_11 : decode cX11_plansAll 11 = .ok (.getfield 95, 3) := by decide +kernel
theorem dX11_plansAll_14 : decode cX11_plansAll 14 = .ok (.iload_n 1, 1) := by decide +kernel
theorem dX11_plansAll_15 : decode cX11_plansAll 15 = .ok (.caload, 1) := by decide +kernel
theorem dX11_plansAll_16 : decode cX11_plansAll 16 = .ok (.bipush 115, 2) := by decide +kernel
theorem dX11_plansAll_18 : decode cX11_plansAll 18 = .ok (.if_icmp .ne 8, 3) := by decide +kernel
theorem dX11_plansAll_21 : decode cX11_plansAll 21 = .ok (.aload_n 0, 1) := by decide +kernel
theorem dX11_plansAll_22 : decode cX11_plansAll 22 = .ok (.iload_n 1, 1) := by decide +kernel
theorem dX11_plansAll_23 : decode cX11_plansAll 23 = .ok (.invokevirtual 181, 3) := by decide +kernel
theorem dX11_plansAll_26 : decode cX11_plansAll 26 = .ok (.iinc 1 1, 3) := by decide +kernel
theorem dX11_plansAll_29 : decode cX11_plansAll 29 = .ok (.goto (-27), 3) := by decide +kernel
theorem dX11_plansAll_32 : decode cX11_plansAll 32 = .ok (.return_, 1) := by decide +kernel
theorem dX11_promises_0 : decode cX11_promises 0 = .ok (.aload_n 0, 1) := by decide +kernel
theorem dX11_promises_1 : decode cX11_promises 1 = .ok (.getfield 74, 3) := by decide +kernel
theorem dX11_promises_4 : decode cX11_promises 4 = .ok (.iload_n 1, 1) := by decide +kernel
theorem dX11_promises_5 : decode cX11_promises 5 = .ok (.aload_n 0, 1) := by decide +kernel
theorem dX11_promises_6 : decode cX11_promises 6 = .ok (.getfield 56, 3) := by decide +kernel
theorem dX11_promises_9 : decode cX11_promises 9 = .ok (.iload_n 1, 1) := by decide +kernel
theorem dX11_promises_10 : decode cX11_promises 10 = .ok (.iaload, 1) := by decide +kernel
theorem dX11_promises_11 : decode cX11_promises 11 = .ok (.aload_n 0, 1) := by decide +kernel
theorem dX11_promises_12 : decode cX11_promises 12 = .ok (.getfield 53, 3) := by decide +kernel
theorem dX11_promises_15 : decode cX11_promises 15 = .ok (.iload_n 1, 1) := by decide +kernel
theorem dX11_promises_16 : decode cX11_promises 16 = .ok (.iaload, 1) := by decide +kernel
theorem dX11_promises_17 : decode cX11_promises 17 = .ok (.if_icmp .ne 10, 3) := by decide +kernel
theorem dX11_promises_20 : decode cX11_promises 20 = .ok (.aload_n 0, 1) := by decide +kernel
theorem dX11_promises_21 : decode cX11_promises 21 = .ok (.getfield 150, 3) := by decide +kernel
theorem dX11_promises_24 : decode cX11_promises 24 = .ok (.goto 4, 3) := by decide +kernel
theorem dX11_promises_27 : decode cX11_promises 27 = .ok (.iconst (-1), 1) := by decide +kernel
theorem dX11_promises_28 : decode cX11_promises 28 = .ok (.iastore, 1) := by decide +kernel
theorem dX11_promises_29 : decode cX11_promises 29 = .ok (.aload_n 0, 1) := by decide +kernel
theorem dX11_promises_30 : decode cX11_promises 30 = .ok (.getfield 71, 3) := by decide +kernel
theorem dX11_promises_33 : decode cX11_promises 33 = .ok (.iload_n 1, 1) := by decide +kernel
theorem dX11_promises_34 : decode cX11_promises 34 = .ok (.aload_n 0, 1) := by decide +kernel
theorem dX11_promises_35 : decode cX11_promises 35 = .ok (.iload_n 1, 1) := by decide +kernel
theorem dX11_promises_36 : decode cX11_promises 36 = .ok (.invokevirtual 173, 3) := by decide +kernel
theorem dX11_promises_39 : decode cX11_promises 39 = .ok (.ifCond .eq 10, 3) := by decide +kernel
theorem dX11_promises_42 : decode cX11_promises 42 = .ok (.aload_n 0, 1) := by decide +kernel
theorem dX11_promises_43 : decode cX11_promises 43 = .ok (.getfield 154, 3) := by decide +kernel
theorem dX11_promises_46 : decode cX11_promises 46 = .ok (.goto 4, 3) := by decide +kernel
theorem dX11_promises_49 : decode cX11_promises 49 = .ok (.iconst (-1), 1) := by decide +kernel
theorem dX11_promises_50 : decode cX11_promises 50 = .ok (.iastore, 1) := by decide +kernel
theorem dX11_promises_51 : decode cX11_promises 51 = .ok (.aload_n 0, 1) := by decide +kernel
theorem dX11_promises_52 : decode cX11_promises 52 = .ok (.iload_n 1, 1) := by decide +kernel
theorem dX11_promises_53 : decode cX11_promises 53 = .ok (.invokevirtual 181, 3) := by decide +kernel
theorem dX11_promises_56 : decode cX11_promises 56 = .ok (.return_, 1) := by decide +kernel
theorem dX11_scans_0 : decode cX11_scans 0 = .ok (.aload_n 0, 1) := by decide +kernel
theorem dX11_scans_1 : decode cX11_scans 1 = .ok (.getfield 95, 3) := by decide +kernel
theorem dX11_scans_4 : decode cX11_scans 4 = .ok (.iload_n 1, 1) := by decide +kernel
theorem dX11_scans_5 : decode cX11_scans 5 = .ok (.bipush 115, 2) := by decide +kernel
theorem dX11_scans_7 : decode cX11_scans 7 = .ok (.castore, 1) := by decide +kernel
theorem dX11_scans_8 : decode cX11_scans 8 = .ok (.aload_n 0, 1) := by decide +kernel
theorem dX11_scans_9 : decode cX11_scans 9 = .ok (.getfield 65, 3) := by decide +kernel
theorem dX11_scans_12 : decode cX11_scans 12 = .ok (.iload_n 1, 1) := by decide +kernel
theorem dX11_scans_13 : decode cX11_scans 13 = .ok (.aload_n 0, 1) := by decide +kernel
theorem dX11_scans_14 : decode cX11_scans 14 = .ok (.getfield 150, 3) := by decide +kernel
theorem dX11_scans_17 : decode cX11_scans 17 = .ok (.iastore, 1) := by decide +kernel
theorem dX11_scans_18 : decode cX11_scans 18 = .ok (.aload_n 0, 1) := by decide +kernel
theorem dX11_scans_19 : decode cX11_scans 19 = .ok (.getfield 56, 3) := by decide +kernel
theorem dX11_scans_22 : decode cX11_scans 22 = .ok (.iload_n 1, 1) := by decide +kernel
theorem dX11_scans_23 : decode cX11_scans 23 = .ok (.iaload, 1) := by decide +kernel
theorem dX11_scans_24 : decode cX11_scans 24 = .ok (.aload_n 0, 1) := by decide +kernel
theorem dX11_scans_25 : decode cX11_scans 25 = .ok (.getfield 53, 3) := by decide +kernel
theorem dX11_scans_28 : decode cX11_scans 28 = .ok (.iload_n 1, 1) := by decide +kernel
theorem dX11_scans_29 : decode cX11_scans 29 = .ok (.iaload, 1) := by decide +kernel
theorem dX11_scans_30 : decode cX11_scans 30 = .ok (.if_icmp .ne 22, 3) := by decide +kernel
theorem dX11_scans_33 : decode cX11_scans 33 = .ok (.aload_n 0, 1) := by decide +kernel
theorem dX11_scans_34 : decode cX11_scans 34 = .ok (.getfield 74, 3) := by decide +kernel
theorem dX11_scans_37 : decode cX11_scans 37 = .ok (.iload_n 1, 1) := by decide +kernel
theorem dX11_scans_38 : decode cX11_scans 38 = .ok (.iaload, 1) := by decide +kernel
theorem dX11_scans_39 : decode cX11_scans 39 = .ok (.ifCond .ge 13, 3) := by decide +kernel
theorem dX11_scans_42 : decode cX11_scans 42 = .ok (.aload_n 0, 1) := by decide +kernel
theorem dX11_scans_43 : decode cX11_scans 43 = .ok (.getfield 74, 3) := by decide +kernel
theorem dX11_scans_46 : decode cX11_scans 46 = .ok (.iload_n 1, 1) := by decide +kernel
theorem dX11_scans_47 : decode cX11_scans 47 = .ok (.aload_n 0, 1) := by decide +kernel
theorem dX11_scans_48 : decode cX11_scans 48 = .ok (.getfield 150, 3) := by decide +kernel
theorem dX11_scans_51 : decode cX11_scans 51 = .ok (.iastore, 1) := by decide +kernel
theorem dX11_scans_52 : decode cX11_scans 52 = .ok (.aload_n 0, 1) := by decide +kernel
theorem dX11_scans_53 : decode cX11_scans 53 = .ok (.iload_n 1, 1) := by decide +kernel
theorem dX11_scans_54 : decode cX11_scans 54 = .ok (.invokevirtual 181, 3) := by decide +kernel
theorem dX11_scans_57 : decode cX11_scans 57 = .ok (.return_, 1) := by decide +kernel
theorem dX11_turns_0 : decode cX11_turns 0 = .ok (.aload_n 0, 1) := by decide +kernel
theorem dX11_turns_1 : decode cX11_turns 1 = .ok (.getfield 99, 3) := by decide +kernel
theorem dX11_turns_4 : decode cX11_turns 4 = .ok (.iload_n 1, 1) := by decide +kernel
theorem dX11_turns_5 : decode cX11_turns 5 = .ok (.iconst 1, 1) := by decide +kernel
theorem dX11_turns_6 : decode cX11_turns 6 = .ok (.bastore, 1) := by decide +kernel
theorem dX11_turns_7 : decode cX11_turns 7 = .ok (.aload_n 0, 1) := by decide +kernel
theorem dX11_turns_8 : decode cX11_turns 8 = .ok (.getfield 53, 3) := by decide +kernel
theorem dX11_turns_11 : decode cX11_turns 11 = .ok (.iload_n 1, 1) := by decide +kernel
theorem dX11_turns_12 : decode cX11_turns 12 = .ok (.aload_n 0, 1) := by decide +kernel
theorem dX11_turns_13 : decode cX11_turns 13 = .ok (.getfield 50, 3) := by decide +kernel
theorem dX11_turns_16 : decode cX11_turns 16 = .ok (.iload_n 1, 1) := by decide +kernel
theorem dX11_turns_17 : decode cX11_turns 17 = .ok (.iaload, 1) := by decide +kernel
theorem dX11_turns_18 : decode cX11_turns 18 = .ok (.iastore, 1) := by decide +kernel
theorem dX11_turns_19 : decode cX11_turns 19 = .ok (.aload_n 0, 1) := by decide +kernel
theorem dX11_turns_20 : decode cX11_turns 20 = .ok (.getfield 80, 3) := by decide +kernel
theorem dX11_turns_23 : decode cX11_turns 23 = .ok (.iload_n 1, 1) := by decide +kernel
theorem dX11_turns_24 : decode cX11_turns 24 = .ok (.iconst 0, 1) := by decide +kernel
theorem dX11_turns_25 : decode cX11_turns 25 = .ok (.iastore, 1) := by decide +kernel
theorem dX11_turns_26 : decode cX11_turns 26 = .ok (.aload_n 0, 1) := by decide +kernel
theorem dX11_turns_27 : decode cX11_turns 27 = .ok (.getfield 65, 3) := by decide +kernel
theorem dX11_turns_30 : decode cX11_turns 30 = .ok (.iload_n 1, 1) := by decide +kernel
theorem dX11_turns_31 : decode cX11_turns 31 = .ok (.aload_n 0, 1) := by decide +kernel
theorem dX11_turns_32 : decode cX11_turns 32 = .ok (.getfield 150, 3) := by decide +kernel
theorem dX11_turns_35 : decode cX11_turns 35 = .ok (.iastore, 1) := by decide +kernel
theorem dX11_turns_36 : decode cX11_turns 36 = .ok (.aload_n 0, 1) := by decide +kernel
theorem dX11_turns_37 : decode cX11_turns 37 = .ok (.iload_n 1, 1) := by decide +kernel
theorem dX11_turns_38 : decode cX11_turns 38 = .ok (.invokevirtual 185, 3) := by decide +kernel
theorem dX11_turns_41 : decode cX11_turns 41 = .ok (.aload_n 0, 1) := by decide +kernel
theorem dX11_turns_42 : decode cX11_turns 42 = .ok (.iload_n 1, 1) := by decide +kernel
theorem dX11_turns_43 : decode cX11_turns 43 = .ok (.bipush 114, 2) := by decide +kernel
theorem dX11_turns_45 : decode cX11_turns 45 = .ok (.iconst (-1), 1) := by decide +kernel
theorem dX11_turns_46 : decode cX11_turns 46 = .ok (.invokevirtual 188, 3) := by decide +kernel
theorem dX11_turns_49 : decode cX11_turns 49 = .ok (.return_, 1) := by decide +kernel
theorem dX11_openHub_0 : decode cX11_openHub 0 = .ok (.iconst 0, 1) := by decide +kernel
theorem dX11_openHub_1 : decode cX11_openHub 1 = .ok (.istore_n 3, 1) := by decide +kernel
theorem dX11_openHub_2 : decode cX11_openHub 2 = .ok (.iconst 0, 1) := by decide +kernel
theorem dX11_openHub_3 : decode cX11_openHub 3 = .ok (.istore 4, 2) := by decide +kernel
theorem dX11_openHub_5 : decode cX11_openHub 5 = .ok (.iload 4, 2) := by decide +kernel
theorem dX11_openHub_7 : decode cX11_openHub 7 = .ok (.aload_n 0, 1) := by decide +kernel
theorem dX11_openHub_8 : decode cX11_openHub 8 = .ok (.getfield 134, 3) := by decide +kernel
theorem dX11_openHub_11 : decode cX11_openHub 11 = .ok (.if_icmp .ge 28, 3) := by decide +kernel
theorem dX11_openHub_14 : decode cX11_openHub 14 = .ok (.iload_n 3, 1) := by decide +kernel
theorem dX11_openHub_15 : decode cX11_openHub 15 = .ok (.aload_n 0, 1) := by decide +kernel
theorem dX11_openHub_16 : decode cX11_openHub 16 = .ok (.getfield 9, 3) := by decide +kernel
theorem dX11_openHub_19 : decode cX11_openHub 19 = .ok (.iload 4, 2) := by decide +kernel
theorem dX11_openHub_21 : decode cX11_openHub 21 = .ok (.iaload, 1) := by decide +kernel
theorem dX11_openHub_22 : decode cX11_openHub 22 = .ok (.iload_n 1, 1) := by decide +kernel
theorem dX11_openHub_23 : decode cX11_openHub 23 = .ok (.if_icmp .ne 7, 3) := by decide +kernel
theorem dX11_openHub_26 : decode cX11_openHub 26 = .ok (.iconst 1, 1) := by decide +kernel
theorem dX11_openHub_27 : decode cX11_openHub 27 = .ok (.goto 4, 3) := by decide +kernel
theorem dX11_openHub_30 : decode cX11_openHub 30 = .ok (.iconst 0, 1) := by decide +kernel
theorem dX11_openHub_31 : decode cX11_openHub 31 = .ok (.ior, 1) := by decide +kernel
theorem dX11_openHub_32 : decode cX11_openHub 32 = .ok (.istore_n 3, 1) := by decide +kernel
theorem dX11_openHub_33 : decode cX11_openHub 33 = .ok (.iinc 4 1, 3) := by decide +kernel
theorem dX11_openHub_36 : decode cX11_openHub 36 = .ok (.goto (-31), 3) := by decide +kernel
theorem dX11_openHub_39 : decode cX11_openHub 39 = .ok (.aload_n 0, 1) := by decide +kernel
theorem dX11_openHub_40 : decode cX11_openHub 40 = .ok (.iload_n 1, 1) := by decide +kernel
theorem dX11_openHub_41 : decode cX11_openHub 41 = .ok (.iconst 1, 1) := by decide +kernel
theorem dX11_openHub_42 : decode cX11_openHub 42 = .ok (.sipush 999, 3) := by decide +kernel
theorem dX11_openHub_45 : decode cX11_openHub 45 = .ok (.invokestatic 131, 3) := by decide +kernel
theorem dX11_openHub_48 : decode cX11_openHub 48 = .ok (.ifCond .eq 13, 3) := by decide +kernel
theorem dX11_openHub_51 : decode cX11_openHub 51 = .ok (.iload_n 2, 1) := by decide +kernel
theorem dX11_openHub_52 : decode cX11_openHub 52 = .ok (.iconst 1, 1) := by decide +kernel
theorem dX11_openHub_53 : decode cX11_openHub 53 = .ok (.bipush 20, 2) := by decide +kernel
theorem dX11_openHub_55 : decode cX11_openHub 55 = .ok (.invokestatic 127, 3) := by decide +kernel
theorem dX11_openHub_58 : decode cX11_openHub 58 = .ok (.ifCond .ne 7, 3) := by decide +kernel
theorem dX11_openHub_61 : decode cX11_openHub 61 = .ok (.iconst 1, 1) := by decide +kernel
theorem dX11_openHub_62 : decode cX11_openHub 62 = .ok (.goto 4, 3) := by decide +kernel
theorem dX11_openHub_65 : decode cX11_openHub 65 = .ok (.iconst 0, 1) := by decide +kernel
theorem dX11_openHub_66 : decode cX11_openHub 66 = .ok (.iconst 1, 1) := by decide +kernel
theorem dX11_openHub_67 : decode cX11_openHub 67 = .ok (.invokevirtual 140, 3) := by decide +kernel
theorem dX11_openHub_70 : decode cX11_openHub 70 = .ok (.ifCond .ne 29, 3) := by decide +kernel
theorem dX11_openHub_73 : decode cX11_openHub 73 = .ok (.aload_n 0, 1) := by decide +kernel
theorem dX11_openHub_74 : decode cX11_openHub 74 = .ok (.iload_n 3, 1) := by decide +kernel
theorem dX11_openHub_75 : decode cX11_openHub 75 = .ok (.ifCond .ne 12, 3) := by decide +kernel
theorem dX11_openHub_78 : decode cX11_openHub 78 = .ok (.aload_n 0, 1) := by decide +kernel
theorem dX11_openHub_79 : decode cX11_openHub 79 = .ok (.getfield 134, 3) := by decide +kernel
theorem dX11_openHub_82 : decode cX11_openHub 82 = .ok (.bipush 6, 2) := by decide +kernel
theorem dX11_openHub_84 : decode cX11_openHub 84 = .ok (.if_icmp .ne 7, 3) := by decide +kernel
theorem dX11_openHub_87 : decode cX11_openHub 87 = .ok (.iconst 1, 1) := by decide +kernel
theorem dX11_openHub_88 : decode cX11_openHub 88 = .ok (.goto 4, 3) := by decide +kernel
theorem dX11_openHub_91 : decode cX11_openHub 91 = .ok (.iconst 0, 1) := by decide +kernel
theorem dX11_openHub_92 : decode cX11_openHub 92 = .ok (.iconst 2, 1) := by decide +kernel
theorem dX11_openHub_93 : decode cX11_openHub 93 = .ok (.invokevirtual 140, 3) := by decide +kernel
theorem dX11_openHub_96 : decode cX11_openHub 96 = .ok (.ifCond .eq 5, 3) := by decide +kernel
theorem dX11_openHub_99 : decode cX11_openHub 99 = .ok (.iconst 0, 1) := by decide +kernel
theorem dX11_openHub_100 : decode cX11_openHub 100 = .ok (.ireturn, 1) := by decide +kernel
theorem dX11_openHub_101 : decode cX11_openHub 101 = .ok (.aload_n 0, 1) := by decide +kernel
theorem dX11_openHub_102 : decode cX11_openHub 102 = .ok (.getfield 9, 3) := by decide +kernel
theorem dX11_openHub_105 : decode cX11_openHub 105 = .ok (.aload_n 0, 1) := by decide +kernel
theorem dX11_openHub_106 : decode cX11_openHub 106 = .ok (.getfield 134, 3) := by decide +kernel
theorem dX11_openHub_109 : decode cX11_openHub 109 = .ok (.iload_n 1, 1) := by decide +kernel
theorem dX11_openHub_110 : decode cX11_openHub 110 = .ok (.iastore, 1) := by decide +kernel
theorem dX11_openHub_111 : decode cX11_openHub 111 = .ok (.aload_n 0, 1) := by decide +kernel
theorem dX11_openHub_112 : decode cX11_openHub 112 = .ok (.getfield 13, 3) := by decide +kernel
theorem dX11_openHub_115 : decode cX11_openHub 115 = .ok (.aload_n 0, 1) := by decide +kernel
theorem dX11_openHub_116 : decode cX11_openHub 116 = .ok (.getfield 134, 3) := by decide +kernel
theorem dX11_openHub_119 : decode cX11_openHub 119 = .ok (.iload_n 2, 1) := by decide +kernel
theorem dX11_openHub_120 : decode cX11_openHub 120 = .ok (.iastore, 1) := by decide +kernel
theorem dX11_openHub_121 : decode cX11_openHub 121 = .ok (.aload_n 0, 1) := by decide +kernel
theorem dX11_openHub_122 : decode cX11_openHub 122 = .ok (.dup, 1) := by decide +kernel
theorem dX11_openHub_123 : decode cX11_openHub 123 = .ok (.getfield 134, 3) := by decide +kernel
theorem dX11_openHub_126 : decode cX11_openHub 126 = .ok (.iconst 1, 1) := by decide +kernel
theorem dX11_openHub_127 : decode cX11_openHub 127 = .ok (.iadd, 1) := by decide +kernel
theorem dX11_openHub_128 : decode cX11_openHub 128 = .ok (.putfield 134, 3) := by decide +kernel
theorem dX11_openHub_131 : decode cX11_openHub 131 = .ok (.aload_n 0, 1) := by decide +kernel
theorem dX11_openHub_132 : decode cX11_openHub 132 = .ok (.getfield 134, 3) := by decide +kernel
theorem dX11_openHub_135 : decode cX11_openHub 135 = .ok (.iconst 1, 1) := by decide +kernel
theorem dX11_openHub_136 : decode cX11_openHub 136 = .ok (.isub, 1) := by decide +kernel
theorem dX11_openHub_137 : decode cX11_openHub 137 = .ok (.ireturn, 1) := by decide +kernel
theorem dX11_addLine_0 : decode cX11_addLine 0 = .ok (.aload_n 0, 1) := by decide +kernel
theorem dX11_addLine_1 : decode cX11_addLine 1 = .ok (.aload_n 0, 1) := by decide +kernel
theorem dX11_addLine_2 : decode cX11_addLine 2 = .ok (.iload_n 1, 1) := by decide +kernel
theorem dX11_addLine_3 : decode cX11_addLine 3 = .ok (.invokevirtual 192, 3) := by decide +kernel
theorem dX11_addLine_6 : decode cX11_addLine 6 = .ok (.ifCond .eq 11, 3) := by decide +kernel
theorem dX11_addLine_9 : decode cX11_addLine 9 = .ok (.aload_n 0, 1) := by decide +kernel
theorem dX11_addLine_10 : decode cX11_addLine 10 = .ok (.iload_n 2, 1) := by decide +kernel
theorem dX11_addLine_11 : decode cX11_addLine 11 = .ok (.invokevirtual 192, 3) := by decide +kernel
theorem dX11_addLine_14 : decode cX11_addLine 14 = .ok (.ifCond .ne 7, 3) := by decide +kernel
theorem dX11_addLine_17 : decode cX11_addLine 17 = .ok (.iconst 1, 1) := by decide +kernel
theorem dX11_addLine_18 : decode cX11_addLine 18 = .ok (.goto 4, 3) := by decide +kernel
theorem dX11_addLine_21 : decode cX11_addLine 21 = .ok (.iconst 0, 1) := by decide +kernel
theorem dX11_addLine_22 : decode cX11_addLine 22 = .ok (.iconst 1, 1) := by decide +kernel
theorem dX11_addLine_23 : decode cX11_addLine 23 = .ok (.invokevirtual 140, 3) := by decide +kernel
theorem dX11_addLine_26 : decode cX11_addLine 26 = .ok (.ifCond .ne 85, 3) := by decide +kernel
theorem dX11_addLine_29 : decode cX11_addLine 29 = .ok (.aload_n 0, 1) := by decide +kernel
theorem dX11_addLine_30 : decode cX11_addLine 30 = .ok (.iload_n 1, 1) := by decide +kernel
theorem dX11_addLine_31 : decode cX11_addLine 31 = .ok (.iload_n 2, 1) := by decide +kernel
theorem dX11_addLine_32 : decode cX11_addLine 32 = .ok (.if_icmp .eq 45, 3) := by decide +kernel
theorem dX11_addLine_35 : decode cX11_addLine 35 = .ok (.iload_n 3, 1) := by decide +kernel
theorem dX11_addLine_36 : decode cX11_addLine 36 = .ok (.iconst 0, 1) := by decide +kernel
theorem dX11_addLine_37 : decode cX11_addLine 37 = .ok (.bipush 59, 2) := by decide +kernel
theorem dX11_addLine_39 : decode cX11_addLine 39 = .ok (.invokestatic 127, 3) := by decide +kernel
theorem dX11_addLine_42 : decode cX11_addLine 42 = .ok (.ifCond .eq 35, 3) := by decide +kernel
theorem dX11_addLine_45 : decode cX11_addLine 45 = .ok (.iload 4, 2) := by decide +kernel
theorem dX11_addLine_47 : decode cX11_addLine 47 = .ok (.iconst 5, 1) := by decide +kernel
theorem dX11_addLine_48 : decode cX11_addLine 48 = .ok (.bipush 60, 2) := by decide +kernel
theorem dX11_addLine_50 : decode cX11_addLine 50 = .ok (.invokestatic 127, 3) := by decide +kernel
theorem dX11_addLine_53 : decode cX11_addLine 53 = .ok (.ifCond .eq 24, 3) := by decide +kernel
theorem dX11_addLine_56 : decode cX11_addLine 56 = .ok (.iload 5, 2) := by decide +kernel
theorem dX11_addLine_58 : decode cX11_addLine 58 = .ok (.iconst 1, 1) := by decide +kernel
theorem dX11_addLine_59 : decode cX11_addLine 59 = .ok (.bipush 60, 2) := by decide +kernel
theorem dX11_addLine_61 : decode cX11_addLine 61 = .ok (.invokestatic 127, 3) := by decide +kernel
theorem dX11_addLine_64 : decode cX11_addLine 64 = .ok (.ifCond .eq 13, 3) := by decide +kernel
theorem dX11_addLine_67 : decode cX11_addLine 67 = .ok (.iload 6, 2) := by decide +kernel
theorem dX11_addLine_69 : decode cX11_addLine 69 = .ok (.iconst 1, 1) := by decide +kernel
theorem dX11_addLine_70 : decode cX11_addLine 70 = .ok (.iconst 4, 1) := by decide +kernel
theorem dX11_addLine_71 : decode cX11_addLine 71 = .ok (.invokestatic 127, 3) := by decide +kernel
theorem dX11_addLine_74 : decode cX11_addLine 74 = .ok (.ifCond .ne 7, 3) := by decide +kernel
theorem dX11_addLine_77 : decode cX11_addLine 77 = .ok (.iconst 1, 1) := by decide +kernel
theorem dX11_addLine_78 : decode cX11_addLine 78 = .ok (.goto 4, 3) := by decide +kernel
theorem dX11_addLine_81 : decode cX11_addLine 81 = .ok (.iconst 0, 1) := by decide +kernel
theorem dX11_addLine_82 : decode cX11_addLine 82 = .ok (.iconst 2, 1) := by decide +kernel
theorem dX11_addLine_83 : decode cX11_addLine 83 = .ok (.invokevirtual 140, 3) := by decide +kernel
theorem dX11_addLine_86 : decode cX11_addLine 86 = .ok (.ifCond .ne 25, 3) := by decide +kernel
theorem dX11_addLine_89 : decode cX11_addLine 89 = .ok (.aload_n 0, 1) := by decide +kernel
theorem dX11_addLine_90 : decode cX11_addLine 90 = .ok (.aload_n 0, 1) := by decide +kernel
theorem dX11_addLine_91 : decode cX11_addLine 91 = .ok (.getfield 137, 3) := by decide +kernel
theorem dX11_addLine_94 : decode cX11_addLine 94 = .ok (.bipush 12, 2) := by decide +kernel
theorem dX11_addLine_96 : decode cX11_addLine 96 = .ok (.if_icmp .ne 7, 3) := by decide +kernel
theorem dX11_addLine_99 : decode cX11_addLine 99 = .ok (.iconst 1, 1) := by decide +kernel
theorem dX11_addLine_100 : decode cX11_addLine 100 = .ok (.goto 4, 3) := by decide +kernel
theorem dX11_addLine_103 : decode cX11_addLine 103 = .ok (.iconst 0, 1) := by decide +kernel
theorem dX11_addLine_104 : decode cX11_addLine 104 = .ok (.iconst 3, 1) := by decide +kernel
theorem dX11_addLine_105 : decode cX11_addLine 105 = .ok (.invokevirtual 140, 3) := by decide +kernel
theorem dX11_addLine_108 : decode cX11_addLine 108 = .ok (.ifCond .eq 5, 3) := by decide +kernel
theorem dX11_addLine_111 : decode cX11_addLine 111 = .ok (.iconst 0, 1) := by decide +kernel
theorem dX11_addLine_112 : decode cX11_addLine 112 = .ok (.ireturn, 1) := by decide +kernel
theorem dX11_addLine_113 : decode cX11_addLine 113 = .ok (.aload_n 0, 1) := by decide +kernel
theorem dX11_addLine_114 : decode cX11_addLine 114 = .ok (.getfield 16, 3) := by decide +kernel
theorem dX11_addLine_117 : decode cX11_addLine 117 = .ok (.aload_n 0, 1) := by decide +kernel
theorem dX11_addLine_118 : decode cX11_addLine 118 = .ok (.getfield 137, 3) := by decide +kernel
theorem dX11_addLine_121 : decode cX11_addLine 121 = .ok (.iload_n 1, 1) := by decide +kernel
theorem dX11_addLine_122 : decode cX11_addLine 122 = .ok (.iastore, 1) := by decide +kernel
theorem dX11_addLine_123 : decode cX11_addLine 123 = .ok (.aload_n 0, 1) := by decide +kernel
theorem dX11_addLine_124 : decode cX11_addLine 124 = .ok (.getfield 19, 3) := by decide +kernel
theorem dX11_addLine_127 : decode cX11_addLine 127 = .ok (.aload_n 0, 1) := by decide +kernel
theorem dX11_addLine_128 : decode cX11_addLine 128 = .ok (.getfield 137, 3) := by decide +kernel
theorem dX11_addLine_131 : decode cX11_addLine 131 = .ok (.iload_n 2, 1) := by decide +kernel
theorem dX11_addLine_132 : decode cX11_addLine 132 = .ok (.iastore, 1) := by decide +kernel
theorem dX11_addLine_133 : decode cX11_addLine 133 = .ok (.aload_n 0, 1) := by decide +kernel
theorem dX11_addLine_134 : decode cX11_addLine 134 = .ok (.getfield 22, 3) := by decide +kernel
theorem dX11_addLine_137 : decode cX11_addLine 137 = .ok (.aload_n 0, 1) := by decide +kernel
theorem dX11_addLine_138 : decode cX11_addLine 138 = .ok (.getfield 137, 3) := by decide +kernel
theorem dX11_addLine_141 : decode cX11_addLine 141 = .ok (.iload_n 3, 1) := by decide +kernel
theorem dX11_addLine_142 : decode cX11_addLine 142 = .ok (.iastore, 1) := by decide +kernel
theorem dX11_addLine_143 : decode cX11_addLine 143 = .ok (.aload_n 0, 1) := by decide +kernel
theorem dX11_addLine_144 : decode cX11_addLine 144 = .ok (.getfield 25, 3) := by decide +kernel
theorem dX11_addLine_147 : decode cX11_addLine 147 = .ok (.aload_n 0, 1) := by decide +kernel
theorem dX11_addLine_148 : decode cX11_addLine 148 = .ok (.getfield 137, 3) := by decide +kernel
theorem dX11_addLine_151 : decode cX11_addLine 151 = .ok (.iload 4, 2) := by decide +kernel
theorem dX11_addLine_153 : decode cX11_addLine 153 = .ok (.iastore, 1) := by decide +kernel
theorem dX11_addLine_154 : decode cX11_addLine 154 = .ok (.aload_n 0, 1) := by decide +kernel
theorem dX11_addLine_155 : decode cX11_addLine 155 = .ok (.getfield 28, 3) := by decide +kernel
theorem dX11_addLine_158 : decode cX11_addLine 158 = .ok (.aload_n 0, 1) := by decide +kernel
theorem dX11_addLine_159 : decode cX11_addLine 159 = .ok (.getfield 137, 3) := by decide +kernel
theorem dX11_addLine_162 : decode cX11_addLine 162 = .ok (.iload 5, 2) := by decide +kernel
theorem dX11_addLine_164 : decode cX11_addLine 164 = .ok (.iastore, 1) := by decide +kernel
theorem dX11_addLine_165 : decode cX11_addLine 165 = .ok (.aload_n 0, 1) := by decide +kernel
theorem dX11_addLine_166 : decode cX11_addLine 166 = .ok (.getfield 31, 3) := by decide +kernel
theorem dX11_addLine_169 : decode cX11_addLine 169 = .ok (.aload_n 0, 1) := by decide +kernel
theorem dX11_addLine_170 : decode cX11_addLine 170 = .ok (.getfield 137, 3) := by decide +kernel
theorem dX11_addLine_173 : decode cX11_addLine 173 = .ok (.iload 6, 2) := by decide +kernel
theorem dX11_addLine_175 : decode cX11_addLine 175 = .ok (.iastore, 1) := by decide +kernel
theorem dX11_addLine_176 : decode cX11_addLine 176 = .ok (.aload_n 0, 1) := by decide +kernel
theorem dX11_addLine_177 : decode cX11_addLine 177 = .ok (.dup, 1) := by decide +kernel
theorem dX11_addLine_178 : decode cX11_addLine 178 = .ok (.getfield 137, 3) := by decide +kernel
theorem dX11_addLine_181 : decode cX11_addLine 181 = .ok (.iconst 1, 1) := by decide +kernel
theorem dX11_addLine_182 : decode cX11_addLine 182 = .ok (.iadd, 1) := by decide +kernel
theorem dX11_addLine_183 : decode cX11_addLine 183 = .ok (.putfield 137, 3) := by decide +kernel
theorem dX11_addLine_186 : decode cX11_addLine 186 = .ok (.aload_n 0, 1) := by decide +kernel
theorem dX11_addLine_187 : decode cX11_addLine 187 = .ok (.invokevirtual 195, 3) := by decide +kernel
theorem dX11_addLine_190 : decode cX11_addLine 190 = .ok (.aload_n 0, 1) := by decide +kernel
theorem dX11_addLine_191 : decode cX11_addLine 191 = .ok (.getfield 137, 3) := by decide +kernel
theorem dX11_addLine_194 : decode cX11_addLine 194 = .ok (.iconst 1, 1) := by decide +kernel
theorem dX11_addLine_195 : decode cX11_addLine 195 = .ok (.isub, 1) := by decide +kernel
theorem dX11_addLine_196 : decode cX11_addLine 196 = .ok (.ireturn, 1) := by decide +kernel
theorem dX11_waits_0 : decode cX11_waits 0 = .ok (.iconst 0, 1) := by decide +kernel
theorem dX11_waits_1 : decode cX11_waits 1 = .ok (.istore_n 2, 1) := by decide +kernel
theorem dX11_waits_2 : decode cX11_waits 2 = .ok (.iconst 0, 1) := by decide +kernel
theorem dX11_waits_3 : decode cX11_waits 3 = .ok (.istore_n 3, 1) := by decide +kernel
theorem dX11_waits_4 : decode cX11_waits 4 = .ok (.iload_n 3, 1) := by decide +kernel
theorem dX11_waits_5 : decode cX11_waits 5 = .ok (.aload_n 0, 1) := by decide +kernel
theorem dX11_waits_6 : decode cX11_waits 6 = .ok (.getfield 144, 3) := by decide +kernel
theorem dX11_waits_9 : decode cX11_waits 9 = .ok (.if_icmp .ge 38, 3) := by decide +kernel
theorem dX11_waits_12 : decode cX11_waits 12 = .ok (.iload_n 2, 1) := by decide +kernel
theorem dX11_waits_13 : decode cX11_waits 13 = .ok (.aload_n 0, 1) := by decide +kernel
theorem dX11_waits_14 : decode cX11_waits 14 = .ok (.getfield 95, 3) := by decide +kernel
theorem dX11_waits_17 : decode cX11_waits 17 = .ok (.iload_n 3, 1) := by decide +kernel
theorem dX11_waits_18 : decode cX11_waits 18 = .ok (.caload, 1) := by decide +kernel
theorem dX11_waits_19 : decode cX11_waits 19 = .ok (.bipush 115, 2) := by decide +kernel
theorem dX11_waits_21 : decode cX11_waits 21 = .ok (.if_icmp .ne 17, 3) := by decide +kernel
theorem dX11_waits_24 : decode cX11_waits 24 = .ok (.aload_n 0, 1) := by decide +kernel
theorem dX11_waits_25 : decode cX11_waits 25 = .ok (.getfield 68, 3) := by decide +kernel
theorem dX11_waits_28 : decode cX11_waits 28 = .ok (.iload_n 3, 1) := by decide +kernel
theorem dX11_waits_29 : decode cX11_waits 29 = .ok (.iaload, 1) := by decide +kernel
theorem dX11_waits_30 : decode cX11_waits 30 = .ok (.iload_n 1, 1) := by decide +kernel
theorem dX11_waits_31 : decode cX11_waits 31 = .ok (.if_icmp .ne 7, 3) := by decide +kernel
theorem dX11_waits_34 : decode cX11_waits 34 = .ok (.iconst 1, 1) := by decide +kernel
theorem dX11_waits_35 : decode cX11_waits 35 = .ok (.goto 4, 3) := by decide +kernel
theorem dX11_waits_38 : decode cX11_waits 38 = .ok (.iconst 0, 1) := by decide +kernel
theorem dX11_waits_39 : decode cX11_waits 39 = .ok (.iadd, 1) := by decide +kernel
theorem dX11_waits_40 : decode cX11_waits 40 = .ok (.istore_n 2, 1) := by decide +kernel
theorem dX11_waits_41 : decode cX11_waits 41 = .ok (.iinc 3 1, 3) := by decide +kernel
theorem dX11_waits_44 : decode cX11_waits 44 = .ok (.goto (-40), 3) := by decide +kernel
theorem dX11_waits_47 : decode cX11_waits 47 = .ok (.iload_n 2, 1) := by decide +kernel
theorem dX11_waits_48 : decode cX11_waits 48 = .ok (.ireturn, 1) := by decide +kernel
theorem dX11_closeLine_0 : decode cX11_closeLine 0 = .ok (.aload_n 0, 1) := by decide +kernel
theorem dX11_closeLine_1 : decode cX11_closeLine 1 = .ok (.iload_n 1, 1) := by decide +kernel
theorem dX11_closeLine_2 : decode cX11_closeLine 2 = .ok (.invokevirtual 198, 3) := by decide +kernel
theorem dX11_closeLine_5 : decode cX11_closeLine 5 = .ok (.ifCond .ne 17, 3) := by decide +kernel
theorem dX11_closeLine_8 : decode cX11_closeLine 8 = .ok (.aload_n 0, 1) := by decide +kernel
theorem dX11_closeLine_9 : decode cX11_closeLine 9 = .ok (.aload_n 0, 1) := by decide +kernel
theorem dX11_closeLine_10 : decode cX11_closeLine 10 = .ok (.getfield 37, 3) := by decide +kernel
theorem dX11_closeLine_13 : decode cX11_closeLine 13 = .ok (.iload_n 1, 1) := by decide +kernel
theorem dX11_closeLine_14 : decode cX11_closeLine 14 = .ok (.baload, 1) := by decide +kernel
theorem dX11_closeLine_15 : decode cX11_closeLine 15 = .ok (.iconst 2, 1) := by decide +kernel
theorem dX11_closeLine_16 : decode cX11_closeLine 16 = .ok (.invokevirtual 140, 3) := by decide +kernel
theorem dX11_closeLine_19 : decode cX11_closeLine 19 = .ok (.ifCond .eq 5, 3) := by decide +kernel
theorem dX11_closeLine_22 : decode cX11_closeLine 22 = .ok (.iconst 0, 1) := by decide +kernel
theorem dX11_closeLine_23 : decode cX11_closeLine 23 = .ok (.ireturn, 1) := by decide +kernel
theorem dX11_closeLine_24 : decode cX11_closeLine 24 = .ok (.aload_n 0, 1) := by decide +kernel
theorem dX11_closeLine_25 : decode cX11_closeLine 25 = .ok (.iload_n 1, 1) := by decide +kernel
theorem dX11_closeLine_26 : decode cX11_closeLine 26 = .ok (.invokevirtual 201, 3) := by decide +kernel
theorem dX11_closeLine_29 : decode cX11_closeLine 29 = .ok (.istore_n 2, 1) := by decide +kernel
theorem dX11_closeLine_30 : decode cX11_closeLine 30 = .ok (.aload_n 0, 1) := by decide +kernel
theorem dX11_closeLine_31 : decode cX11_closeLine 31 = .ok (.getfield 37, 3) := by decide +kernel
theorem dX11_closeLine_34 : decode cX11_closeLine 34 = .ok (.iload_n 1, 1) := by decide +kernel
theorem dX11_closeLine_35 : decode cX11_closeLine 35 = .ok (.iconst 1, 1) := by decide +kernel
theorem dX11_closeLine_36 : decode cX11_closeLine 36 = .ok (.bastore, 1) := by decide +kernel
theorem dX11_closeLine_37 : decode cX11_closeLine 37 = .ok (.aload_n 0, 1) := by decide +kernel
theorem dX11_closeLine_38 : decode cX11_closeLine 38 = .ok (.invokevirtual 195, 3) := by decide +kernel
theorem dX11_closeLine_41 : decode cX11_closeLine 41 = .ok (.iload_n 2, 1) := by decide +kernel
theorem dX11_closeLine_42 : decode cX11_closeLine 42 = .ok (.ireturn, 1) := by decide +kernel
theorem dX11_found_0 : decode cX11_found 0 = .ok (.iconst (-1), 1) := by decide +kernel
theorem dX11_found_1 : decode cX11_found 1 = .ok (.istore_n 2, 1) := by decide +kernel
theorem dX11_found_2 : decode cX11_found 2 = .ok (.iconst 0, 1) := by decide +kernel
theorem dX11_found_3 : decode cX11_found 3 = .ok (.istore_n 3, 1) := by decide +kernel
theorem dX11_found_4 : decode cX11_found 4 = .ok (.iload_n 3, 1) := by decide +kernel
theorem dX11_found_5 : decode cX11_found 5 = .ok (.aload_n 0, 1) := by decide +kernel
theorem dX11_found_6 : decode cX11_found 6 = .ok (.getfield 134, 3) := by decide +kernel
theorem dX11_found_9 : decode cX11_found 9 = .ok (.if_icmp .ge 66, 3) := by decide +kernel
theorem dX11_found_12 : decode cX11_found 12 = .ok (.iload_n 1, 1) := by decide +kernel
theorem dX11_found_13 : decode cX11_found 13 = .ok (.bipush 10, 2) := by decide +kernel
theorem dX11_found_15 : decode cX11_found 15 = .ok (.idiv, 1) := by decide +kernel
theorem dX11_found_16 : decode cX11_found 16 = .ok (.istore 4, 2) := by decide +kernel
theorem dX11_found_18 : decode cX11_found 18 = .ok (.iload 4, 2) := by decide +kernel
theorem dX11_found_20 : decode cX11_found 20 = .ok (.ifCond .le 49, 3) := by decide +kernel
theorem dX11_found_23 : decode cX11_found 23 = .ok (.iload 4, 2) := by decide +kernel
theorem dX11_found_25 : decode cX11_found 25 = .ok (.aload_n 0, 1) := by decide +kernel
theorem dX11_found_26 : decode cX11_found 26 = .ok (.getfield 9, 3) := by decide +kernel
theorem dX11_found_29 : decode cX11_found 29 = .ok (.iload_n 3, 1) := by decide +kernel
theorem dX11_found_30 : decode cX11_found 30 = .ok (.iaload, 1) := by decide +kernel
theorem dX11_found_31 : decode cX11_found 31 = .ok (.if_icmp .ne 26, 3) := by decide +kernel
theorem dX11_found_34 : decode cX11_found 34 = .ok (.iload_n 2, 1) := by decide +kernel
theorem dX11_found_35 : decode cX11_found 35 = .ok (.ifCond .lt 18, 3) := by decide +kernel
theorem dX11_found_38 : decode cX11_found 38 = .ok (.aload_n 0, 1) := by decide +kernel
theorem dX11_found_39 : decode cX11_found 39 = .ok (.getfield 9, 3) := by decide +kernel
theorem dX11_found_42 : decode cX11_found 42 = .ok (.iload_n 3, 1) := by decide +kernel
theorem dX11_found_43 : decode cX11_found 43 = .ok (.iaload, 1) := by decide +kernel
theorem dX11_found_44 : decode cX11_found 44 = .ok (.aload_n 0, 1) := by decide +kernel
theorem dX11_found_45 : decode cX11_found 45 = .ok (.getfield 9, 3) := by decide +kernel
theorem dX11_found_48 : decode cX11_found 48 = .ok (.iload_n 2, 1) := by decide +kernel
theorem dX11_found_49 : decode cX11_found 49 = .ok (.iaload, 1) := by decide +kernel
theorem dX11_found_50 : decode cX11_found 50 = .ok (.if_icmp .le 7, 3) := by decide +kernel
theorem dX11_found_53 : decode cX11_found 53 = .ok (.iload_n 3, 1) := by decide +kernel
theorem dX11_found_54 : decode cX11_found 54 = .ok (.goto 4, 3) := by decide +kernel
theorem dX11_found_57 : decode cX11_found 57 = .ok (.iload_n 2, 1) := by decide +kernel
theorem dX11_found_58 : decode cX11_found 58 = .ok (.istore_n 2, 1) := by decide +kernel
theorem dX11_found_59 : decode cX11_found 59 = .ok (.iload 4, 2) := by decide +kernel
theorem dX11_found_61 : decode cX11_found 61 = .ok (.bipush 10, 2) := by decide +kernel
theorem dX11_found_63 : decode cX11_found 63 = .ok (.idiv, 1) := by decide +kernel
theorem dX11_found_64 : decode cX11_found 64 = .ok (.istore 4, 2) := by decide +kernel
theorem dX11_found_66 : decode cX11_found 66 = .ok (.goto (-48), 3) := by decide +kernel
theorem dX11_found_69 : decode cX11_found 69 = .ok (.iinc 3 1, 3) := by decide +kernel
theorem dX11_found_72 : decode cX11_found 72 = .ok (.goto (-68), 3) := by decide +kernel
theorem dX11_found_75 : decode cX11_found 75 = .ok (.iload_n 2, 1) := by decide +kernel
theorem dX11_found_76 : decode cX11_found 76 = .ok (.ireturn, 1) := by decide +kernel
theorem dX11_accept_0 : decode cX11_accept 0 = .ok (.aload_n 0, 1) := by decide +kernel
theorem dX11_accept_1 : decode cX11_accept 1 = .ok (.aload_n 0, 1) := by decide +kernel
theorem dX11_accept_2 : decode cX11_accept 2 = .ok (.iload_n 1, 1) := by decide +kernel
theorem dX11_accept_3 : decode cX11_accept 3 = .ok (.invokevirtual 192, 3) := by decide +kernel
theorem dX11_accept_6 : decode cX11_accept 6 = .ok (.ifCond .ne 7, 3) := by decide +kernel
theorem dX11_accept_9 : decode cX11_accept 9 = .ok (.iconst 1, 1) := by decide +kernel
theorem dX11_accept_10 : decode cX11_accept 10 = .ok (.goto 4, 3) := by decide +kernel
theorem dX11_accept_13 : decode cX11_accept 13 = .ok (.iconst 0, 1) := by decide +kernel
theorem dX11_accept_14 : decode cX11_accept 14 = .ok (.iconst 1, 1) := by decide +kernel
theorem dX11_accept_15 : decode cX11_accept 15 = .ok (.invokevirtual 140, 3) := by decide +kernel
theorem dX11_accept_18 : decode cX11_accept 18 = .ok (.ifCond .ne 73, 3) := by decide +kernel
theorem dX11_accept_21 : decode cX11_accept 21 = .ok (.aload_n 0, 1) := by decide +kernel
theorem dX11_accept_22 : decode cX11_accept 22 = .ok (.iload_n 2, 1) := by decide +kernel
theorem dX11_accept_23 : decode cX11_accept 23 = .ok (.invokestatic 204, 3) := by decide +kernel
theorem dX11_accept_26 : decode cX11_accept 26 = .ok (.ifCond .eq 23, 3) := by decide +kernel
theorem dX11_accept_29 : decode cX11_accept 29 = .ok (.iload_n 3, 1) := by decide +kernel
theorem dX11_accept_30 : decode cX11_accept 30 = .ok (.iconst 1, 1) := by decide +kernel
theorem dX11_accept_31 : decode cX11_accept 31 = .ok (.bipush 9, 2) := by decide +kernel
theorem dX11_accept_33 : decode cX11_accept 33 = .ok (.invokestatic 127, 3) := by decide +kernel
theorem dX11_accept_36 : decode cX11_accept 36 = .ok (.ifCond .eq 13, 3) := by decide +kernel
theorem dX11_accept_39 : decode cX11_accept 39 = .ok (.iload 4, 2) := by decide +kernel
theorem dX11_accept_41 : decode cX11_accept 41 = .ok (.iconst 0, 1) := by decide +kernel
theorem dX11_accept_42 : decode cX11_accept 42 = .ok (.iconst 2, 1) := by decide +kernel
theorem dX11_accept_43 : decode cX11_accept 43 = .ok (.invokestatic 127, 3) := by decide +kernel
theorem dX11_accept_46 : decode cX11_accept 46 = .ok (.ifCond .ne 7, 3) := by decide +kernel
theorem dX11_accept_49 : decode cX11_accept 49 = .ok (.iconst 1, 1) := by decide +kernel
theorem dX11_accept_50 : decode cX11_accept 50 = .ok (.goto 4, 3) := by decide +kernel
theorem dX11_accept_53 : decode cX11_accept 53 = .ok (.iconst 0, 1) := by decide +kernel
theorem dX11_accept_54 : decode cX11_accept 54 = .ok (.iconst 2, 1) := by decide +kernel
theorem dX11_accept_55 : decode cX11_accept 55 = .ok (.invokevirtual 140, 3) := by decide +kernel
theorem dX11_accept_58 : decode cX11_accept 58 = .ok (.ifCond .ne 33, 3) := by decide +kernel
theorem dX11_accept_61 : decode cX11_accept 61 = .ok (.aload_n 0, 1) := by decide +kernel
theorem dX11_accept_62 : decode cX11_accept 62 = .ok (.aload_n 0, 1) := by decide +kernel
theorem dX11_accept_63 : decode cX11_accept 63 = .ok (.iload_n 2, 1) := by decide +kernel
theorem dX11_accept_64 : decode cX11_accept 64 = .ok (.invokevirtual 207, 3) := by decide +kernel
theorem dX11_accept_67 : decode cX11_accept 67 = .ok (.ifCond .lt 12, 3) := by decide +kernel
theorem dX11_accept_70 : decode cX11_accept 70 = .ok (.aload_n 0, 1) := by decide +kernel
theorem dX11_accept_71 : decode cX11_accept 71 = .ok (.getfield 144, 3) := by decide +kernel
theorem dX11_accept_74 : decode cX11_accept 74 = .ok (.bipush 40, 2) := by decide +kernel
theorem dX11_accept_76 : decode cX11_accept 76 = .ok (.if_icmp .ne 7, 3) := by decide +kernel
theorem dX11_accept_79 : decode cX11_accept 79 = .ok (.iconst 1, 1) := by decide +kernel
theorem dX11_accept_80 : decode cX11_accept 80 = .ok (.goto 4, 3) := by decide +kernel
theorem dX11_accept_83 : decode cX11_accept 83 = .ok (.iconst 0, 1) := by decide +kernel
theorem dX11_accept_84 : decode cX11_accept 84 = .ok (.iconst 3, 1) := by decide +kernel
theorem dX11_accept_85 : decode cX11_accept 85 = .ok (.invokevirtual 140, 3) := by decide +kernel
theorem dX11_accept_88 : decode cX11_accept 88 = .ok (.ifCond .eq 5, 3) := by decide +kernel
theorem dX11_accept_91 : decode cX11_accept 91 = .ok (.iconst 0, 1) := by decide +kernel
theorem dX11_accept_92 : decode cX11_accept 92 = .ok (.ireturn, 1) := by decide +kernel
theorem dX11_accept_93 : decode cX11_accept 93 = .ok (.aload_n 0, 1) := by decide +kernel
theorem dX11_accept_94 : decode cX11_accept 94 = .ok (.getfield 144, 3) := by decide +kernel
theorem dX11_accept_97 : decode cX11_accept 97 = .ok (.istore 5, 2) := by decide +kernel
theorem dX11_accept_99 : decode cX11_accept 99 = .ok (.aload_n 0, 1) := by decide +kernel
theorem dX11_accept_100 : decode cX11_accept 100 = .ok (.dup, 1) := by decide +kernel
theorem dX11_accept_101 : decode cX11_accept 101 = .ok (.getfield 144, 3) := by decide +kernel
theorem dX11_accept_104 : decode cX11_accept 104 = .ok (.iconst 1, 1) := by decide +kernel
theorem dX11_accept_105 : decode cX11_accept 105 = .ok (.iadd, 1) := by decide +kernel
theorem dX11_accept_106 : decode cX11_accept 106 = .ok (.putfield 144, 3) := by decide +kernel
theorem dX11_accept_109 : decode cX11_accept 109 = .ok (.aload_n 0, 1) := by decide +kernel
theorem dX11_accept_110 : decode cX11_accept 110 = .ok (.getfield 44, 3) := by decide +kernel
theorem dX11_accept_113 : decode cX11_accept 113 = .ok (.iload 5, 2) := by decide +kernel
theorem dX11_accept_115 : decode cX11_accept 115 = .ok (.iload_n 3, 1) := by decide +kernel
theorem dX11_accept_116 : decode cX11_accept 116 = .ok (.iastore, 1) := by decide +kernel
theorem dX11_accept_117 : decode cX11_accept 117 = .ok (.aload_n 0, 1) := by decide +kernel
theorem dX11_accept_118 : decode cX11_accept 118 = .ok (.getfield 47, 3) := by decide +kernel
theorem dX11_accept_121 : decode cX11_accept 121 = .ok (.iload 5, 2) := by decide +kernel
theorem dX11_accept_123 : decode cX11_accept 123 = .ok (.iload 4, 2) := by decide +kernel
theorem dX11_accept_125 : decode cX11_accept 125 = .ok (.iastore, 1) := by decide +kernel
theorem dX11_accept_126 : decode cX11_accept 126 = .ok (.aload_n 0, 1) := by decide +kernel
theorem dX11_accept_127 : decode cX11_accept 127 = .ok (.getfield 56, 3) := by decide +kernel
theorem dX11_accept_130 : decode cX11_accept 130 = .ok (.iload 5, 2) := by decide +kernel
theorem dX11_accept_132 : decode cX11_accept 132 = .ok (.iload_n 1, 1) := by decide +kernel
theorem dX11_accept_133 : decode cX11_accept 133 = .ok (.iastore, 1) := by decide +kernel
theorem dX11_accept_134 : decode cX11_accept 134 = .ok (.aload_n 0, 1) := by decide +kernel
theorem dX11_accept_135 : decode cX11_accept 135 = .ok (.getfield 50, 3) := by decide +kernel
theorem dX11_accept_138 : decode cX11_accept 138 = .ok (.iload 5, 2) := by decide +kernel
theorem dX11_accept_140 : decode cX11_accept 140 = .ok (.iload_n 1, 1) := by decide +kernel
theorem dX11_accept_141 : decode cX11_accept 141 = .ok (.iastore, 1) := by decide +kernel
theorem dX11_accept_142 : decode cX11_accept 142 = .ok (.aload_n 0, 1) := by decide +kernel
theorem dX11_accept_143 : decode cX11_accept 143 = .ok (.getfield 53, 3) := by decide +kernel
theorem dX11_accept_146 : decode cX11_accept 146 = .ok (.iload 5, 2) := by decide +kernel
theorem dX11_accept_148 : decode cX11_accept 148 = .ok (.aload_n 0, 1) := by decide +kernel
theorem dX11_accept_149 : decode cX11_accept 149 = .ok (.iload_n 2, 1) := by decide +kernel
theorem dX11_accept_150 : decode cX11_accept 150 = .ok (.invokevirtual 207, 3) := by decide +kernel
theorem dX11_accept_153 : decode cX11_accept 153 = .ok (.iastore, 1) := by decide +kernel
theorem dX11_accept_154 : decode cX11_accept 154 = .ok (.aload_n 0, 1) := by decide +kernel
theorem dX11_accept_155 : decode cX11_accept 155 = .ok (.getfield 95, 3) := by decide +kernel
theorem dX11_accept_158 : decode cX11_accept 158 = .ok (.iload 5, 2) := by decide +kernel
theorem dX11_accept_160 : decode cX11_accept 160 = .ok (.bipush 115, 2) := by decide +kernel
theorem dX11_accept_162 : decode cX11_accept 162 = .ok (.castore, 1) := by decide +kernel
theorem dX11_accept_163 : decode cX11_accept 163 = .ok (.aload_n 0, 1) := by decide +kernel
theorem dX11_accept_164 : decode cX11_accept 164 = .ok (.getfield 65, 3) := by decide +kernel
theorem dX11_accept_167 : decode cX11_accept 167 = .ok (.iload 5, 2) := by decide +kernel
theorem dX11_accept_169 : decode cX11_accept 169 = .ok (.aload_n 0, 1) := by decide +kernel
theorem dX11_accept_170 : decode cX11_accept 170 = .ok (.getfield 150, 3) := by decide +kernel
theorem dX11_accept_173 : decode cX11_accept 173 = .ok (.iastore, 1) := by decide +kernel
theorem dX11_accept_174 : decode cX11_accept 174 = .ok (.aload_n 0, 1) := by decide +kernel
theorem dX11_accept_175 : decode cX11_accept 175 = .ok (.getfield 86, 3) := by decide +kernel
theorem dX11_accept_178 : decode cX11_accept 178 = .ok (.iload 5, 2) := by decide +kernel
theorem dX11_accept_180 : decode cX11_accept 180 = .ok (.aload_n 0, 1) := by decide +kernel
theorem dX11_accept_181 : decode cX11_accept 181 = .ok (.getfield 150, 3) := by decide +kernel
theorem dX11_accept_184 : decode cX11_accept 184 = .ok (.iastore, 1) := by decide +kernel
theorem dX11_accept_185 : decode cX11_accept 185 = .ok (.aload_n 0, 1) := by decide +kernel
theorem dX11_accept_186 : decode cX11_accept 186 = .ok (.iload 5, 2) := by decide +kernel
theorem dX11_accept_188 : decode cX11_accept 188 = .ok (.invokevirtual 185, 3) := by decide +kernel
theorem dX11_accept_191 : decode cX11_accept 191 = .ok (.aload_n 0, 1) := by decide +kernel
theorem dX11_accept_192 : decode cX11_accept 192 = .ok (.iload 5, 2) := by decide +kernel
theorem dX11_accept_194 : decode cX11_accept 194 = .ok (.bipush 97, 2) := by decide +kernel
theorem dX11_accept_196 : decode cX11_accept 196 = .ok (.iconst (-1), 1) := by decide +kernel
theorem dX11_accept_197 : decode cX11_accept 197 = .ok (.invokevirtual 188, 3) := by decide +kernel
theorem dX11_accept_200 : decode cX11_accept 200 = .ok (.iload 5, 2) := by decide +kernel
theorem dX11_accept_202 : decode cX11_accept 202 = .ok (.ireturn, 1) := by decide +kernel
theorem dX11_isOver_0 : decode cX11_isOver 0 = .ok (.aload_n 0, 1) := by decide +kernel
theorem dX11_isOver_1 : decode cX11_isOver 1 = .ok (.getfield 95, 3) := by decide +kernel
theorem dX11_isOver_4 : decode cX11_isOver 4 = .ok (.iload_n 1, 1) := by decide +kernel
theorem dX11_isOver_5 : decode cX11_isOver 5 = .ok (.caload, 1) := by decide +kernel
theorem dX11_isOver_6 : decode cX11_isOver 6 = .ok (.bipush 100, 2) := by decide +kernel
theorem dX11_isOver_8 : decode cX11_isOver 8 = .ok (.if_icmp .eq 14, 3) := by decide +kernel
theorem dX11_isOver_11 : decode cX11_isOver 11 = .ok (.aload_n 0, 1) := by decide +kernel
theorem dX11_isOver_12 : decode cX11_isOver 12 = .ok (.getfield 95, 3) := by decide +kernel
theorem dX11_isOver_15 : decode cX11_isOver 15 = .ok (.iload_n 1, 1) := by decide +kernel
theorem dX11_isOver_16 : decode cX11_isOver 16 = .ok (.caload, 1) := by decide +kernel
theorem dX11_isOver_17 : decode cX11_isOver 17 = .ok (.bipush 104, 2) := by decide +kernel
theorem dX11_isOver_19 : decode cX11_isOver 19 = .ok (.if_icmp .ne 7, 3) := by decide +kernel
theorem dX11_isOver_22 : decode cX11_isOver 22 = .ok (.iconst 1, 1) := by decide +kernel
theorem dX11_isOver_23 : decode cX11_isOver 23 = .ok (.goto 4, 3) := by decide +kernel
theorem dX11_isOver_26 : decode cX11_isOver 26 = .ok (.iconst 0, 1) := by decide +kernel
theorem dX11_isOver_27 : decode cX11_isOver 27 = .ok (.ireturn, 1) := by decide +kernel
theorem dX11_scan_0 : decode cX11_scan 0 = .ok (.aload_n 0, 1) := by decide +kernel
theorem dX11_scan_1 : decode cX11_scan 1 = .ok (.iload_n 1, 1) := by decide +kernel
theorem dX11_scan_2 : decode cX11_scan 2 = .ok (.iconst 0, 1) := by decide +kernel
theorem dX11_scan_3 : decode cX11_scan 3 = .ok (.aload_n 0, 1) := by decide +kernel
theorem dX11_scan_4 : decode cX11_scan 4 = .ok (.getfield 144, 3) := by decide +kernel
theorem dX11_scan_7 : decode cX11_scan 7 = .ok (.iconst 1, 1) := by decide +kernel
theorem dX11_scan_8 : decode cX11_scan 8 = .ok (.isub, 1) := by decide +kernel
theorem dX11_scan_9 : decode cX11_scan 9 = .ok (.invokestatic 127, 3) := by decide +kernel
theorem dX11_scan_12 : decode cX11_scan 12 = .ok (.ifCond .eq 11, 3) := by decide +kernel
theorem dX11_scan_15 : decode cX11_scan 15 = .ok (.aload_n 0, 1) := by decide +kernel
theorem dX11_scan_16 : decode cX11_scan 16 = .ok (.iload_n 2, 1) := by decide +kernel
theorem dX11_scan_17 : decode cX11_scan 17 = .ok (.invokevirtual 192, 3) := by decide +kernel
theorem dX11_scan_20 : decode cX11_scan 20 = .ok (.ifCond .ne 7, 3) := by decide +kernel
theorem dX11_scan_23 : decode cX11_scan 23 = .ok (.iconst 1, 1) := by decide +kernel
theorem dX11_scan_24 : decode cX11_scan 24 = .ok (.goto 4, 3) := by decide +kernel
theorem dX11_scan_27 : decode cX11_scan 27 = .ok (.iconst 0, 1) := by decide +kernel
theorem dX11_scan_28 : decode cX11_scan 28 = .ok (.iconst 1, 1) := by decide +kernel
theorem dX11_scan_29 : decode cX11_scan 29 = .ok (.invokevirtual 140, 3) := by decide +kernel
theorem dX11_scan_32 : decode cX11_scan 32 = .ok (.ifCond .ne 16, 3) := by decide +kernel
theorem dX11_scan_35 : decode cX11_scan 35 = .ok (.aload_n 0, 1) := by decide +kernel
theorem dX11_scan_36 : decode cX11_scan 36 = .ok (.aload_n 0, 1) := by decide +kernel
theorem dX11_scan_37 : decode cX11_scan 37 = .ok (.iload_n 1, 1) := by decide +kernel
theorem dX11_scan_38 : decode cX11_scan 38 = .ok (.invokevirtual 210, 3) := by decide +kernel
theorem dX11_scan_41 : decode cX11_scan 41 = .ok (.iconst 2, 1) := by decide +kernel
theorem dX11_scan_42 : decode cX11_scan 42 = .ok (.invokevirtual 140, 3) := by decide +kernel
theorem dX11_scan_45 : decode cX11_scan 45 = .ok (.ifCond .eq 5, 3) := by decide +kernel
theorem dX11_scan_48 : decode cX11_scan 48 = .ok (.iconst 0, 1) := by decide +kernel
theorem dX11_scan_49 : decode cX11_scan 49 = .ok (.ireturn, 1) := by decide +kernel
theorem dX11_scan_50 : decode cX11_scan 50 = .ok (.aload_n 0, 1) := by decide +kernel
theorem dX11_scan_51 : decode cX11_scan 51 = .ok (.getfield 95, 3) := by decide +kernel
theorem dX11_scan_54 : decode cX11_scan 54 = .ok (.iload_n 1, 1) := by decide +kernel
theorem dX11_scan_55 : decode cX11_scan 55 = .ok (.caload, 1) := by decide +kernel
theorem dX11_scan_56 : decode cX11_scan 56 = .ok (.bipush 116, 2) := by decide +kernel
theorem dX11_scan_58 : decode cX11_scan 58 = .ok (.if_icmp .eq 17, 3) := by decide +kernel
theorem dX11_scan_61 : decode cX11_scan 61 = .ok (.aload_n 0, 1) := by decide +kernel
theorem dX11_scan_62 : decode cX11_scan 62 = .ok (.getfield 56, 3) := by decide +kernel
theorem dX11_scan_65 : decode cX11_scan 65 = .ok (.iload_n 1, 1) := by decide +kernel
theorem dX11_scan_66 : decode cX11_scan 66 = .ok (.iaload, 1) := by decide +kernel
theorem dX11_scan_67 : decode cX11_scan 67 = .ok (.iload_n 2, 1) := by decide +kernel
theorem dX11_scan_68 : decode cX11_scan 68 = .ok (.if_icmp .ne 7, 3) := by decide +kernel
theorem dX11_scan_71 : decode cX11_scan 71 = .ok (.iconst 1, 1) := by decide +kernel
theorem dX11_scan_72 : decode cX11_scan 72 = .ok (.goto 4, 3) := by decide +kernel
theorem dX11_scan_75 : decode cX11_scan 75 = .ok (.iconst 0, 1) := by decide +kernel
theorem dX11_scan_76 : decode cX11_scan 76 = .ok (.istore_n 3, 1) := by decide +kernel
theorem dX11_scan_77 : decode cX11_scan 77 = .ok (.iload_n 3, 1) := by decide +kernel
theorem dX11_scan_78 : decode cX11_scan 78 = .ok (.ifCond .eq 17, 3) := by decide +kernel
theorem dX11_scan_81 : decode cX11_scan 81 = .ok (.aload_n 0, 1) := by decide +kernel
theorem dX11_scan_82 : decode cX11_scan 82 = .ok (.getfield 95, 3) := by decide +kernel
theorem dX11_scan_85 : decode cX11_scan 85 = .ok (.iload_n 1, 1) := by decide +kernel
theorem dX11_scan_86 : decode cX11_scan 86 = .ok (.caload, 1) := by decide +kernel
theorem dX11_scan_87 : decode cX11_scan 87 = .ok (.bipush 115, 2) := by decide +kernel
theorem dX11_scan_89 : decode cX11_scan 89 = .ok (.if_icmp .ne 6, 3) := by decide +kernel
theorem dX11_scan_92 : decode cX11_scan 92 = .ok (.bipush 97, 2) := by decide +kernel
theorem dX11_scan_94 : decode cX11_scan 94 = .ok (.ireturn, 1) := by decide +kernel
theorem dX11_scan_95 : decode cX11_scan 95 = .ok (.aload_n 0, 1) := by decide +kernel
theorem dX11_scan_96 : decode cX11_scan 96 = .ok (.getfield 56, 3) := by decide +kernel
theorem dX11_scan_99 : decode cX11_scan 99 = .ok (.iload_n 1, 1) := by decide +kernel
theorem dX11_scan_100 : decode cX11_scan 100 = .ok (.iload_n 2, 1) := by decide +kernel
theorem dX11_scan_101 : decode cX11_scan 101 = .ok (.iastore, 1) := by decide +kernel
theorem dX11_scan_102 : decode cX11_scan 102 = .ok (.iload_n 3, 1) := by decide +kernel
theorem dX11_scan_103 : decode cX11_scan 103 = .ok (.ifCond .eq 19, 3) := by decide +kernel
theorem dX11_scan_106 : decode cX11_scan 106 = .ok (.aload_n 0, 1) := by decide +kernel
theorem dX11_scan_107 : decode cX11_scan 107 = .ok (.iload_n 1, 1) := by decide +kernel
theorem dX11_scan_108 : decode cX11_scan 108 = .ok (.invokevirtual 213, 3) := by decide +kernel
theorem dX11_scan_111 : decode cX11_scan 111 = .ok (.aload_n 0, 1) := by decide +kernel
theorem dX11_scan_112 : decode cX11_scan 112 = .ok (.iload_n 1, 1) := by decide +kernel
theorem dX11_scan_113 : decode cX11_scan 113 = .ok (.bipush 115, 2) := by decide +kernel
theorem dX11_scan_115 : decode cX11_scan 115 = .ok (.iconst (-1), 1) := by decide +kernel
theorem dX11_scan_116 : decode cX11_scan 116 = .ok (.invokevirtual 188, 3) := by decide +kernel
theorem dX11_scan_119 : decode cX11_scan 119 = .ok (.bipush 111, 2) := by decide +kernel
theorem dX11_scan_121 : decode cX11_scan 121 = .ok (.ireturn, 1) := by decide +kernel
theorem dX11_scan_122 : decode cX11_scan 122 = .ok (.aload_n 0, 1) := by decide +kernel
theorem dX11_scan_123 : decode cX11_scan 123 = .ok (.getfield 77, 3) := by decide +kernel
theorem dX11_scan_126 : decode cX11_scan 126 = .ok (.iload_n 1, 1) := by decide +kernel
theorem dX11_scan_127 : decode cX11_scan 127 = .ok (.dup2, 1) := by decide +kernel
theorem dX11_scan_128 : decode cX11_scan 128 = .ok (.iaload, 1) := by decide +kernel
theorem dX11_scan_129 : decode cX11_scan 129 = .ok (.iconst 1, 1) := by decide +kernel
theorem dX11_scan_130 : decode cX11_scan 130 = .ok (.iadd, 1) := by decide +kernel
theorem dX11_scan_131 : decode cX11_scan 131 = .ok (.iastore, 1) := by decide +kernel
theorem dX11_scan_132 : decode cX11_scan 132 = .ok (.aload_n 0, 1) := by decide +kernel
theorem dX11_scan_133 : decode cX11_scan 133 = .ok (.iload_n 1, 1) := by decide +kernel
theorem dX11_scan_134 : decode cX11_scan 134 = .ok (.bipush 109, 2) := by decide +kernel
theorem dX11_scan_136 : decode cX11_scan 136 = .ok (.iconst (-1), 1) := by decide +kernel
theorem dX11_scan_137 : decode cX11_scan 137 = .ok (.invokevirtual 188, 3) := by decide +kernel
theorem dX11_scan_140 : decode cX11_scan 140 = .ok (.aload_n 0, 1) := by decide +kernel
theorem dX11_scan_141 : decode cX11_scan 141 = .ok (.getfield 77, 3) := by decide +kernel
theorem dX11_scan_144 : decode cX11_scan 144 = .ok (.iload_n 1, 1) := by decide +kernel
theorem dX11_scan_145 : decode cX11_scan 145 = .ok (.iaload, 1) := by decide +kernel
theorem dX11_scan_146 : decode cX11_scan 146 = .ok (.iconst 3, 1) := by decide +kernel
theorem dX11_scan_147 : decode cX11_scan 147 = .ok (.if_icmp .ne 22, 3) := by decide +kernel
theorem dX11_scan_150 : decode cX11_scan 150 = .ok (.aload_n 0, 1) := by decide +kernel
theorem dX11_scan_151 : decode cX11_scan 151 = .ok (.getfield 95, 3) := by decide +kernel
theorem dX11_scan_154 : decode cX11_scan 154 = .ok (.iload_n 1, 1) := by decide +kernel
theorem dX11_scan_155 : decode cX11_scan 155 = .ok (.bipush 104, 2) := by decide +kernel
theorem dX11_scan_157 : decode cX11_scan 157 = .ok (.castore, 1) := by decide +kernel
theorem dX11_scan_158 : decode cX11_scan 158 = .ok (.aload_n 0, 1) := by decide +kernel
theorem dX11_scan_159 : decode cX11_scan 159 = .ok (.iload_n 1, 1) := by decide +kernel
theorem dX11_scan_160 : decode cX11_scan 160 = .ok (.bipush 104, 2) := by decide +kernel
theorem dX11_scan_162 : decode cX11_scan 162 = .ok (.iconst (-1), 1) := by decide +kernel
theorem dX11_scan_163 : decode cX11_scan 163 = .ok (.invokevirtual 188, 3) := by decide +kernel
theorem dX11_scan_166 : decode cX11_scan 166 = .ok (.bipush 104, 2) := by decide +kernel
theorem dX11_scan_168 : decode cX11_scan 168 = .ok (.ireturn, 1) := by decide +kernel
theorem dX11_scan_169 : decode cX11_scan 169 = .ok (.aload_n 0, 1) := by decide +kernel
theorem dX11_scan_170 : decode cX11_scan 170 = .ok (.iload_n 1, 1) := by decide +kernel
theorem dX11_scan_171 : decode cX11_scan 171 = .ok (.invokevirtual 213, 3) := by decide +kernel
theorem dX11_scan_174 : decode cX11_scan 174 = .ok (.bipush 109, 2) := by decide +kernel
theorem dX11_scan_176 : decode cX11_scan 176 = .ok (.ireturn, 1) := by decide +kernel
theorem dX11_deliver_0 : decode cX11_deliver 0 = .ok (.aload_n 0, 1) := by decide +kernel
theorem dX11_deliver_1 : decode cX11_deliver 1 = .ok (.iload_n 1, 1) := by decide +kernel
theorem dX11_deliver_2 : decode cX11_deliver 2 = .ok (.invokevirtual 216, 3) := by decide +kernel
theorem dX11_deliver_5 : decode cX11_deliver 5 = .ok (.ifCond .ne 42, 3) := by decide +kernel
theorem dX11_deliver_8 : decode cX11_deliver 8 = .ok (.aload_n 0, 1) := by decide +kernel
theorem dX11_deliver_9 : decode cX11_deliver 9 = .ok (.aload_n 0, 1) := by decide +kernel
theorem dX11_deliver_10 : decode cX11_deliver 10 = .ok (.getfield 95, 3) := by decide +kernel
theorem dX11_deliver_13 : decode cX11_deliver 13 = .ok (.iload_n 1, 1) := by decide +kernel
theorem dX11_deliver_14 : decode cX11_deliver 14 = .ok (.caload, 1) := by decide +kernel
theorem dX11_deliver_15 : decode cX11_deliver 15 = .ok (.bipush 115, 2) := by decide +kernel
theorem dX11_deliver_17 : decode cX11_deliver 17 = .ok (.if_icmp .ne 18, 3) := by decide +kernel
theorem dX11_deliver_20 : decode cX11_deliver 20 = .ok (.aload_n 0, 1) := by decide +kernel
theorem dX11_deliver_21 : decode cX11_deliver 21 = .ok (.getfield 56, 3) := by decide +kernel
theorem dX11_deliver_24 : decode cX11_deliver 24 = .ok (.iload_n 1, 1) := by decide +kernel
theorem dX11_deliver_25 : decode cX11_deliver 25 = .ok (.iaload, 1) := by decide +kernel
theorem dX11_deliver_26 : decode cX11_deliver 26 = .ok (.aload_n 0, 1) := by decide +kernel
theorem dX11_deliver_27 : decode cX11_deliver 27 = .ok (.getfield 53, 3) := by decide +kernel
theorem dX11_deliver_30 : decode cX11_deliver 30 = .ok (.iload_n 1, 1) := by decide +kernel
theorem dX11_deliver_31 : decode cX11_deliver 31 = .ok (.iaload, 1) := by decide +kernel
theorem dX11_deliver_32 : decode cX11_deliver 32 = .ok (.if_icmp .eq 7, 3) := by decide +kernel
theorem dX11_deliver_35 : decode cX11_deliver 35 = .ok (.iconst 1, 1) := by decide +kernel
theorem dX11_deliver_36 : decode cX11_deliver 36 = .ok (.goto 4, 3) := by decide +kernel
theorem dX11_deliver_39 : decode cX11_deliver 39 = .ok (.iconst 0, 1) := by decide +kernel
theorem dX11_deliver_40 : decode cX11_deliver 40 = .ok (.iconst 2, 1) := by decide +kernel
theorem dX11_deliver_41 : decode cX11_deliver 41 = .ok (.invokevirtual 140, 3) := by decide +kernel
theorem dX11_deliver_44 : decode cX11_deliver 44 = .ok (.ifCond .eq 5, 3) := by decide +kernel
theorem dX11_deliver_47 : decode cX11_deliver 47 = .ok (.iconst 0, 1) := by decide +kernel
theorem dX11_deliver_48 : decode cX11_deliver 48 = .ok (.ireturn, 1) := by decide +kernel
theorem dX11_deliver_49 : decode cX11_deliver 49 = .ok (.iload_n 2, 1) := by decide +kernel
theorem dX11_deliver_50 : decode cX11_deliver 50 = .ok (.ifCond .eq 32, 3) := by decide +kernel
theorem dX11_deliver_53 : decode cX11_deliver 53 = .ok (.aload_n 0, 1) := by decide +kernel
theorem dX11_deliver_54 : decode cX11_deliver 54 = .ok (.getfield 95, 3) := by decide +kernel
theorem dX11_deliver_57 : decode cX11_deliver 57 = .ok (.iload_n 1, 1) := by decide +kernel
theorem dX11_deliver_58 : decode cX11_deliver 58 = .ok (.bipush 100, 2) := by decide +kernel
theorem dX11_deliver_60 : decode cX11_deliver 60 = .ok (.castore, 1) := by decide +kernel
theorem dX11_deliver_61 : decode cX11_deliver 61 = .ok (.aload_n 0, 1) := by decide +kernel
theorem dX11_deliver_62 : decode cX11_deliver 62 = .ok (.getfield 89, 3) := by decide +kernel
theorem dX11_deliver_65 : decode cX11_deliver 65 = .ok (.iload_n 1, 1) := by decide +kernel
theorem dX11_deliver_66 : decode cX11_deliver 66 = .ok (.aload_n 0, 1) := by decide +kernel
theorem dX11_deliver_67 : decode cX11_deliver 67 = .ok (.getfield 150, 3) := by decide +kernel
theorem dX11_deliver_70 : decode cX11_deliver 70 = .ok (.iastore, 1) := by decide +kernel
theorem dX11_deliver_71 : decode cX11_deliver 71 = .ok (.aload_n 0, 1) := by decide +kernel
theorem dX11_deliver_72 : decode cX11_deliver 72 = .ok (.iload_n 1, 1) := by decide +kernel
theorem dX11_deliver_73 : decode cX11_deliver 73 = .ok (.bipush 100, 2) := by decide +kernel
theorem dX11_deliver_75 : decode cX11_deliver 75 = .ok (.iconst (-1), 1) := by decide +kernel
theorem dX11_deliver_76 : decode cX11_deliver 76 = .ok (.invokevirtual 188, 3) := by decide +kernel
theorem dX11_deliver_79 : decode cX11_deliver 79 = .ok (.bipush 100, 2) := by decide +kernel
theorem dX11_deliver_81 : decode cX11_deliver 81 = .ok (.ireturn, 1) := by decide +kernel
theorem dX11_deliver_82 : decode cX11_deliver 82 = .ok (.aload_n 0, 1) := by decide +kernel
theorem dX11_deliver_83 : decode cX11_deliver 83 = .ok (.getfield 80, 3) := by decide +kernel
theorem dX11_deliver_86 : decode cX11_deliver 86 = .ok (.iload_n 1, 1) := by decide +kernel
theorem dX11_deliver_87 : decode cX11_deliver 87 = .ok (.dup2, 1) := by decide +kernel
theorem dX11_deliver_88 : decode cX11_deliver 88 = .ok (.iaload, 1) := by decide +kernel
theorem dX11_deliver_89 : decode cX11_deliver 89 = .ok (.iconst 1, 1) := by decide +kernel
theorem dX11_deliver_90 : decode cX11_deliver 90 = .ok (.iadd, 1) := by decide +kernel
theorem dX11_deliver_91 : decode cX11_deliver 91 = .ok (.iastore, 1) := by decide +kernel
theorem dX11_deliver_92 : decode cX11_deliver 92 = .ok (.aload_n 0, 1) := by decide +kernel
theorem dX11_deliver_93 : decode cX11_deliver 93 = .ok (.iload_n 1, 1) := by decide +kernel
theorem dX11_deliver_94 : decode cX11_deliver 94 = .ok (.bipush 102, 2) := by decide +kernel
theorem dX11_deliver_96 : decode cX11_deliver 96 = .ok (.iconst (-1), 1) := by decide +kernel
theorem dX11_deliver_97 : decode cX11_deliver 97 = .ok (.invokevirtual 188, 3) := by decide +kernel
theorem dX11_deliver_100 : decode cX11_deliver 100 = .ok (.aload_n 0, 1) := by decide +kernel
theorem dX11_deliver_101 : decode cX11_deliver 101 = .ok (.getfield 80, 3) := by decide +kernel
theorem dX11_deliver_104 : decode cX11_deliver 104 = .ok (.iload_n 1, 1) := by decide +kernel
theorem dX11_deliver_105 : decode cX11_deliver 105 = .ok (.iaload, 1) := by decide +kernel
theorem dX11_deliver_106 : decode cX11_deliver 106 = .ok (.iconst 3, 1) := by decide +kernel
theorem dX11_deliver_107 : decode cX11_deliver 107 = .ok (.aload_n 0, 1) := by decide +kernel
theorem dX11_deliver_108 : decode cX11_deliver 108 = .ok (.getfield 47, 3) := by decide +kernel
theorem dX11_deliver_111 : decode cX11_deliver 111 = .ok (.iload_n 1, 1) := by decide +kernel
theorem dX11_deliver_112 : decode cX11_deliver 112 = .ok (.iaload, 1) := by decide +kernel
theorem dX11_deliver_113 : decode cX11_deliver 113 = .ok (.isub, 1) := by decide +kernel
theorem dX11_deliver_114 : decode cX11_deliver 114 = .ok (.if_icmp .ge 6, 3) := by decide +kernel
theorem dX11_deliver_117 : decode cX11_deliver 117 = .ok (.bipush 119, 2) := by decide +kernel
theorem dX11_deliver_119 : decode cX11_deliver 119 = .ok (.ireturn, 1) := by decide +kernel
theorem dX11_deliver_120 : decode cX11_deliver 120 = .ok (.aload_n 0, 1) := by decide +kernel
theorem dX11_deliver_121 : decode cX11_deliver 121 = .ok (.getfield 99, 3) := by decide +kernel
theorem dX11_deliver_124 : decode cX11_deliver 124 = .ok (.iload_n 1, 1) := by decide +kernel
theorem dX11_deliver_125 : decode cX11_deliver 125 = .ok (.baload, 1) := by decide +kernel
theorem dX11_deliver_126 : decode cX11_deliver 126 = .ok (.ifCond .eq 22, 3) := by decide +kernel
theorem dX11_deliver_129 : decode cX11_deliver 129 = .ok (.aload_n 0, 1) := by decide +kernel
theorem dX11_deliver_130 : decode cX11_deliver 130 = .ok (.getfield 95, 3) := by decide +kernel
theorem dX11_deliver_133 : decode cX11_deliver 133 = .ok (.iload_n 1, 1) := by decide +kernel
theorem dX11_deliver_134 : decode cX11_deliver 134 = .ok (.bipush 104, 2) := by decide +kernel
theorem dX11_deliver_136 : decode cX11_deliver 136 = .ok (.castore, 1) := by decide +kernel
theorem dX11_deliver_137 : decode cX11_deliver 137 = .ok (.aload_n 0, 1) := by decide +kernel
theorem dX11_deliver_138 : decode cX11_deliver 138 = .ok (.iload_n 1, 1) := by decide +kernel
theorem dX11_deliver_139 : decode cX11_deliver 139 = .ok (.bipush 104, 2) := by decide +kernel
theorem dX11_deliver_141 : decode cX11_deliver 141 = .ok (.iconst (-1), 1) := by decide +kernel
theorem dX11_deliver_142 : decode cX11_deliver 142 = .ok (.invokevirtual 188, 3) := by decide +kernel
theorem dX11_deliver_145 : decode cX11_deliver 145 = .ok (.bipush 104, 2) := by decide +kernel
theorem dX11_deliver_147 : decode cX11_deliver 147 = .ok (.ireturn, 1) := by decide +kernel
theorem dX11_deliver_148 : decode cX11_deliver 148 = .ok (.aload_n 0, 1) := by decide +kernel
theorem dX11_deliver_149 : decode cX11_deliver 149 = .ok (.iload_n 1, 1) := by decide +kernel
theorem dX11_deliver_150 : decode cX11_deliver 150 = .ok (.invokevirtual 219, 3) := by decide +kernel
theorem dX11_deliver_153 : decode cX11_deliver 153 = .ok (.bipush 114, 2) := by decide +kernel
theorem dX11_deliver_155 : decode cX11_deliver 155 = .ok (.ireturn, 1) := by decide +kernel
theorem dX11_recall_0 : decode cX11_recall 0 = .ok (.aload_n 0, 1) := by decide +kernel
theorem dX11_recall_1 : decode cX11_recall 1 = .ok (.iload_n 1, 1) := by decide +kernel
theorem dX11_recall_2 : decode cX11_recall 2 = .ok (.invokevirtual 216, 3) := by decide +kernel
theorem dX11_recall_5 : decode cX11_recall 5 = .ok (.ifCond .ne 36, 3) := by decide +kernel
theorem dX11_recall_8 : decode cX11_recall 8 = .ok (.aload_n 0, 1) := by decide +kernel
theorem dX11_recall_9 : decode cX11_recall 9 = .ok (.aload_n 0, 1) := by decide +kernel
theorem dX11_recall_10 : decode cX11_recall 10 = .ok (.getfield 99, 3) := by decide +kernel
theorem dX11_recall_13 : decode cX11_recall 13 = .ok (.iload_n 1, 1) := by decide +kernel
theorem dX11_recall_14 : decode cX11_recall 14 = .ok (.baload, 1) := by decide +kernel
theorem dX11_recall_15 : decode cX11_recall 15 = .ok (.ifCond .ne 14, 3) := by decide +kernel
theorem dX11_recall_18 : decode cX11_recall 18 = .ok (.aload_n 0, 1) := by decide +kernel
theorem dX11_recall_19 : decode cX11_recall 19 = .ok (.getfield 95, 3) := by decide +kernel
theorem dX11_recall_22 : decode cX11_recall 22 = .ok (.iload_n 1, 1) := by decide +kernel
theorem dX11_recall_23 : decode cX11_recall 23 = .ok (.caload, 1) := by decide +kernel
theorem dX11_recall_24 : decode cX11_recall 24 = .ok (.bipush 115, 2) := by decide +kernel
theorem dX11_recall_26 : decode cX11_recall 26 = .ok (.if_icmp .eq 7, 3) := by decide +kernel
theorem dX11_recall_29 : decode cX11_recall 29 = .ok (.iconst 1, 1) := by decide +kernel
theorem dX11_recall_30 : decode cX11_recall 30 = .ok (.goto 4, 3) := by decide +kernel
theorem dX11_recall_33 : decode cX11_recall 33 = .ok (.iconst 0, 1) := by decide +kernel
theorem dX11_recall_34 : decode cX11_recall 34 = .ok (.iconst 2, 1) := by decide +kernel
theorem dX11_recall_35 : decode cX11_recall 35 = .ok (.invokevirtual 140, 3) := by decide +kernel
theorem dX11_recall_38 : decode cX11_recall 38 = .ok (.ifCond .eq 5, 3) := by decide +kernel
theorem dX11_recall_41 : decode cX11_recall 41 = .ok (.iconst 0, 1) := by decide +kernel
theorem dX11_recall_42 : decode cX11_recall 42 = .ok (.ireturn, 1) := by decide +kernel
theorem dX11_recall_43 : decode cX11_recall 43 = .ok (.aload_n 0, 1) := by decide +kernel
theorem dX11_recall_44 : decode cX11_recall 44 = .ok (.iload_n 1, 1) := by decide +kernel
theorem dX11_recall_45 : decode cX11_recall 45 = .ok (.invokevirtual 219, 3) := by decide +kernel
theorem dX11_recall_48 : decode cX11_recall 48 = .ok (.aload_n 0, 1) := by decide +kernel
theorem dX11_recall_49 : decode cX11_recall 49 = .ok (.getfield 71, 3) := by decide +kernel
theorem dX11_recall_52 : decode cX11_recall 52 = .ok (.iload_n 1, 1) := by decide +kernel
theorem dX11_recall_53 : decode cX11_recall 53 = .ok (.iaload, 1) := by decide +kernel
theorem dX11_recall_54 : decode cX11_recall 54 = .ok (.ireturn, 1) := by decide +kernel
theorem dX11_arrives_0 : decode cX11_arrives 0 = .ok (.iconst 0, 1) := by decide +kernel
theorem dX11_arrives_1 : decode cX11_arrives 1 = .ok (.istore_n 1, 1) := by decide +kernel
theorem dX11_arrives_2 : decode cX11_arrives 2 = .ok (.iconst 0, 1) := by decide +kernel
theorem dX11_arrives_3 : decode cX11_arrives 3 = .ok (.istore_n 2, 1) := by decide +kernel
theorem dX11_arrives_4 : decode cX11_arrives 4 = .ok (.iload_n 2, 1) := by decide +kernel
theorem dX11_arrives_5 : decode cX11_arrives 5 = .ok (.aload_n 0, 1) := by decide +kernel
theorem dX11_arrives_6 : decode cX11_arrives 6 = .ok (.getfield 144, 3) := by decide +kernel
theorem dX11_arrives_9 : decode cX11_arrives 9 = .ok (.if_icmp .ge 74, 3) := by decide +kernel
theorem dX11_arrives_12 : decode cX11_arrives 12 = .ok (.aload_n 0, 1) := by decide +kernel
theorem dX11_arrives_13 : decode cX11_arrives 13 = .ok (.getfield 95, 3) := by decide +kernel
theorem dX11_arrives_16 : decode cX11_arrives 16 = .ok (.iload_n 2, 1) := by decide +kernel
theorem dX11_arrives_17 : decode cX11_arrives 17 = .ok (.caload, 1) := by decide +kernel
theorem dX11_arrives_18 : decode cX11_arrives 18 = .ok (.bipush 116, 2) := by decide +kernel
theorem dX11_arrives_20 : decode cX11_arrives 20 = .ok (.if_icmp .ne 57, 3) := by decide +kernel
theorem dX11_arrives_23 : decode cX11_arrives 23 = .ok (.aload_n 0, 1) := by decide +kernel
theorem dX11_arrives_24 : decode cX11_arrives 24 = .ok (.getfield 62, 3) := by decide +kernel
theorem dX11_arrives_27 : decode cX11_arrives 27 = .ok (.iload_n 2, 1) := by decide +kernel
theorem dX11_arrives_28 : decode cX11_arrives 28 = .ok (.iaload, 1) := by decide +kernel
theorem dX11_arrives_29 : decode cX11_arrives 29 = .ok (.aload_n 0, 1) := by decide +kernel
theorem dX11_arrives_30 : decode cX11_arrives 30 = .ok (.getfield 150, 3) := by decide +kernel
theorem dX11_arrives_33 : decode cX11_arrives 33 = .ok (.if_icmp .ne 44, 3) := by decide +kernel
theorem dX11_arrives_36 : decode cX11_arrives 36 = .ok (.aload_n 0, 1) := by decide +kernel
theorem dX11_arrives_37 : decode cX11_arrives 37 = .ok (.getfield 95, 3) := by decide +kernel
theorem dX11_arrives_40 : decode cX11_arrives 40 = .ok (.iload_n 2, 1) := by decide +kernel
theorem dX11_arrives_41 : decode cX11_arrives 41 = .ok (.bipush 117, 2) := by decide +kernel
theorem dX11_arrives_43 : decode cX11_arrives 43 = .ok (.castore, 1) := by decide +kernel
theorem dX11_arrives_44 : decode cX11_arrives 44 = .ok (.aload_n 0, 1) := by decide +kernel
theorem dX11_arrives_45 : decode cX11_arrives 45 = .ok (.getfield 56, 3) := by decide +kernel
theorem dX11_arrives_48 : decode cX11_arrives 48 = .ok (.iload_n 2, 1) := by decide +kernel
theorem dX11_arrives_49 : decode cX11_arrives 49 = .ok (.aload_n 0, 1) := by decide +kernel
theorem dX11_arrives_50 : decode cX11_arrives 50 = .ok (.getfield 19, 3) := by decide +kernel
theorem dX11_arrives_53 : decode cX11_arrives 53 = .ok (.aload_n 0, 1) := by decide +kernel
theorem dX11_arrives_54 : decode cX11_arrives 54 = .ok (.getfield 59, 3) := by decide +kernel
theorem dX11_arrives_57 : decode cX11_arrives 57 = .ok (.iload_n 2, 1) := by decide +kernel
theorem dX11_arrives_58 : decode cX11_arrives 58 = .ok (.iaload, 1) := by decide +kernel
theorem dX11_arrives_59 : decode cX11_arrives 59 = .ok (.iaload, 1) := by decide +kernel
theorem dX11_arrives_60 : decode cX11_arrives 60 = .ok (.iastore, 1) := by decide +kernel
theorem dX11_arrives_61 : decode cX11_arrives 61 = .ok (.aload_n 0, 1) := by decide +kernel
theorem dX11_arrives_62 : decode cX11_arrives 62 = .ok (.iload_n 2, 1) := by decide +kernel
theorem dX11_arrives_63 : decode cX11_arrives 63 = .ok (.bipush 117, 2) := by decide +kernel
theorem dX11_arrives_65 : decode cX11_arrives 65 = .ok (.aload_n 0, 1) := by decide +kernel
theorem dX11_arrives_66 : decode cX11_arrives 66 = .ok (.getfield 59, 3) := by decide +kernel
theorem dX11_arrives_69 : decode cX11_arrives 69 = .ok (.iload_n 2, 1) := by decide +kernel
theorem dX11_arrives_70 : decode cX11_arrives 70 = .ok (.iaload, 1) := by decide +kernel
theorem dX11_arrives_71 : decode cX11_arrives 71 = .ok (.invokevirtual 188, 3) := by decide +kernel
theorem dX11_arrives_74 : decode cX11_arrives 74 = .ok (.iinc 1 1, 3) := by decide +kernel
theorem dX11_arrives_77 : decode cX11_arrives 77 = .ok (.iinc 2 1, 3) := by decide +kernel
theorem dX11_arrives_80 : decode cX11_arrives 80 = .ok (.goto (-76), 3) := by decide +kernel
theorem dX11_arrives_83 : decode cX11_arrives 83 = .ok (.iload_n 1, 1) := by decide +kernel
theorem dX11_arrives_84 : decode cX11_arrives 84 = .ok (.ireturn, 1) := by decide +kernel
theorem dX11_isAhead_0 : decode cX11_isAhead 0 = .ok (.aload_n 0, 1) := by decide +kernel
theorem dX11_isAhead_1 : decode cX11_isAhead 1 = .ok (.getfield 47, 3) := by decide +kernel
theorem dX11_isAhead_4 : decode cX11_isAhead 4 = .ok (.iload_n 1, 1) := by decide +kernel
theorem dX11_isAhead_5 : decode cX11_isAhead 5 = .ok (.iaload, 1) := by decide +kernel
theorem dX11_isAhead_6 : decode cX11_isAhead 6 = .ok (.aload_n 0, 1) := by decide +kernel
theorem dX11_isAhead_7 : decode cX11_isAhead 7 = .ok (.getfield 47, 3) := by decide +kernel
theorem dX11_isAhead_10 : decode cX11_isAhead 10 = .ok (.iload_n 2, 1) := by decide +kernel
theorem dX11_isAhead_11 : decode cX11_isAhead 11 = .ok (.iaload, 1) := by decide +kernel
theorem dX11_isAhead_12 : decode cX11_isAhead 12 = .ok (.if_icmp .eq 24, 3) := by decide +kernel
theorem dX11_isAhead_15 : decode cX11_isAhead 15 = .ok (.aload_n 0, 1) := by decide +kernel
theorem dX11_isAhead_16 : decode cX11_isAhead 16 = .ok (.getfield 47, 3) := by decide +kernel
theorem dX11_isAhead_19 : decode cX11_isAhead 19 = .ok (.iload_n 1, 1) := by decide +kernel
theorem dX11_isAhead_20 : decode cX11_isAhead 20 = .ok (.iaload, 1) := by decide +kernel
theorem dX11_isAhead_21 : decode cX11_isAhead 21 = .ok (.aload_n 0, 1) := by decide +kernel
theorem dX11_isAhead_22 : decode cX11_isAhead 22 = .ok (.getfield 47, 3) := by decide +kernel
theorem dX11_isAhead_25 : decode cX11_isAhead 25 = .ok (.iload_n 2, 1) := by decide +kernel
theorem dX11_isAhead_26 : decode cX11_isAhead 26 = .ok (.iaload, 1) := by decide +kernel
theorem dX11_isAhead_27 : decode cX11_isAhead 27 = .ok (.if_icmp .ge 7, 3) := by decide +kernel
theorem dX11_isAhead_30 : decode cX11_isAhead 30 = .ok (.iconst 1, 1) := by decide +kernel
theorem dX11_isAhead_31 : decode cX11_isAhead 31 = .ok (.goto 4, 3) := by decide +kernel
theorem dX11_isAhead_34 : decode cX11_isAhead 34 = .ok (.iconst 0, 1) := by decide +kernel
theorem dX11_isAhead_35 : decode cX11_isAhead 35 = .ok (.ireturn, 1) := by decide +kernel
theorem dX11_isAhead_36 : decode cX11_isAhead 36 = .ok (.aload_n 0, 1) := by decide +kernel
theorem dX11_isAhead_37 : decode cX11_isAhead 37 = .ok (.getfield 71, 3) := by decide +kernel
theorem dX11_isAhead_40 : decode cX11_isAhead 40 = .ok (.iload_n 1, 1) := by decide +kernel
theorem dX11_isAhead_41 : decode cX11_isAhead 41 = .ok (.iaload, 1) := by decide +kernel
theorem dX11_isAhead_42 : decode cX11_isAhead 42 = .ok (.aload_n 0, 1) := by decide +kernel
theorem dX11_isAhead_43 : decode cX11_isAhead 43 = .ok (.getfield 71, 3) := by decide +kernel
theorem dX11_isAhead_46 : decode cX11_isAhead 46 = .ok (.iload_n 2, 1) := by decide +kernel
theorem dX11_isAhead_47 : decode cX11_isAhead 47 = .ok (.iaload, 1) := by decide +kernel
theorem dX11_isAhead_48 : decode cX11_isAhead 48 = .ok (.if_icmp .eq 42, 3) := by decide +kernel
theorem dX11_isAhead_51 : decode cX11_isAhead 51 = .ok (.aload_n 0, 1) := by decide +kernel
theorem dX11_isAhead_52 : decode cX11_isAhead 52 = .ok (.getfield 71, 3) := by decide +kernel
theorem dX11_isAhead_55 : decode cX11_isAhead 55 = .ok (.iload_n 2, 1) := by decide +kernel
theorem dX11_isAhead_56 : decode cX11_isAhead 56 = .ok (.iaload, 1) := by decide +kernel
theorem dX11_isAhead_57 : decode cX11_isAhead 57 = .ok (.ifCond .lt 27, 3) := by decide +kernel
theorem dX11_isAhead_60 : decode cX11_isAhead 60 = .ok (.aload_n 0, 1) := by decide +kernel
theorem dX11_isAhead_61 : decode cX11_isAhead 61 = .ok (.getfield 71, 3) := by decide +kernel
theorem dX11_isAhead_64 : decode cX11_isAhead 64 = .ok (.iload_n 1, 1) := by decide +kernel
theorem dX11_isAhead_65 : decode cX11_isAhead 65 = .ok (.iaload, 1) := by decide +kernel
theorem dX11_isAhead_66 : decode cX11_isAhead 66 = .ok (.ifCond .lt 22, 3) := by decide +kernel
theorem dX11_isAhead_69 : decode cX11_isAhead 69 = .ok (.aload_n 0, 1) := by decide +kernel
theorem dX11_isAhead_70 : decode cX11_isAhead 70 = .ok (.getfield 71, 3) := by decide +kernel
theorem dX11_isAhead_73 : decode cX11_isAhead 73 = .ok (.iload_n 1, 1) := by decide +kernel
theorem dX11_isAhead_74 : decode cX11_isAhead 74 = .ok (.iaload, 1) := by decide +kernel
theorem dX11_isAhead_75 : decode cX11_isAhead 75 = .ok (.aload_n 0, 1) := by decide +kernel
theorem dX11_isAhead_76 : decode cX11_isAhead 76 = .ok (.getfield 71, 3) := by decide +kernel
theorem dX11_isAhead_79 : decode cX11_isAhead 79 = .ok (.iload_n 2, 1) := by decide +kernel
theorem dX11_isAhead_80 : decode cX11_isAhead 80 = .ok (.iaload, 1) := by decide +kernel
theorem dX11_isAhead_81 : decode cX11_isAhead 81 = .ok (.if_icmp .ge 7, 3) := by decide +kernel
theorem dX11_isAhead_84 : decode cX11_isAhead 84 = .ok (.iconst 1, 1) := by decide +kernel
theorem dX11_isAhead_85 : decode cX11_isAhead 85 = .ok (.goto 4, 3) := by decide +kernel
theorem dX11_isAhead_88 : decode cX11_isAhead 88 = .ok (.iconst 0, 1) := by decide +kernel
theorem dX11_isAhead_89 : decode cX11_isAhead 89 = .ok (.ireturn, 1) := by decide +kernel
theorem dX11_isAhead_90 : decode cX11_isAhead 90 = .ok (.iload_n 1, 1) := by decide +kernel
theorem dX11_isAhead_91 : decode cX11_isAhead 91 = .ok (.iload_n 2, 1) := by decide +kernel
theorem dX11_isAhead_92 : decode cX11_isAhead 92 = .ok (.if_icmp .ge 7, 3) := by decide +kernel
theorem dX11_isAhead_95 : decode cX11_isAhead 95 = .ok (.iconst 1, 1) := by decide +kernel
theorem dX11_isAhead_96 : decode cX11_isAhead 96 = .ok (.goto 4, 3) := by decide +kernel
theorem dX11_isAhead_99 : decode cX11_isAhead 99 = .ok (.iconst 0, 1) := by decide +kernel
theorem dX11_isAhead_100 : decode cX11_isAhead 100 = .ok (.ireturn, 1) := by decide +kernel
theorem dX11_lines_0 : decode cX11_lines 0 = .ok (.iconst 0, 1) := by decide +kernel
theorem dX11_lines_1 : decode cX11_lines 1 = .ok (.istore_n 2, 1) := by decide +kernel
theorem dX11_lines_2 : decode cX11_lines 2 = .ok (.iconst 0, 1) := by decide +kernel
theorem dX11_lines_3 : decode cX11_lines 3 = .ok (.istore_n 3, 1) := by decide +kernel
theorem dX11_lines_4 : decode cX11_lines 4 = .ok (.iload_n 3, 1) := by decide +kernel
theorem dX11_lines_5 : decode cX11_lines 5 = .ok (.aload_n 0, 1) := by decide +kernel
theorem dX11_lines_6 : decode cX11_lines 6 = .ok (.getfield 144, 3) := by decide +kernel
theorem dX11_lines_9 : decode cX11_lines 9 = .ok (.if_icmp .ge 88, 3) := by decide +kernel
theorem dX11_lines_12 : decode cX11_lines 12 = .ok (.aload_n 0, 1) := by decide +kernel
theorem dX11_lines_13 : decode cX11_lines 13 = .ok (.getfield 95, 3) := by decide +kernel
theorem dX11_lines_16 : decode cX11_lines 16 = .ok (.iload_n 3, 1) := by decide +kernel
theorem dX11_lines_17 : decode cX11_lines 17 = .ok (.caload, 1) := by decide +kernel
theorem dX11_lines_18 : decode cX11_lines 18 = .ok (.bipush 115, 2) := by decide +kernel
theorem dX11_lines_20 : decode cX11_lines 20 = .ok (.if_icmp .ne 71, 3) := by decide +kernel
theorem dX11_lines_23 : decode cX11_lines 23 = .ok (.aload_n 0, 1) := by decide +kernel
theorem dX11_lines_24 : decode cX11_lines 24 = .ok (.getfield 68, 3) := by decide +kernel
theorem dX11_lines_27 : decode cX11_lines 27 = .ok (.iload_n 3, 1) := by decide +kernel
theorem dX11_lines_28 : decode cX11_lines 28 = .ok (.iaload, 1) := by decide +kernel
theorem dX11_lines_29 : decode cX11_lines 29 = .ok (.iload_n 1, 1) := by decide +kernel
theorem dX11_lines_30 : decode cX11_lines 30 = .ok (.if_icmp .ne 61, 3) := by decide +kernel
theorem dX11_lines_33 : decode cX11_lines 33 = .ok (.iload_n 2, 1) := by decide +kernel
theorem dX11_lines_34 : decode cX11_lines 34 = .ok (.istore 4, 2) := by decide +kernel
theorem dX11_lines_36 : decode cX11_lines 36 = .ok (.iload 4, 2) := by decide +kernel
theorem dX11_lines_38 : decode cX11_lines 38 = .ok (.ifCond .le 42, 3) := by decide +kernel
theorem dX11_lines_41 : decode cX11_lines 41 = .ok (.aload_n 0, 1) := by decide +kernel
theorem dX11_lines_42 : decode cX11_lines 42 = .ok (.iload_n 3, 1) := by decide +kernel
theorem dX11_lines_43 : decode cX11_lines 43 = .ok (.aload_n 0, 1) := by decide +kernel
theorem dX11_lines_44 : decode cX11_lines 44 = .ok (.getfield 120, 3) := by decide +kernel
theorem dX11_lines_47 : decode cX11_lines 47 = .ok (.iload 4, 2) := by decide +kernel
theorem dX11_lines_49 : decode cX11_lines 49 = .ok (.iconst 1, 1) := by decide +kernel
theorem dX11_lines_50 : decode cX11_lines 50 = .ok (.isub, 1) := by decide +kernel
theorem dX11_lines_51 : decode cX11_lines 51 = .ok (.iaload, 1) := by decide +kernel
theorem dX11_lines_52 : decode cX11_lines 52 = .ok (.invokevirtual 222, 3) := by decide +kernel
theorem dX11_lines_55 : decode cX11_lines 55 = .ok (.ifCond .eq 25, 3) := by decide +kernel
theorem dX11_lines_58 : decode cX11_lines 58 = .ok (.aload_n 0, 1) := by decide +kernel
theorem dX11_lines_59 : decode cX11_lines 59 = .ok (.getfield 120, 3) := by decide +kernel
theorem dX11_lines_62 : decode cX11_lines 62 = .ok (.iload 4, 2) := by decide +kernel
theorem dX11_lines_64 : decode cX11_lines 64 = .ok (.aload_n 0, 1) := by decide +kernel
theorem dX11_lines_65 : decode cX11_lines 65 = .ok (.getfield 120, 3) := by decide +kernel
theorem dX11_lines_68 : decode cX11_lines 68 = .ok (.iload 4, 2) := by decide +kernel
theorem dX11_lines_70 : decode cX11_lines 70 = .ok (.iconst 1, 1) := by decide +kernel
theorem dX11_lines_71 : decode cX11_lines 71 = .ok (.isub, 1) := by decide +kernel
theorem dX11_lines_72 : decode cX11_lines 72 = .ok (.iaload, 1) := by decide +kernel
theorem dX11_lines_73 : decode cX11_lines 73 = .ok (.iastore, 1) := by decide +kernel
theorem dX11_lines_74 : decode cX11_lines 74 = .ok (.iinc 4 (-1), 3) := by decide +kernel
theorem dX11_lines_77 : decode cX11_lines 77 = .ok (.goto (-41), 3) := by decide +kernel
theorem dX11_lines_80 : decode cX11_lines 80 = .ok (.aload_n 0, 1) := by decide +kernel
theorem dX11_lines_81 : decode cX11_lines 81 = .ok (.getfield 120, 3) := by decide +kernel
theorem dX11_lines_84 : decode cX11_lines 84 = .ok (.iload 4, 2) := by decide +kernel
theorem dX11_lines_86 : decode cX11_lines 86 = .ok (.iload_n 3, 1) := by decide +kernel
theorem dX11_lines_87 : decode cX11_lines 87 = .ok (.iastore, 1) := by decide +kernel
theorem dX11_lines_88 : decode cX11_lines 88 = .ok (.iinc 2 1, 3) := by decide +kernel
theorem dX11_lines_91 : decode cX11_lines 91 = .ok (.iinc 3 1, 3) := by decide +kernel
theorem dX11_lines_94 : decode cX11_lines 94 = .ok (.goto (-90), 3) := by decide +kernel
theorem dX11_lines_97 : decode cX11_lines 97 = .ok (.iload_n 2, 1) := by decide +kernel
theorem dX11_lines_98 : decode cX11_lines 98 = .ok (.ireturn, 1) := by decide +kernel
theorem dX11_isPut_0 : decode cX11_isPut 0 = .ok (.iconst 0, 1) := by decide +kernel
theorem dX11_isPut_1 : decode cX11_isPut 1 = .ok (.istore_n 3, 1) := by decide +kernel
theorem dX11_isPut_2 : decode cX11_isPut 2 = .ok (.iload_n 3, 1) := by decide +kernel
theorem dX11_isPut_3 : decode cX11_isPut 3 = .ok (.aload_n 0, 1) := by decide +kernel
theorem dX11_isPut_4 : decode cX11_isPut 4 = .ok (.getfield 226, 3) := by decide +kernel
theorem dX11_isPut_7 : decode cX11_isPut 7 = .ok (.if_icmp .ge 42, 3) := by decide +kernel
theorem dX11_isPut_10 : decode cX11_isPut 10 = .ok (.aload_n 0, 1) := by decide +kernel
theorem dX11_isPut_11 : decode cX11_isPut 11 = .ok (.getfield 114, 3) := by decide +kernel
theorem dX11_isPut_14 : decode cX11_isPut 14 = .ok (.iload_n 3, 1) := by decide +kernel
theorem dX11_isPut_15 : decode cX11_isPut 15 = .ok (.iaload, 1) := by decide +kernel
theorem dX11_isPut_16 : decode cX11_isPut 16 = .ok (.aload_n 0, 1) := by decide +kernel
theorem dX11_isPut_17 : decode cX11_isPut 17 = .ok (.getfield 53, 3) := by decide +kernel
theorem dX11_isPut_20 : decode cX11_isPut 20 = .ok (.iload_n 1, 1) := by decide +kernel
theorem dX11_isPut_21 : decode cX11_isPut 21 = .ok (.iaload, 1) := by decide +kernel
theorem dX11_isPut_22 : decode cX11_isPut 22 = .ok (.if_icmp .ne 21, 3) := by decide +kernel
theorem dX11_isPut_25 : decode cX11_isPut 25 = .ok (.aload_n 0, 1) := by decide +kernel
theorem dX11_isPut_26 : decode cX11_isPut 26 = .ok (.getfield 117, 3) := by decide +kernel
theorem dX11_isPut_29 : decode cX11_isPut 29 = .ok (.iload_n 3, 1) := by decide +kernel
theorem dX11_isPut_30 : decode cX11_isPut 30 = .ok (.iaload, 1) := by decide +kernel
theorem dX11_isPut_31 : decode cX11_isPut 31 = .ok (.aload_n 0, 1) := by decide +kernel
theorem dX11_isPut_32 : decode cX11_isPut 32 = .ok (.getfield 44, 3) := by decide +kernel
theorem dX11_isPut_35 : decode cX11_isPut 35 = .ok (.iload_n 1, 1) := by decide +kernel
theorem dX11_isPut_36 : decode cX11_isPut 36 = .ok (.iaload, 1) := by decide +kernel
theorem dX11_isPut_37 : decode cX11_isPut 37 = .ok (.iadd, 1) := by decide +kernel
theorem dX11_isPut_38 : decode cX11_isPut 38 = .ok (.bipush 12, 2) := by decide +kernel
theorem dX11_isPut_40 : decode cX11_isPut 40 = .ok (.if_icmp .le 9, 3) := by decide +kernel
theorem dX11_isPut_43 : decode cX11_isPut 43 = .ok (.iinc 3 1, 3) := by decide +kernel
theorem dX11_isPut_46 : decode cX11_isPut 46 = .ok (.goto (-44), 3) := by decide +kernel
theorem dX11_isPut_49 : decode cX11_isPut 49 = .ok (.iload_n 3, 1) := by decide +kernel
theorem dX11_isPut_50 : decode cX11_isPut 50 = .ok (.aload_n 0, 1) := by decide +kernel
theorem dX11_isPut_51 : decode cX11_isPut 51 = .ok (.getfield 226, 3) := by decide +kernel
theorem dX11_isPut_54 : decode cX11_isPut 54 = .ok (.if_icmp .ne 42, 3) := by decide +kernel
theorem dX11_isPut_57 : decode cX11_isPut 57 = .ok (.aload_n 0, 1) := by decide +kernel
theorem dX11_isPut_58 : decode cX11_isPut 58 = .ok (.getfield 226, 3) := by decide +kernel
theorem dX11_isPut_61 : decode cX11_isPut 61 = .ok (.iload_n 2, 1) := by decide +kernel
theorem dX11_isPut_62 : decode cX11_isPut 62 = .ok (.if_icmp .ne 5, 3) := by decide +kernel
theorem dX11_isPut_65 : decode cX11_isPut 65 = .ok (.iconst 0, 1) := by decide +kernel
theorem dX11_isPut_66 : decode cX11_isPut 66 = .ok (.ireturn, 1) := by decide +kernel
theorem dX11_isPut_67 : decode cX11_isPut 67 = .ok (.aload_n 0, 1) := by decide +kernel
theorem dX11_isPut_68 : decode cX11_isPut 68 = .ok (.getfield 114, 3) := by decide +kernel
theorem dX11_isPut_71 : decode cX11_isPut 71 = .ok (.iload_n 3, 1) := by decide +kernel
theorem dX11_isPut_72 : decode cX11_isPut 72 = .ok (.aload_n 0, 1) := by decide +kernel
theorem dX11_isPut_73 : decode cX11_isPut 73 = .ok (.getfield 53, 3) := by decide +kernel
theorem dX11_isPut_76 : decode cX11_isPut 76 = .ok (.iload_n 1, 1) := by decide +kernel
theorem dX11_isPut_77 : decode cX11_isPut 77 = .ok (.iaload, 1) := by decide +kernel
theorem dX11_isPut_78 : decode cX11_isPut 78 = .ok (.iastore, 1) := by decide +kernel
theorem dX11_isPut_79 : decode cX11_isPut 79 = .ok (.aload_n 0, 1) := by decide +kernel
theorem dX11_isPut_80 : decode cX11_isPut 80 = .ok (.getfield 117, 3) := by decide +kernel
theorem dX11_isPut_83 : decode cX11_isPut 83 = .ok (.iload_n 3, 1) := by decide +kernel
theorem dX11_isPut_84 : decode cX11_isPut 84 = .ok (.iconst 0, 1) := by decide +kernel
theorem dX11_isPut_85 : decode cX11_isPut 85 = .ok (.iastore, 1) := by decide +kernel
theorem dX11_isPut_86 : decode cX11_isPut 86 = .ok (.aload_n 0, 1) := by decide +kernel
theorem dX11_isPut_87 : decode cX11_isPut 87 = .ok (.dup, 1) := by decide +kernel
theorem dX11_isPut_88 : decode cX11_isPut 88 = .ok (.getfield 226, 3) := by decide +kernel
theorem dX11_isPut_91 : decode cX11_isPut 91 = .ok (.iconst 1, 1) := by decide +kernel
theorem dX11_isPut_92 : decode cX11_isPut 92 = .ok (.iadd, 1) := by decide +kernel
theorem dX11_isPut_93 : decode cX11_isPut 93 = .ok (.putfield 226, 3) := by decide +kernel
theorem dX11_isPut_96 : decode cX11_isPut 96 = .ok (.aload_n 0, 1) := by decide +kernel
theorem dX11_isPut_97 : decode cX11_isPut 97 = .ok (.getfield 117, 3) := by decide +kernel
theorem dX11_isPut_100 : decode cX11_isPut 100 = .ok (.iload_n 3, 1) := by decide +kernel
theorem dX11_isPut_101 : decode cX11_isPut 101 = .ok (.dup2, 1) := by decide +kernel
theorem dX11_isPut_102 : decode cX11_isPut 102 = .ok (.iaload, 1) := by decide +kernel
theorem dX11_isPut_103 : decode cX11_isPut 103 = .ok (.aload_n 0, 1) := by decide +kernel
theorem dX11_isPut_104 : decode cX11_isPut 104 = .ok (.getfield 44, 3) := by decide +kernel
theorem dX11_isPut_107 : decode cX11_isPut 107 = .ok (.iload_n 1, 1) := by decide +kernel
theorem dX11_isPut_108 : decode cX11_isPut 108 = .ok (.iaload, 1) := by decide +kernel
theorem dX11_isPut_109 : decode cX11_isPut 109 = .ok (.iadd, 1) := by decide +kernel
theorem dX11_isPut_110 : decode cX11_isPut 110 = .ok (.iastore, 1) := by decide +kernel
theorem dX11_isPut_111 : decode cX11_isPut 111 = .ok (.iconst 1, 1) := by decide +kernel
theorem dX11_isPut_112 : decode cX11_isPut 112 = .ok (.ireturn, 1) := by decide +kernel
theorem dX11_loads_0 : decode cX11_loads 0 = .ok (.aload_n 0, 1) := by decide +kernel
theorem dX11_loads_1 : decode cX11_loads 1 = .ok (.iload_n 1, 1) := by decide +kernel
theorem dX11_loads_2 : decode cX11_loads 2 = .ok (.invokevirtual 229, 3) := by decide +kernel
theorem dX11_loads_5 : decode cX11_loads 5 = .ok (.istore_n 2, 1) := by decide +kernel
theorem dX11_loads_6 : decode cX11_loads 6 = .ok (.aload_n 0, 1) := by decide +kernel
theorem dX11_loads_7 : decode cX11_loads 7 = .ok (.iconst 0, 1) := by decide +kernel
theorem dX11_loads_8 : decode cX11_loads 8 = .ok (.putfield 226, 3) := by decide +kernel
theorem dX11_loads_11 : decode cX11_loads 11 = .ok (.iconst 0, 1) := by decide +kernel
theorem dX11_loads_12 : decode cX11_loads 12 = .ok (.istore_n 3, 1) := by decide +kernel
theorem dX11_loads_13 : decode cX11_loads 13 = .ok (.iload_n 3, 1) := by decide +kernel
theorem dX11_loads_14 : decode cX11_loads 14 = .ok (.iload_n 2, 1) := by decide +kernel
theorem dX11_loads_15 : decode cX11_loads 15 = .ok (.if_icmp .ge 124, 3) := by decide +kernel
theorem dX11_loads_18 : decode cX11_loads 18 = .ok (.aload_n 0, 1) := by decide +kernel
theorem dX11_loads_19 : decode cX11_loads 19 = .ok (.getfield 120, 3) := by decide +kernel
theorem dX11_loads_22 : decode cX11_loads 22 = .ok (.iload_n 3, 1) := by decide +kernel
theorem dX11_loads_23 : decode cX11_loads 23 = .ok (.iaload, 1) := by decide +kernel
theorem dX11_loads_24 : decode cX11_loads 24 = .ok (.istore 4, 2) := by decide +kernel
theorem dX11_loads_26 : decode cX11_loads 26 = .ok (.aload_n 0, 1) := by decide +kernel
theorem dX11_loads_27 : decode cX11_loads 27 = .ok (.getfield 150, 3) := by decide +kernel
theorem dX11_loads_30 : decode cX11_loads 30 = .ok (.aload_n 0, 1) := by decide +kernel
theorem dX11_loads_31 : decode cX11_loads 31 = .ok (.getfield 65, 3) := by decide +kernel
theorem dX11_loads_34 : decode cX11_loads 34 = .ok (.iload 4, 2) := by decide +kernel
theorem dX11_loads_36 : decode cX11_loads 36 = .ok (.iaload, 1) := by decide +kernel
theorem dX11_loads_37 : decode cX11_loads 37 = .ok (.isub, 1) := by decide +kernel
theorem dX11_loads_38 : decode cX11_loads 38 = .ok (.aload_n 0, 1) := by decide +kernel
theorem dX11_loads_39 : decode cX11_loads 39 = .ok (.getfield 13, 3) := by decide +kernel
theorem dX11_loads_42 : decode cX11_loads 42 = .ok (.aload_n 0, 1) := by decide +kernel
theorem dX11_loads_43 : decode cX11_loads 43 = .ok (.getfield 16, 3) := by decide +kernel
theorem dX11_loads_46 : decode cX11_loads 46 = .ok (.iload_n 1, 1) := by decide +kernel
theorem dX11_loads_47 : decode cX11_loads 47 = .ok (.iaload, 1) := by decide +kernel
theorem dX11_loads_48 : decode cX11_loads 48 = .ok (.iaload, 1) := by decide +kernel
theorem dX11_loads_49 : decode cX11_loads 49 = .ok (.if_icmp .lt 84, 3) := by decide +kernel
theorem dX11_loads_52 : decode cX11_loads 52 = .ok (.aload_n 0, 1) := by decide +kernel
theorem dX11_loads_53 : decode cX11_loads 53 = .ok (.iload 4, 2) := by decide +kernel
theorem dX11_loads_55 : decode cX11_loads 55 = .ok (.aload_n 0, 1) := by decide +kernel
theorem dX11_loads_56 : decode cX11_loads 56 = .ok (.getfield 31, 3) := by decide +kernel
theorem dX11_loads_59 : decode cX11_loads 59 = .ok (.iload_n 1, 1) := by decide +kernel
theorem dX11_loads_60 : decode cX11_loads 60 = .ok (.iaload, 1) := by decide +kernel
theorem dX11_loads_61 : decode cX11_loads 61 = .ok (.invokevirtual 231, 3) := by decide +kernel
theorem dX11_loads_64 : decode cX11_loads 64 = .ok (.ifCond .eq 50, 3) := by decide +kernel
theorem dX11_loads_67 : decode cX11_loads 67 = .ok (.aload_n 0, 1) := by decide +kernel
theorem dX11_loads_68 : decode cX11_loads 68 = .ok (.getfield 95, 3) := by decide +kernel
theorem dX11_loads_71 : decode cX11_loads 71 = .ok (.iload 4, 2) := by decide +kernel
theorem dX11_loads_73 : decode cX11_loads 73 = .ok (.bipush 116, 2) := by decide +kernel
theorem dX11_loads_75 : decode cX11_loads 75 = .ok (.castore, 1) := by decide +kernel
theorem dX11_loads_76 : decode cX11_loads 76 = .ok (.aload_n 0, 1) := by decide +kernel
theorem dX11_loads_77 : decode cX11_loads 77 = .ok (.getfield 59, 3) := by decide +kernel
theorem dX11_loads_80 : decode cX11_loads 80 = .ok (.iload 4, 2) := by decide +kernel
theorem dX11_loads_82 : decode cX11_loads 82 = .ok (.iload_n 1, 1) := by decide +kernel
theorem dX11_loads_83 : decode cX11_loads 83 = .ok (.iastore, 1) := by decide +kernel
theorem dX11_loads_84 : decode cX11_loads 84 = .ok (.aload_n 0, 1) := by decide +kernel
theorem dX11_loads_85 : decode cX11_loads 85 = .ok (.getfield 62, 3) := by decide +kernel
theorem dX11_loads_88 : decode cX11_loads 88 = .ok (.iload 4, 2) := by decide +kernel
theorem dX11_loads_90 : decode cX11_loads 90 = .ok (.aload_n 0, 1) := by decide +kernel
theorem dX11_loads_91 : decode cX11_loads 91 = .ok (.getfield 150, 3) := by decide +kernel
theorem dX11_loads_94 : decode cX11_loads 94 = .ok (.aload_n 0, 1) := by decide +kernel
theorem dX11_loads_95 : decode cX11_loads 95 = .ok (.getfield 28, 3) := by decide +kernel
theorem dX11_loads_98 : decode cX11_loads 98 = .ok (.iload_n 1, 1) := by decide +kernel
theorem dX11_loads_99 : decode cX11_loads 99 = .ok (.iaload, 1) := by decide +kernel
theorem dX11_loads_100 : decode cX11_loads 100 = .ok (.iadd, 1) := by decide +kernel
theorem dX11_loads_101 : decode cX11_loads 101 = .ok (.iastore, 1) := by decide +kernel
theorem dX11_loads_102 : decode cX11_loads 102 = .ok (.aload_n 0, 1) := by decide +kernel
theorem dX11_loads_103 : decode cX11_loads 103 = .ok (.iload 4, 2) := by decide +kernel
theorem dX11_loads_105 : decode cX11_loads 105 = .ok (.bipush 108, 2) := by decide +kernel
theorem dX11_loads_107 : decode cX11_loads 107 = .ok (.iload_n 1, 1) := by decide +kernel
theorem dX11_loads_108 : decode cX11_loads 108 = .ok (.invokevirtual 188, 3) := by decide +kernel
theorem dX11_loads_111 : decode cX11_loads 111 = .ok (.goto 22, 3) := by decide +kernel
theorem dX11_loads_114 : decode cX11_loads 114 = .ok (.aload_n 0, 1) := by decide +kernel
theorem dX11_loads_115 : decode cX11_loads 115 = .ok (.getfield 102, 3) := by decide +kernel
theorem dX11_loads_118 : decode cX11_loads 118 = .ok (.iload 4, 2) := by decide +kernel
theorem dX11_loads_120 : decode cX11_loads 120 = .ok (.iconst 1, 1) := by decide +kernel
theorem dX11_loads_121 : decode cX11_loads 121 = .ok (.bastore, 1) := by decide +kernel
theorem dX11_loads_122 : decode cX11_loads 122 = .ok (.aload_n 0, 1) := by decide +kernel
theorem dX11_loads_123 : decode cX11_loads 123 = .ok (.getfield 83, 3) := by decide +kernel
theorem dX11_loads_126 : decode cX11_loads 126 = .ok (.iload 4, 2) := by decide +kernel
theorem dX11_loads_128 : decode cX11_loads 128 = .ok (.dup2, 1) := by decide +kernel
theorem dX11_loads_129 : decode cX11_loads 129 = .ok (.iaload, 1) := by decide +kernel
theorem dX11_loads_130 : decode cX11_loads 130 = .ok (.iconst 1, 1) := by decide +kernel
theorem dX11_loads_131 : decode cX11_loads 131 = .ok (.iadd, 1) := by decide +kernel
theorem dX11_loads_132 : decode cX11_loads 132 = .ok (.iastore, 1) := by decide +kernel
theorem dX11_loads_133 : decode cX11_loads 133 = .ok (.iinc 3 1, 3) := by decide +kernel
theorem dX11_loads_136 : decode cX11_loads 136 = .ok (.goto (-123), 3) := by decide +kernel
theorem dX11_loads_139 : decode cX11_loads 139 = .ok (.aload_n 0, 1) := by decide +kernel
theorem dX11_loads_140 : decode cX11_loads 140 = .ok (.getfield 226, 3) := by decide +kernel
theorem dX11_loads_143 : decode cX11_loads 143 = .ok (.ifCond .le 45, 3) := by decide +kernel
theorem dX11_loads_146 : decode cX11_loads 146 = .ok (.aload_n 0, 1) := by decide +kernel
theorem dX11_loads_147 : decode cX11_loads 147 = .ok (.getfield 34, 3) := by decide +kernel
theorem dX11_loads_150 : decode cX11_loads 150 = .ok (.iload_n 1, 1) := by decide +kernel
theorem dX11_loads_151 : decode cX11_loads 151 = .ok (.aload_n 0, 1) := by decide +kernel
theorem dX11_loads_152 : decode cX11_loads 152 = .ok (.getfield 226, 3) := by decide +kernel
theorem dX11_loads_155 : decode cX11_loads 155 = .ok (.iastore, 1) := by decide +kernel
theorem dX11_loads_156 : decode cX11_loads 156 = .ok (.iconst 0, 1) := by decide +kernel
theorem dX11_loads_157 : decode cX11_loads 157 = .ok (.istore_n 3, 1) := by decide +kernel
theorem dX11_loads_158 : decode cX11_loads 158 = .ok (.iload_n 3, 1) := by decide +kernel
theorem dX11_loads_159 : decode cX11_loads 159 = .ok (.aload_n 0, 1) := by decide +kernel
theorem dX11_loads_160 : decode cX11_loads 160 = .ok (.getfield 226, 3) := by decide +kernel
theorem dX11_loads_163 : decode cX11_loads 163 = .ok (.if_icmp .ge 25, 3) := by decide +kernel
theorem dX11_loads_166 : decode cX11_loads 166 = .ok (.aload_n 0, 1) := by decide +kernel
theorem dX11_loads_167 : decode cX11_loads 167 = .ok (.getfield 41, 3) := by decide +kernel
theorem dX11_loads_170 : decode cX11_loads 170 = .ok (.iconst 4, 1) := by decide +kernel
theorem dX11_loads_171 : decode cX11_loads 171 = .ok (.iload_n 1, 1) := by decide +kernel
theorem dX11_loads_172 : decode cX11_loads 172 = .ok (.imul, 1) := by decide +kernel
theorem dX11_loads_173 : decode cX11_loads 173 = .ok (.iload_n 3, 1) := by decide +kernel
theorem dX11_loads_174 : decode cX11_loads 174 = .ok (.iadd, 1) := by decide +kernel
theorem dX11_loads_175 : decode cX11_loads 175 = .ok (.aload_n 0, 1) := by decide +kernel
theorem dX11_loads_176 : decode cX11_loads 176 = .ok (.getfield 117, 3) := by decide +kernel
theorem dX11_loads_179 : decode cX11_loads 179 = .ok (.iload_n 3, 1) := by decide +kernel
theorem dX11_loads_180 : decode cX11_loads 180 = .ok (.iaload, 1) := by decide +kernel
theorem dX11_loads_181 : decode cX11_loads 181 = .ok (.iastore, 1) := by decide +kernel
theorem dX11_loads_182 : decode cX11_loads 182 = .ok (.iinc 3 1, 3) := by decide +kernel
theorem dX11_loads_185 : decode cX11_loads 185 = .ok (.goto (-27), 3) := by decide +kernel
theorem dX11_loads_188 : decode cX11_loads 188 = .ok (.return_, 1) := by decide +kernel
theorem dX11_pass_0 : decode cX11_pass 0 = .ok (.aload_n 0, 1) := by decide +kernel
theorem dX11_pass_1 : decode cX11_pass 1 = .ok (.iload_n 1, 1) := by decide +kernel
theorem dX11_pass_2 : decode cX11_pass 2 = .ok (.iconst 1, 1) := by decide +kernel
theorem dX11_pass_3 : decode cX11_pass 3 = .ok (.bipush 120, 2) := by decide +kernel
theorem dX11_pass_5 : decode cX11_pass 5 = .ok (.invokestatic 127, 3) := by decide +kernel
theorem dX11_pass_8 : decode cX11_pass 8 = .ok (.ifCond .ne 7, 3) := by decide +kernel
theorem dX11_pass_11 : decode cX11_pass 11 = .ok (.iconst 1, 1) := by decide +kernel
theorem dX11_pass_12 : decode cX11_pass 12 = .ok (.goto 4, 3) := by decide +kernel
theorem dX11_pass_15 : decode cX11_pass 15 = .ok (.iconst 0, 1) := by decide +kernel
theorem dX11_pass_16 : decode cX11_pass 16 = .ok (.iconst 1, 1) := by decide +kernel
theorem dX11_pass_17 : decode cX11_pass 17 = .ok (.invokevirtual 140, 3) := by decide +kernel
theorem dX11_pass_20 : decode cX11_pass 20 = .ok (.ifCond .eq 5, 3) := by decide +kernel
theorem dX11_pass_23 : decode cX11_pass 23 = .ok (.iconst 0, 1) := by decide +kernel
theorem dX11_pass_24 : decode cX11_pass 24 = .ok (.ireturn, 1) := by decide +kernel
theorem dX11_pass_25 : decode cX11_pass 25 = .ok (.iconst 0, 1) := by decide +kernel
theorem dX11_pass_26 : decode cX11_pass 26 = .ok (.istore_n 2, 1) := by decide +kernel
theorem dX11_pass_27 : decode cX11_pass 27 = .ok (.iconst 0, 1) := by decide +kernel
theorem dX11_pass_28 : decode cX11_pass 28 = .ok (.istore_n 3, 1) := by decide +kernel
theorem dX11_pass_29 : decode cX11_pass 29 = .ok (.iload_n 3, 1) := by decide +kernel
theorem dX11_pass_30 : decode cX11_pass 30 = .ok (.iload_n 1, 1) := by decide +kernel
theorem dX11_pass_31 : decode cX11_pass 31 = .ok (.if_icmp .ge 119, 3) := by decide +kernel
theorem dX11_pass_34 : decode cX11_pass 34 = .ok (.aload_n 0, 1) := by decide +kernel
theorem dX11_pass_35 : decode cX11_pass 35 = .ok (.dup, 1) := by decide +kernel
theorem dX11_pass_36 : decode cX11_pass 36 = .ok (.getfield 150, 3) := by decide +kernel
theorem dX11_pass_39 : decode cX11_pass 39 = .ok (.iconst 1, 1) := by decide +kernel
theorem dX11_pass_40 : decode cX11_pass 40 = .ok (.iadd, 1) := by decide +kernel
theorem dX11_pass_41 : decode cX11_pass 41 = .ok (.putfield 150, 3) := by decide +kernel
theorem dX11_pass_44 : decode cX11_pass 44 = .ok (.iload_n 2, 1) := by decide +kernel
theorem dX11_pass_45 : decode cX11_pass 45 = .ok (.aload_n 0, 1) := by decide +kernel
theorem dX11_pass_46 : decode cX11_pass 46 = .ok (.invokevirtual 234, 3) := by decide +kernel
theorem dX11_pass_49 : decode cX11_pass 49 = .ok (.iadd, 1) := by decide +kernel
theorem dX11_pass_50 : decode cX11_pass 50 = .ok (.istore_n 2, 1) := by decide +kernel
theorem dX11_pass_51 : decode cX11_pass 51 = .ok (.iconst 0, 1) := by decide +kernel
theorem dX11_pass_52 : decode cX11_pass 52 = .ok (.istore 4, 2) := by decide +kernel
theorem dX11_pass_54 : decode cX11_pass 54 = .ok (.iload 4, 2) := by decide +kernel
theorem dX11_pass_56 : decode cX11_pass 56 = .ok (.aload_n 0, 1) := by decide +kernel
theorem dX11_pass_57 : decode cX11_pass 57 = .ok (.getfield 137, 3) := by decide +kernel
theorem dX11_pass_60 : decode cX11_pass 60 = .ok (.if_icmp .ge 42, 3) := by decide +kernel
theorem dX11_pass_63 : decode cX11_pass 63 = .ok (.aload_n 0, 1) := by decide +kernel
theorem dX11_pass_64 : decode cX11_pass 64 = .ok (.getfield 37, 3) := by decide +kernel
theorem dX11_pass_67 : decode cX11_pass 67 = .ok (.iload 4, 2) := by decide +kernel
theorem dX11_pass_69 : decode cX11_pass 69 = .ok (.baload, 1) := by decide +kernel
theorem dX11_pass_70 : decode cX11_pass 70 = .ok (.ifCond .ne 26, 3) := by decide +kernel
theorem dX11_pass_73 : decode cX11_pass 73 = .ok (.aload_n 0, 1) := by decide +kernel
theorem dX11_pass_74 : decode cX11_pass 74 = .ok (.iload 4, 2) := by decide +kernel
theorem dX11_pass_76 : decode cX11_pass 76 = .ok (.aload_n 0, 1) := by decide +kernel
theorem dX11_pass_77 : decode cX11_pass 77 = .ok (.getfield 150, 3) := by decide +kernel
theorem dX11_pass_80 : decode cX11_pass 80 = .ok (.invokevirtual 166, 3) := by decide +kernel
theorem dX11_pass_83 : decode cX11_pass 83 = .ok (.aload_n 0, 1) := by decide +kernel
theorem dX11_pass_84 : decode cX11_pass 84 = .ok (.getfield 150, 3) := by decide +kernel
theorem dX11_pass_87 : decode cX11_pass 87 = .ok (.if_icmp .ne 9, 3) := by decide +kernel
theorem dX11_pass_90 : decode cX11_pass 90 = .ok (.aload_n 0, 1) := by decide +kernel
theorem dX11_pass_91 : decode cX11_pass 91 = .ok (.iload 4, 2) := by decide +kernel
theorem dX11_pass_93 : decode cX11_pass 93 = .ok (.invokevirtual 238, 3) := by decide +kernel
theorem dX11_pass_96 : decode cX11_pass 96 = .ok (.iinc 4 1, 3) := by decide +kernel
theorem dX11_pass_99 : decode cX11_pass 99 = .ok (.goto (-45), 3) := by decide +kernel
theorem dX11_pass_102 : decode cX11_pass 102 = .ok (.iconst 0, 1) := by decide +kernel
theorem dX11_pass_103 : decode cX11_pass 103 = .ok (.istore 4, 2) := by decide +kernel
theorem dX11_pass_105 : decode cX11_pass 105 = .ok (.iload 4, 2) := by decide +kernel
theorem dX11_pass_107 : decode cX11_pass 107 = .ok (.aload_n 0, 1) := by decide +kernel
theorem dX11_pass_108 : decode cX11_pass 108 = .ok (.getfield 144, 3) := by decide +kernel
theorem dX11_pass_111 : decode cX11_pass 111 = .ok (.if_icmp .ge 33, 3) := by decide +kernel
theorem dX11_pass_114 : decode cX11_pass 114 = .ok (.aload_n 0, 1) := by decide +kernel
theorem dX11_pass_115 : decode cX11_pass 115 = .ok (.getfield 102, 3) := by decide +kernel
theorem dX11_pass_118 : decode cX11_pass 118 = .ok (.iload 4, 2) := by decide +kernel
theorem dX11_pass_120 : decode cX11_pass 120 = .ok (.baload, 1) := by decide +kernel
theorem dX11_pass_121 : decode cX11_pass 121 = .ok (.ifCond .eq 17, 3) := by decide +kernel
theorem dX11_pass_124 : decode cX11_pass 124 = .ok (.aload_n 0, 1) := by decide +kernel
theorem dX11_pass_125 : decode cX11_pass 125 = .ok (.getfield 102, 3) := by decide +kernel
theorem dX11_pass_128 : decode cX11_pass 128 = .ok (.iload 4, 2) := by decide +kernel
theorem dX11_pass_130 : decode cX11_pass 130 = .ok (.iconst 0, 1) := by decide +kernel
theorem dX11_pass_131 : decode cX11_pass 131 = .ok (.bastore, 1) := by decide +kernel
theorem dX11_pass_132 : decode cX11_pass 132 = .ok (.aload_n 0, 1) := by decide +kernel
theorem dX11_pass_133 : decode cX11_pass 133 = .ok (.iload 4, 2) := by decide +kernel
theorem dX11_pass_135 : decode cX11_pass 135 = .ok (.invokevirtual 181, 3) := by decide +kernel
theorem dX11_pass_138 : decode cX11_pass 138 = .ok (.iinc 4 1, 3) := by decide +kernel
theorem dX11_pass_141 : decode cX11_pass 141 = .ok (.goto (-36), 3) := by decide +kernel
theorem dX11_pass_144 : decode cX11_pass 144 = .ok (.iinc 3 1, 3) := by decide +kernel
theorem dX11_pass_147 : decode cX11_pass 147 = .ok (.goto (-118), 3) := by decide +kernel
theorem dX11_pass_150 : decode cX11_pass 150 = .ok (.iload_n 2, 1) := by decide +kernel
theorem dX11_pass_151 : decode cX11_pass 151 = .ok (.ireturn, 1) := by decide +kernel
theorem dX11_minute_0 : decode cX11_minute 0 = .ok (.aload_n 0, 1) := by decide +kernel
theorem dX11_minute_1 : decode cX11_minute 1 = .ok (.aload_n 0, 1) := by decide +kernel
theorem dX11_minute_2 : decode cX11_minute 2 = .ok (.getfield 150, 3) := by decide +kernel
theorem dX11_minute_5 : decode cX11_minute 5 = .ok (.invokevirtual 241, 3) := by decide +kernel
theorem dX11_minute_8 : decode cX11_minute 8 = .ok (.ireturn, 1) := by decide +kernel
theorem dX11_hubs_0 : decode cX11_hubs 0 = .ok (.aload_n 0, 1) := by decide +kernel
theorem dX11_hubs_1 : decode cX11_hubs 1 = .ok (.aload_n 0, 1) := by decide +kernel
theorem dX11_hubs_2 : decode cX11_hubs 2 = .ok (.getfield 134, 3) := by decide +kernel
theorem dX11_hubs_5 : decode cX11_hubs 5 = .ok (.invokevirtual 241, 3) := by decide +kernel
theorem dX11_hubs_8 : decode cX11_hubs 8 = .ok (.ireturn, 1) := by decide +kernel
theorem dX11_lines__0 : decode cX11_lines_ 0 = .ok (.aload_n 0, 1) := by decide +kernel
theorem dX11_lines__1 : decode cX11_lines_ 1 = .ok (.aload_n 0, 1) := by decide +kernel
theorem dX11_lines__2 : decode cX11_lines_ 2 = .ok (.getfield 137, 3) := by decide +kernel
theorem dX11_lines__5 : decode cX11_lines_ 5 = .ok (.invokevirtual 241, 3) := by decide +kernel
theorem dX11_lines__8 : decode cX11_lines_ 8 = .ok (.ireturn, 1) := by decide +kernel
theorem dX11_parcels_0 : decode cX11_parcels 0 = .ok (.aload_n 0, 1) := by decide +kernel
theorem dX11_parcels_1 : decode cX11_parcels 1 = .ok (.aload_n 0, 1) := by decide +kernel
theorem dX11_parcels_2 : decode cX11_parcels 2 = .ok (.getfield 144, 3) := by decide +kernel
theorem dX11_parcels_5 : decode cX11_parcels 5 = .ok (.invokevirtual 241, 3) := by decide +kernel
theorem dX11_parcels_8 : decode cX11_parcels 8 = .ok (.ireturn, 1) := by decide +kernel
theorem dX11_hubOf_0 : decode cX11_hubOf 0 = .ok (.aload_n 0, 1) := by decide +kernel
theorem dX11_hubOf_1 : decode cX11_hubOf 1 = .ok (.iload_n 1, 1) := by decide +kernel
theorem dX11_hubOf_2 : decode cX11_hubOf 2 = .ok (.invokestatic 204, 3) := by decide +kernel
theorem dX11_hubOf_5 : decode cX11_hubOf 5 = .ok (.ifCond .ne 7, 3) := by decide +kernel
theorem dX11_hubOf_8 : decode cX11_hubOf 8 = .ok (.iconst 1, 1) := by decide +kernel
theorem dX11_hubOf_9 : decode cX11_hubOf 9 = .ok (.goto 4, 3) := by decide +kernel
theorem dX11_hubOf_12 : decode cX11_hubOf 12 = .ok (.iconst 0, 1) := by decide +kernel
theorem dX11_hubOf_13 : decode cX11_hubOf 13 = .ok (.iconst 1, 1) := by decide +kernel
theorem dX11_hubOf_14 : decode cX11_hubOf 14 = .ok (.invokevirtual 140, 3) := by decide +kernel
theorem dX11_hubOf_17 : decode cX11_hubOf 17 = .ok (.ifCond .eq 7, 3) := by decide +kernel
theorem dX11_hubOf_20 : decode cX11_hubOf 20 = .ok (.iconst 0, 1) := by decide +kernel
theorem dX11_hubOf_21 : decode cX11_hubOf 21 = .ok (.goto 8, 3) := by decide +kernel
theorem dX11_hubOf_24 : decode cX11_hubOf 24 = .ok (.aload_n 0, 1) := by decide +kernel
theorem dX11_hubOf_25 : decode cX11_hubOf 25 = .ok (.iload_n 1, 1) := by decide +kernel
theorem dX11_hubOf_26 : decode cX11_hubOf 26 = .ok (.invokevirtual 207, 3) := by decide +kernel
theorem dX11_hubOf_29 : decode cX11_hubOf 29 = .ok (.ireturn, 1) := by decide +kernel
theorem dX11_hubByTrying_0 : decode cX11_hubByTrying 0 = .ok (.aload_n 0, 1) := by decide +kernel
theorem dX11_hubByTrying_1 : decode cX11_hubByTrying 1 = .ok (.iload_n 1, 1) := by decide +kernel
theorem dX11_hubByTrying_2 : decode cX11_hubByTrying 2 = .ok (.invokevirtual 244, 3) := by decide +kernel
theorem dX11_hubByTrying_5 : decode cX11_hubByTrying 5 = .ok (.ireturn, 1) := by decide +kernel
theorem dX11_nextDeparture_0 : decode cX11_nextDeparture 0 = .ok (.aload_n 0, 1) := by decide +kernel
theorem dX11_nextDeparture_1 : decode cX11_nextDeparture 1 = .ok (.iload_n 1, 1) := by decide +kernel
theorem dX11_nextDeparture_2 : decode cX11_nextDeparture 2 = .ok (.invokevirtual 198, 3) := by decide +kernel
theorem dX11_nextDeparture_5 : decode cX11_nextDeparture 5 = .ok (.ifCond .ne 17, 3) := by decide +kernel
theorem dX11_nextDeparture_8 : decode cX11_nextDeparture 8 = .ok (.aload_n 0, 1) := by decide +kernel
theorem dX11_nextDeparture_9 : decode cX11_nextDeparture 9 = .ok (.aload_n 0, 1) := by decide +kernel
theorem dX11_nextDeparture_10 : decode cX11_nextDeparture 10 = .ok (.getfield 37, 3) := by decide +kernel
theorem dX11_nextDeparture_13 : decode cX11_nextDeparture 13 = .ok (.iload_n 1, 1) := by decide +kernel
theorem dX11_nextDeparture_14 : decode cX11_nextDeparture 14 = .ok (.baload, 1) := by decide +kernel
theorem dX11_nextDeparture_15 : decode cX11_nextDeparture 15 = .ok (.iconst 2, 1) := by decide +kernel
theorem dX11_nextDeparture_16 : decode cX11_nextDeparture 16 = .ok (.invokevirtual 140, 3) := by decide +kernel
theorem dX11_nextDeparture_19 : decode cX11_nextDeparture 19 = .ok (.ifCond .eq 7, 3) := by decide +kernel
theorem dX11_nextDeparture_22 : decode cX11_nextDeparture 22 = .ok (.iconst 0, 1) := by decide +kernel
theorem dX11_nextDeparture_23 : decode cX11_nextDeparture 23 = .ok (.goto 14, 3) := by decide +kernel
theorem dX11_nextDeparture_26 : decode cX11_nextDeparture 26 = .ok (.aload_n 0, 1) := by decide +kernel
theorem dX11_nextDeparture_27 : decode cX11_nextDeparture 27 = .ok (.iload_n 1, 1) := by decide +kernel
theorem dX11_nextDeparture_28 : decode cX11_nextDeparture 28 = .ok (.aload_n 0, 1) := by decide +kernel
theorem dX11_nextDeparture_29 : decode cX11_nextDeparture 29 = .ok (.getfield 150, 3) := by decide +kernel
theorem dX11_nextDeparture_32 : decode cX11_nextDeparture 32 = .ok (.iconst 1, 1) := by decide +kernel
theorem dX11_nextDeparture_33 : decode cX11_nextDeparture 33 = .ok (.iadd, 1) := by decide +kernel
theorem dX11_nextDeparture_34 : decode cX11_nextDeparture 34 = .ok (.invokevirtual 166, 3) := by decide +kernel
theorem dX11_nextDeparture_37 : decode cX11_nextDeparture 37 = .ok (.ireturn, 1) := by decide +kernel
theorem dX11_state_0 : decode cX11_state 0 = .ok (.aload_n 0, 1) := by decide +kernel
theorem dX11_state_1 : decode cX11_state 1 = .ok (.iload_n 1, 1) := by decide +kernel
theorem dX11_state_2 : decode cX11_state 2 = .ok (.invokevirtual 216, 3) := by decide +kernel
theorem dX11_state_5 : decode cX11_state 5 = .ok (.ifCond .eq 7, 3) := by decide +kernel
theorem dX11_state_8 : decode cX11_state 8 = .ok (.iconst 0, 1) := by decide +kernel
theorem dX11_state_9 : decode cX11_state 9 = .ok (.goto 9, 3) := by decide +kernel
theorem dX11_state_12 : decode cX11_state 12 = .ok (.aload_n 0, 1) := by decide +kernel
theorem dX11_state_13 : decode cX11_state 13 = .ok (.getfield 95, 3) := by decide +kernel
theorem dX11_state_16 : decode cX11_state 16 = .ok (.iload_n 1, 1) := by decide +kernel
theorem dX11_state_17 : decode cX11_state 17 = .ok (.caload, 1) := by decide +kernel
theorem dX11_state_18 : decode cX11_state 18 = .ok (.ireturn, 1) := by decide +kernel
theorem dX11_at_0 : decode cX11_at 0 = .ok (.aload_n 0, 1) := by decide +kernel
theorem dX11_at_1 : decode cX11_at 1 = .ok (.iload_n 1, 1) := by decide +kernel
theorem dX11_at_2 : decode cX11_at 2 = .ok (.invokevirtual 216, 3) := by decide +kernel
theorem dX11_at_5 : decode cX11_at 5 = .ok (.ifCond .ne 27, 3) := by decide +kernel
theorem dX11_at_8 : decode cX11_at 8 = .ok (.aload_n 0, 1) := by decide +kernel
theorem dX11_at_9 : decode cX11_at 9 = .ok (.aload_n 0, 1) := by decide +kernel
theorem dX11_at_10 : decode cX11_at 10 = .ok (.getfield 95, 3) := by decide +kernel
theorem dX11_at_13 : decode cX11_at 13 = .ok (.iload_n 1, 1) := by decide +kernel
theorem dX11_at_14 : decode cX11_at 14 = .ok (.caload, 1) := by decide +kernel
theorem dX11_at_15 : decode cX11_at 15 = .ok (.bipush 116, 2) := by decide +kernel
theorem dX11_at_17 : decode cX11_at 17 = .ok (.if_icmp .ne 7, 3) := by decide +kernel
theorem dX11_at_20 : decode cX11_at 20 = .ok (.iconst 1, 1) := by decide +kernel
theorem dX11_at_21 : decode cX11_at 21 = .ok (.goto 4, 3) := by decide +kernel
theorem dX11_at_24 : decode cX11_at 24 = .ok (.iconst 0, 1) := by decide +kernel
theorem dX11_at_25 : decode cX11_at 25 = .ok (.iconst 2, 1) := by decide +kernel
theorem dX11_at_26 : decode cX11_at 26 = .ok (.invokevirtual 140, 3) := by decide +kernel
theorem dX11_at_29 : decode cX11_at 29 = .ok (.ifCond .eq 7, 3) := by decide +kernel
theorem dX11_at_32 : decode cX11_at 32 = .ok (.iconst 0, 1) := by decide +kernel
theorem dX11_at_33 : decode cX11_at 33 = .ok (.goto 9, 3) := by decide +kernel
theorem dX11_at_36 : decode cX11_at 36 = .ok (.aload_n 0, 1) := by decide +kernel
theorem dX11_at_37 : decode cX11_at 37 = .ok (.getfield 56, 3) := by decide +kernel
theorem dX11_at_40 : decode cX11_at 40 = .ok (.iload_n 1, 1) := by decide +kernel
theorem dX11_at_41 : decode cX11_at 41 = .ok (.iaload, 1) := by decide +kernel
theorem dX11_at_42 : decode cX11_at 42 = .ok (.ireturn, 1) := by decide +kernel
theorem dX11_rides_0 : decode cX11_rides 0 = .ok (.aload_n 0, 1) := by decide +kernel
theorem dX11_rides_1 : decode cX11_rides 1 = .ok (.iload_n 1, 1) := by decide +kernel
theorem dX11_rides_2 : decode cX11_rides 2 = .ok (.invokevirtual 216, 3) := by decide +kernel
theorem dX11_rides_5 : decode cX11_rides 5 = .ok (.ifCond .ne 27, 3) := by decide +kernel
theorem dX11_rides_8 : decode cX11_rides 8 = .ok (.aload_n 0, 1) := by decide +kernel
theorem dX11_rides_9 : decode cX11_rides 9 = .ok (.aload_n 0, 1) := by decide +kernel
theorem dX11_rides_10 : decode cX11_rides 10 = .ok (.getfield 95, 3) := by decide +kernel
theorem dX11_rides_13 : decode cX11_rides 13 = .ok (.iload_n 1, 1) := by decide +kernel
theorem dX11_rides_14 : decode cX11_rides 14 = .ok (.caload, 1) := by decide +kernel
theorem dX11_rides_15 : decode cX11_rides 15 = .ok (.bipush 116, 2) := by decide +kernel
theorem dX11_rides_17 : decode cX11_rides 17 = .ok (.if_icmp .eq 7, 3) := by decide +kernel
theorem dX11_rides_20 : decode cX11_rides 20 = .ok (.iconst 1, 1) := by decide +kernel
theorem dX11_rides_21 : decode cX11_rides 21 = .ok (.goto 4, 3) := by decide +kernel
theorem dX11_rides_24 : decode cX11_rides 24 = .ok (.iconst 0, 1) := by decide +kernel
theorem dX11_rides_25 : decode cX11_rides 25 = .ok (.iconst 2, 1) := by decide +kernel
theorem dX11_rides_26 : decode cX11_rides 26 = .ok (.invokevirtual 140, 3) := by decide +kernel
theorem dX11_rides_29 : decode cX11_rides 29 = .ok (.ifCond .eq 7, 3) := by decide +kernel
theorem dX11_rides_32 : decode cX11_rides 32 = .ok (.iconst 0, 1) := by decide +kernel
theorem dX11_rides_33 : decode cX11_rides 33 = .ok (.goto 9, 3) := by decide +kernel
theorem dX11_rides_36 : decode cX11_rides 36 = .ok (.aload_n 0, 1) := by decide +kernel
theorem dX11_rides_37 : decode cX11_rides 37 = .ok (.getfield 59, 3) := by decide +kernel
theorem dX11_rides_40 : decode cX11_rides 40 = .ok (.iload_n 1, 1) := by decide +kernel
theorem dX11_rides_41 : decode cX11_rides 41 = .ok (.iaload, 1) := by decide +kernel
theorem dX11_rides_42 : decode cX11_rides 42 = .ok (.ireturn, 1) := by decide +kernel
theorem dX11_destination_0 : decode cX11_destination 0 = .ok (.aload_n 0, 1) := by decide +kernel
theorem dX11_destination_1 : decode cX11_destination 1 = .ok (.iload_n 1, 1) := by decide +kernel
theorem dX11_destination_2 : decode cX11_destination 2 = .ok (.invokevirtual 216, 3) := by decide +kernel
theorem dX11_destination_5 : decode cX11_destination 5 = .ok (.ifCond .eq 7, 3) := by decide +kernel
theorem dX11_destination_8 : decode cX11_destination 8 = .ok (.iconst 0, 1) := by decide +kernel
theorem dX11_destination_9 : decode cX11_destination 9 = .ok (.goto 9, 3) := by decide +kernel
theorem dX11_destination_12 : decode cX11_destination 12 = .ok (.aload_n 0, 1) := by decide +kernel
theorem dX11_destination_13 : decode cX11_destination 13 = .ok (.getfield 53, 3) := by decide +kernel
theorem dX11_destination_16 : decode cX11_destination 16 = .ok (.iload_n 1, 1) := by decide +kernel
theorem dX11_destination_17 : decode cX11_destination 17 = .ok (.iaload, 1) := by decide +kernel
theorem dX11_destination_18 : decode cX11_destination 18 = .ok (.ireturn, 1) := by decide +kernel
theorem dX11_isReturn_0 : decode cX11_isReturn 0 = .ok (.aload_n 0, 1) := by decide +kernel
theorem dX11_isReturn_1 : decode cX11_isReturn 1 = .ok (.iload_n 1, 1) := by decide +kernel
theorem dX11_isReturn_2 : decode cX11_isReturn 2 = .ok (.invokevirtual 216, 3) := by decide +kernel
theorem dX11_isReturn_5 : decode cX11_isReturn 5 = .ok (.ifCond .ne 16, 3) := by decide +kernel
theorem dX11_isReturn_8 : decode cX11_isReturn 8 = .ok (.aload_n 0, 1) := by decide +kernel
theorem dX11_isReturn_9 : decode cX11_isReturn 9 = .ok (.getfield 99, 3) := by decide +kernel
theorem dX11_isReturn_12 : decode cX11_isReturn 12 = .ok (.iload_n 1, 1) := by decide +kernel
theorem dX11_isReturn_13 : decode cX11_isReturn 13 = .ok (.baload, 1) := by decide +kernel
theorem dX11_isReturn_14 : decode cX11_isReturn 14 = .ok (.ifCond .eq 7, 3) := by decide +kernel
theorem dX11_isReturn_17 : decode cX11_isReturn 17 = .ok (.iconst 1, 1) := by decide +kernel
theorem dX11_isReturn_18 : decode cX11_isReturn 18 = .ok (.goto 4, 3) := by decide +kernel
theorem dX11_isReturn_21 : decode cX11_isReturn 21 = .ok (.iconst 0, 1) := by decide +kernel
theorem dX11_isReturn_22 : decode cX11_isReturn 22 = .ok (.ireturn, 1) := by decide +kernel
theorem dX11_promise_0 : decode cX11_promise 0 = .ok (.aload_n 0, 1) := by decide +kernel
theorem dX11_promise_1 : decode cX11_promise 1 = .ok (.iload_n 1, 1) := by decide +kernel
theorem dX11_promise_2 : decode cX11_promise 2 = .ok (.invokevirtual 216, 3) := by decide +kernel
theorem dX11_promise_5 : decode cX11_promise 5 = .ok (.ifCond .eq 7, 3) := by decide +kernel
theorem dX11_promise_8 : decode cX11_promise 8 = .ok (.iconst 0, 1) := by decide +kernel
theorem dX11_promise_9 : decode cX11_promise 9 = .ok (.goto 9, 3) := by decide +kernel
theorem dX11_promise_12 : decode cX11_promise 12 = .ok (.aload_n 0, 1) := by decide +kernel
theorem dX11_promise_13 : decode cX11_promise 13 = .ok (.getfield 71, 3) := by decide +kernel
theorem dX11_promise_16 : decode cX11_promise 16 = .ok (.iload_n 1, 1) := by decide +kernel
theorem dX11_promise_17 : decode cX11_promise 17 = .ok (.iaload, 1) := by decide +kernel
theorem dX11_promise_18 : decode cX11_promise 18 = .ok (.ireturn, 1) := by decide +kernel
theorem dX11_wasLate_0 : decode cX11_wasLate 0 = .ok (.aload_n 0, 1) := by decide +kernel
theorem dX11_wasLate_1 : decode cX11_wasLate 1 = .ok (.getfield 71, 3) := by decide +kernel
theorem dX11_wasLate_4 : decode cX11_wasLate 4 = .ok (.iload_n 1, 1) := by decide +kernel
theorem dX11_wasLate_5 : decode cX11_wasLate 5 = .ok (.iaload, 1) := by decide +kernel
theorem dX11_wasLate_6 : decode cX11_wasLate 6 = .ok (.ifCond .lt 47, 3) := by decide +kernel
theorem dX11_wasLate_9 : decode cX11_wasLate 9 = .ok (.aload_n 0, 1) := by decide +kernel
theorem dX11_wasLate_10 : decode cX11_wasLate 10 = .ok (.getfield 74, 3) := by decide +kernel
theorem dX11_wasLate_13 : decode cX11_wasLate 13 = .ok (.iload_n 1, 1) := by decide +kernel
theorem dX11_wasLate_14 : decode cX11_wasLate 14 = .ok (.iaload, 1) := by decide +kernel
theorem dX11_wasLate_15 : decode cX11_wasLate 15 = .ok (.ifCond .lt 21, 3) := by decide +kernel
theorem dX11_wasLate_18 : decode cX11_wasLate 18 = .ok (.aload_n 0, 1) := by decide +kernel
theorem dX11_wasLate_19 : decode cX11_wasLate 19 = .ok (.getfield 74, 3) := by decide +kernel
theorem dX11_wasLate_22 : decode cX11_wasLate 22 = .ok (.iload_n 1, 1) := by decide +kernel
theorem dX11_wasLate_23 : decode cX11_wasLate 23 = .ok (.iaload, 1) := by decide +kernel
theorem dX11_wasLate_24 : decode cX11_wasLate 24 = .ok (.aload_n 0, 1) := by decide +kernel
theorem dX11_wasLate_25 : decode cX11_wasLate 25 = .ok (.getfield 71, 3) := by decide +kernel
theorem dX11_wasLate_28 : decode cX11_wasLate 28 = .ok (.iload_n 1, 1) := by decide +kernel
theorem dX11_wasLate_29 : decode cX11_wasLate 29 = .ok (.iaload, 1) := by decide +kernel
theorem dX11_wasLate_30 : decode cX11_wasLate 30 = .ok (.if_icmp .le 23, 3) := by decide +kernel
theorem dX11_wasLate_33 : decode cX11_wasLate 33 = .ok (.goto 16, 3) := by decide +kernel
theorem dX11_wasLate_36 : decode cX11_wasLate 36 = .ok (.aload_n 0, 1) := by decide +kernel
theorem dX11_wasLate_37 : decode cX11_wasLate 37 = .ok (.getfield 71, 3) := by decide +kernel
theorem dX11_wasLate_40 : decode cX11_wasLate 40 = .ok (.iload_n 1, 1) := by decide +kernel
theorem dX11_wasLate_41 : decode cX11_wasLate 41 = .ok (.iaload, 1) := by decide +kernel
theorem dX11_wasLate_42 : decode cX11_wasLate 42 = .ok (.aload_n 0, 1) := by decide +kernel
theorem dX11_wasLate_43 : decode cX11_wasLate 43 = .ok (.getfield 150, 3) := by decide +kernel
theorem dX11_wasLate_46 : decode cX11_wasLate 46 = .ok (.if_icmp .ge 7, 3) := by decide +kernel
theorem dX11_wasLate_49 : decode cX11_wasLate 49 = .ok (.iconst 1, 1) := by decide +kernel
theorem dX11_wasLate_50 : decode cX11_wasLate 50 = .ok (.goto 4, 3) := by decide +kernel
theorem dX11_wasLate_53 : decode cX11_wasLate 53 = .ok (.iconst 0, 1) := by decide +kernel
theorem dX11_wasLate_54 : decode cX11_wasLate 54 = .ok (.ireturn, 1) := by decide +kernel
theorem dX11_isLate_0 : decode cX11_isLate 0 = .ok (.aload_n 0, 1) := by decide +kernel
theorem dX11_isLate_1 : decode cX11_isLate 1 = .ok (.iload_n 1, 1) := by decide +kernel
theorem dX11_isLate_2 : decode cX11_isLate 2 = .ok (.invokevirtual 216, 3) := by decide +kernel
theorem dX11_isLate_5 : decode cX11_isLate 5 = .ok (.ifCond .ne 15, 3) := by decide +kernel
theorem dX11_isLate_8 : decode cX11_isLate 8 = .ok (.aload_n 0, 1) := by decide +kernel
theorem dX11_isLate_9 : decode cX11_isLate 9 = .ok (.iload_n 1, 1) := by decide +kernel
theorem dX11_isLate_10 : decode cX11_isLate 10 = .ok (.invokevirtual 247, 3) := by decide +kernel
theorem dX11_isLate_13 : decode cX11_isLate 13 = .ok (.ifCond .eq 7, 3) := by decide +kernel
theorem dX11_isLate_16 : decode cX11_isLate 16 = .ok (.iconst 1, 1) := by decide +kernel
theorem dX11_isLate_17 : decode cX11_isLate 17 = .ok (.goto 4, 3) := by decide +kernel
theorem dX11_isLate_20 : decode cX11_isLate 20 = .ok (.iconst 0, 1) := by decide +kernel
theorem dX11_isLate_21 : decode cX11_isLate 21 = .ok (.ireturn, 1) := by decide +kernel
theorem dX11_misroutes_0 : decode cX11_misroutes 0 = .ok (.aload_n 0, 1) := by decide +kernel
theorem dX11_misroutes_1 : decode cX11_misroutes 1 = .ok (.iload_n 1, 1) := by decide +kernel
theorem dX11_misroutes_2 : decode cX11_misroutes 2 = .ok (.invokevirtual 216, 3) := by decide +kernel
theorem dX11_misroutes_5 : decode cX11_misroutes 5 = .ok (.ifCond .eq 7, 3) := by decide +kernel
theorem dX11_misroutes_8 : decode cX11_misroutes 8 = .ok (.iconst 0, 1) := by decide +kernel
theorem dX11_misroutes_9 : decode cX11_misroutes 9 = .ok (.goto 9, 3) := by decide +kernel
theorem dX11_misroutes_12 : decode cX11_misroutes 12 = .ok (.aload_n 0, 1) := by decide +kernel
theorem dX11_misroutes_13 : decode cX11_misroutes 13 = .ok (.getfield 77, 3) := by decide +kernel
theorem dX11_misroutes_16 : decode cX11_misroutes 16 = .ok (.iload_n 1, 1) := by decide +kernel
theorem dX11_misroutes_17 : decode cX11_misroutes 17 = .ok (.iaload, 1) := by decide +kernel
theorem dX11_misroutes_18 : decode cX11_misroutes 18 = .ok (.ireturn, 1) := by decide +kernel
theorem dX11_attempts_0 : decode cX11_attempts 0 = .ok (.aload_n 0, 1) := by decide +kernel
theorem dX11_attempts_1 : decode cX11_attempts 1 = .ok (.iload_n 1, 1) := by decide +kernel
theorem dX11_attempts_2 : decode cX11_attempts 2 = .ok (.invokevirtual 216, 3) := by decide +kernel
theorem dX11_attempts_5 : decode cX11_attempts 5 = .ok (.ifCond .eq 7, 3) := by decide +kernel
theorem dX11_attempts_8 : decode cX11_attempts 8 = .ok (.iconst 0, 1) := by decide +kernel
theorem dX11_attempts_9 : decode cX11_attempts 9 = .ok (.goto 9, 3) := by decide +kernel
theorem dX11_attempts_12 : decode cX11_attempts 12 = .ok (.aload_n 0, 1) := by decide +kernel
theorem dX11_attempts_13 : decode cX11_attempts 13 = .ok (.getfield 80, 3) := by decide +kernel
theorem dX11_attempts_16 : decode cX11_attempts 16 = .ok (.iload_n 1, 1) := by decide +kernel
theorem dX11_attempts_17 : decode cX11_attempts 17 = .ok (.iaload, 1) := by decide +kernel
theorem dX11_attempts_18 : decode cX11_attempts 18 = .ok (.ireturn, 1) := by decide +kernel
theorem dX11_missed_0 : decode cX11_missed 0 = .ok (.aload_n 0, 1) := by decide +kernel
theorem dX11_missed_1 : decode cX11_missed 1 = .ok (.iload_n 1, 1) := by decide +kernel
theorem dX11_missed_2 : decode cX11_missed 2 = .ok (.invokevirtual 216, 3) := by decide +kernel
theorem dX11_missed_5 : decode cX11_missed 5 = .ok (.ifCond .eq 7, 3) := by decide +kernel
theorem dX11_missed_8 : decode cX11_missed 8 = .ok (.iconst 0, 1) := by decide +kernel
theorem dX11_missed_9 : decode cX11_missed 9 = .ok (.goto 9, 3) := by decide +kernel
theorem dX11_missed_12 : decode cX11_missed 12 = .ok (.aload_n 0, 1) := by decide +kernel
theorem dX11_missed_13 : decode cX11_missed 13 = .ok (.getfield 83, 3) := by decide +kernel
theorem dX11_missed_16 : decode cX11_missed 16 = .ok (.iload_n 1, 1) := by decide +kernel
theorem dX11_missed_17 : decode cX11_missed 17 = .ok (.iaload, 1) := by decide +kernel
theorem dX11_missed_18 : decode cX11_missed 18 = .ok (.ireturn, 1) := by decide +kernel
theorem dX11_isNotScanned_0 : decode cX11_isNotScanned 0 = .ok (.aload_n 0, 1) := by decide +kernel
theorem dX11_isNotScanned_1 : decode cX11_isNotScanned 1 = .ok (.iload_n 1, 1) := by decide +kernel
theorem dX11_isNotScanned_2 : decode cX11_isNotScanned 2 = .ok (.invokevirtual 216, 3) := by decide +kernel
theorem dX11_isNotScanned_5 : decode cX11_isNotScanned 5 = .ok (.ifCond .ne 27, 3) := by decide +kernel
theorem dX11_isNotScanned_8 : decode cX11_isNotScanned 8 = .ok (.aload_n 0, 1) := by decide +kernel
theorem dX11_isNotScanned_9 : decode cX11_isNotScanned 9 = .ok (.aload_n 0, 1) := by decide +kernel
theorem dX11_isNotScanned_10 : decode cX11_isNotScanned 10 = .ok (.getfield 95, 3) := by decide +kernel
theorem dX11_isNotScanned_13 : decode cX11_isNotScanned 13 = .ok (.iload_n 1, 1) := by decide +kernel
theorem dX11_isNotScanned_14 : decode cX11_isNotScanned 14 = .ok (.caload, 1) := by decide +kernel
theorem dX11_isNotScanned_15 : decode cX11_isNotScanned 15 = .ok (.bipush 115, 2) := by decide +kernel
theorem dX11_isNotScanned_17 : decode cX11_isNotScanned 17 = .ok (.if_icmp .eq 7, 3) := by decide +kernel
theorem dX11_isNotScanned_20 : decode cX11_isNotScanned 20 = .ok (.iconst 1, 1) := by decide +kernel
theorem dX11_isNotScanned_21 : decode cX11_isNotScanned 21 = .ok (.goto 4, 3) := by decide +kernel
theorem dX11_isNotScanned_24 : decode cX11_isNotScanned 24 = .ok (.iconst 0, 1) := by decide +kernel
theorem dX11_isNotScanned_25 : decode cX11_isNotScanned 25 = .ok (.iconst 2, 1) := by decide +kernel
theorem dX11_isNotScanned_26 : decode cX11_isNotScanned 26 = .ok (.invokevirtual 140, 3) := by decide +kernel
theorem dX11_isNotScanned_29 : decode cX11_isNotScanned 29 = .ok (.ifCond .eq 7, 3) := by decide +kernel
theorem dX11_isNotScanned_32 : decode cX11_isNotScanned 32 = .ok (.iconst 1, 1) := by decide +kernel
theorem dX11_isNotScanned_33 : decode cX11_isNotScanned 33 = .ok (.goto 4, 3) := by decide +kernel
theorem dX11_isNotScanned_36 : decode cX11_isNotScanned 36 = .ok (.iconst 0, 1) := by decide +kernel
theorem dX11_isNotScanned_37 : decode cX11_isNotScanned 37 = .ok (.ireturn, 1) := by decide +kernel
theorem dX11_nextLine_0 : decode cX11_nextLine 0 = .ok (.aload_n 0, 1) := by decide +kernel
theorem dX11_nextLine_1 : decode cX11_nextLine 1 = .ok (.iload_n 1, 1) := by decide +kernel
theorem dX11_nextLine_2 : decode cX11_nextLine 2 = .ok (.invokevirtual 250, 3) := by decide +kernel
theorem dX11_nextLine_5 : decode cX11_nextLine 5 = .ok (.ifCond .eq 7, 3) := by decide +kernel
theorem dX11_nextLine_8 : decode cX11_nextLine 8 = .ok (.iconst 0, 1) := by decide +kernel
theorem dX11_nextLine_9 : decode cX11_nextLine 9 = .ok (.goto 9, 3) := by decide +kernel
theorem dX11_nextLine_12 : decode cX11_nextLine 12 = .ok (.aload_n 0, 1) := by decide +kernel
theorem dX11_nextLine_13 : decode cX11_nextLine 13 = .ok (.getfield 68, 3) := by decide +kernel
theorem dX11_nextLine_16 : decode cX11_nextLine 16 = .ok (.iload_n 1, 1) := by decide +kernel
theorem dX11_nextLine_17 : decode cX11_nextLine 17 = .ok (.iaload, 1) := by decide +kernel
theorem dX11_nextLine_18 : decode cX11_nextLine 18 = .ok (.ireturn, 1) := by decide +kernel
theorem dX11_nextLineByPaths_0 : decode cX11_nextLineByPaths 0 = .ok (.aload_n 0, 1) := by decide +kernel
theorem dX11_nextLineByPaths_1 : decode cX11_nextLineByPaths 1 = .ok (.iload_n 1, 1) := by decide +kernel
theorem dX11_nextLineByPaths_2 : decode cX11_nextLineByPaths 2 = .ok (.invokevirtual 250, 3) := by decide +kernel
theorem dX11_nextLineByPaths_5 : decode cX11_nextLineByPaths 5 = .ok (.ifCond .eq 7, 3) := by decide +kernel
theorem dX11_nextLineByPaths_8 : decode cX11_nextLineByPaths 8 = .ok (.iconst 0, 1) := by decide +kernel
theorem dX11_nextLineByPaths_9 : decode cX11_nextLineByPaths 9 = .ok (.goto 8, 3) := by decide +kernel
theorem dX11_nextLineByPaths_12 : decode cX11_nextLineByPaths 12 = .ok (.aload_n 0, 1) := by decide +kernel
theorem dX11_nextLineByPaths_13 : decode cX11_nextLineByPaths 13 = .ok (.iload_n 1, 1) := by decide +kernel
theorem dX11_nextLineByPaths_14 : decode cX11_nextLineByPaths 14 = .ok (.invokevirtual 177, 3) := by decide +kernel
theorem dX11_nextLineByPaths_17 : decode cX11_nextLineByPaths 17 = .ok (.ireturn, 1) := by decide +kernel
theorem dX11_pathSize_0 : decode cX11_pathSize 0 = .ok (.aload_n 0, 1) := by decide +kernel
theorem dX11_pathSize_1 : decode cX11_pathSize 1 = .ok (.iload_n 1, 1) := by decide +kernel
theorem dX11_pathSize_2 : decode cX11_pathSize 2 = .ok (.invokevirtual 250, 3) := by decide +kernel
theorem dX11_pathSize_5 : decode cX11_pathSize 5 = .ok (.ifCond .ne 11, 3) := by decide +kernel
theorem dX11_pathSize_8 : decode cX11_pathSize 8 = .ok (.aload_n 0, 1) := by decide +kernel
theorem dX11_pathSize_9 : decode cX11_pathSize 9 = .ok (.iload_n 1, 1) := by decide +kernel
theorem dX11_pathSize_10 : decode cX11_pathSize 10 = .ok (.invokevirtual 173, 3) := by decide +kernel
theorem dX11_pathSize_13 : decode cX11_pathSize 13 = .ok (.ifCond .ne 7, 3) := by decide +kernel
theorem dX11_pathSize_16 : decode cX11_pathSize 16 = .ok (.iconst 0, 1) := by decide +kernel
theorem dX11_pathSize_17 : decode cX11_pathSize 17 = .ok (.goto 7, 3) := by decide +kernel
theorem dX11_pathSize_20 : decode cX11_pathSize 20 = .ok (.aload_n 0, 1) := by decide +kernel
theorem dX11_pathSize_21 : decode cX11_pathSize 21 = .ok (.getfield 157, 3) := by decide +kernel
theorem dX11_pathSize_24 : decode cX11_pathSize 24 = .ok (.ireturn, 1) := by decide +kernel
theorem dX11_pathAt_0 : decode cX11_pathAt 0 = .ok (.aload_n 0, 1) := by decide +kernel
theorem dX11_pathAt_1 : decode cX11_pathAt 1 = .ok (.iload_n 1, 1) := by decide +kernel
theorem dX11_pathAt_2 : decode cX11_pathAt 2 = .ok (.invokevirtual 250, 3) := by decide +kernel
theorem dX11_pathAt_5 : decode cX11_pathAt 5 = .ok (.ifCond .eq 5, 3) := by decide +kernel
theorem dX11_pathAt_8 : decode cX11_pathAt 8 = .ok (.iconst 0, 1) := by decide +kernel
theorem dX11_pathAt_9 : decode cX11_pathAt 9 = .ok (.ireturn, 1) := by decide +kernel
theorem dX11_pathAt_10 : decode cX11_pathAt 10 = .ok (.aload_n 0, 1) := by decide +kernel
theorem dX11_pathAt_11 : decode cX11_pathAt 11 = .ok (.iload_n 1, 1) := by decide +kernel
theorem dX11_pathAt_12 : decode cX11_pathAt 12 = .ok (.invokevirtual 173, 3) := by decide +kernel
theorem dX11_pathAt_15 : decode cX11_pathAt 15 = .ok (.ifCond .eq 10, 3) := by decide +kernel
theorem dX11_pathAt_18 : decode cX11_pathAt 18 = .ok (.aload_n 0, 1) := by decide +kernel
theorem dX11_pathAt_19 : decode cX11_pathAt 19 = .ok (.getfield 157, 3) := by decide +kernel
theorem dX11_pathAt_22 : decode cX11_pathAt 22 = .ok (.goto 4, 3) := by decide +kernel
theorem dX11_pathAt_25 : decode cX11_pathAt 25 = .ok (.iconst 0, 1) := by decide +kernel
theorem dX11_pathAt_26 : decode cX11_pathAt 26 = .ok (.istore_n 3, 1) := by decide +kernel
theorem dX11_pathAt_27 : decode cX11_pathAt 27 = .ok (.aload_n 0, 1) := by decide +kernel
theorem dX11_pathAt_28 : decode cX11_pathAt 28 = .ok (.iload_n 2, 1) := by decide +kernel
theorem dX11_pathAt_29 : decode cX11_pathAt 29 = .ok (.iconst 0, 1) := by decide +kernel
theorem dX11_pathAt_30 : decode cX11_pathAt 30 = .ok (.iload_n 3, 1) := by decide +kernel
theorem dX11_pathAt_31 : decode cX11_pathAt 31 = .ok (.iconst 1, 1) := by decide +kernel
theorem dX11_pathAt_32 : decode cX11_pathAt 32 = .ok (.isub, 1) := by decide +kernel
theorem dX11_pathAt_33 : decode cX11_pathAt 33 = .ok (.invokestatic 127, 3) := by decide +kernel
theorem dX11_pathAt_36 : decode cX11_pathAt 36 = .ok (.ifCond .ne 7, 3) := by decide +kernel
theorem dX11_pathAt_39 : decode cX11_pathAt 39 = .ok (.iconst 1, 1) := by decide +kernel
theorem dX11_pathAt_40 : decode cX11_pathAt 40 = .ok (.goto 4, 3) := by decide +kernel
theorem dX11_pathAt_43 : decode cX11_pathAt 43 = .ok (.iconst 0, 1) := by decide +kernel
theorem dX11_pathAt_44 : decode cX11_pathAt 44 = .ok (.iconst 3, 1) := by decide +kernel
theorem dX11_pathAt_45 : decode cX11_pathAt 45 = .ok (.invokevirtual 140, 3) := by decide +kernel
theorem dX11_pathAt_48 : decode cX11_pathAt 48 = .ok (.ifCond .eq 7, 3) := by decide +kernel
theorem dX11_pathAt_51 : decode cX11_pathAt 51 = .ok (.iconst 0, 1) := by decide +kernel
theorem dX11_pathAt_52 : decode cX11_pathAt 52 = .ok (.goto 9, 3) := by decide +kernel
theorem dX11_pathAt_55 : decode cX11_pathAt 55 = .ok (.aload_n 0, 1) := by decide +kernel
theorem dX11_pathAt_56 : decode cX11_pathAt 56 = .ok (.getfield 111, 3) := by decide +kernel
theorem dX11_pathAt_59 : decode cX11_pathAt 59 = .ok (.iload_n 2, 1) := by decide +kernel
theorem dX11_pathAt_60 : decode cX11_pathAt 60 = .ok (.iaload, 1) := by decide +kernel
theorem dX11_pathAt_61 : decode cX11_pathAt 61 = .ok (.ireturn, 1) := by decide +kernel
theorem dX11_arrival_0 : decode cX11_arrival 0 = .ok (.aload_n 0, 1) := by decide +kernel
theorem dX11_arrival_1 : decode cX11_arrival 1 = .ok (.iload_n 1, 1) := by decide +kernel
theorem dX11_arrival_2 : decode cX11_arrival 2 = .ok (.invokevirtual 250, 3) := by decide +kernel
theorem dX11_arrival_5 : decode cX11_arrival 5 = .ok (.ifCond .eq 7, 3) := by decide +kernel
theorem dX11_arrival_8 : decode cX11_arrival 8 = .ok (.iconst 0, 1) := by decide +kernel
theorem dX11_arrival_9 : decode cX11_arrival 9 = .ok (.goto 19, 3) := by decide +kernel
theorem dX11_arrival_12 : decode cX11_arrival 12 = .ok (.aload_n 0, 1) := by decide +kernel
theorem dX11_arrival_13 : decode cX11_arrival 13 = .ok (.iload_n 1, 1) := by decide +kernel
theorem dX11_arrival_14 : decode cX11_arrival 14 = .ok (.invokevirtual 173, 3) := by decide +kernel
theorem dX11_arrival_17 : decode cX11_arrival 17 = .ok (.ifCond .eq 10, 3) := by decide +kernel
theorem dX11_arrival_20 : decode cX11_arrival 20 = .ok (.aload_n 0, 1) := by decide +kernel
theorem dX11_arrival_21 : decode cX11_arrival 21 = .ok (.getfield 154, 3) := by decide +kernel
theorem dX11_arrival_24 : decode cX11_arrival 24 = .ok (.goto 4, 3) := by decide +kernel
theorem dX11_arrival_27 : decode cX11_arrival 27 = .ok (.iconst (-1), 1) := by decide +kernel
theorem dX11_arrival_28 : decode cX11_arrival 28 = .ok (.ireturn, 1) := by decide +kernel
theorem dX11_arrivalByPaths_0 : decode cX11_arrivalByPaths 0 = .ok (.aload_n 0, 1) := by decide +kernel
theorem dX11_arrivalByPaths_1 : decode cX11_arrivalByPaths 1 = .ok (.iload_n 1, 1) := by decide +kernel
theorem dX11_arrivalByPaths_2 : decode cX11_arrivalByPaths 2 = .ok (.invokevirtual 253, 3) := by decide +kernel
theorem dX11_arrivalByPaths_5 : decode cX11_arrivalByPaths 5 = .ok (.ireturn, 1) := by decide +kernel
theorem dX11_arrivalBySimulation_0 : decode cX11_arrivalBySimulation 0 = .ok (.aload_n 0, 1) := by decide +kernel
theorem dX11_arrivalBySimulation_1 : decode cX11_arrivalBySimulation 1 = .ok (.iload_n 1, 1) := by decide +kernel
theorem dX11_arrivalBySimulation_2 : decode cX11_arrivalBySimulation 2 = .ok (.invokevirtual 253, 3) := by decide +kernel
theorem dX11_arrivalBySimulation_5 : decode cX11_arrivalBySimulation 5 = .ok (.ireturn, 1) := by decide +kernel
theorem dX11_waiting_0 : decode cX11_waiting 0 = .ok (.aload_n 0, 1) := by decide +kernel
theorem dX11_waiting_1 : decode cX11_waiting 1 = .ok (.iload_n 1, 1) := by decide +kernel
theorem dX11_waiting_2 : decode cX11_waiting 2 = .ok (.invokevirtual 198, 3) := by decide +kernel
theorem dX11_waiting_5 : decode cX11_waiting 5 = .ok (.ifCond .eq 7, 3) := by decide +kernel
theorem dX11_waiting_8 : decode cX11_waiting 8 = .ok (.iconst 0, 1) := by decide +kernel
theorem dX11_waiting_9 : decode cX11_waiting 9 = .ok (.goto 8, 3) := by decide +kernel
theorem dX11_waiting_12 : decode cX11_waiting 12 = .ok (.aload_n 0, 1) := by decide +kernel
theorem dX11_waiting_13 : decode cX11_waiting 13 = .ok (.iload_n 1, 1) := by decide +kernel
theorem dX11_waiting_14 : decode cX11_waiting 14 = .ok (.invokevirtual 201, 3) := by decide +kernel
theorem dX11_waiting_17 : decode cX11_waiting 17 = .ok (.ireturn, 1) := by decide +kernel
theorem dX11_waitingAt_0 : decode cX11_waitingAt 0 = .ok (.aload_n 0, 1) := by decide +kernel
theorem dX11_waitingAt_1 : decode cX11_waitingAt 1 = .ok (.iload_n 1, 1) := by decide +kernel
theorem dX11_waitingAt_2 : decode cX11_waitingAt 2 = .ok (.invokevirtual 198, 3) := by decide +kernel
theorem dX11_waitingAt_5 : decode cX11_waitingAt 5 = .ok (.ifCond .eq 5, 3) := by decide +kernel
theorem dX11_waitingAt_8 : decode cX11_waitingAt 8 = .ok (.iconst 0, 1) := by decide +kernel
theorem dX11_waitingAt_9 : decode cX11_waitingAt 9 = .ok (.ireturn, 1) := by decide +kernel
theorem dX11_waitingAt_10 : decode cX11_waitingAt 10 = .ok (.aload_n 0, 1) := by decide +kernel
theorem dX11_waitingAt_11 : decode cX11_waitingAt 11 = .ok (.iload_n 1, 1) := by decide +kernel
theorem dX11_waitingAt_12 : decode cX11_waitingAt 12 = .ok (.invokevirtual 229, 3) := by decide +kernel
theorem dX11_waitingAt_15 : decode cX11_waitingAt 15 = .ok (.istore_n 3, 1) := by decide +kernel
theorem dX11_waitingAt_16 : decode cX11_waitingAt 16 = .ok (.aload_n 0, 1) := by decide +kernel
theorem dX11_waitingAt_17 : decode cX11_waitingAt 17 = .ok (.iload_n 2, 1) := by decide +kernel
theorem dX11_waitingAt_18 : decode cX11_waitingAt 18 = .ok (.iconst 0, 1) := by decide +kernel
theorem dX11_waitingAt_19 : decode cX11_waitingAt 19 = .ok (.iload_n 3, 1) := by decide +kernel
theorem dX11_waitingAt_20 : decode cX11_waitingAt 20 = .ok (.iconst 1, 1) := by decide +kernel
theorem dX11_waitingAt_21 : decode cX11_waitingAt 21 = .ok (.isub, 1) := by decide +kernel
theorem dX11_waitingAt_22 : decode cX11_waitingAt 22 = .ok (.invokestatic 127, 3) := by decide +kernel
theorem dX11_waitingAt_25 : decode cX11_waitingAt 25 = .ok (.ifCond .ne 7, 3) := by decide +kernel
theorem dX11_waitingAt_28 : decode cX11_waitingAt 28 = .ok (.iconst 1, 1) := by decide +kernel
theorem dX11_waitingAt_29 : decode cX11_waitingAt 29 = .ok (.goto 4, 3) := by decide +kernel
theorem dX11_waitingAt_32 : decode cX11_waitingAt 32 = .ok (.iconst 0, 1) := by decide +kernel
theorem dX11_waitingAt_33 : decode cX11_waitingAt 33 = .ok (.iconst 2, 1) := by decide +kernel
theorem dX11_waitingAt_34 : decode cX11_waitingAt 34 = .ok (.invokevirtual 140, 3) := by decide +kernel
theorem dX11_waitingAt_37 : decode cX11_waitingAt 37 = .ok (.ifCond .eq 7, 3) := by decide +kernel
theorem dX11_waitingAt_40 : decode cX11_waitingAt 40 = .ok (.iconst 0, 1) := by decide +kernel
theorem dX11_waitingAt_41 : decode cX11_waitingAt 41 = .ok (.goto 9, 3) := by decide +kernel
theorem dX11_waitingAt_44 : decode cX11_waitingAt 44 = .ok (.aload_n 0, 1) := by decide +kernel
theorem dX11_waitingAt_45 : decode cX11_waitingAt 45 = .ok (.getfield 120, 3) := by decide +kernel
theorem dX11_waitingAt_48 : decode cX11_waitingAt 48 = .ok (.iload_n 2, 1) := by decide +kernel
theorem dX11_waitingAt_49 : decode cX11_waitingAt 49 = .ok (.iaload, 1) := by decide +kernel
theorem dX11_waitingAt_50 : decode cX11_waitingAt 50 = .ok (.ireturn, 1) := by decide +kernel
theorem dX11_bagsNeeded_0 : decode cX11_bagsNeeded 0 = .ok (.aload_n 0, 1) := by decide +kernel
theorem dX11_bagsNeeded_1 : decode cX11_bagsNeeded 1 = .ok (.iload_n 1, 1) := by decide +kernel
theorem dX11_bagsNeeded_2 : decode cX11_bagsNeeded 2 = .ok (.invokevirtual 198, 3) := by decide +kernel
theorem dX11_bagsNeeded_5 : decode cX11_bagsNeeded 5 = .ok (.ifCond .eq 5, 3) := by decide +kernel
theorem dX11_bagsNeeded_8 : decode cX11_bagsNeeded 8 = .ok (.iconst 0, 1) := by decide +kernel
theorem dX11_bagsNeeded_9 : decode cX11_bagsNeeded 9 = .ok (.ireturn, 1) := by decide +kernel
theorem dX11_bagsNeeded_10 : decode cX11_bagsNeeded 10 = .ok (.aload_n 0, 1) := by decide +kernel
theorem dX11_bagsNeeded_11 : decode cX11_bagsNeeded 11 = .ok (.iload_n 1, 1) := by decide +kernel
theorem dX11_bagsNeeded_12 : decode cX11_bagsNeeded 12 = .ok (.invokevirtual 229, 3) := by decide +kernel
theorem dX11_bagsNeeded_15 : decode cX11_bagsNeeded 15 = .ok (.istore_n 2, 1) := by decide +kernel
theorem dX11_bagsNeeded_16 : decode cX11_bagsNeeded 16 = .ok (.aload_n 0, 1) := by decide +kernel
theorem dX11_bagsNeeded_17 : decode cX11_bagsNeeded 17 = .ok (.iconst 0, 1) := by decide +kernel
theorem dX11_bagsNeeded_18 : decode cX11_bagsNeeded 18 = .ok (.putfield 226, 3) := by decide +kernel
theorem dX11_bagsNeeded_21 : decode cX11_bagsNeeded 21 = .ok (.iconst 1, 1) := by decide +kernel
theorem dX11_bagsNeeded_22 : decode cX11_bagsNeeded 22 = .ok (.istore_n 3, 1) := by decide +kernel
theorem dX11_bagsNeeded_23 : decode cX11_bagsNeeded 23 = .ok (.iconst 0, 1) := by decide +kernel
theorem dX11_bagsNeeded_24 : decode cX11_bagsNeeded 24 = .ok (.istore 4, 2) := by decide +kernel
theorem dX11_bagsNeeded_26 : decode cX11_bagsNeeded 26 = .ok (.iload 4, 2) := by decide +kernel
theorem dX11_bagsNeeded_28 : decode cX11_bagsNeeded 28 = .ok (.iload_n 2, 1) := by decide +kernel
theorem dX11_bagsNeeded_29 : decode cX11_bagsNeeded 29 = .ok (.if_icmp .ge 25, 3) := by decide +kernel
theorem dX11_bagsNeeded_32 : decode cX11_bagsNeeded 32 = .ok (.iload_n 3, 1) := by decide +kernel
theorem dX11_bagsNeeded_33 : decode cX11_bagsNeeded 33 = .ok (.aload_n 0, 1) := by decide +kernel
theorem dX11_bagsNeeded_34 : decode cX11_bagsNeeded 34 = .ok (.aload_n 0, 1) := by decide +kernel
theorem dX11_bagsNeeded_35 : decode cX11_bagsNeeded 35 = .ok (.getfield 120, 3) := by decide +kernel
theorem dX11_bagsNeeded_38 : decode cX11_bagsNeeded 38 = .ok (.iload 4, 2) := by decide +kernel
theorem dX11_bagsNeeded_40 : decode cX11_bagsNeeded 40 = .ok (.iaload, 1) := by decide +kernel
theorem dX11_bagsNeeded_41 : decode cX11_bagsNeeded 41 = .ok (.bipush 40, 2) := by decide +kernel
theorem dX11_bagsNeeded_43 : decode cX11_bagsNeeded 43 = .ok (.invokevirtual 231, 3) := by decide +kernel
theorem dX11_bagsNeeded_46 : decode cX11_bagsNeeded 46 = .ok (.iand, 1) := by decide +kernel
theorem dX11_bagsNeeded_47 : decode cX11_bagsNeeded 47 = .ok (.istore_n 3, 1) := by decide +kernel
theorem dX11_bagsNeeded_48 : decode cX11_bagsNeeded 48 = .ok (.iinc 4 1, 3) := by decide +kernel
theorem dX11_bagsNeeded_51 : decode cX11_bagsNeeded 51 = .ok (.goto (-25), 3) := by decide +kernel
theorem dX11_bagsNeeded_54 : decode cX11_bagsNeeded 54 = .ok (.iload_n 3, 1) := by decide +kernel
theorem dX11_bagsNeeded_55 : decode cX11_bagsNeeded 55 = .ok (.ifCond .eq 10, 3) := by decide +kernel
theorem dX11_bagsNeeded_58 : decode cX11_bagsNeeded 58 = .ok (.aload_n 0, 1) := by decide +kernel
theorem dX11_bagsNeeded_59 : decode cX11_bagsNeeded 59 = .ok (.getfield 226, 3) := by decide +kernel
theorem dX11_bagsNeeded_62 : decode cX11_bagsNeeded 62 = .ok (.goto 4, 3) := by decide +kernel
theorem dX11_bagsNeeded_65 : decode cX11_bagsNeeded 65 = .ok (.iconst 0, 1) := by decide +kernel
theorem dX11_bagsNeeded_66 : decode cX11_bagsNeeded 66 = .ok (.ireturn, 1) := by decide +kernel
theorem dX11_bagsAtLeast_0 : decode cX11_bagsAtLeast 0 = .ok (.aload_n 0, 1) := by decide +kernel
theorem dX11_bagsAtLeast_1 : decode cX11_bagsAtLeast 1 = .ok (.iload_n 1, 1) := by decide +kernel
theorem dX11_bagsAtLeast_2 : decode cX11_bagsAtLeast 2 = .ok (.invokevirtual 198, 3) := by decide +kernel
theorem dX11_bagsAtLeast_5 : decode cX11_bagsAtLeast 5 = .ok (.ifCond .eq 5, 3) := by decide +kernel
theorem dX11_bagsAtLeast_8 : decode cX11_bagsAtLeast 8 = .ok (.iconst 0, 1) := by decide +kernel
theorem dX11_bagsAtLeast_9 : decode cX11_bagsAtLeast 9 = .ok (.ireturn, 1) := by decide +kernel
theorem dX11_bagsAtLeast_10 : decode cX11_bagsAtLeast 10 = .ok (.iconst 0, 1) := by decide +kernel
theorem dX11_bagsAtLeast_11 : decode cX11_bagsAtLeast 11 = .ok (.istore_n 2, 1) := by decide +kernel
theorem dX11_bagsAtLeast_12 : decode cX11_bagsAtLeast 12 = .ok (.iconst 0, 1) := by decide +kernel
theorem dX11_bagsAtLeast_13 : decode cX11_bagsAtLeast 13 = .ok (.istore_n 3, 1) := by decide +kernel
theorem dX11_bagsAtLeast_14 : decode cX11_bagsAtLeast 14 = .ok (.iload_n 3, 1) := by decide +kernel
theorem dX11_bagsAtLeast_15 : decode cX11_bagsAtLeast 15 = .ok (.aload_n 0, 1) := by decide +kernel
theorem dX11_bagsAtLeast_16 : decode cX11_bagsAtLeast 16 = .ok (.getfield 134, 3) := by decide +kernel
theorem dX11_bagsAtLeast_19 : decode cX11_bagsAtLeast 19 = .ok (.if_icmp .ge 93, 3) := by decide +kernel
theorem dX11_bagsAtLeast_22 : decode cX11_bagsAtLeast 22 = .ok (.iconst 0, 1) := by decide +kernel
theorem dX11_bagsAtLeast_23 : decode cX11_bagsAtLeast 23 = .ok (.istore 4, 2) := by decide +kernel
theorem dX11_bagsAtLeast_25 : decode cX11_bagsAtLeast 25 = .ok (.iconst 0, 1) := by decide +kernel
theorem dX11_bagsAtLeast_26 : decode cX11_bagsAtLeast 26 = .ok (.istore 5, 2) := by decide +kernel
theorem dX11_bagsAtLeast_28 : decode cX11_bagsAtLeast 28 = .ok (.iload 5, 2) := by decide +kernel
theorem dX11_bagsAtLeast_30 : decode cX11_bagsAtLeast 30 = .ok (.aload_n 0, 1) := by decide +kernel
theorem dX11_bagsAtLeast_31 : decode cX11_bagsAtLeast 31 = .ok (.getfield 144, 3) := by decide +kernel
theorem dX11_bagsAtLeast_34 : decode cX11_bagsAtLeast 34 = .ok (.if_icmp .ge 59, 3) := by decide +kernel
theorem dX11_bagsAtLeast_37 : decode cX11_bagsAtLeast 37 = .ok (.iload 4, 2) := by decide +kernel
theorem dX11_bagsAtLeast_39 : decode cX11_bagsAtLeast 39 = .ok (.aload_n 0, 1) := by decide +kernel
theorem dX11_bagsAtLeast_40 : decode cX11_bagsAtLeast 40 = .ok (.getfield 95, 3) := by decide +kernel
theorem dX11_bagsAtLeast_43 : decode cX11_bagsAtLeast 43 = .ok (.iload 5, 2) := by decide +kernel
theorem dX11_bagsAtLeast_45 : decode cX11_bagsAtLeast 45 = .ok (.caload, 1) := by decide +kernel
theorem dX11_bagsAtLeast_46 : decode cX11_bagsAtLeast 46 = .ok (.bipush 115, 2) := by decide +kernel
theorem dX11_bagsAtLeast_48 : decode cX11_bagsAtLeast 48 = .ok (.if_icmp .ne 35, 3) := by decide +kernel
theorem dX11_bagsAtLeast_51 : decode cX11_bagsAtLeast 51 = .ok (.aload_n 0, 1) := by decide +kernel
theorem dX11_bagsAtLeast_52 : decode cX11_bagsAtLeast 52 = .ok (.getfield 68, 3) := by decide +kernel
theorem dX11_bagsAtLeast_55 : decode cX11_bagsAtLeast 55 = .ok (.iload 5, 2) := by decide +kernel
theorem dX11_bagsAtLeast_57 : decode cX11_bagsAtLeast 57 = .ok (.iaload, 1) := by decide +kernel
theorem dX11_bagsAtLeast_58 : decode cX11_bagsAtLeast 58 = .ok (.iload_n 1, 1) := by decide +kernel
theorem dX11_bagsAtLeast_59 : decode cX11_bagsAtLeast 59 = .ok (.if_icmp .ne 24, 3) := by decide +kernel
theorem dX11_bagsAtLeast_62 : decode cX11_bagsAtLeast 62 = .ok (.aload_n 0, 1) := by decide +kernel
theorem dX11_bagsAtLeast_63 : decode cX11_bagsAtLeast 63 = .ok (.getfield 53, 3) := by decide +kernel
theorem dX11_bagsAtLeast_66 : decode cX11_bagsAtLeast 66 = .ok (.iload 5, 2) := by decide +kernel
theorem dX11_bagsAtLeast_68 : decode cX11_bagsAtLeast 68 = .ok (.iaload, 1) := by decide +kernel
theorem dX11_bagsAtLeast_69 : decode cX11_bagsAtLeast 69 = .ok (.iload_n 3, 1) := by decide +kernel
theorem dX11_bagsAtLeast_70 : decode cX11_bagsAtLeast 70 = .ok (.if_icmp .ne 13, 3) := by decide +kernel
theorem dX11_bagsAtLeast_73 : decode cX11_bagsAtLeast 73 = .ok (.aload_n 0, 1) := by decide +kernel
theorem dX11_bagsAtLeast_74 : decode cX11_bagsAtLeast 74 = .ok (.getfield 44, 3) := by decide +kernel
theorem dX11_bagsAtLeast_77 : decode cX11_bagsAtLeast 77 = .ok (.iload 5, 2) := by decide +kernel
theorem dX11_bagsAtLeast_79 : decode cX11_bagsAtLeast 79 = .ok (.iaload, 1) := by decide +kernel
theorem dX11_bagsAtLeast_80 : decode cX11_bagsAtLeast 80 = .ok (.goto 4, 3) := by decide +kernel
theorem dX11_bagsAtLeast_83 : decode cX11_bagsAtLeast 83 = .ok (.iconst 0, 1) := by decide +kernel
theorem dX11_bagsAtLeast_84 : decode cX11_bagsAtLeast 84 = .ok (.iadd, 1) := by decide +kernel
theorem dX11_bagsAtLeast_85 : decode cX11_bagsAtLeast 85 = .ok (.istore 4, 2) := by decide +kernel
theorem dX11_bagsAtLeast_87 : decode cX11_bagsAtLeast 87 = .ok (.iinc 5 1, 3) := by decide +kernel
theorem dX11_bagsAtLeast_90 : decode cX11_bagsAtLeast 90 = .ok (.goto (-62), 3) := by decide +kernel
theorem dX11_bagsAtLeast_93 : decode cX11_bagsAtLeast 93 = .ok (.iload_n 2, 1) := by decide +kernel
theorem dX11_bagsAtLeast_94 : decode cX11_bagsAtLeast 94 = .ok (.iload 4, 2) := by decide +kernel
theorem dX11_bagsAtLeast_96 : decode cX11_bagsAtLeast 96 = .ok (.bipush 12, 2) := by decide +kernel
theorem dX11_bagsAtLeast_98 : decode cX11_bagsAtLeast 98 = .ok (.iadd, 1) := by decide +kernel
theorem dX11_bagsAtLeast_99 : decode cX11_bagsAtLeast 99 = .ok (.iconst 1, 1) := by decide +kernel
theorem dX11_bagsAtLeast_100 : decode cX11_bagsAtLeast 100 = .ok (.isub, 1) := by decide +kernel
theorem dX11_bagsAtLeast_101 : decode cX11_bagsAtLeast 101 = .ok (.bipush 12, 2) := by decide +kernel
theorem dX11_bagsAtLeast_103 : decode cX11_bagsAtLeast 103 = .ok (.idiv, 1) := by decide +kernel
theorem dX11_bagsAtLeast_104 : decode cX11_bagsAtLeast 104 = .ok (.iadd, 1) := by decide +kernel
theorem dX11_bagsAtLeast_105 : decode cX11_bagsAtLeast 105 = .ok (.istore_n 2, 1) := by decide +kernel
theorem dX11_bagsAtLeast_106 : decode cX11_bagsAtLeast 106 = .ok (.iinc 3 1, 3) := by decide +kernel
theorem dX11_bagsAtLeast_109 : decode cX11_bagsAtLeast 109 = .ok (.goto (-95), 3) := by decide +kernel
theorem dX11_bagsAtLeast_112 : decode cX11_bagsAtLeast 112 = .ok (.iload_n 2, 1) := by decide +kernel
theorem dX11_bagsAtLeast_113 : decode cX11_bagsAtLeast 113 = .ok (.ireturn, 1) := by decide +kernel
theorem dX11_bags_0 : decode cX11_bags 0 = .ok (.aload_n 0, 1) := by decide +kernel
theorem dX11_bags_1 : decode cX11_bags 1 = .ok (.iload_n 1, 1) := by decide +kernel
theorem dX11_bags_2 : decode cX11_bags 2 = .ok (.invokevirtual 198, 3) := by decide +kernel
theorem dX11_bags_5 : decode cX11_bags 5 = .ok (.ifCond .eq 7, 3) := by decide +kernel
theorem dX11_bags_8 : decode cX11_bags 8 = .ok (.iconst 0, 1) := by decide +kernel
theorem dX11_bags_9 : decode cX11_bags 9 = .ok (.goto 9, 3) := by decide +kernel
theorem dX11_bags_12 : decode cX11_bags 12 = .ok (.aload_n 0, 1) := by decide +kernel
theorem dX11_bags_13 : decode cX11_bags 13 = .ok (.getfield 34, 3) := by decide +kernel
theorem dX11_bags_16 : decode cX11_bags 16 = .ok (.iload_n 1, 1) := by decide +kernel
theorem dX11_bags_17 : decode cX11_bags 17 = .ok (.iaload, 1) := by decide +kernel
theorem dX11_bags_18 : decode cX11_bags 18 = .ok (.ireturn, 1) := by decide +kernel
theorem dX11_bagVolume_0 : decode cX11_bagVolume 0 = .ok (.aload_n 0, 1) := by decide +kernel
theorem dX11_bagVolume_1 : decode cX11_bagVolume 1 = .ok (.iload_n 1, 1) := by decide +kernel
theorem dX11_bagVolume_2 : decode cX11_bagVolume 2 = .ok (.invokevirtual 198, 3) := by decide +kernel
theorem dX11_bagVolume_5 : decode cX11_bagVolume 5 = .ok (.ifCond .ne 32, 3) := by decide +kernel
theorem dX11_bagVolume_8 : decode cX11_bagVolume 8 = .ok (.aload_n 0, 1) := by decide +kernel
theorem dX11_bagVolume_9 : decode cX11_bagVolume 9 = .ok (.iload_n 2, 1) := by decide +kernel
theorem dX11_bagVolume_10 : decode cX11_bagVolume 10 = .ok (.iconst 0, 1) := by decide +kernel
theorem dX11_bagVolume_11 : decode cX11_bagVolume 11 = .ok (.aload_n 0, 1) := by decide +kernel
theorem dX11_bagVolume_12 : decode cX11_bagVolume 12 = .ok (.getfield 34, 3) := by decide +kernel
theorem dX11_bagVolume_15 : decode cX11_bagVolume 15 = .ok (.iload_n 1, 1) := by decide +kernel
theorem dX11_bagVolume_16 : decode cX11_bagVolume 16 = .ok (.iaload, 1) := by decide +kernel
theorem dX11_bagVolume_17 : decode cX11_bagVolume 17 = .ok (.iconst 1, 1) := by decide +kernel
theorem dX11_bagVolume_18 : decode cX11_bagVolume 18 = .ok (.isub, 1) := by decide +kernel
theorem dX11_bagVolume_19 : decode cX11_bagVolume 19 = .ok (.invokestatic 127, 3) := by decide +kernel
theorem dX11_bagVolume_22 : decode cX11_bagVolume 22 = .ok (.ifCond .ne 7, 3) := by decide +kernel
theorem dX11_bagVolume_25 : decode cX11_bagVolume 25 = .ok (.iconst 1, 1) := by decide +kernel
theorem dX11_bagVolume_26 : decode cX11_bagVolume 26 = .ok (.goto 4, 3) := by decide +kernel
theorem dX11_bagVolume_29 : decode cX11_bagVolume 29 = .ok (.iconst 0, 1) := by decide +kernel
theorem dX11_bagVolume_30 : decode cX11_bagVolume 30 = .ok (.iconst 2, 1) := by decide +kernel
theorem dX11_bagVolume_31 : decode cX11_bagVolume 31 = .ok (.invokevirtual 140, 3) := by decide +kernel
theorem dX11_bagVolume_34 : decode cX11_bagVolume 34 = .ok (.ifCond .eq 7, 3) := by decide +kernel
theorem dX11_bagVolume_37 : decode cX11_bagVolume 37 = .ok (.iconst 0, 1) := by decide +kernel
theorem dX11_bagVolume_38 : decode cX11_bagVolume 38 = .ok (.goto 13, 3) := by decide +kernel
theorem dX11_bagVolume_41 : decode cX11_bagVolume 41 = .ok (.aload_n 0, 1) := by decide +kernel
theorem dX11_bagVolume_42 : decode cX11_bagVolume 42 = .ok (.getfield 41, 3) := by decide +kernel
theorem dX11_bagVolume_45 : decode cX11_bagVolume 45 = .ok (.iconst 4, 1) := by decide +kernel
theorem dX11_bagVolume_46 : decode cX11_bagVolume 46 = .ok (.iload_n 1, 1) := by decide +kernel
theorem dX11_bagVolume_47 : decode cX11_bagVolume 47 = .ok (.imul, 1) := by decide +kernel
theorem dX11_bagVolume_48 : decode cX11_bagVolume 48 = .ok (.iload_n 2, 1) := by decide +kernel
theorem dX11_bagVolume_49 : decode cX11_bagVolume 49 = .ok (.iadd, 1) := by decide +kernel
theorem dX11_bagVolume_50 : decode cX11_bagVolume 50 = .ok (.iaload, 1) := by decide +kernel
theorem dX11_bagVolume_51 : decode cX11_bagVolume 51 = .ok (.ireturn, 1) := by decide +kernel
theorem dX11_riding_0 : decode cX11_riding 0 = .ok (.aload_n 0, 1) := by decide +kernel
theorem dX11_riding_1 : decode cX11_riding 1 = .ok (.iload_n 1, 1) := by decide +kernel
theorem dX11_riding_2 : decode cX11_riding 2 = .ok (.invokevirtual 198, 3) := by decide +kernel
theorem dX11_riding_5 : decode cX11_riding 5 = .ok (.ifCond .eq 5, 3) := by decide +kernel
theorem dX11_riding_8 : decode cX11_riding 8 = .ok (.iconst 0, 1) := by decide +kernel
theorem dX11_riding_9 : decode cX11_riding 9 = .ok (.ireturn, 1) := by decide +kernel
theorem dX11_riding_10 : decode cX11_riding 10 = .ok (.iconst 0, 1) := by decide +kernel
theorem dX11_riding_11 : decode cX11_riding 11 = .ok (.istore_n 2, 1) := by decide +kernel
theorem dX11_riding_12 : decode cX11_riding 12 = .ok (.iconst 0, 1) := by decide +kernel
theorem dX11_riding_13 : decode cX11_riding 13 = .ok (.istore_n 3, 1) := by decide +kernel
theorem dX11_riding_14 : decode cX11_riding 14 = .ok (.iload_n 3, 1) := by decide +kernel
theorem dX11_riding_15 : decode cX11_riding 15 = .ok (.aload_n 0, 1) := by decide +kernel
theorem dX11_riding_16 : decode cX11_riding 16 = .ok (.getfield 144, 3) := by decide +kernel
theorem dX11_riding_19 : decode cX11_riding 19 = .ok (.if_icmp .ge 38, 3) := by decide +kernel
theorem dX11_riding_22 : decode cX11_riding 22 = .ok (.iload_n 2, 1) := by decide +kernel
theorem dX11_riding_23 : decode cX11_riding 23 = .ok (.aload_n 0, 1) := by decide +kernel
theorem dX11_riding_24 : decode cX11_riding 24 = .ok (.getfield 95, 3) := by decide +kernel
theorem dX11_riding_27 : decode cX11_riding 27 = .ok (.iload_n 3, 1) := by decide +kernel
theorem dX11_riding_28 : decode cX11_riding 28 = .ok (.caload, 1) := by decide +kernel
theorem dX11_riding_29 : decode cX11_riding 29 = .ok (.bipush 116, 2) := by decide +kernel
theorem dX11_riding_31 : decode cX11_riding 31 = .ok (.if_icmp .ne 17, 3) := by decide +kernel
theorem dX11_riding_34 : decode cX11_riding 34 = .ok (.aload_n 0, 1) := by decide +kernel
theorem dX11_riding_35 : decode cX11_riding 35 = .ok (.getfield 59, 3) := by decide +kernel
theorem dX11_riding_38 : decode cX11_riding 38 = .ok (.iload_n 3, 1) := by decide +kernel
theorem dX11_riding_39 : decode cX11_riding 39 = .ok (.iaload, 1) := by decide +kernel
theorem dX11_riding_40 : decode cX11_riding 40 = .ok (.iload_n 1, 1) := by decide +kernel
theorem dX11_riding_41 : decode cX11_riding 41 = .ok (.if_icmp .ne 7, 3) := by decide +kernel
theorem dX11_riding_44 : decode cX11_riding 44 = .ok (.iconst 1, 1) := by decide +kernel
theorem dX11_riding_45 : decode cX11_riding 45 = .ok (.goto 4, 3) := by decide +kernel
theorem dX11_riding_48 : decode cX11_riding 48 = .ok (.iconst 0, 1) := by decide +kernel
theorem dX11_riding_49 : decode cX11_riding 49 = .ok (.iadd, 1) := by decide +kernel
theorem dX11_riding_50 : decode cX11_riding 50 = .ok (.istore_n 2, 1) := by decide +kernel
theorem dX11_riding_51 : decode cX11_riding 51 = .ok (.iinc 3 1, 3) := by decide +kernel
theorem dX11_riding_54 : decode cX11_riding 54 = .ok (.goto (-40), 3) := by decide +kernel
theorem dX11_riding_57 : decode cX11_riding 57 = .ok (.iload_n 2, 1) := by decide +kernel
theorem dX11_riding_58 : decode cX11_riding 58 = .ok (.ireturn, 1) := by decide +kernel
theorem dX11_happened_0 : decode cX11_happened 0 = .ok (.iconst 0, 1) := by decide +kernel
theorem dX11_happened_1 : decode cX11_happened 1 = .ok (.istore_n 2, 1) := by decide +kernel
theorem dX11_happened_2 : decode cX11_happened 2 = .ok (.iconst 0, 1) := by decide +kernel
theorem dX11_happened_3 : decode cX11_happened 3 = .ok (.istore_n 3, 1) := by decide +kernel
theorem dX11_happened_4 : decode cX11_happened 4 = .ok (.iload_n 3, 1) := by decide +kernel
theorem dX11_happened_5 : decode cX11_happened 5 = .ok (.aload_n 0, 1) := by decide +kernel
theorem dX11_happened_6 : decode cX11_happened 6 = .ok (.getfield 147, 3) := by decide +kernel
theorem dX11_happened_9 : decode cX11_happened 9 = .ok (.if_icmp .ge 27, 3) := by decide +kernel
theorem dX11_happened_12 : decode cX11_happened 12 = .ok (.iload_n 2, 1) := by decide +kernel
theorem dX11_happened_13 : decode cX11_happened 13 = .ok (.aload_n 0, 1) := by decide +kernel
theorem dX11_happened_14 : decode cX11_happened 14 = .ok (.getfield 105, 3) := by decide +kernel
theorem dX11_happened_17 : decode cX11_happened 17 = .ok (.iload_n 3, 1) := by decide +kernel
theorem dX11_happened_18 : decode cX11_happened 18 = .ok (.iaload, 1) := by decide +kernel
theorem dX11_happened_19 : decode cX11_happened 19 = .ok (.iload_n 1, 1) := by decide +kernel
theorem dX11_happened_20 : decode cX11_happened 20 = .ok (.if_icmp .ne 7, 3) := by decide +kernel
theorem dX11_happened_23 : decode cX11_happened 23 = .ok (.iconst 1, 1) := by decide +kernel
theorem dX11_happened_24 : decode cX11_happened 24 = .ok (.goto 4, 3) := by decide +kernel
theorem dX11_happened_27 : decode cX11_happened 27 = .ok (.iconst 0, 1) := by decide +kernel
theorem dX11_happened_28 : decode cX11_happened 28 = .ok (.iadd, 1) := by decide +kernel
theorem dX11_happened_29 : decode cX11_happened 29 = .ok (.istore_n 2, 1) := by decide +kernel
theorem dX11_happened_30 : decode cX11_happened 30 = .ok (.iinc 3 4, 3) := by decide +kernel
theorem dX11_happened_33 : decode cX11_happened 33 = .ok (.goto (-29), 3) := by decide +kernel
theorem dX11_happened_36 : decode cX11_happened 36 = .ok (.iload_n 2, 1) := by decide +kernel
theorem dX11_happened_37 : decode cX11_happened 37 = .ok (.ireturn, 1) := by decide +kernel
theorem dX11_events_0 : decode cX11_events 0 = .ok (.aload_n 0, 1) := by decide +kernel
theorem dX11_events_1 : decode cX11_events 1 = .ok (.iload_n 1, 1) := by decide +kernel
theorem dX11_events_2 : decode cX11_events 2 = .ok (.invokevirtual 216, 3) := by decide +kernel
theorem dX11_events_5 : decode cX11_events 5 = .ok (.ifCond .eq 7, 3) := by decide +kernel
theorem dX11_events_8 : decode cX11_events 8 = .ok (.iconst 0, 1) := by decide +kernel
theorem dX11_events_9 : decode cX11_events 9 = .ok (.goto 8, 3) := by decide +kernel
theorem dX11_events_12 : decode cX11_events 12 = .ok (.aload_n 0, 1) := by decide +kernel
theorem dX11_events_13 : decode cX11_events 13 = .ok (.iload_n 1, 1) := by decide +kernel
theorem dX11_events_14 : decode cX11_events 14 = .ok (.invokevirtual 256, 3) := by decide +kernel
theorem dX11_events_17 : decode cX11_events 17 = .ok (.ireturn, 1) := by decide +kernel
theorem dX11_event_0 : decode cX11_event 0 = .ok (.aload_n 0, 1) := by decide +kernel
theorem dX11_event_1 : decode cX11_event 1 = .ok (.iload_n 1, 1) := by decide +kernel
theorem dX11_event_2 : decode cX11_event 2 = .ok (.invokevirtual 216, 3) := by decide +kernel
theorem dX11_event_5 : decode cX11_event 5 = .ok (.ifCond .ne 31, 3) := by decide +kernel
theorem dX11_event_8 : decode cX11_event 8 = .ok (.aload_n 0, 1) := by decide +kernel
theorem dX11_event_9 : decode cX11_event 9 = .ok (.iload_n 2, 1) := by decide +kernel
theorem dX11_event_10 : decode cX11_event 10 = .ok (.iconst 0, 1) := by decide +kernel
theorem dX11_event_11 : decode cX11_event 11 = .ok (.aload_n 0, 1) := by decide +kernel
theorem dX11_event_12 : decode cX11_event 12 = .ok (.iload_n 1, 1) := by decide +kernel
theorem dX11_event_13 : decode cX11_event 13 = .ok (.invokevirtual 256, 3) := by decide +kernel
theorem dX11_event_16 : decode cX11_event 16 = .ok (.iconst 1, 1) := by decide +kernel
theorem dX11_event_17 : decode cX11_event 17 = .ok (.isub, 1) := by decide +kernel
theorem dX11_event_18 : decode cX11_event 18 = .ok (.invokestatic 127, 3) := by decide +kernel
theorem dX11_event_21 : decode cX11_event 21 = .ok (.ifCond .ne 7, 3) := by decide +kernel
theorem dX11_event_24 : decode cX11_event 24 = .ok (.iconst 1, 1) := by decide +kernel
theorem dX11_event_25 : decode cX11_event 25 = .ok (.goto 4, 3) := by decide +kernel
theorem dX11_event_28 : decode cX11_event 28 = .ok (.iconst 0, 1) := by decide +kernel
theorem dX11_event_29 : decode cX11_event 29 = .ok (.iconst 2, 1) := by decide +kernel
theorem dX11_event_30 : decode cX11_event 30 = .ok (.invokevirtual 140, 3) := by decide +kernel
theorem dX11_event_33 : decode cX11_event 33 = .ok (.ifCond .eq 5, 3) := by decide +kernel
theorem dX11_event_36 : decode cX11_event 36 = .ok (.iconst (-1), 1) := by decide +kernel
theorem dX11_event_37 : decode cX11_event 37 = .ok (.ireturn, 1) := by decide +kernel
theorem dX11_event_38 : decode cX11_event 38 = .ok (.iconst 0, 1) := by decide +kernel
theorem dX11_event_39 : decode cX11_event 39 = .ok (.istore_n 3, 1) := by decide +kernel
theorem dX11_event_40 : decode cX11_event 40 = .ok (.iload_n 2, 1) := by decide +kernel
theorem dX11_event_41 : decode cX11_event 41 = .ok (.istore 4, 2) := by decide +kernel
theorem dX11_event_43 : decode cX11_event 43 = .ok (.aload_n 0, 1) := by decide +kernel
theorem dX11_event_44 : decode cX11_event 44 = .ok (.getfield 105, 3) := by decide +kernel
theorem dX11_event_47 : decode cX11_event 47 = .ok (.iload_n 3, 1) := by decide +kernel
theorem dX11_event_48 : decode cX11_event 48 = .ok (.iaload, 1) := by decide +kernel
theorem dX11_event_49 : decode cX11_event 49 = .ok (.iload_n 1, 1) := by decide +kernel
theorem dX11_event_50 : decode cX11_event 50 = .ok (.if_icmp .ne 8, 3) := by decide +kernel
theorem dX11_event_53 : decode cX11_event 53 = .ok (.iload 4, 2) := by decide +kernel
theorem dX11_event_55 : decode cX11_event 55 = .ok (.ifCond .le 29, 3) := by decide +kernel
theorem dX11_event_58 : decode cX11_event 58 = .ok (.iload 4, 2) := by decide +kernel
theorem dX11_event_60 : decode cX11_event 60 = .ok (.aload_n 0, 1) := by decide +kernel
theorem dX11_event_61 : decode cX11_event 61 = .ok (.getfield 105, 3) := by decide +kernel
theorem dX11_event_64 : decode cX11_event 64 = .ok (.iload_n 3, 1) := by decide +kernel
theorem dX11_event_65 : decode cX11_event 65 = .ok (.iaload, 1) := by decide +kernel
theorem dX11_event_66 : decode cX11_event 66 = .ok (.iload_n 1, 1) := by decide +kernel
theorem dX11_event_67 : decode cX11_event 67 = .ok (.if_icmp .ne 7, 3) := by decide +kernel
theorem dX11_event_70 : decode cX11_event 70 = .ok (.iconst 1, 1) := by decide +kernel
theorem dX11_event_71 : decode cX11_event 71 = .ok (.goto 4, 3) := by decide +kernel
theorem dX11_event_74 : decode cX11_event 74 = .ok (.iconst 0, 1) := by decide +kernel
theorem dX11_event_75 : decode cX11_event 75 = .ok (.isub, 1) := by decide +kernel
theorem dX11_event_76 : decode cX11_event 76 = .ok (.istore 4, 2) := by decide +kernel
theorem dX11_event_78 : decode cX11_event 78 = .ok (.iinc 3 4, 3) := by decide +kernel
theorem dX11_event_81 : decode cX11_event 81 = .ok (.goto (-38), 3) := by decide +kernel
theorem dX11_event_84 : decode cX11_event 84 = .ok (.iload_n 3, 1) := by decide +kernel
theorem dX11_event_85 : decode cX11_event 85 = .ok (.ireturn, 1) := by decide +kernel
theorem dX11_eventKind_0 : decode cX11_eventKind 0 = .ok (.aload_n 0, 1) := by decide +kernel
theorem dX11_eventKind_1 : decode cX11_eventKind 1 = .ok (.iload_n 1, 1) := by decide +kernel
theorem dX11_eventKind_2 : decode cX11_eventKind 2 = .ok (.iload_n 2, 1) := by decide +kernel
theorem dX11_eventKind_3 : decode cX11_eventKind 3 = .ok (.invokevirtual 259, 3) := by decide +kernel
theorem dX11_eventKind_6 : decode cX11_eventKind 6 = .ok (.istore_n 3, 1) := by decide +kernel
theorem dX11_eventKind_7 : decode cX11_eventKind 7 = .ok (.iload_n 3, 1) := by decide +kernel
theorem dX11_eventKind_8 : decode cX11_eventKind 8 = .ok (.ifCond .ge 7, 3) := by decide +kernel
theorem dX11_eventKind_11 : decode cX11_eventKind 11 = .ok (.iconst 0, 1) := by decide +kernel
theorem dX11_eventKind_12 : decode cX11_eventKind 12 = .ok (.goto 12, 3) := by decide +kernel
theorem dX11_eventKind_15 : decode cX11_eventKind 15 = .ok (.aload_n 0, 1) := by decide +kernel
theorem dX11_eventKind_16 : decode cX11_eventKind 16 = .ok (.getfield 105, 3) := by decide +kernel
theorem dX11_eventKind_19 : decode cX11_eventKind 19 = .ok (.iload_n 3, 1) := by decide +kernel
theorem dX11_eventKind_20 : decode cX11_eventKind 20 = .ok (.iconst 1, 1) := by decide +kernel
theorem dX11_eventKind_21 : decode cX11_eventKind 21 = .ok (.iadd, 1) := by decide +kernel
theorem dX11_eventKind_22 : decode cX11_eventKind 22 = .ok (.iaload, 1) := by decide +kernel
theorem dX11_eventKind_23 : decode cX11_eventKind 23 = .ok (.i2c, 1) := by decide +kernel
theorem dX11_eventKind_24 : decode cX11_eventKind 24 = .ok (.ireturn, 1) := by decide +kernel
theorem dX11_eventMinute_0 : decode cX11_eventMinute 0 = .ok (.aload_n 0, 1) := by decide +kernel
theorem dX11_eventMinute_1 : decode cX11_eventMinute 1 = .ok (.iload_n 1, 1) := by decide +kernel
theorem dX11_eventMinute_2 : decode cX11_eventMinute 2 = .ok (.iload_n 2, 1) := by decide +kernel
theorem dX11_eventMinute_3 : decode cX11_eventMinute 3 = .ok (.invokevirtual 259, 3) := by decide +kernel
theorem dX11_eventMinute_6 : decode cX11_eventMinute 6 = .ok (.istore_n 3, 1) := by decide +kernel
theorem dX11_eventMinute_7 : decode cX11_eventMinute 7 = .ok (.iload_n 3, 1) := by decide +kernel
theorem dX11_eventMinute_8 : decode cX11_eventMinute 8 = .ok (.ifCond .ge 7, 3) := by decide +kernel
theorem dX11_eventMinute_11 : decode cX11_eventMinute 11 = .ok (.iconst 0, 1) := by decide +kernel
theorem dX11_eventMinute_12 : decode cX11_eventMinute 12 = .ok (.goto 11, 3) := by decide +kernel
theorem dX11_eventMinute_15 : decode cX11_eventMinute 15 = .ok (.aload_n 0, 1) := by decide +kernel
theorem dX11_eventMinute_16 : decode cX11_eventMinute 16 = .ok (.getfield 105, 3) := by decide +kernel
theorem dX11_eventMinute_19 : decode cX11_eventMinute 19 = .ok (.iload_n 3, 1) := by decide +kernel
theorem dX11_eventMinute_20 : decode cX11_eventMinute 20 = .ok (.iconst 2, 1) := by decide +kernel
theorem dX11_eventMinute_21 : decode cX11_eventMinute 21 = .ok (.iadd, 1) := by decide +kernel
theorem dX11_eventMinute_22 : decode cX11_eventMinute 22 = .ok (.iaload, 1) := by decide +kernel
theorem dX11_eventMinute_23 : decode cX11_eventMinute 23 = .ok (.ireturn, 1) := by decide +kernel
theorem dX11_eventHub_0 : decode cX11_eventHub 0 = .ok (.aload_n 0, 1) := by decide +kernel
theorem dX11_eventHub_1 : decode cX11_eventHub 1 = .ok (.iload_n 1, 1) := by decide +kernel
theorem dX11_eventHub_2 : decode cX11_eventHub 2 = .ok (.iload_n 2, 1) := by decide +kernel
theorem dX11_eventHub_3 : decode cX11_eventHub 3 = .ok (.invokevirtual 259, 3) := by decide +kernel
theorem dX11_eventHub_6 : decode cX11_eventHub 6 = .ok (.istore_n 3, 1) := by decide +kernel
theorem dX11_eventHub_7 : decode cX11_eventHub 7 = .ok (.iload_n 3, 1) := by decide +kernel
theorem dX11_eventHub_8 : decode cX11_eventHub 8 = .ok (.ifCond .ge 7, 3) := by decide +kernel
theorem dX11_eventHub_11 : decode cX11_eventHub 11 = .ok (.iconst 0, 1) := by decide +kernel
theorem dX11_eventHub_12 : decode cX11_eventHub 12 = .ok (.goto 11, 3) := by decide +kernel
theorem dX11_eventHub_15 : decode cX11_eventHub 15 = .ok (.aload_n 0, 1) := by decide +kernel
theorem dX11_eventHub_16 : decode cX11_eventHub 16 = .ok (.getfield 105, 3) := by decide +kernel
theorem dX11_eventHub_19 : decode cX11_eventHub 19 = .ok (.iload_n 3, 1) := by decide +kernel
theorem dX11_eventHub_20 : decode cX11_eventHub 20 = .ok (.iconst 3, 1) := by decide +kernel
theorem dX11_eventHub_21 : decode cX11_eventHub 21 = .ok (.iadd, 1) := by decide +kernel
theorem dX11_eventHub_22 : decode cX11_eventHub 22 = .ok (.iaload, 1) := by decide +kernel
theorem dX11_eventHub_23 : decode cX11_eventHub 23 = .ok (.ireturn, 1) := by decide +kernel
theorem dX11_trace_0 : decode cX11_trace 0 = .ok (.aload_n 0, 1) := by decide +kernel
theorem dX11_trace_1 : decode cX11_trace 1 = .ok (.iload_n 1, 1) := by decide +kernel
theorem dX11_trace_2 : decode cX11_trace 2 = .ok (.invokevirtual 216, 3) := by decide +kernel
theorem dX11_trace_5 : decode cX11_trace 5 = .ok (.ifCond .eq 7, 3) := by decide +kernel
theorem dX11_trace_8 : decode cX11_trace 8 = .ok (.iconst 0, 1) := by decide +kernel
theorem dX11_trace_9 : decode cX11_trace 9 = .ok (.goto 9, 3) := by decide +kernel
theorem dX11_trace_12 : decode cX11_trace 12 = .ok (.aload_n 0, 1) := by decide +kernel
theorem dX11_trace_13 : decode cX11_trace 13 = .ok (.getfield 92, 3) := by decide +kernel
theorem dX11_trace_16 : decode cX11_trace 16 = .ok (.iload_n 1, 1) := by decide +kernel
theorem dX11_trace_17 : decode cX11_trace 17 = .ok (.iaload, 1) := by decide +kernel
theorem dX11_trace_18 : decode cX11_trace 18 = .ok (.ireturn, 1) := by decide +kernel
theorem dX11_lateShare_0 : decode cX11_lateShare 0 = .ok (.iconst 0, 1) := by decide +kernel
theorem dX11_lateShare_1 : decode cX11_lateShare 1 = .ok (.istore_n 1, 1) := by decide +kernel
theorem dX11_lateShare_2 : decode cX11_lateShare 2 = .ok (.iconst 0, 1) := by decide +kernel
theorem dX11_lateShare_3 : decode cX11_lateShare 3 = .ok (.istore_n 2, 1) := by decide +kernel
theorem dX11_lateShare_4 : decode cX11_lateShare 4 = .ok (.iload_n 2, 1) := by decide +kernel
theorem dX11_lateShare_5 : decode cX11_lateShare 5 = .ok (.aload_n 0, 1) := by decide +kernel
theorem dX11_lateShare_6 : decode cX11_lateShare 6 = .ok (.getfield 144, 3) := by decide +kernel
theorem dX11_lateShare_9 : decode cX11_lateShare 9 = .ok (.if_icmp .ge 25, 3) := by decide +kernel
theorem dX11_lateShare_12 : decode cX11_lateShare 12 = .ok (.iload_n 1, 1) := by decide +kernel
theorem dX11_lateShare_13 : decode cX11_lateShare 13 = .ok (.aload_n 0, 1) := by decide +kernel
theorem dX11_lateShare_14 : decode cX11_lateShare 14 = .ok (.iload_n 2, 1) := by decide +kernel
theorem dX11_lateShare_15 : decode cX11_lateShare 15 = .ok (.invokevirtual 247, 3) := by decide +kernel
theorem dX11_lateShare_18 : decode cX11_lateShare 18 = .ok (.ifCond .eq 7, 3) := by decide +kernel
theorem dX11_lateShare_21 : decode cX11_lateShare 21 = .ok (.iconst 1, 1) := by decide +kernel
theorem dX11_lateShare_22 : decode cX11_lateShare 22 = .ok (.goto 4, 3) := by decide +kernel
theorem dX11_lateShare_25 : decode cX11_lateShare 25 = .ok (.iconst 0, 1) := by decide +kernel
theorem dX11_lateShare_26 : decode cX11_lateShare 26 = .ok (.iadd, 1) := by decide +kernel
theorem dX11_lateShare_27 : decode cX11_lateShare 27 = .ok (.istore_n 1, 1) := by decide +kernel
theorem dX11_lateShare_28 : decode cX11_lateShare 28 = .ok (.iinc 2 1, 3) := by decide +kernel
theorem dX11_lateShare_31 : decode cX11_lateShare 31 = .ok (.goto (-27), 3) := by decide +kernel
theorem dX11_lateShare_34 : decode cX11_lateShare 34 = .ok (.aload_n 0, 1) := by decide +kernel
theorem dX11_lateShare_35 : decode cX11_lateShare 35 = .ok (.aload_n 0, 1) := by decide +kernel
theorem dX11_lateShare_36 : decode cX11_lateShare 36 = .ok (.getfield 144, 3) := by decide +kernel
theorem dX11_lateShare_39 : decode cX11_lateShare 39 = .ok (.ifCond .ne 7, 3) := by decide +kernel
theorem dX11_lateShare_42 : decode cX11_lateShare 42 = .ok (.iconst 1, 1) := by decide +kernel
theorem dX11_lateShare_43 : decode cX11_lateShare 43 = .ok (.goto 4, 3) := by decide +kernel
theorem dX11_lateShare_46 : decode cX11_lateShare 46 = .ok (.iconst 0, 1) := by decide +kernel
theorem dX11_lateShare_47 : decode cX11_lateShare 47 = .ok (.iconst 1, 1) := by decide +kernel
theorem dX11_lateShare_48 : decode cX11_lateShare 48 = .ok (.invokevirtual 140, 3) := by decide +kernel
theorem dX11_lateShare_51 : decode cX11_lateShare 51 = .ok (.ifCond .eq 7, 3) := by decide +kernel
theorem dX11_lateShare_54 : decode cX11_lateShare 54 = .ok (.fconst 0, 1) := by decide +kernel
theorem dX11_lateShare_55 : decode cX11_lateShare 55 = .ok (.goto 11, 3) := by decide +kernel
theorem dX11_lateShare_58 : decode cX11_lateShare 58 = .ok (.iload_n 1, 1) := by decide +kernel
theorem dX11_lateShare_59 : decode cX11_lateShare 59 = .ok (.i2f, 1) := by decide +kernel
theorem dX11_lateShare_60 : decode cX11_lateShare 60 = .ok (.aload_n 0, 1) := by decide +kernel
theorem dX11_lateShare_61 : decode cX11_lateShare 61 = .ok (.getfield 144, 3) := by decide +kernel
theorem dX11_lateShare_64 : decode cX11_lateShare 64 = .ok (.i2f, 1) := by decide +kernel
theorem dX11_lateShare_65 : decode cX11_lateShare 65 = .ok (.fdiv, 1) := by decide +kernel
theorem dX11_lateShare_66 : decode cX11_lateShare 66 = .ok (.freturn, 1) := by decide +kernel
theorem dX11_meanTime_0 : decode cX11_meanTime 0 = .ok (.iconst 0, 1) := by decide +kernel
theorem dX11_meanTime_1 : decode cX11_meanTime 1 = .ok (.istore_n 1, 1) := by decide +kernel
theorem dX11_meanTime_2 : decode cX11_meanTime 2 = .ok (.iconst 0, 1) := by decide +kernel
theorem dX11_meanTime_3 : decode cX11_meanTime 3 = .ok (.istore_n 2, 1) := by decide +kernel
theorem dX11_meanTime_4 : decode cX11_meanTime 4 = .ok (.iconst 0, 1) := by decide +kernel
theorem dX11_meanTime_5 : decode cX11_meanTime 5 = .ok (.istore_n 3, 1) := by decide +kernel
theorem dX11_meanTime_6 : decode cX11_meanTime 6 = .ok (.iload_n 3, 1) := by decide +kernel
theorem dX11_meanTime_7 : decode cX11_meanTime 7 = .ok (.aload_n 0, 1) := by decide +kernel
theorem dX11_meanTime_8 : decode cX11_meanTime 8 = .ok (.getfield 144, 3) := by decide +kernel
theorem dX11_meanTime_11 : decode cX11_meanTime 11 = .ok (.if_icmp .ge 59, 3) := by decide +kernel
theorem dX11_meanTime_14 : decode cX11_meanTime 14 = .ok (.iload_n 1, 1) := by decide +kernel
theorem dX11_meanTime_15 : decode cX11_meanTime 15 = .ok (.aload_n 0, 1) := by decide +kernel
theorem dX11_meanTime_16 : decode cX11_meanTime 16 = .ok (.getfield 95, 3) := by decide +kernel
theorem dX11_meanTime_19 : decode cX11_meanTime 19 = .ok (.iload_n 3, 1) := by decide +kernel
theorem dX11_meanTime_20 : decode cX11_meanTime 20 = .ok (.caload, 1) := by decide +kernel
theorem dX11_meanTime_21 : decode cX11_meanTime 21 = .ok (.bipush 100, 2) := by decide +kernel
theorem dX11_meanTime_23 : decode cX11_meanTime 23 = .ok (.if_icmp .ne 7, 3) := by decide +kernel
theorem dX11_meanTime_26 : decode cX11_meanTime 26 = .ok (.iconst 1, 1) := by decide +kernel
theorem dX11_meanTime_27 : decode cX11_meanTime 27 = .ok (.goto 4, 3) := by decide +kernel
theorem dX11_meanTime_30 : decode cX11_meanTime 30 = .ok (.iconst 0, 1) := by decide +kernel
theorem dX11_meanTime_31 : decode cX11_meanTime 31 = .ok (.iadd, 1) := by decide +kernel
theorem dX11_meanTime_32 : decode cX11_meanTime 32 = .ok (.istore_n 1, 1) := by decide +kernel
theorem dX11_meanTime_33 : decode cX11_meanTime 33 = .ok (.iload_n 2, 1) := by decide +kernel
theorem dX11_meanTime_34 : decode cX11_meanTime 34 = .ok (.aload_n 0, 1) := by decide +kernel
theorem dX11_meanTime_35 : decode cX11_meanTime 35 = .ok (.getfield 95, 3) := by decide +kernel
theorem dX11_meanTime_38 : decode cX11_meanTime 38 = .ok (.iload_n 3, 1) := by decide +kernel
theorem dX11_meanTime_39 : decode cX11_meanTime 39 = .ok (.caload, 1) := by decide +kernel
theorem dX11_meanTime_40 : decode cX11_meanTime 40 = .ok (.bipush 100, 2) := by decide +kernel
theorem dX11_meanTime_42 : decode cX11_meanTime 42 = .ok (.if_icmp .ne 19, 3) := by decide +kernel
theorem dX11_meanTime_45 : decode cX11_meanTime 45 = .ok (.aload_n 0, 1) := by decide +kernel
theorem dX11_meanTime_46 : decode cX11_meanTime 46 = .ok (.getfield 89, 3) := by decide +kernel
theorem dX11_meanTime_49 : decode cX11_meanTime 49 = .ok (.iload_n 3, 1) := by decide +kernel
theorem dX11_meanTime_50 : decode cX11_meanTime 50 = .ok (.iaload, 1) := by decide +kernel
theorem dX11_meanTime_51 : decode cX11_meanTime 51 = .ok (.aload_n 0, 1) := by decide +kernel
theorem dX11_meanTime_52 : decode cX11_meanTime 52 = .ok (.getfield 86, 3) := by decide +kernel
theorem dX11_meanTime_55 : decode cX11_meanTime 55 = .ok (.iload_n 3, 1) := by decide +kernel
theorem dX11_meanTime_56 : decode cX11_meanTime 56 = .ok (.iaload, 1) := by decide +kernel
theorem dX11_meanTime_57 : decode cX11_meanTime 57 = .ok (.isub, 1) := by decide +kernel
theorem dX11_meanTime_58 : decode cX11_meanTime 58 = .ok (.goto 4, 3) := by decide +kernel
theorem dX11_meanTime_61 : decode cX11_meanTime 61 = .ok (.iconst 0, 1) := by decide +kernel
theorem dX11_meanTime_62 : decode cX11_meanTime 62 = .ok (.iadd, 1) := by decide +kernel
theorem dX11_meanTime_63 : decode cX11_meanTime 63 = .ok (.istore_n 2, 1) := by decide +kernel
theorem dX11_meanTime_64 : decode cX11_meanTime 64 = .ok (.iinc 3 1, 3) := by decide +kernel
theorem dX11_meanTime_67 : decode cX11_meanTime 67 = .ok (.goto (-61), 3) := by decide +kernel
theorem dX11_meanTime_70 : decode cX11_meanTime 70 = .ok (.aload_n 0, 1) := by decide +kernel
theorem dX11_meanTime_71 : decode cX11_meanTime 71 = .ok (.iload_n 1, 1) := by decide +kernel
theorem dX11_meanTime_72 : decode cX11_meanTime 72 = .ok (.ifCond .ne 7, 3) := by decide +kernel
theorem dX11_meanTime_75 : decode cX11_meanTime 75 = .ok (.iconst 1, 1) := by decide +kernel
theorem dX11_meanTime_76 : decode cX11_meanTime 76 = .ok (.goto 4, 3) := by decide +kernel
theorem dX11_meanTime_79 : decode cX11_meanTime 79 = .ok (.iconst 0, 1) := by decide +kernel
theorem dX11_meanTime_80 : decode cX11_meanTime 80 = .ok (.iconst 1, 1) := by decide +kernel
theorem dX11_meanTime_81 : decode cX11_meanTime 81 = .ok (.invokevirtual 140, 3) := by decide +kernel
theorem dX11_meanTime_84 : decode cX11_meanTime 84 = .ok (.ifCond .eq 7, 3) := by decide +kernel
theorem dX11_meanTime_87 : decode cX11_meanTime 87 = .ok (.dconst 0, 1) := by decide +kernel
theorem dX11_meanTime_88 : decode cX11_meanTime 88 = .ok (.goto 8, 3) := by decide +kernel
theorem dX11_meanTime_91 : decode cX11_meanTime 91 = .ok (.iload_n 2, 1) := by decide +kernel
theorem dX11_meanTime_92 : decode cX11_meanTime 92 = .ok (.i2d, 1) := by decide +kernel
theorem dX11_meanTime_93 : decode cX11_meanTime 93 = .ok (.iload_n 1, 1) := by decide +kernel
theorem dX11_meanTime_94 : decode cX11_meanTime 94 = .ok (.i2d, 1) := by decide +kernel
theorem dX11_meanTime_95 : decode cX11_meanTime 95 = .ok (.ddiv, 1) := by decide +kernel
theorem dX11_meanTime_96 : decode cX11_meanTime 96 = .ok (.dreturn, 1) := by decide +kernel
