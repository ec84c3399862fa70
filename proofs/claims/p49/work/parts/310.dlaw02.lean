/-! the law: decode rows 2 -/
theorem dL_code_20 : decode cL_code 20 = .ok (.if_icmp .ne 7, 3) := by decide +kernel
theorem dL_code_23 : decode cL_code 23 = .ok (.iconst 2, 1) := by decide +kernel
theorem dL_code_24 : decode cL_code 24 = .ok (.goto 24, 3) := by decide +kernel
theorem dL_code_27 : decode cL_code 27 = .ok (.iload_n 0, 1) := by decide +kernel
theorem dL_code_28 : decode cL_code 28 = .ok (.iconst 3, 1) := by decide +kernel
theorem dL_code_29 : decode cL_code 29 = .ok (.if_icmp .ne 8, 3) := by decide +kernel
theorem dL_code_32 : decode cL_code 32 = .ok (.bipush 121, 2) := by decide +kernel
theorem dL_code_34 : decode cL_code 34 = .ok (.goto 14, 3) := by decide +kernel
theorem dL_code_37 : decode cL_code 37 = .ok (.iload_n 0, 1) := by decide +kernel
theorem dL_code_38 : decode cL_code 38 = .ok (.iconst 4, 1) := by decide +kernel
theorem dL_code_39 : decode cL_code 39 = .ok (.if_icmp .ne 7, 3) := by decide +kernel
theorem dL_code_42 : decode cL_code 42 = .ok (.iconst 3, 1) := by decide +kernel
theorem dL_code_43 : decode cL_code 43 = .ok (.goto 5, 3) := by decide +kernel
theorem dL_code_46 : decode cL_code 46 = .ok (.bipush 22, 2) := by decide +kernel
theorem dL_code_48 : decode cL_code 48 = .ok (.ireturn, 1) := by decide +kernel
theorem dL_hubFor_0 : decode cL_hubFor 0 = .ok (.iconst (-1), 1) := by decide +kernel
theorem dL_hubFor_1 : decode cL_hubFor 1 = .ok (.istore_n 2, 1) := by decide +kernel
theorem dL_hubFor_2 : decode cL_hubFor 2 = .ok (.iconst 0, 1) := by decide +kernel
theorem dL_hubFor_3 : decode cL_hubFor 3 = .ok (.istore_n 3, 1) := by decide +kernel
theorem dL_hubFor_4 : decode cL_hubFor 4 = .ok (.iload_n 3, 1) := by decide +kernel
theorem dL_hubFor_5 : decode cL_hubFor 5 = .ok (.aload_n 0, 1) := by decide +kernel
theorem dL_hubFor_6 : decode cL_hubFor 6 = .ok (.iconst 0, 1) := by decide +kernel
theorem dL_hubFor_7 : decode cL_hubFor 7 = .ok (.iaload, 1) := by decide +kernel
theorem dL_hubFor_8 : decode cL_hubFor 8 = .ok (.if_icmp .ge 84, 3) := by decide +kernel
theorem dL_hubFor_11 : decode cL_hubFor 11 = .ok (.aload_n 0, 1) := by decide +kernel
theorem dL_hubFor_12 : decode cL_hubFor 12 = .ok (.bipush 10, 2) := by decide +kernel
theorem dL_hubFor_14 : decode cL_hubFor 14 = .ok (.iconst 2, 1) := by decide +kernel
theorem dL_hubFor_15 : decode cL_hubFor 15 = .ok (.iload_n 3, 1) := by decide +kernel
theorem dL_hubFor_16 : decode cL_hubFor 16 = .ok (.imul, 1) := by decide +kernel
theorem dL_hubFor_17 : decode cL_hubFor 17 = .ok (.iadd, 1) := by decide +kernel
theorem dL_hubFor_18 : decode cL_hubFor 18 = .ok (.iaload, 1) := by decide +kernel
theorem dL_hubFor_19 : decode cL_hubFor 19 = .ok (.istore 4, 2) := by decide +kernel
theorem dL_hubFor_21 : decode cL_hubFor 21 = .ok (.iload 4, 2) := by decide +kernel
theorem dL_hubFor_23 : decode cL_hubFor 23 = .ok (.bipush 10, 2) := by decide +kernel
theorem dL_hubFor_25 : decode cL_hubFor 25 = .ok (.if_icmp .ge 11, 3) := by decide +kernel
theorem dL_hubFor_28 : decode cL_hubFor 28 = .ok (.iload_n 1, 1) := by decide +kernel
theorem dL_hubFor_29 : decode cL_hubFor 29 = .ok (.sipush 1000, 3) := by decide +kernel
theorem dL_hubFor_32 : decode cL_hubFor 32 = .ok (.idiv, 1) := by decide +kernel
theorem dL_hubFor_33 : decode cL_hubFor 33 = .ok (.goto 21, 3) := by decide +kernel
theorem dL_hubFor_36 : decode cL_hubFor 36 = .ok (.iload 4, 2) := by decide +kernel
theorem dL_hubFor_38 : decode cL_hubFor 38 = .ok (.bipush 100, 2) := by decide +kernel
theorem dL_hubFor_40 : decode cL_hubFor 40 = .ok (.if_icmp .ge 10, 3) := by decide +kernel
theorem dL_hubFor_43 : decode cL_hubFor 43 = .ok (.iload_n 1, 1) := by decide +kernel
theorem dL_hubFor_44 : decode cL_hubFor 44 = .ok (.bipush 100, 2) := by decide +kernel
theorem dL_hubFor_46 : decode cL_hubFor 46 = .ok (.idiv, 1) := by decide +kernel
theorem dL_hubFor_47 : decode cL_hubFor 47 = .ok (.goto 7, 3) := by decide +kernel
theorem dL_hubFor_50 : decode cL_hubFor 50 = .ok (.iload_n 1, 1) := by decide +kernel
theorem dL_hubFor_51 : decode cL_hubFor 51 = .ok (.bipush 10, 2) := by decide +kernel
theorem dL_hubFor_53 : decode cL_hubFor 53 = .ok (.idiv, 1) := by decide +kernel
theorem dL_hubFor_54 : decode cL_hubFor 54 = .ok (.istore 5, 2) := by decide +kernel
theorem dL_hubFor_56 : decode cL_hubFor 56 = .ok (.iload 5, 2) := by decide +kernel
theorem dL_hubFor_58 : decode cL_hubFor 58 = .ok (.iload 4, 2) := by decide +kernel
theorem dL_hubFor_60 : decode cL_hubFor 60 = .ok (.if_icmp .ne 24, 3) := by decide +kernel
theorem dL_hubFor_63 : decode cL_hubFor 63 = .ok (.iload_n 2, 1) := by decide +kernel
theorem dL_hubFor_64 : decode cL_hubFor 64 = .ok (.ifCond .lt 16, 3) := by decide +kernel
theorem dL_hubFor_67 : decode cL_hubFor 67 = .ok (.iload 4, 2) := by decide +kernel
theorem dL_hubFor_69 : decode cL_hubFor 69 = .ok (.aload_n 0, 1) := by decide +kernel
theorem dL_hubFor_70 : decode cL_hubFor 70 = .ok (.bipush 10, 2) := by decide +kernel
theorem dL_hubFor_72 : decode cL_hubFor 72 = .ok (.iconst 2, 1) := by decide +kernel
theorem dL_hubFor_73 : decode cL_hubFor 73 = .ok (.iload_n 2, 1) := by decide +kernel
theorem dL_hubFor_74 : decode cL_hubFor 74 = .ok (.imul, 1) := by decide +kernel
theorem dL_hubFor_75 : decode cL_hubFor 75 = .ok (.iadd, 1) := by decide +kernel
theorem dL_hubFor_76 : decode cL_hubFor 76 = .ok (.iaload, 1) := by decide +kernel
theorem dL_hubFor_77 : decode cL_hubFor 77 = .ok (.if_icmp .le 7, 3) := by decide +kernel
theorem dL_hubFor_80 : decode cL_hubFor 80 = .ok (.iload_n 3, 1) := by decide +kernel
theorem dL_hubFor_81 : decode cL_hubFor 81 = .ok (.goto 4, 3) := by decide +kernel
theorem dL_hubFor_84 : decode cL_hubFor 84 = .ok (.iload_n 2, 1) := by decide +kernel
theorem dL_hubFor_85 : decode cL_hubFor 85 = .ok (.istore_n 2, 1) := by decide +kernel
theorem dL_hubFor_86 : decode cL_hubFor 86 = .ok (.iinc 3 1, 3) := by decide +kernel
theorem dL_hubFor_89 : decode cL_hubFor 89 = .ok (.goto (-85), 3) := by decide +kernel
theorem dL_hubFor_92 : decode cL_hubFor 92 = .ok (.iload_n 2, 1) := by decide +kernel
theorem dL_hubFor_93 : decode cL_hubFor 93 = .ok (.ireturn, 1) := by decide +kernel
theorem dL_isLaid_0 : decode cL_isLaid 0 = .ok (.aload_n 2, 1) := by decide +kernel
theorem dL_isLaid_1 : decode cL_isLaid 1 = .ok (.iload_n 3, 1) := by decide +kernel
theorem dL_isLaid_2 : decode cL_isLaid 2 = .ok (.aload_n 1, 1) := by decide +kernel
theorem dL_isLaid_3 : decode cL_isLaid 3 = .ok (.iconst 0, 1) := by decide +kernel
theorem dL_isLaid_4 : decode cL_isLaid 4 = .ok (.iaload, 1) := by decide +kernel
theorem dL_isLaid_5 : decode cL_isLaid 5 = .ok (.invokestatic 106, 3) := by decide +kernel
theorem dL_isLaid_8 : decode cL_isLaid 8 = .ok (.istore 4, 2) := by decide +kernel
theorem dL_isLaid_10 : decode cL_isLaid 10 = .ok (.iload 4, 2) := by decide +kernel
theorem dL_isLaid_12 : decode cL_isLaid 12 = .ok (.iconst 1, 1) := by decide +kernel
theorem dL_isLaid_13 : decode cL_isLaid 13 = .ok (.iadd, 1) := by decide +kernel
theorem dL_isLaid_14 : decode cL_isLaid 14 = .ok (.aload_n 2, 1) := by decide +kernel
theorem dL_isLaid_15 : decode cL_isLaid 15 = .ok (.iload_n 3, 1) := by decide +kernel
theorem dL_isLaid_16 : decode cL_isLaid 16 = .ok (.iconst 1, 1) := by decide +kernel
theorem dL_isLaid_17 : decode cL_isLaid 17 = .ok (.iadd, 1) := by decide +kernel
theorem dL_isLaid_18 : decode cL_isLaid 18 = .ok (.aload_n 1, 1) := by decide +kernel
theorem dL_isLaid_19 : decode cL_isLaid 19 = .ok (.iconst 0, 1) := by decide +kernel
theorem dL_isLaid_20 : decode cL_isLaid 20 = .ok (.iaload, 1) := by decide +kernel
theorem dL_isLaid_21 : decode cL_isLaid 21 = .ok (.iconst 1, 1) := by decide +kernel
theorem dL_isLaid_22 : decode cL_isLaid 22 = .ok (.isub, 1) := by decide +kernel
theorem dL_isLaid_23 : decode cL_isLaid 23 = .ok (.invokestatic 106, 3) := by decide +kernel
theorem dL_isLaid_26 : decode cL_isLaid 26 = .ok (.iadd, 1) := by decide +kernel
theorem dL_isLaid_27 : decode cL_isLaid 27 = .ok (.aload_n 1, 1) := by decide +kernel
theorem dL_isLaid_28 : decode cL_isLaid 28 = .ok (.iconst 0, 1) := by decide +kernel
theorem dL_isLaid_29 : decode cL_isLaid 29 = .ok (.iaload, 1) := by decide +kernel
theorem dL_isLaid_30 : decode cL_isLaid 30 = .ok (.irem, 1) := by decide +kernel
theorem dL_isLaid_31 : decode cL_isLaid 31 = .ok (.istore 5, 2) := by decide +kernel
theorem dL_isLaid_33 : decode cL_isLaid 33 = .ok (.bipush 30, 2) := by decide +kernel
theorem dL_isLaid_35 : decode cL_isLaid 35 = .ok (.bipush 8, 2) := by decide +kernel
theorem dL_isLaid_37 : decode cL_isLaid 37 = .ok (.aload_n 1, 1) := by decide +kernel
theorem dL_isLaid_38 : decode cL_isLaid 38 = .ok (.iconst 1, 1) := by decide +kernel
theorem dL_isLaid_39 : decode cL_isLaid 39 = .ok (.iaload, 1) := by decide +kernel
theorem dL_isLaid_40 : decode cL_isLaid 40 = .ok (.imul, 1) := by decide +kernel
theorem dL_isLaid_41 : decode cL_isLaid 41 = .ok (.iadd, 1) := by decide +kernel
theorem dL_isLaid_42 : decode cL_isLaid 42 = .ok (.istore 6, 2) := by decide +kernel
theorem dL_isLaid_44 : decode cL_isLaid 44 = .ok (.aload_n 2, 1) := by decide +kernel
theorem dL_isLaid_45 : decode cL_isLaid 45 = .ok (.iload_n 3, 1) := by decide +kernel
theorem dL_isLaid_46 : decode cL_isLaid 46 = .ok (.iconst 2, 1) := by decide +kernel
theorem dL_isLaid_47 : decode cL_isLaid 47 = .ok (.iadd, 1) := by decide +kernel
theorem dL_isLaid_48 : decode cL_isLaid 48 = .ok (.bipush 25, 2) := by decide +kernel
theorem dL_isLaid_50 : decode cL_isLaid 50 = .ok (.invokestatic 106, 3) := by decide +kernel
theorem dL_isLaid_53 : decode cL_isLaid 53 = .ok (.istore 7, 2) := by decide +kernel
theorem dL_isLaid_55 : decode cL_isLaid 55 = .ok (.iconst 5, 1) := by decide +kernel
theorem dL_isLaid_56 : decode cL_isLaid 56 = .ok (.aload_n 2, 1) := by decide +kernel
theorem dL_isLaid_57 : decode cL_isLaid 57 = .ok (.iload_n 3, 1) := by decide +kernel
theorem dL_isLaid_58 : decode cL_isLaid 58 = .ok (.iconst 3, 1) := by decide +kernel
theorem dL_isLaid_59 : decode cL_isLaid 59 = .ok (.iadd, 1) := by decide +kernel
theorem dL_isLaid_60 : decode cL_isLaid 60 = .ok (.bipush 16, 2) := by decide +kernel
theorem dL_isLaid_62 : decode cL_isLaid 62 = .ok (.invokestatic 106, 3) := by decide +kernel
theorem dL_isLaid_65 : decode cL_isLaid 65 = .ok (.iadd, 1) := by decide +kernel
theorem dL_isLaid_66 : decode cL_isLaid 66 = .ok (.istore 8, 2) := by decide +kernel
theorem dL_isLaid_68 : decode cL_isLaid 68 = .ok (.iconst 1, 1) := by decide +kernel
theorem dL_isLaid_69 : decode cL_isLaid 69 = .ok (.aload_n 2, 1) := by decide +kernel
theorem dL_isLaid_70 : decode cL_isLaid 70 = .ok (.iload_n 3, 1) := by decide +kernel
theorem dL_isLaid_71 : decode cL_isLaid 71 = .ok (.iconst 4, 1) := by decide +kernel
theorem dL_isLaid_72 : decode cL_isLaid 72 = .ok (.iadd, 1) := by decide +kernel
theorem dL_isLaid_73 : decode cL_isLaid 73 = .ok (.bipush 20, 2) := by decide +kernel
theorem dL_isLaid_75 : decode cL_isLaid 75 = .ok (.invokestatic 106, 3) := by decide +kernel
theorem dL_isLaid_78 : decode cL_isLaid 78 = .ok (.iadd, 1) := by decide +kernel
theorem dL_isLaid_79 : decode cL_isLaid 79 = .ok (.istore 9, 2) := by decide +kernel
theorem dL_isLaid_81 : decode cL_isLaid 81 = .ok (.iconst 1, 1) := by decide +kernel
theorem dL_isLaid_82 : decode cL_isLaid 82 = .ok (.aload_n 2, 1) := by decide +kernel
theorem dL_isLaid_83 : decode cL_isLaid 83 = .ok (.iload_n 3, 1) := by decide +kernel
theorem dL_isLaid_84 : decode cL_isLaid 84 = .ok (.iconst 5, 1) := by decide +kernel
theorem dL_isLaid_85 : decode cL_isLaid 85 = .ok (.iadd, 1) := by decide +kernel
theorem dL_isLaid_86 : decode cL_isLaid 86 = .ok (.aload_n 2, 1) := by decide +kernel
theorem dL_isLaid_87 : decode cL_isLaid 87 = .ok (.iload_n 3, 1) := by decide +kernel
theorem dL_isLaid_88 : decode cL_isLaid 88 = .ok (.bipush 6, 2) := by decide +kernel
theorem dL_isLaid_90 : decode cL_isLaid 90 = .ok (.iadd, 1) := by decide +kernel
theorem dL_isLaid_91 : decode cL_isLaid 91 = .ok (.iconst 4, 1) := by decide +kernel
theorem dL_isLaid_92 : decode cL_isLaid 92 = .ok (.invokestatic 106, 3) := by decide +kernel
theorem dL_isLaid_95 : decode cL_isLaid 95 = .ok (.iconst 1, 1) := by decide +kernel
theorem dL_isLaid_96 : decode cL_isLaid 96 = .ok (.iadd, 1) := by decide +kernel
theorem dL_isLaid_97 : decode cL_isLaid 97 = .ok (.invokestatic 106, 3) := by decide +kernel
theorem dL_isLaid_100 : decode cL_isLaid 100 = .ok (.iadd, 1) := by decide +kernel
theorem dL_isLaid_101 : decode cL_isLaid 101 = .ok (.istore 10, 2) := by decide +kernel
theorem dL_isLaid_103 : decode cL_isLaid 103 = .ok (.aload_n 1, 1) := by decide +kernel
theorem dL_isLaid_104 : decode cL_isLaid 104 = .ok (.iconst 1, 1) := by decide +kernel
theorem dL_isLaid_105 : decode cL_isLaid 105 = .ok (.iaload, 1) := by decide +kernel
theorem dL_isLaid_106 : decode cL_isLaid 106 = .ok (.bipush 12, 2) := by decide +kernel
theorem dL_isLaid_108 : decode cL_isLaid 108 = .ok (.if_icmp .ne 30, 3) := by decide +kernel
theorem dL_isLaid_111 : decode cL_isLaid 111 = .ok (.aload_n 0, 1) := by decide +kernel
theorem dL_isLaid_112 : decode cL_isLaid 112 = .ok (.iload 4, 2) := by decide +kernel
theorem dL_isLaid_114 : decode cL_isLaid 114 = .ok (.iload 5, 2) := by decide +kernel
theorem dL_isLaid_116 : decode cL_isLaid 116 = .ok (.iload 7, 2) := by decide +kernel
theorem dL_isLaid_118 : decode cL_isLaid 118 = .ok (.iload 8, 2) := by decide +kernel
theorem dL_isLaid_120 : decode cL_isLaid 120 = .ok (.iload 9, 2) := by decide +kernel
theorem dL_isLaid_122 : decode cL_isLaid 122 = .ok (.iload 10, 2) := by decide +kernel
theorem dL_isLaid_124 : decode cL_isLaid 124 = .ok (.invokestatic 110, 3) := by decide +kernel
theorem dL_isLaid_127 : decode cL_isLaid 127 = .ok (.ldc 27, 2) := by decide +kernel
theorem dL_isLaid_129 : decode cL_isLaid 129 = .ok (.if_icmp .ne 7, 3) := by decide +kernel
theorem dL_isLaid_132 : decode cL_isLaid 132 = .ok (.iconst 1, 1) := by decide +kernel
theorem dL_isLaid_133 : decode cL_isLaid 133 = .ok (.goto 4, 3) := by decide +kernel
theorem dL_isLaid_136 : decode cL_isLaid 136 = .ok (.iconst 0, 1) := by decide +kernel
theorem dL_isLaid_137 : decode cL_isLaid 137 = .ok (.ireturn, 1) := by decide +kernel
theorem dL_isLaid_138 : decode cL_isLaid 138 = .ok (.aload_n 1, 1) := by decide +kernel
theorem dL_isLaid_139 : decode cL_isLaid 139 = .ok (.iload 6, 2) := by decide +kernel
theorem dL_isLaid_141 : decode cL_isLaid 141 = .ok (.iload 4, 2) := by decide +kernel
theorem dL_isLaid_143 : decode cL_isLaid 143 = .ok (.iastore, 1) := by decide +kernel
theorem dL_isLaid_144 : decode cL_isLaid 144 = .ok (.aload_n 1, 1) := by decide +kernel
theorem dL_isLaid_145 : decode cL_isLaid 145 = .ok (.iload 6, 2) := by decide +kernel
theorem dL_isLaid_147 : decode cL_isLaid 147 = .ok (.iconst 1, 1) := by decide +kernel
theorem dL_isLaid_148 : decode cL_isLaid 148 = .ok (.iadd, 1) := by decide +kernel
theorem dL_isLaid_149 : decode cL_isLaid 149 = .ok (.iload 5, 2) := by decide +kernel
theorem dL_isLaid_151 : decode cL_isLaid 151 = .ok (.iastore, 1) := by decide +kernel
theorem dL_isLaid_152 : decode cL_isLaid 152 = .ok (.aload_n 1, 1) := by decide +kernel
theorem dL_isLaid_153 : decode cL_isLaid 153 = .ok (.iload 6, 2) := by decide +kernel
theorem dL_isLaid_155 : decode cL_isLaid 155 = .ok (.iconst 2, 1) := by decide +kernel
theorem dL_isLaid_156 : decode cL_isLaid 156 = .ok (.iadd, 1) := by decide +kernel
theorem dL_isLaid_157 : decode cL_isLaid 157 = .ok (.iload 7, 2) := by decide +kernel
theorem dL_isLaid_159 : decode cL_isLaid 159 = .ok (.iastore, 1) := by decide +kernel
theorem dL_isLaid_160 : decode cL_isLaid 160 = .ok (.aload_n 1, 1) := by decide +kernel
theorem dL_isLaid_161 : decode cL_isLaid 161 = .ok (.iload 6, 2) := by decide +kernel
theorem dL_isLaid_163 : decode cL_isLaid 163 = .ok (.iconst 3, 1) := by decide +kernel
theorem dL_isLaid_164 : decode cL_isLaid 164 = .ok (.iadd, 1) := by decide +kernel
theorem dL_isLaid_165 : decode cL_isLaid 165 = .ok (.iload 8, 2) := by decide +kernel
theorem dL_isLaid_167 : decode cL_isLaid 167 = .ok (.iastore, 1) := by decide +kernel
theorem dL_isLaid_168 : decode cL_isLaid 168 = .ok (.aload_n 1, 1) := by decide +kernel
theorem dL_isLaid_169 : decode cL_isLaid 169 = .ok (.iload 6, 2) := by decide +kernel
theorem dL_isLaid_171 : decode cL_isLaid 171 = .ok (.iconst 4, 1) := by decide +kernel
theorem dL_isLaid_172 : decode cL_isLaid 172 = .ok (.iadd, 1) := by decide +kernel
theorem dL_isLaid_173 : decode cL_isLaid 173 = .ok (.iload 9, 2) := by decide +kernel
theorem dL_isLaid_175 : decode cL_isLaid 175 = .ok (.iastore, 1) := by decide +kernel
theorem dL_isLaid_176 : decode cL_isLaid 176 = .ok (.aload_n 1, 1) := by decide +kernel
theorem dL_isLaid_177 : decode cL_isLaid 177 = .ok (.iload 6, 2) := by decide +kernel
theorem dL_isLaid_179 : decode cL_isLaid 179 = .ok (.iconst 5, 1) := by decide +kernel
theorem dL_isLaid_180 : decode cL_isLaid 180 = .ok (.iadd, 1) := by decide +kernel
theorem dL_isLaid_181 : decode cL_isLaid 181 = .ok (.iload 10, 2) := by decide +kernel
theorem dL_isLaid_183 : decode cL_isLaid 183 = .ok (.iastore, 1) := by decide +kernel
theorem dL_isLaid_184 : decode cL_isLaid 184 = .ok (.aload_n 1, 1) := by decide +kernel
theorem dL_isLaid_185 : decode cL_isLaid 185 = .ok (.iconst 1, 1) := by decide +kernel
theorem dL_isLaid_186 : decode cL_isLaid 186 = .ok (.dup2, 1) := by decide +kernel
theorem dL_isLaid_187 : decode cL_isLaid 187 = .ok (.iaload, 1) := by decide +kernel
theorem dL_isLaid_188 : decode cL_isLaid 188 = .ok (.iconst 1, 1) := by decide +kernel
theorem dL_isLaid_189 : decode cL_isLaid 189 = .ok (.iadd, 1) := by decide +kernel
theorem dL_isLaid_190 : decode cL_isLaid 190 = .ok (.iastore, 1) := by decide +kernel
theorem dL_isLaid_191 : decode cL_isLaid 191 = .ok (.aload_n 0, 1) := by decide +kernel
theorem dL_isLaid_192 : decode cL_isLaid 192 = .ok (.iload 4, 2) := by decide +kernel
theorem dL_isLaid_194 : decode cL_isLaid 194 = .ok (.iload 5, 2) := by decide +kernel
theorem dL_isLaid_196 : decode cL_isLaid 196 = .ok (.iload 7, 2) := by decide +kernel
theorem dL_isLaid_198 : decode cL_isLaid 198 = .ok (.iload 8, 2) := by decide +kernel
theorem dL_isLaid_200 : decode cL_isLaid 200 = .ok (.iload 9, 2) := by decide +kernel
theorem dL_isLaid_202 : decode cL_isLaid 202 = .ok (.iload 10, 2) := by decide +kernel
theorem dL_isLaid_204 : decode cL_isLaid 204 = .ok (.invokestatic 110, 3) := by decide +kernel
theorem dL_isLaid_207 : decode cL_isLaid 207 = .ok (.aload_n 1, 1) := by decide +kernel
theorem dL_isLaid_208 : decode cL_isLaid 208 = .ok (.iconst 1, 1) := by decide +kernel
theorem dL_isLaid_209 : decode cL_isLaid 209 = .ok (.iaload, 1) := by decide +kernel
theorem dL_isLaid_210 : decode cL_isLaid 210 = .ok (.iconst 1, 1) := by decide +kernel
theorem dL_isLaid_211 : decode cL_isLaid 211 = .ok (.isub, 1) := by decide +kernel
theorem dL_isLaid_212 : decode cL_isLaid 212 = .ok (.if_icmp .ne 7, 3) := by decide +kernel
theorem dL_isLaid_215 : decode cL_isLaid 215 = .ok (.iconst 1, 1) := by decide +kernel
theorem dL_isLaid_216 : decode cL_isLaid 216 = .ok (.goto 4, 3) := by decide +kernel
theorem dL_isLaid_219 : decode cL_isLaid 219 = .ok (.iconst 0, 1) := by decide +kernel
theorem dL_isLaid_220 : decode cL_isLaid 220 = .ok (.ireturn, 1) := by decide +kernel
theorem dL_begun_0 : decode cL_begun 0 = .ok (.new 10, 3) := by decide +kernel
theorem dL_begun_3 : decode cL_begun 3 = .ok (.dup, 1) := by decide +kernel
theorem dL_begun_4 : decode cL_begun 4 = .ok (.invokespecial 113, 3) := by decide +kernel
theorem dL_begun_7 : decode cL_begun 7 = .ok (.astore_n 2, 1) := by decide +kernel
theorem dL_begun_8 : decode cL_begun 8 = .ok (.iconst 2, 1) := by decide +kernel
theorem dL_begun_9 : decode cL_begun 9 = .ok (.aload_n 0, 1) := by decide +kernel
theorem dL_begun_10 : decode cL_begun 10 = .ok (.iconst 0, 1) := by decide +kernel
theorem dL_begun_11 : decode cL_begun 11 = .ok (.iconst 4, 1) := by decide +kernel
theorem dL_begun_12 : decode cL_begun 12 = .ok (.invokestatic 106, 3) := by decide +kernel
theorem dL_begun_15 : decode cL_begun 15 = .ok (.iadd, 1) := by decide +kernel
theorem dL_begun_16 : decode cL_begun 16 = .ok (.istore_n 3, 1) := by decide +kernel
theorem dL_begun_17 : decode cL_begun 17 = .ok (.iconst 1, 1) := by decide +kernel
theorem dL_begun_18 : decode cL_begun 18 = .ok (.istore 4, 2) := by decide +kernel
theorem dL_begun_20 : decode cL_begun 20 = .ok (.iconst 0, 1) := by decide +kernel
theorem dL_begun_21 : decode cL_begun 21 = .ok (.istore 5, 2) := by decide +kernel
theorem dL_begun_23 : decode cL_begun 23 = .ok (.iload 5, 2) := by decide +kernel
theorem dL_begun_25 : decode cL_begun 25 = .ok (.iload_n 3, 1) := by decide +kernel
theorem dL_begun_26 : decode cL_begun 26 = .ok (.if_icmp .ge 93, 3) := by decide +kernel
theorem dL_begun_29 : decode cL_begun 29 = .ok (.aload_n 1, 1) := by decide +kernel
theorem dL_begun_30 : decode cL_begun 30 = .ok (.bipush 10, 2) := by decide +kernel
theorem dL_begun_32 : decode cL_begun 32 = .ok (.iconst 2, 1) := by decide +kernel
theorem dL_begun_33 : decode cL_begun 33 = .ok (.iload 5, 2) := by decide +kernel
theorem dL_begun_35 : decode cL_begun 35 = .ok (.imul, 1) := by decide +kernel
theorem dL_begun_36 : decode cL_begun 36 = .ok (.iadd, 1) := by decide +kernel
theorem dL_begun_37 : decode cL_begun 37 = .ok (.iload 5, 2) := by decide +kernel
theorem dL_begun_39 : decode cL_begun 39 = .ok (.aload_n 0, 1) := by decide +kernel
theorem dL_begun_40 : decode cL_begun 40 = .ok (.iconst 1, 1) := by decide +kernel
theorem dL_begun_41 : decode cL_begun 41 = .ok (.iconst 2, 1) := by decide +kernel
theorem dL_begun_42 : decode cL_begun 42 = .ok (.invokestatic 106, 3) := by decide +kernel
theorem dL_begun_45 : decode cL_begun 45 = .ok (.iconst 2, 1) := by decide +kernel
theorem dL_begun_46 : decode cL_begun 46 = .ok (.imul, 1) := by decide +kernel
theorem dL_begun_47 : decode cL_begun 47 = .ok (.iadd, 1) := by decide +kernel
theorem dL_begun_48 : decode cL_begun 48 = .ok (.bipush 6, 2) := by decide +kernel
theorem dL_begun_50 : decode cL_begun 50 = .ok (.irem, 1) := by decide +kernel
theorem dL_begun_51 : decode cL_begun 51 = .ok (.invokestatic 114, 3) := by decide +kernel
