/-! the law: decode rows 5 -/
theorem dL_isTurned_36 : decode cL_isTurned 36 = .ok (.iaload, 1) := by decide +kernel
theorem dL_isTurned_37 : decode cL_isTurned 37 = .ok (.if_icmp .ne 8, 3) := by decide +kernel
theorem dL_isTurned_40 : decode cL_isTurned 40 = .ok (.iload 4, 2) := by decide +kernel
theorem dL_isTurned_42 : decode cL_isTurned 42 = .ok (.goto 4, 3) := by decide +kernel
theorem dL_isTurned_45 : decode cL_isTurned 45 = .ok (.iconst (-1), 1) := by decide +kernel
theorem dL_isTurned_46 : decode cL_isTurned 46 = .ok (.iastore, 1) := by decide +kernel
theorem dL_isTurned_47 : decode cL_isTurned 47 = .ok (.aload_n 0, 1) := by decide +kernel
theorem dL_isTurned_48 : decode cL_isTurned 48 = .ok (.iload_n 2, 1) := by decide +kernel
theorem dL_isTurned_49 : decode cL_isTurned 49 = .ok (.invokevirtual 151, 3) := by decide +kernel
theorem dL_isTurned_52 : decode cL_isTurned 52 = .ok (.ifCond .eq 51, 3) := by decide +kernel
theorem dL_isTurned_55 : decode cL_isTurned 55 = .ok (.aload_n 0, 1) := by decide +kernel
theorem dL_isTurned_56 : decode cL_isTurned 56 = .ok (.iload_n 2, 1) := by decide +kernel
theorem dL_isTurned_57 : decode cL_isTurned 57 = .ok (.invokevirtual 128, 3) := by decide +kernel
theorem dL_isTurned_60 : decode cL_isTurned 60 = .ok (.aload_n 1, 1) := by decide +kernel
theorem dL_isTurned_61 : decode cL_isTurned 61 = .ok (.iload_n 3, 1) := by decide +kernel
theorem dL_isTurned_62 : decode cL_isTurned 62 = .ok (.iconst 2, 1) := by decide +kernel
theorem dL_isTurned_63 : decode cL_isTurned 63 = .ok (.iadd, 1) := by decide +kernel
theorem dL_isTurned_64 : decode cL_isTurned 64 = .ok (.iaload, 1) := by decide +kernel
theorem dL_isTurned_65 : decode cL_isTurned 65 = .ok (.if_icmp .ne 38, 3) := by decide +kernel
theorem dL_isTurned_68 : decode cL_isTurned 68 = .ok (.aload_n 0, 1) := by decide +kernel
theorem dL_isTurned_69 : decode cL_isTurned 69 = .ok (.iload_n 2, 1) := by decide +kernel
theorem dL_isTurned_70 : decode cL_isTurned 70 = .ok (.invokevirtual 166, 3) := by decide +kernel
theorem dL_isTurned_73 : decode cL_isTurned 73 = .ok (.ifCond .ne 30, 3) := by decide +kernel
theorem dL_isTurned_76 : decode cL_isTurned 76 = .ok (.aload_n 0, 1) := by decide +kernel
theorem dL_isTurned_77 : decode cL_isTurned 77 = .ok (.iload_n 2, 1) := by decide +kernel
theorem dL_isTurned_78 : decode cL_isTurned 78 = .ok (.invokevirtual 142, 3) := by decide +kernel
theorem dL_isTurned_81 : decode cL_isTurned 81 = .ok (.aload_n 0, 1) := by decide +kernel
theorem dL_isTurned_82 : decode cL_isTurned 82 = .ok (.iload_n 2, 1) := by decide +kernel
theorem dL_isTurned_83 : decode cL_isTurned 83 = .ok (.invokestatic 145, 3) := by decide +kernel
theorem dL_isTurned_86 : decode cL_isTurned 86 = .ok (.if_icmp .ne 17, 3) := by decide +kernel
theorem dL_isTurned_89 : decode cL_isTurned 89 = .ok (.aload_n 0, 1) := by decide +kernel
theorem dL_isTurned_90 : decode cL_isTurned 90 = .ok (.iload_n 2, 1) := by decide +kernel
theorem dL_isTurned_91 : decode cL_isTurned 91 = .ok (.invokestatic 147, 3) := by decide +kernel
theorem dL_isTurned_94 : decode cL_isTurned 94 = .ok (.bipush 115, 2) := by decide +kernel
theorem dL_isTurned_96 : decode cL_isTurned 96 = .ok (.if_icmp .ne 7, 3) := by decide +kernel
theorem dL_isTurned_99 : decode cL_isTurned 99 = .ok (.iconst 1, 1) := by decide +kernel
theorem dL_isTurned_100 : decode cL_isTurned 100 = .ok (.goto 4, 3) := by decide +kernel
theorem dL_isTurned_103 : decode cL_isTurned 103 = .ok (.iconst 0, 1) := by decide +kernel
theorem dL_isTurned_104 : decode cL_isTurned 104 = .ok (.ireturn, 1) := by decide +kernel
theorem dL_isDelivered_0 : decode cL_isDelivered 0 = .ok (.sipush 140, 3) := by decide +kernel
theorem dL_isDelivered_3 : decode cL_isDelivered 3 = .ok (.bipush 12, 2) := by decide +kernel
theorem dL_isDelivered_5 : decode cL_isDelivered 5 = .ok (.iload 4, 2) := by decide +kernel
theorem dL_isDelivered_7 : decode cL_isDelivered 7 = .ok (.imul, 1) := by decide +kernel
theorem dL_isDelivered_8 : decode cL_isDelivered 8 = .ok (.iadd, 1) := by decide +kernel
theorem dL_isDelivered_9 : decode cL_isDelivered 9 = .ok (.istore 5, 2) := by decide +kernel
theorem dL_isDelivered_11 : decode cL_isDelivered 11 = .ok (.aload_n 0, 1) := by decide +kernel
theorem dL_isDelivered_12 : decode cL_isDelivered 12 = .ok (.iload 4, 2) := by decide +kernel
theorem dL_isDelivered_14 : decode cL_isDelivered 14 = .ok (.invokestatic 147, 3) := by decide +kernel
theorem dL_isDelivered_17 : decode cL_isDelivered 17 = .ok (.bipush 115, 2) := by decide +kernel
theorem dL_isDelivered_19 : decode cL_isDelivered 19 = .ok (.if_icmp .ne 22, 3) := by decide +kernel
theorem dL_isDelivered_22 : decode cL_isDelivered 22 = .ok (.aload_n 0, 1) := by decide +kernel
theorem dL_isDelivered_23 : decode cL_isDelivered 23 = .ok (.iload 4, 2) := by decide +kernel
theorem dL_isDelivered_25 : decode cL_isDelivered 25 = .ok (.invokestatic 149, 3) := by decide +kernel
theorem dL_isDelivered_28 : decode cL_isDelivered 28 = .ok (.aload_n 0, 1) := by decide +kernel
theorem dL_isDelivered_29 : decode cL_isDelivered 29 = .ok (.iload 4, 2) := by decide +kernel
theorem dL_isDelivered_31 : decode cL_isDelivered 31 = .ok (.invokevirtual 128, 3) := by decide +kernel
theorem dL_isDelivered_34 : decode cL_isDelivered 34 = .ok (.if_icmp .ne 7, 3) := by decide +kernel
theorem dL_isDelivered_37 : decode cL_isDelivered 37 = .ok (.iconst 1, 1) := by decide +kernel
theorem dL_isDelivered_38 : decode cL_isDelivered 38 = .ok (.goto 4, 3) := by decide +kernel
theorem dL_isDelivered_41 : decode cL_isDelivered 41 = .ok (.iconst 0, 1) := by decide +kernel
theorem dL_isDelivered_42 : decode cL_isDelivered 42 = .ok (.istore 6, 2) := by decide +kernel
theorem dL_isDelivered_44 : decode cL_isDelivered 44 = .ok (.aload_n 2, 1) := by decide +kernel
theorem dL_isDelivered_45 : decode cL_isDelivered 45 = .ok (.iload_n 3, 1) := by decide +kernel
theorem dL_isDelivered_46 : decode cL_isDelivered 46 = .ok (.iconst 3, 1) := by decide +kernel
theorem dL_isDelivered_47 : decode cL_isDelivered 47 = .ok (.invokestatic 106, 3) := by decide +kernel
theorem dL_isDelivered_50 : decode cL_isDelivered 50 = .ok (.ifCond .ne 7, 3) := by decide +kernel
theorem dL_isDelivered_53 : decode cL_isDelivered 53 = .ok (.iconst 1, 1) := by decide +kernel
theorem dL_isDelivered_54 : decode cL_isDelivered 54 = .ok (.goto 4, 3) := by decide +kernel
theorem dL_isDelivered_57 : decode cL_isDelivered 57 = .ok (.iconst 0, 1) := by decide +kernel
theorem dL_isDelivered_58 : decode cL_isDelivered 58 = .ok (.istore 7, 2) := by decide +kernel
theorem dL_isDelivered_60 : decode cL_isDelivered 60 = .ok (.aload_n 0, 1) := by decide +kernel
theorem dL_isDelivered_61 : decode cL_isDelivered 61 = .ok (.iload 4, 2) := by decide +kernel
theorem dL_isDelivered_63 : decode cL_isDelivered 63 = .ok (.invokevirtual 166, 3) := by decide +kernel
theorem dL_isDelivered_66 : decode cL_isDelivered 66 = .ok (.iconst 1, 1) := by decide +kernel
theorem dL_isDelivered_67 : decode cL_isDelivered 67 = .ok (.iadd, 1) := by decide +kernel
theorem dL_isDelivered_68 : decode cL_isDelivered 68 = .ok (.istore 8, 2) := by decide +kernel
theorem dL_isDelivered_70 : decode cL_isDelivered 70 = .ok (.aload_n 0, 1) := by decide +kernel
theorem dL_isDelivered_71 : decode cL_isDelivered 71 = .ok (.iload 4, 2) := by decide +kernel
theorem dL_isDelivered_73 : decode cL_isDelivered 73 = .ok (.invokevirtual 151, 3) := by decide +kernel
theorem dL_isDelivered_76 : decode cL_isDelivered 76 = .ok (.istore 9, 2) := by decide +kernel
theorem dL_isDelivered_78 : decode cL_isDelivered 78 = .ok (.iload 6, 2) := by decide +kernel
theorem dL_isDelivered_80 : decode cL_isDelivered 80 = .ok (.ifCond .ne 8, 3) := by decide +kernel
theorem dL_isDelivered_83 : decode cL_isDelivered 83 = .ok (.ldc 20, 2) := by decide +kernel
theorem dL_isDelivered_85 : decode cL_isDelivered 85 = .ok (.goto 43, 3) := by decide +kernel
theorem dL_isDelivered_88 : decode cL_isDelivered 88 = .ok (.iload 7, 2) := by decide +kernel
theorem dL_isDelivered_90 : decode cL_isDelivered 90 = .ok (.ifCond .eq 8, 3) := by decide +kernel
theorem dL_isDelivered_93 : decode cL_isDelivered 93 = .ok (.bipush 100, 2) := by decide +kernel
theorem dL_isDelivered_95 : decode cL_isDelivered 95 = .ok (.goto 33, 3) := by decide +kernel
theorem dL_isDelivered_98 : decode cL_isDelivered 98 = .ok (.iload 8, 2) := by decide +kernel
theorem dL_isDelivered_100 : decode cL_isDelivered 100 = .ok (.iconst 3, 1) := by decide +kernel
theorem dL_isDelivered_101 : decode cL_isDelivered 101 = .ok (.aload_n 1, 1) := by decide +kernel
theorem dL_isDelivered_102 : decode cL_isDelivered 102 = .ok (.iload 5, 2) := by decide +kernel
theorem dL_isDelivered_104 : decode cL_isDelivered 104 = .ok (.iconst 1, 1) := by decide +kernel
theorem dL_isDelivered_105 : decode cL_isDelivered 105 = .ok (.iadd, 1) := by decide +kernel
theorem dL_isDelivered_106 : decode cL_isDelivered 106 = .ok (.iaload, 1) := by decide +kernel
theorem dL_isDelivered_107 : decode cL_isDelivered 107 = .ok (.isub, 1) := by decide +kernel
theorem dL_isDelivered_108 : decode cL_isDelivered 108 = .ok (.if_icmp .ge 8, 3) := by decide +kernel
theorem dL_isDelivered_111 : decode cL_isDelivered 111 = .ok (.bipush 119, 2) := by decide +kernel
theorem dL_isDelivered_113 : decode cL_isDelivered 113 = .ok (.goto 15, 3) := by decide +kernel
theorem dL_isDelivered_116 : decode cL_isDelivered 116 = .ok (.iload 9, 2) := by decide +kernel
theorem dL_isDelivered_118 : decode cL_isDelivered 118 = .ok (.ifCond .eq 8, 3) := by decide +kernel
theorem dL_isDelivered_121 : decode cL_isDelivered 121 = .ok (.bipush 104, 2) := by decide +kernel
theorem dL_isDelivered_123 : decode cL_isDelivered 123 = .ok (.goto 5, 3) := by decide +kernel
theorem dL_isDelivered_126 : decode cL_isDelivered 126 = .ok (.bipush 114, 2) := by decide +kernel
theorem dL_isDelivered_128 : decode cL_isDelivered 128 = .ok (.istore 10, 2) := by decide +kernel
theorem dL_isDelivered_130 : decode cL_isDelivered 130 = .ok (.aload_n 0, 1) := by decide +kernel
theorem dL_isDelivered_131 : decode cL_isDelivered 131 = .ok (.iload 4, 2) := by decide +kernel
theorem dL_isDelivered_133 : decode cL_isDelivered 133 = .ok (.iload 7, 2) := by decide +kernel
theorem dL_isDelivered_135 : decode cL_isDelivered 135 = .ok (.invokestatic 169, 3) := by decide +kernel
theorem dL_isDelivered_138 : decode cL_isDelivered 138 = .ok (.iload 10, 2) := by decide +kernel
theorem dL_isDelivered_140 : decode cL_isDelivered 140 = .ok (.if_icmp .eq 5, 3) := by decide +kernel
theorem dL_isDelivered_143 : decode cL_isDelivered 143 = .ok (.iconst 0, 1) := by decide +kernel
theorem dL_isDelivered_144 : decode cL_isDelivered 144 = .ok (.ireturn, 1) := by decide +kernel
theorem dL_isDelivered_145 : decode cL_isDelivered 145 = .ok (.aload_n 1, 1) := by decide +kernel
theorem dL_isDelivered_146 : decode cL_isDelivered 146 = .ok (.iload 5, 2) := by decide +kernel
theorem dL_isDelivered_148 : decode cL_isDelivered 148 = .ok (.bipush 11, 2) := by decide +kernel
theorem dL_isDelivered_150 : decode cL_isDelivered 150 = .ok (.iadd, 1) := by decide +kernel
theorem dL_isDelivered_151 : decode cL_isDelivered 151 = .ok (.iload 10, 2) := by decide +kernel
theorem dL_isDelivered_153 : decode cL_isDelivered 153 = .ok (.bipush 100, 2) := by decide +kernel
theorem dL_isDelivered_155 : decode cL_isDelivered 155 = .ok (.if_icmp .ne 10, 3) := by decide +kernel
theorem dL_isDelivered_158 : decode cL_isDelivered 158 = .ok (.aload_n 0, 1) := by decide +kernel
theorem dL_isDelivered_159 : decode cL_isDelivered 159 = .ok (.invokevirtual 124, 3) := by decide +kernel
theorem dL_isDelivered_162 : decode cL_isDelivered 162 = .ok (.goto 10, 3) := by decide +kernel
theorem dL_isDelivered_165 : decode cL_isDelivered 165 = .ok (.aload_n 1, 1) := by decide +kernel
theorem dL_isDelivered_166 : decode cL_isDelivered 166 = .ok (.iload 5, 2) := by decide +kernel
theorem dL_isDelivered_168 : decode cL_isDelivered 168 = .ok (.bipush 11, 2) := by decide +kernel
theorem dL_isDelivered_170 : decode cL_isDelivered 170 = .ok (.iadd, 1) := by decide +kernel
theorem dL_isDelivered_171 : decode cL_isDelivered 171 = .ok (.iaload, 1) := by decide +kernel
theorem dL_isDelivered_172 : decode cL_isDelivered 172 = .ok (.iastore, 1) := by decide +kernel
theorem dL_isDelivered_173 : decode cL_isDelivered 173 = .ok (.iload 10, 2) := by decide +kernel
theorem dL_isDelivered_175 : decode cL_isDelivered 175 = .ok (.bipush 114, 2) := by decide +kernel
theorem dL_isDelivered_177 : decode cL_isDelivered 177 = .ok (.if_icmp .ne 13, 3) := by decide +kernel
theorem dL_isDelivered_180 : decode cL_isDelivered 180 = .ok (.aload_n 0, 1) := by decide +kernel
theorem dL_isDelivered_181 : decode cL_isDelivered 181 = .ok (.aload_n 1, 1) := by decide +kernel
theorem dL_isDelivered_182 : decode cL_isDelivered 182 = .ok (.iload 4, 2) := by decide +kernel
theorem dL_isDelivered_184 : decode cL_isDelivered 184 = .ok (.invokestatic 172, 3) := by decide +kernel
theorem dL_isDelivered_187 : decode cL_isDelivered 187 = .ok (.goto 56, 3) := by decide +kernel
theorem dL_isDelivered_190 : decode cL_isDelivered 190 = .ok (.iload 10, 2) := by decide +kernel
theorem dL_isDelivered_192 : decode cL_isDelivered 192 = .ok (.ldc 20, 2) := by decide +kernel
theorem dL_isDelivered_194 : decode cL_isDelivered 194 = .ok (.if_icmp .eq 44, 3) := by decide +kernel
theorem dL_isDelivered_197 : decode cL_isDelivered 197 = .ok (.aload_n 0, 1) := by decide +kernel
theorem dL_isDelivered_198 : decode cL_isDelivered 198 = .ok (.iload 4, 2) := by decide +kernel
theorem dL_isDelivered_200 : decode cL_isDelivered 200 = .ok (.invokestatic 147, 3) := by decide +kernel
theorem dL_isDelivered_203 : decode cL_isDelivered 203 = .ok (.iload 10, 2) := by decide +kernel
theorem dL_isDelivered_205 : decode cL_isDelivered 205 = .ok (.bipush 119, 2) := by decide +kernel
theorem dL_isDelivered_207 : decode cL_isDelivered 207 = .ok (.if_icmp .ne 8, 3) := by decide +kernel
theorem dL_isDelivered_210 : decode cL_isDelivered 210 = .ok (.bipush 115, 2) := by decide +kernel
theorem dL_isDelivered_212 : decode cL_isDelivered 212 = .ok (.goto 5, 3) := by decide +kernel
theorem dL_isDelivered_215 : decode cL_isDelivered 215 = .ok (.iload 10, 2) := by decide +kernel
theorem dL_isDelivered_217 : decode cL_isDelivered 217 = .ok (.if_icmp .ne 25, 3) := by decide +kernel
theorem dL_isDelivered_220 : decode cL_isDelivered 220 = .ok (.iload 10, 2) := by decide +kernel
theorem dL_isDelivered_222 : decode cL_isDelivered 222 = .ok (.bipush 100, 2) := by decide +kernel
theorem dL_isDelivered_224 : decode cL_isDelivered 224 = .ok (.if_icmp .eq 14, 3) := by decide +kernel
theorem dL_isDelivered_227 : decode cL_isDelivered 227 = .ok (.aload_n 0, 1) := by decide +kernel
theorem dL_isDelivered_228 : decode cL_isDelivered 228 = .ok (.iload 4, 2) := by decide +kernel
theorem dL_isDelivered_230 : decode cL_isDelivered 230 = .ok (.invokevirtual 166, 3) := by decide +kernel
theorem dL_isDelivered_233 : decode cL_isDelivered 233 = .ok (.iload 8, 2) := by decide +kernel
theorem dL_isDelivered_235 : decode cL_isDelivered 235 = .ok (.if_icmp .ne 7, 3) := by decide +kernel
theorem dL_isDelivered_238 : decode cL_isDelivered 238 = .ok (.iconst 1, 1) := by decide +kernel
theorem dL_isDelivered_239 : decode cL_isDelivered 239 = .ok (.goto 4, 3) := by decide +kernel
theorem dL_isDelivered_242 : decode cL_isDelivered 242 = .ok (.iconst 0, 1) := by decide +kernel
theorem dL_isDelivered_243 : decode cL_isDelivered 243 = .ok (.ireturn, 1) := by decide +kernel
theorem dL_isDone_0 : decode cL_isDone 0 = .ok (.aload_n 2, 1) := by decide +kernel
theorem dL_isDone_1 : decode cL_isDone 1 = .ok (.iload_n 3, 1) := by decide +kernel
theorem dL_isDone_2 : decode cL_isDone 2 = .ok (.iconst 1, 1) := by decide +kernel
theorem dL_isDone_3 : decode cL_isDone 3 = .ok (.iadd, 1) := by decide +kernel
theorem dL_isDone_4 : decode cL_isDone 4 = .ok (.aload_n 1, 1) := by decide +kernel
theorem dL_isDone_5 : decode cL_isDone 5 = .ok (.iconst 2, 1) := by decide +kernel
theorem dL_isDone_6 : decode cL_isDone 6 = .ok (.iaload, 1) := by decide +kernel
theorem dL_isDone_7 : decode cL_isDone 7 = .ok (.iconst 1, 1) := by decide +kernel
theorem dL_isDone_8 : decode cL_isDone 8 = .ok (.iadd, 1) := by decide +kernel
theorem dL_isDone_9 : decode cL_isDone 9 = .ok (.invokestatic 106, 3) := by decide +kernel
theorem dL_isDone_12 : decode cL_isDone 12 = .ok (.iconst 1, 1) := by decide +kernel
theorem dL_isDone_13 : decode cL_isDone 13 = .ok (.aload_n 1, 1) := by decide +kernel
theorem dL_isDone_14 : decode cL_isDone 14 = .ok (.iconst 2, 1) := by decide +kernel
theorem dL_isDone_15 : decode cL_isDone 15 = .ok (.iaload, 1) := by decide +kernel
theorem dL_isDone_16 : decode cL_isDone 16 = .ok (.invokestatic 176, 3) := by decide +kernel
theorem dL_isDone_19 : decode cL_isDone 19 = .ok (.irem, 1) := by decide +kernel
theorem dL_isDone_20 : decode cL_isDone 20 = .ok (.istore 4, 2) := by decide +kernel
theorem dL_isDone_22 : decode cL_isDone 22 = .ok (.aload_n 1, 1) := by decide +kernel
theorem dL_isDone_23 : decode cL_isDone 23 = .ok (.iconst 2, 1) := by decide +kernel
theorem dL_isDone_24 : decode cL_isDone 24 = .ok (.iaload, 1) := by decide +kernel
theorem dL_isDone_25 : decode cL_isDone 25 = .ok (.ifCond .ne 7, 3) := by decide +kernel
theorem dL_isDone_28 : decode cL_isDone 28 = .ok (.iconst 0, 1) := by decide +kernel
theorem dL_isDone_29 : decode cL_isDone 29 = .ok (.goto 10, 3) := by decide +kernel
theorem dL_isDone_32 : decode cL_isDone 32 = .ok (.aload_n 2, 1) := by decide +kernel
theorem dL_isDone_33 : decode cL_isDone 33 = .ok (.iload_n 3, 1) := by decide +kernel
theorem dL_isDone_34 : decode cL_isDone 34 = .ok (.bipush 12, 2) := by decide +kernel
theorem dL_isDone_36 : decode cL_isDone 36 = .ok (.invokestatic 106, 3) := by decide +kernel
theorem dL_isDone_39 : decode cL_isDone 39 = .ok (.istore 5, 2) := by decide +kernel
theorem dL_isDone_41 : decode cL_isDone 41 = .ok (.iload 5, 2) := by decide +kernel
theorem dL_isDone_43 : decode cL_isDone 43 = .ok (.iconst 3, 1) := by decide +kernel
theorem dL_isDone_44 : decode cL_isDone 44 = .ok (.if_icmp .ge 13, 3) := by decide +kernel
theorem dL_isDone_47 : decode cL_isDone 47 = .ok (.aload_n 0, 1) := by decide +kernel
theorem dL_isDone_48 : decode cL_isDone 48 = .ok (.aload_n 1, 1) := by decide +kernel
theorem dL_isDone_49 : decode cL_isDone 49 = .ok (.aload_n 2, 1) := by decide +kernel
theorem dL_isDone_50 : decode cL_isDone 50 = .ok (.iload_n 3, 1) := by decide +kernel
theorem dL_isDone_51 : decode cL_isDone 51 = .ok (.iconst 2, 1) := by decide +kernel
theorem dL_isDone_52 : decode cL_isDone 52 = .ok (.iadd, 1) := by decide +kernel
theorem dL_isDone_53 : decode cL_isDone 53 = .ok (.invokestatic 181, 3) := by decide +kernel
theorem dL_isDone_56 : decode cL_isDone 56 = .ok (.ireturn, 1) := by decide +kernel
theorem dL_isDone_57 : decode cL_isDone 57 = .ok (.iload 5, 2) := by decide +kernel
theorem dL_isDone_59 : decode cL_isDone 59 = .ok (.bipush 7, 2) := by decide +kernel
theorem dL_isDone_61 : decode cL_isDone 61 = .ok (.if_icmp .ge 15, 3) := by decide +kernel
theorem dL_isDone_64 : decode cL_isDone 64 = .ok (.aload_n 0, 1) := by decide +kernel
theorem dL_isDone_65 : decode cL_isDone 65 = .ok (.aload_n 1, 1) := by decide +kernel
theorem dL_isDone_66 : decode cL_isDone 66 = .ok (.aload_n 2, 1) := by decide +kernel
theorem dL_isDone_67 : decode cL_isDone 67 = .ok (.iload_n 3, 1) := by decide +kernel
theorem dL_isDone_68 : decode cL_isDone 68 = .ok (.iconst 2, 1) := by decide +kernel
theorem dL_isDone_69 : decode cL_isDone 69 = .ok (.iadd, 1) := by decide +kernel
theorem dL_isDone_70 : decode cL_isDone 70 = .ok (.iload 4, 2) := by decide +kernel
theorem dL_isDone_72 : decode cL_isDone 72 = .ok (.invokestatic 184, 3) := by decide +kernel
theorem dL_isDone_75 : decode cL_isDone 75 = .ok (.ireturn, 1) := by decide +kernel
theorem dL_isDone_76 : decode cL_isDone 76 = .ok (.iload 5, 2) := by decide +kernel
theorem dL_isDone_78 : decode cL_isDone 78 = .ok (.bipush 9, 2) := by decide +kernel
theorem dL_isDone_80 : decode cL_isDone 80 = .ok (.if_icmp .ge 15, 3) := by decide +kernel
theorem dL_isDone_83 : decode cL_isDone 83 = .ok (.aload_n 0, 1) := by decide +kernel
theorem dL_isDone_84 : decode cL_isDone 84 = .ok (.aload_n 1, 1) := by decide +kernel
theorem dL_isDone_85 : decode cL_isDone 85 = .ok (.aload_n 2, 1) := by decide +kernel
theorem dL_isDone_86 : decode cL_isDone 86 = .ok (.iload_n 3, 1) := by decide +kernel
theorem dL_isDone_87 : decode cL_isDone 87 = .ok (.iconst 2, 1) := by decide +kernel
theorem dL_isDone_88 : decode cL_isDone 88 = .ok (.iadd, 1) := by decide +kernel
theorem dL_isDone_89 : decode cL_isDone 89 = .ok (.iload 4, 2) := by decide +kernel
theorem dL_isDone_91 : decode cL_isDone 91 = .ok (.invokestatic 188, 3) := by decide +kernel
theorem dL_isDone_94 : decode cL_isDone 94 = .ok (.ireturn, 1) := by decide +kernel
theorem dL_isDone_95 : decode cL_isDone 95 = .ok (.iload 5, 2) := by decide +kernel
theorem dL_isDone_97 : decode cL_isDone 97 = .ok (.bipush 9, 2) := by decide +kernel
theorem dL_isDone_99 : decode cL_isDone 99 = .ok (.if_icmp .ne 85, 3) := by decide +kernel
theorem dL_isDone_102 : decode cL_isDone 102 = .ok (.aload_n 0, 1) := by decide +kernel
theorem dL_isDone_103 : decode cL_isDone 103 = .ok (.iload 4, 2) := by decide +kernel
theorem dL_isDone_105 : decode cL_isDone 105 = .ok (.invokestatic 147, 3) := by decide +kernel
theorem dL_isDone_108 : decode cL_isDone 108 = .ok (.bipush 115, 2) := by decide +kernel
theorem dL_isDone_110 : decode cL_isDone 110 = .ok (.if_icmp .ne 16, 3) := by decide +kernel
theorem dL_isDone_113 : decode cL_isDone 113 = .ok (.aload_n 0, 1) := by decide +kernel
theorem dL_isDone_114 : decode cL_isDone 114 = .ok (.iload 4, 2) := by decide +kernel
theorem dL_isDone_116 : decode cL_isDone 116 = .ok (.invokevirtual 151, 3) := by decide +kernel
theorem dL_isDone_119 : decode cL_isDone 119 = .ok (.ifCond .ne 7, 3) := by decide +kernel
theorem dL_isDone_122 : decode cL_isDone 122 = .ok (.iconst 1, 1) := by decide +kernel
theorem dL_isDone_123 : decode cL_isDone 123 = .ok (.goto 4, 3) := by decide +kernel
theorem dL_isDone_126 : decode cL_isDone 126 = .ok (.iconst 0, 1) := by decide +kernel
theorem dL_isDone_127 : decode cL_isDone 127 = .ok (.istore 6, 2) := by decide +kernel
theorem dL_isDone_129 : decode cL_isDone 129 = .ok (.aload_n 0, 1) := by decide +kernel
theorem dL_isDone_130 : decode cL_isDone 130 = .ok (.iload 4, 2) := by decide +kernel
theorem dL_isDone_132 : decode cL_isDone 132 = .ok (.invokestatic 191, 3) := by decide +kernel
theorem dL_isDone_135 : decode cL_isDone 135 = .ok (.istore 7, 2) := by decide +kernel
theorem dL_isDone_137 : decode cL_isDone 137 = .ok (.iload 6, 2) := by decide +kernel
theorem dL_isDone_139 : decode cL_isDone 139 = .ok (.ifCond .eq 32, 3) := by decide +kernel
theorem dL_isDone_142 : decode cL_isDone 142 = .ok (.iload 7, 2) := by decide +kernel
theorem dL_isDone_144 : decode cL_isDone 144 = .ok (.aload_n 0, 1) := by decide +kernel
theorem dL_isDone_145 : decode cL_isDone 145 = .ok (.iload 4, 2) := by decide +kernel
theorem dL_isDone_147 : decode cL_isDone 147 = .ok (.invokevirtual 142, 3) := by decide +kernel
theorem dL_isDone_150 : decode cL_isDone 150 = .ok (.if_icmp .ne 17, 3) := by decide +kernel
theorem dL_isDone_153 : decode cL_isDone 153 = .ok (.aload_n 0, 1) := by decide +kernel
theorem dL_isDone_154 : decode cL_isDone 154 = .ok (.aload_n 1, 1) := by decide +kernel
theorem dL_isDone_155 : decode cL_isDone 155 = .ok (.iload 4, 2) := by decide +kernel
theorem dL_isDone_157 : decode cL_isDone 157 = .ok (.invokestatic 172, 3) := by decide +kernel
theorem dL_isDone_160 : decode cL_isDone 160 = .ok (.ifCond .eq 7, 3) := by decide +kernel
theorem dL_isDone_163 : decode cL_isDone 163 = .ok (.iconst 1, 1) := by decide +kernel
theorem dL_isDone_164 : decode cL_isDone 164 = .ok (.goto 19, 3) := by decide +kernel
theorem dL_isDone_167 : decode cL_isDone 167 = .ok (.iconst 0, 1) := by decide +kernel
