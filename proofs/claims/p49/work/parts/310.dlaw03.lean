/-! the law: decode rows 3 -/
theorem dL_begun_54 : decode cL_begun 54 = .ok (.iastore, 1) := by decide +kernel
theorem dL_begun_55 : decode cL_begun 55 = .ok (.aload_n 1, 1) := by decide +kernel
theorem dL_begun_56 : decode cL_begun 56 = .ok (.bipush 11, 2) := by decide +kernel
theorem dL_begun_58 : decode cL_begun 58 = .ok (.iconst 2, 1) := by decide +kernel
theorem dL_begun_59 : decode cL_begun 59 = .ok (.iload 5, 2) := by decide +kernel
theorem dL_begun_61 : decode cL_begun 61 = .ok (.imul, 1) := by decide +kernel
theorem dL_begun_62 : decode cL_begun 62 = .ok (.iadd, 1) := by decide +kernel
theorem dL_begun_63 : decode cL_begun 63 = .ok (.iconst 1, 1) := by decide +kernel
theorem dL_begun_64 : decode cL_begun 64 = .ok (.aload_n 0, 1) := by decide +kernel
theorem dL_begun_65 : decode cL_begun 65 = .ok (.iconst 2, 1) := by decide +kernel
theorem dL_begun_66 : decode cL_begun 66 = .ok (.iload 5, 2) := by decide +kernel
theorem dL_begun_68 : decode cL_begun 68 = .ok (.iadd, 1) := by decide +kernel
theorem dL_begun_69 : decode cL_begun 69 = .ok (.bipush 6, 2) := by decide +kernel
theorem dL_begun_71 : decode cL_begun 71 = .ok (.invokestatic 106, 3) := by decide +kernel
theorem dL_begun_74 : decode cL_begun 74 = .ok (.iadd, 1) := by decide +kernel
theorem dL_begun_75 : decode cL_begun 75 = .ok (.iastore, 1) := by decide +kernel
theorem dL_begun_76 : decode cL_begun 76 = .ok (.iload 4, 2) := by decide +kernel
theorem dL_begun_78 : decode cL_begun 78 = .ok (.aload_n 2, 1) := by decide +kernel
theorem dL_begun_79 : decode cL_begun 79 = .ok (.aload_n 1, 1) := by decide +kernel
theorem dL_begun_80 : decode cL_begun 80 = .ok (.bipush 10, 2) := by decide +kernel
theorem dL_begun_82 : decode cL_begun 82 = .ok (.iconst 2, 1) := by decide +kernel
theorem dL_begun_83 : decode cL_begun 83 = .ok (.iload 5, 2) := by decide +kernel
theorem dL_begun_85 : decode cL_begun 85 = .ok (.imul, 1) := by decide +kernel
theorem dL_begun_86 : decode cL_begun 86 = .ok (.iadd, 1) := by decide +kernel
theorem dL_begun_87 : decode cL_begun 87 = .ok (.iaload, 1) := by decide +kernel
theorem dL_begun_88 : decode cL_begun 88 = .ok (.aload_n 1, 1) := by decide +kernel
theorem dL_begun_89 : decode cL_begun 89 = .ok (.bipush 11, 2) := by decide +kernel
theorem dL_begun_91 : decode cL_begun 91 = .ok (.iconst 2, 1) := by decide +kernel
theorem dL_begun_92 : decode cL_begun 92 = .ok (.iload 5, 2) := by decide +kernel
theorem dL_begun_94 : decode cL_begun 94 = .ok (.imul, 1) := by decide +kernel
theorem dL_begun_95 : decode cL_begun 95 = .ok (.iadd, 1) := by decide +kernel
theorem dL_begun_96 : decode cL_begun 96 = .ok (.iaload, 1) := by decide +kernel
theorem dL_begun_97 : decode cL_begun 97 = .ok (.invokestatic 117, 3) := by decide +kernel
theorem dL_begun_100 : decode cL_begun 100 = .ok (.iload 5, 2) := by decide +kernel
theorem dL_begun_102 : decode cL_begun 102 = .ok (.if_icmp .ne 7, 3) := by decide +kernel
theorem dL_begun_105 : decode cL_begun 105 = .ok (.iconst 1, 1) := by decide +kernel
theorem dL_begun_106 : decode cL_begun 106 = .ok (.goto 4, 3) := by decide +kernel
theorem dL_begun_109 : decode cL_begun 109 = .ok (.iconst 0, 1) := by decide +kernel
theorem dL_begun_110 : decode cL_begun 110 = .ok (.iand, 1) := by decide +kernel
theorem dL_begun_111 : decode cL_begun 111 = .ok (.istore 4, 2) := by decide +kernel
theorem dL_begun_113 : decode cL_begun 113 = .ok (.iinc 5 1, 3) := by decide +kernel
theorem dL_begun_116 : decode cL_begun 116 = .ok (.goto (-93), 3) := by decide +kernel
theorem dL_begun_119 : decode cL_begun 119 = .ok (.aload_n 1, 1) := by decide +kernel
theorem dL_begun_120 : decode cL_begun 120 = .ok (.iconst 0, 1) := by decide +kernel
theorem dL_begun_121 : decode cL_begun 121 = .ok (.iload_n 3, 1) := by decide +kernel
theorem dL_begun_122 : decode cL_begun 122 = .ok (.iastore, 1) := by decide +kernel
theorem dL_begun_123 : decode cL_begun 123 = .ok (.iconst 2, 1) := by decide +kernel
theorem dL_begun_124 : decode cL_begun 124 = .ok (.aload_n 0, 1) := by decide +kernel
theorem dL_begun_125 : decode cL_begun 125 = .ok (.bipush 8, 2) := by decide +kernel
theorem dL_begun_127 : decode cL_begun 127 = .ok (.bipush 8, 2) := by decide +kernel
theorem dL_begun_129 : decode cL_begun 129 = .ok (.invokestatic 106, 3) := by decide +kernel
theorem dL_begun_132 : decode cL_begun 132 = .ok (.iadd, 1) := by decide +kernel
theorem dL_begun_133 : decode cL_begun 133 = .ok (.istore 5, 2) := by decide +kernel
theorem dL_begun_135 : decode cL_begun 135 = .ok (.iload 5, 2) := by decide +kernel
theorem dL_begun_137 : decode cL_begun 137 = .ok (.ifCond .le 28, 3) := by decide +kernel
theorem dL_begun_140 : decode cL_begun 140 = .ok (.iload 4, 2) := by decide +kernel
theorem dL_begun_142 : decode cL_begun 142 = .ok (.aload_n 2, 1) := by decide +kernel
theorem dL_begun_143 : decode cL_begun 143 = .ok (.aload_n 1, 1) := by decide +kernel
theorem dL_begun_144 : decode cL_begun 144 = .ok (.aload_n 0, 1) := by decide +kernel
theorem dL_begun_145 : decode cL_begun 145 = .ok (.bipush 10, 2) := by decide +kernel
theorem dL_begun_147 : decode cL_begun 147 = .ok (.bipush 7, 2) := by decide +kernel
theorem dL_begun_149 : decode cL_begun 149 = .ok (.iload 5, 2) := by decide +kernel
theorem dL_begun_151 : decode cL_begun 151 = .ok (.imul, 1) := by decide +kernel
theorem dL_begun_152 : decode cL_begun 152 = .ok (.iadd, 1) := by decide +kernel
theorem dL_begun_153 : decode cL_begun 153 = .ok (.invokestatic 120, 3) := by decide +kernel
theorem dL_begun_156 : decode cL_begun 156 = .ok (.iand, 1) := by decide +kernel
theorem dL_begun_157 : decode cL_begun 157 = .ok (.istore 4, 2) := by decide +kernel
theorem dL_begun_159 : decode cL_begun 159 = .ok (.iinc 5 (-1), 3) := by decide +kernel
theorem dL_begun_162 : decode cL_begun 162 = .ok (.goto (-27), 3) := by decide +kernel
theorem dL_begun_165 : decode cL_begun 165 = .ok (.iload 4, 2) := by decide +kernel
theorem dL_begun_167 : decode cL_begun 167 = .ok (.ifCond .eq 7, 3) := by decide +kernel
theorem dL_begun_170 : decode cL_begun 170 = .ok (.aload_n 2, 1) := by decide +kernel
theorem dL_begun_171 : decode cL_begun 171 = .ok (.goto 4, 3) := by decide +kernel
theorem dL_begun_174 : decode cL_begun 174 = .ok (.aconst_null, 1) := by decide +kernel
theorem dL_begun_175 : decode cL_begun 175 = .ok (.areturn, 1) := by decide +kernel
theorem dL_leaves_0 : decode cL_leaves 0 = .ok (.bipush 30, 2) := by decide +kernel
theorem dL_leaves_2 : decode cL_leaves 2 = .ok (.bipush 8, 2) := by decide +kernel
theorem dL_leaves_4 : decode cL_leaves 4 = .ok (.iload_n 1, 1) := by decide +kernel
theorem dL_leaves_5 : decode cL_leaves 5 = .ok (.imul, 1) := by decide +kernel
theorem dL_leaves_6 : decode cL_leaves 6 = .ok (.iadd, 1) := by decide +kernel
theorem dL_leaves_7 : decode cL_leaves 7 = .ok (.istore_n 3, 1) := by decide +kernel
theorem dL_leaves_8 : decode cL_leaves 8 = .ok (.aload_n 0, 1) := by decide +kernel
theorem dL_leaves_9 : decode cL_leaves 9 = .ok (.iload_n 3, 1) := by decide +kernel
theorem dL_leaves_10 : decode cL_leaves 10 = .ok (.iconst 2, 1) := by decide +kernel
theorem dL_leaves_11 : decode cL_leaves 11 = .ok (.iadd, 1) := by decide +kernel
theorem dL_leaves_12 : decode cL_leaves 12 = .ok (.iaload, 1) := by decide +kernel
theorem dL_leaves_13 : decode cL_leaves 13 = .ok (.istore 4, 2) := by decide +kernel
theorem dL_leaves_15 : decode cL_leaves 15 = .ok (.iload 4, 2) := by decide +kernel
theorem dL_leaves_17 : decode cL_leaves 17 = .ok (.iload_n 2, 1) := by decide +kernel
theorem dL_leaves_18 : decode cL_leaves 18 = .ok (.if_icmp .ge 16, 3) := by decide +kernel
theorem dL_leaves_21 : decode cL_leaves 21 = .ok (.iload 4, 2) := by decide +kernel
theorem dL_leaves_23 : decode cL_leaves 23 = .ok (.aload_n 0, 1) := by decide +kernel
theorem dL_leaves_24 : decode cL_leaves 24 = .ok (.iload_n 3, 1) := by decide +kernel
theorem dL_leaves_25 : decode cL_leaves 25 = .ok (.iconst 3, 1) := by decide +kernel
theorem dL_leaves_26 : decode cL_leaves 26 = .ok (.iadd, 1) := by decide +kernel
theorem dL_leaves_27 : decode cL_leaves 27 = .ok (.iaload, 1) := by decide +kernel
theorem dL_leaves_28 : decode cL_leaves 28 = .ok (.iadd, 1) := by decide +kernel
theorem dL_leaves_29 : decode cL_leaves 29 = .ok (.istore 4, 2) := by decide +kernel
theorem dL_leaves_31 : decode cL_leaves 31 = .ok (.goto (-16), 3) := by decide +kernel
theorem dL_leaves_34 : decode cL_leaves 34 = .ok (.iload 4, 2) := by decide +kernel
theorem dL_leaves_36 : decode cL_leaves 36 = .ok (.ireturn, 1) := by decide +kernel
theorem dL_scanned_0 : decode cL_scanned 0 = .ok (.sipush 140, 3) := by decide +kernel
theorem dL_scanned_3 : decode cL_scanned 3 = .ok (.bipush 12, 2) := by decide +kernel
theorem dL_scanned_5 : decode cL_scanned 5 = .ok (.iload_n 2, 1) := by decide +kernel
theorem dL_scanned_6 : decode cL_scanned 6 = .ok (.imul, 1) := by decide +kernel
theorem dL_scanned_7 : decode cL_scanned 7 = .ok (.iadd, 1) := by decide +kernel
theorem dL_scanned_8 : decode cL_scanned 8 = .ok (.istore 4, 2) := by decide +kernel
theorem dL_scanned_10 : decode cL_scanned 10 = .ok (.aload_n 1, 1) := by decide +kernel
theorem dL_scanned_11 : decode cL_scanned 11 = .ok (.iload 4, 2) := by decide +kernel
theorem dL_scanned_13 : decode cL_scanned 13 = .ok (.iconst 3, 1) := by decide +kernel
theorem dL_scanned_14 : decode cL_scanned 14 = .ok (.iadd, 1) := by decide +kernel
theorem dL_scanned_15 : decode cL_scanned 15 = .ok (.aload_n 0, 1) := by decide +kernel
theorem dL_scanned_16 : decode cL_scanned 16 = .ok (.invokevirtual 124, 3) := by decide +kernel
theorem dL_scanned_19 : decode cL_scanned 19 = .ok (.iastore, 1) := by decide +kernel
theorem dL_scanned_20 : decode cL_scanned 20 = .ok (.aload_n 1, 1) := by decide +kernel
theorem dL_scanned_21 : decode cL_scanned 21 = .ok (.iload 4, 2) := by decide +kernel
theorem dL_scanned_23 : decode cL_scanned 23 = .ok (.bipush 8, 2) := by decide +kernel
theorem dL_scanned_25 : decode cL_scanned 25 = .ok (.iadd, 1) := by decide +kernel
theorem dL_scanned_26 : decode cL_scanned 26 = .ok (.aload_n 1, 1) := by decide +kernel
theorem dL_scanned_27 : decode cL_scanned 27 = .ok (.iload 4, 2) := by decide +kernel
theorem dL_scanned_29 : decode cL_scanned 29 = .ok (.bipush 8, 2) := by decide +kernel
theorem dL_scanned_31 : decode cL_scanned 31 = .ok (.iadd, 1) := by decide +kernel
theorem dL_scanned_32 : decode cL_scanned 32 = .ok (.iaload, 1) := by decide +kernel
theorem dL_scanned_33 : decode cL_scanned 33 = .ok (.ifCond .ge 19, 3) := by decide +kernel
theorem dL_scanned_36 : decode cL_scanned 36 = .ok (.aload_n 0, 1) := by decide +kernel
theorem dL_scanned_37 : decode cL_scanned 37 = .ok (.iload_n 2, 1) := by decide +kernel
theorem dL_scanned_38 : decode cL_scanned 38 = .ok (.invokevirtual 128, 3) := by decide +kernel
theorem dL_scanned_41 : decode cL_scanned 41 = .ok (.iload_n 3, 1) := by decide +kernel
theorem dL_scanned_42 : decode cL_scanned 42 = .ok (.if_icmp .ne 10, 3) := by decide +kernel
theorem dL_scanned_45 : decode cL_scanned 45 = .ok (.aload_n 0, 1) := by decide +kernel
theorem dL_scanned_46 : decode cL_scanned 46 = .ok (.invokevirtual 124, 3) := by decide +kernel
theorem dL_scanned_49 : decode cL_scanned 49 = .ok (.goto 10, 3) := by decide +kernel
theorem dL_scanned_52 : decode cL_scanned 52 = .ok (.aload_n 1, 1) := by decide +kernel
theorem dL_scanned_53 : decode cL_scanned 53 = .ok (.iload 4, 2) := by decide +kernel
theorem dL_scanned_55 : decode cL_scanned 55 = .ok (.bipush 8, 2) := by decide +kernel
theorem dL_scanned_57 : decode cL_scanned 57 = .ok (.iadd, 1) := by decide +kernel
theorem dL_scanned_58 : decode cL_scanned 58 = .ok (.iaload, 1) := by decide +kernel
theorem dL_scanned_59 : decode cL_scanned 59 = .ok (.iastore, 1) := by decide +kernel
theorem dL_scanned_60 : decode cL_scanned 60 = .ok (.return_, 1) := by decide +kernel
theorem dL_isAccepted_0 : decode cL_isAccepted 0 = .ok (.aload_n 2, 1) := by decide +kernel
theorem dL_isAccepted_1 : decode cL_isAccepted 1 = .ok (.iload_n 3, 1) := by decide +kernel
theorem dL_isAccepted_2 : decode cL_isAccepted 2 = .ok (.aload_n 1, 1) := by decide +kernel
theorem dL_isAccepted_3 : decode cL_isAccepted 3 = .ok (.iconst 0, 1) := by decide +kernel
theorem dL_isAccepted_4 : decode cL_isAccepted 4 = .ok (.iaload, 1) := by decide +kernel
theorem dL_isAccepted_5 : decode cL_isAccepted 5 = .ok (.invokestatic 106, 3) := by decide +kernel
theorem dL_isAccepted_8 : decode cL_isAccepted 8 = .ok (.istore 4, 2) := by decide +kernel
theorem dL_isAccepted_10 : decode cL_isAccepted 10 = .ok (.sipush 1111, 3) := by decide +kernel
theorem dL_isAccepted_13 : decode cL_isAccepted 13 = .ok (.sipush 1000, 3) := by decide +kernel
theorem dL_isAccepted_16 : decode cL_isAccepted 16 = .ok (.aload_n 2, 1) := by decide +kernel
theorem dL_isAccepted_17 : decode cL_isAccepted 17 = .ok (.iload_n 3, 1) := by decide +kernel
theorem dL_isAccepted_18 : decode cL_isAccepted 18 = .ok (.iconst 1, 1) := by decide +kernel
theorem dL_isAccepted_19 : decode cL_isAccepted 19 = .ok (.iadd, 1) := by decide +kernel
theorem dL_isAccepted_20 : decode cL_isAccepted 20 = .ok (.iconst 3, 1) := by decide +kernel
theorem dL_isAccepted_21 : decode cL_isAccepted 21 = .ok (.invokestatic 106, 3) := by decide +kernel
theorem dL_isAccepted_24 : decode cL_isAccepted 24 = .ok (.imul, 1) := by decide +kernel
theorem dL_isAccepted_25 : decode cL_isAccepted 25 = .ok (.iadd, 1) := by decide +kernel
theorem dL_isAccepted_26 : decode cL_isAccepted 26 = .ok (.bipush 100, 2) := by decide +kernel
theorem dL_isAccepted_28 : decode cL_isAccepted 28 = .ok (.aload_n 2, 1) := by decide +kernel
theorem dL_isAccepted_29 : decode cL_isAccepted 29 = .ok (.iload_n 3, 1) := by decide +kernel
theorem dL_isAccepted_30 : decode cL_isAccepted 30 = .ok (.iconst 2, 1) := by decide +kernel
theorem dL_isAccepted_31 : decode cL_isAccepted 31 = .ok (.iadd, 1) := by decide +kernel
theorem dL_isAccepted_32 : decode cL_isAccepted 32 = .ok (.iconst 3, 1) := by decide +kernel
theorem dL_isAccepted_33 : decode cL_isAccepted 33 = .ok (.invokestatic 106, 3) := by decide +kernel
theorem dL_isAccepted_36 : decode cL_isAccepted 36 = .ok (.imul, 1) := by decide +kernel
theorem dL_isAccepted_37 : decode cL_isAccepted 37 = .ok (.iadd, 1) := by decide +kernel
theorem dL_isAccepted_38 : decode cL_isAccepted 38 = .ok (.bipush 10, 2) := by decide +kernel
theorem dL_isAccepted_40 : decode cL_isAccepted 40 = .ok (.aload_n 2, 1) := by decide +kernel
theorem dL_isAccepted_41 : decode cL_isAccepted 41 = .ok (.iload_n 3, 1) := by decide +kernel
theorem dL_isAccepted_42 : decode cL_isAccepted 42 = .ok (.iconst 3, 1) := by decide +kernel
theorem dL_isAccepted_43 : decode cL_isAccepted 43 = .ok (.iadd, 1) := by decide +kernel
theorem dL_isAccepted_44 : decode cL_isAccepted 44 = .ok (.iconst 2, 1) := by decide +kernel
theorem dL_isAccepted_45 : decode cL_isAccepted 45 = .ok (.invokestatic 106, 3) := by decide +kernel
theorem dL_isAccepted_48 : decode cL_isAccepted 48 = .ok (.imul, 1) := by decide +kernel
theorem dL_isAccepted_49 : decode cL_isAccepted 49 = .ok (.iadd, 1) := by decide +kernel
theorem dL_isAccepted_50 : decode cL_isAccepted 50 = .ok (.aload_n 2, 1) := by decide +kernel
theorem dL_isAccepted_51 : decode cL_isAccepted 51 = .ok (.iload_n 3, 1) := by decide +kernel
theorem dL_isAccepted_52 : decode cL_isAccepted 52 = .ok (.iconst 4, 1) := by decide +kernel
theorem dL_isAccepted_53 : decode cL_isAccepted 53 = .ok (.iadd, 1) := by decide +kernel
theorem dL_isAccepted_54 : decode cL_isAccepted 54 = .ok (.bipush 9, 2) := by decide +kernel
theorem dL_isAccepted_56 : decode cL_isAccepted 56 = .ok (.invokestatic 106, 3) := by decide +kernel
theorem dL_isAccepted_59 : decode cL_isAccepted 59 = .ok (.iadd, 1) := by decide +kernel
theorem dL_isAccepted_60 : decode cL_isAccepted 60 = .ok (.istore 5, 2) := by decide +kernel
theorem dL_isAccepted_62 : decode cL_isAccepted 62 = .ok (.iconst 1, 1) := by decide +kernel
theorem dL_isAccepted_63 : decode cL_isAccepted 63 = .ok (.aload_n 2, 1) := by decide +kernel
theorem dL_isAccepted_64 : decode cL_isAccepted 64 = .ok (.iload_n 3, 1) := by decide +kernel
theorem dL_isAccepted_65 : decode cL_isAccepted 65 = .ok (.iconst 5, 1) := by decide +kernel
theorem dL_isAccepted_66 : decode cL_isAccepted 66 = .ok (.iadd, 1) := by decide +kernel
theorem dL_isAccepted_67 : decode cL_isAccepted 67 = .ok (.bipush 9, 2) := by decide +kernel
theorem dL_isAccepted_69 : decode cL_isAccepted 69 = .ok (.invokestatic 106, 3) := by decide +kernel
theorem dL_isAccepted_72 : decode cL_isAccepted 72 = .ok (.iadd, 1) := by decide +kernel
theorem dL_isAccepted_73 : decode cL_isAccepted 73 = .ok (.istore 6, 2) := by decide +kernel
theorem dL_isAccepted_75 : decode cL_isAccepted 75 = .ok (.aload_n 2, 1) := by decide +kernel
theorem dL_isAccepted_76 : decode cL_isAccepted 76 = .ok (.iload_n 3, 1) := by decide +kernel
theorem dL_isAccepted_77 : decode cL_isAccepted 77 = .ok (.bipush 6, 2) := by decide +kernel
theorem dL_isAccepted_79 : decode cL_isAccepted 79 = .ok (.iadd, 1) := by decide +kernel
theorem dL_isAccepted_80 : decode cL_isAccepted 80 = .ok (.iconst 3, 1) := by decide +kernel
theorem dL_isAccepted_81 : decode cL_isAccepted 81 = .ok (.invokestatic 106, 3) := by decide +kernel
theorem dL_isAccepted_84 : decode cL_isAccepted 84 = .ok (.istore 7, 2) := by decide +kernel
theorem dL_isAccepted_86 : decode cL_isAccepted 86 = .ok (.aload_n 1, 1) := by decide +kernel
theorem dL_isAccepted_87 : decode cL_isAccepted 87 = .ok (.iload 5, 2) := by decide +kernel
theorem dL_isAccepted_89 : decode cL_isAccepted 89 = .ok (.invokestatic 131, 3) := by decide +kernel
theorem dL_isAccepted_92 : decode cL_isAccepted 92 = .ok (.istore 8, 2) := by decide +kernel
theorem dL_isAccepted_94 : decode cL_isAccepted 94 = .ok (.aload_n 0, 1) := by decide +kernel
theorem dL_isAccepted_95 : decode cL_isAccepted 95 = .ok (.iload 5, 2) := by decide +kernel
theorem dL_isAccepted_97 : decode cL_isAccepted 97 = .ok (.invokestatic 134, 3) := by decide +kernel
theorem dL_isAccepted_100 : decode cL_isAccepted 100 = .ok (.iload 8, 2) := by decide +kernel
theorem dL_isAccepted_102 : decode cL_isAccepted 102 = .ok (.if_icmp .ne 14, 3) := by decide +kernel
theorem dL_isAccepted_105 : decode cL_isAccepted 105 = .ok (.aload_n 0, 1) := by decide +kernel
theorem dL_isAccepted_106 : decode cL_isAccepted 106 = .ok (.iload 5, 2) := by decide +kernel
theorem dL_isAccepted_108 : decode cL_isAccepted 108 = .ok (.invokestatic 137, 3) := by decide +kernel
theorem dL_isAccepted_111 : decode cL_isAccepted 111 = .ok (.iload 8, 2) := by decide +kernel
theorem dL_isAccepted_113 : decode cL_isAccepted 113 = .ok (.if_icmp .eq 5, 3) := by decide +kernel
theorem dL_isAccepted_116 : decode cL_isAccepted 116 = .ok (.iconst 0, 1) := by decide +kernel
theorem dL_isAccepted_117 : decode cL_isAccepted 117 = .ok (.ireturn, 1) := by decide +kernel
theorem dL_isAccepted_118 : decode cL_isAccepted 118 = .ok (.iload 8, 2) := by decide +kernel
theorem dL_isAccepted_120 : decode cL_isAccepted 120 = .ok (.ifCond .lt 11, 3) := by decide +kernel
theorem dL_isAccepted_123 : decode cL_isAccepted 123 = .ok (.aload_n 1, 1) := by decide +kernel
theorem dL_isAccepted_124 : decode cL_isAccepted 124 = .ok (.iconst 2, 1) := by decide +kernel
theorem dL_isAccepted_125 : decode cL_isAccepted 125 = .ok (.iaload, 1) := by decide +kernel
theorem dL_isAccepted_126 : decode cL_isAccepted 126 = .ok (.bipush 40, 2) := by decide +kernel
theorem dL_isAccepted_128 : decode cL_isAccepted 128 = .ok (.if_icmp .ne 26, 3) := by decide +kernel
theorem dL_isAccepted_131 : decode cL_isAccepted 131 = .ok (.aload_n 0, 1) := by decide +kernel
theorem dL_isAccepted_132 : decode cL_isAccepted 132 = .ok (.iload 4, 2) := by decide +kernel
theorem dL_isAccepted_134 : decode cL_isAccepted 134 = .ok (.iload 5, 2) := by decide +kernel
theorem dL_isAccepted_136 : decode cL_isAccepted 136 = .ok (.iload 6, 2) := by decide +kernel
theorem dL_isAccepted_138 : decode cL_isAccepted 138 = .ok (.iload 7, 2) := by decide +kernel
theorem dL_isAccepted_140 : decode cL_isAccepted 140 = .ok (.invokestatic 139, 3) := by decide +kernel
theorem dL_isAccepted_143 : decode cL_isAccepted 143 = .ok (.ldc 27, 2) := by decide +kernel
theorem dL_isAccepted_145 : decode cL_isAccepted 145 = .ok (.if_icmp .ne 7, 3) := by decide +kernel
theorem dL_isAccepted_148 : decode cL_isAccepted 148 = .ok (.iconst 1, 1) := by decide +kernel
theorem dL_isAccepted_149 : decode cL_isAccepted 149 = .ok (.goto 4, 3) := by decide +kernel
theorem dL_isAccepted_152 : decode cL_isAccepted 152 = .ok (.iconst 0, 1) := by decide +kernel
theorem dL_isAccepted_153 : decode cL_isAccepted 153 = .ok (.ireturn, 1) := by decide +kernel
theorem dL_isAccepted_154 : decode cL_isAccepted 154 = .ok (.aload_n 1, 1) := by decide +kernel
theorem dL_isAccepted_155 : decode cL_isAccepted 155 = .ok (.iconst 2, 1) := by decide +kernel
theorem dL_isAccepted_156 : decode cL_isAccepted 156 = .ok (.iaload, 1) := by decide +kernel
theorem dL_isAccepted_157 : decode cL_isAccepted 157 = .ok (.istore 9, 2) := by decide +kernel
theorem dL_isAccepted_159 : decode cL_isAccepted 159 = .ok (.sipush 140, 3) := by decide +kernel
theorem dL_isAccepted_162 : decode cL_isAccepted 162 = .ok (.bipush 12, 2) := by decide +kernel
theorem dL_isAccepted_164 : decode cL_isAccepted 164 = .ok (.iload 9, 2) := by decide +kernel
theorem dL_isAccepted_166 : decode cL_isAccepted 166 = .ok (.imul, 1) := by decide +kernel
theorem dL_isAccepted_167 : decode cL_isAccepted 167 = .ok (.iadd, 1) := by decide +kernel
theorem dL_isAccepted_168 : decode cL_isAccepted 168 = .ok (.istore 10, 2) := by decide +kernel
theorem dL_isAccepted_170 : decode cL_isAccepted 170 = .ok (.aload_n 1, 1) := by decide +kernel
theorem dL_isAccepted_171 : decode cL_isAccepted 171 = .ok (.iload 10, 2) := by decide +kernel
theorem dL_isAccepted_173 : decode cL_isAccepted 173 = .ok (.iload 6, 2) := by decide +kernel
theorem dL_isAccepted_175 : decode cL_isAccepted 175 = .ok (.iastore, 1) := by decide +kernel
theorem dL_isAccepted_176 : decode cL_isAccepted 176 = .ok (.aload_n 1, 1) := by decide +kernel
theorem dL_isAccepted_177 : decode cL_isAccepted 177 = .ok (.iload 10, 2) := by decide +kernel
theorem dL_isAccepted_179 : decode cL_isAccepted 179 = .ok (.iconst 1, 1) := by decide +kernel
theorem dL_isAccepted_180 : decode cL_isAccepted 180 = .ok (.iadd, 1) := by decide +kernel
theorem dL_isAccepted_181 : decode cL_isAccepted 181 = .ok (.iload 7, 2) := by decide +kernel
theorem dL_isAccepted_183 : decode cL_isAccepted 183 = .ok (.iastore, 1) := by decide +kernel
theorem dL_isAccepted_184 : decode cL_isAccepted 184 = .ok (.aload_n 1, 1) := by decide +kernel
theorem dL_isAccepted_185 : decode cL_isAccepted 185 = .ok (.iload 10, 2) := by decide +kernel
theorem dL_isAccepted_187 : decode cL_isAccepted 187 = .ok (.iconst 2, 1) := by decide +kernel
theorem dL_isAccepted_188 : decode cL_isAccepted 188 = .ok (.iadd, 1) := by decide +kernel
theorem dL_isAccepted_189 : decode cL_isAccepted 189 = .ok (.iload 4, 2) := by decide +kernel
theorem dL_isAccepted_191 : decode cL_isAccepted 191 = .ok (.iastore, 1) := by decide +kernel
theorem dL_isAccepted_192 : decode cL_isAccepted 192 = .ok (.aload_n 1, 1) := by decide +kernel
