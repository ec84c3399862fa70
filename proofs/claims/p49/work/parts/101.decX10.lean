theorem dX10_init_0 : decode cX10_init 0 = .ok (.aload_n 0, 1) := by decide +kernel
theorem dX10_init_1 : decode cX10_init 1 = .ok (.invokespecial 3, 3) := by decide +kernel
theorem dX10_init_4 : decode cX10_init 4 = .ok (.aload_n 0, 1) := by decide +kernel
theorem dX10_init_5 : decode cX10_init 5 = .ok (.new 9, 3) := by decide +kernel
theorem dX10_init_8 : decode cX10_init 8 = .ok (.dup, 1) := by decide +kernel
theorem dX10_init_9 : decode cX10_init 9 = .ok (.invokespecial 11, 3) := by decide +kernel
theorem dX10_init_12 : decode cX10_init 12 = .ok (.putfield 12, 3) := by decide +kernel
theorem dX10_init_15 : decode cX10_init 15 = .ok (.aload_n 0, 1) := by decide +kernel
theorem dX10_init_16 : decode cX10_init 16 = .ok (.new 9, 3) := by decide +kernel
theorem dX10_init_19 : decode cX10_init 19 = .ok (.dup, 1) := by decide +kernel
theorem dX10_init_20 : decode cX10_init 20 = .ok (.invokespecial 11, 3) := by decide +kernel
theorem dX10_init_23 : decode cX10_init 23 = .ok (.putfield 16, 3) := by decide +kernel
theorem dX10_init_26 : decode cX10_init 26 = .ok (.aload_n 0, 1) := by decide +kernel
theorem dX10_init_27 : decode cX10_init 27 = .ok (.new 9, 3) := by decide +kernel
theorem dX10_init_30 : decode cX10_init 30 = .ok (.dup, 1) := by decide +kernel
theorem dX10_init_31 : decode cX10_init 31 = .ok (.invokespecial 11, 3) := by decide +kernel
theorem dX10_init_34 : decode cX10_init 34 = .ok (.putfield 19, 3) := by decide +kernel
theorem dX10_init_37 : decode cX10_init 37 = .ok (.aload_n 0, 1) := by decide +kernel
theorem dX10_init_38 : decode cX10_init 38 = .ok (.new 9, 3) := by decide +kernel
theorem dX10_init_41 : decode cX10_init 41 = .ok (.dup, 1) := by decide +kernel
theorem dX10_init_42 : decode cX10_init 42 = .ok (.invokespecial 11, 3) := by decide +kernel
theorem dX10_init_45 : decode cX10_init 45 = .ok (.putfield 22, 3) := by decide +kernel
theorem dX10_init_48 : decode cX10_init 48 = .ok (.aload_n 0, 1) := by decide +kernel
theorem dX10_init_49 : decode cX10_init 49 = .ok (.new 9, 3) := by decide +kernel
theorem dX10_init_52 : decode cX10_init 52 = .ok (.dup, 1) := by decide +kernel
theorem dX10_init_53 : decode cX10_init 53 = .ok (.invokespecial 11, 3) := by decide +kernel
theorem dX10_init_56 : decode cX10_init 56 = .ok (.putfield 25, 3) := by decide +kernel
theorem dX10_init_59 : decode cX10_init 59 = .ok (.aload_n 0, 1) := by decide +kernel
theorem dX10_init_60 : decode cX10_init 60 = .ok (.new 28, 3) := by decide +kernel
theorem dX10_init_63 : decode cX10_init 63 = .ok (.dup, 1) := by decide +kernel
theorem dX10_init_64 : decode cX10_init 64 = .ok (.invokespecial 30, 3) := by decide +kernel
theorem dX10_init_67 : decode cX10_init 67 = .ok (.putfield 31, 3) := by decide +kernel
theorem dX10_init_70 : decode cX10_init 70 = .ok (.aload_n 0, 1) := by decide +kernel
theorem dX10_init_71 : decode cX10_init 71 = .ok (.new 35, 3) := by decide +kernel
theorem dX10_init_74 : decode cX10_init 74 = .ok (.dup, 1) := by decide +kernel
theorem dX10_init_75 : decode cX10_init 75 = .ok (.invokespecial 37, 3) := by decide +kernel
theorem dX10_init_78 : decode cX10_init 78 = .ok (.putfield 38, 3) := by decide +kernel
theorem dX10_init_81 : decode cX10_init 81 = .ok (.aload_n 0, 1) := by decide +kernel
theorem dX10_init_82 : decode cX10_init 82 = .ok (.new 42, 3) := by decide +kernel
theorem dX10_init_85 : decode cX10_init 85 = .ok (.dup, 1) := by decide +kernel
theorem dX10_init_86 : decode cX10_init 86 = .ok (.invokespecial 44, 3) := by decide +kernel
theorem dX10_init_89 : decode cX10_init 89 = .ok (.putfield 45, 3) := by decide +kernel
theorem dX10_init_92 : decode cX10_init 92 = .ok (.aload_n 0, 1) := by decide +kernel
theorem dX10_init_93 : decode cX10_init 93 = .ok (.new 49, 3) := by decide +kernel
theorem dX10_init_96 : decode cX10_init 96 = .ok (.dup, 1) := by decide +kernel
theorem dX10_init_97 : decode cX10_init 97 = .ok (.invokespecial 51, 3) := by decide +kernel
theorem dX10_init_100 : decode cX10_init 100 = .ok (.putfield 52, 3) := by decide +kernel
theorem dX10_init_103 : decode cX10_init 103 = .ok (.aload_n 0, 1) := by decide +kernel
theorem dX10_init_104 : decode cX10_init 104 = .ok (.iconst 0, 1) := by decide +kernel
theorem dX10_init_105 : decode cX10_init 105 = .ok (.putfield 56, 3) := by decide +kernel
theorem dX10_init_108 : decode cX10_init 108 = .ok (.return_, 1) := by decide +kernel
theorem dX10_openHub_0 : decode cX10_openHub 0 = .ok (.iload_n 1, 1) := by decide +kernel
theorem dX10_openHub_1 : decode cX10_openHub 1 = .ok (.invokestatic 60, 3) := by decide +kernel
theorem dX10_openHub_4 : decode cX10_openHub 4 = .ok (.ifCond .eq 13, 3) := by decide +kernel
theorem dX10_openHub_7 : decode cX10_openHub 7 = .ok (.iload_n 2, 1) := by decide +kernel
theorem dX10_openHub_8 : decode cX10_openHub 8 = .ok (.iconst 1, 1) := by decide +kernel
theorem dX10_openHub_9 : decode cX10_openHub 9 = .ok (.bipush 20, 2) := by decide +kernel
theorem dX10_openHub_11 : decode cX10_openHub 11 = .ok (.invokestatic 64, 3) := by decide +kernel
theorem dX10_openHub_14 : decode cX10_openHub 14 = .ok (.ifCond .ne 13, 3) := by decide +kernel
theorem dX10_openHub_17 : decode cX10_openHub 17 = .ok (.new 68, 3) := by decide +kernel
theorem dX10_openHub_20 : decode cX10_openHub 20 = .ok (.dup, 1) := by decide +kernel
theorem dX10_openHub_21 : decode cX10_openHub 21 = .ok (.ldc 70, 2) := by decide +kernel
theorem dX10_openHub_23 : decode cX10_openHub 23 = .ok (.invokespecial 72, 3) := by decide +kernel
theorem dX10_openHub_26 : decode cX10_openHub 26 = .ok (.athrow, 1) := by decide +kernel
theorem dX10_openHub_27 : decode cX10_openHub 27 = .ok (.aload_n 0, 1) := by decide +kernel
theorem dX10_openHub_28 : decode cX10_openHub 28 = .ok (.iload_n 1, 1) := by decide +kernel
theorem dX10_openHub_29 : decode cX10_openHub 29 = .ok (.invokevirtual 75, 3) := by decide +kernel
theorem dX10_openHub_32 : decode cX10_openHub 32 = .ok (.ifnonnull 15, 3) := by decide +kernel
theorem dX10_openHub_35 : decode cX10_openHub 35 = .ok (.aload_n 0, 1) := by decide +kernel
theorem dX10_openHub_36 : decode cX10_openHub 36 = .ok (.getfield 12, 3) := by decide +kernel
theorem dX10_openHub_39 : decode cX10_openHub 39 = .ok (.invokevirtual 79, 3) := by decide +kernel
theorem dX10_openHub_42 : decode cX10_openHub 42 = .ok (.bipush 6, 2) := by decide +kernel
theorem dX10_openHub_44 : decode cX10_openHub 44 = .ok (.if_icmp .lt 13, 3) := by decide +kernel
theorem dX10_openHub_47 : decode cX10_openHub 47 = .ok (.new 83, 3) := by decide +kernel
theorem dX10_openHub_50 : decode cX10_openHub 50 = .ok (.dup, 1) := by decide +kernel
theorem dX10_openHub_51 : decode cX10_openHub 51 = .ok (.ldc 85, 2) := by decide +kernel
theorem dX10_openHub_53 : decode cX10_openHub 53 = .ok (.invokespecial 87, 3) := by decide +kernel
theorem dX10_openHub_56 : decode cX10_openHub 56 = .ok (.athrow, 1) := by decide +kernel
theorem dX10_openHub_57 : decode cX10_openHub 57 = .ok (.new 88, 3) := by decide +kernel
theorem dX10_openHub_60 : decode cX10_openHub 60 = .ok (.dup, 1) := by decide +kernel
theorem dX10_openHub_61 : decode cX10_openHub 61 = .ok (.aload_n 0, 1) := by decide +kernel
theorem dX10_openHub_62 : decode cX10_openHub 62 = .ok (.getfield 12, 3) := by decide +kernel
theorem dX10_openHub_65 : decode cX10_openHub 65 = .ok (.invokevirtual 79, 3) := by decide +kernel
theorem dX10_openHub_68 : decode cX10_openHub 68 = .ok (.iload_n 1, 1) := by decide +kernel
theorem dX10_openHub_69 : decode cX10_openHub 69 = .ok (.iload_n 2, 1) := by decide +kernel
theorem dX10_openHub_70 : decode cX10_openHub 70 = .ok (.invokespecial 90, 3) := by decide +kernel
theorem dX10_openHub_73 : decode cX10_openHub 73 = .ok (.astore_n 3, 1) := by decide +kernel
theorem dX10_openHub_74 : decode cX10_openHub 74 = .ok (.aload_n 0, 1) := by decide +kernel
theorem dX10_openHub_75 : decode cX10_openHub 75 = .ok (.getfield 12, 3) := by decide +kernel
theorem dX10_openHub_78 : decode cX10_openHub 78 = .ok (.aload_n 3, 1) := by decide +kernel
theorem dX10_openHub_79 : decode cX10_openHub 79 = .ok (.invokevirtual 93, 3) := by decide +kernel
theorem dX10_openHub_82 : decode cX10_openHub 82 = .ok (.pop, 1) := by decide +kernel
theorem dX10_openHub_83 : decode cX10_openHub 83 = .ok (.aload_n 3, 1) := by decide +kernel
theorem dX10_openHub_84 : decode cX10_openHub 84 = .ok (.getfield 97, 3) := by decide +kernel
theorem dX10_openHub_87 : decode cX10_openHub 87 = .ok (.ireturn, 1) := by decide +kernel
theorem dX10_addLine_0 : decode cX10_addLine 0 = .ok (.aload_n 0, 1) := by decide +kernel
theorem dX10_addLine_1 : decode cX10_addLine 1 = .ok (.iload_n 1, 1) := by decide +kernel
theorem dX10_addLine_2 : decode cX10_addLine 2 = .ok (.invokevirtual 100, 3) := by decide +kernel
theorem dX10_addLine_5 : decode cX10_addLine 5 = .ok (.astore 7, 2) := by decide +kernel
theorem dX10_addLine_7 : decode cX10_addLine 7 = .ok (.aload_n 0, 1) := by decide +kernel
theorem dX10_addLine_8 : decode cX10_addLine 8 = .ok (.iload_n 2, 1) := by decide +kernel
theorem dX10_addLine_9 : decode cX10_addLine 9 = .ok (.invokevirtual 100, 3) := by decide +kernel
theorem dX10_addLine_12 : decode cX10_addLine 12 = .ok (.astore 8, 2) := by decide +kernel
theorem dX10_addLine_14 : decode cX10_addLine 14 = .ok (.aload 7, 2) := by decide +kernel
theorem dX10_addLine_16 : decode cX10_addLine 16 = .ok (.aload 8, 2) := by decide +kernel
theorem dX10_addLine_18 : decode cX10_addLine 18 = .ok (.if_acmp .eq 45, 3) := by decide +kernel
theorem dX10_addLine_21 : decode cX10_addLine 21 = .ok (.iload_n 3, 1) := by decide +kernel
theorem dX10_addLine_22 : decode cX10_addLine 22 = .ok (.iconst 0, 1) := by decide +kernel
theorem dX10_addLine_23 : decode cX10_addLine 23 = .ok (.bipush 59, 2) := by decide +kernel
theorem dX10_addLine_25 : decode cX10_addLine 25 = .ok (.invokestatic 64, 3) := by decide +kernel
theorem dX10_addLine_28 : decode cX10_addLine 28 = .ok (.ifCond .eq 35, 3) := by decide +kernel
theorem dX10_addLine_31 : decode cX10_addLine 31 = .ok (.iload 4, 2) := by decide +kernel
theorem dX10_addLine_33 : decode cX10_addLine 33 = .ok (.iconst 5, 1) := by decide +kernel
theorem dX10_addLine_34 : decode cX10_addLine 34 = .ok (.bipush 60, 2) := by decide +kernel
theorem dX10_addLine_36 : decode cX10_addLine 36 = .ok (.invokestatic 64, 3) := by decide +kernel
theorem dX10_addLine_39 : decode cX10_addLine 39 = .ok (.ifCond .eq 24, 3) := by decide +kernel
theorem dX10_addLine_42 : decode cX10_addLine 42 = .ok (.iload 5, 2) := by decide +kernel
theorem dX10_addLine_44 : decode cX10_addLine 44 = .ok (.iconst 1, 1) := by decide +kernel
theorem dX10_addLine_45 : decode cX10_addLine 45 = .ok (.bipush 60, 2) := by decide +kernel
theorem dX10_addLine_47 : decode cX10_addLine 47 = .ok (.invokestatic 64, 3) := by decide +kernel
theorem dX10_addLine_50 : decode cX10_addLine 50 = .ok (.ifCond .eq 13, 3) := by decide +kernel
theorem dX10_addLine_53 : decode cX10_addLine 53 = .ok (.iload 6, 2) := by decide +kernel
theorem dX10_addLine_55 : decode cX10_addLine 55 = .ok (.iconst 1, 1) := by decide +kernel
theorem dX10_addLine_56 : decode cX10_addLine 56 = .ok (.iconst 4, 1) := by decide +kernel
theorem dX10_addLine_57 : decode cX10_addLine 57 = .ok (.invokestatic 64, 3) := by decide +kernel
theorem dX10_addLine_60 : decode cX10_addLine 60 = .ok (.ifCond .ne 13, 3) := by decide +kernel
theorem dX10_addLine_63 : decode cX10_addLine 63 = .ok (.new 68, 3) := by decide +kernel
theorem dX10_addLine_66 : decode cX10_addLine 66 = .ok (.dup, 1) := by decide +kernel
theorem dX10_addLine_67 : decode cX10_addLine 67 = .ok (.ldc 103, 2) := by decide +kernel
theorem dX10_addLine_69 : decode cX10_addLine 69 = .ok (.invokespecial 72, 3) := by decide +kernel
theorem dX10_addLine_72 : decode cX10_addLine 72 = .ok (.athrow, 1) := by decide +kernel
theorem dX10_addLine_73 : decode cX10_addLine 73 = .ok (.aload_n 0, 1) := by decide +kernel
theorem dX10_addLine_74 : decode cX10_addLine 74 = .ok (.getfield 16, 3) := by decide +kernel
theorem dX10_addLine_77 : decode cX10_addLine 77 = .ok (.invokevirtual 79, 3) := by decide +kernel
theorem dX10_addLine_80 : decode cX10_addLine 80 = .ok (.bipush 12, 2) := by decide +kernel
theorem dX10_addLine_82 : decode cX10_addLine 82 = .ok (.if_icmp .lt 13, 3) := by decide +kernel
theorem dX10_addLine_85 : decode cX10_addLine 85 = .ok (.new 83, 3) := by decide +kernel
theorem dX10_addLine_88 : decode cX10_addLine 88 = .ok (.dup, 1) := by decide +kernel
theorem dX10_addLine_89 : decode cX10_addLine 89 = .ok (.ldc 105, 2) := by decide +kernel
theorem dX10_addLine_91 : decode cX10_addLine 91 = .ok (.invokespecial 87, 3) := by decide +kernel
theorem dX10_addLine_94 : decode cX10_addLine 94 = .ok (.athrow, 1) := by decide +kernel
theorem dX10_addLine_95 : decode cX10_addLine 95 = .ok (.new 107, 3) := by decide +kernel
theorem dX10_addLine_98 : decode cX10_addLine 98 = .ok (.dup, 1) := by decide +kernel
theorem dX10_addLine_99 : decode cX10_addLine 99 = .ok (.aload_n 0, 1) := by decide +kernel
theorem dX10_addLine_100 : decode cX10_addLine 100 = .ok (.getfield 16, 3) := by decide +kernel
theorem dX10_addLine_103 : decode cX10_addLine 103 = .ok (.invokevirtual 79, 3) := by decide +kernel
theorem dX10_addLine_106 : decode cX10_addLine 106 = .ok (.aload 7, 2) := by decide +kernel
theorem dX10_addLine_108 : decode cX10_addLine 108 = .ok (.aload 8, 2) := by decide +kernel
theorem dX10_addLine_110 : decode cX10_addLine 110 = .ok (.iload 6, 2) := by decide +kernel
theorem dX10_addLine_112 : decode cX10_addLine 112 = .ok (.invokespecial 109, 3) := by decide +kernel
theorem dX10_addLine_115 : decode cX10_addLine 115 = .ok (.astore 9, 2) := by decide +kernel
theorem dX10_addLine_117 : decode cX10_addLine 117 = .ok (.aload 9, 2) := by decide +kernel
theorem dX10_addLine_119 : decode cX10_addLine 119 = .ok (.iload_n 3, 1) := by decide +kernel
theorem dX10_addLine_120 : decode cX10_addLine 120 = .ok (.iload 4, 2) := by decide +kernel
theorem dX10_addLine_122 : decode cX10_addLine 122 = .ok (.iload 5, 2) := by decide +kernel
theorem dX10_addLine_124 : decode cX10_addLine 124 = .ok (.invokevirtual 112, 3) := by decide +kernel
theorem dX10_addLine_127 : decode cX10_addLine 127 = .ok (.aload_n 0, 1) := by decide +kernel
theorem dX10_addLine_128 : decode cX10_addLine 128 = .ok (.getfield 16, 3) := by decide +kernel
theorem dX10_addLine_131 : decode cX10_addLine 131 = .ok (.aload 9, 2) := by decide +kernel
theorem dX10_addLine_133 : decode cX10_addLine 133 = .ok (.invokevirtual 93, 3) := by decide +kernel
theorem dX10_addLine_136 : decode cX10_addLine 136 = .ok (.pop, 1) := by decide +kernel
theorem dX10_addLine_137 : decode cX10_addLine 137 = .ok (.aload_n 0, 1) := by decide +kernel
theorem dX10_addLine_138 : decode cX10_addLine 138 = .ok (.invokevirtual 115, 3) := by decide +kernel
theorem dX10_addLine_141 : decode cX10_addLine 141 = .ok (.aload 9, 2) := by decide +kernel
theorem dX10_addLine_143 : decode cX10_addLine 143 = .ok (.getfield 118, 3) := by decide +kernel
theorem dX10_addLine_146 : decode cX10_addLine 146 = .ok (.ireturn, 1) := by decide +kernel
theorem dX10_closeLine_0 : decode cX10_closeLine 0 = .ok (.aload_n 0, 1) := by decide +kernel
theorem dX10_closeLine_1 : decode cX10_closeLine 1 = .ok (.iload_n 1, 1) := by decide +kernel
theorem dX10_closeLine_2 : decode cX10_closeLine 2 = .ok (.invokevirtual 119, 3) := by decide +kernel
theorem dX10_closeLine_5 : decode cX10_closeLine 5 = .ok (.astore_n 2, 1) := by decide +kernel
theorem dX10_closeLine_6 : decode cX10_closeLine 6 = .ok (.aload_n 0, 1) := by decide +kernel
theorem dX10_closeLine_7 : decode cX10_closeLine 7 = .ok (.aload_n 2, 1) := by decide +kernel
theorem dX10_closeLine_8 : decode cX10_closeLine 8 = .ok (.invokevirtual 123, 3) := by decide +kernel
theorem dX10_closeLine_11 : decode cX10_closeLine 11 = .ok (.istore_n 3, 1) := by decide +kernel
theorem dX10_closeLine_12 : decode cX10_closeLine 12 = .ok (.aload_n 2, 1) := by decide +kernel
theorem dX10_closeLine_13 : decode cX10_closeLine 13 = .ok (.iconst 0, 1) := by decide +kernel
theorem dX10_closeLine_14 : decode cX10_closeLine 14 = .ok (.putfield 127, 3) := by decide +kernel
theorem dX10_closeLine_17 : decode cX10_closeLine 17 = .ok (.aload_n 0, 1) := by decide +kernel
theorem dX10_closeLine_18 : decode cX10_closeLine 18 = .ok (.invokevirtual 115, 3) := by decide +kernel
theorem dX10_closeLine_21 : decode cX10_closeLine 21 = .ok (.iload_n 3, 1) := by decide +kernel
theorem dX10_closeLine_22 : decode cX10_closeLine 22 = .ok (.ireturn, 1) := by decide +kernel
theorem dX10_hubOf_0 : decode cX10_hubOf 0 = .ok (.iload_n 1, 1) := by decide +kernel
theorem dX10_hubOf_1 : decode cX10_hubOf 1 = .ok (.invokestatic 131, 3) := by decide +kernel
theorem dX10_hubOf_4 : decode cX10_hubOf 4 = .ok (.ifCond .ne 13, 3) := by decide +kernel
theorem dX10_hubOf_7 : decode cX10_hubOf 7 = .ok (.new 68, 3) := by decide +kernel
theorem dX10_hubOf_10 : decode cX10_hubOf 10 = .ok (.dup, 1) := by decide +kernel
theorem dX10_hubOf_11 : decode cX10_hubOf 11 = .ok (.ldc 134, 2) := by decide +kernel
theorem dX10_hubOf_13 : decode cX10_hubOf 13 = .ok (.invokespecial 72, 3) := by decide +kernel
theorem dX10_hubOf_16 : decode cX10_hubOf 16 = .ok (.athrow, 1) := by decide +kernel
theorem dX10_hubOf_17 : decode cX10_hubOf 17 = .ok (.aload_n 0, 1) := by decide +kernel
theorem dX10_hubOf_18 : decode cX10_hubOf 18 = .ok (.iload_n 1, 1) := by decide +kernel
theorem dX10_hubOf_19 : decode cX10_hubOf 19 = .ok (.invokevirtual 136, 3) := by decide +kernel
theorem dX10_hubOf_22 : decode cX10_hubOf 22 = .ok (.invokestatic 139, 3) := by decide +kernel
theorem dX10_hubOf_25 : decode cX10_hubOf 25 = .ok (.ireturn, 1) := by decide +kernel
theorem dX10_hubByTrying_0 : decode cX10_hubByTrying 0 = .ok (.iload_n 1, 1) := by decide +kernel
theorem dX10_hubByTrying_1 : decode cX10_hubByTrying 1 = .ok (.invokestatic 131, 3) := by decide +kernel
theorem dX10_hubByTrying_4 : decode cX10_hubByTrying 4 = .ok (.ifCond .ne 13, 3) := by decide +kernel
theorem dX10_hubByTrying_7 : decode cX10_hubByTrying 7 = .ok (.new 68, 3) := by decide +kernel
theorem dX10_hubByTrying_10 : decode cX10_hubByTrying 10 = .ok (.dup, 1) := by decide +kernel
theorem dX10_hubByTrying_11 : decode cX10_hubByTrying 11 = .ok (.ldc 134, 2) := by decide +kernel
theorem dX10_hubByTrying_13 : decode cX10_hubByTrying 13 = .ok (.invokespecial 72, 3) := by decide +kernel
theorem dX10_hubByTrying_16 : decode cX10_hubByTrying 16 = .ok (.athrow, 1) := by decide +kernel
theorem dX10_hubByTrying_17 : decode cX10_hubByTrying 17 = .ok (.aconst_null, 1) := by decide +kernel
theorem dX10_hubByTrying_18 : decode cX10_hubByTrying 18 = .ok (.astore_n 2, 1) := by decide +kernel
theorem dX10_hubByTrying_19 : decode cX10_hubByTrying 19 = .ok (.iconst 0, 1) := by decide +kernel
theorem dX10_hubByTrying_20 : decode cX10_hubByTrying 20 = .ok (.istore_n 3, 1) := by decide +kernel
theorem dX10_hubByTrying_21 : decode cX10_hubByTrying 21 = .ok (.iload_n 3, 1) := by decide +kernel
theorem dX10_hubByTrying_22 : decode cX10_hubByTrying 22 = .ok (.aload_n 0, 1) := by decide +kernel
theorem dX10_hubByTrying_23 : decode cX10_hubByTrying 23 = .ok (.getfield 12, 3) := by decide +kernel
theorem dX10_hubByTrying_26 : decode cX10_hubByTrying 26 = .ok (.invokevirtual 79, 3) := by decide +kernel
theorem dX10_hubByTrying_29 : decode cX10_hubByTrying 29 = .ok (.if_icmp .ge 53, 3) := by decide +kernel
theorem dX10_hubByTrying_32 : decode cX10_hubByTrying 32 = .ok (.aload_n 0, 1) := by decide +kernel
theorem dX10_hubByTrying_33 : decode cX10_hubByTrying 33 = .ok (.getfield 12, 3) := by decide +kernel
theorem dX10_hubByTrying_36 : decode cX10_hubByTrying 36 = .ok (.iload_n 3, 1) := by decide +kernel
theorem dX10_hubByTrying_37 : decode cX10_hubByTrying 37 = .ok (.invokevirtual 143, 3) := by decide +kernel
theorem dX10_hubByTrying_40 : decode cX10_hubByTrying 40 = .ok (.checkcast 88, 3) := by decide +kernel
theorem dX10_hubByTrying_43 : decode cX10_hubByTrying 43 = .ok (.astore 4, 2) := by decide +kernel
theorem dX10_hubByTrying_45 : decode cX10_hubByTrying 45 = .ok (.aload 4, 2) := by decide +kernel
theorem dX10_hubByTrying_47 : decode cX10_hubByTrying 47 = .ok (.getfield 147, 3) := by decide +kernel
theorem dX10_hubByTrying_50 : decode cX10_hubByTrying 50 = .ok (.iload_n 1, 1) := by decide +kernel
theorem dX10_hubByTrying_51 : decode cX10_hubByTrying 51 = .ok (.invokestatic 150, 3) := by decide +kernel
theorem dX10_hubByTrying_54 : decode cX10_hubByTrying 54 = .ok (.ifCond .eq 22, 3) := by decide +kernel
theorem dX10_hubByTrying_57 : decode cX10_hubByTrying 57 = .ok (.aload_n 2, 1) := by decide +kernel
theorem dX10_hubByTrying_58 : decode cX10_hubByTrying 58 = .ok (.ifnull 15, 3) := by decide +kernel
theorem dX10_hubByTrying_61 : decode cX10_hubByTrying 61 = .ok (.aload 4, 2) := by decide +kernel
theorem dX10_hubByTrying_63 : decode cX10_hubByTrying 63 = .ok (.getfield 147, 3) := by decide +kernel
theorem dX10_hubByTrying_66 : decode cX10_hubByTrying 66 = .ok (.aload_n 2, 1) := by decide +kernel
theorem dX10_hubByTrying_67 : decode cX10_hubByTrying 67 = .ok (.getfield 147, 3) := by decide +kernel
theorem dX10_hubByTrying_70 : decode cX10_hubByTrying 70 = .ok (.if_icmp .le 6, 3) := by decide +kernel
theorem dX10_hubByTrying_73 : decode cX10_hubByTrying 73 = .ok (.aload 4, 2) := by decide +kernel
theorem dX10_hubByTrying_75 : decode cX10_hubByTrying 75 = .ok (.astore_n 2, 1) := by decide +kernel
theorem dX10_hubByTrying_76 : decode cX10_hubByTrying 76 = .ok (.iinc 3 1, 3) := by decide +kernel
theorem dX10_hubByTrying_79 : decode cX10_hubByTrying 79 = .ok (.goto (-58), 3) := by decide +kernel
theorem dX10_hubByTrying_82 : decode cX10_hubByTrying 82 = .ok (.aload_n 2, 1) := by decide +kernel
theorem dX10_hubByTrying_83 : decode cX10_hubByTrying 83 = .ok (.invokestatic 139, 3) := by decide +kernel
theorem dX10_hubByTrying_86 : decode cX10_hubByTrying 86 = .ok (.ireturn, 1) := by decide +kernel
theorem dX10_nextDeparture_0 : decode cX10_nextDeparture 0 = .ok (.aload_n 0, 1) := by decide +kernel
theorem dX10_nextDeparture_1 : decode cX10_nextDeparture 1 = .ok (.iload_n 1, 1) := by decide +kernel
theorem dX10_nextDeparture_2 : decode cX10_nextDeparture 2 = .ok (.invokevirtual 119, 3) := by decide +kernel
theorem dX10_nextDeparture_5 : decode cX10_nextDeparture 5 = .ok (.aload_n 0, 1) := by decide +kernel
theorem dX10_nextDeparture_6 : decode cX10_nextDeparture 6 = .ok (.getfield 56, 3) := by decide +kernel
theorem dX10_nextDeparture_9 : decode cX10_nextDeparture 9 = .ok (.iconst 1, 1) := by decide +kernel
theorem dX10_nextDeparture_10 : decode cX10_nextDeparture 10 = .ok (.iadd, 1) := by decide +kernel
theorem dX10_nextDeparture_11 : decode cX10_nextDeparture 11 = .ok (.invokevirtual 154, 3) := by decide +kernel
theorem dX10_nextDeparture_14 : decode cX10_nextDeparture 14 = .ok (.ireturn, 1) := by decide +kernel
theorem dX10_hubs_0 : decode cX10_hubs 0 = .ok (.aload_n 0, 1) := by decide +kernel
theorem dX10_hubs_1 : decode cX10_hubs 1 = .ok (.getfield 12, 3) := by decide +kernel
theorem dX10_hubs_4 : decode cX10_hubs 4 = .ok (.invokevirtual 79, 3) := by decide +kernel
theorem dX10_hubs_7 : decode cX10_hubs 7 = .ok (.ireturn, 1) := by decide +kernel
theorem dX10_lines_0 : decode cX10_lines 0 = .ok (.aload_n 0, 1) := by decide +kernel
theorem dX10_lines_1 : decode cX10_lines 1 = .ok (.getfield 16, 3) := by decide +kernel
theorem dX10_lines_4 : decode cX10_lines 4 = .ok (.invokevirtual 79, 3) := by decide +kernel
theorem dX10_lines_7 : decode cX10_lines 7 = .ok (.ireturn, 1) := by decide +kernel
theorem dX10_minute_0 : decode cX10_minute 0 = .ok (.aload_n 0, 1) := by decide +kernel
theorem dX10_minute_1 : decode cX10_minute 1 = .ok (.getfield 56, 3) := by decide +kernel
theorem dX10_minute_4 : decode cX10_minute 4 = .ok (.ireturn, 1) := by decide +kernel
theorem dX10_accept_0 : decode cX10_accept 0 = .ok (.aload_n 0, 1) := by decide +kernel
theorem dX10_accept_1 : decode cX10_accept 1 = .ok (.iload_n 1, 1) := by decide +kernel
theorem dX10_accept_2 : decode cX10_accept 2 = .ok (.invokevirtual 100, 3) := by decide +kernel
theorem dX10_accept_5 : decode cX10_accept 5 = .ok (.astore 5, 2) := by decide +kernel
theorem dX10_accept_7 : decode cX10_accept 7 = .ok (.iload_n 2, 1) := by decide +kernel
theorem dX10_accept_8 : decode cX10_accept 8 = .ok (.invokestatic 131, 3) := by decide +kernel
theorem dX10_accept_11 : decode cX10_accept 11 = .ok (.ifCond .eq 23, 3) := by decide +kernel
theorem dX10_accept_14 : decode cX10_accept 14 = .ok (.iload_n 3, 1) := by decide +kernel
theorem dX10_accept_15 : decode cX10_accept 15 = .ok (.iconst 1, 1) := by decide +kernel
theorem dX10_accept_16 : decode cX10_accept 16 = .ok (.bipush 9, 2) := by decide +kernel
theorem dX10_accept_18 : decode cX10_accept 18 = .ok (.invokestatic 64, 3) := by decide +kernel
theorem dX10_accept_21 : decode cX10_accept 21 = .ok (.ifCond .eq 13, 3) := by decide +kernel
theorem dX10_accept_24 : decode cX10_accept 24 = .ok (.iload 4, 2) := by decide +kernel
theorem dX10_accept_26 : decode cX10_accept 26 = .ok (.iconst 0, 1) := by decide +kernel
theorem dX10_accept_27 : decode cX10_accept 27 = .ok (.iconst 2, 1) := by decide +kernel
theorem dX10_accept_28 : decode cX10_accept 28 = .ok (.invokestatic 64, 3) := by decide +kernel
theorem dX10_accept_31 : decode cX10_accept 31 = .ok (.ifCond .ne 13, 3) := by decide +kernel
theorem dX10_accept_34 : decode cX10_accept 34 = .ok (.new 68, 3) := by decide +kernel
theorem dX10_accept_37 : decode cX10_accept 37 = .ok (.dup, 1) := by decide +kernel
theorem dX10_accept_38 : decode cX10_accept 38 = .ok (.ldc 158, 2) := by decide +kernel
theorem dX10_accept_40 : decode cX10_accept 40 = .ok (.invokespecial 72, 3) := by decide +kernel
theorem dX10_accept_43 : decode cX10_accept 43 = .ok (.athrow, 1) := by decide +kernel
theorem dX10_accept_44 : decode cX10_accept 44 = .ok (.aload_n 0, 1) := by decide +kernel
theorem dX10_accept_45 : decode cX10_accept 45 = .ok (.iload_n 2, 1) := by decide +kernel
theorem dX10_accept_46 : decode cX10_accept 46 = .ok (.invokevirtual 136, 3) := by decide +kernel
theorem dX10_accept_49 : decode cX10_accept 49 = .ok (.astore 6, 2) := by decide +kernel
theorem dX10_accept_51 : decode cX10_accept 51 = .ok (.aload 6, 2) := by decide +kernel
theorem dX10_accept_53 : decode cX10_accept 53 = .ok (.ifnull 15, 3) := by decide +kernel
theorem dX10_accept_56 : decode cX10_accept 56 = .ok (.aload_n 0, 1) := by decide +kernel
theorem dX10_accept_57 : decode cX10_accept 57 = .ok (.getfield 19, 3) := by decide +kernel
theorem dX10_accept_60 : decode cX10_accept 60 = .ok (.invokevirtual 79, 3) := by decide +kernel
theorem dX10_accept_63 : decode cX10_accept 63 = .ok (.bipush 40, 2) := by decide +kernel
theorem dX10_accept_65 : decode cX10_accept 65 = .ok (.if_icmp .lt 13, 3) := by decide +kernel
theorem dX10_accept_68 : decode cX10_accept 68 = .ok (.new 83, 3) := by decide +kernel
theorem dX10_accept_71 : decode cX10_accept 71 = .ok (.dup, 1) := by decide +kernel
theorem dX10_accept_72 : decode cX10_accept 72 = .ok (.ldc 160, 2) := by decide +kernel
theorem dX10_accept_74 : decode cX10_accept 74 = .ok (.invokespecial 87, 3) := by decide +kernel
theorem dX10_accept_77 : decode cX10_accept 77 = .ok (.athrow, 1) := by decide +kernel
theorem dX10_accept_78 : decode cX10_accept 78 = .ok (.new 162, 3) := by decide +kernel
theorem dX10_accept_81 : decode cX10_accept 81 = .ok (.dup, 1) := by decide +kernel
theorem dX10_accept_82 : decode cX10_accept 82 = .ok (.aload_n 0, 1) := by decide +kernel
theorem dX10_accept_83 : decode cX10_accept 83 = .ok (.getfield 19, 3) := by decide +kernel
theorem dX10_accept_86 : decode cX10_accept 86 = .ok (.invokevirtual 79, 3) := by decide +kernel
theorem dX10_accept_89 : decode cX10_accept 89 = .ok (.aload 5, 2) := by decide +kernel
theorem dX10_accept_91 : decode cX10_accept 91 = .ok (.aload 6, 2) := by decide +kernel
theorem dX10_accept_93 : decode cX10_accept 93 = .ok (.iload_n 3, 1) := by decide +kernel
theorem dX10_accept_94 : decode cX10_accept 94 = .ok (.iload 4, 2) := by decide +kernel
theorem dX10_accept_96 : decode cX10_accept 96 = .ok (.aload_n 0, 1) := by decide +kernel
theorem dX10_accept_97 : decode cX10_accept 97 = .ok (.getfield 56, 3) := by decide +kernel
theorem dX10_accept_100 : decode cX10_accept 100 = .ok (.invokespecial 164, 3) := by decide +kernel
theorem dX10_accept_103 : decode cX10_accept 103 = .ok (.astore 7, 2) := by decide +kernel
theorem dX10_accept_105 : decode cX10_accept 105 = .ok (.aload_n 0, 1) := by decide +kernel
theorem dX10_accept_106 : decode cX10_accept 106 = .ok (.getfield 19, 3) := by decide +kernel
theorem dX10_accept_109 : decode cX10_accept 109 = .ok (.aload 7, 2) := by decide +kernel
theorem dX10_accept_111 : decode cX10_accept 111 = .ok (.invokevirtual 93, 3) := by decide +kernel
theorem dX10_accept_114 : decode cX10_accept 114 = .ok (.pop, 1) := by decide +kernel
theorem dX10_accept_115 : decode cX10_accept 115 = .ok (.aload 7, 2) := by decide +kernel
theorem dX10_accept_117 : decode cX10_accept 117 = .ok (.aload 5, 2) := by decide +kernel
theorem dX10_accept_119 : decode cX10_accept 119 = .ok (.aload_n 0, 1) := by decide +kernel
theorem dX10_accept_120 : decode cX10_accept 120 = .ok (.getfield 56, 3) := by decide +kernel
theorem dX10_accept_123 : decode cX10_accept 123 = .ok (.invokevirtual 167, 3) := by decide +kernel
theorem dX10_accept_126 : decode cX10_accept 126 = .ok (.aload 7, 2) := by decide +kernel
theorem dX10_accept_128 : decode cX10_accept 128 = .ok (.getfield 171, 3) := by decide +kernel
theorem dX10_accept_131 : decode cX10_accept 131 = .ok (.bipush 97, 2) := by decide +kernel
theorem dX10_accept_133 : decode cX10_accept 133 = .ok (.aload_n 0, 1) := by decide +kernel
theorem dX10_accept_134 : decode cX10_accept 134 = .ok (.getfield 56, 3) := by decide +kernel
theorem dX10_accept_137 : decode cX10_accept 137 = .ok (.aload 5, 2) := by decide +kernel
theorem dX10_accept_139 : decode cX10_accept 139 = .ok (.aconst_null, 1) := by decide +kernel
theorem dX10_accept_140 : decode cX10_accept 140 = .ok (.invokevirtual 175, 3) := by decide +kernel
theorem dX10_accept_143 : decode cX10_accept 143 = .ok (.aload_n 0, 1) := by decide +kernel
theorem dX10_accept_144 : decode cX10_accept 144 = .ok (.aload 7, 2) := by decide +kernel
theorem dX10_accept_146 : decode cX10_accept 146 = .ok (.invokevirtual 181, 3) := by decide +kernel
theorem dX10_accept_149 : decode cX10_accept 149 = .ok (.aload 7, 2) := by decide +kernel
theorem dX10_accept_151 : decode cX10_accept 151 = .ok (.getfield 185, 3) := by decide +kernel
theorem dX10_accept_154 : decode cX10_accept 154 = .ok (.ireturn, 1) := by decide +kernel
theorem dX10_scan_0 : decode cX10_scan 0 = .ok (.aload_n 0, 1) := by decide +kernel
theorem dX10_scan_1 : decode cX10_scan 1 = .ok (.iload_n 1, 1) := by decide +kernel
theorem dX10_scan_2 : decode cX10_scan 2 = .ok (.invokevirtual 186, 3) := by decide +kernel
theorem dX10_scan_5 : decode cX10_scan 5 = .ok (.astore_n 3, 1) := by decide +kernel
theorem dX10_scan_6 : decode cX10_scan 6 = .ok (.aload_n 0, 1) := by decide +kernel
theorem dX10_scan_7 : decode cX10_scan 7 = .ok (.iload_n 2, 1) := by decide +kernel
theorem dX10_scan_8 : decode cX10_scan 8 = .ok (.invokevirtual 100, 3) := by decide +kernel
theorem dX10_scan_11 : decode cX10_scan 11 = .ok (.astore 4, 2) := by decide +kernel
theorem dX10_scan_13 : decode cX10_scan 13 = .ok (.aload_n 3, 1) := by decide +kernel
theorem dX10_scan_14 : decode cX10_scan 14 = .ok (.getfield 190, 3) := by decide +kernel
theorem dX10_scan_17 : decode cX10_scan 17 = .ok (.bipush 100, 2) := by decide +kernel
theorem dX10_scan_19 : decode cX10_scan 19 = .ok (.if_icmp .eq 12, 3) := by decide +kernel
theorem dX10_scan_22 : decode cX10_scan 22 = .ok (.aload_n 3, 1) := by decide +kernel
theorem dX10_scan_23 : decode cX10_scan 23 = .ok (.getfield 190, 3) := by decide +kernel
theorem dX10_scan_26 : decode cX10_scan 26 = .ok (.bipush 104, 2) := by decide +kernel
theorem dX10_scan_28 : decode cX10_scan 28 = .ok (.if_icmp .ne 13, 3) := by decide +kernel
theorem dX10_scan_31 : decode cX10_scan 31 = .ok (.new 83, 3) := by decide +kernel
theorem dX10_scan_34 : decode cX10_scan 34 = .ok (.dup, 1) := by decide +kernel
theorem dX10_scan_35 : decode cX10_scan 35 = .ok (.ldc 194, 2) := by decide +kernel
theorem dX10_scan_37 : decode cX10_scan 37 = .ok (.invokespecial 87, 3) := by decide +kernel
theorem dX10_scan_40 : decode cX10_scan 40 = .ok (.athrow, 1) := by decide +kernel
theorem dX10_scan_41 : decode cX10_scan 41 = .ok (.aload_n 3, 1) := by decide +kernel
theorem dX10_scan_42 : decode cX10_scan 42 = .ok (.getfield 190, 3) := by decide +kernel
theorem dX10_scan_45 : decode cX10_scan 45 = .ok (.bipush 116, 2) := by decide +kernel
theorem dX10_scan_47 : decode cX10_scan 47 = .ok (.if_icmp .eq 12, 3) := by decide +kernel
theorem dX10_scan_50 : decode cX10_scan 50 = .ok (.aload_n 3, 1) := by decide +kernel
theorem dX10_scan_51 : decode cX10_scan 51 = .ok (.getfield 196, 3) := by decide +kernel
theorem dX10_scan_54 : decode cX10_scan 54 = .ok (.aload 4, 2) := by decide +kernel
theorem dX10_scan_56 : decode cX10_scan 56 = .ok (.if_acmp .eq 11, 3) := by decide +kernel
theorem dX10_scan_59 : decode cX10_scan 59 = .ok (.aload_n 0, 1) := by decide +kernel
theorem dX10_scan_60 : decode cX10_scan 60 = .ok (.aload_n 3, 1) := by decide +kernel
theorem dX10_scan_61 : decode cX10_scan 61 = .ok (.aload 4, 2) := by decide +kernel
theorem dX10_scan_63 : decode cX10_scan 63 = .ok (.invokevirtual 200, 3) := by decide +kernel
theorem dX10_scan_66 : decode cX10_scan 66 = .ok (.ireturn, 1) := by decide +kernel
theorem dX10_scan_67 : decode cX10_scan 67 = .ok (.aload_n 3, 1) := by decide +kernel
theorem dX10_scan_68 : decode cX10_scan 68 = .ok (.getfield 190, 3) := by decide +kernel
theorem dX10_scan_71 : decode cX10_scan 71 = .ok (.bipush 115, 2) := by decide +kernel
theorem dX10_scan_73 : decode cX10_scan 73 = .ok (.if_icmp .ne 6, 3) := by decide +kernel
theorem dX10_scan_76 : decode cX10_scan 76 = .ok (.bipush 97, 2) := by decide +kernel
theorem dX10_scan_78 : decode cX10_scan 78 = .ok (.ireturn, 1) := by decide +kernel
theorem dX10_scan_79 : decode cX10_scan 79 = .ok (.aload_n 3, 1) := by decide +kernel
theorem dX10_scan_80 : decode cX10_scan 80 = .ok (.aload 4, 2) := by decide +kernel
theorem dX10_scan_82 : decode cX10_scan 82 = .ok (.aload_n 0, 1) := by decide +kernel
theorem dX10_scan_83 : decode cX10_scan 83 = .ok (.getfield 56, 3) := by decide +kernel
theorem dX10_scan_86 : decode cX10_scan 86 = .ok (.invokevirtual 167, 3) := by decide +kernel
theorem dX10_scan_89 : decode cX10_scan 89 = .ok (.aload_n 3, 1) := by decide +kernel
theorem dX10_scan_90 : decode cX10_scan 90 = .ok (.getfield 171, 3) := by decide +kernel
theorem dX10_scan_93 : decode cX10_scan 93 = .ok (.bipush 115, 2) := by decide +kernel
theorem dX10_scan_95 : decode cX10_scan 95 = .ok (.aload_n 0, 1) := by decide +kernel
theorem dX10_scan_96 : decode cX10_scan 96 = .ok (.getfield 56, 3) := by decide +kernel
theorem dX10_scan_99 : decode cX10_scan 99 = .ok (.aload 4, 2) := by decide +kernel
theorem dX10_scan_101 : decode cX10_scan 101 = .ok (.aconst_null, 1) := by decide +kernel
theorem dX10_scan_102 : decode cX10_scan 102 = .ok (.invokevirtual 175, 3) := by decide +kernel
theorem dX10_scan_105 : decode cX10_scan 105 = .ok (.aload_n 0, 1) := by decide +kernel
theorem dX10_scan_106 : decode cX10_scan 106 = .ok (.aload_n 3, 1) := by decide +kernel
theorem dX10_scan_107 : decode cX10_scan 107 = .ok (.invokevirtual 204, 3) := by decide +kernel
theorem dX10_scan_110 : decode cX10_scan 110 = .ok (.bipush 111, 2) := by decide +kernel
theorem dX10_scan_112 : decode cX10_scan 112 = .ok (.ireturn, 1) := by decide +kernel
theorem dX10_deliver_0 : decode cX10_deliver 0 = .ok (.aload_n 0, 1) := by decide +kernel
theorem dX10_deliver_1 : decode cX10_deliver 1 = .ok (.iload_n 1, 1) := by decide +kernel
theorem dX10_deliver_2 : decode cX10_deliver 2 = .ok (.invokevirtual 186, 3) := by decide +kernel
theorem dX10_deliver_5 : decode cX10_deliver 5 = .ok (.astore_n 3, 1) := by decide +kernel
theorem dX10_deliver_6 : decode cX10_deliver 6 = .ok (.aload_n 3, 1) := by decide +kernel
theorem dX10_deliver_7 : decode cX10_deliver 7 = .ok (.getfield 190, 3) := by decide +kernel
theorem dX10_deliver_10 : decode cX10_deliver 10 = .ok (.bipush 115, 2) := by decide +kernel
theorem dX10_deliver_12 : decode cX10_deliver 12 = .ok (.if_icmp .ne 14, 3) := by decide +kernel
theorem dX10_deliver_15 : decode cX10_deliver 15 = .ok (.aload_n 3, 1) := by decide +kernel
theorem dX10_deliver_16 : decode cX10_deliver 16 = .ok (.getfield 196, 3) := by decide +kernel
theorem dX10_deliver_19 : decode cX10_deliver 19 = .ok (.aload_n 3, 1) := by decide +kernel
theorem dX10_deliver_20 : decode cX10_deliver 20 = .ok (.getfield 207, 3) := by decide +kernel
theorem dX10_deliver_23 : decode cX10_deliver 23 = .ok (.if_acmp .eq 13, 3) := by decide +kernel
theorem dX10_deliver_26 : decode cX10_deliver 26 = .ok (.new 83, 3) := by decide +kernel
theorem dX10_deliver_29 : decode cX10_deliver 29 = .ok (.dup, 1) := by decide +kernel
theorem dX10_deliver_30 : decode cX10_deliver 30 = .ok (.ldc 210, 2) := by decide +kernel
theorem dX10_deliver_32 : decode cX10_deliver 32 = .ok (.invokespecial 87, 3) := by decide +kernel
theorem dX10_deliver_35 : decode cX10_deliver 35 = .ok (.athrow, 1) := by decide +kernel
theorem dX10_deliver_36 : decode cX10_deliver 36 = .ok (.iload_n 2, 1) := by decide +kernel
theorem dX10_deliver_37 : decode cX10_deliver 37 = .ok (.ifCond .ne 9, 3) := by decide +kernel
theorem dX10_deliver_40 : decode cX10_deliver 40 = .ok (.aload_n 0, 1) := by decide +kernel
theorem dX10_deliver_41 : decode cX10_deliver 41 = .ok (.aload_n 3, 1) := by decide +kernel
theorem dX10_deliver_42 : decode cX10_deliver 42 = .ok (.invokevirtual 212, 3) := by decide +kernel
theorem dX10_deliver_45 : decode cX10_deliver 45 = .ok (.ireturn, 1) := by decide +kernel
theorem dX10_deliver_46 : decode cX10_deliver 46 = .ok (.aload_n 3, 1) := by decide +kernel
theorem dX10_deliver_47 : decode cX10_deliver 47 = .ok (.bipush 100, 2) := by decide +kernel
theorem dX10_deliver_49 : decode cX10_deliver 49 = .ok (.putfield 190, 3) := by decide +kernel
theorem dX10_deliver_52 : decode cX10_deliver 52 = .ok (.aload_n 3, 1) := by decide +kernel
theorem dX10_deliver_53 : decode cX10_deliver 53 = .ok (.aload_n 0, 1) := by decide +kernel
theorem dX10_deliver_54 : decode cX10_deliver 54 = .ok (.getfield 56, 3) := by decide +kernel
theorem dX10_deliver_57 : decode cX10_deliver 57 = .ok (.putfield 216, 3) := by decide +kernel
theorem dX10_deliver_60 : decode cX10_deliver 60 = .ok (.aload_n 3, 1) := by decide +kernel
theorem dX10_deliver_61 : decode cX10_deliver 61 = .ok (.getfield 171, 3) := by decide +kernel
theorem dX10_deliver_64 : decode cX10_deliver 64 = .ok (.bipush 100, 2) := by decide +kernel
theorem dX10_deliver_66 : decode cX10_deliver 66 = .ok (.aload_n 0, 1) := by decide +kernel
theorem dX10_deliver_67 : decode cX10_deliver 67 = .ok (.getfield 56, 3) := by decide +kernel
theorem dX10_deliver_70 : decode cX10_deliver 70 = .ok (.aload_n 3, 1) := by decide +kernel
theorem dX10_deliver_71 : decode cX10_deliver 71 = .ok (.getfield 196, 3) := by decide +kernel
theorem dX10_deliver_74 : decode cX10_deliver 74 = .ok (.aconst_null, 1) := by decide +kernel
theorem dX10_deliver_75 : decode cX10_deliver 75 = .ok (.invokevirtual 175, 3) := by decide +kernel
theorem dX10_deliver_78 : decode cX10_deliver 78 = .ok (.bipush 100, 2) := by decide +kernel
theorem dX10_deliver_80 : decode cX10_deliver 80 = .ok (.ireturn, 1) := by decide +kernel
theorem dX10_recall_0 : decode cX10_recall 0 = .ok (.aload_n 0, 1) := by decide +kernel
theorem dX10_recall_1 : decode cX10_recall 1 = .ok (.iload_n 1, 1) := by decide +kernel
theorem dX10_recall_2 : decode cX10_recall 2 = .ok (.invokevirtual 219, 3) := by decide +kernel
theorem dX10_recall_5 : decode cX10_recall 5 = .ok (.astore_n 2, 1) := by decide +kernel
theorem dX10_recall_6 : decode cX10_recall 6 = .ok (.aload_n 2, 1) := by decide +kernel
theorem dX10_recall_7 : decode cX10_recall 7 = .ok (.getfield 222, 3) := by decide +kernel
theorem dX10_recall_10 : decode cX10_recall 10 = .ok (.ifCond .eq 13, 3) := by decide +kernel
theorem dX10_recall_13 : decode cX10_recall 13 = .ok (.new 83, 3) := by decide +kernel
theorem dX10_recall_16 : decode cX10_recall 16 = .ok (.dup, 1) := by decide +kernel
theorem dX10_recall_17 : decode cX10_recall 17 = .ok (.ldc 225, 2) := by decide +kernel
theorem dX10_recall_19 : decode cX10_recall 19 = .ok (.invokespecial 87, 3) := by decide +kernel
theorem dX10_recall_22 : decode cX10_recall 22 = .ok (.athrow, 1) := by decide +kernel
theorem dX10_recall_23 : decode cX10_recall 23 = .ok (.aload_n 0, 1) := by decide +kernel
theorem dX10_recall_24 : decode cX10_recall 24 = .ok (.aload_n 2, 1) := by decide +kernel
theorem dX10_recall_25 : decode cX10_recall 25 = .ok (.invokevirtual 227, 3) := by decide +kernel
theorem dX10_recall_28 : decode cX10_recall 28 = .ok (.aload_n 2, 1) := by decide +kernel
theorem dX10_recall_29 : decode cX10_recall 29 = .ok (.getfield 230, 3) := by decide +kernel
theorem dX10_recall_32 : decode cX10_recall 32 = .ok (.ireturn, 1) := by decide +kernel
theorem dX10_pass_0 : decode cX10_pass 0 = .ok (.iload_n 1, 1) := by decide +kernel
theorem dX10_pass_1 : decode cX10_pass 1 = .ok (.iconst 1, 1) := by decide +kernel
theorem dX10_pass_2 : decode cX10_pass 2 = .ok (.bipush 120, 2) := by decide +kernel
theorem dX10_pass_4 : decode cX10_pass 4 = .ok (.invokestatic 64, 3) := by decide +kernel
theorem dX10_pass_7 : decode cX10_pass 7 = .ok (.ifCond .ne 13, 3) := by decide +kernel
theorem dX10_pass_10 : decode cX10_pass 10 = .ok (.new 68, 3) := by decide +kernel
theorem dX10_pass_13 : decode cX10_pass 13 = .ok (.dup, 1) := by decide +kernel
theorem dX10_pass_14 : decode cX10_pass 14 = .ok (.ldc 233, 2) := by decide +kernel
theorem dX10_pass_16 : decode cX10_pass 16 = .ok (.invokespecial 72, 3) := by decide +kernel
theorem dX10_pass_19 : decode cX10_pass 19 = .ok (.athrow, 1) := by decide +kernel
theorem dX10_pass_20 : decode cX10_pass 20 = .ok (.iconst 0, 1) := by decide +kernel
theorem dX10_pass_21 : decode cX10_pass 21 = .ok (.istore_n 2, 1) := by decide +kernel
theorem dX10_pass_22 : decode cX10_pass 22 = .ok (.iconst 0, 1) := by decide +kernel
theorem dX10_pass_23 : decode cX10_pass 23 = .ok (.istore_n 3, 1) := by decide +kernel
theorem dX10_pass_24 : decode cX10_pass 24 = .ok (.iload_n 3, 1) := by decide +kernel
theorem dX10_pass_25 : decode cX10_pass 25 = .ok (.iload_n 1, 1) := by decide +kernel
theorem dX10_pass_26 : decode cX10_pass 26 = .ok (.if_icmp .ge 30, 3) := by decide +kernel
theorem dX10_pass_29 : decode cX10_pass 29 = .ok (.aload_n 0, 1) := by decide +kernel
theorem dX10_pass_30 : decode cX10_pass 30 = .ok (.dup, 1) := by decide +kernel
theorem dX10_pass_31 : decode cX10_pass 31 = .ok (.getfield 56, 3) := by decide +kernel
theorem dX10_pass_34 : decode cX10_pass 34 = .ok (.iconst 1, 1) := by decide +kernel
theorem dX10_pass_35 : decode cX10_pass 35 = .ok (.iadd, 1) := by decide +kernel
theorem dX10_pass_36 : decode cX10_pass 36 = .ok (.putfield 56, 3) := by decide +kernel
theorem dX10_pass_39 : decode cX10_pass 39 = .ok (.iload_n 2, 1) := by decide +kernel
theorem dX10_pass_40 : decode cX10_pass 40 = .ok (.aload_n 0, 1) := by decide +kernel
theorem dX10_pass_41 : decode cX10_pass 41 = .ok (.invokevirtual 235, 3) := by decide +kernel
theorem dX10_pass_44 : decode cX10_pass 44 = .ok (.iadd, 1) := by decide +kernel
theorem dX10_pass_45 : decode cX10_pass 45 = .ok (.istore_n 2, 1) := by decide +kernel
theorem dX10_pass_46 : decode cX10_pass 46 = .ok (.aload_n 0, 1) := by decide +kernel
theorem dX10_pass_47 : decode cX10_pass 47 = .ok (.invokevirtual 238, 3) := by decide +kernel
theorem dX10_pass_50 : decode cX10_pass 50 = .ok (.iinc 3 1, 3) := by decide +kernel
theorem dX10_pass_53 : decode cX10_pass 53 = .ok (.goto (-29), 3) := by decide +kernel
theorem dX10_pass_56 : decode cX10_pass 56 = .ok (.iload_n 2, 1) := by decide +kernel
theorem dX10_pass_57 : decode cX10_pass 57 = .ok (.ireturn, 1) := by decide +kernel
theorem dX10_parcels_0 : decode cX10_parcels 0 = .ok (.aload_n 0, 1) := by decide +kernel
theorem dX10_parcels_1 : decode cX10_parcels 1 = .ok (.getfield 19, 3) := by decide +kernel
theorem dX10_parcels_4 : decode cX10_parcels 4 = .ok (.invokevirtual 79, 3) := by decide +kernel
theorem dX10_parcels_7 : decode cX10_parcels 7 = .ok (.ireturn, 1) := by decide +kernel
theorem dX10_state_0 : decode cX10_state 0 = .ok (.aload_n 0, 1) := by decide +kernel
theorem dX10_state_1 : decode cX10_state 1 = .ok (.iload_n 1, 1) := by decide +kernel
theorem dX10_state_2 : decode cX10_state 2 = .ok (.invokevirtual 186, 3) := by decide +kernel
theorem dX10_state_5 : decode cX10_state 5 = .ok (.getfield 190, 3) := by decide +kernel
theorem dX10_state_8 : decode cX10_state 8 = .ok (.ireturn, 1) := by decide +kernel
theorem dX10_at_0 : decode cX10_at 0 = .ok (.aload_n 0, 1) := by decide +kernel
theorem dX10_at_1 : decode cX10_at 1 = .ok (.iload_n 1, 1) := by decide +kernel
theorem dX10_at_2 : decode cX10_at 2 = .ok (.invokevirtual 186, 3) := by decide +kernel
theorem dX10_at_5 : decode cX10_at 5 = .ok (.astore_n 2, 1) := by decide +kernel
theorem dX10_at_6 : decode cX10_at 6 = .ok (.aload_n 2, 1) := by decide +kernel
theorem dX10_at_7 : decode cX10_at 7 = .ok (.getfield 190, 3) := by decide +kernel
theorem dX10_at_10 : decode cX10_at 10 = .ok (.bipush 116, 2) := by decide +kernel
theorem dX10_at_12 : decode cX10_at 12 = .ok (.if_icmp .ne 13, 3) := by decide +kernel
theorem dX10_at_15 : decode cX10_at 15 = .ok (.new 83, 3) := by decide +kernel
theorem dX10_at_18 : decode cX10_at 18 = .ok (.dup, 1) := by decide +kernel
theorem dX10_at_19 : decode cX10_at 19 = .ok (.ldc 241, 2) := by decide +kernel
theorem dX10_at_21 : decode cX10_at 21 = .ok (.invokespecial 87, 3) := by decide +kernel
theorem dX10_at_24 : decode cX10_at 24 = .ok (.athrow, 1) := by decide +kernel
theorem dX10_at_25 : decode cX10_at 25 = .ok (.aload_n 2, 1) := by decide +kernel
theorem dX10_at_26 : decode cX10_at 26 = .ok (.getfield 196, 3) := by decide +kernel
theorem dX10_at_29 : decode cX10_at 29 = .ok (.getfield 97, 3) := by decide +kernel
theorem dX10_at_32 : decode cX10_at 32 = .ok (.ireturn, 1) := by decide +kernel
theorem dX10_rides_0 : decode cX10_rides 0 = .ok (.aload_n 0, 1) := by decide +kernel
theorem dX10_rides_1 : decode cX10_rides 1 = .ok (.iload_n 1, 1) := by decide +kernel
theorem dX10_rides_2 : decode cX10_rides 2 = .ok (.invokevirtual 186, 3) := by decide +kernel
theorem dX10_rides_5 : decode cX10_rides 5 = .ok (.astore_n 2, 1) := by decide +kernel
theorem dX10_rides_6 : decode cX10_rides 6 = .ok (.aload_n 2, 1) := by decide +kernel
theorem dX10_rides_7 : decode cX10_rides 7 = .ok (.getfield 243, 3) := by decide +kernel
theorem dX10_rides_10 : decode cX10_rides 10 = .ok (.astore_n 3, 1) := by decide +kernel
theorem dX10_rides_11 : decode cX10_rides 11 = .ok (.aload_n 2, 1) := by decide +kernel
theorem dX10_rides_12 : decode cX10_rides 12 = .ok (.getfield 190, 3) := by decide +kernel
theorem dX10_rides_15 : decode cX10_rides 15 = .ok (.bipush 116, 2) := by decide +kernel
theorem dX10_rides_17 : decode cX10_rides 17 = .ok (.if_icmp .ne 7, 3) := by decide +kernel
theorem dX10_rides_20 : decode cX10_rides 20 = .ok (.aload_n 3, 1) := by decide +kernel
theorem dX10_rides_21 : decode cX10_rides 21 = .ok (.ifnonnull 13, 3) := by decide +kernel
theorem dX10_rides_24 : decode cX10_rides 24 = .ok (.new 83, 3) := by decide +kernel
theorem dX10_rides_27 : decode cX10_rides 27 = .ok (.dup, 1) := by decide +kernel
theorem dX10_rides_28 : decode cX10_rides 28 = .ok (.ldc 247, 2) := by decide +kernel
theorem dX10_rides_30 : decode cX10_rides 30 = .ok (.invokespecial 87, 3) := by decide +kernel
theorem dX10_rides_33 : decode cX10_rides 33 = .ok (.athrow, 1) := by decide +kernel
theorem dX10_rides_34 : decode cX10_rides 34 = .ok (.aload_n 3, 1) := by decide +kernel
theorem dX10_rides_35 : decode cX10_rides 35 = .ok (.getfield 118, 3) := by decide +kernel
theorem dX10_rides_38 : decode cX10_rides 38 = .ok (.ireturn, 1) := by decide +kernel
theorem dX10_destination_0 : decode cX10_destination 0 = .ok (.aload_n 0, 1) := by decide +kernel
theorem dX10_destination_1 : decode cX10_destination 1 = .ok (.iload_n 1, 1) := by decide +kernel
theorem dX10_destination_2 : decode cX10_destination 2 = .ok (.invokevirtual 186, 3) := by decide +kernel
theorem dX10_destination_5 : decode cX10_destination 5 = .ok (.getfield 207, 3) := by decide +kernel
theorem dX10_destination_8 : decode cX10_destination 8 = .ok (.getfield 97, 3) := by decide +kernel
theorem dX10_destination_11 : decode cX10_destination 11 = .ok (.ireturn, 1) := by decide +kernel
theorem dX10_isReturn_0 : decode cX10_isReturn 0 = .ok (.aload_n 0, 1) := by decide +kernel
theorem dX10_isReturn_1 : decode cX10_isReturn 1 = .ok (.iload_n 1, 1) := by decide +kernel
theorem dX10_isReturn_2 : decode cX10_isReturn 2 = .ok (.invokevirtual 186, 3) := by decide +kernel
theorem dX10_isReturn_5 : decode cX10_isReturn 5 = .ok (.getfield 222, 3) := by decide +kernel
theorem dX10_isReturn_8 : decode cX10_isReturn 8 = .ok (.ireturn, 1) := by decide +kernel
theorem dX10_promise_0 : decode cX10_promise 0 = .ok (.aload_n 0, 1) := by decide +kernel
theorem dX10_promise_1 : decode cX10_promise 1 = .ok (.iload_n 1, 1) := by decide +kernel
theorem dX10_promise_2 : decode cX10_promise 2 = .ok (.invokevirtual 186, 3) := by decide +kernel
theorem dX10_promise_5 : decode cX10_promise 5 = .ok (.getfield 230, 3) := by decide +kernel
theorem dX10_promise_8 : decode cX10_promise 8 = .ok (.ireturn, 1) := by decide +kernel
theorem dX10_isLate_0 : decode cX10_isLate 0 = .ok (.aload_n 0, 1) := by decide +kernel
theorem dX10_isLate_1 : decode cX10_isLate 1 = .ok (.iload_n 1, 1) := by decide +kernel
theorem dX10_isLate_2 : decode cX10_isLate 2 = .ok (.invokevirtual 186, 3) := by decide +kernel
theorem dX10_isLate_5 : decode cX10_isLate 5 = .ok (.aload_n 0, 1) := by decide +kernel
theorem dX10_isLate_6 : decode cX10_isLate 6 = .ok (.getfield 56, 3) := by decide +kernel
theorem dX10_isLate_9 : decode cX10_isLate 9 = .ok (.invokevirtual 249, 3) := by decide +kernel
theorem dX10_isLate_12 : decode cX10_isLate 12 = .ok (.ireturn, 1) := by decide +kernel
theorem dX10_misroutes_0 : decode cX10_misroutes 0 = .ok (.aload_n 0, 1) := by decide +kernel
theorem dX10_misroutes_1 : decode cX10_misroutes 1 = .ok (.iload_n 1, 1) := by decide +kernel
theorem dX10_misroutes_2 : decode cX10_misroutes 2 = .ok (.invokevirtual 186, 3) := by decide +kernel
theorem dX10_misroutes_5 : decode cX10_misroutes 5 = .ok (.getfield 252, 3) := by decide +kernel
theorem dX10_misroutes_8 : decode cX10_misroutes 8 = .ok (.ireturn, 1) := by decide +kernel
theorem dX10_attempts_0 : decode cX10_attempts 0 = .ok (.aload_n 0, 1) := by decide +kernel
theorem dX10_attempts_1 : decode cX10_attempts 1 = .ok (.iload_n 1, 1) := by decide +kernel
theorem dX10_attempts_2 : decode cX10_attempts 2 = .ok (.invokevirtual 186, 3) := by decide +kernel
theorem dX10_attempts_5 : decode cX10_attempts 5 = .ok (.getfield 255, 3) := by decide +kernel
theorem dX10_attempts_8 : decode cX10_attempts 8 = .ok (.ireturn, 1) := by decide +kernel
theorem dX10_missed_0 : decode cX10_missed 0 = .ok (.aload_n 0, 1) := by decide +kernel
theorem dX10_missed_1 : decode cX10_missed 1 = .ok (.iload_n 1, 1) := by decide +kernel
theorem dX10_missed_2 : decode cX10_missed 2 = .ok (.invokevirtual 186, 3) := by decide +kernel
theorem dX10_missed_5 : decode cX10_missed 5 = .ok (.getfield 258, 3) := by decide +kernel
theorem dX10_missed_8 : decode cX10_missed 8 = .ok (.ireturn, 1) := by decide +kernel
theorem dX10_nextLine_0 : decode cX10_nextLine 0 = .ok (.aload_n 0, 1) := by decide +kernel
theorem dX10_nextLine_1 : decode cX10_nextLine 1 = .ok (.iload_n 1, 1) := by decide +kernel
theorem dX10_nextLine_2 : decode cX10_nextLine 2 = .ok (.invokevirtual 219, 3) := by decide +kernel
theorem dX10_nextLine_5 : decode cX10_nextLine 5 = .ok (.getfield 261, 3) := by decide +kernel
theorem dX10_nextLine_8 : decode cX10_nextLine 8 = .ok (.invokestatic 264, 3) := by decide +kernel
theorem dX10_nextLine_11 : decode cX10_nextLine 11 = .ok (.ireturn, 1) := by decide +kernel
theorem dX10_nextLineByPaths_0 : decode cX10_nextLineByPaths 0 = .ok (.aload_n 0, 1) := by decide +kernel
theorem dX10_nextLineByPaths_1 : decode cX10_nextLineByPaths 1 = .ok (.getfield 45, 3) := by decide +kernel
theorem dX10_nextLineByPaths_4 : decode cX10_nextLineByPaths 4 = .ok (.aload_n 0, 1) := by decide +kernel
theorem dX10_nextLineByPaths_5 : decode cX10_nextLineByPaths 5 = .ok (.getfield 16, 3) := by decide +kernel
theorem dX10_nextLineByPaths_8 : decode cX10_nextLineByPaths 8 = .ok (.aload_n 0, 1) := by decide +kernel
theorem dX10_nextLineByPaths_9 : decode cX10_nextLineByPaths 9 = .ok (.iload_n 1, 1) := by decide +kernel
theorem dX10_nextLineByPaths_10 : decode cX10_nextLineByPaths 10 = .ok (.invokevirtual 219, 3) := by decide +kernel
theorem dX10_nextLineByPaths_13 : decode cX10_nextLineByPaths 13 = .ok (.aload_n 0, 1) := by decide +kernel
theorem dX10_nextLineByPaths_14 : decode cX10_nextLineByPaths 14 = .ok (.getfield 56, 3) := by decide +kernel
theorem dX10_nextLineByPaths_17 : decode cX10_nextLineByPaths 17 = .ok (.invokevirtual 266, 3) := by decide +kernel
theorem dX10_nextLineByPaths_20 : decode cX10_nextLineByPaths 20 = .ok (.aload_n 0, 1) := by decide +kernel
theorem dX10_nextLineByPaths_21 : decode cX10_nextLineByPaths 21 = .ok (.getfield 45, 3) := by decide +kernel
theorem dX10_nextLineByPaths_24 : decode cX10_nextLineByPaths 24 = .ok (.getfield 270, 3) := by decide +kernel
theorem dX10_nextLineByPaths_27 : decode cX10_nextLineByPaths 27 = .ok (.invokestatic 264, 3) := by decide +kernel
theorem dX10_nextLineByPaths_30 : decode cX10_nextLineByPaths 30 = .ok (.ireturn, 1) := by decide +kernel
theorem dX10_arrival_0 : decode cX10_arrival 0 = .ok (.aload_n 0, 1) := by decide +kernel
theorem dX10_arrival_1 : decode cX10_arrival 1 = .ok (.getfield 38, 3) := by decide +kernel
theorem dX10_arrival_4 : decode cX10_arrival 4 = .ok (.aload_n 0, 1) := by decide +kernel
theorem dX10_arrival_5 : decode cX10_arrival 5 = .ok (.getfield 16, 3) := by decide +kernel
theorem dX10_arrival_8 : decode cX10_arrival 8 = .ok (.aload_n 0, 1) := by decide +kernel
theorem dX10_arrival_9 : decode cX10_arrival 9 = .ok (.iload_n 1, 1) := by decide +kernel
theorem dX10_arrival_10 : decode cX10_arrival 10 = .ok (.invokevirtual 219, 3) := by decide +kernel
theorem dX10_arrival_13 : decode cX10_arrival 13 = .ok (.aload_n 0, 1) := by decide +kernel
theorem dX10_arrival_14 : decode cX10_arrival 14 = .ok (.getfield 56, 3) := by decide +kernel
theorem dX10_arrival_17 : decode cX10_arrival 17 = .ok (.invokevirtual 273, 3) := by decide +kernel
theorem dX10_arrival_20 : decode cX10_arrival 20 = .ok (.astore_n 2, 1) := by decide +kernel
theorem dX10_arrival_21 : decode cX10_arrival 21 = .ok (.aload_n 2, 1) := by decide +kernel
theorem dX10_arrival_22 : decode cX10_arrival 22 = .ok (.ifnonnull 7, 3) := by decide +kernel
theorem dX10_arrival_25 : decode cX10_arrival 25 = .ok (.iconst (-1), 1) := by decide +kernel
theorem dX10_arrival_26 : decode cX10_arrival 26 = .ok (.goto 7, 3) := by decide +kernel
theorem dX10_arrival_29 : decode cX10_arrival 29 = .ok (.aload_n 2, 1) := by decide +kernel
theorem dX10_arrival_30 : decode cX10_arrival 30 = .ok (.getfield 289, 3) := by decide +kernel
theorem dX10_arrival_33 : decode cX10_arrival 33 = .ok (.ireturn, 1) := by decide +kernel
theorem dX10_waiting_0 : decode cX10_waiting 0 = .ok (.aload_n 0, 1) := by decide +kernel
theorem dX10_waiting_1 : decode cX10_waiting 1 = .ok (.aload_n 0, 1) := by decide +kernel
theorem dX10_waiting_2 : decode cX10_waiting 2 = .ok (.iload_n 1, 1) := by decide +kernel
theorem dX10_waiting_3 : decode cX10_waiting 3 = .ok (.invokevirtual 299, 3) := by decide +kernel
theorem dX10_waiting_6 : decode cX10_waiting 6 = .ok (.invokevirtual 123, 3) := by decide +kernel
theorem dX10_waiting_9 : decode cX10_waiting 9 = .ok (.ireturn, 1) := by decide +kernel
theorem dX10_waitingAt_0 : decode cX10_waitingAt 0 = .ok (.aload_n 0, 1) := by decide +kernel
theorem dX10_waitingAt_1 : decode cX10_waitingAt 1 = .ok (.aload_n 0, 1) := by decide +kernel
theorem dX10_waitingAt_2 : decode cX10_waitingAt 2 = .ok (.iload_n 1, 1) := by decide +kernel
theorem dX10_waitingAt_3 : decode cX10_waitingAt 3 = .ok (.invokevirtual 299, 3) := by decide +kernel
theorem dX10_waitingAt_6 : decode cX10_waitingAt 6 = .ok (.invokevirtual 302, 3) := by decide +kernel
theorem dX10_waitingAt_9 : decode cX10_waitingAt 9 = .ok (.iload_n 2, 1) := by decide +kernel
theorem dX10_waitingAt_10 : decode cX10_waitingAt 10 = .ok (.ifCond .lt 14, 3) := by decide +kernel
theorem dX10_waitingAt_13 : decode cX10_waitingAt 13 = .ok (.iload_n 2, 1) := by decide +kernel
theorem dX10_waitingAt_14 : decode cX10_waitingAt 14 = .ok (.aload_n 0, 1) := by decide +kernel
theorem dX10_waitingAt_15 : decode cX10_waitingAt 15 = .ok (.getfield 22, 3) := by decide +kernel
theorem dX10_waitingAt_18 : decode cX10_waitingAt 18 = .ok (.invokevirtual 79, 3) := by decide +kernel
theorem dX10_waitingAt_21 : decode cX10_waitingAt 21 = .ok (.if_icmp .lt 14, 3) := by decide +kernel
theorem dX10_waitingAt_24 : decode cX10_waitingAt 24 = .ok (.new 281, 3) := by decide +kernel
theorem dX10_waitingAt_27 : decode cX10_waitingAt 27 = .ok (.dup, 1) := by decide +kernel
theorem dX10_waitingAt_28 : decode cX10_waitingAt 28 = .ok (.ldc_w 306, 3) := by decide +kernel
theorem dX10_waitingAt_31 : decode cX10_waitingAt 31 = .ok (.invokespecial 285, 3) := by decide +kernel
theorem dX10_waitingAt_34 : decode cX10_waitingAt 34 = .ok (.athrow, 1) := by decide +kernel
theorem dX10_waitingAt_35 : decode cX10_waitingAt 35 = .ok (.aload_n 0, 1) := by decide +kernel
theorem dX10_waitingAt_36 : decode cX10_waitingAt 36 = .ok (.getfield 22, 3) := by decide +kernel
theorem dX10_waitingAt_39 : decode cX10_waitingAt 39 = .ok (.iload_n 2, 1) := by decide +kernel
theorem dX10_waitingAt_40 : decode cX10_waitingAt 40 = .ok (.invokevirtual 143, 3) := by decide +kernel
theorem dX10_waitingAt_43 : decode cX10_waitingAt 43 = .ok (.checkcast 162, 3) := by decide +kernel
theorem dX10_waitingAt_46 : decode cX10_waitingAt 46 = .ok (.getfield 185, 3) := by decide +kernel
theorem dX10_waitingAt_49 : decode cX10_waitingAt 49 = .ok (.ireturn, 1) := by decide +kernel
theorem dX10_bagsNeeded_0 : decode cX10_bagsNeeded 0 = .ok (.aload_n 0, 1) := by decide +kernel
theorem dX10_bagsNeeded_1 : decode cX10_bagsNeeded 1 = .ok (.aload_n 0, 1) := by decide +kernel
theorem dX10_bagsNeeded_2 : decode cX10_bagsNeeded 2 = .ok (.iload_n 1, 1) := by decide +kernel
theorem dX10_bagsNeeded_3 : decode cX10_bagsNeeded 3 = .ok (.invokevirtual 299, 3) := by decide +kernel
theorem dX10_bagsNeeded_6 : decode cX10_bagsNeeded 6 = .ok (.invokevirtual 302, 3) := by decide +kernel
theorem dX10_bagsNeeded_9 : decode cX10_bagsNeeded 9 = .ok (.aload_n 0, 1) := by decide +kernel
theorem dX10_bagsNeeded_10 : decode cX10_bagsNeeded 10 = .ok (.getfield 31, 3) := by decide +kernel
theorem dX10_bagsNeeded_13 : decode cX10_bagsNeeded 13 = .ok (.invokevirtual 308, 3) := by decide +kernel
theorem dX10_bagsNeeded_16 : decode cX10_bagsNeeded 16 = .ok (.iconst 0, 1) := by decide +kernel
theorem dX10_bagsNeeded_17 : decode cX10_bagsNeeded 17 = .ok (.istore_n 2, 1) := by decide +kernel
theorem dX10_bagsNeeded_18 : decode cX10_bagsNeeded 18 = .ok (.iload_n 2, 1) := by decide +kernel
theorem dX10_bagsNeeded_19 : decode cX10_bagsNeeded 19 = .ok (.aload_n 0, 1) := by decide +kernel
theorem dX10_bagsNeeded_20 : decode cX10_bagsNeeded 20 = .ok (.getfield 22, 3) := by decide +kernel
theorem dX10_bagsNeeded_23 : decode cX10_bagsNeeded 23 = .ok (.invokevirtual 79, 3) := by decide +kernel
theorem dX10_bagsNeeded_26 : decode cX10_bagsNeeded 26 = .ok (.if_icmp .ge 30, 3) := by decide +kernel
theorem dX10_bagsNeeded_29 : decode cX10_bagsNeeded 29 = .ok (.aload_n 0, 1) := by decide +kernel
theorem dX10_bagsNeeded_30 : decode cX10_bagsNeeded 30 = .ok (.getfield 31, 3) := by decide +kernel
theorem dX10_bagsNeeded_33 : decode cX10_bagsNeeded 33 = .ok (.aload_n 0, 1) := by decide +kernel
theorem dX10_bagsNeeded_34 : decode cX10_bagsNeeded 34 = .ok (.getfield 22, 3) := by decide +kernel
theorem dX10_bagsNeeded_37 : decode cX10_bagsNeeded 37 = .ok (.iload_n 2, 1) := by decide +kernel
theorem dX10_bagsNeeded_38 : decode cX10_bagsNeeded 38 = .ok (.invokevirtual 143, 3) := by decide +kernel
theorem dX10_bagsNeeded_41 : decode cX10_bagsNeeded 41 = .ok (.checkcast 162, 3) := by decide +kernel
theorem dX10_bagsNeeded_44 : decode cX10_bagsNeeded 44 = .ok (.bipush 40, 2) := by decide +kernel
theorem dX10_bagsNeeded_46 : decode cX10_bagsNeeded 46 = .ok (.invokevirtual 311, 3) := by decide +kernel
theorem dX10_bagsNeeded_49 : decode cX10_bagsNeeded 49 = .ok (.pop, 1) := by decide +kernel
theorem dX10_bagsNeeded_50 : decode cX10_bagsNeeded 50 = .ok (.iinc 2 1, 3) := by decide +kernel
theorem dX10_bagsNeeded_53 : decode cX10_bagsNeeded 53 = .ok (.goto (-35), 3) := by decide +kernel
theorem dX10_bagsNeeded_56 : decode cX10_bagsNeeded 56 = .ok (.aload_n 0, 1) := by decide +kernel
theorem dX10_bagsNeeded_57 : decode cX10_bagsNeeded 57 = .ok (.getfield 31, 3) := by decide +kernel
theorem dX10_bagsNeeded_60 : decode cX10_bagsNeeded 60 = .ok (.getfield 315, 3) := by decide +kernel
theorem dX10_bagsNeeded_63 : decode cX10_bagsNeeded 63 = .ok (.ireturn, 1) := by decide +kernel
theorem dX10_bagsAtLeast_0 : decode cX10_bagsAtLeast 0 = .ok (.aload_n 0, 1) := by decide +kernel
theorem dX10_bagsAtLeast_1 : decode cX10_bagsAtLeast 1 = .ok (.iload_n 1, 1) := by decide +kernel
theorem dX10_bagsAtLeast_2 : decode cX10_bagsAtLeast 2 = .ok (.invokevirtual 299, 3) := by decide +kernel
theorem dX10_bagsAtLeast_5 : decode cX10_bagsAtLeast 5 = .ok (.astore_n 2, 1) := by decide +kernel
theorem dX10_bagsAtLeast_6 : decode cX10_bagsAtLeast 6 = .ok (.iconst 0, 1) := by decide +kernel
theorem dX10_bagsAtLeast_7 : decode cX10_bagsAtLeast 7 = .ok (.istore_n 3, 1) := by decide +kernel
theorem dX10_bagsAtLeast_8 : decode cX10_bagsAtLeast 8 = .ok (.iconst 0, 1) := by decide +kernel
theorem dX10_bagsAtLeast_9 : decode cX10_bagsAtLeast 9 = .ok (.istore 4, 2) := by decide +kernel
theorem dX10_bagsAtLeast_11 : decode cX10_bagsAtLeast 11 = .ok (.iload 4, 2) := by decide +kernel
theorem dX10_bagsAtLeast_13 : decode cX10_bagsAtLeast 13 = .ok (.aload_n 0, 1) := by decide +kernel
theorem dX10_bagsAtLeast_14 : decode cX10_bagsAtLeast 14 = .ok (.getfield 12, 3) := by decide +kernel
theorem dX10_bagsAtLeast_17 : decode cX10_bagsAtLeast 17 = .ok (.invokevirtual 79, 3) := by decide +kernel
theorem dX10_bagsAtLeast_20 : decode cX10_bagsAtLeast 20 = .ok (.if_icmp .ge 41, 3) := by decide +kernel
theorem dX10_bagsAtLeast_23 : decode cX10_bagsAtLeast 23 = .ok (.aload_n 0, 1) := by decide +kernel
theorem dX10_bagsAtLeast_24 : decode cX10_bagsAtLeast 24 = .ok (.aload_n 2, 1) := by decide +kernel
theorem dX10_bagsAtLeast_25 : decode cX10_bagsAtLeast 25 = .ok (.aload_n 0, 1) := by decide +kernel
theorem dX10_bagsAtLeast_26 : decode cX10_bagsAtLeast 26 = .ok (.getfield 12, 3) := by decide +kernel
theorem dX10_bagsAtLeast_29 : decode cX10_bagsAtLeast 29 = .ok (.iload 4, 2) := by decide +kernel
theorem dX10_bagsAtLeast_31 : decode cX10_bagsAtLeast 31 = .ok (.invokevirtual 143, 3) := by decide +kernel
theorem dX10_bagsAtLeast_34 : decode cX10_bagsAtLeast 34 = .ok (.checkcast 88, 3) := by decide +kernel
theorem dX10_bagsAtLeast_37 : decode cX10_bagsAtLeast 37 = .ok (.invokevirtual 318, 3) := by decide +kernel
theorem dX10_bagsAtLeast_40 : decode cX10_bagsAtLeast 40 = .ok (.istore 5, 2) := by decide +kernel
theorem dX10_bagsAtLeast_42 : decode cX10_bagsAtLeast 42 = .ok (.iload_n 3, 1) := by decide +kernel
theorem dX10_bagsAtLeast_43 : decode cX10_bagsAtLeast 43 = .ok (.iload 5, 2) := by decide +kernel
theorem dX10_bagsAtLeast_45 : decode cX10_bagsAtLeast 45 = .ok (.bipush 12, 2) := by decide +kernel
theorem dX10_bagsAtLeast_47 : decode cX10_bagsAtLeast 47 = .ok (.iadd, 1) := by decide +kernel
theorem dX10_bagsAtLeast_48 : decode cX10_bagsAtLeast 48 = .ok (.iconst 1, 1) := by decide +kernel
theorem dX10_bagsAtLeast_49 : decode cX10_bagsAtLeast 49 = .ok (.isub, 1) := by decide +kernel
theorem dX10_bagsAtLeast_50 : decode cX10_bagsAtLeast 50 = .ok (.bipush 12, 2) := by decide +kernel
theorem dX10_bagsAtLeast_52 : decode cX10_bagsAtLeast 52 = .ok (.idiv, 1) := by decide +kernel
theorem dX10_bagsAtLeast_53 : decode cX10_bagsAtLeast 53 = .ok (.iadd, 1) := by decide +kernel
theorem dX10_bagsAtLeast_54 : decode cX10_bagsAtLeast 54 = .ok (.istore_n 3, 1) := by decide +kernel
theorem dX10_bagsAtLeast_55 : decode cX10_bagsAtLeast 55 = .ok (.iinc 4 1, 3) := by decide +kernel
theorem dX10_bagsAtLeast_58 : decode cX10_bagsAtLeast 58 = .ok (.goto (-47), 3) := by decide +kernel
theorem dX10_bagsAtLeast_61 : decode cX10_bagsAtLeast 61 = .ok (.iload_n 3, 1) := by decide +kernel
theorem dX10_bagsAtLeast_62 : decode cX10_bagsAtLeast 62 = .ok (.ireturn, 1) := by decide +kernel
theorem dX10_bags_0 : decode cX10_bags 0 = .ok (.aload_n 0, 1) := by decide +kernel
theorem dX10_bags_1 : decode cX10_bags 1 = .ok (.iload_n 1, 1) := by decide +kernel
theorem dX10_bags_2 : decode cX10_bags 2 = .ok (.invokevirtual 299, 3) := by decide +kernel
theorem dX10_bags_5 : decode cX10_bags 5 = .ok (.getfield 322, 3) := by decide +kernel
theorem dX10_bags_8 : decode cX10_bags 8 = .ok (.getfield 315, 3) := by decide +kernel
theorem dX10_bags_11 : decode cX10_bags 11 = .ok (.ireturn, 1) := by decide +kernel
theorem dX10_bagVolume_0 : decode cX10_bagVolume 0 = .ok (.aload_n 0, 1) := by decide +kernel
theorem dX10_bagVolume_1 : decode cX10_bagVolume 1 = .ok (.iload_n 1, 1) := by decide +kernel
theorem dX10_bagVolume_2 : decode cX10_bagVolume 2 = .ok (.invokevirtual 299, 3) := by decide +kernel
theorem dX10_bagVolume_5 : decode cX10_bagVolume 5 = .ok (.getfield 322, 3) := by decide +kernel
theorem dX10_bagVolume_8 : decode cX10_bagVolume 8 = .ok (.astore_n 3, 1) := by decide +kernel
theorem dX10_bagVolume_9 : decode cX10_bagVolume 9 = .ok (.aload_n 3, 1) := by decide +kernel
theorem dX10_bagVolume_10 : decode cX10_bagVolume 10 = .ok (.iload_n 2, 1) := by decide +kernel
theorem dX10_bagVolume_11 : decode cX10_bagVolume 11 = .ok (.invokevirtual 325, 3) := by decide +kernel
theorem dX10_bagVolume_14 : decode cX10_bagVolume 14 = .ok (.ifCond .ne 14, 3) := by decide +kernel
theorem dX10_bagVolume_17 : decode cX10_bagVolume 17 = .ok (.new 281, 3) := by decide +kernel
theorem dX10_bagVolume_20 : decode cX10_bagVolume 20 = .ok (.dup, 1) := by decide +kernel
theorem dX10_bagVolume_21 : decode cX10_bagVolume 21 = .ok (.ldc_w 328, 3) := by decide +kernel
theorem dX10_bagVolume_24 : decode cX10_bagVolume 24 = .ok (.invokespecial 285, 3) := by decide +kernel
theorem dX10_bagVolume_27 : decode cX10_bagVolume 27 = .ok (.athrow, 1) := by decide +kernel
theorem dX10_bagVolume_28 : decode cX10_bagVolume 28 = .ok (.aload_n 3, 1) := by decide +kernel
theorem dX10_bagVolume_29 : decode cX10_bagVolume 29 = .ok (.iload_n 2, 1) := by decide +kernel
theorem dX10_bagVolume_30 : decode cX10_bagVolume 30 = .ok (.invokevirtual 330, 3) := by decide +kernel
theorem dX10_bagVolume_33 : decode cX10_bagVolume 33 = .ok (.ireturn, 1) := by decide +kernel
theorem dX10_riding_0 : decode cX10_riding 0 = .ok (.aload_n 0, 1) := by decide +kernel
theorem dX10_riding_1 : decode cX10_riding 1 = .ok (.iload_n 1, 1) := by decide +kernel
theorem dX10_riding_2 : decode cX10_riding 2 = .ok (.invokevirtual 299, 3) := by decide +kernel
theorem dX10_riding_5 : decode cX10_riding 5 = .ok (.astore_n 2, 1) := by decide +kernel
theorem dX10_riding_6 : decode cX10_riding 6 = .ok (.iconst 0, 1) := by decide +kernel
theorem dX10_riding_7 : decode cX10_riding 7 = .ok (.istore_n 3, 1) := by decide +kernel
theorem dX10_riding_8 : decode cX10_riding 8 = .ok (.iconst 0, 1) := by decide +kernel
theorem dX10_riding_9 : decode cX10_riding 9 = .ok (.istore 4, 2) := by decide +kernel
theorem dX10_riding_11 : decode cX10_riding 11 = .ok (.iload 4, 2) := by decide +kernel
theorem dX10_riding_13 : decode cX10_riding 13 = .ok (.aload_n 0, 1) := by decide +kernel
theorem dX10_riding_14 : decode cX10_riding 14 = .ok (.getfield 19, 3) := by decide +kernel
theorem dX10_riding_17 : decode cX10_riding 17 = .ok (.invokevirtual 79, 3) := by decide +kernel
theorem dX10_riding_20 : decode cX10_riding 20 = .ok (.if_icmp .ge 45, 3) := by decide +kernel
theorem dX10_riding_23 : decode cX10_riding 23 = .ok (.aload_n 0, 1) := by decide +kernel
theorem dX10_riding_24 : decode cX10_riding 24 = .ok (.getfield 19, 3) := by decide +kernel
theorem dX10_riding_27 : decode cX10_riding 27 = .ok (.iload 4, 2) := by decide +kernel
theorem dX10_riding_29 : decode cX10_riding 29 = .ok (.invokevirtual 143, 3) := by decide +kernel
theorem dX10_riding_32 : decode cX10_riding 32 = .ok (.checkcast 162, 3) := by decide +kernel
theorem dX10_riding_35 : decode cX10_riding 35 = .ok (.astore 5, 2) := by decide +kernel
theorem dX10_riding_37 : decode cX10_riding 37 = .ok (.aload 5, 2) := by decide +kernel
theorem dX10_riding_39 : decode cX10_riding 39 = .ok (.getfield 190, 3) := by decide +kernel
theorem dX10_riding_42 : decode cX10_riding 42 = .ok (.bipush 116, 2) := by decide +kernel
theorem dX10_riding_44 : decode cX10_riding 44 = .ok (.if_icmp .ne 15, 3) := by decide +kernel
theorem dX10_riding_47 : decode cX10_riding 47 = .ok (.aload 5, 2) := by decide +kernel
theorem dX10_riding_49 : decode cX10_riding 49 = .ok (.getfield 243, 3) := by decide +kernel
theorem dX10_riding_52 : decode cX10_riding 52 = .ok (.aload_n 2, 1) := by decide +kernel
theorem dX10_riding_53 : decode cX10_riding 53 = .ok (.if_acmp .ne 6, 3) := by decide +kernel
theorem dX10_riding_56 : decode cX10_riding 56 = .ok (.iinc 3 1, 3) := by decide +kernel
theorem dX10_riding_59 : decode cX10_riding 59 = .ok (.iinc 4 1, 3) := by decide +kernel
theorem dX10_riding_62 : decode cX10_riding 62 = .ok (.goto (-51), 3) := by decide +kernel
theorem dX10_riding_65 : decode cX10_riding 65 = .ok (.iload_n 3, 1) := by decide +kernel
theorem dX10_riding_66 : decode cX10_riding 66 = .ok (.ireturn, 1) := by decide +kernel
theorem dX10_lateShare_0 : decode cX10_lateShare 0 = .ok (.aload_n 0, 1) := by decide +kernel
theorem dX10_lateShare_1 : decode cX10_lateShare 1 = .ok (.getfield 19, 3) := by decide +kernel
theorem dX10_lateShare_4 : decode cX10_lateShare 4 = .ok (.invokevirtual 79, 3) := by decide +kernel
theorem dX10_lateShare_7 : decode cX10_lateShare 7 = .ok (.istore_n 1, 1) := by decide +kernel
theorem dX10_lateShare_8 : decode cX10_lateShare 8 = .ok (.iload_n 1, 1) := by decide +kernel
theorem dX10_lateShare_9 : decode cX10_lateShare 9 = .ok (.ifCond .ne 14, 3) := by decide +kernel
theorem dX10_lateShare_12 : decode cX10_lateShare 12 = .ok (.new 352, 3) := by decide +kernel
theorem dX10_lateShare_15 : decode cX10_lateShare 15 = .ok (.dup, 1) := by decide +kernel
theorem dX10_lateShare_16 : decode cX10_lateShare 16 = .ok (.ldc_w 354, 3) := by decide +kernel
theorem dX10_lateShare_19 : decode cX10_lateShare 19 = .ok (.invokespecial 356, 3) := by decide +kernel
theorem dX10_lateShare_22 : decode cX10_lateShare 22 = .ok (.athrow, 1) := by decide +kernel
theorem dX10_lateShare_23 : decode cX10_lateShare 23 = .ok (.iconst 0, 1) := by decide +kernel
theorem dX10_lateShare_24 : decode cX10_lateShare 24 = .ok (.istore_n 2, 1) := by decide +kernel
theorem dX10_lateShare_25 : decode cX10_lateShare 25 = .ok (.iconst 0, 1) := by decide +kernel
theorem dX10_lateShare_26 : decode cX10_lateShare 26 = .ok (.istore_n 3, 1) := by decide +kernel
theorem dX10_lateShare_27 : decode cX10_lateShare 27 = .ok (.iload_n 3, 1) := by decide +kernel
theorem dX10_lateShare_28 : decode cX10_lateShare 28 = .ok (.iload_n 1, 1) := by decide +kernel
theorem dX10_lateShare_29 : decode cX10_lateShare 29 = .ok (.if_icmp .ge 33, 3) := by decide +kernel
theorem dX10_lateShare_32 : decode cX10_lateShare 32 = .ok (.aload_n 0, 1) := by decide +kernel
theorem dX10_lateShare_33 : decode cX10_lateShare 33 = .ok (.getfield 19, 3) := by decide +kernel
theorem dX10_lateShare_36 : decode cX10_lateShare 36 = .ok (.iload_n 3, 1) := by decide +kernel
theorem dX10_lateShare_37 : decode cX10_lateShare 37 = .ok (.invokevirtual 143, 3) := by decide +kernel
theorem dX10_lateShare_40 : decode cX10_lateShare 40 = .ok (.checkcast 162, 3) := by decide +kernel
theorem dX10_lateShare_43 : decode cX10_lateShare 43 = .ok (.aload_n 0, 1) := by decide +kernel
theorem dX10_lateShare_44 : decode cX10_lateShare 44 = .ok (.getfield 56, 3) := by decide +kernel
theorem dX10_lateShare_47 : decode cX10_lateShare 47 = .ok (.invokevirtual 249, 3) := by decide +kernel
theorem dX10_lateShare_50 : decode cX10_lateShare 50 = .ok (.ifCond .eq 6, 3) := by decide +kernel
theorem dX10_lateShare_53 : decode cX10_lateShare 53 = .ok (.iinc 2 1, 3) := by decide +kernel
theorem dX10_lateShare_56 : decode cX10_lateShare 56 = .ok (.iinc 3 1, 3) := by decide +kernel
theorem dX10_lateShare_59 : decode cX10_lateShare 59 = .ok (.goto (-32), 3) := by decide +kernel
theorem dX10_lateShare_62 : decode cX10_lateShare 62 = .ok (.iload_n 2, 1) := by decide +kernel
theorem dX10_lateShare_63 : decode cX10_lateShare 63 = .ok (.i2f, 1) := by decide +kernel
theorem dX10_lateShare_64 : decode cX10_lateShare 64 = .ok (.iload_n 1, 1) := by decide +kernel
theorem dX10_lateShare_65 : decode cX10_lateShare 65 = .ok (.i2f, 1) := by decide +kernel
theorem dX10_lateShare_66 : decode cX10_lateShare 66 = .ok (.fdiv, 1) := by decide +kernel
theorem dX10_lateShare_67 : decode cX10_lateShare 67 = .ok (.freturn, 1) := by decide +kernel
theorem dX10_meanTime_0 : decode cX10_meanTime 0 = .ok (.iconst 0, 1) := by decide +kernel
theorem dX10_meanTime_1 : decode cX10_meanTime 1 = .ok (.istore_n 1, 1) := by decide +kernel
theorem dX10_meanTime_2 : decode cX10_meanTime 2 = .ok (.iconst 0, 1) := by decide +kernel
theorem dX10_meanTime_3 : decode cX10_meanTime 3 = .ok (.istore_n 2, 1) := by decide +kernel
theorem dX10_meanTime_4 : decode cX10_meanTime 4 = .ok (.iconst 0, 1) := by decide +kernel
theorem dX10_meanTime_5 : decode cX10_meanTime 5 = .ok (.istore_n 3, 1) := by decide +kernel
theorem dX10_meanTime_6 : decode cX10_meanTime 6 = .ok (.iload_n 3, 1) := by decide +kernel
theorem dX10_meanTime_7 : decode cX10_meanTime 7 = .ok (.aload_n 0, 1) := by decide +kernel
theorem dX10_meanTime_8 : decode cX10_meanTime 8 = .ok (.getfield 19, 3) := by decide +kernel
theorem dX10_meanTime_11 : decode cX10_meanTime 11 = .ok (.invokevirtual 79, 3) := by decide +kernel
theorem dX10_meanTime_14 : decode cX10_meanTime 14 = .ok (.if_icmp .ge 49, 3) := by decide +kernel
theorem dX10_meanTime_17 : decode cX10_meanTime 17 = .ok (.aload_n 0, 1) := by decide +kernel
theorem dX10_meanTime_18 : decode cX10_meanTime 18 = .ok (.getfield 19, 3) := by decide +kernel
theorem dX10_meanTime_21 : decode cX10_meanTime 21 = .ok (.iload_n 3, 1) := by decide +kernel
theorem dX10_meanTime_22 : decode cX10_meanTime 22 = .ok (.invokevirtual 143, 3) := by decide +kernel
theorem dX10_meanTime_25 : decode cX10_meanTime 25 = .ok (.checkcast 162, 3) := by decide +kernel
theorem dX10_meanTime_28 : decode cX10_meanTime 28 = .ok (.astore 4, 2) := by decide +kernel
theorem dX10_meanTime_30 : decode cX10_meanTime 30 = .ok (.aload 4, 2) := by decide +kernel
theorem dX10_meanTime_32 : decode cX10_meanTime 32 = .ok (.getfield 190, 3) := by decide +kernel
theorem dX10_meanTime_35 : decode cX10_meanTime 35 = .ok (.bipush 100, 2) := by decide +kernel
theorem dX10_meanTime_37 : decode cX10_meanTime 37 = .ok (.if_icmp .ne 20, 3) := by decide +kernel
theorem dX10_meanTime_40 : decode cX10_meanTime 40 = .ok (.iinc 1 1, 3) := by decide +kernel
theorem dX10_meanTime_43 : decode cX10_meanTime 43 = .ok (.iload_n 2, 1) := by decide +kernel
theorem dX10_meanTime_44 : decode cX10_meanTime 44 = .ok (.aload 4, 2) := by decide +kernel
theorem dX10_meanTime_46 : decode cX10_meanTime 46 = .ok (.getfield 216, 3) := by decide +kernel
theorem dX10_meanTime_49 : decode cX10_meanTime 49 = .ok (.aload 4, 2) := by decide +kernel
theorem dX10_meanTime_51 : decode cX10_meanTime 51 = .ok (.getfield 357, 3) := by decide +kernel
theorem dX10_meanTime_54 : decode cX10_meanTime 54 = .ok (.isub, 1) := by decide +kernel
theorem dX10_meanTime_55 : decode cX10_meanTime 55 = .ok (.iadd, 1) := by decide +kernel
theorem dX10_meanTime_56 : decode cX10_meanTime 56 = .ok (.istore_n 2, 1) := by decide +kernel
theorem dX10_meanTime_57 : decode cX10_meanTime 57 = .ok (.iinc 3 1, 3) := by decide +kernel
theorem dX10_meanTime_60 : decode cX10_meanTime 60 = .ok (.goto (-54), 3) := by decide +kernel
theorem dX10_meanTime_63 : decode cX10_meanTime 63 = .ok (.iload_n 1, 1) := by decide +kernel
theorem dX10_meanTime_64 : decode cX10_meanTime 64 = .ok (.ifCond .ne 14, 3) := by decide +kernel
theorem dX10_meanTime_67 : decode cX10_meanTime 67 = .ok (.new 352, 3) := by decide +kernel
theorem dX10_meanTime_70 : decode cX10_meanTime 70 = .ok (.dup, 1) := by decide +kernel
theorem dX10_meanTime_71 : decode cX10_meanTime 71 = .ok (.ldc_w 360, 3) := by decide +kernel
theorem dX10_meanTime_74 : decode cX10_meanTime 74 = .ok (.invokespecial 356, 3) := by decide +kernel
theorem dX10_meanTime_77 : decode cX10_meanTime 77 = .ok (.athrow, 1) := by decide +kernel
theorem dX10_meanTime_78 : decode cX10_meanTime 78 = .ok (.iload_n 2, 1) := by decide +kernel
theorem dX10_meanTime_79 : decode cX10_meanTime 79 = .ok (.i2d, 1) := by decide +kernel
theorem dX10_meanTime_80 : decode cX10_meanTime 80 = .ok (.iload_n 1, 1) := by decide +kernel
theorem dX10_meanTime_81 : decode cX10_meanTime 81 = .ok (.i2d, 1) := by decide +kernel
theorem dX10_meanTime_82 : decode cX10_meanTime 82 = .ok (.ddiv, 1) := by decide +kernel
theorem dX10_meanTime_83 : decode cX10_meanTime 83 = .ok (.dreturn, 1) := by decide +kernel
theorem dX10_hubNumbered_0 : decode cX10_hubNumbered 0 = .ok (.iload_n 1, 1) := by decide +kernel
theorem dX10_hubNumbered_1 : decode cX10_hubNumbered 1 = .ok (.ifCond .lt 14, 3) := by decide +kernel
theorem dX10_hubNumbered_4 : decode cX10_hubNumbered 4 = .ok (.iload_n 1, 1) := by decide +kernel
theorem dX10_hubNumbered_5 : decode cX10_hubNumbered 5 = .ok (.aload_n 0, 1) := by decide +kernel
theorem dX10_hubNumbered_6 : decode cX10_hubNumbered 6 = .ok (.getfield 12, 3) := by decide +kernel
theorem dX10_hubNumbered_9 : decode cX10_hubNumbered 9 = .ok (.invokevirtual 79, 3) := by decide +kernel
theorem dX10_hubNumbered_12 : decode cX10_hubNumbered 12 = .ok (.if_icmp .lt 14, 3) := by decide +kernel
theorem dX10_hubNumbered_15 : decode cX10_hubNumbered 15 = .ok (.new 362, 3) := by decide +kernel
theorem dX10_hubNumbered_18 : decode cX10_hubNumbered 18 = .ok (.dup, 1) := by decide +kernel
theorem dX10_hubNumbered_19 : decode cX10_hubNumbered 19 = .ok (.ldc_w 364, 3) := by decide +kernel
theorem dX10_hubNumbered_22 : decode cX10_hubNumbered 22 = .ok (.invokespecial 366, 3) := by decide +kernel
theorem dX10_hubNumbered_25 : decode cX10_hubNumbered 25 = .ok (.athrow, 1) := by decide +kernel
theorem dX10_hubNumbered_26 : decode cX10_hubNumbered 26 = .ok (.aload_n 0, 1) := by decide +kernel
theorem dX10_hubNumbered_27 : decode cX10_hubNumbered 27 = .ok (.getfield 12, 3) := by decide +kernel
theorem dX10_hubNumbered_30 : decode cX10_hubNumbered 30 = .ok (.iload_n 1, 1) := by decide +kernel
theorem dX10_hubNumbered_31 : decode cX10_hubNumbered 31 = .ok (.invokevirtual 143, 3) := by decide +kernel
theorem dX10_hubNumbered_34 : decode cX10_hubNumbered 34 = .ok (.checkcast 88, 3) := by decide +kernel
theorem dX10_hubNumbered_37 : decode cX10_hubNumbered 37 = .ok (.areturn, 1) := by decide +kernel
theorem dX10_lineNumbered_0 : decode cX10_lineNumbered 0 = .ok (.iload_n 1, 1) := by decide +kernel
theorem dX10_lineNumbered_1 : decode cX10_lineNumbered 1 = .ok (.ifCond .lt 14, 3) := by decide +kernel
theorem dX10_lineNumbered_4 : decode cX10_lineNumbered 4 = .ok (.iload_n 1, 1) := by decide +kernel
theorem dX10_lineNumbered_5 : decode cX10_lineNumbered 5 = .ok (.aload_n 0, 1) := by decide +kernel
theorem dX10_lineNumbered_6 : decode cX10_lineNumbered 6 = .ok (.getfield 16, 3) := by decide +kernel
theorem dX10_lineNumbered_9 : decode cX10_lineNumbered 9 = .ok (.invokevirtual 79, 3) := by decide +kernel
theorem dX10_lineNumbered_12 : decode cX10_lineNumbered 12 = .ok (.if_icmp .lt 14, 3) := by decide +kernel
theorem dX10_lineNumbered_15 : decode cX10_lineNumbered 15 = .ok (.new 362, 3) := by decide +kernel
theorem dX10_lineNumbered_18 : decode cX10_lineNumbered 18 = .ok (.dup, 1) := by decide +kernel
theorem dX10_lineNumbered_19 : decode cX10_lineNumbered 19 = .ok (.ldc_w 367, 3) := by decide +kernel
theorem dX10_lineNumbered_22 : decode cX10_lineNumbered 22 = .ok (.invokespecial 366, 3) := by decide +kernel
theorem dX10_lineNumbered_25 : decode cX10_lineNumbered 25 = .ok (.athrow, 1) := by decide +kernel
theorem dX10_lineNumbered_26 : decode cX10_lineNumbered 26 = .ok (.aload_n 0, 1) := by decide +kernel
theorem dX10_lineNumbered_27 : decode cX10_lineNumbered 27 = .ok (.getfield 16, 3) := by decide +kernel
theorem dX10_lineNumbered_30 : decode cX10_lineNumbered 30 = .ok (.iload_n 1, 1) := by decide +kernel
theorem dX10_lineNumbered_31 : decode cX10_lineNumbered 31 = .ok (.invokevirtual 143, 3) := by decide +kernel
theorem dX10_lineNumbered_34 : decode cX10_lineNumbered 34 = .ok (.checkcast 107, 3) := by decide +kernel
theorem dX10_lineNumbered_37 : decode cX10_lineNumbered 37 = .ok (.areturn, 1) := by decide +kernel
theorem dX10_openLineNumbered_0 : decode cX10_openLineNumbered 0 = .ok (.aload_n 0, 1) := by decide +kernel
theorem dX10_openLineNumbered_1 : decode cX10_openLineNumbered 1 = .ok (.iload_n 1, 1) := by decide +kernel
theorem dX10_openLineNumbered_2 : decode cX10_openLineNumbered 2 = .ok (.invokevirtual 299, 3) := by decide +kernel
theorem dX10_openLineNumbered_5 : decode cX10_openLineNumbered 5 = .ok (.astore_n 2, 1) := by decide +kernel
theorem dX10_openLineNumbered_6 : decode cX10_openLineNumbered 6 = .ok (.aload_n 2, 1) := by decide +kernel
theorem dX10_openLineNumbered_7 : decode cX10_openLineNumbered 7 = .ok (.getfield 127, 3) := by decide +kernel
theorem dX10_openLineNumbered_10 : decode cX10_openLineNumbered 10 = .ok (.ifCond .ne 14, 3) := by decide +kernel
theorem dX10_openLineNumbered_13 : decode cX10_openLineNumbered 13 = .ok (.new 83, 3) := by decide +kernel
theorem dX10_openLineNumbered_16 : decode cX10_openLineNumbered 16 = .ok (.dup, 1) := by decide +kernel
theorem dX10_openLineNumbered_17 : decode cX10_openLineNumbered 17 = .ok (.ldc_w 369, 3) := by decide +kernel
theorem dX10_openLineNumbered_20 : decode cX10_openLineNumbered 20 = .ok (.invokespecial 87, 3) := by decide +kernel
theorem dX10_openLineNumbered_23 : decode cX10_openLineNumbered 23 = .ok (.athrow, 1) := by decide +kernel
theorem dX10_openLineNumbered_24 : decode cX10_openLineNumbered 24 = .ok (.aload_n 2, 1) := by decide +kernel
theorem dX10_openLineNumbered_25 : decode cX10_openLineNumbered 25 = .ok (.areturn, 1) := by decide +kernel
theorem dX10_parcelNumbered_0 : decode cX10_parcelNumbered 0 = .ok (.iload_n 1, 1) := by decide +kernel
theorem dX10_parcelNumbered_1 : decode cX10_parcelNumbered 1 = .ok (.ifCond .lt 14, 3) := by decide +kernel
theorem dX10_parcelNumbered_4 : decode cX10_parcelNumbered 4 = .ok (.iload_n 1, 1) := by decide +kernel
theorem dX10_parcelNumbered_5 : decode cX10_parcelNumbered 5 = .ok (.aload_n 0, 1) := by decide +kernel
theorem dX10_parcelNumbered_6 : decode cX10_parcelNumbered 6 = .ok (.getfield 19, 3) := by decide +kernel
theorem dX10_parcelNumbered_9 : decode cX10_parcelNumbered 9 = .ok (.invokevirtual 79, 3) := by decide +kernel
theorem dX10_parcelNumbered_12 : decode cX10_parcelNumbered 12 = .ok (.if_icmp .lt 14, 3) := by decide +kernel
theorem dX10_parcelNumbered_15 : decode cX10_parcelNumbered 15 = .ok (.new 362, 3) := by decide +kernel
theorem dX10_parcelNumbered_18 : decode cX10_parcelNumbered 18 = .ok (.dup, 1) := by decide +kernel
theorem dX10_parcelNumbered_19 : decode cX10_parcelNumbered 19 = .ok (.ldc_w 371, 3) := by decide +kernel
theorem dX10_parcelNumbered_22 : decode cX10_parcelNumbered 22 = .ok (.invokespecial 366, 3) := by decide +kernel
theorem dX10_parcelNumbered_25 : decode cX10_parcelNumbered 25 = .ok (.athrow, 1) := by decide +kernel
theorem dX10_parcelNumbered_26 : decode cX10_parcelNumbered 26 = .ok (.aload_n 0, 1) := by decide +kernel
theorem dX10_parcelNumbered_27 : decode cX10_parcelNumbered 27 = .ok (.getfield 19, 3) := by decide +kernel
theorem dX10_parcelNumbered_30 : decode cX10_parcelNumbered 30 = .ok (.iload_n 1, 1) := by decide +kernel
theorem dX10_parcelNumbered_31 : decode cX10_parcelNumbered 31 = .ok (.invokevirtual 143, 3) := by decide +kernel
theorem dX10_parcelNumbered_34 : decode cX10_parcelNumbered 34 = .ok (.checkcast 162, 3) := by decide +kernel
theorem dX10_parcelNumbered_37 : decode cX10_parcelNumbered 37 = .ok (.areturn, 1) := by decide +kernel
theorem dX10_scannedParcel_0 : decode cX10_scannedParcel 0 = .ok (.aload_n 0, 1) := by decide +kernel
theorem dX10_scannedParcel_1 : decode cX10_scannedParcel 1 = .ok (.iload_n 1, 1) := by decide +kernel
theorem dX10_scannedParcel_2 : decode cX10_scannedParcel 2 = .ok (.invokevirtual 186, 3) := by decide +kernel
theorem dX10_scannedParcel_5 : decode cX10_scannedParcel 5 = .ok (.astore_n 2, 1) := by decide +kernel
theorem dX10_scannedParcel_6 : decode cX10_scannedParcel 6 = .ok (.aload_n 2, 1) := by decide +kernel
theorem dX10_scannedParcel_7 : decode cX10_scannedParcel 7 = .ok (.getfield 190, 3) := by decide +kernel
theorem dX10_scannedParcel_10 : decode cX10_scannedParcel 10 = .ok (.bipush 115, 2) := by decide +kernel
theorem dX10_scannedParcel_12 : decode cX10_scannedParcel 12 = .ok (.if_icmp .eq 14, 3) := by decide +kernel
theorem dX10_scannedParcel_15 : decode cX10_scannedParcel 15 = .ok (.new 83, 3) := by decide +kernel
theorem dX10_scannedParcel_18 : decode cX10_scannedParcel 18 = .ok (.dup, 1) := by decide +kernel
theorem dX10_scannedParcel_19 : decode cX10_scannedParcel 19 = .ok (.ldc_w 373, 3) := by decide +kernel
theorem dX10_scannedParcel_22 : decode cX10_scannedParcel 22 = .ok (.invokespecial 87, 3) := by decide +kernel
theorem dX10_scannedParcel_25 : decode cX10_scannedParcel 25 = .ok (.athrow, 1) := by decide +kernel
theorem dX10_scannedParcel_26 : decode cX10_scannedParcel 26 = .ok (.aload_n 2, 1) := by decide +kernel
theorem dX10_scannedParcel_27 : decode cX10_scannedParcel 27 = .ok (.areturn, 1) := by decide +kernel
theorem dX10_isWithin_0 : decode cX10_isWithin 0 = .ok (.iload_n 0, 1) := by decide +kernel
theorem dX10_isWithin_1 : decode cX10_isWithin 1 = .ok (.iload_n 1, 1) := by decide +kernel
theorem dX10_isWithin_2 : decode cX10_isWithin 2 = .ok (.if_icmp .lt 12, 3) := by decide +kernel
theorem dX10_isWithin_5 : decode cX10_isWithin 5 = .ok (.iload_n 0, 1) := by decide +kernel
theorem dX10_isWithin_6 : decode cX10_isWithin 6 = .ok (.iload_n 2, 1) := by decide +kernel
theorem dX10_isWithin_7 : decode cX10_isWithin 7 = .ok (.if_icmp .gt 7, 3) := by decide +kernel
theorem dX10_isWithin_10 : decode cX10_isWithin 10 = .ok (.iconst 1, 1) := by decide +kernel
theorem dX10_isWithin_11 : decode cX10_isWithin 11 = .ok (.goto 4, 3) := by decide +kernel
theorem dX10_isWithin_14 : decode cX10_isWithin 14 = .ok (.iconst 0, 1) := by decide +kernel
theorem dX10_isWithin_15 : decode cX10_isWithin 15 = .ok (.ireturn, 1) := by decide +kernel
theorem dX10_isCode_0 : decode cX10_isCode 0 = .ok (.iload_n 0, 1) := by decide +kernel
theorem dX10_isCode_1 : decode cX10_isCode 1 = .ok (.iconst 1, 1) := by decide +kernel
theorem dX10_isCode_2 : decode cX10_isCode 2 = .ok (.sipush 999, 3) := by decide +kernel
theorem dX10_isCode_5 : decode cX10_isCode 5 = .ok (.invokestatic 64, 3) := by decide +kernel
theorem dX10_isCode_8 : decode cX10_isCode 8 = .ok (.ifCond .eq 14, 3) := by decide +kernel
theorem dX10_isCode_11 : decode cX10_isCode 11 = .ok (.iload_n 0, 1) := by decide +kernel
theorem dX10_isCode_12 : decode cX10_isCode 12 = .ok (.invokestatic 377, 3) := by decide +kernel
theorem dX10_isCode_15 : decode cX10_isCode 15 = .ok (.ifCond .eq 7, 3) := by decide +kernel
theorem dX10_isCode_18 : decode cX10_isCode 18 = .ok (.iconst 1, 1) := by decide +kernel
theorem dX10_isCode_19 : decode cX10_isCode 19 = .ok (.goto 4, 3) := by decide +kernel
theorem dX10_isCode_22 : decode cX10_isCode 22 = .ok (.iconst 0, 1) := by decide +kernel
theorem dX10_isCode_23 : decode cX10_isCode 23 = .ok (.ireturn, 1) := by decide +kernel
theorem dX10_isAddress_0 : decode cX10_isAddress 0 = .ok (.iload_n 0, 1) := by decide +kernel
theorem dX10_isAddress_1 : decode cX10_isAddress 1 = .ok (.sipush 1000, 3) := by decide +kernel
theorem dX10_isAddress_4 : decode cX10_isAddress 4 = .ok (.sipush 9999, 3) := by decide +kernel
theorem dX10_isAddress_7 : decode cX10_isAddress 7 = .ok (.invokestatic 64, 3) := by decide +kernel
theorem dX10_isAddress_10 : decode cX10_isAddress 10 = .ok (.ifCond .eq 14, 3) := by decide +kernel
theorem dX10_isAddress_13 : decode cX10_isAddress 13 = .ok (.iload_n 0, 1) := by decide +kernel
theorem dX10_isAddress_14 : decode cX10_isAddress 14 = .ok (.invokestatic 377, 3) := by decide +kernel
theorem dX10_isAddress_17 : decode cX10_isAddress 17 = .ok (.ifCond .eq 7, 3) := by decide +kernel
theorem dX10_isAddress_20 : decode cX10_isAddress 20 = .ok (.iconst 1, 1) := by decide +kernel
theorem dX10_isAddress_21 : decode cX10_isAddress 21 = .ok (.goto 4, 3) := by decide +kernel
theorem dX10_isAddress_24 : decode cX10_isAddress 24 = .ok (.iconst 0, 1) := by decide +kernel
theorem dX10_isAddress_25 : decode cX10_isAddress 25 = .ok (.ireturn, 1) := by decide +kernel
theorem dX10_isWithoutZeros_0 : decode cX10_isWithoutZeros 0 = .ok (.iload_n 0, 1) := by decide +kernel
theorem dX10_isWithoutZeros_1 : decode cX10_isWithoutZeros 1 = .ok (.istore_n 1, 1) := by decide +kernel
theorem dX10_isWithoutZeros_2 : decode cX10_isWithoutZeros 2 = .ok (.iload_n 1, 1) := by decide +kernel
theorem dX10_isWithoutZeros_3 : decode cX10_isWithoutZeros 3 = .ok (.ifCond .le 20, 3) := by decide +kernel
theorem dX10_isWithoutZeros_6 : decode cX10_isWithoutZeros 6 = .ok (.iload_n 1, 1) := by decide +kernel
theorem dX10_isWithoutZeros_7 : decode cX10_isWithoutZeros 7 = .ok (.bipush 10, 2) := by decide +kernel
theorem dX10_isWithoutZeros_9 : decode cX10_isWithoutZeros 9 = .ok (.irem, 1) := by decide +kernel
theorem dX10_isWithoutZeros_10 : decode cX10_isWithoutZeros 10 = .ok (.ifCond .ne 5, 3) := by decide +kernel
theorem dX10_isWithoutZeros_13 : decode cX10_isWithoutZeros 13 = .ok (.iconst 0, 1) := by decide +kernel
theorem dX10_isWithoutZeros_14 : decode cX10_isWithoutZeros 14 = .ok (.ireturn, 1) := by decide +kernel
theorem dX10_isWithoutZeros_15 : decode cX10_isWithoutZeros 15 = .ok (.iload_n 1, 1) := by decide +kernel
theorem dX10_isWithoutZeros_16 : decode cX10_isWithoutZeros 16 = .ok (.bipush 10, 2) := by decide +kernel
theorem dX10_isWithoutZeros_18 : decode cX10_isWithoutZeros 18 = .ok (.idiv, 1) := by decide +kernel
theorem dX10_isWithoutZeros_19 : decode cX10_isWithoutZeros 19 = .ok (.istore_n 1, 1) := by decide +kernel
theorem dX10_isWithoutZeros_20 : decode cX10_isWithoutZeros 20 = .ok (.goto (-18), 3) := by decide +kernel
theorem dX10_isWithoutZeros_23 : decode cX10_isWithoutZeros 23 = .ok (.iconst 1, 1) := by decide +kernel
theorem dX10_isWithoutZeros_24 : decode cX10_isWithoutZeros 24 = .ok (.ireturn, 1) := by decide +kernel
theorem dX10_isPrefix_0 : decode cX10_isPrefix 0 = .ok (.iload_n 1, 1) := by decide +kernel
theorem dX10_isPrefix_1 : decode cX10_isPrefix 1 = .ok (.istore_n 2, 1) := by decide +kernel
theorem dX10_isPrefix_2 : decode cX10_isPrefix 2 = .ok (.iload_n 2, 1) := by decide +kernel
theorem dX10_isPrefix_3 : decode cX10_isPrefix 3 = .ok (.ifCond .le 18, 3) := by decide +kernel
theorem dX10_isPrefix_6 : decode cX10_isPrefix 6 = .ok (.iload_n 2, 1) := by decide +kernel
theorem dX10_isPrefix_7 : decode cX10_isPrefix 7 = .ok (.iload_n 0, 1) := by decide +kernel
theorem dX10_isPrefix_8 : decode cX10_isPrefix 8 = .ok (.if_icmp .ne 5, 3) := by decide +kernel
theorem dX10_isPrefix_11 : decode cX10_isPrefix 11 = .ok (.iconst 1, 1) := by decide +kernel
theorem dX10_isPrefix_12 : decode cX10_isPrefix 12 = .ok (.ireturn, 1) := by decide +kernel
theorem dX10_isPrefix_13 : decode cX10_isPrefix 13 = .ok (.iload_n 2, 1) := by decide +kernel
theorem dX10_isPrefix_14 : decode cX10_isPrefix 14 = .ok (.bipush 10, 2) := by decide +kernel
theorem dX10_isPrefix_16 : decode cX10_isPrefix 16 = .ok (.idiv, 1) := by decide +kernel
theorem dX10_isPrefix_17 : decode cX10_isPrefix 17 = .ok (.istore_n 2, 1) := by decide +kernel
theorem dX10_isPrefix_18 : decode cX10_isPrefix 18 = .ok (.goto (-16), 3) := by decide +kernel
theorem dX10_isPrefix_21 : decode cX10_isPrefix 21 = .ok (.iconst 0, 1) := by decide +kernel
theorem dX10_isPrefix_22 : decode cX10_isPrefix 22 = .ok (.ireturn, 1) := by decide +kernel
theorem dX10_hubWithCode_0 : decode cX10_hubWithCode 0 = .ok (.iconst 0, 1) := by decide +kernel
theorem dX10_hubWithCode_1 : decode cX10_hubWithCode 1 = .ok (.istore_n 2, 1) := by decide +kernel
theorem dX10_hubWithCode_2 : decode cX10_hubWithCode 2 = .ok (.iload_n 2, 1) := by decide +kernel
theorem dX10_hubWithCode_3 : decode cX10_hubWithCode 3 = .ok (.aload_n 0, 1) := by decide +kernel
theorem dX10_hubWithCode_4 : decode cX10_hubWithCode 4 = .ok (.getfield 12, 3) := by decide +kernel
theorem dX10_hubWithCode_7 : decode cX10_hubWithCode 7 = .ok (.invokevirtual 79, 3) := by decide +kernel
theorem dX10_hubWithCode_10 : decode cX10_hubWithCode 10 = .ok (.if_icmp .ge 31, 3) := by decide +kernel
theorem dX10_hubWithCode_13 : decode cX10_hubWithCode 13 = .ok (.aload_n 0, 1) := by decide +kernel
theorem dX10_hubWithCode_14 : decode cX10_hubWithCode 14 = .ok (.getfield 12, 3) := by decide +kernel
theorem dX10_hubWithCode_17 : decode cX10_hubWithCode 17 = .ok (.iload_n 2, 1) := by decide +kernel
theorem dX10_hubWithCode_18 : decode cX10_hubWithCode 18 = .ok (.invokevirtual 143, 3) := by decide +kernel
theorem dX10_hubWithCode_21 : decode cX10_hubWithCode 21 = .ok (.checkcast 88, 3) := by decide +kernel
theorem dX10_hubWithCode_24 : decode cX10_hubWithCode 24 = .ok (.astore_n 3, 1) := by decide +kernel
theorem dX10_hubWithCode_25 : decode cX10_hubWithCode 25 = .ok (.aload_n 3, 1) := by decide +kernel
theorem dX10_hubWithCode_26 : decode cX10_hubWithCode 26 = .ok (.getfield 147, 3) := by decide +kernel
theorem dX10_hubWithCode_29 : decode cX10_hubWithCode 29 = .ok (.iload_n 1, 1) := by decide +kernel
theorem dX10_hubWithCode_30 : decode cX10_hubWithCode 30 = .ok (.if_icmp .ne 5, 3) := by decide +kernel
theorem dX10_hubWithCode_33 : decode cX10_hubWithCode 33 = .ok (.aload_n 3, 1) := by decide +kernel
theorem dX10_hubWithCode_34 : decode cX10_hubWithCode 34 = .ok (.areturn, 1) := by decide +kernel
theorem dX10_hubWithCode_35 : decode cX10_hubWithCode 35 = .ok (.iinc 2 1, 3) := by decide +kernel
theorem dX10_hubWithCode_38 : decode cX10_hubWithCode 38 = .ok (.goto (-36), 3) := by decide +kernel
theorem dX10_hubWithCode_41 : decode cX10_hubWithCode 41 = .ok (.aconst_null, 1) := by decide +kernel
theorem dX10_hubWithCode_42 : decode cX10_hubWithCode 42 = .ok (.areturn, 1) := by decide +kernel
theorem dX10_hubByShortening_0 : decode cX10_hubByShortening 0 = .ok (.iload_n 1, 1) := by decide +kernel
theorem dX10_hubByShortening_1 : decode cX10_hubByShortening 1 = .ok (.istore_n 2, 1) := by decide +kernel
theorem dX10_hubByShortening_2 : decode cX10_hubByShortening 2 = .ok (.iload_n 2, 1) := by decide +kernel
theorem dX10_hubByShortening_3 : decode cX10_hubByShortening 3 = .ok (.ifCond .le 23, 3) := by decide +kernel
theorem dX10_hubByShortening_6 : decode cX10_hubByShortening 6 = .ok (.aload_n 0, 1) := by decide +kernel
theorem dX10_hubByShortening_7 : decode cX10_hubByShortening 7 = .ok (.iload_n 2, 1) := by decide +kernel
theorem dX10_hubByShortening_8 : decode cX10_hubByShortening 8 = .ok (.invokevirtual 75, 3) := by decide +kernel
theorem dX10_hubByShortening_11 : decode cX10_hubByShortening 11 = .ok (.astore_n 3, 1) := by decide +kernel
theorem dX10_hubByShortening_12 : decode cX10_hubByShortening 12 = .ok (.aload_n 3, 1) := by decide +kernel
theorem dX10_hubByShortening_13 : decode cX10_hubByShortening 13 = .ok (.ifnull 5, 3) := by decide +kernel
theorem dX10_hubByShortening_16 : decode cX10_hubByShortening 16 = .ok (.aload_n 3, 1) := by decide +kernel
theorem dX10_hubByShortening_17 : decode cX10_hubByShortening 17 = .ok (.areturn, 1) := by decide +kernel
theorem dX10_hubByShortening_18 : decode cX10_hubByShortening 18 = .ok (.iload_n 2, 1) := by decide +kernel
theorem dX10_hubByShortening_19 : decode cX10_hubByShortening 19 = .ok (.bipush 10, 2) := by decide +kernel
theorem dX10_hubByShortening_21 : decode cX10_hubByShortening 21 = .ok (.idiv, 1) := by decide +kernel
theorem dX10_hubByShortening_22 : decode cX10_hubByShortening 22 = .ok (.istore_n 2, 1) := by decide +kernel
theorem dX10_hubByShortening_23 : decode cX10_hubByShortening 23 = .ok (.goto (-21), 3) := by decide +kernel
theorem dX10_hubByShortening_26 : decode cX10_hubByShortening 26 = .ok (.aconst_null, 1) := by decide +kernel
theorem dX10_hubByShortening_27 : decode cX10_hubByShortening 27 = .ok (.areturn, 1) := by decide +kernel
theorem dX10_numberOf_0 : decode cX10_numberOf 0 = .ok (.aload_n 0, 1) := by decide +kernel
theorem dX10_numberOf_1 : decode cX10_numberOf 1 = .ok (.ifnonnull 7, 3) := by decide +kernel
theorem dX10_numberOf_4 : decode cX10_numberOf 4 = .ok (.iconst (-1), 1) := by decide +kernel
theorem dX10_numberOf_5 : decode cX10_numberOf 5 = .ok (.goto 7, 3) := by decide +kernel
theorem dX10_numberOf_8 : decode cX10_numberOf 8 = .ok (.aload_n 0, 1) := by decide +kernel
theorem dX10_numberOf_9 : decode cX10_numberOf 9 = .ok (.getfield 97, 3) := by decide +kernel
theorem dX10_numberOf_12 : decode cX10_numberOf 12 = .ok (.ireturn, 1) := by decide +kernel
theorem dX10_numberOf__0 : decode cX10_numberOf_ 0 = .ok (.aload_n 0, 1) := by decide +kernel
theorem dX10_numberOf__1 : decode cX10_numberOf_ 1 = .ok (.ifnonnull 7, 3) := by decide +kernel
theorem dX10_numberOf__4 : decode cX10_numberOf_ 4 = .ok (.iconst (-1), 1) := by decide +kernel
theorem dX10_numberOf__5 : decode cX10_numberOf_ 5 = .ok (.goto 7, 3) := by decide +kernel
theorem dX10_numberOf__8 : decode cX10_numberOf_ 8 = .ok (.aload_n 0, 1) := by decide +kernel
theorem dX10_numberOf__9 : decode cX10_numberOf_ 9 = .ok (.getfield 118, 3) := by decide +kernel
theorem dX10_numberOf__12 : decode cX10_numberOf_ 12 = .ok (.ireturn, 1) := by decide +kernel
theorem dX10_plan_0 : decode cX10_plan 0 = .ok (.aload_n 0, 1) := by decide +kernel
theorem dX10_plan_1 : decode cX10_plan 1 = .ok (.getfield 38, 3) := by decide +kernel
theorem dX10_plan_4 : decode cX10_plan 4 = .ok (.aload_n 0, 1) := by decide +kernel
theorem dX10_plan_5 : decode cX10_plan 5 = .ok (.getfield 16, 3) := by decide +kernel
theorem dX10_plan_8 : decode cX10_plan 8 = .ok (.aload_n 1, 1) := by decide +kernel
theorem dX10_plan_9 : decode cX10_plan 9 = .ok (.aload_n 0, 1) := by decide +kernel
theorem dX10_plan_10 : decode cX10_plan 10 = .ok (.getfield 56, 3) := by decide +kernel
theorem dX10_plan_13 : decode cX10_plan 13 = .ok (.invokevirtual 273, 3) := by decide +kernel
theorem dX10_plan_16 : decode cX10_plan 16 = .ok (.astore_n 2, 1) := by decide +kernel
theorem dX10_plan_17 : decode cX10_plan 17 = .ok (.aload_n 1, 1) := by decide +kernel
theorem dX10_plan_18 : decode cX10_plan 18 = .ok (.aload_n 2, 1) := by decide +kernel
theorem dX10_plan_19 : decode cX10_plan 19 = .ok (.ifnonnull 7, 3) := by decide +kernel
theorem dX10_plan_22 : decode cX10_plan 22 = .ok (.aconst_null, 1) := by decide +kernel
theorem dX10_plan_23 : decode cX10_plan 23 = .ok (.goto 7, 3) := by decide +kernel
theorem dX10_plan_26 : decode cX10_plan 26 = .ok (.aload_n 2, 1) := by decide +kernel
theorem dX10_plan_27 : decode cX10_plan 27 = .ok (.getfield 380, 3) := by decide +kernel
theorem dX10_plan_30 : decode cX10_plan 30 = .ok (.putfield 261, 3) := by decide +kernel
theorem dX10_plan_33 : decode cX10_plan 33 = .ok (.return_, 1) := by decide +kernel
theorem dX10_planWithPromise_0 : decode cX10_planWithPromise 0 = .ok (.aload_n 0, 1) := by decide +kernel
theorem dX10_planWithPromise_1 : decode cX10_planWithPromise 1 = .ok (.getfield 38, 3) := by decide +kernel
theorem dX10_planWithPromise_4 : decode cX10_planWithPromise 4 = .ok (.aload_n 0, 1) := by decide +kernel
theorem dX10_planWithPromise_5 : decode cX10_planWithPromise 5 = .ok (.getfield 16, 3) := by decide +kernel
theorem dX10_planWithPromise_8 : decode cX10_planWithPromise 8 = .ok (.aload_n 1, 1) := by decide +kernel
theorem dX10_planWithPromise_9 : decode cX10_planWithPromise 9 = .ok (.aload_n 0, 1) := by decide +kernel
theorem dX10_planWithPromise_10 : decode cX10_planWithPromise 10 = .ok (.getfield 56, 3) := by decide +kernel
theorem dX10_planWithPromise_13 : decode cX10_planWithPromise 13 = .ok (.invokevirtual 273, 3) := by decide +kernel
theorem dX10_planWithPromise_16 : decode cX10_planWithPromise 16 = .ok (.astore_n 2, 1) := by decide +kernel
theorem dX10_planWithPromise_17 : decode cX10_planWithPromise 17 = .ok (.aload_n 1, 1) := by decide +kernel
theorem dX10_planWithPromise_18 : decode cX10_planWithPromise 18 = .ok (.aload_n 2, 1) := by decide +kernel
theorem dX10_planWithPromise_19 : decode cX10_planWithPromise 19 = .ok (.ifnonnull 7, 3) := by decide +kernel
theorem dX10_planWithPromise_22 : decode cX10_planWithPromise 22 = .ok (.aconst_null, 1) := by decide +kernel
theorem dX10_planWithPromise_23 : decode cX10_planWithPromise 23 = .ok (.goto 7, 3) := by decide +kernel
theorem dX10_planWithPromise_26 : decode cX10_planWithPromise 26 = .ok (.aload_n 2, 1) := by decide +kernel
theorem dX10_planWithPromise_27 : decode cX10_planWithPromise 27 = .ok (.getfield 380, 3) := by decide +kernel
theorem dX10_planWithPromise_30 : decode cX10_planWithPromise 30 = .ok (.putfield 261, 3) := by decide +kernel
theorem dX10_planWithPromise_33 : decode cX10_planWithPromise 33 = .ok (.aload_n 1, 1) := by decide +kernel
theorem dX10_planWithPromise_34 : decode cX10_planWithPromise 34 = .ok (.aload_n 2, 1) := by decide +kernel
theorem dX10_planWithPromise_35 : decode cX10_planWithPromise 35 = .ok (.ifnonnull 7, 3) := by decide +kernel
theorem dX10_planWithPromise_38 : decode cX10_planWithPromise 38 = .ok (.iconst (-1), 1) := by decide +kernel
theorem dX10_planWithPromise_39 : decode cX10_planWithPromise 39 = .ok (.goto 7, 3) := by decide +kernel
theorem dX10_planWithPromise_42 : decode cX10_planWithPromise 42 = .ok (.aload_n 2, 1) := by decide +kernel
theorem dX10_planWithPromise_43 : decode cX10_planWithPromise 43 = .ok (.getfield 289, 3) := by decide +kernel
theorem dX10_planWithPromise_46 : decode cX10_planWithPromise 46 = .ok (.putfield 230, 3) := by decide +kernel
theorem dX10_planWithPromise_49 : decode cX10_planWithPromise 49 = .ok (.return_, 1) := by decide +kernel
theorem dX10_planAll_0 : decode cX10_planAll 0 = .ok (.iconst 0, 1) := by decide +kernel
theorem dX10_planAll_1 : decode cX10_planAll 1 = .ok (.istore_n 1, 1) := by decide +kernel
theorem dX10_planAll_2 : decode cX10_planAll 2 = .ok (.iload_n 1, 1) := by decide +kernel
theorem dX10_planAll_3 : decode cX10_planAll 3 = .ok (.aload_n 0, 1) := by decide +kernel
theorem dX10_planAll_4 : decode cX10_planAll 4 = .ok (.getfield 19, 3) := by decide +kernel
theorem dX10_planAll_7 : decode cX10_planAll 7 = .ok (.invokevirtual 79, 3) := by decide +kernel
theorem dX10_planAll_10 : decode cX10_planAll 10 = .ok (.if_icmp .ge 35, 3) := by decide +kernel
theorem dX10_planAll_13 : decode cX10_planAll 13 = .ok (.aload_n 0, 1) := by decide +kernel
theorem dX10_planAll_14 : decode cX10_planAll 14 = .ok (.getfield 19, 3) := by decide +kernel
theorem dX10_planAll_17 : decode cX10_planAll 17 = .ok (.iload_n 1, 1) := by decide +kernel
theorem dX10_planAll_18 : decode cX10_planAll 18 = .ok (.invokevirtual 143, 3) := by decide +kernel
theorem dX10_planAll_21 : decode cX10_planAll 21 = .ok (.checkcast 162, 3) := by decide +kernel
theorem dX10_planAll_24 : decode cX10_planAll 24 = .ok (.astore_n 2, 1) := by decide +kernel
theorem dX10_planAll_25 : decode cX10_planAll 25 = .ok (.aload_n 2, 1) := by decide +kernel
theorem dX10_planAll_26 : decode cX10_planAll 26 = .ok (.getfield 190, 3) := by decide +kernel
theorem dX10_planAll_29 : decode cX10_planAll 29 = .ok (.bipush 115, 2) := by decide +kernel
theorem dX10_planAll_31 : decode cX10_planAll 31 = .ok (.if_icmp .ne 8, 3) := by decide +kernel
theorem dX10_planAll_34 : decode cX10_planAll 34 = .ok (.aload_n 0, 1) := by decide +kernel
theorem dX10_planAll_35 : decode cX10_planAll 35 = .ok (.aload_n 2, 1) := by decide +kernel
theorem dX10_planAll_36 : decode cX10_planAll 36 = .ok (.invokevirtual 204, 3) := by decide +kernel
theorem dX10_planAll_39 : decode cX10_planAll 39 = .ok (.iinc 1 1, 3) := by decide +kernel
theorem dX10_planAll_42 : decode cX10_planAll 42 = .ok (.goto (-40), 3) := by decide +kernel
theorem dX10_planAll_45 : decode cX10_planAll 45 = .ok (.return_, 1) := by decide +kernel
theorem dX10_noticeMisroute_0 : decode cX10_noticeMisroute 0 = .ok (.aload_n 1, 1) := by decide +kernel
theorem dX10_noticeMisroute_1 : decode cX10_noticeMisroute 1 = .ok (.dup, 1) := by decide +kernel
theorem dX10_noticeMisroute_2 : decode cX10_noticeMisroute 2 = .ok (.getfield 252, 3) := by decide +kernel
theorem dX10_noticeMisroute_5 : decode cX10_noticeMisroute 5 = .ok (.iconst 1, 1) := by decide +kernel
theorem dX10_noticeMisroute_6 : decode cX10_noticeMisroute 6 = .ok (.iadd, 1) := by decide +kernel
theorem dX10_noticeMisroute_7 : decode cX10_noticeMisroute 7 = .ok (.putfield 252, 3) := by decide +kernel
theorem dX10_noticeMisroute_10 : decode cX10_noticeMisroute 10 = .ok (.aload_n 1, 1) := by decide +kernel
theorem dX10_noticeMisroute_11 : decode cX10_noticeMisroute 11 = .ok (.getfield 171, 3) := by decide +kernel
theorem dX10_noticeMisroute_14 : decode cX10_noticeMisroute 14 = .ok (.bipush 109, 2) := by decide +kernel
theorem dX10_noticeMisroute_16 : decode cX10_noticeMisroute 16 = .ok (.aload_n 0, 1) := by decide +kernel
theorem dX10_noticeMisroute_17 : decode cX10_noticeMisroute 17 = .ok (.getfield 56, 3) := by decide +kernel
theorem dX10_noticeMisroute_20 : decode cX10_noticeMisroute 20 = .ok (.aload_n 2, 1) := by decide +kernel
theorem dX10_noticeMisroute_21 : decode cX10_noticeMisroute 21 = .ok (.aconst_null, 1) := by decide +kernel
theorem dX10_noticeMisroute_22 : decode cX10_noticeMisroute 22 = .ok (.invokevirtual 175, 3) := by decide +kernel
theorem dX10_noticeMisroute_25 : decode cX10_noticeMisroute 25 = .ok (.aload_n 1, 1) := by decide +kernel
theorem dX10_noticeMisroute_26 : decode cX10_noticeMisroute 26 = .ok (.getfield 252, 3) := by decide +kernel
theorem dX10_noticeMisroute_29 : decode cX10_noticeMisroute 29 = .ok (.iconst 3, 1) := by decide +kernel
theorem dX10_noticeMisroute_30 : decode cX10_noticeMisroute 30 = .ok (.if_icmp .lt 21, 3) := by decide +kernel
theorem dX10_noticeMisroute_33 : decode cX10_noticeMisroute 33 = .ok (.aload_n 1, 1) := by decide +kernel
theorem dX10_noticeMisroute_34 : decode cX10_noticeMisroute 34 = .ok (.aconst_null, 1) := by decide +kernel
theorem dX10_noticeMisroute_35 : decode cX10_noticeMisroute 35 = .ok (.putfield 243, 3) := by decide +kernel
theorem dX10_noticeMisroute_38 : decode cX10_noticeMisroute 38 = .ok (.aload_n 1, 1) := by decide +kernel
theorem dX10_noticeMisroute_39 : decode cX10_noticeMisroute 39 = .ok (.aload_n 2, 1) := by decide +kernel
theorem dX10_noticeMisroute_40 : decode cX10_noticeMisroute 40 = .ok (.putfield 196, 3) := by decide +kernel
theorem dX10_noticeMisroute_43 : decode cX10_noticeMisroute 43 = .ok (.aload_n 0, 1) := by decide +kernel
theorem dX10_noticeMisroute_44 : decode cX10_noticeMisroute 44 = .ok (.aload_n 1, 1) := by decide +kernel
theorem dX10_noticeMisroute_45 : decode cX10_noticeMisroute 45 = .ok (.invokevirtual 383, 3) := by decide +kernel
theorem dX10_noticeMisroute_48 : decode cX10_noticeMisroute 48 = .ok (.bipush 104, 2) := by decide +kernel
theorem dX10_noticeMisroute_50 : decode cX10_noticeMisroute 50 = .ok (.ireturn, 1) := by decide +kernel
theorem dX10_noticeMisroute_51 : decode cX10_noticeMisroute 51 = .ok (.aload_n 1, 1) := by decide +kernel
theorem dX10_noticeMisroute_52 : decode cX10_noticeMisroute 52 = .ok (.aload_n 2, 1) := by decide +kernel
theorem dX10_noticeMisroute_53 : decode cX10_noticeMisroute 53 = .ok (.aload_n 0, 1) := by decide +kernel
theorem dX10_noticeMisroute_54 : decode cX10_noticeMisroute 54 = .ok (.getfield 56, 3) := by decide +kernel
theorem dX10_noticeMisroute_57 : decode cX10_noticeMisroute 57 = .ok (.invokevirtual 167, 3) := by decide +kernel
theorem dX10_noticeMisroute_60 : decode cX10_noticeMisroute 60 = .ok (.aload_n 0, 1) := by decide +kernel
theorem dX10_noticeMisroute_61 : decode cX10_noticeMisroute 61 = .ok (.aload_n 1, 1) := by decide +kernel
theorem dX10_noticeMisroute_62 : decode cX10_noticeMisroute 62 = .ok (.invokevirtual 204, 3) := by decide +kernel
theorem dX10_noticeMisroute_65 : decode cX10_noticeMisroute 65 = .ok (.bipush 109, 2) := by decide +kernel
theorem dX10_noticeMisroute_67 : decode cX10_noticeMisroute 67 = .ok (.ireturn, 1) := by decide +kernel
theorem dX10_failAttempt_0 : decode cX10_failAttempt 0 = .ok (.aload_n 1, 1) := by decide +kernel
theorem dX10_failAttempt_1 : decode cX10_failAttempt 1 = .ok (.dup, 1) := by decide +kernel
theorem dX10_failAttempt_2 : decode cX10_failAttempt 2 = .ok (.getfield 255, 3) := by decide +kernel
theorem dX10_failAttempt_5 : decode cX10_failAttempt 5 = .ok (.iconst 1, 1) := by decide +kernel
theorem dX10_failAttempt_6 : decode cX10_failAttempt 6 = .ok (.iadd, 1) := by decide +kernel
theorem dX10_failAttempt_7 : decode cX10_failAttempt 7 = .ok (.putfield 255, 3) := by decide +kernel
theorem dX10_failAttempt_10 : decode cX10_failAttempt 10 = .ok (.aload_n 1, 1) := by decide +kernel
theorem dX10_failAttempt_11 : decode cX10_failAttempt 11 = .ok (.getfield 171, 3) := by decide +kernel
theorem dX10_failAttempt_14 : decode cX10_failAttempt 14 = .ok (.bipush 102, 2) := by decide +kernel
theorem dX10_failAttempt_16 : decode cX10_failAttempt 16 = .ok (.aload_n 0, 1) := by decide +kernel
theorem dX10_failAttempt_17 : decode cX10_failAttempt 17 = .ok (.getfield 56, 3) := by decide +kernel
theorem dX10_failAttempt_20 : decode cX10_failAttempt 20 = .ok (.aload_n 1, 1) := by decide +kernel
theorem dX10_failAttempt_21 : decode cX10_failAttempt 21 = .ok (.getfield 196, 3) := by decide +kernel
theorem dX10_failAttempt_24 : decode cX10_failAttempt 24 = .ok (.aconst_null, 1) := by decide +kernel
theorem dX10_failAttempt_25 : decode cX10_failAttempt 25 = .ok (.invokevirtual 175, 3) := by decide +kernel
theorem dX10_failAttempt_28 : decode cX10_failAttempt 28 = .ok (.aload_n 1, 1) := by decide +kernel
theorem dX10_failAttempt_29 : decode cX10_failAttempt 29 = .ok (.getfield 255, 3) := by decide +kernel
theorem dX10_failAttempt_32 : decode cX10_failAttempt 32 = .ok (.aload_n 1, 1) := by decide +kernel
theorem dX10_failAttempt_33 : decode cX10_failAttempt 33 = .ok (.invokevirtual 386, 3) := by decide +kernel
theorem dX10_failAttempt_36 : decode cX10_failAttempt 36 = .ok (.if_icmp .ge 6, 3) := by decide +kernel
theorem dX10_failAttempt_39 : decode cX10_failAttempt 39 = .ok (.bipush 119, 2) := by decide +kernel
theorem dX10_failAttempt_41 : decode cX10_failAttempt 41 = .ok (.ireturn, 1) := by decide +kernel
theorem dX10_failAttempt_42 : decode cX10_failAttempt 42 = .ok (.aload_n 1, 1) := by decide +kernel
theorem dX10_failAttempt_43 : decode cX10_failAttempt 43 = .ok (.getfield 222, 3) := by decide +kernel
theorem dX10_failAttempt_46 : decode cX10_failAttempt 46 = .ok (.ifCond .eq 11, 3) := by decide +kernel
theorem dX10_failAttempt_49 : decode cX10_failAttempt 49 = .ok (.aload_n 0, 1) := by decide +kernel
theorem dX10_failAttempt_50 : decode cX10_failAttempt 50 = .ok (.aload_n 1, 1) := by decide +kernel
theorem dX10_failAttempt_51 : decode cX10_failAttempt 51 = .ok (.invokevirtual 383, 3) := by decide +kernel
theorem dX10_failAttempt_54 : decode cX10_failAttempt 54 = .ok (.bipush 104, 2) := by decide +kernel
theorem dX10_failAttempt_56 : decode cX10_failAttempt 56 = .ok (.ireturn, 1) := by decide +kernel
theorem dX10_failAttempt_57 : decode cX10_failAttempt 57 = .ok (.aload_n 0, 1) := by decide +kernel
theorem dX10_failAttempt_58 : decode cX10_failAttempt 58 = .ok (.aload_n 1, 1) := by decide +kernel
theorem dX10_failAttempt_59 : decode cX10_failAttempt 59 = .ok (.invokevirtual 227, 3) := by decide +kernel
theorem dX10_failAttempt_62 : decode cX10_failAttempt 62 = .ok (.bipush 114, 2) := by decide +kernel
theorem dX10_failAttempt_64 : decode cX10_failAttempt 64 = .ok (.ireturn, 1) := by decide +kernel
theorem dX10_hold_0 : decode cX10_hold 0 = .ok (.aload_n 1, 1) := by decide +kernel
theorem dX10_hold_1 : decode cX10_hold 1 = .ok (.bipush 104, 2) := by decide +kernel
theorem dX10_hold_3 : decode cX10_hold 3 = .ok (.putfield 190, 3) := by decide +kernel
theorem dX10_hold_6 : decode cX10_hold 6 = .ok (.aload_n 1, 1) := by decide +kernel
theorem dX10_hold_7 : decode cX10_hold 7 = .ok (.getfield 171, 3) := by decide +kernel
theorem dX10_hold_10 : decode cX10_hold 10 = .ok (.bipush 104, 2) := by decide +kernel
theorem dX10_hold_12 : decode cX10_hold 12 = .ok (.aload_n 0, 1) := by decide +kernel
theorem dX10_hold_13 : decode cX10_hold 13 = .ok (.getfield 56, 3) := by decide +kernel
theorem dX10_hold_16 : decode cX10_hold 16 = .ok (.aload_n 1, 1) := by decide +kernel
theorem dX10_hold_17 : decode cX10_hold 17 = .ok (.getfield 196, 3) := by decide +kernel
theorem dX10_hold_20 : decode cX10_hold 20 = .ok (.aconst_null, 1) := by decide +kernel
theorem dX10_hold_21 : decode cX10_hold 21 = .ok (.invokevirtual 175, 3) := by decide +kernel
theorem dX10_hold_24 : decode cX10_hold 24 = .ok (.return_, 1) := by decide +kernel
theorem dX10_turnBack_0 : decode cX10_turnBack 0 = .ok (.aload_n 1, 1) := by decide +kernel
theorem dX10_turnBack_1 : decode cX10_turnBack 1 = .ok (.iconst 1, 1) := by decide +kernel
theorem dX10_turnBack_2 : decode cX10_turnBack 2 = .ok (.putfield 222, 3) := by decide +kernel
theorem dX10_turnBack_5 : decode cX10_turnBack 5 = .ok (.aload_n 1, 1) := by decide +kernel
theorem dX10_turnBack_6 : decode cX10_turnBack 6 = .ok (.aload_n 1, 1) := by decide +kernel
theorem dX10_turnBack_7 : decode cX10_turnBack 7 = .ok (.getfield 389, 3) := by decide +kernel
theorem dX10_turnBack_10 : decode cX10_turnBack 10 = .ok (.putfield 207, 3) := by decide +kernel
theorem dX10_turnBack_13 : decode cX10_turnBack 13 = .ok (.aload_n 1, 1) := by decide +kernel
theorem dX10_turnBack_14 : decode cX10_turnBack 14 = .ok (.iconst 0, 1) := by decide +kernel
theorem dX10_turnBack_15 : decode cX10_turnBack 15 = .ok (.putfield 255, 3) := by decide +kernel
theorem dX10_turnBack_18 : decode cX10_turnBack 18 = .ok (.aload_n 1, 1) := by decide +kernel
theorem dX10_turnBack_19 : decode cX10_turnBack 19 = .ok (.iconst (-1), 1) := by decide +kernel
theorem dX10_turnBack_20 : decode cX10_turnBack 20 = .ok (.putfield 392, 3) := by decide +kernel
theorem dX10_turnBack_23 : decode cX10_turnBack 23 = .ok (.aload_n 1, 1) := by decide +kernel
theorem dX10_turnBack_24 : decode cX10_turnBack 24 = .ok (.aload_n 1, 1) := by decide +kernel
theorem dX10_turnBack_25 : decode cX10_turnBack 25 = .ok (.getfield 196, 3) := by decide +kernel
theorem dX10_turnBack_28 : decode cX10_turnBack 28 = .ok (.aload_n 0, 1) := by decide +kernel
theorem dX10_turnBack_29 : decode cX10_turnBack 29 = .ok (.getfield 56, 3) := by decide +kernel
theorem dX10_turnBack_32 : decode cX10_turnBack 32 = .ok (.invokevirtual 167, 3) := by decide +kernel
theorem dX10_turnBack_35 : decode cX10_turnBack 35 = .ok (.aload_n 1, 1) := by decide +kernel
theorem dX10_turnBack_36 : decode cX10_turnBack 36 = .ok (.getfield 171, 3) := by decide +kernel
theorem dX10_turnBack_39 : decode cX10_turnBack 39 = .ok (.bipush 114, 2) := by decide +kernel
theorem dX10_turnBack_41 : decode cX10_turnBack 41 = .ok (.aload_n 0, 1) := by decide +kernel
theorem dX10_turnBack_42 : decode cX10_turnBack 42 = .ok (.getfield 56, 3) := by decide +kernel
theorem dX10_turnBack_45 : decode cX10_turnBack 45 = .ok (.aload_n 1, 1) := by decide +kernel
theorem dX10_turnBack_46 : decode cX10_turnBack 46 = .ok (.getfield 196, 3) := by decide +kernel
theorem dX10_turnBack_49 : decode cX10_turnBack 49 = .ok (.aconst_null, 1) := by decide +kernel
theorem dX10_turnBack_50 : decode cX10_turnBack 50 = .ok (.invokevirtual 175, 3) := by decide +kernel
theorem dX10_turnBack_53 : decode cX10_turnBack 53 = .ok (.aload_n 0, 1) := by decide +kernel
theorem dX10_turnBack_54 : decode cX10_turnBack 54 = .ok (.aload_n 1, 1) := by decide +kernel
theorem dX10_turnBack_55 : decode cX10_turnBack 55 = .ok (.invokevirtual 181, 3) := by decide +kernel
theorem dX10_turnBack_58 : decode cX10_turnBack 58 = .ok (.return_, 1) := by decide +kernel
theorem dX10_unloadTrucks_0 : decode cX10_unloadTrucks 0 = .ok (.iconst 0, 1) := by decide +kernel
theorem dX10_unloadTrucks_1 : decode cX10_unloadTrucks 1 = .ok (.istore_n 1, 1) := by decide +kernel
theorem dX10_unloadTrucks_2 : decode cX10_unloadTrucks 2 = .ok (.iconst 0, 1) := by decide +kernel
theorem dX10_unloadTrucks_3 : decode cX10_unloadTrucks 3 = .ok (.istore_n 2, 1) := by decide +kernel
theorem dX10_unloadTrucks_4 : decode cX10_unloadTrucks 4 = .ok (.iload_n 2, 1) := by decide +kernel
theorem dX10_unloadTrucks_5 : decode cX10_unloadTrucks 5 = .ok (.aload_n 0, 1) := by decide +kernel
theorem dX10_unloadTrucks_6 : decode cX10_unloadTrucks 6 = .ok (.getfield 19, 3) := by decide +kernel
theorem dX10_unloadTrucks_9 : decode cX10_unloadTrucks 9 = .ok (.invokevirtual 79, 3) := by decide +kernel
theorem dX10_unloadTrucks_12 : decode cX10_unloadTrucks 12 = .ok (.if_icmp .ge 95, 3) := by decide +kernel
theorem dX10_unloadTrucks_15 : decode cX10_unloadTrucks 15 = .ok (.aload_n 0, 1) := by decide +kernel
theorem dX10_unloadTrucks_16 : decode cX10_unloadTrucks 16 = .ok (.getfield 19, 3) := by decide +kernel
theorem dX10_unloadTrucks_19 : decode cX10_unloadTrucks 19 = .ok (.iload_n 2, 1) := by decide +kernel
theorem dX10_unloadTrucks_20 : decode cX10_unloadTrucks 20 = .ok (.invokevirtual 143, 3) := by decide +kernel
theorem dX10_unloadTrucks_23 : decode cX10_unloadTrucks 23 = .ok (.checkcast 162, 3) := by decide +kernel
theorem dX10_unloadTrucks_26 : decode cX10_unloadTrucks 26 = .ok (.astore_n 3, 1) := by decide +kernel
theorem dX10_unloadTrucks_27 : decode cX10_unloadTrucks 27 = .ok (.aload_n 3, 1) := by decide +kernel
theorem dX10_unloadTrucks_28 : decode cX10_unloadTrucks 28 = .ok (.getfield 243, 3) := by decide +kernel
theorem dX10_unloadTrucks_31 : decode cX10_unloadTrucks 31 = .ok (.astore 4, 2) := by decide +kernel
theorem dX10_unloadTrucks_33 : decode cX10_unloadTrucks 33 = .ok (.aload_n 3, 1) := by decide +kernel
theorem dX10_unloadTrucks_34 : decode cX10_unloadTrucks 34 = .ok (.getfield 190, 3) := by decide +kernel
theorem dX10_unloadTrucks_37 : decode cX10_unloadTrucks 37 = .ok (.bipush 116, 2) := by decide +kernel
theorem dX10_unloadTrucks_39 : decode cX10_unloadTrucks 39 = .ok (.if_icmp .ne 62, 3) := by decide +kernel
theorem dX10_unloadTrucks_42 : decode cX10_unloadTrucks 42 = .ok (.aload 4, 2) := by decide +kernel
theorem dX10_unloadTrucks_44 : decode cX10_unloadTrucks 44 = .ok (.ifnull 57, 3) := by decide +kernel
theorem dX10_unloadTrucks_47 : decode cX10_unloadTrucks 47 = .ok (.aload_n 3, 1) := by decide +kernel
theorem dX10_unloadTrucks_48 : decode cX10_unloadTrucks 48 = .ok (.getfield 395, 3) := by decide +kernel
theorem dX10_unloadTrucks_51 : decode cX10_unloadTrucks 51 = .ok (.aload_n 0, 1) := by decide +kernel
theorem dX10_unloadTrucks_52 : decode cX10_unloadTrucks 52 = .ok (.getfield 56, 3) := by decide +kernel
theorem dX10_unloadTrucks_55 : decode cX10_unloadTrucks 55 = .ok (.if_icmp .ne 46, 3) := by decide +kernel
theorem dX10_unloadTrucks_58 : decode cX10_unloadTrucks 58 = .ok (.aload_n 3, 1) := by decide +kernel
theorem dX10_unloadTrucks_59 : decode cX10_unloadTrucks 59 = .ok (.aconst_null, 1) := by decide +kernel
theorem dX10_unloadTrucks_60 : decode cX10_unloadTrucks 60 = .ok (.putfield 243, 3) := by decide +kernel
theorem dX10_unloadTrucks_63 : decode cX10_unloadTrucks 63 = .ok (.aload_n 3, 1) := by decide +kernel
theorem dX10_unloadTrucks_64 : decode cX10_unloadTrucks 64 = .ok (.aload 4, 2) := by decide +kernel
theorem dX10_unloadTrucks_66 : decode cX10_unloadTrucks 66 = .ok (.getfield 398, 3) := by decide +kernel
theorem dX10_unloadTrucks_69 : decode cX10_unloadTrucks 69 = .ok (.putfield 196, 3) := by decide +kernel
theorem dX10_unloadTrucks_72 : decode cX10_unloadTrucks 72 = .ok (.aload_n 3, 1) := by decide +kernel
theorem dX10_unloadTrucks_73 : decode cX10_unloadTrucks 73 = .ok (.bipush 117, 2) := by decide +kernel
theorem dX10_unloadTrucks_75 : decode cX10_unloadTrucks 75 = .ok (.putfield 190, 3) := by decide +kernel
theorem dX10_unloadTrucks_78 : decode cX10_unloadTrucks 78 = .ok (.aload_n 3, 1) := by decide +kernel
theorem dX10_unloadTrucks_79 : decode cX10_unloadTrucks 79 = .ok (.getfield 171, 3) := by decide +kernel
theorem dX10_unloadTrucks_82 : decode cX10_unloadTrucks 82 = .ok (.bipush 117, 2) := by decide +kernel
theorem dX10_unloadTrucks_84 : decode cX10_unloadTrucks 84 = .ok (.aload_n 0, 1) := by decide +kernel
theorem dX10_unloadTrucks_85 : decode cX10_unloadTrucks 85 = .ok (.getfield 56, 3) := by decide +kernel
theorem dX10_unloadTrucks_88 : decode cX10_unloadTrucks 88 = .ok (.aload 4, 2) := by decide +kernel
theorem dX10_unloadTrucks_90 : decode cX10_unloadTrucks 90 = .ok (.getfield 398, 3) := by decide +kernel
theorem dX10_unloadTrucks_93 : decode cX10_unloadTrucks 93 = .ok (.aload 4, 2) := by decide +kernel
theorem dX10_unloadTrucks_95 : decode cX10_unloadTrucks 95 = .ok (.invokevirtual 175, 3) := by decide +kernel
theorem dX10_unloadTrucks_98 : decode cX10_unloadTrucks 98 = .ok (.iinc 1 1, 3) := by decide +kernel
theorem dX10_unloadTrucks_101 : decode cX10_unloadTrucks 101 = .ok (.iinc 2 1, 3) := by decide +kernel
theorem dX10_unloadTrucks_104 : decode cX10_unloadTrucks 104 = .ok (.goto (-100), 3) := by decide +kernel
theorem dX10_unloadTrucks_107 : decode cX10_unloadTrucks 107 = .ok (.iload_n 1, 1) := by decide +kernel
theorem dX10_unloadTrucks_108 : decode cX10_unloadTrucks 108 = .ok (.ireturn, 1) := by decide +kernel
theorem dX10_loadTrucks_0 : decode cX10_loadTrucks 0 = .ok (.aload_n 0, 1) := by decide +kernel
theorem dX10_loadTrucks_1 : decode cX10_loadTrucks 1 = .ok (.getfield 25, 3) := by decide +kernel
theorem dX10_loadTrucks_4 : decode cX10_loadTrucks 4 = .ok (.invokevirtual 401, 3) := by decide +kernel
theorem dX10_loadTrucks_7 : decode cX10_loadTrucks 7 = .ok (.iconst 0, 1) := by decide +kernel
theorem dX10_loadTrucks_8 : decode cX10_loadTrucks 8 = .ok (.istore_n 1, 1) := by decide +kernel
theorem dX10_loadTrucks_9 : decode cX10_loadTrucks 9 = .ok (.iload_n 1, 1) := by decide +kernel
theorem dX10_loadTrucks_10 : decode cX10_loadTrucks 10 = .ok (.aload_n 0, 1) := by decide +kernel
theorem dX10_loadTrucks_11 : decode cX10_loadTrucks 11 = .ok (.getfield 16, 3) := by decide +kernel
theorem dX10_loadTrucks_14 : decode cX10_loadTrucks 14 = .ok (.invokevirtual 79, 3) := by decide +kernel
theorem dX10_loadTrucks_17 : decode cX10_loadTrucks 17 = .ok (.if_icmp .ge 37, 3) := by decide +kernel
theorem dX10_loadTrucks_20 : decode cX10_loadTrucks 20 = .ok (.aload_n 0, 1) := by decide +kernel
theorem dX10_loadTrucks_21 : decode cX10_loadTrucks 21 = .ok (.getfield 16, 3) := by decide +kernel
theorem dX10_loadTrucks_24 : decode cX10_loadTrucks 24 = .ok (.iload_n 1, 1) := by decide +kernel
theorem dX10_loadTrucks_25 : decode cX10_loadTrucks 25 = .ok (.invokevirtual 143, 3) := by decide +kernel
theorem dX10_loadTrucks_28 : decode cX10_loadTrucks 28 = .ok (.checkcast 107, 3) := by decide +kernel
theorem dX10_loadTrucks_31 : decode cX10_loadTrucks 31 = .ok (.astore_n 2, 1) := by decide +kernel
theorem dX10_loadTrucks_32 : decode cX10_loadTrucks 32 = .ok (.aload_n 2, 1) := by decide +kernel
theorem dX10_loadTrucks_33 : decode cX10_loadTrucks 33 = .ok (.aload_n 0, 1) := by decide +kernel
theorem dX10_loadTrucks_34 : decode cX10_loadTrucks 34 = .ok (.getfield 56, 3) := by decide +kernel
theorem dX10_loadTrucks_37 : decode cX10_loadTrucks 37 = .ok (.invokevirtual 402, 3) := by decide +kernel
theorem dX10_loadTrucks_40 : decode cX10_loadTrucks 40 = .ok (.ifCond .eq 8, 3) := by decide +kernel
theorem dX10_loadTrucks_43 : decode cX10_loadTrucks 43 = .ok (.aload_n 0, 1) := by decide +kernel
theorem dX10_loadTrucks_44 : decode cX10_loadTrucks 44 = .ok (.aload_n 2, 1) := by decide +kernel
theorem dX10_loadTrucks_45 : decode cX10_loadTrucks 45 = .ok (.invokevirtual 405, 3) := by decide +kernel
theorem dX10_loadTrucks_48 : decode cX10_loadTrucks 48 = .ok (.iinc 1 1, 3) := by decide +kernel
theorem dX10_loadTrucks_51 : decode cX10_loadTrucks 51 = .ok (.goto (-42), 3) := by decide +kernel
theorem dX10_loadTrucks_54 : decode cX10_loadTrucks 54 = .ok (.iconst 0, 1) := by decide +kernel
theorem dX10_loadTrucks_55 : decode cX10_loadTrucks 55 = .ok (.istore_n 1, 1) := by decide +kernel
theorem dX10_loadTrucks_56 : decode cX10_loadTrucks 56 = .ok (.iload_n 1, 1) := by decide +kernel
theorem dX10_loadTrucks_57 : decode cX10_loadTrucks 57 = .ok (.aload_n 0, 1) := by decide +kernel
theorem dX10_loadTrucks_58 : decode cX10_loadTrucks 58 = .ok (.getfield 25, 3) := by decide +kernel
theorem dX10_loadTrucks_61 : decode cX10_loadTrucks 61 = .ok (.invokevirtual 79, 3) := by decide +kernel
theorem dX10_loadTrucks_64 : decode cX10_loadTrucks 64 = .ok (.if_icmp .ge 24, 3) := by decide +kernel
theorem dX10_loadTrucks_67 : decode cX10_loadTrucks 67 = .ok (.aload_n 0, 1) := by decide +kernel
theorem dX10_loadTrucks_68 : decode cX10_loadTrucks 68 = .ok (.aload_n 0, 1) := by decide +kernel
theorem dX10_loadTrucks_69 : decode cX10_loadTrucks 69 = .ok (.getfield 25, 3) := by decide +kernel
theorem dX10_loadTrucks_72 : decode cX10_loadTrucks 72 = .ok (.iload_n 1, 1) := by decide +kernel
theorem dX10_loadTrucks_73 : decode cX10_loadTrucks 73 = .ok (.invokevirtual 143, 3) := by decide +kernel
theorem dX10_loadTrucks_76 : decode cX10_loadTrucks 76 = .ok (.checkcast 162, 3) := by decide +kernel
theorem dX10_loadTrucks_79 : decode cX10_loadTrucks 79 = .ok (.invokevirtual 204, 3) := by decide +kernel
theorem dX10_loadTrucks_82 : decode cX10_loadTrucks 82 = .ok (.iinc 1 1, 3) := by decide +kernel
theorem dX10_loadTrucks_85 : decode cX10_loadTrucks 85 = .ok (.goto (-29), 3) := by decide +kernel
theorem dX10_loadTrucks_88 : decode cX10_loadTrucks 88 = .ok (.return_, 1) := by decide +kernel
theorem dX10_loadTruck_0 : decode cX10_loadTruck 0 = .ok (.aload_n 0, 1) := by decide +kernel
theorem dX10_loadTruck_1 : decode cX10_loadTruck 1 = .ok (.aload_n 1, 1) := by decide +kernel
theorem dX10_loadTruck_2 : decode cX10_loadTruck 2 = .ok (.invokevirtual 302, 3) := by decide +kernel
theorem dX10_loadTruck_5 : decode cX10_loadTruck 5 = .ok (.iconst 1, 1) := by decide +kernel
theorem dX10_loadTruck_6 : decode cX10_loadTruck 6 = .ok (.istore_n 2, 1) := by decide +kernel
theorem dX10_loadTruck_7 : decode cX10_loadTruck 7 = .ok (.iconst 0, 1) := by decide +kernel
theorem dX10_loadTruck_8 : decode cX10_loadTruck 8 = .ok (.istore_n 3, 1) := by decide +kernel
theorem dX10_loadTruck_9 : decode cX10_loadTruck 9 = .ok (.iload_n 3, 1) := by decide +kernel
theorem dX10_loadTruck_10 : decode cX10_loadTruck 10 = .ok (.aload_n 0, 1) := by decide +kernel
theorem dX10_loadTruck_11 : decode cX10_loadTruck 11 = .ok (.getfield 22, 3) := by decide +kernel
theorem dX10_loadTruck_14 : decode cX10_loadTruck 14 = .ok (.invokevirtual 79, 3) := by decide +kernel
theorem dX10_loadTruck_17 : decode cX10_loadTruck 17 = .ok (.if_icmp .ge 105, 3) := by decide +kernel
theorem dX10_loadTruck_20 : decode cX10_loadTruck 20 = .ok (.aload_n 0, 1) := by decide +kernel
theorem dX10_loadTruck_21 : decode cX10_loadTruck 21 = .ok (.getfield 22, 3) := by decide +kernel
theorem dX10_loadTruck_24 : decode cX10_loadTruck 24 = .ok (.iload_n 3, 1) := by decide +kernel
theorem dX10_loadTruck_25 : decode cX10_loadTruck 25 = .ok (.invokevirtual 143, 3) := by decide +kernel
theorem dX10_loadTruck_28 : decode cX10_loadTruck 28 = .ok (.checkcast 162, 3) := by decide +kernel
theorem dX10_loadTruck_31 : decode cX10_loadTruck 31 = .ok (.astore 4, 2) := by decide +kernel
theorem dX10_loadTruck_33 : decode cX10_loadTruck 33 = .ok (.aload_n 0, 1) := by decide +kernel
theorem dX10_loadTruck_34 : decode cX10_loadTruck 34 = .ok (.getfield 56, 3) := by decide +kernel
theorem dX10_loadTruck_37 : decode cX10_loadTruck 37 = .ok (.aload 4, 2) := by decide +kernel
theorem dX10_loadTruck_39 : decode cX10_loadTruck 39 = .ok (.getfield 408, 3) := by decide +kernel
theorem dX10_loadTruck_42 : decode cX10_loadTruck 42 = .ok (.isub, 1) := by decide +kernel
theorem dX10_loadTruck_43 : decode cX10_loadTruck 43 = .ok (.aload_n 1, 1) := by decide +kernel
theorem dX10_loadTruck_44 : decode cX10_loadTruck 44 = .ok (.getfield 411, 3) := by decide +kernel
theorem dX10_loadTruck_47 : decode cX10_loadTruck 47 = .ok (.getfield 414, 3) := by decide +kernel
theorem dX10_loadTruck_50 : decode cX10_loadTruck 50 = .ok (.if_icmp .ge 6, 3) := by decide +kernel
theorem dX10_loadTruck_53 : decode cX10_loadTruck 53 = .ok (.goto 63, 3) := by decide +kernel
theorem dX10_loadTruck_56 : decode cX10_loadTruck 56 = .ok (.iload_n 2, 1) := by decide +kernel
theorem dX10_loadTruck_57 : decode cX10_loadTruck 57 = .ok (.ifCond .eq 12, 3) := by decide +kernel
theorem dX10_loadTruck_60 : decode cX10_loadTruck 60 = .ok (.aload_n 1, 1) := by decide +kernel
theorem dX10_loadTruck_61 : decode cX10_loadTruck 61 = .ok (.getfield 322, 3) := by decide +kernel
theorem dX10_loadTruck_64 : decode cX10_loadTruck 64 = .ok (.invokevirtual 308, 3) := by decide +kernel
theorem dX10_loadTruck_67 : decode cX10_loadTruck 67 = .ok (.iconst 0, 1) := by decide +kernel
theorem dX10_loadTruck_68 : decode cX10_loadTruck 68 = .ok (.istore_n 2, 1) := by decide +kernel
theorem dX10_loadTruck_69 : decode cX10_loadTruck 69 = .ok (.aload_n 1, 1) := by decide +kernel
theorem dX10_loadTruck_70 : decode cX10_loadTruck 70 = .ok (.getfield 322, 3) := by decide +kernel
theorem dX10_loadTruck_73 : decode cX10_loadTruck 73 = .ok (.aload 4, 2) := by decide +kernel
theorem dX10_loadTruck_75 : decode cX10_loadTruck 75 = .ok (.aload_n 1, 1) := by decide +kernel
theorem dX10_loadTruck_76 : decode cX10_loadTruck 76 = .ok (.getfield 417, 3) := by decide +kernel
theorem dX10_loadTruck_79 : decode cX10_loadTruck 79 = .ok (.invokevirtual 311, 3) := by decide +kernel
theorem dX10_loadTruck_82 : decode cX10_loadTruck 82 = .ok (.ifCond .eq 13, 3) := by decide +kernel
theorem dX10_loadTruck_85 : decode cX10_loadTruck 85 = .ok (.aload_n 0, 1) := by decide +kernel
theorem dX10_loadTruck_86 : decode cX10_loadTruck 86 = .ok (.aload 4, 2) := by decide +kernel
theorem dX10_loadTruck_88 : decode cX10_loadTruck 88 = .ok (.aload_n 1, 1) := by decide +kernel
theorem dX10_loadTruck_89 : decode cX10_loadTruck 89 = .ok (.invokevirtual 420, 3) := by decide +kernel
theorem dX10_loadTruck_92 : decode cX10_loadTruck 92 = .ok (.goto 24, 3) := by decide +kernel
theorem dX10_loadTruck_95 : decode cX10_loadTruck 95 = .ok (.aload 4, 2) := by decide +kernel
theorem dX10_loadTruck_97 : decode cX10_loadTruck 97 = .ok (.dup, 1) := by decide +kernel
theorem dX10_loadTruck_98 : decode cX10_loadTruck 98 = .ok (.getfield 258, 3) := by decide +kernel
theorem dX10_loadTruck_101 : decode cX10_loadTruck 101 = .ok (.iconst 1, 1) := by decide +kernel
theorem dX10_loadTruck_102 : decode cX10_loadTruck 102 = .ok (.iadd, 1) := by decide +kernel
theorem dX10_loadTruck_103 : decode cX10_loadTruck 103 = .ok (.putfield 258, 3) := by decide +kernel
theorem dX10_loadTruck_106 : decode cX10_loadTruck 106 = .ok (.aload_n 0, 1) := by decide +kernel
theorem dX10_loadTruck_107 : decode cX10_loadTruck 107 = .ok (.getfield 25, 3) := by decide +kernel
theorem dX10_loadTruck_110 : decode cX10_loadTruck 110 = .ok (.aload 4, 2) := by decide +kernel
theorem dX10_loadTruck_112 : decode cX10_loadTruck 112 = .ok (.invokevirtual 93, 3) := by decide +kernel
theorem dX10_loadTruck_115 : decode cX10_loadTruck 115 = .ok (.pop, 1) := by decide +kernel
theorem dX10_loadTruck_116 : decode cX10_loadTruck 116 = .ok (.iinc 3 1, 3) := by decide +kernel
theorem dX10_loadTruck_119 : decode cX10_loadTruck 119 = .ok (.goto (-110), 3) := by decide +kernel
theorem dX10_loadTruck_122 : decode cX10_loadTruck 122 = .ok (.return_, 1) := by decide +kernel
theorem dX10_load_0 : decode cX10_load 0 = .ok (.aload_n 1, 1) := by decide +kernel
theorem dX10_load_1 : decode cX10_load 1 = .ok (.bipush 116, 2) := by decide +kernel
theorem dX10_load_3 : decode cX10_load 3 = .ok (.putfield 190, 3) := by decide +kernel
theorem dX10_load_6 : decode cX10_load 6 = .ok (.aload_n 1, 1) := by decide +kernel
theorem dX10_load_7 : decode cX10_load 7 = .ok (.aload_n 2, 1) := by decide +kernel
theorem dX10_load_8 : decode cX10_load 8 = .ok (.putfield 243, 3) := by decide +kernel
theorem dX10_load_11 : decode cX10_load 11 = .ok (.aload_n 1, 1) := by decide +kernel
theorem dX10_load_12 : decode cX10_load 12 = .ok (.aload_n 0, 1) := by decide +kernel
theorem dX10_load_13 : decode cX10_load 13 = .ok (.getfield 56, 3) := by decide +kernel
theorem dX10_load_16 : decode cX10_load 16 = .ok (.aload_n 2, 1) := by decide +kernel
theorem dX10_load_17 : decode cX10_load 17 = .ok (.getfield 424, 3) := by decide +kernel
theorem dX10_load_20 : decode cX10_load 20 = .ok (.iadd, 1) := by decide +kernel
theorem dX10_load_21 : decode cX10_load 21 = .ok (.putfield 395, 3) := by decide +kernel
theorem dX10_load_24 : decode cX10_load 24 = .ok (.aload_n 1, 1) := by decide +kernel
theorem dX10_load_25 : decode cX10_load 25 = .ok (.getfield 171, 3) := by decide +kernel
theorem dX10_load_28 : decode cX10_load 28 = .ok (.bipush 108, 2) := by decide +kernel
theorem dX10_load_30 : decode cX10_load 30 = .ok (.aload_n 0, 1) := by decide +kernel
theorem dX10_load_31 : decode cX10_load 31 = .ok (.getfield 56, 3) := by decide +kernel
theorem dX10_load_34 : decode cX10_load 34 = .ok (.aload_n 2, 1) := by decide +kernel
theorem dX10_load_35 : decode cX10_load 35 = .ok (.getfield 411, 3) := by decide +kernel
theorem dX10_load_38 : decode cX10_load 38 = .ok (.aload_n 2, 1) := by decide +kernel
theorem dX10_load_39 : decode cX10_load 39 = .ok (.invokevirtual 175, 3) := by decide +kernel
theorem dX10_load_42 : decode cX10_load 42 = .ok (.return_, 1) := by decide +kernel
theorem dX10_countWaiting_0 : decode cX10_countWaiting 0 = .ok (.iconst 0, 1) := by decide +kernel
theorem dX10_countWaiting_1 : decode cX10_countWaiting 1 = .ok (.istore_n 2, 1) := by decide +kernel
theorem dX10_countWaiting_2 : decode cX10_countWaiting 2 = .ok (.iconst 0, 1) := by decide +kernel
theorem dX10_countWaiting_3 : decode cX10_countWaiting 3 = .ok (.istore_n 3, 1) := by decide +kernel
theorem dX10_countWaiting_4 : decode cX10_countWaiting 4 = .ok (.iload_n 3, 1) := by decide +kernel
theorem dX10_countWaiting_5 : decode cX10_countWaiting 5 = .ok (.aload_n 0, 1) := by decide +kernel
theorem dX10_countWaiting_6 : decode cX10_countWaiting 6 = .ok (.getfield 19, 3) := by decide +kernel
theorem dX10_countWaiting_9 : decode cX10_countWaiting 9 = .ok (.invokevirtual 79, 3) := by decide +kernel
theorem dX10_countWaiting_12 : decode cX10_countWaiting 12 = .ok (.if_icmp .ge 30, 3) := by decide +kernel
theorem dX10_countWaiting_15 : decode cX10_countWaiting 15 = .ok (.aload_n 0, 1) := by decide +kernel
theorem dX10_countWaiting_16 : decode cX10_countWaiting 16 = .ok (.getfield 19, 3) := by decide +kernel
theorem dX10_countWaiting_19 : decode cX10_countWaiting 19 = .ok (.iload_n 3, 1) := by decide +kernel
theorem dX10_countWaiting_20 : decode cX10_countWaiting 20 = .ok (.invokevirtual 143, 3) := by decide +kernel
theorem dX10_countWaiting_23 : decode cX10_countWaiting 23 = .ok (.checkcast 162, 3) := by decide +kernel
theorem dX10_countWaiting_26 : decode cX10_countWaiting 26 = .ok (.aload_n 1, 1) := by decide +kernel
theorem dX10_countWaiting_27 : decode cX10_countWaiting 27 = .ok (.invokevirtual 427, 3) := by decide +kernel
theorem dX10_countWaiting_30 : decode cX10_countWaiting 30 = .ok (.ifCond .eq 6, 3) := by decide +kernel
theorem dX10_countWaiting_33 : decode cX10_countWaiting 33 = .ok (.iinc 2 1, 3) := by decide +kernel
theorem dX10_countWaiting_36 : decode cX10_countWaiting 36 = .ok (.iinc 3 1, 3) := by decide +kernel
theorem dX10_countWaiting_39 : decode cX10_countWaiting 39 = .ok (.goto (-35), 3) := by decide +kernel
theorem dX10_countWaiting_42 : decode cX10_countWaiting 42 = .ok (.iload_n 2, 1) := by decide +kernel
theorem dX10_countWaiting_43 : decode cX10_countWaiting 43 = .ok (.ireturn, 1) := by decide +kernel
theorem dX10_volumeWaiting_0 : decode cX10_volumeWaiting 0 = .ok (.iconst 0, 1) := by decide +kernel
theorem dX10_volumeWaiting_1 : decode cX10_volumeWaiting 1 = .ok (.istore_n 3, 1) := by decide +kernel
theorem dX10_volumeWaiting_2 : decode cX10_volumeWaiting 2 = .ok (.iconst 0, 1) := by decide +kernel
theorem dX10_volumeWaiting_3 : decode cX10_volumeWaiting 3 = .ok (.istore 4, 2) := by decide +kernel
theorem dX10_volumeWaiting_5 : decode cX10_volumeWaiting 5 = .ok (.iload 4, 2) := by decide +kernel
theorem dX10_volumeWaiting_7 : decode cX10_volumeWaiting 7 = .ok (.aload_n 0, 1) := by decide +kernel
theorem dX10_volumeWaiting_8 : decode cX10_volumeWaiting 8 = .ok (.getfield 19, 3) := by decide +kernel
theorem dX10_volumeWaiting_11 : decode cX10_volumeWaiting 11 = .ok (.invokevirtual 79, 3) := by decide +kernel
theorem dX10_volumeWaiting_14 : decode cX10_volumeWaiting 14 = .ok (.if_icmp .ge 49, 3) := by decide +kernel
theorem dX10_volumeWaiting_17 : decode cX10_volumeWaiting 17 = .ok (.aload_n 0, 1) := by decide +kernel
theorem dX10_volumeWaiting_18 : decode cX10_volumeWaiting 18 = .ok (.getfield 19, 3) := by decide +kernel
theorem dX10_volumeWaiting_21 : decode cX10_volumeWaiting 21 = .ok (.iload 4, 2) := by decide +kernel
theorem dX10_volumeWaiting_23 : decode cX10_volumeWaiting 23 = .ok (.invokevirtual 143, 3) := by decide +kernel
theorem dX10_volumeWaiting_26 : decode cX10_volumeWaiting 26 = .ok (.checkcast 162, 3) := by decide +kernel
theorem dX10_volumeWaiting_29 : decode cX10_volumeWaiting 29 = .ok (.astore 5, 2) := by decide +kernel
theorem dX10_volumeWaiting_31 : decode cX10_volumeWaiting 31 = .ok (.aload 5, 2) := by decide +kernel
theorem dX10_volumeWaiting_33 : decode cX10_volumeWaiting 33 = .ok (.aload_n 1, 1) := by decide +kernel
theorem dX10_volumeWaiting_34 : decode cX10_volumeWaiting 34 = .ok (.invokevirtual 427, 3) := by decide +kernel
theorem dX10_volumeWaiting_37 : decode cX10_volumeWaiting 37 = .ok (.ifCond .eq 20, 3) := by decide +kernel
theorem dX10_volumeWaiting_40 : decode cX10_volumeWaiting 40 = .ok (.aload 5, 2) := by decide +kernel
theorem dX10_volumeWaiting_42 : decode cX10_volumeWaiting 42 = .ok (.getfield 207, 3) := by decide +kernel
theorem dX10_volumeWaiting_45 : decode cX10_volumeWaiting 45 = .ok (.aload_n 2, 1) := by decide +kernel
theorem dX10_volumeWaiting_46 : decode cX10_volumeWaiting 46 = .ok (.if_acmp .ne 11, 3) := by decide +kernel
theorem dX10_volumeWaiting_49 : decode cX10_volumeWaiting 49 = .ok (.iload_n 3, 1) := by decide +kernel
theorem dX10_volumeWaiting_50 : decode cX10_volumeWaiting 50 = .ok (.aload 5, 2) := by decide +kernel
theorem dX10_volumeWaiting_52 : decode cX10_volumeWaiting 52 = .ok (.getfield 431, 3) := by decide +kernel
theorem dX10_volumeWaiting_55 : decode cX10_volumeWaiting 55 = .ok (.iadd, 1) := by decide +kernel
theorem dX10_volumeWaiting_56 : decode cX10_volumeWaiting 56 = .ok (.istore_n 3, 1) := by decide +kernel
theorem dX10_volumeWaiting_57 : decode cX10_volumeWaiting 57 = .ok (.iinc 4 1, 3) := by decide +kernel
theorem dX10_volumeWaiting_60 : decode cX10_volumeWaiting 60 = .ok (.goto (-55), 3) := by decide +kernel
theorem dX10_volumeWaiting_63 : decode cX10_volumeWaiting 63 = .ok (.iload_n 3, 1) := by decide +kernel
theorem dX10_volumeWaiting_64 : decode cX10_volumeWaiting 64 = .ok (.ireturn, 1) := by decide +kernel
theorem dX10_queueUp_0 : decode cX10_queueUp 0 = .ok (.aload_n 0, 1) := by decide +kernel
theorem dX10_queueUp_1 : decode cX10_queueUp 1 = .ok (.getfield 22, 3) := by decide +kernel
theorem dX10_queueUp_4 : decode cX10_queueUp 4 = .ok (.invokevirtual 401, 3) := by decide +kernel
theorem dX10_queueUp_7 : decode cX10_queueUp 7 = .ok (.iconst 0, 1) := by decide +kernel
theorem dX10_queueUp_8 : decode cX10_queueUp 8 = .ok (.istore_n 2, 1) := by decide +kernel
theorem dX10_queueUp_9 : decode cX10_queueUp 9 = .ok (.iload_n 2, 1) := by decide +kernel
theorem dX10_queueUp_10 : decode cX10_queueUp 10 = .ok (.aload_n 0, 1) := by decide +kernel
theorem dX10_queueUp_11 : decode cX10_queueUp 11 = .ok (.getfield 19, 3) := by decide +kernel
theorem dX10_queueUp_14 : decode cX10_queueUp 14 = .ok (.invokevirtual 79, 3) := by decide +kernel
theorem dX10_queueUp_17 : decode cX10_queueUp 17 = .ok (.if_icmp .ge 80, 3) := by decide +kernel
theorem dX10_queueUp_20 : decode cX10_queueUp 20 = .ok (.aload_n 0, 1) := by decide +kernel
theorem dX10_queueUp_21 : decode cX10_queueUp 21 = .ok (.getfield 19, 3) := by decide +kernel
theorem dX10_queueUp_24 : decode cX10_queueUp 24 = .ok (.iload_n 2, 1) := by decide +kernel
theorem dX10_queueUp_25 : decode cX10_queueUp 25 = .ok (.invokevirtual 143, 3) := by decide +kernel
theorem dX10_queueUp_28 : decode cX10_queueUp 28 = .ok (.checkcast 162, 3) := by decide +kernel
theorem dX10_queueUp_31 : decode cX10_queueUp 31 = .ok (.astore_n 3, 1) := by decide +kernel
theorem dX10_queueUp_32 : decode cX10_queueUp 32 = .ok (.aload_n 3, 1) := by decide +kernel
theorem dX10_queueUp_33 : decode cX10_queueUp 33 = .ok (.aload_n 1, 1) := by decide +kernel
theorem dX10_queueUp_34 : decode cX10_queueUp 34 = .ok (.invokevirtual 427, 3) := by decide +kernel
theorem dX10_queueUp_37 : decode cX10_queueUp 37 = .ok (.ifCond .eq 54, 3) := by decide +kernel
theorem dX10_queueUp_40 : decode cX10_queueUp 40 = .ok (.aload_n 0, 1) := by decide +kernel
theorem dX10_queueUp_41 : decode cX10_queueUp 41 = .ok (.getfield 22, 3) := by decide +kernel
theorem dX10_queueUp_44 : decode cX10_queueUp 44 = .ok (.invokevirtual 79, 3) := by decide +kernel
theorem dX10_queueUp_47 : decode cX10_queueUp 47 = .ok (.istore 4, 2) := by decide +kernel
theorem dX10_queueUp_49 : decode cX10_queueUp 49 = .ok (.iload 4, 2) := by decide +kernel
theorem dX10_queueUp_51 : decode cX10_queueUp 51 = .ok (.ifCond .le 30, 3) := by decide +kernel
theorem dX10_queueUp_54 : decode cX10_queueUp 54 = .ok (.aload_n 3, 1) := by decide +kernel
theorem dX10_queueUp_55 : decode cX10_queueUp 55 = .ok (.aload_n 0, 1) := by decide +kernel
theorem dX10_queueUp_56 : decode cX10_queueUp 56 = .ok (.getfield 22, 3) := by decide +kernel
theorem dX10_queueUp_59 : decode cX10_queueUp 59 = .ok (.iload 4, 2) := by decide +kernel
theorem dX10_queueUp_61 : decode cX10_queueUp 61 = .ok (.iconst 1, 1) := by decide +kernel
theorem dX10_queueUp_62 : decode cX10_queueUp 62 = .ok (.isub, 1) := by decide +kernel
theorem dX10_queueUp_63 : decode cX10_queueUp 63 = .ok (.invokevirtual 143, 3) := by decide +kernel
theorem dX10_queueUp_66 : decode cX10_queueUp 66 = .ok (.checkcast 162, 3) := by decide +kernel
theorem dX10_queueUp_69 : decode cX10_queueUp 69 = .ok (.invokevirtual 434, 3) := by decide +kernel
theorem dX10_queueUp_72 : decode cX10_queueUp 72 = .ok (.ifCond .eq 9, 3) := by decide +kernel
theorem dX10_queueUp_75 : decode cX10_queueUp 75 = .ok (.iinc 4 (-1), 3) := by decide +kernel
theorem dX10_queueUp_78 : decode cX10_queueUp 78 = .ok (.goto (-29), 3) := by decide +kernel
theorem dX10_queueUp_81 : decode cX10_queueUp 81 = .ok (.aload_n 0, 1) := by decide +kernel
theorem dX10_queueUp_82 : decode cX10_queueUp 82 = .ok (.getfield 22, 3) := by decide +kernel
theorem dX10_queueUp_85 : decode cX10_queueUp 85 = .ok (.iload 4, 2) := by decide +kernel
theorem dX10_queueUp_87 : decode cX10_queueUp 87 = .ok (.aload_n 3, 1) := by decide +kernel
theorem dX10_queueUp_88 : decode cX10_queueUp 88 = .ok (.invokevirtual 438, 3) := by decide +kernel
theorem dX10_queueUp_91 : decode cX10_queueUp 91 = .ok (.iinc 2 1, 3) := by decide +kernel
theorem dX10_queueUp_94 : decode cX10_queueUp 94 = .ok (.goto (-85), 3) := by decide +kernel
theorem dX10_queueUp_97 : decode cX10_queueUp 97 = .ok (.return_, 1) := by decide +kernel
