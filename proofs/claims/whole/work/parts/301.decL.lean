/-! the law: words and decode rows of its static methods -/
theorem ms_L_openHub : MSW yL_openHub cL_openHub 5 [(0, 10, 13, 13), (0, 10, 17, 15)] 4 := ⟨lw_in2 63 (by decide +kernel) (by decide +kernel), lw_in2 62 (by decide +kernel) (by decide +kernel), in_L, rfl, ⟨(by decide +kernel), (by decide +kernel), (by decide +kernel)⟩⟩
theorem dL_openHub_0 : decode cL_openHub 0 = .ok (.aload_n 3, 1) := by decide +kernel
theorem dL_openHub_1 : decode cL_openHub 1 = .ok (.iconst 0, 1) := by decide +kernel
theorem dL_openHub_2 : decode cL_openHub 2 = .ok (.aload_n 0, 1) := by decide +kernel
theorem dL_openHub_3 : decode cL_openHub 3 = .ok (.iload_n 1, 1) := by decide +kernel
theorem dL_openHub_4 : decode cL_openHub 4 = .ok (.iload_n 2, 1) := by decide +kernel
theorem dL_openHub_5 : decode cL_openHub 5 = .ok (.invokevirtual 7, 3) := by decide +kernel
theorem dL_openHub_8 : decode cL_openHub 8 = .ok (.i2l, 1) := by decide +kernel
theorem dL_openHub_9 : decode cL_openHub 9 = .ok (.lastore, 1) := by decide +kernel
theorem dL_openHub_10 : decode cL_openHub 10 = .ok (.goto 11, 3) := by decide +kernel
theorem dL_openHub_13 : decode cL_openHub 13 = .ok (.astore 4, 2) := by decide +kernel
theorem dL_openHub_15 : decode cL_openHub 15 = .ok (.iconst 1, 1) := by decide +kernel
theorem dL_openHub_16 : decode cL_openHub 16 = .ok (.ireturn, 1) := by decide +kernel
theorem dL_openHub_17 : decode cL_openHub 17 = .ok (.astore 4, 2) := by decide +kernel
theorem dL_openHub_19 : decode cL_openHub 19 = .ok (.iconst 2, 1) := by decide +kernel
theorem dL_openHub_20 : decode cL_openHub 20 = .ok (.ireturn, 1) := by decide +kernel
theorem dL_openHub_21 : decode cL_openHub 21 = .ok (.iconst 0, 1) := by decide +kernel
theorem dL_openHub_22 : decode cL_openHub 22 = .ok (.ireturn, 1) := by decide +kernel
theorem ms_L_addLine : MSW yL_addLine cL_addLine 9 [(0, 18, 21, 21), (0, 18, 25, 13), (0, 18, 29, 15)] 8 := ⟨lw_in2 211 (by decide +kernel) (by decide +kernel), lw_in2 210 (by decide +kernel) (by decide +kernel), in_L, rfl, ⟨(by decide +kernel), (by decide +kernel), (by decide +kernel)⟩⟩
theorem dL_addLine_0 : decode cL_addLine 0 = .ok (.aload 7, 2) := by decide +kernel
theorem dL_addLine_2 : decode cL_addLine 2 = .ok (.iconst 0, 1) := by decide +kernel
theorem dL_addLine_3 : decode cL_addLine 3 = .ok (.aload_n 0, 1) := by decide +kernel
theorem dL_addLine_4 : decode cL_addLine 4 = .ok (.iload_n 1, 1) := by decide +kernel
theorem dL_addLine_5 : decode cL_addLine 5 = .ok (.iload_n 2, 1) := by decide +kernel
theorem dL_addLine_6 : decode cL_addLine 6 = .ok (.iload_n 3, 1) := by decide +kernel
theorem dL_addLine_7 : decode cL_addLine 7 = .ok (.iload 4, 2) := by decide +kernel
theorem dL_addLine_9 : decode cL_addLine 9 = .ok (.iload 5, 2) := by decide +kernel
theorem dL_addLine_11 : decode cL_addLine 11 = .ok (.iload 6, 2) := by decide +kernel
theorem dL_addLine_13 : decode cL_addLine 13 = .ok (.invokevirtual 17, 3) := by decide +kernel
theorem dL_addLine_16 : decode cL_addLine 16 = .ok (.i2l, 1) := by decide +kernel
theorem dL_addLine_17 : decode cL_addLine 17 = .ok (.lastore, 1) := by decide +kernel
theorem dL_addLine_18 : decode cL_addLine 18 = .ok (.goto 15, 3) := by decide +kernel
theorem dL_addLine_21 : decode cL_addLine 21 = .ok (.astore 8, 2) := by decide +kernel
theorem dL_addLine_23 : decode cL_addLine 23 = .ok (.iconst 1, 1) := by decide +kernel
theorem dL_addLine_24 : decode cL_addLine 24 = .ok (.ireturn, 1) := by decide +kernel
theorem dL_addLine_25 : decode cL_addLine 25 = .ok (.astore 8, 2) := by decide +kernel
theorem dL_addLine_27 : decode cL_addLine 27 = .ok (.iconst 2, 1) := by decide +kernel
theorem dL_addLine_28 : decode cL_addLine 28 = .ok (.ireturn, 1) := by decide +kernel
theorem dL_addLine_29 : decode cL_addLine 29 = .ok (.astore 8, 2) := by decide +kernel
theorem dL_addLine_31 : decode cL_addLine 31 = .ok (.iconst 3, 1) := by decide +kernel
theorem dL_addLine_32 : decode cL_addLine 32 = .ok (.ireturn, 1) := by decide +kernel
theorem dL_addLine_33 : decode cL_addLine 33 = .ok (.iconst 0, 1) := by decide +kernel
theorem dL_addLine_34 : decode cL_addLine 34 = .ok (.ireturn, 1) := by decide +kernel
theorem ms_L_closeLine : MSW yL_closeLine cL_closeLine 4 [(0, 9, 12, 21), (0, 9, 15, 15)] 3 := ⟨lw_in3 111 (by decide +kernel) (by decide +kernel), lw_in3 110 (by decide +kernel) (by decide +kernel), in_L, rfl, ⟨(by decide +kernel), (by decide +kernel), (by decide +kernel)⟩⟩
theorem dL_closeLine_0 : decode cL_closeLine 0 = .ok (.aload_n 2, 1) := by decide +kernel
theorem dL_closeLine_1 : decode cL_closeLine 1 = .ok (.iconst 0, 1) := by decide +kernel
theorem dL_closeLine_2 : decode cL_closeLine 2 = .ok (.aload_n 0, 1) := by decide +kernel
theorem dL_closeLine_3 : decode cL_closeLine 3 = .ok (.iload_n 1, 1) := by decide +kernel
theorem dL_closeLine_4 : decode cL_closeLine 4 = .ok (.invokevirtual 23, 3) := by decide +kernel
theorem dL_closeLine_7 : decode cL_closeLine 7 = .ok (.i2l, 1) := by decide +kernel
theorem dL_closeLine_8 : decode cL_closeLine 8 = .ok (.lastore, 1) := by decide +kernel
theorem dL_closeLine_9 : decode cL_closeLine 9 = .ok (.goto 9, 3) := by decide +kernel
theorem dL_closeLine_12 : decode cL_closeLine 12 = .ok (.astore_n 3, 1) := by decide +kernel
theorem dL_closeLine_13 : decode cL_closeLine 13 = .ok (.iconst 1, 1) := by decide +kernel
theorem dL_closeLine_14 : decode cL_closeLine 14 = .ok (.ireturn, 1) := by decide +kernel
theorem dL_closeLine_15 : decode cL_closeLine 15 = .ok (.astore_n 3, 1) := by decide +kernel
theorem dL_closeLine_16 : decode cL_closeLine 16 = .ok (.iconst 2, 1) := by decide +kernel
theorem dL_closeLine_17 : decode cL_closeLine 17 = .ok (.ireturn, 1) := by decide +kernel
theorem dL_closeLine_18 : decode cL_closeLine 18 = .ok (.iconst 0, 1) := by decide +kernel
theorem dL_closeLine_19 : decode cL_closeLine 19 = .ok (.ireturn, 1) := by decide +kernel
theorem ms_L_accept : MSW yL_accept cL_accept 7 [(0, 14, 17, 21), (0, 14, 21, 13), (0, 14, 25, 15)] 6 := ⟨lw_in3 136 (by decide +kernel) (by decide +kernel), lw_in3 135 (by decide +kernel) (by decide +kernel), in_L, rfl, ⟨(by decide +kernel), (by decide +kernel), (by decide +kernel)⟩⟩
theorem dL_accept_0 : decode cL_accept 0 = .ok (.aload 5, 2) := by decide +kernel
theorem dL_accept_2 : decode cL_accept 2 = .ok (.iconst 0, 1) := by decide +kernel
theorem dL_accept_3 : decode cL_accept 3 = .ok (.aload_n 0, 1) := by decide +kernel
theorem dL_accept_4 : decode cL_accept 4 = .ok (.iload_n 1, 1) := by decide +kernel
theorem dL_accept_5 : decode cL_accept 5 = .ok (.iload_n 2, 1) := by decide +kernel
theorem dL_accept_6 : decode cL_accept 6 = .ok (.iload_n 3, 1) := by decide +kernel
theorem dL_accept_7 : decode cL_accept 7 = .ok (.iload 4, 2) := by decide +kernel
theorem dL_accept_9 : decode cL_accept 9 = .ok (.invokevirtual 27, 3) := by decide +kernel
theorem dL_accept_12 : decode cL_accept 12 = .ok (.i2l, 1) := by decide +kernel
theorem dL_accept_13 : decode cL_accept 13 = .ok (.lastore, 1) := by decide +kernel
theorem dL_accept_14 : decode cL_accept 14 = .ok (.goto 15, 3) := by decide +kernel
theorem dL_accept_17 : decode cL_accept 17 = .ok (.astore 6, 2) := by decide +kernel
theorem dL_accept_19 : decode cL_accept 19 = .ok (.iconst 1, 1) := by decide +kernel
theorem dL_accept_20 : decode cL_accept 20 = .ok (.ireturn, 1) := by decide +kernel
theorem dL_accept_21 : decode cL_accept 21 = .ok (.astore 6, 2) := by decide +kernel
theorem dL_accept_23 : decode cL_accept 23 = .ok (.iconst 2, 1) := by decide +kernel
theorem dL_accept_24 : decode cL_accept 24 = .ok (.ireturn, 1) := by decide +kernel
theorem dL_accept_25 : decode cL_accept 25 = .ok (.astore 6, 2) := by decide +kernel
theorem dL_accept_27 : decode cL_accept 27 = .ok (.iconst 3, 1) := by decide +kernel
theorem dL_accept_28 : decode cL_accept 28 = .ok (.ireturn, 1) := by decide +kernel
theorem dL_accept_29 : decode cL_accept 29 = .ok (.iconst 0, 1) := by decide +kernel
theorem dL_accept_30 : decode cL_accept 30 = .ok (.ireturn, 1) := by decide +kernel
theorem ms_L_scan : MSW yL_scan cL_scan 5 [(0, 10, 13, 21), (0, 10, 17, 15)] 4 := ⟨lw_in4 136 (by decide +kernel) (by decide +kernel), lw_in4 135 (by decide +kernel) (by decide +kernel), in_L, rfl, ⟨(by decide +kernel), (by decide +kernel), (by decide +kernel)⟩⟩
theorem dL_scan_0 : decode cL_scan 0 = .ok (.aload_n 3, 1) := by decide +kernel
theorem dL_scan_1 : decode cL_scan 1 = .ok (.iconst 0, 1) := by decide +kernel
theorem dL_scan_2 : decode cL_scan 2 = .ok (.aload_n 0, 1) := by decide +kernel
theorem dL_scan_3 : decode cL_scan 3 = .ok (.iload_n 1, 1) := by decide +kernel
theorem dL_scan_4 : decode cL_scan 4 = .ok (.iload_n 2, 1) := by decide +kernel
theorem dL_scan_5 : decode cL_scan 5 = .ok (.invokevirtual 31, 3) := by decide +kernel
theorem dL_scan_8 : decode cL_scan 8 = .ok (.i2l, 1) := by decide +kernel
theorem dL_scan_9 : decode cL_scan 9 = .ok (.lastore, 1) := by decide +kernel
theorem dL_scan_10 : decode cL_scan 10 = .ok (.goto 11, 3) := by decide +kernel
theorem dL_scan_13 : decode cL_scan 13 = .ok (.astore 4, 2) := by decide +kernel
theorem dL_scan_15 : decode cL_scan 15 = .ok (.iconst 1, 1) := by decide +kernel
theorem dL_scan_16 : decode cL_scan 16 = .ok (.ireturn, 1) := by decide +kernel
theorem dL_scan_17 : decode cL_scan 17 = .ok (.astore 4, 2) := by decide +kernel
theorem dL_scan_19 : decode cL_scan 19 = .ok (.iconst 2, 1) := by decide +kernel
theorem dL_scan_20 : decode cL_scan 20 = .ok (.ireturn, 1) := by decide +kernel
theorem dL_scan_21 : decode cL_scan 21 = .ok (.iconst 0, 1) := by decide +kernel
theorem dL_scan_22 : decode cL_scan 22 = .ok (.ireturn, 1) := by decide +kernel
theorem ms_L_deliver : MSW yL_deliver cL_deliver 5 [(0, 10, 13, 21), (0, 10, 17, 15)] 4 := ⟨lw_in4 157 (by decide +kernel) (by decide +kernel), lw_in4 156 (by decide +kernel) (by decide +kernel), in_L, rfl, ⟨(by decide +kernel), (by decide +kernel), (by decide +kernel)⟩⟩
theorem dL_deliver_0 : decode cL_deliver 0 = .ok (.aload_n 3, 1) := by decide +kernel
theorem dL_deliver_1 : decode cL_deliver 1 = .ok (.iconst 0, 1) := by decide +kernel
theorem dL_deliver_2 : decode cL_deliver 2 = .ok (.aload_n 0, 1) := by decide +kernel
theorem dL_deliver_3 : decode cL_deliver 3 = .ok (.iload_n 1, 1) := by decide +kernel
theorem dL_deliver_4 : decode cL_deliver 4 = .ok (.iload_n 2, 1) := by decide +kernel
theorem dL_deliver_5 : decode cL_deliver 5 = .ok (.invokevirtual 35, 3) := by decide +kernel
theorem dL_deliver_8 : decode cL_deliver 8 = .ok (.i2l, 1) := by decide +kernel
theorem dL_deliver_9 : decode cL_deliver 9 = .ok (.lastore, 1) := by decide +kernel
theorem dL_deliver_10 : decode cL_deliver 10 = .ok (.goto 11, 3) := by decide +kernel
theorem dL_deliver_13 : decode cL_deliver 13 = .ok (.astore 4, 2) := by decide +kernel
theorem dL_deliver_15 : decode cL_deliver 15 = .ok (.iconst 1, 1) := by decide +kernel
theorem dL_deliver_16 : decode cL_deliver 16 = .ok (.ireturn, 1) := by decide +kernel
theorem dL_deliver_17 : decode cL_deliver 17 = .ok (.astore 4, 2) := by decide +kernel
theorem dL_deliver_19 : decode cL_deliver 19 = .ok (.iconst 2, 1) := by decide +kernel
theorem dL_deliver_20 : decode cL_deliver 20 = .ok (.ireturn, 1) := by decide +kernel
theorem dL_deliver_21 : decode cL_deliver 21 = .ok (.iconst 0, 1) := by decide +kernel
theorem dL_deliver_22 : decode cL_deliver 22 = .ok (.ireturn, 1) := by decide +kernel
theorem ms_L_recall : MSW yL_recall cL_recall 4 [(0, 9, 12, 21), (0, 9, 15, 15)] 3 := ⟨lw_in4 177 (by decide +kernel) (by decide +kernel), lw_in4 176 (by decide +kernel) (by decide +kernel), in_L, rfl, ⟨(by decide +kernel), (by decide +kernel), (by decide +kernel)⟩⟩
theorem dL_recall_0 : decode cL_recall 0 = .ok (.aload_n 2, 1) := by decide +kernel
theorem dL_recall_1 : decode cL_recall 1 = .ok (.iconst 0, 1) := by decide +kernel
theorem dL_recall_2 : decode cL_recall 2 = .ok (.aload_n 0, 1) := by decide +kernel
theorem dL_recall_3 : decode cL_recall 3 = .ok (.iload_n 1, 1) := by decide +kernel
theorem dL_recall_4 : decode cL_recall 4 = .ok (.invokevirtual 39, 3) := by decide +kernel
theorem dL_recall_7 : decode cL_recall 7 = .ok (.i2l, 1) := by decide +kernel
theorem dL_recall_8 : decode cL_recall 8 = .ok (.lastore, 1) := by decide +kernel
theorem dL_recall_9 : decode cL_recall 9 = .ok (.goto 9, 3) := by decide +kernel
theorem dL_recall_12 : decode cL_recall 12 = .ok (.astore_n 3, 1) := by decide +kernel
theorem dL_recall_13 : decode cL_recall 13 = .ok (.iconst 1, 1) := by decide +kernel
theorem dL_recall_14 : decode cL_recall 14 = .ok (.ireturn, 1) := by decide +kernel
theorem dL_recall_15 : decode cL_recall 15 = .ok (.astore_n 3, 1) := by decide +kernel
theorem dL_recall_16 : decode cL_recall 16 = .ok (.iconst 2, 1) := by decide +kernel
theorem dL_recall_17 : decode cL_recall 17 = .ok (.ireturn, 1) := by decide +kernel
theorem dL_recall_18 : decode cL_recall 18 = .ok (.iconst 0, 1) := by decide +kernel
theorem dL_recall_19 : decode cL_recall 19 = .ok (.ireturn, 1) := by decide +kernel
theorem ms_L_pass : MSW yL_pass cL_pass 4 [(0, 9, 12, 13)] 3 := ⟨lw_in4 190 (by decide +kernel) (by decide +kernel), lw_in4 189 (by decide +kernel) (by decide +kernel), in_L, rfl, ⟨(by decide +kernel), (by decide +kernel), (by decide +kernel)⟩⟩
theorem dL_pass_0 : decode cL_pass 0 = .ok (.aload_n 2, 1) := by decide +kernel
theorem dL_pass_1 : decode cL_pass 1 = .ok (.iconst 0, 1) := by decide +kernel
theorem dL_pass_2 : decode cL_pass 2 = .ok (.aload_n 0, 1) := by decide +kernel
theorem dL_pass_3 : decode cL_pass 3 = .ok (.iload_n 1, 1) := by decide +kernel
theorem dL_pass_4 : decode cL_pass 4 = .ok (.invokevirtual 42, 3) := by decide +kernel
theorem dL_pass_7 : decode cL_pass 7 = .ok (.i2l, 1) := by decide +kernel
theorem dL_pass_8 : decode cL_pass 8 = .ok (.lastore, 1) := by decide +kernel
theorem dL_pass_9 : decode cL_pass 9 = .ok (.goto 6, 3) := by decide +kernel
theorem dL_pass_12 : decode cL_pass 12 = .ok (.astore_n 3, 1) := by decide +kernel
theorem dL_pass_13 : decode cL_pass 13 = .ok (.iconst 1, 1) := by decide +kernel
theorem dL_pass_14 : decode cL_pass 14 = .ok (.ireturn, 1) := by decide +kernel
theorem dL_pass_15 : decode cL_pass 15 = .ok (.iconst 0, 1) := by decide +kernel
theorem dL_pass_16 : decode cL_pass 16 = .ok (.ireturn, 1) := by decide +kernel
theorem ms_L_hubOf : MSW yL_hubOf cL_hubOf 4 [(0, 9, 12, 13)] 3 := ⟨lw_in5 230 (by decide +kernel) (by decide +kernel), lw_in5 229 (by decide +kernel) (by decide +kernel), in_L, rfl, ⟨(by decide +kernel), (by decide +kernel), (by decide +kernel)⟩⟩
theorem dL_hubOf_0 : decode cL_hubOf 0 = .ok (.aload_n 2, 1) := by decide +kernel
theorem dL_hubOf_1 : decode cL_hubOf 1 = .ok (.iconst 0, 1) := by decide +kernel
theorem dL_hubOf_2 : decode cL_hubOf 2 = .ok (.aload_n 0, 1) := by decide +kernel
theorem dL_hubOf_3 : decode cL_hubOf 3 = .ok (.iload_n 1, 1) := by decide +kernel
theorem dL_hubOf_4 : decode cL_hubOf 4 = .ok (.invokevirtual 45, 3) := by decide +kernel
theorem dL_hubOf_7 : decode cL_hubOf 7 = .ok (.i2l, 1) := by decide +kernel
theorem dL_hubOf_8 : decode cL_hubOf 8 = .ok (.lastore, 1) := by decide +kernel
theorem dL_hubOf_9 : decode cL_hubOf 9 = .ok (.goto 6, 3) := by decide +kernel
theorem dL_hubOf_12 : decode cL_hubOf 12 = .ok (.astore_n 3, 1) := by decide +kernel
theorem dL_hubOf_13 : decode cL_hubOf 13 = .ok (.iconst 1, 1) := by decide +kernel
theorem dL_hubOf_14 : decode cL_hubOf 14 = .ok (.ireturn, 1) := by decide +kernel
theorem dL_hubOf_15 : decode cL_hubOf 15 = .ok (.iconst 0, 1) := by decide +kernel
theorem dL_hubOf_16 : decode cL_hubOf 16 = .ok (.ireturn, 1) := by decide +kernel
theorem ms_L_hubByTrying : MSW yL_hubByTrying cL_hubByTrying 4 [(0, 9, 12, 13)] 3 := ⟨lw_in6 1 (by decide +kernel) (by decide +kernel), lw_in6 0 (by decide +kernel) (by decide +kernel), in_L, rfl, ⟨(by decide +kernel), (by decide +kernel), (by decide +kernel)⟩⟩
theorem dL_hubByTrying_0 : decode cL_hubByTrying 0 = .ok (.aload_n 2, 1) := by decide +kernel
theorem dL_hubByTrying_1 : decode cL_hubByTrying 1 = .ok (.iconst 0, 1) := by decide +kernel
theorem dL_hubByTrying_2 : decode cL_hubByTrying 2 = .ok (.aload_n 0, 1) := by decide +kernel
theorem dL_hubByTrying_3 : decode cL_hubByTrying 3 = .ok (.iload_n 1, 1) := by decide +kernel
theorem dL_hubByTrying_4 : decode cL_hubByTrying 4 = .ok (.invokevirtual 48, 3) := by decide +kernel
theorem dL_hubByTrying_7 : decode cL_hubByTrying 7 = .ok (.i2l, 1) := by decide +kernel
theorem dL_hubByTrying_8 : decode cL_hubByTrying 8 = .ok (.lastore, 1) := by decide +kernel
theorem dL_hubByTrying_9 : decode cL_hubByTrying 9 = .ok (.goto 6, 3) := by decide +kernel
theorem dL_hubByTrying_12 : decode cL_hubByTrying 12 = .ok (.astore_n 3, 1) := by decide +kernel
theorem dL_hubByTrying_13 : decode cL_hubByTrying 13 = .ok (.iconst 1, 1) := by decide +kernel
theorem dL_hubByTrying_14 : decode cL_hubByTrying 14 = .ok (.ireturn, 1) := by decide +kernel
theorem dL_hubByTrying_15 : decode cL_hubByTrying 15 = .ok (.iconst 0, 1) := by decide +kernel
theorem dL_hubByTrying_16 : decode cL_hubByTrying 16 = .ok (.ireturn, 1) := by decide +kernel
theorem ms_L_nextDeparture : MSW yL_nextDeparture cL_nextDeparture 4 [(0, 9, 12, 21), (0, 9, 15, 15)] 3 := ⟨lw_in6 11 (by decide +kernel) (by decide +kernel), lw_in6 10 (by decide +kernel) (by decide +kernel), in_L, rfl, ⟨(by decide +kernel), (by decide +kernel), (by decide +kernel)⟩⟩
theorem dL_nextDeparture_0 : decode cL_nextDeparture 0 = .ok (.aload_n 2, 1) := by decide +kernel
theorem dL_nextDeparture_1 : decode cL_nextDeparture 1 = .ok (.iconst 0, 1) := by decide +kernel
theorem dL_nextDeparture_2 : decode cL_nextDeparture 2 = .ok (.aload_n 0, 1) := by decide +kernel
theorem dL_nextDeparture_3 : decode cL_nextDeparture 3 = .ok (.iload_n 1, 1) := by decide +kernel
theorem dL_nextDeparture_4 : decode cL_nextDeparture 4 = .ok (.invokevirtual 51, 3) := by decide +kernel
theorem dL_nextDeparture_7 : decode cL_nextDeparture 7 = .ok (.i2l, 1) := by decide +kernel
theorem dL_nextDeparture_8 : decode cL_nextDeparture 8 = .ok (.lastore, 1) := by decide +kernel
theorem dL_nextDeparture_9 : decode cL_nextDeparture 9 = .ok (.goto 9, 3) := by decide +kernel
theorem dL_nextDeparture_12 : decode cL_nextDeparture 12 = .ok (.astore_n 3, 1) := by decide +kernel
theorem dL_nextDeparture_13 : decode cL_nextDeparture 13 = .ok (.iconst 1, 1) := by decide +kernel
theorem dL_nextDeparture_14 : decode cL_nextDeparture 14 = .ok (.ireturn, 1) := by decide +kernel
theorem dL_nextDeparture_15 : decode cL_nextDeparture 15 = .ok (.astore_n 3, 1) := by decide +kernel
theorem dL_nextDeparture_16 : decode cL_nextDeparture 16 = .ok (.iconst 2, 1) := by decide +kernel
theorem dL_nextDeparture_17 : decode cL_nextDeparture 17 = .ok (.ireturn, 1) := by decide +kernel
theorem dL_nextDeparture_18 : decode cL_nextDeparture 18 = .ok (.iconst 0, 1) := by decide +kernel
theorem dL_nextDeparture_19 : decode cL_nextDeparture 19 = .ok (.ireturn, 1) := by decide +kernel
theorem ms_L_state : MSW yL_state cL_state 4 [(0, 9, 12, 21)] 3 := ⟨lw_in6 19 (by decide +kernel) (by decide +kernel), lw_in6 18 (by decide +kernel) (by decide +kernel), in_L, rfl, ⟨(by decide +kernel), (by decide +kernel), (by decide +kernel)⟩⟩
theorem dL_state_0 : decode cL_state 0 = .ok (.aload_n 2, 1) := by decide +kernel
theorem dL_state_1 : decode cL_state 1 = .ok (.iconst 0, 1) := by decide +kernel
theorem dL_state_2 : decode cL_state 2 = .ok (.aload_n 0, 1) := by decide +kernel
theorem dL_state_3 : decode cL_state 3 = .ok (.iload_n 1, 1) := by decide +kernel
theorem dL_state_4 : decode cL_state 4 = .ok (.invokevirtual 54, 3) := by decide +kernel
theorem dL_state_7 : decode cL_state 7 = .ok (.i2l, 1) := by decide +kernel
theorem dL_state_8 : decode cL_state 8 = .ok (.lastore, 1) := by decide +kernel
theorem dL_state_9 : decode cL_state 9 = .ok (.goto 6, 3) := by decide +kernel
theorem dL_state_12 : decode cL_state 12 = .ok (.astore_n 3, 1) := by decide +kernel
theorem dL_state_13 : decode cL_state 13 = .ok (.iconst 1, 1) := by decide +kernel
theorem dL_state_14 : decode cL_state 14 = .ok (.ireturn, 1) := by decide +kernel
theorem dL_state_15 : decode cL_state 15 = .ok (.iconst 0, 1) := by decide +kernel
theorem dL_state_16 : decode cL_state 16 = .ok (.ireturn, 1) := by decide +kernel
theorem ms_L_at : MSW yL_at cL_at 4 [(0, 9, 12, 21), (0, 9, 15, 15)] 3 := ⟨lw_in6 26 (by decide +kernel) (by decide +kernel), lw_in6 25 (by decide +kernel) (by decide +kernel), in_L, rfl, ⟨(by decide +kernel), (by decide +kernel), (by decide +kernel)⟩⟩
theorem dL_at_0 : decode cL_at 0 = .ok (.aload_n 2, 1) := by decide +kernel
theorem dL_at_1 : decode cL_at 1 = .ok (.iconst 0, 1) := by decide +kernel
theorem dL_at_2 : decode cL_at 2 = .ok (.aload_n 0, 1) := by decide +kernel
theorem dL_at_3 : decode cL_at 3 = .ok (.iload_n 1, 1) := by decide +kernel
theorem dL_at_4 : decode cL_at 4 = .ok (.invokevirtual 58, 3) := by decide +kernel
theorem dL_at_7 : decode cL_at 7 = .ok (.i2l, 1) := by decide +kernel
theorem dL_at_8 : decode cL_at 8 = .ok (.lastore, 1) := by decide +kernel
theorem dL_at_9 : decode cL_at 9 = .ok (.goto 9, 3) := by decide +kernel
theorem dL_at_12 : decode cL_at 12 = .ok (.astore_n 3, 1) := by decide +kernel
theorem dL_at_13 : decode cL_at 13 = .ok (.iconst 1, 1) := by decide +kernel
theorem dL_at_14 : decode cL_at 14 = .ok (.ireturn, 1) := by decide +kernel
theorem dL_at_15 : decode cL_at 15 = .ok (.astore_n 3, 1) := by decide +kernel
theorem dL_at_16 : decode cL_at 16 = .ok (.iconst 2, 1) := by decide +kernel
theorem dL_at_17 : decode cL_at 17 = .ok (.ireturn, 1) := by decide +kernel
theorem dL_at_18 : decode cL_at 18 = .ok (.iconst 0, 1) := by decide +kernel
theorem dL_at_19 : decode cL_at 19 = .ok (.ireturn, 1) := by decide +kernel
theorem ms_L_rides : MSW yL_rides cL_rides 4 [(0, 9, 12, 21), (0, 9, 15, 15)] 3 := ⟨lw_in6 34 (by decide +kernel) (by decide +kernel), lw_in6 33 (by decide +kernel) (by decide +kernel), in_L, rfl, ⟨(by decide +kernel), (by decide +kernel), (by decide +kernel)⟩⟩
theorem dL_rides_0 : decode cL_rides 0 = .ok (.aload_n 2, 1) := by decide +kernel
theorem dL_rides_1 : decode cL_rides 1 = .ok (.iconst 0, 1) := by decide +kernel
theorem dL_rides_2 : decode cL_rides 2 = .ok (.aload_n 0, 1) := by decide +kernel
theorem dL_rides_3 : decode cL_rides 3 = .ok (.iload_n 1, 1) := by decide +kernel
theorem dL_rides_4 : decode cL_rides 4 = .ok (.invokevirtual 61, 3) := by decide +kernel
theorem dL_rides_7 : decode cL_rides 7 = .ok (.i2l, 1) := by decide +kernel
theorem dL_rides_8 : decode cL_rides 8 = .ok (.lastore, 1) := by decide +kernel
theorem dL_rides_9 : decode cL_rides 9 = .ok (.goto 9, 3) := by decide +kernel
theorem dL_rides_12 : decode cL_rides 12 = .ok (.astore_n 3, 1) := by decide +kernel
theorem dL_rides_13 : decode cL_rides 13 = .ok (.iconst 1, 1) := by decide +kernel
theorem dL_rides_14 : decode cL_rides 14 = .ok (.ireturn, 1) := by decide +kernel
theorem dL_rides_15 : decode cL_rides 15 = .ok (.astore_n 3, 1) := by decide +kernel
theorem dL_rides_16 : decode cL_rides 16 = .ok (.iconst 2, 1) := by decide +kernel
theorem dL_rides_17 : decode cL_rides 17 = .ok (.ireturn, 1) := by decide +kernel
theorem dL_rides_18 : decode cL_rides 18 = .ok (.iconst 0, 1) := by decide +kernel
theorem dL_rides_19 : decode cL_rides 19 = .ok (.ireturn, 1) := by decide +kernel
theorem ms_L_destination : MSW yL_destination cL_destination 4 [(0, 9, 12, 21)] 3 := ⟨lw_in6 42 (by decide +kernel) (by decide +kernel), lw_in6 41 (by decide +kernel) (by decide +kernel), in_L, rfl, ⟨(by decide +kernel), (by decide +kernel), (by decide +kernel)⟩⟩
theorem dL_destination_0 : decode cL_destination 0 = .ok (.aload_n 2, 1) := by decide +kernel
theorem dL_destination_1 : decode cL_destination 1 = .ok (.iconst 0, 1) := by decide +kernel
theorem dL_destination_2 : decode cL_destination 2 = .ok (.aload_n 0, 1) := by decide +kernel
theorem dL_destination_3 : decode cL_destination 3 = .ok (.iload_n 1, 1) := by decide +kernel
theorem dL_destination_4 : decode cL_destination 4 = .ok (.invokevirtual 64, 3) := by decide +kernel
theorem dL_destination_7 : decode cL_destination 7 = .ok (.i2l, 1) := by decide +kernel
theorem dL_destination_8 : decode cL_destination 8 = .ok (.lastore, 1) := by decide +kernel
theorem dL_destination_9 : decode cL_destination 9 = .ok (.goto 6, 3) := by decide +kernel
theorem dL_destination_12 : decode cL_destination 12 = .ok (.astore_n 3, 1) := by decide +kernel
theorem dL_destination_13 : decode cL_destination 13 = .ok (.iconst 1, 1) := by decide +kernel
theorem dL_destination_14 : decode cL_destination 14 = .ok (.ireturn, 1) := by decide +kernel
theorem dL_destination_15 : decode cL_destination 15 = .ok (.iconst 0, 1) := by decide +kernel
theorem dL_destination_16 : decode cL_destination 16 = .ok (.ireturn, 1) := by decide +kernel
theorem ms_L_isReturn : MSW yL_isReturn cL_isReturn 4 [(0, 16, 19, 21)] 3 := ⟨lw_in6 49 (by decide +kernel) (by decide +kernel), lw_in6 48 (by decide +kernel) (by decide +kernel), in_L, rfl, ⟨(by decide +kernel), (by decide +kernel), (by decide +kernel)⟩⟩
theorem dL_isReturn_0 : decode cL_isReturn 0 = .ok (.aload_n 2, 1) := by decide +kernel
theorem dL_isReturn_1 : decode cL_isReturn 1 = .ok (.iconst 0, 1) := by decide +kernel
theorem dL_isReturn_2 : decode cL_isReturn 2 = .ok (.aload_n 0, 1) := by decide +kernel
theorem dL_isReturn_3 : decode cL_isReturn 3 = .ok (.iload_n 1, 1) := by decide +kernel
theorem dL_isReturn_4 : decode cL_isReturn 4 = .ok (.invokevirtual 67, 3) := by decide +kernel
theorem dL_isReturn_7 : decode cL_isReturn 7 = .ok (.ifCond .eq 7, 3) := by decide +kernel
theorem dL_isReturn_10 : decode cL_isReturn 10 = .ok (.lconst 1, 1) := by decide +kernel
theorem dL_isReturn_11 : decode cL_isReturn 11 = .ok (.goto 4, 3) := by decide +kernel
theorem dL_isReturn_14 : decode cL_isReturn 14 = .ok (.lconst 0, 1) := by decide +kernel
theorem dL_isReturn_15 : decode cL_isReturn 15 = .ok (.lastore, 1) := by decide +kernel
theorem dL_isReturn_16 : decode cL_isReturn 16 = .ok (.goto 6, 3) := by decide +kernel
theorem dL_isReturn_19 : decode cL_isReturn 19 = .ok (.astore_n 3, 1) := by decide +kernel
theorem dL_isReturn_20 : decode cL_isReturn 20 = .ok (.iconst 1, 1) := by decide +kernel
theorem dL_isReturn_21 : decode cL_isReturn 21 = .ok (.ireturn, 1) := by decide +kernel
theorem dL_isReturn_22 : decode cL_isReturn 22 = .ok (.iconst 0, 1) := by decide +kernel
theorem dL_isReturn_23 : decode cL_isReturn 23 = .ok (.ireturn, 1) := by decide +kernel
theorem ms_L_promise : MSW yL_promise cL_promise 4 [(0, 9, 12, 21)] 3 := ⟨lw_in6 56 (by decide +kernel) (by decide +kernel), lw_in6 55 (by decide +kernel) (by decide +kernel), in_L, rfl, ⟨(by decide +kernel), (by decide +kernel), (by decide +kernel)⟩⟩
theorem dL_promise_0 : decode cL_promise 0 = .ok (.aload_n 2, 1) := by decide +kernel
theorem dL_promise_1 : decode cL_promise 1 = .ok (.iconst 0, 1) := by decide +kernel
theorem dL_promise_2 : decode cL_promise 2 = .ok (.aload_n 0, 1) := by decide +kernel
theorem dL_promise_3 : decode cL_promise 3 = .ok (.iload_n 1, 1) := by decide +kernel
theorem dL_promise_4 : decode cL_promise 4 = .ok (.invokevirtual 71, 3) := by decide +kernel
theorem dL_promise_7 : decode cL_promise 7 = .ok (.i2l, 1) := by decide +kernel
theorem dL_promise_8 : decode cL_promise 8 = .ok (.lastore, 1) := by decide +kernel
theorem dL_promise_9 : decode cL_promise 9 = .ok (.goto 6, 3) := by decide +kernel
theorem dL_promise_12 : decode cL_promise 12 = .ok (.astore_n 3, 1) := by decide +kernel
theorem dL_promise_13 : decode cL_promise 13 = .ok (.iconst 1, 1) := by decide +kernel
theorem dL_promise_14 : decode cL_promise 14 = .ok (.ireturn, 1) := by decide +kernel
theorem dL_promise_15 : decode cL_promise 15 = .ok (.iconst 0, 1) := by decide +kernel
theorem dL_promise_16 : decode cL_promise 16 = .ok (.ireturn, 1) := by decide +kernel
theorem ms_L_isLate : MSW yL_isLate cL_isLate 4 [(0, 16, 19, 21)] 3 := ⟨lw_in6 63 (by decide +kernel) (by decide +kernel), lw_in6 62 (by decide +kernel) (by decide +kernel), in_L, rfl, ⟨(by decide +kernel), (by decide +kernel), (by decide +kernel)⟩⟩
theorem dL_isLate_0 : decode cL_isLate 0 = .ok (.aload_n 2, 1) := by decide +kernel
theorem dL_isLate_1 : decode cL_isLate 1 = .ok (.iconst 0, 1) := by decide +kernel
theorem dL_isLate_2 : decode cL_isLate 2 = .ok (.aload_n 0, 1) := by decide +kernel
theorem dL_isLate_3 : decode cL_isLate 3 = .ok (.iload_n 1, 1) := by decide +kernel
theorem dL_isLate_4 : decode cL_isLate 4 = .ok (.invokevirtual 74, 3) := by decide +kernel
theorem dL_isLate_7 : decode cL_isLate 7 = .ok (.ifCond .eq 7, 3) := by decide +kernel
theorem dL_isLate_10 : decode cL_isLate 10 = .ok (.lconst 1, 1) := by decide +kernel
theorem dL_isLate_11 : decode cL_isLate 11 = .ok (.goto 4, 3) := by decide +kernel
theorem dL_isLate_14 : decode cL_isLate 14 = .ok (.lconst 0, 1) := by decide +kernel
theorem dL_isLate_15 : decode cL_isLate 15 = .ok (.lastore, 1) := by decide +kernel
theorem dL_isLate_16 : decode cL_isLate 16 = .ok (.goto 6, 3) := by decide +kernel
theorem dL_isLate_19 : decode cL_isLate 19 = .ok (.astore_n 3, 1) := by decide +kernel
theorem dL_isLate_20 : decode cL_isLate 20 = .ok (.iconst 1, 1) := by decide +kernel
theorem dL_isLate_21 : decode cL_isLate 21 = .ok (.ireturn, 1) := by decide +kernel
theorem dL_isLate_22 : decode cL_isLate 22 = .ok (.iconst 0, 1) := by decide +kernel
theorem dL_isLate_23 : decode cL_isLate 23 = .ok (.ireturn, 1) := by decide +kernel
theorem ms_L_misroutes : MSW yL_misroutes cL_misroutes 4 [(0, 9, 12, 21)] 3 := ⟨lw_in6 74 (by decide +kernel) (by decide +kernel), lw_in6 73 (by decide +kernel) (by decide +kernel), in_L, rfl, ⟨(by decide +kernel), (by decide +kernel), (by decide +kernel)⟩⟩
theorem dL_misroutes_0 : decode cL_misroutes 0 = .ok (.aload_n 2, 1) := by decide +kernel
theorem dL_misroutes_1 : decode cL_misroutes 1 = .ok (.iconst 0, 1) := by decide +kernel
theorem dL_misroutes_2 : decode cL_misroutes 2 = .ok (.aload_n 0, 1) := by decide +kernel
theorem dL_misroutes_3 : decode cL_misroutes 3 = .ok (.iload_n 1, 1) := by decide +kernel
theorem dL_misroutes_4 : decode cL_misroutes 4 = .ok (.invokevirtual 77, 3) := by decide +kernel
theorem dL_misroutes_7 : decode cL_misroutes 7 = .ok (.i2l, 1) := by decide +kernel
theorem dL_misroutes_8 : decode cL_misroutes 8 = .ok (.lastore, 1) := by decide +kernel
theorem dL_misroutes_9 : decode cL_misroutes 9 = .ok (.goto 6, 3) := by decide +kernel
theorem dL_misroutes_12 : decode cL_misroutes 12 = .ok (.astore_n 3, 1) := by decide +kernel
theorem dL_misroutes_13 : decode cL_misroutes 13 = .ok (.iconst 1, 1) := by decide +kernel
theorem dL_misroutes_14 : decode cL_misroutes 14 = .ok (.ireturn, 1) := by decide +kernel
theorem dL_misroutes_15 : decode cL_misroutes 15 = .ok (.iconst 0, 1) := by decide +kernel
theorem dL_misroutes_16 : decode cL_misroutes 16 = .ok (.ireturn, 1) := by decide +kernel
theorem ms_L_attempts : MSW yL_attempts cL_attempts 4 [(0, 9, 12, 21)] 3 := ⟨lw_in6 81 (by decide +kernel) (by decide +kernel), lw_in6 80 (by decide +kernel) (by decide +kernel), in_L, rfl, ⟨(by decide +kernel), (by decide +kernel), (by decide +kernel)⟩⟩
theorem dL_attempts_0 : decode cL_attempts 0 = .ok (.aload_n 2, 1) := by decide +kernel
theorem dL_attempts_1 : decode cL_attempts 1 = .ok (.iconst 0, 1) := by decide +kernel
theorem dL_attempts_2 : decode cL_attempts 2 = .ok (.aload_n 0, 1) := by decide +kernel
theorem dL_attempts_3 : decode cL_attempts 3 = .ok (.iload_n 1, 1) := by decide +kernel
theorem dL_attempts_4 : decode cL_attempts 4 = .ok (.invokevirtual 80, 3) := by decide +kernel
theorem dL_attempts_7 : decode cL_attempts 7 = .ok (.i2l, 1) := by decide +kernel
theorem dL_attempts_8 : decode cL_attempts 8 = .ok (.lastore, 1) := by decide +kernel
theorem dL_attempts_9 : decode cL_attempts 9 = .ok (.goto 6, 3) := by decide +kernel
theorem dL_attempts_12 : decode cL_attempts 12 = .ok (.astore_n 3, 1) := by decide +kernel
theorem dL_attempts_13 : decode cL_attempts 13 = .ok (.iconst 1, 1) := by decide +kernel
theorem dL_attempts_14 : decode cL_attempts 14 = .ok (.ireturn, 1) := by decide +kernel
theorem dL_attempts_15 : decode cL_attempts 15 = .ok (.iconst 0, 1) := by decide +kernel
theorem dL_attempts_16 : decode cL_attempts 16 = .ok (.ireturn, 1) := by decide +kernel
theorem ms_L_missed : MSW yL_missed cL_missed 4 [(0, 9, 12, 21)] 3 := ⟨lw_in6 88 (by decide +kernel) (by decide +kernel), lw_in6 87 (by decide +kernel) (by decide +kernel), in_L, rfl, ⟨(by decide +kernel), (by decide +kernel), (by decide +kernel)⟩⟩
theorem dL_missed_0 : decode cL_missed 0 = .ok (.aload_n 2, 1) := by decide +kernel
theorem dL_missed_1 : decode cL_missed 1 = .ok (.iconst 0, 1) := by decide +kernel
theorem dL_missed_2 : decode cL_missed 2 = .ok (.aload_n 0, 1) := by decide +kernel
theorem dL_missed_3 : decode cL_missed 3 = .ok (.iload_n 1, 1) := by decide +kernel
theorem dL_missed_4 : decode cL_missed 4 = .ok (.invokevirtual 83, 3) := by decide +kernel
theorem dL_missed_7 : decode cL_missed 7 = .ok (.i2l, 1) := by decide +kernel
theorem dL_missed_8 : decode cL_missed 8 = .ok (.lastore, 1) := by decide +kernel
theorem dL_missed_9 : decode cL_missed 9 = .ok (.goto 6, 3) := by decide +kernel
theorem dL_missed_12 : decode cL_missed 12 = .ok (.astore_n 3, 1) := by decide +kernel
theorem dL_missed_13 : decode cL_missed 13 = .ok (.iconst 1, 1) := by decide +kernel
theorem dL_missed_14 : decode cL_missed 14 = .ok (.ireturn, 1) := by decide +kernel
theorem dL_missed_15 : decode cL_missed 15 = .ok (.iconst 0, 1) := by decide +kernel
theorem dL_missed_16 : decode cL_missed 16 = .ok (.ireturn, 1) := by decide +kernel
theorem ms_L_nextLine : MSW yL_nextLine cL_nextLine 4 [(0, 9, 12, 21), (0, 9, 15, 15)] 3 := ⟨lw_in6 95 (by decide +kernel) (by decide +kernel), lw_in6 94 (by decide +kernel) (by decide +kernel), in_L, rfl, ⟨(by decide +kernel), (by decide +kernel), (by decide +kernel)⟩⟩
theorem dL_nextLine_0 : decode cL_nextLine 0 = .ok (.aload_n 2, 1) := by decide +kernel
theorem dL_nextLine_1 : decode cL_nextLine 1 = .ok (.iconst 0, 1) := by decide +kernel
theorem dL_nextLine_2 : decode cL_nextLine 2 = .ok (.aload_n 0, 1) := by decide +kernel
theorem dL_nextLine_3 : decode cL_nextLine 3 = .ok (.iload_n 1, 1) := by decide +kernel
theorem dL_nextLine_4 : decode cL_nextLine 4 = .ok (.invokevirtual 86, 3) := by decide +kernel
theorem dL_nextLine_7 : decode cL_nextLine 7 = .ok (.i2l, 1) := by decide +kernel
theorem dL_nextLine_8 : decode cL_nextLine 8 = .ok (.lastore, 1) := by decide +kernel
theorem dL_nextLine_9 : decode cL_nextLine 9 = .ok (.goto 9, 3) := by decide +kernel
theorem dL_nextLine_12 : decode cL_nextLine 12 = .ok (.astore_n 3, 1) := by decide +kernel
theorem dL_nextLine_13 : decode cL_nextLine 13 = .ok (.iconst 1, 1) := by decide +kernel
theorem dL_nextLine_14 : decode cL_nextLine 14 = .ok (.ireturn, 1) := by decide +kernel
theorem dL_nextLine_15 : decode cL_nextLine 15 = .ok (.astore_n 3, 1) := by decide +kernel
theorem dL_nextLine_16 : decode cL_nextLine 16 = .ok (.iconst 2, 1) := by decide +kernel
theorem dL_nextLine_17 : decode cL_nextLine 17 = .ok (.ireturn, 1) := by decide +kernel
theorem dL_nextLine_18 : decode cL_nextLine 18 = .ok (.iconst 0, 1) := by decide +kernel
theorem dL_nextLine_19 : decode cL_nextLine 19 = .ok (.ireturn, 1) := by decide +kernel
theorem ms_L_nextLineByPaths : MSW yL_nextLineByPaths cL_nextLineByPaths 4 [(0, 9, 12, 21), (0, 9, 15, 15)] 3 := ⟨lw_in6 105 (by decide +kernel) (by decide +kernel), lw_in6 104 (by decide +kernel) (by decide +kernel), in_L, rfl, ⟨(by decide +kernel), (by decide +kernel), (by decide +kernel)⟩⟩
theorem dL_nextLineByPaths_0 : decode cL_nextLineByPaths 0 = .ok (.aload_n 2, 1) := by decide +kernel
theorem dL_nextLineByPaths_1 : decode cL_nextLineByPaths 1 = .ok (.iconst 0, 1) := by decide +kernel
theorem dL_nextLineByPaths_2 : decode cL_nextLineByPaths 2 = .ok (.aload_n 0, 1) := by decide +kernel
theorem dL_nextLineByPaths_3 : decode cL_nextLineByPaths 3 = .ok (.iload_n 1, 1) := by decide +kernel
theorem dL_nextLineByPaths_4 : decode cL_nextLineByPaths 4 = .ok (.invokevirtual 89, 3) := by decide +kernel
theorem dL_nextLineByPaths_7 : decode cL_nextLineByPaths 7 = .ok (.i2l, 1) := by decide +kernel
theorem dL_nextLineByPaths_8 : decode cL_nextLineByPaths 8 = .ok (.lastore, 1) := by decide +kernel
theorem dL_nextLineByPaths_9 : decode cL_nextLineByPaths 9 = .ok (.goto 9, 3) := by decide +kernel
theorem dL_nextLineByPaths_12 : decode cL_nextLineByPaths 12 = .ok (.astore_n 3, 1) := by decide +kernel
theorem dL_nextLineByPaths_13 : decode cL_nextLineByPaths 13 = .ok (.iconst 1, 1) := by decide +kernel
theorem dL_nextLineByPaths_14 : decode cL_nextLineByPaths 14 = .ok (.ireturn, 1) := by decide +kernel
theorem dL_nextLineByPaths_15 : decode cL_nextLineByPaths 15 = .ok (.astore_n 3, 1) := by decide +kernel
theorem dL_nextLineByPaths_16 : decode cL_nextLineByPaths 16 = .ok (.iconst 2, 1) := by decide +kernel
theorem dL_nextLineByPaths_17 : decode cL_nextLineByPaths 17 = .ok (.ireturn, 1) := by decide +kernel
theorem dL_nextLineByPaths_18 : decode cL_nextLineByPaths 18 = .ok (.iconst 0, 1) := by decide +kernel
theorem dL_nextLineByPaths_19 : decode cL_nextLineByPaths 19 = .ok (.ireturn, 1) := by decide +kernel
theorem ms_L_pathSize : MSW yL_pathSize cL_pathSize 4 [(0, 9, 12, 21), (0, 9, 15, 15)] 3 := ⟨lw_in6 128 (by decide +kernel) (by decide +kernel), lw_in6 127 (by decide +kernel) (by decide +kernel), in_L, rfl, ⟨(by decide +kernel), (by decide +kernel), (by decide +kernel)⟩⟩
theorem dL_pathSize_0 : decode cL_pathSize 0 = .ok (.aload_n 2, 1) := by decide +kernel
theorem dL_pathSize_1 : decode cL_pathSize 1 = .ok (.iconst 0, 1) := by decide +kernel
theorem dL_pathSize_2 : decode cL_pathSize 2 = .ok (.aload_n 0, 1) := by decide +kernel
theorem dL_pathSize_3 : decode cL_pathSize 3 = .ok (.iload_n 1, 1) := by decide +kernel
theorem dL_pathSize_4 : decode cL_pathSize 4 = .ok (.invokevirtual 92, 3) := by decide +kernel
theorem dL_pathSize_7 : decode cL_pathSize 7 = .ok (.i2l, 1) := by decide +kernel
theorem dL_pathSize_8 : decode cL_pathSize 8 = .ok (.lastore, 1) := by decide +kernel
theorem dL_pathSize_9 : decode cL_pathSize 9 = .ok (.goto 9, 3) := by decide +kernel
theorem dL_pathSize_12 : decode cL_pathSize 12 = .ok (.astore_n 3, 1) := by decide +kernel
theorem dL_pathSize_13 : decode cL_pathSize 13 = .ok (.iconst 1, 1) := by decide +kernel
theorem dL_pathSize_14 : decode cL_pathSize 14 = .ok (.ireturn, 1) := by decide +kernel
theorem dL_pathSize_15 : decode cL_pathSize 15 = .ok (.astore_n 3, 1) := by decide +kernel
theorem dL_pathSize_16 : decode cL_pathSize 16 = .ok (.iconst 2, 1) := by decide +kernel
theorem dL_pathSize_17 : decode cL_pathSize 17 = .ok (.ireturn, 1) := by decide +kernel
theorem dL_pathSize_18 : decode cL_pathSize 18 = .ok (.iconst 0, 1) := by decide +kernel
theorem dL_pathSize_19 : decode cL_pathSize 19 = .ok (.ireturn, 1) := by decide +kernel
theorem ms_L_pathAt : MSW yL_pathAt cL_pathAt 5 [(0, 10, 13, 21), (0, 10, 17, 15), (0, 10, 21, 98)] 4 := ⟨lw_in6 135 (by decide +kernel) (by decide +kernel), lw_in6 134 (by decide +kernel) (by decide +kernel), in_L, rfl, ⟨(by decide +kernel), (by decide +kernel), (by decide +kernel)⟩⟩
theorem dL_pathAt_0 : decode cL_pathAt 0 = .ok (.aload_n 3, 1) := by decide +kernel
theorem dL_pathAt_1 : decode cL_pathAt 1 = .ok (.iconst 0, 1) := by decide +kernel
theorem dL_pathAt_2 : decode cL_pathAt 2 = .ok (.aload_n 0, 1) := by decide +kernel
theorem dL_pathAt_3 : decode cL_pathAt 3 = .ok (.iload_n 1, 1) := by decide +kernel
theorem dL_pathAt_4 : decode cL_pathAt 4 = .ok (.iload_n 2, 1) := by decide +kernel
theorem dL_pathAt_5 : decode cL_pathAt 5 = .ok (.invokevirtual 95, 3) := by decide +kernel
theorem dL_pathAt_8 : decode cL_pathAt 8 = .ok (.i2l, 1) := by decide +kernel
theorem dL_pathAt_9 : decode cL_pathAt 9 = .ok (.lastore, 1) := by decide +kernel
theorem dL_pathAt_10 : decode cL_pathAt 10 = .ok (.goto 15, 3) := by decide +kernel
theorem dL_pathAt_13 : decode cL_pathAt 13 = .ok (.astore 4, 2) := by decide +kernel
theorem dL_pathAt_15 : decode cL_pathAt 15 = .ok (.iconst 1, 1) := by decide +kernel
theorem dL_pathAt_16 : decode cL_pathAt 16 = .ok (.ireturn, 1) := by decide +kernel
theorem dL_pathAt_17 : decode cL_pathAt 17 = .ok (.astore 4, 2) := by decide +kernel
theorem dL_pathAt_19 : decode cL_pathAt 19 = .ok (.iconst 2, 1) := by decide +kernel
theorem dL_pathAt_20 : decode cL_pathAt 20 = .ok (.ireturn, 1) := by decide +kernel
theorem dL_pathAt_21 : decode cL_pathAt 21 = .ok (.astore 4, 2) := by decide +kernel
theorem dL_pathAt_23 : decode cL_pathAt 23 = .ok (.iconst 3, 1) := by decide +kernel
theorem dL_pathAt_24 : decode cL_pathAt 24 = .ok (.ireturn, 1) := by decide +kernel
theorem dL_pathAt_25 : decode cL_pathAt 25 = .ok (.iconst 0, 1) := by decide +kernel
theorem dL_pathAt_26 : decode cL_pathAt 26 = .ok (.ireturn, 1) := by decide +kernel
theorem ms_L_arrival : MSW yL_arrival cL_arrival 4 [(0, 9, 12, 21), (0, 9, 15, 15)] 3 := ⟨lw_in6 165 (by decide +kernel) (by decide +kernel), lw_in6 164 (by decide +kernel) (by decide +kernel), in_L, rfl, ⟨(by decide +kernel), (by decide +kernel), (by decide +kernel)⟩⟩
theorem dL_arrival_0 : decode cL_arrival 0 = .ok (.aload_n 2, 1) := by decide +kernel
theorem dL_arrival_1 : decode cL_arrival 1 = .ok (.iconst 0, 1) := by decide +kernel
theorem dL_arrival_2 : decode cL_arrival 2 = .ok (.aload_n 0, 1) := by decide +kernel
theorem dL_arrival_3 : decode cL_arrival 3 = .ok (.iload_n 1, 1) := by decide +kernel
theorem dL_arrival_4 : decode cL_arrival 4 = .ok (.invokevirtual 100, 3) := by decide +kernel
theorem dL_arrival_7 : decode cL_arrival 7 = .ok (.i2l, 1) := by decide +kernel
theorem dL_arrival_8 : decode cL_arrival 8 = .ok (.lastore, 1) := by decide +kernel
theorem dL_arrival_9 : decode cL_arrival 9 = .ok (.goto 9, 3) := by decide +kernel
theorem dL_arrival_12 : decode cL_arrival 12 = .ok (.astore_n 3, 1) := by decide +kernel
theorem dL_arrival_13 : decode cL_arrival 13 = .ok (.iconst 1, 1) := by decide +kernel
theorem dL_arrival_14 : decode cL_arrival 14 = .ok (.ireturn, 1) := by decide +kernel
theorem dL_arrival_15 : decode cL_arrival 15 = .ok (.astore_n 3, 1) := by decide +kernel
theorem dL_arrival_16 : decode cL_arrival 16 = .ok (.iconst 2, 1) := by decide +kernel
theorem dL_arrival_17 : decode cL_arrival 17 = .ok (.ireturn, 1) := by decide +kernel
theorem dL_arrival_18 : decode cL_arrival 18 = .ok (.iconst 0, 1) := by decide +kernel
theorem dL_arrival_19 : decode cL_arrival 19 = .ok (.ireturn, 1) := by decide +kernel
theorem ms_L_arrivalByPaths : MSW yL_arrivalByPaths cL_arrivalByPaths 4 [(0, 9, 12, 21), (0, 9, 15, 15)] 3 := ⟨lw_in6 172 (by decide +kernel) (by decide +kernel), lw_in6 171 (by decide +kernel) (by decide +kernel), in_L, rfl, ⟨(by decide +kernel), (by decide +kernel), (by decide +kernel)⟩⟩
theorem dL_arrivalByPaths_0 : decode cL_arrivalByPaths 0 = .ok (.aload_n 2, 1) := by decide +kernel
theorem dL_arrivalByPaths_1 : decode cL_arrivalByPaths 1 = .ok (.iconst 0, 1) := by decide +kernel
theorem dL_arrivalByPaths_2 : decode cL_arrivalByPaths 2 = .ok (.aload_n 0, 1) := by decide +kernel
theorem dL_arrivalByPaths_3 : decode cL_arrivalByPaths 3 = .ok (.iload_n 1, 1) := by decide +kernel
theorem dL_arrivalByPaths_4 : decode cL_arrivalByPaths 4 = .ok (.invokevirtual 103, 3) := by decide +kernel
theorem dL_arrivalByPaths_7 : decode cL_arrivalByPaths 7 = .ok (.i2l, 1) := by decide +kernel
theorem dL_arrivalByPaths_8 : decode cL_arrivalByPaths 8 = .ok (.lastore, 1) := by decide +kernel
theorem dL_arrivalByPaths_9 : decode cL_arrivalByPaths 9 = .ok (.goto 9, 3) := by decide +kernel
theorem dL_arrivalByPaths_12 : decode cL_arrivalByPaths 12 = .ok (.astore_n 3, 1) := by decide +kernel
theorem dL_arrivalByPaths_13 : decode cL_arrivalByPaths 13 = .ok (.iconst 1, 1) := by decide +kernel
theorem dL_arrivalByPaths_14 : decode cL_arrivalByPaths 14 = .ok (.ireturn, 1) := by decide +kernel
theorem dL_arrivalByPaths_15 : decode cL_arrivalByPaths 15 = .ok (.astore_n 3, 1) := by decide +kernel
theorem dL_arrivalByPaths_16 : decode cL_arrivalByPaths 16 = .ok (.iconst 2, 1) := by decide +kernel
theorem dL_arrivalByPaths_17 : decode cL_arrivalByPaths 17 = .ok (.ireturn, 1) := by decide +kernel
theorem dL_arrivalByPaths_18 : decode cL_arrivalByPaths 18 = .ok (.iconst 0, 1) := by decide +kernel
theorem dL_arrivalByPaths_19 : decode cL_arrivalByPaths 19 = .ok (.ireturn, 1) := by decide +kernel
theorem ms_L_arrivalBySimulation : MSW yL_arrivalBySimulation cL_arrivalBySimulation 4 [(0, 9, 12, 21), (0, 9, 15, 15)] 3 := ⟨lw_in6 179 (by decide +kernel) (by decide +kernel), lw_in6 178 (by decide +kernel) (by decide +kernel), in_L, rfl, ⟨(by decide +kernel), (by decide +kernel), (by decide +kernel)⟩⟩
theorem dL_arrivalBySimulation_0 : decode cL_arrivalBySimulation 0 = .ok (.aload_n 2, 1) := by decide +kernel
theorem dL_arrivalBySimulation_1 : decode cL_arrivalBySimulation 1 = .ok (.iconst 0, 1) := by decide +kernel
theorem dL_arrivalBySimulation_2 : decode cL_arrivalBySimulation 2 = .ok (.aload_n 0, 1) := by decide +kernel
theorem dL_arrivalBySimulation_3 : decode cL_arrivalBySimulation 3 = .ok (.iload_n 1, 1) := by decide +kernel
theorem dL_arrivalBySimulation_4 : decode cL_arrivalBySimulation 4 = .ok (.invokevirtual 106, 3) := by decide +kernel
theorem dL_arrivalBySimulation_7 : decode cL_arrivalBySimulation 7 = .ok (.i2l, 1) := by decide +kernel
theorem dL_arrivalBySimulation_8 : decode cL_arrivalBySimulation 8 = .ok (.lastore, 1) := by decide +kernel
theorem dL_arrivalBySimulation_9 : decode cL_arrivalBySimulation 9 = .ok (.goto 9, 3) := by decide +kernel
theorem dL_arrivalBySimulation_12 : decode cL_arrivalBySimulation 12 = .ok (.astore_n 3, 1) := by decide +kernel
theorem dL_arrivalBySimulation_13 : decode cL_arrivalBySimulation 13 = .ok (.iconst 1, 1) := by decide +kernel
theorem dL_arrivalBySimulation_14 : decode cL_arrivalBySimulation 14 = .ok (.ireturn, 1) := by decide +kernel
theorem dL_arrivalBySimulation_15 : decode cL_arrivalBySimulation 15 = .ok (.astore_n 3, 1) := by decide +kernel
theorem dL_arrivalBySimulation_16 : decode cL_arrivalBySimulation 16 = .ok (.iconst 2, 1) := by decide +kernel
theorem dL_arrivalBySimulation_17 : decode cL_arrivalBySimulation 17 = .ok (.ireturn, 1) := by decide +kernel
theorem dL_arrivalBySimulation_18 : decode cL_arrivalBySimulation 18 = .ok (.iconst 0, 1) := by decide +kernel
theorem dL_arrivalBySimulation_19 : decode cL_arrivalBySimulation 19 = .ok (.ireturn, 1) := by decide +kernel
theorem ms_L_waiting : MSW yL_waiting cL_waiting 4 [(0, 9, 12, 21)] 3 := ⟨lw_in6 211 (by decide +kernel) (by decide +kernel), lw_in6 210 (by decide +kernel) (by decide +kernel), in_L, rfl, ⟨(by decide +kernel), (by decide +kernel), (by decide +kernel)⟩⟩
theorem dL_waiting_0 : decode cL_waiting 0 = .ok (.aload_n 2, 1) := by decide +kernel
theorem dL_waiting_1 : decode cL_waiting 1 = .ok (.iconst 0, 1) := by decide +kernel
theorem dL_waiting_2 : decode cL_waiting 2 = .ok (.aload_n 0, 1) := by decide +kernel
theorem dL_waiting_3 : decode cL_waiting 3 = .ok (.iload_n 1, 1) := by decide +kernel
theorem dL_waiting_4 : decode cL_waiting 4 = .ok (.invokevirtual 109, 3) := by decide +kernel
theorem dL_waiting_7 : decode cL_waiting 7 = .ok (.i2l, 1) := by decide +kernel
theorem dL_waiting_8 : decode cL_waiting 8 = .ok (.lastore, 1) := by decide +kernel
theorem dL_waiting_9 : decode cL_waiting 9 = .ok (.goto 6, 3) := by decide +kernel
theorem dL_waiting_12 : decode cL_waiting 12 = .ok (.astore_n 3, 1) := by decide +kernel
theorem dL_waiting_13 : decode cL_waiting 13 = .ok (.iconst 1, 1) := by decide +kernel
theorem dL_waiting_14 : decode cL_waiting 14 = .ok (.ireturn, 1) := by decide +kernel
theorem dL_waiting_15 : decode cL_waiting 15 = .ok (.iconst 0, 1) := by decide +kernel
theorem dL_waiting_16 : decode cL_waiting 16 = .ok (.ireturn, 1) := by decide +kernel
theorem ms_L_waitingAt : MSW yL_waitingAt cL_waitingAt 5 [(0, 10, 13, 21), (0, 10, 17, 98)] 4 := ⟨lw_in6 218 (by decide +kernel) (by decide +kernel), lw_in6 217 (by decide +kernel) (by decide +kernel), in_L, rfl, ⟨(by decide +kernel), (by decide +kernel), (by decide +kernel)⟩⟩
theorem dL_waitingAt_0 : decode cL_waitingAt 0 = .ok (.aload_n 3, 1) := by decide +kernel
theorem dL_waitingAt_1 : decode cL_waitingAt 1 = .ok (.iconst 0, 1) := by decide +kernel
theorem dL_waitingAt_2 : decode cL_waitingAt 2 = .ok (.aload_n 0, 1) := by decide +kernel
theorem dL_waitingAt_3 : decode cL_waitingAt 3 = .ok (.iload_n 1, 1) := by decide +kernel
theorem dL_waitingAt_4 : decode cL_waitingAt 4 = .ok (.iload_n 2, 1) := by decide +kernel
theorem dL_waitingAt_5 : decode cL_waitingAt 5 = .ok (.invokevirtual 112, 3) := by decide +kernel
theorem dL_waitingAt_8 : decode cL_waitingAt 8 = .ok (.i2l, 1) := by decide +kernel
theorem dL_waitingAt_9 : decode cL_waitingAt 9 = .ok (.lastore, 1) := by decide +kernel
theorem dL_waitingAt_10 : decode cL_waitingAt 10 = .ok (.goto 11, 3) := by decide +kernel
theorem dL_waitingAt_13 : decode cL_waitingAt 13 = .ok (.astore 4, 2) := by decide +kernel
theorem dL_waitingAt_15 : decode cL_waitingAt 15 = .ok (.iconst 1, 1) := by decide +kernel
theorem dL_waitingAt_16 : decode cL_waitingAt 16 = .ok (.ireturn, 1) := by decide +kernel
theorem dL_waitingAt_17 : decode cL_waitingAt 17 = .ok (.astore 4, 2) := by decide +kernel
theorem dL_waitingAt_19 : decode cL_waitingAt 19 = .ok (.iconst 2, 1) := by decide +kernel
theorem dL_waitingAt_20 : decode cL_waitingAt 20 = .ok (.ireturn, 1) := by decide +kernel
theorem dL_waitingAt_21 : decode cL_waitingAt 21 = .ok (.iconst 0, 1) := by decide +kernel
theorem dL_waitingAt_22 : decode cL_waitingAt 22 = .ok (.ireturn, 1) := by decide +kernel
theorem ms_L_bagsNeeded : MSW yL_bagsNeeded cL_bagsNeeded 4 [(0, 9, 12, 21)] 3 := ⟨lw_in6 226 (by decide +kernel) (by decide +kernel), lw_in6 225 (by decide +kernel) (by decide +kernel), in_L, rfl, ⟨(by decide +kernel), (by decide +kernel), (by decide +kernel)⟩⟩
theorem dL_bagsNeeded_0 : decode cL_bagsNeeded 0 = .ok (.aload_n 2, 1) := by decide +kernel
theorem dL_bagsNeeded_1 : decode cL_bagsNeeded 1 = .ok (.iconst 0, 1) := by decide +kernel
theorem dL_bagsNeeded_2 : decode cL_bagsNeeded 2 = .ok (.aload_n 0, 1) := by decide +kernel
theorem dL_bagsNeeded_3 : decode cL_bagsNeeded 3 = .ok (.iload_n 1, 1) := by decide +kernel
theorem dL_bagsNeeded_4 : decode cL_bagsNeeded 4 = .ok (.invokevirtual 115, 3) := by decide +kernel
theorem dL_bagsNeeded_7 : decode cL_bagsNeeded 7 = .ok (.i2l, 1) := by decide +kernel
theorem dL_bagsNeeded_8 : decode cL_bagsNeeded 8 = .ok (.lastore, 1) := by decide +kernel
theorem dL_bagsNeeded_9 : decode cL_bagsNeeded 9 = .ok (.goto 6, 3) := by decide +kernel
theorem dL_bagsNeeded_12 : decode cL_bagsNeeded 12 = .ok (.astore_n 3, 1) := by decide +kernel
theorem dL_bagsNeeded_13 : decode cL_bagsNeeded 13 = .ok (.iconst 1, 1) := by decide +kernel
theorem dL_bagsNeeded_14 : decode cL_bagsNeeded 14 = .ok (.ireturn, 1) := by decide +kernel
theorem dL_bagsNeeded_15 : decode cL_bagsNeeded 15 = .ok (.iconst 0, 1) := by decide +kernel
theorem dL_bagsNeeded_16 : decode cL_bagsNeeded 16 = .ok (.ireturn, 1) := by decide +kernel
theorem ms_L_bagsAtLeast : MSW yL_bagsAtLeast cL_bagsAtLeast 4 [(0, 9, 12, 21)] 3 := ⟨lw_in6 233 (by decide +kernel) (by decide +kernel), lw_in6 232 (by decide +kernel) (by decide +kernel), in_L, rfl, ⟨(by decide +kernel), (by decide +kernel), (by decide +kernel)⟩⟩
theorem dL_bagsAtLeast_0 : decode cL_bagsAtLeast 0 = .ok (.aload_n 2, 1) := by decide +kernel
theorem dL_bagsAtLeast_1 : decode cL_bagsAtLeast 1 = .ok (.iconst 0, 1) := by decide +kernel
theorem dL_bagsAtLeast_2 : decode cL_bagsAtLeast 2 = .ok (.aload_n 0, 1) := by decide +kernel
theorem dL_bagsAtLeast_3 : decode cL_bagsAtLeast 3 = .ok (.iload_n 1, 1) := by decide +kernel
theorem dL_bagsAtLeast_4 : decode cL_bagsAtLeast 4 = .ok (.invokevirtual 118, 3) := by decide +kernel
theorem dL_bagsAtLeast_7 : decode cL_bagsAtLeast 7 = .ok (.i2l, 1) := by decide +kernel
theorem dL_bagsAtLeast_8 : decode cL_bagsAtLeast 8 = .ok (.lastore, 1) := by decide +kernel
theorem dL_bagsAtLeast_9 : decode cL_bagsAtLeast 9 = .ok (.goto 6, 3) := by decide +kernel
theorem dL_bagsAtLeast_12 : decode cL_bagsAtLeast 12 = .ok (.astore_n 3, 1) := by decide +kernel
theorem dL_bagsAtLeast_13 : decode cL_bagsAtLeast 13 = .ok (.iconst 1, 1) := by decide +kernel
theorem dL_bagsAtLeast_14 : decode cL_bagsAtLeast 14 = .ok (.ireturn, 1) := by decide +kernel
theorem dL_bagsAtLeast_15 : decode cL_bagsAtLeast 15 = .ok (.iconst 0, 1) := by decide +kernel
theorem dL_bagsAtLeast_16 : decode cL_bagsAtLeast 16 = .ok (.ireturn, 1) := by decide +kernel
theorem ms_L_bags : MSW yL_bags cL_bags 4 [(0, 9, 12, 21)] 3 := ⟨lw_in7 4 (by decide +kernel) (by decide +kernel), lw_in7 3 (by decide +kernel) (by decide +kernel), in_L, rfl, ⟨(by decide +kernel), (by decide +kernel), (by decide +kernel)⟩⟩
theorem dL_bags_0 : decode cL_bags 0 = .ok (.aload_n 2, 1) := by decide +kernel
theorem dL_bags_1 : decode cL_bags 1 = .ok (.iconst 0, 1) := by decide +kernel
theorem dL_bags_2 : decode cL_bags 2 = .ok (.aload_n 0, 1) := by decide +kernel
theorem dL_bags_3 : decode cL_bags 3 = .ok (.iload_n 1, 1) := by decide +kernel
theorem dL_bags_4 : decode cL_bags 4 = .ok (.invokevirtual 121, 3) := by decide +kernel
theorem dL_bags_7 : decode cL_bags 7 = .ok (.i2l, 1) := by decide +kernel
theorem dL_bags_8 : decode cL_bags 8 = .ok (.lastore, 1) := by decide +kernel
theorem dL_bags_9 : decode cL_bags 9 = .ok (.goto 6, 3) := by decide +kernel
theorem dL_bags_12 : decode cL_bags 12 = .ok (.astore_n 3, 1) := by decide +kernel
theorem dL_bags_13 : decode cL_bags 13 = .ok (.iconst 1, 1) := by decide +kernel
theorem dL_bags_14 : decode cL_bags 14 = .ok (.ireturn, 1) := by decide +kernel
theorem dL_bags_15 : decode cL_bags 15 = .ok (.iconst 0, 1) := by decide +kernel
theorem dL_bags_16 : decode cL_bags 16 = .ok (.ireturn, 1) := by decide +kernel
theorem ms_L_bagVolume : MSW yL_bagVolume cL_bagVolume 5 [(0, 10, 13, 21), (0, 10, 17, 98)] 4 := ⟨lw_in7 11 (by decide +kernel) (by decide +kernel), lw_in7 10 (by decide +kernel) (by decide +kernel), in_L, rfl, ⟨(by decide +kernel), (by decide +kernel), (by decide +kernel)⟩⟩
theorem dL_bagVolume_0 : decode cL_bagVolume 0 = .ok (.aload_n 3, 1) := by decide +kernel
theorem dL_bagVolume_1 : decode cL_bagVolume 1 = .ok (.iconst 0, 1) := by decide +kernel
theorem dL_bagVolume_2 : decode cL_bagVolume 2 = .ok (.aload_n 0, 1) := by decide +kernel
theorem dL_bagVolume_3 : decode cL_bagVolume 3 = .ok (.iload_n 1, 1) := by decide +kernel
theorem dL_bagVolume_4 : decode cL_bagVolume 4 = .ok (.iload_n 2, 1) := by decide +kernel
theorem dL_bagVolume_5 : decode cL_bagVolume 5 = .ok (.invokevirtual 124, 3) := by decide +kernel
theorem dL_bagVolume_8 : decode cL_bagVolume 8 = .ok (.i2l, 1) := by decide +kernel
theorem dL_bagVolume_9 : decode cL_bagVolume 9 = .ok (.lastore, 1) := by decide +kernel
theorem dL_bagVolume_10 : decode cL_bagVolume 10 = .ok (.goto 11, 3) := by decide +kernel
theorem dL_bagVolume_13 : decode cL_bagVolume 13 = .ok (.astore 4, 2) := by decide +kernel
theorem dL_bagVolume_15 : decode cL_bagVolume 15 = .ok (.iconst 1, 1) := by decide +kernel
theorem dL_bagVolume_16 : decode cL_bagVolume 16 = .ok (.ireturn, 1) := by decide +kernel
theorem dL_bagVolume_17 : decode cL_bagVolume 17 = .ok (.astore 4, 2) := by decide +kernel
theorem dL_bagVolume_19 : decode cL_bagVolume 19 = .ok (.iconst 2, 1) := by decide +kernel
theorem dL_bagVolume_20 : decode cL_bagVolume 20 = .ok (.ireturn, 1) := by decide +kernel
theorem dL_bagVolume_21 : decode cL_bagVolume 21 = .ok (.iconst 0, 1) := by decide +kernel
theorem dL_bagVolume_22 : decode cL_bagVolume 22 = .ok (.ireturn, 1) := by decide +kernel
theorem ms_L_riding : MSW yL_riding cL_riding 4 [(0, 9, 12, 21)] 3 := ⟨lw_in7 28 (by decide +kernel) (by decide +kernel), lw_in7 27 (by decide +kernel) (by decide +kernel), in_L, rfl, ⟨(by decide +kernel), (by decide +kernel), (by decide +kernel)⟩⟩
theorem dL_riding_0 : decode cL_riding 0 = .ok (.aload_n 2, 1) := by decide +kernel
theorem dL_riding_1 : decode cL_riding 1 = .ok (.iconst 0, 1) := by decide +kernel
theorem dL_riding_2 : decode cL_riding 2 = .ok (.aload_n 0, 1) := by decide +kernel
theorem dL_riding_3 : decode cL_riding 3 = .ok (.iload_n 1, 1) := by decide +kernel
theorem dL_riding_4 : decode cL_riding 4 = .ok (.invokevirtual 127, 3) := by decide +kernel
theorem dL_riding_7 : decode cL_riding 7 = .ok (.i2l, 1) := by decide +kernel
theorem dL_riding_8 : decode cL_riding 8 = .ok (.lastore, 1) := by decide +kernel
theorem dL_riding_9 : decode cL_riding 9 = .ok (.goto 6, 3) := by decide +kernel
theorem dL_riding_12 : decode cL_riding 12 = .ok (.astore_n 3, 1) := by decide +kernel
theorem dL_riding_13 : decode cL_riding 13 = .ok (.iconst 1, 1) := by decide +kernel
theorem dL_riding_14 : decode cL_riding 14 = .ok (.ireturn, 1) := by decide +kernel
theorem dL_riding_15 : decode cL_riding 15 = .ok (.iconst 0, 1) := by decide +kernel
theorem dL_riding_16 : decode cL_riding 16 = .ok (.ireturn, 1) := by decide +kernel
theorem ms_L_events : MSW yL_events cL_events 4 [(0, 9, 12, 21)] 3 := ⟨lw_in7 35 (by decide +kernel) (by decide +kernel), lw_in7 34 (by decide +kernel) (by decide +kernel), in_L, rfl, ⟨(by decide +kernel), (by decide +kernel), (by decide +kernel)⟩⟩
theorem dL_events_0 : decode cL_events 0 = .ok (.aload_n 2, 1) := by decide +kernel
theorem dL_events_1 : decode cL_events 1 = .ok (.iconst 0, 1) := by decide +kernel
theorem dL_events_2 : decode cL_events 2 = .ok (.aload_n 0, 1) := by decide +kernel
theorem dL_events_3 : decode cL_events 3 = .ok (.iload_n 1, 1) := by decide +kernel
theorem dL_events_4 : decode cL_events 4 = .ok (.invokevirtual 130, 3) := by decide +kernel
theorem dL_events_7 : decode cL_events 7 = .ok (.i2l, 1) := by decide +kernel
theorem dL_events_8 : decode cL_events 8 = .ok (.lastore, 1) := by decide +kernel
theorem dL_events_9 : decode cL_events 9 = .ok (.goto 6, 3) := by decide +kernel
theorem dL_events_12 : decode cL_events 12 = .ok (.astore_n 3, 1) := by decide +kernel
theorem dL_events_13 : decode cL_events 13 = .ok (.iconst 1, 1) := by decide +kernel
theorem dL_events_14 : decode cL_events 14 = .ok (.ireturn, 1) := by decide +kernel
theorem dL_events_15 : decode cL_events 15 = .ok (.iconst 0, 1) := by decide +kernel
theorem dL_events_16 : decode cL_events 16 = .ok (.ireturn, 1) := by decide +kernel
theorem ms_L_eventKind : MSW yL_eventKind cL_eventKind 5 [(0, 10, 13, 21), (0, 10, 17, 98)] 4 := ⟨lw_in7 42 (by decide +kernel) (by decide +kernel), lw_in7 41 (by decide +kernel) (by decide +kernel), in_L, rfl, ⟨(by decide +kernel), (by decide +kernel), (by decide +kernel)⟩⟩
theorem dL_eventKind_0 : decode cL_eventKind 0 = .ok (.aload_n 3, 1) := by decide +kernel
theorem dL_eventKind_1 : decode cL_eventKind 1 = .ok (.iconst 0, 1) := by decide +kernel
theorem dL_eventKind_2 : decode cL_eventKind 2 = .ok (.aload_n 0, 1) := by decide +kernel
theorem dL_eventKind_3 : decode cL_eventKind 3 = .ok (.iload_n 1, 1) := by decide +kernel
theorem dL_eventKind_4 : decode cL_eventKind 4 = .ok (.iload_n 2, 1) := by decide +kernel
theorem dL_eventKind_5 : decode cL_eventKind 5 = .ok (.invokevirtual 133, 3) := by decide +kernel
theorem dL_eventKind_8 : decode cL_eventKind 8 = .ok (.i2l, 1) := by decide +kernel
theorem dL_eventKind_9 : decode cL_eventKind 9 = .ok (.lastore, 1) := by decide +kernel
theorem dL_eventKind_10 : decode cL_eventKind 10 = .ok (.goto 11, 3) := by decide +kernel
theorem dL_eventKind_13 : decode cL_eventKind 13 = .ok (.astore 4, 2) := by decide +kernel
theorem dL_eventKind_15 : decode cL_eventKind 15 = .ok (.iconst 1, 1) := by decide +kernel
theorem dL_eventKind_16 : decode cL_eventKind 16 = .ok (.ireturn, 1) := by decide +kernel
theorem dL_eventKind_17 : decode cL_eventKind 17 = .ok (.astore 4, 2) := by decide +kernel
theorem dL_eventKind_19 : decode cL_eventKind 19 = .ok (.iconst 2, 1) := by decide +kernel
theorem dL_eventKind_20 : decode cL_eventKind 20 = .ok (.ireturn, 1) := by decide +kernel
theorem dL_eventKind_21 : decode cL_eventKind 21 = .ok (.iconst 0, 1) := by decide +kernel
theorem dL_eventKind_22 : decode cL_eventKind 22 = .ok (.ireturn, 1) := by decide +kernel
theorem ms_L_eventMinute : MSW yL_eventMinute cL_eventMinute 5 [(0, 10, 13, 21), (0, 10, 17, 98)] 4 := ⟨lw_in7 55 (by decide +kernel) (by decide +kernel), lw_in7 54 (by decide +kernel) (by decide +kernel), in_L, rfl, ⟨(by decide +kernel), (by decide +kernel), (by decide +kernel)⟩⟩
theorem dL_eventMinute_0 : decode cL_eventMinute 0 = .ok (.aload_n 3, 1) := by decide +kernel
theorem dL_eventMinute_1 : decode cL_eventMinute 1 = .ok (.iconst 0, 1) := by decide +kernel
theorem dL_eventMinute_2 : decode cL_eventMinute 2 = .ok (.aload_n 0, 1) := by decide +kernel
theorem dL_eventMinute_3 : decode cL_eventMinute 3 = .ok (.iload_n 1, 1) := by decide +kernel
theorem dL_eventMinute_4 : decode cL_eventMinute 4 = .ok (.iload_n 2, 1) := by decide +kernel
theorem dL_eventMinute_5 : decode cL_eventMinute 5 = .ok (.invokevirtual 136, 3) := by decide +kernel
theorem dL_eventMinute_8 : decode cL_eventMinute 8 = .ok (.i2l, 1) := by decide +kernel
theorem dL_eventMinute_9 : decode cL_eventMinute 9 = .ok (.lastore, 1) := by decide +kernel
theorem dL_eventMinute_10 : decode cL_eventMinute 10 = .ok (.goto 11, 3) := by decide +kernel
theorem dL_eventMinute_13 : decode cL_eventMinute 13 = .ok (.astore 4, 2) := by decide +kernel
theorem dL_eventMinute_15 : decode cL_eventMinute 15 = .ok (.iconst 1, 1) := by decide +kernel
theorem dL_eventMinute_16 : decode cL_eventMinute 16 = .ok (.ireturn, 1) := by decide +kernel
theorem dL_eventMinute_17 : decode cL_eventMinute 17 = .ok (.astore 4, 2) := by decide +kernel
theorem dL_eventMinute_19 : decode cL_eventMinute 19 = .ok (.iconst 2, 1) := by decide +kernel
theorem dL_eventMinute_20 : decode cL_eventMinute 20 = .ok (.ireturn, 1) := by decide +kernel
theorem dL_eventMinute_21 : decode cL_eventMinute 21 = .ok (.iconst 0, 1) := by decide +kernel
theorem dL_eventMinute_22 : decode cL_eventMinute 22 = .ok (.ireturn, 1) := by decide +kernel
theorem ms_L_eventHub : MSW yL_eventHub cL_eventHub 5 [(0, 10, 13, 21), (0, 10, 17, 98)] 4 := ⟨lw_in7 62 (by decide +kernel) (by decide +kernel), lw_in7 61 (by decide +kernel) (by decide +kernel), in_L, rfl, ⟨(by decide +kernel), (by decide +kernel), (by decide +kernel)⟩⟩
theorem dL_eventHub_0 : decode cL_eventHub 0 = .ok (.aload_n 3, 1) := by decide +kernel
theorem dL_eventHub_1 : decode cL_eventHub 1 = .ok (.iconst 0, 1) := by decide +kernel
theorem dL_eventHub_2 : decode cL_eventHub 2 = .ok (.aload_n 0, 1) := by decide +kernel
theorem dL_eventHub_3 : decode cL_eventHub 3 = .ok (.iload_n 1, 1) := by decide +kernel
theorem dL_eventHub_4 : decode cL_eventHub 4 = .ok (.iload_n 2, 1) := by decide +kernel
theorem dL_eventHub_5 : decode cL_eventHub 5 = .ok (.invokevirtual 139, 3) := by decide +kernel
theorem dL_eventHub_8 : decode cL_eventHub 8 = .ok (.i2l, 1) := by decide +kernel
theorem dL_eventHub_9 : decode cL_eventHub 9 = .ok (.lastore, 1) := by decide +kernel
theorem dL_eventHub_10 : decode cL_eventHub 10 = .ok (.goto 11, 3) := by decide +kernel
theorem dL_eventHub_13 : decode cL_eventHub 13 = .ok (.astore 4, 2) := by decide +kernel
theorem dL_eventHub_15 : decode cL_eventHub 15 = .ok (.iconst 1, 1) := by decide +kernel
theorem dL_eventHub_16 : decode cL_eventHub 16 = .ok (.ireturn, 1) := by decide +kernel
theorem dL_eventHub_17 : decode cL_eventHub 17 = .ok (.astore 4, 2) := by decide +kernel
theorem dL_eventHub_19 : decode cL_eventHub 19 = .ok (.iconst 2, 1) := by decide +kernel
theorem dL_eventHub_20 : decode cL_eventHub 20 = .ok (.ireturn, 1) := by decide +kernel
theorem dL_eventHub_21 : decode cL_eventHub 21 = .ok (.iconst 0, 1) := by decide +kernel
theorem dL_eventHub_22 : decode cL_eventHub 22 = .ok (.ireturn, 1) := by decide +kernel
theorem ms_L_trace : MSW yL_trace cL_trace 4 [(0, 9, 12, 21)] 3 := ⟨lw_in7 69 (by decide +kernel) (by decide +kernel), lw_in7 68 (by decide +kernel) (by decide +kernel), in_L, rfl, ⟨(by decide +kernel), (by decide +kernel), (by decide +kernel)⟩⟩
theorem dL_trace_0 : decode cL_trace 0 = .ok (.aload_n 2, 1) := by decide +kernel
theorem dL_trace_1 : decode cL_trace 1 = .ok (.iconst 0, 1) := by decide +kernel
theorem dL_trace_2 : decode cL_trace 2 = .ok (.aload_n 0, 1) := by decide +kernel
theorem dL_trace_3 : decode cL_trace 3 = .ok (.iload_n 1, 1) := by decide +kernel
theorem dL_trace_4 : decode cL_trace 4 = .ok (.invokevirtual 142, 3) := by decide +kernel
theorem dL_trace_7 : decode cL_trace 7 = .ok (.i2l, 1) := by decide +kernel
theorem dL_trace_8 : decode cL_trace 8 = .ok (.lastore, 1) := by decide +kernel
theorem dL_trace_9 : decode cL_trace 9 = .ok (.goto 6, 3) := by decide +kernel
theorem dL_trace_12 : decode cL_trace 12 = .ok (.astore_n 3, 1) := by decide +kernel
theorem dL_trace_13 : decode cL_trace 13 = .ok (.iconst 1, 1) := by decide +kernel
theorem dL_trace_14 : decode cL_trace 14 = .ok (.ireturn, 1) := by decide +kernel
theorem dL_trace_15 : decode cL_trace 15 = .ok (.iconst 0, 1) := by decide +kernel
theorem dL_trace_16 : decode cL_trace 16 = .ok (.ireturn, 1) := by decide +kernel
theorem ms_L_lateShare : MSW yL_lateShare cL_lateShare 3 [(0, 8, 11, 149)] 2 := ⟨lw_in7 76 (by decide +kernel) (by decide +kernel), lw_in7 75 (by decide +kernel) (by decide +kernel), in_L, rfl, ⟨(by decide +kernel), (by decide +kernel), (by decide +kernel)⟩⟩
theorem dL_lateShare_0 : decode cL_lateShare 0 = .ok (.aload_n 1, 1) := by decide +kernel
theorem dL_lateShare_1 : decode cL_lateShare 1 = .ok (.iconst 0, 1) := by decide +kernel
theorem dL_lateShare_2 : decode cL_lateShare 2 = .ok (.aload_n 0, 1) := by decide +kernel
theorem dL_lateShare_3 : decode cL_lateShare 3 = .ok (.invokevirtual 145, 3) := by decide +kernel
theorem dL_lateShare_6 : decode cL_lateShare 6 = .ok (.f2d, 1) := by decide +kernel
theorem dL_lateShare_7 : decode cL_lateShare 7 = .ok (.dastore, 1) := by decide +kernel
theorem dL_lateShare_8 : decode cL_lateShare 8 = .ok (.goto 6, 3) := by decide +kernel
theorem dL_lateShare_11 : decode cL_lateShare 11 = .ok (.astore_n 2, 1) := by decide +kernel
theorem dL_lateShare_12 : decode cL_lateShare 12 = .ok (.iconst 1, 1) := by decide +kernel
theorem dL_lateShare_13 : decode cL_lateShare 13 = .ok (.ireturn, 1) := by decide +kernel
theorem dL_lateShare_14 : decode cL_lateShare 14 = .ok (.iconst 0, 1) := by decide +kernel
theorem dL_lateShare_15 : decode cL_lateShare 15 = .ok (.ireturn, 1) := by decide +kernel
theorem ms_L_meanTime : MSW yL_meanTime cL_meanTime 3 [(0, 7, 10, 149)] 2 := ⟨lw_in7 100 (by decide +kernel) (by decide +kernel), lw_in7 99 (by decide +kernel) (by decide +kernel), in_L, rfl, ⟨(by decide +kernel), (by decide +kernel), (by decide +kernel)⟩⟩
theorem dL_meanTime_0 : decode cL_meanTime 0 = .ok (.aload_n 1, 1) := by decide +kernel
theorem dL_meanTime_1 : decode cL_meanTime 1 = .ok (.iconst 0, 1) := by decide +kernel
theorem dL_meanTime_2 : decode cL_meanTime 2 = .ok (.aload_n 0, 1) := by decide +kernel
theorem dL_meanTime_3 : decode cL_meanTime 3 = .ok (.invokevirtual 151, 3) := by decide +kernel
theorem dL_meanTime_6 : decode cL_meanTime 6 = .ok (.dastore, 1) := by decide +kernel
theorem dL_meanTime_7 : decode cL_meanTime 7 = .ok (.goto 6, 3) := by decide +kernel
theorem dL_meanTime_10 : decode cL_meanTime 10 = .ok (.astore_n 2, 1) := by decide +kernel
theorem dL_meanTime_11 : decode cL_meanTime 11 = .ok (.iconst 1, 1) := by decide +kernel
theorem dL_meanTime_12 : decode cL_meanTime 12 = .ok (.ireturn, 1) := by decide +kernel
theorem dL_meanTime_13 : decode cL_meanTime 13 = .ok (.iconst 0, 1) := by decide +kernel
theorem dL_meanTime_14 : decode cL_meanTime 14 = .ok (.ireturn, 1) := by decide +kernel
