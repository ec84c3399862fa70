/-! the law: decode rows 1 -/
theorem dL_cell_0 : decode cL_cell 0 = .ok (.ldc 7, 2) := by decide +kernel
theorem dL_cell_2 : decode cL_cell 2 = .ok (.iload_n 1, 1) := by decide +kernel
theorem dL_cell_3 : decode cL_cell 3 = .ok (.aload_n 0, 1) := by decide +kernel
theorem dL_cell_4 : decode cL_cell 4 = .ok (.arraylength, 1) := by decide +kernel
theorem dL_cell_5 : decode cL_cell 5 = .ok (.if_icmp .ge 9, 3) := by decide +kernel
theorem dL_cell_8 : decode cL_cell 8 = .ok (.aload_n 0, 1) := by decide +kernel
theorem dL_cell_9 : decode cL_cell 9 = .ok (.iload_n 1, 1) := by decide +kernel
theorem dL_cell_10 : decode cL_cell 10 = .ok (.iaload, 1) := by decide +kernel
theorem dL_cell_11 : decode cL_cell 11 = .ok (.goto 4, 3) := by decide +kernel
theorem dL_cell_14 : decode cL_cell 14 = .ok (.iconst 0, 1) := by decide +kernel
theorem dL_cell_15 : decode cL_cell 15 = .ok (.sipush 1009, 3) := by decide +kernel
theorem dL_cell_18 : decode cL_cell 18 = .ok (.iload_n 1, 1) := by decide +kernel
theorem dL_cell_19 : decode cL_cell 19 = .ok (.imul, 1) := by decide +kernel
theorem dL_cell_20 : decode cL_cell 20 = .ok (.iadd, 1) := by decide +kernel
theorem dL_cell_21 : decode cL_cell 21 = .ok (.imul, 1) := by decide +kernel
theorem dL_cell_22 : decode cL_cell 22 = .ok (.sipush 12345, 3) := by decide +kernel
theorem dL_cell_25 : decode cL_cell 25 = .ok (.iadd, 1) := by decide +kernel
theorem dL_cell_26 : decode cL_cell 26 = .ok (.istore_n 2, 1) := by decide +kernel
theorem dL_cell_27 : decode cL_cell 27 = .ok (.iload_n 2, 1) := by decide +kernel
theorem dL_cell_28 : decode cL_cell 28 = .ok (.iload_n 2, 1) := by decide +kernel
theorem dL_cell_29 : decode cL_cell 29 = .ok (.bipush 13, 2) := by decide +kernel
theorem dL_cell_31 : decode cL_cell 31 = .ok (.iushr, 1) := by decide +kernel
theorem dL_cell_32 : decode cL_cell 32 = .ok (.ixor, 1) := by decide +kernel
theorem dL_cell_33 : decode cL_cell 33 = .ok (.ldc 8, 2) := by decide +kernel
theorem dL_cell_35 : decode cL_cell 35 = .ok (.imul, 1) := by decide +kernel
theorem dL_cell_36 : decode cL_cell 36 = .ok (.istore_n 2, 1) := by decide +kernel
theorem dL_cell_37 : decode cL_cell 37 = .ok (.iload_n 2, 1) := by decide +kernel
theorem dL_cell_38 : decode cL_cell 38 = .ok (.iload_n 2, 1) := by decide +kernel
theorem dL_cell_39 : decode cL_cell 39 = .ok (.bipush 16, 2) := by decide +kernel
theorem dL_cell_41 : decode cL_cell 41 = .ok (.iushr, 1) := by decide +kernel
theorem dL_cell_42 : decode cL_cell 42 = .ok (.ixor, 1) := by decide +kernel
theorem dL_cell_43 : decode cL_cell 43 = .ok (.ireturn, 1) := by decide +kernel
theorem dL_openHub_0 : decode cL_openHub 0 = .ok (.aload_n 0, 1) := by decide +kernel
theorem dL_openHub_1 : decode cL_openHub 1 = .ok (.iload_n 1, 1) := by decide +kernel
theorem dL_openHub_2 : decode cL_openHub 2 = .ok (.iload_n 2, 1) := by decide +kernel
theorem dL_openHub_3 : decode cL_openHub 3 = .ok (.invokevirtual 9, 3) := by decide +kernel
theorem dL_openHub_6 : decode cL_openHub 6 = .ok (.ireturn, 1) := by decide +kernel
theorem dL_openHub_7 : decode cL_openHub 7 = .ok (.astore_n 3, 1) := by decide +kernel
theorem dL_openHub_8 : decode cL_openHub 8 = .ok (.ldc 17, 2) := by decide +kernel
theorem dL_openHub_10 : decode cL_openHub 10 = .ok (.ireturn, 1) := by decide +kernel
theorem dL_openHub_11 : decode cL_openHub 11 = .ok (.astore_n 3, 1) := by decide +kernel
theorem dL_openHub_12 : decode cL_openHub 12 = .ok (.ldc 20, 2) := by decide +kernel
theorem dL_openHub_14 : decode cL_openHub 14 = .ok (.ireturn, 1) := by decide +kernel
theorem dL_addLine_0 : decode cL_addLine 0 = .ok (.aload_n 0, 1) := by decide +kernel
theorem dL_addLine_1 : decode cL_addLine 1 = .ok (.iload_n 1, 1) := by decide +kernel
theorem dL_addLine_2 : decode cL_addLine 2 = .ok (.iload_n 2, 1) := by decide +kernel
theorem dL_addLine_3 : decode cL_addLine 3 = .ok (.iload_n 3, 1) := by decide +kernel
theorem dL_addLine_4 : decode cL_addLine 4 = .ok (.iload 4, 2) := by decide +kernel
theorem dL_addLine_6 : decode cL_addLine 6 = .ok (.iload 5, 2) := by decide +kernel
theorem dL_addLine_8 : decode cL_addLine 8 = .ok (.iload 6, 2) := by decide +kernel
theorem dL_addLine_10 : decode cL_addLine 10 = .ok (.invokevirtual 21, 3) := by decide +kernel
theorem dL_addLine_13 : decode cL_addLine 13 = .ok (.ireturn, 1) := by decide +kernel
theorem dL_addLine_14 : decode cL_addLine 14 = .ok (.astore 7, 2) := by decide +kernel
theorem dL_addLine_16 : decode cL_addLine 16 = .ok (.ldc 17, 2) := by decide +kernel
theorem dL_addLine_18 : decode cL_addLine 18 = .ok (.ireturn, 1) := by decide +kernel
theorem dL_addLine_19 : decode cL_addLine 19 = .ok (.astore 7, 2) := by decide +kernel
theorem dL_addLine_21 : decode cL_addLine 21 = .ok (.ldc 20, 2) := by decide +kernel
theorem dL_addLine_23 : decode cL_addLine 23 = .ok (.ireturn, 1) := by decide +kernel
theorem dL_addLine_24 : decode cL_addLine 24 = .ok (.astore 7, 2) := by decide +kernel
theorem dL_addLine_26 : decode cL_addLine 26 = .ok (.ldc 27, 2) := by decide +kernel
theorem dL_addLine_28 : decode cL_addLine 28 = .ok (.ireturn, 1) := by decide +kernel
theorem dL_closeLine_0 : decode cL_closeLine 0 = .ok (.aload_n 0, 1) := by decide +kernel
theorem dL_closeLine_1 : decode cL_closeLine 1 = .ok (.iload_n 1, 1) := by decide +kernel
theorem dL_closeLine_2 : decode cL_closeLine 2 = .ok (.invokevirtual 28, 3) := by decide +kernel
theorem dL_closeLine_5 : decode cL_closeLine 5 = .ok (.ireturn, 1) := by decide +kernel
theorem dL_closeLine_6 : decode cL_closeLine 6 = .ok (.astore_n 2, 1) := by decide +kernel
theorem dL_closeLine_7 : decode cL_closeLine 7 = .ok (.ldc 17, 2) := by decide +kernel
theorem dL_closeLine_9 : decode cL_closeLine 9 = .ok (.ireturn, 1) := by decide +kernel
theorem dL_closeLine_10 : decode cL_closeLine 10 = .ok (.astore_n 2, 1) := by decide +kernel
theorem dL_closeLine_11 : decode cL_closeLine 11 = .ok (.ldc 20, 2) := by decide +kernel
theorem dL_closeLine_13 : decode cL_closeLine 13 = .ok (.ireturn, 1) := by decide +kernel
theorem dL_accept_0 : decode cL_accept 0 = .ok (.aload_n 0, 1) := by decide +kernel
theorem dL_accept_1 : decode cL_accept 1 = .ok (.iload_n 1, 1) := by decide +kernel
theorem dL_accept_2 : decode cL_accept 2 = .ok (.iload_n 2, 1) := by decide +kernel
theorem dL_accept_3 : decode cL_accept 3 = .ok (.iload_n 3, 1) := by decide +kernel
theorem dL_accept_4 : decode cL_accept 4 = .ok (.iload 4, 2) := by decide +kernel
theorem dL_accept_6 : decode cL_accept 6 = .ok (.invokevirtual 32, 3) := by decide +kernel
theorem dL_accept_9 : decode cL_accept 9 = .ok (.ireturn, 1) := by decide +kernel
theorem dL_accept_10 : decode cL_accept 10 = .ok (.astore 5, 2) := by decide +kernel
theorem dL_accept_12 : decode cL_accept 12 = .ok (.ldc 17, 2) := by decide +kernel
theorem dL_accept_14 : decode cL_accept 14 = .ok (.ireturn, 1) := by decide +kernel
theorem dL_accept_15 : decode cL_accept 15 = .ok (.astore 5, 2) := by decide +kernel
theorem dL_accept_17 : decode cL_accept 17 = .ok (.ldc 20, 2) := by decide +kernel
theorem dL_accept_19 : decode cL_accept 19 = .ok (.ireturn, 1) := by decide +kernel
theorem dL_accept_20 : decode cL_accept 20 = .ok (.astore 5, 2) := by decide +kernel
theorem dL_accept_22 : decode cL_accept 22 = .ok (.ldc 27, 2) := by decide +kernel
theorem dL_accept_24 : decode cL_accept 24 = .ok (.ireturn, 1) := by decide +kernel
theorem dL_scan_0 : decode cL_scan 0 = .ok (.aload_n 0, 1) := by decide +kernel
theorem dL_scan_1 : decode cL_scan 1 = .ok (.iload_n 1, 1) := by decide +kernel
theorem dL_scan_2 : decode cL_scan 2 = .ok (.iload_n 2, 1) := by decide +kernel
theorem dL_scan_3 : decode cL_scan 3 = .ok (.invokevirtual 36, 3) := by decide +kernel
theorem dL_scan_6 : decode cL_scan 6 = .ok (.ireturn, 1) := by decide +kernel
theorem dL_scan_7 : decode cL_scan 7 = .ok (.astore_n 3, 1) := by decide +kernel
theorem dL_scan_8 : decode cL_scan 8 = .ok (.ldc 17, 2) := by decide +kernel
theorem dL_scan_10 : decode cL_scan 10 = .ok (.ireturn, 1) := by decide +kernel
theorem dL_scan_11 : decode cL_scan 11 = .ok (.astore_n 3, 1) := by decide +kernel
theorem dL_scan_12 : decode cL_scan 12 = .ok (.ldc 20, 2) := by decide +kernel
theorem dL_scan_14 : decode cL_scan 14 = .ok (.ireturn, 1) := by decide +kernel
theorem dL_deliver_0 : decode cL_deliver 0 = .ok (.aload_n 0, 1) := by decide +kernel
theorem dL_deliver_1 : decode cL_deliver 1 = .ok (.iload_n 1, 1) := by decide +kernel
theorem dL_deliver_2 : decode cL_deliver 2 = .ok (.iload_n 2, 1) := by decide +kernel
theorem dL_deliver_3 : decode cL_deliver 3 = .ok (.invokevirtual 40, 3) := by decide +kernel
theorem dL_deliver_6 : decode cL_deliver 6 = .ok (.ireturn, 1) := by decide +kernel
theorem dL_deliver_7 : decode cL_deliver 7 = .ok (.astore_n 3, 1) := by decide +kernel
theorem dL_deliver_8 : decode cL_deliver 8 = .ok (.ldc 17, 2) := by decide +kernel
theorem dL_deliver_10 : decode cL_deliver 10 = .ok (.ireturn, 1) := by decide +kernel
theorem dL_deliver_11 : decode cL_deliver 11 = .ok (.astore_n 3, 1) := by decide +kernel
theorem dL_deliver_12 : decode cL_deliver 12 = .ok (.ldc 20, 2) := by decide +kernel
theorem dL_deliver_14 : decode cL_deliver 14 = .ok (.ireturn, 1) := by decide +kernel
theorem dL_recall_0 : decode cL_recall 0 = .ok (.aload_n 0, 1) := by decide +kernel
theorem dL_recall_1 : decode cL_recall 1 = .ok (.iload_n 1, 1) := by decide +kernel
theorem dL_recall_2 : decode cL_recall 2 = .ok (.invokevirtual 44, 3) := by decide +kernel
theorem dL_recall_5 : decode cL_recall 5 = .ok (.ireturn, 1) := by decide +kernel
theorem dL_recall_6 : decode cL_recall 6 = .ok (.astore_n 2, 1) := by decide +kernel
theorem dL_recall_7 : decode cL_recall 7 = .ok (.ldc 17, 2) := by decide +kernel
theorem dL_recall_9 : decode cL_recall 9 = .ok (.ireturn, 1) := by decide +kernel
theorem dL_recall_10 : decode cL_recall 10 = .ok (.astore_n 2, 1) := by decide +kernel
theorem dL_recall_11 : decode cL_recall 11 = .ok (.ldc 20, 2) := by decide +kernel
theorem dL_recall_13 : decode cL_recall 13 = .ok (.ireturn, 1) := by decide +kernel
theorem dL_pass_0 : decode cL_pass 0 = .ok (.aload_n 0, 1) := by decide +kernel
theorem dL_pass_1 : decode cL_pass 1 = .ok (.iload_n 1, 1) := by decide +kernel
theorem dL_pass_2 : decode cL_pass 2 = .ok (.invokevirtual 47, 3) := by decide +kernel
theorem dL_pass_5 : decode cL_pass 5 = .ok (.ireturn, 1) := by decide +kernel
theorem dL_pass_6 : decode cL_pass 6 = .ok (.astore_n 2, 1) := by decide +kernel
theorem dL_pass_7 : decode cL_pass 7 = .ok (.ldc 17, 2) := by decide +kernel
theorem dL_pass_9 : decode cL_pass 9 = .ok (.ireturn, 1) := by decide +kernel
theorem dL_hubOf_0 : decode cL_hubOf 0 = .ok (.aload_n 0, 1) := by decide +kernel
theorem dL_hubOf_1 : decode cL_hubOf 1 = .ok (.iload_n 1, 1) := by decide +kernel
theorem dL_hubOf_2 : decode cL_hubOf 2 = .ok (.invokevirtual 50, 3) := by decide +kernel
theorem dL_hubOf_5 : decode cL_hubOf 5 = .ok (.ireturn, 1) := by decide +kernel
theorem dL_hubOf_6 : decode cL_hubOf 6 = .ok (.astore_n 2, 1) := by decide +kernel
theorem dL_hubOf_7 : decode cL_hubOf 7 = .ok (.ldc 17, 2) := by decide +kernel
theorem dL_hubOf_9 : decode cL_hubOf 9 = .ok (.ireturn, 1) := by decide +kernel
theorem dL_hubByTrying_0 : decode cL_hubByTrying 0 = .ok (.aload_n 0, 1) := by decide +kernel
theorem dL_hubByTrying_1 : decode cL_hubByTrying 1 = .ok (.iload_n 1, 1) := by decide +kernel
theorem dL_hubByTrying_2 : decode cL_hubByTrying 2 = .ok (.invokevirtual 53, 3) := by decide +kernel
theorem dL_hubByTrying_5 : decode cL_hubByTrying 5 = .ok (.ireturn, 1) := by decide +kernel
theorem dL_hubByTrying_6 : decode cL_hubByTrying 6 = .ok (.astore_n 2, 1) := by decide +kernel
theorem dL_hubByTrying_7 : decode cL_hubByTrying 7 = .ok (.ldc 17, 2) := by decide +kernel
theorem dL_hubByTrying_9 : decode cL_hubByTrying 9 = .ok (.ireturn, 1) := by decide +kernel
theorem dL_nextDeparture_0 : decode cL_nextDeparture 0 = .ok (.aload_n 0, 1) := by decide +kernel
theorem dL_nextDeparture_1 : decode cL_nextDeparture 1 = .ok (.iload_n 1, 1) := by decide +kernel
theorem dL_nextDeparture_2 : decode cL_nextDeparture 2 = .ok (.invokevirtual 56, 3) := by decide +kernel
theorem dL_nextDeparture_5 : decode cL_nextDeparture 5 = .ok (.ireturn, 1) := by decide +kernel
theorem dL_nextDeparture_6 : decode cL_nextDeparture 6 = .ok (.astore_n 2, 1) := by decide +kernel
theorem dL_nextDeparture_7 : decode cL_nextDeparture 7 = .ok (.ldc 17, 2) := by decide +kernel
theorem dL_nextDeparture_9 : decode cL_nextDeparture 9 = .ok (.ireturn, 1) := by decide +kernel
theorem dL_nextDeparture_10 : decode cL_nextDeparture 10 = .ok (.astore_n 2, 1) := by decide +kernel
theorem dL_nextDeparture_11 : decode cL_nextDeparture 11 = .ok (.ldc 20, 2) := by decide +kernel
theorem dL_nextDeparture_13 : decode cL_nextDeparture 13 = .ok (.ireturn, 1) := by decide +kernel
theorem dL_state_0 : decode cL_state 0 = .ok (.aload_n 0, 1) := by decide +kernel
theorem dL_state_1 : decode cL_state 1 = .ok (.iload_n 1, 1) := by decide +kernel
theorem dL_state_2 : decode cL_state 2 = .ok (.invokevirtual 59, 3) := by decide +kernel
theorem dL_state_5 : decode cL_state 5 = .ok (.ireturn, 1) := by decide +kernel
theorem dL_state_6 : decode cL_state 6 = .ok (.astore_n 2, 1) := by decide +kernel
theorem dL_state_7 : decode cL_state 7 = .ok (.ldc 17, 2) := by decide +kernel
theorem dL_state_9 : decode cL_state 9 = .ok (.ireturn, 1) := by decide +kernel
theorem dL_at_0 : decode cL_at 0 = .ok (.aload_n 0, 1) := by decide +kernel
theorem dL_at_1 : decode cL_at 1 = .ok (.iload_n 1, 1) := by decide +kernel
theorem dL_at_2 : decode cL_at 2 = .ok (.invokevirtual 63, 3) := by decide +kernel
theorem dL_at_5 : decode cL_at 5 = .ok (.ireturn, 1) := by decide +kernel
theorem dL_at_6 : decode cL_at 6 = .ok (.astore_n 2, 1) := by decide +kernel
theorem dL_at_7 : decode cL_at 7 = .ok (.ldc 17, 2) := by decide +kernel
theorem dL_at_9 : decode cL_at 9 = .ok (.ireturn, 1) := by decide +kernel
theorem dL_at_10 : decode cL_at 10 = .ok (.astore_n 2, 1) := by decide +kernel
theorem dL_at_11 : decode cL_at 11 = .ok (.ldc 20, 2) := by decide +kernel
theorem dL_at_13 : decode cL_at 13 = .ok (.ireturn, 1) := by decide +kernel
theorem dL_rides_0 : decode cL_rides 0 = .ok (.aload_n 0, 1) := by decide +kernel
theorem dL_rides_1 : decode cL_rides 1 = .ok (.iload_n 1, 1) := by decide +kernel
theorem dL_rides_2 : decode cL_rides 2 = .ok (.invokevirtual 66, 3) := by decide +kernel
theorem dL_rides_5 : decode cL_rides 5 = .ok (.ireturn, 1) := by decide +kernel
theorem dL_rides_6 : decode cL_rides 6 = .ok (.astore_n 2, 1) := by decide +kernel
theorem dL_rides_7 : decode cL_rides 7 = .ok (.ldc 17, 2) := by decide +kernel
theorem dL_rides_9 : decode cL_rides 9 = .ok (.ireturn, 1) := by decide +kernel
theorem dL_rides_10 : decode cL_rides 10 = .ok (.astore_n 2, 1) := by decide +kernel
theorem dL_rides_11 : decode cL_rides 11 = .ok (.ldc 20, 2) := by decide +kernel
theorem dL_rides_13 : decode cL_rides 13 = .ok (.ireturn, 1) := by decide +kernel
theorem dL_nextLine_0 : decode cL_nextLine 0 = .ok (.aload_n 0, 1) := by decide +kernel
theorem dL_nextLine_1 : decode cL_nextLine 1 = .ok (.iload_n 1, 1) := by decide +kernel
theorem dL_nextLine_2 : decode cL_nextLine 2 = .ok (.invokevirtual 69, 3) := by decide +kernel
theorem dL_nextLine_5 : decode cL_nextLine 5 = .ok (.ireturn, 1) := by decide +kernel
theorem dL_nextLine_6 : decode cL_nextLine 6 = .ok (.astore_n 2, 1) := by decide +kernel
theorem dL_nextLine_7 : decode cL_nextLine 7 = .ok (.ldc 17, 2) := by decide +kernel
theorem dL_nextLine_9 : decode cL_nextLine 9 = .ok (.ireturn, 1) := by decide +kernel
theorem dL_nextLine_10 : decode cL_nextLine 10 = .ok (.astore_n 2, 1) := by decide +kernel
theorem dL_nextLine_11 : decode cL_nextLine 11 = .ok (.ldc 20, 2) := by decide +kernel
theorem dL_nextLine_13 : decode cL_nextLine 13 = .ok (.ireturn, 1) := by decide +kernel
theorem dL_nextLineByPaths_0 : decode cL_nextLineByPaths 0 = .ok (.aload_n 0, 1) := by decide +kernel
theorem dL_nextLineByPaths_1 : decode cL_nextLineByPaths 1 = .ok (.iload_n 1, 1) := by decide +kernel
theorem dL_nextLineByPaths_2 : decode cL_nextLineByPaths 2 = .ok (.invokevirtual 72, 3) := by decide +kernel
theorem dL_nextLineByPaths_5 : decode cL_nextLineByPaths 5 = .ok (.ireturn, 1) := by decide +kernel
theorem dL_nextLineByPaths_6 : decode cL_nextLineByPaths 6 = .ok (.astore_n 2, 1) := by decide +kernel
theorem dL_nextLineByPaths_7 : decode cL_nextLineByPaths 7 = .ok (.ldc 17, 2) := by decide +kernel
theorem dL_nextLineByPaths_9 : decode cL_nextLineByPaths 9 = .ok (.ireturn, 1) := by decide +kernel
theorem dL_nextLineByPaths_10 : decode cL_nextLineByPaths 10 = .ok (.astore_n 2, 1) := by decide +kernel
theorem dL_nextLineByPaths_11 : decode cL_nextLineByPaths 11 = .ok (.ldc 20, 2) := by decide +kernel
theorem dL_nextLineByPaths_13 : decode cL_nextLineByPaths 13 = .ok (.ireturn, 1) := by decide +kernel
theorem dL_arrival_0 : decode cL_arrival 0 = .ok (.aload_n 0, 1) := by decide +kernel
theorem dL_arrival_1 : decode cL_arrival 1 = .ok (.iload_n 1, 1) := by decide +kernel
theorem dL_arrival_2 : decode cL_arrival 2 = .ok (.invokevirtual 75, 3) := by decide +kernel
theorem dL_arrival_5 : decode cL_arrival 5 = .ok (.ireturn, 1) := by decide +kernel
theorem dL_arrival_6 : decode cL_arrival 6 = .ok (.astore_n 2, 1) := by decide +kernel
theorem dL_arrival_7 : decode cL_arrival 7 = .ok (.ldc 17, 2) := by decide +kernel
theorem dL_arrival_9 : decode cL_arrival 9 = .ok (.ireturn, 1) := by decide +kernel
theorem dL_arrival_10 : decode cL_arrival 10 = .ok (.astore_n 2, 1) := by decide +kernel
theorem dL_arrival_11 : decode cL_arrival 11 = .ok (.ldc 20, 2) := by decide +kernel
theorem dL_arrival_13 : decode cL_arrival 13 = .ok (.ireturn, 1) := by decide +kernel
theorem dL_waitingAt_0 : decode cL_waitingAt 0 = .ok (.aload_n 0, 1) := by decide +kernel
theorem dL_waitingAt_1 : decode cL_waitingAt 1 = .ok (.iload_n 1, 1) := by decide +kernel
theorem dL_waitingAt_2 : decode cL_waitingAt 2 = .ok (.iload_n 2, 1) := by decide +kernel
theorem dL_waitingAt_3 : decode cL_waitingAt 3 = .ok (.invokevirtual 78, 3) := by decide +kernel
theorem dL_waitingAt_6 : decode cL_waitingAt 6 = .ok (.ireturn, 1) := by decide +kernel
theorem dL_waitingAt_7 : decode cL_waitingAt 7 = .ok (.astore_n 3, 1) := by decide +kernel
theorem dL_waitingAt_8 : decode cL_waitingAt 8 = .ok (.ldc 17, 2) := by decide +kernel
theorem dL_waitingAt_10 : decode cL_waitingAt 10 = .ok (.ireturn, 1) := by decide +kernel
theorem dL_waitingAt_11 : decode cL_waitingAt 11 = .ok (.astore_n 3, 1) := by decide +kernel
theorem dL_waitingAt_12 : decode cL_waitingAt 12 = .ok (.ldc 20, 2) := by decide +kernel
theorem dL_waitingAt_14 : decode cL_waitingAt 14 = .ok (.ireturn, 1) := by decide +kernel
theorem dL_bagVolume_0 : decode cL_bagVolume 0 = .ok (.aload_n 0, 1) := by decide +kernel
theorem dL_bagVolume_1 : decode cL_bagVolume 1 = .ok (.iload_n 1, 1) := by decide +kernel
theorem dL_bagVolume_2 : decode cL_bagVolume 2 = .ok (.iload_n 2, 1) := by decide +kernel
theorem dL_bagVolume_3 : decode cL_bagVolume 3 = .ok (.invokevirtual 83, 3) := by decide +kernel
theorem dL_bagVolume_6 : decode cL_bagVolume 6 = .ok (.ireturn, 1) := by decide +kernel
theorem dL_bagVolume_7 : decode cL_bagVolume 7 = .ok (.astore_n 3, 1) := by decide +kernel
theorem dL_bagVolume_8 : decode cL_bagVolume 8 = .ok (.ldc 17, 2) := by decide +kernel
theorem dL_bagVolume_10 : decode cL_bagVolume 10 = .ok (.ireturn, 1) := by decide +kernel
theorem dL_bagVolume_11 : decode cL_bagVolume 11 = .ok (.astore_n 3, 1) := by decide +kernel
theorem dL_bagVolume_12 : decode cL_bagVolume 12 = .ok (.ldc 20, 2) := by decide +kernel
theorem dL_bagVolume_14 : decode cL_bagVolume 14 = .ok (.ireturn, 1) := by decide +kernel
theorem dL_lateShare_0 : decode cL_lateShare 0 = .ok (.aload_n 0, 1) := by decide +kernel
theorem dL_lateShare_1 : decode cL_lateShare 1 = .ok (.invokevirtual 86, 3) := by decide +kernel
theorem dL_lateShare_4 : decode cL_lateShare 4 = .ok (.freturn, 1) := by decide +kernel
theorem dL_lateShare_5 : decode cL_lateShare 5 = .ok (.astore_n 1, 1) := by decide +kernel
theorem dL_lateShare_6 : decode cL_lateShare 6 = .ok (.ldc 92, 2) := by decide +kernel
theorem dL_lateShare_8 : decode cL_lateShare 8 = .ok (.freturn, 1) := by decide +kernel
theorem dL_meanTime_0 : decode cL_meanTime 0 = .ok (.aload_n 0, 1) := by decide +kernel
theorem dL_meanTime_1 : decode cL_meanTime 1 = .ok (.invokevirtual 93, 3) := by decide +kernel
theorem dL_meanTime_4 : decode cL_meanTime 4 = .ok (.dreturn, 1) := by decide +kernel
theorem dL_meanTime_5 : decode cL_meanTime 5 = .ok (.astore_n 1, 1) := by decide +kernel
theorem dL_meanTime_6 : decode cL_meanTime 6 = .ok (.ldc2_w 97, 3) := by decide +kernel
theorem dL_meanTime_9 : decode cL_meanTime 9 = .ok (.dreturn, 1) := by decide +kernel
theorem dL_in_0 : decode cL_in 0 = .ok (.aload_n 0, 1) := by decide +kernel
theorem dL_in_1 : decode cL_in 1 = .ok (.iload_n 1, 1) := by decide +kernel
theorem dL_in_2 : decode cL_in 2 = .ok (.invokestatic 99, 3) := by decide +kernel
theorem dL_in_5 : decode cL_in 5 = .ok (.ldc 105, 2) := by decide +kernel
theorem dL_in_7 : decode cL_in 7 = .ok (.iand, 1) := by decide +kernel
theorem dL_in_8 : decode cL_in 8 = .ok (.iload_n 2, 1) := by decide +kernel
theorem dL_in_9 : decode cL_in 9 = .ok (.irem, 1) := by decide +kernel
theorem dL_in_10 : decode cL_in 10 = .ok (.ireturn, 1) := by decide +kernel
theorem dL_code_0 : decode cL_code 0 = .ok (.iload_n 0, 1) := by decide +kernel
theorem dL_code_1 : decode cL_code 1 = .ok (.ifCond .ne 7, 3) := by decide +kernel
theorem dL_code_4 : decode cL_code 4 = .ok (.iconst 1, 1) := by decide +kernel
theorem dL_code_5 : decode cL_code 5 = .ok (.goto 43, 3) := by decide +kernel
theorem dL_code_8 : decode cL_code 8 = .ok (.iload_n 0, 1) := by decide +kernel
theorem dL_code_9 : decode cL_code 9 = .ok (.iconst 1, 1) := by decide +kernel
theorem dL_code_10 : decode cL_code 10 = .ok (.if_icmp .ne 8, 3) := by decide +kernel
theorem dL_code_13 : decode cL_code 13 = .ok (.bipush 12, 2) := by decide +kernel
theorem dL_code_15 : decode cL_code 15 = .ok (.goto 33, 3) := by decide +kernel
theorem dL_code_18 : decode cL_code 18 = .ok (.iload_n 0, 1) := by decide +kernel
theorem dL_code_19 : decode cL_code 19 = .ok (.iconst 2, 1) := by decide +kernel
