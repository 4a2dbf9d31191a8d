theorem dX6_textError_64 : decode cX6_textError 64 = .ok (.invokevirtual 185, 3) := by decide +kernel
theorem dX6_textError_67 : decode cX6_textError 67 = .ok (.ireturn, 1) := by decide +kernel
theorem dX6_runText_0 : decode cX6_runText 0 = .ok (.aload_n 0, 1) := by decide +kernel
theorem dX6_runText_1 : decode cX6_runText 1 = .ok (.invokevirtual 206, 3) := by decide +kernel
theorem dX6_runText_4 : decode cX6_runText 4 = .ok (.iconst (-1), 1) := by decide +kernel
theorem dX6_runText_5 : decode cX6_runText 5 = .ok (.if_icmp .eq 13, 3) := by decide +kernel
theorem dX6_runText_8 : decode cX6_runText 8 = .ok (.new 176, 3) := by decide +kernel
theorem dX6_runText_11 : decode cX6_runText 11 = .ok (.dup, 1) := by decide +kernel
theorem dX6_runText_12 : decode cX6_runText 12 = .ok (.ldc 209, 2) := by decide +kernel
theorem dX6_runText_14 : decode cX6_runText 14 = .ok (.invokespecial 180, 3) := by decide +kernel
theorem dX6_runText_17 : decode cX6_runText 17 = .ok (.athrow, 1) := by decide +kernel
theorem dX6_runText_18 : decode cX6_runText 18 = .ok (.aload_n 0, 1) := by decide +kernel
theorem dX6_runText_19 : decode cX6_runText 19 = .ok (.getfield 39, 3) := by decide +kernel
theorem dX6_runText_22 : decode cX6_runText 22 = .ok (.aload_n 0, 1) := by decide +kernel
theorem dX6_runText_23 : decode cX6_runText 23 = .ok (.getfield 9, 3) := by decide +kernel
theorem dX6_runText_26 : decode cX6_runText 26 = .ok (.invokevirtual 211, 3) := by decide +kernel
theorem dX6_runText_29 : decode cX6_runText 29 = .ok (.aload_n 0, 1) := by decide +kernel
theorem dX6_runText_30 : decode cX6_runText 30 = .ok (.invokevirtual 215, 3) := by decide +kernel
theorem dX6_runText_33 : decode cX6_runText 33 = .ok (.istore_n 1, 1) := by decide +kernel
theorem dX6_runText_34 : decode cX6_runText 34 = .ok (.aload_n 0, 1) := by decide +kernel
theorem dX6_runText_35 : decode cX6_runText 35 = .ok (.getfield 25, 3) := by decide +kernel
theorem dX6_runText_38 : decode cX6_runText 38 = .ok (.invokevirtual 188, 3) := by decide +kernel
theorem dX6_runText_41 : decode cX6_runText 41 = .ok (.iload_n 1, 1) := by decide +kernel
theorem dX6_runText_42 : decode cX6_runText 42 = .ok (.ireturn, 1) := by decide +kernel
theorem dX6_undo_0 : decode cX6_undo 0 = .ok (.aload_n 0, 1) := by decide +kernel
theorem dX6_undo_1 : decode cX6_undo 1 = .ok (.getfield 39, 3) := by decide +kernel
theorem dX6_undo_4 : decode cX6_undo 4 = .ok (.invokevirtual 218, 3) := by decide +kernel
theorem dX6_undo_7 : decode cX6_undo 7 = .ok (.ifCond .ne 13, 3) := by decide +kernel
theorem dX6_undo_10 : decode cX6_undo 10 = .ok (.new 176, 3) := by decide +kernel
theorem dX6_undo_13 : decode cX6_undo 13 = .ok (.dup, 1) := by decide +kernel
theorem dX6_undo_14 : decode cX6_undo 14 = .ok (.ldc 219, 2) := by decide +kernel
theorem dX6_undo_16 : decode cX6_undo 16 = .ok (.invokespecial 180, 3) := by decide +kernel
theorem dX6_undo_19 : decode cX6_undo 19 = .ok (.athrow, 1) := by decide +kernel
theorem dX6_undo_20 : decode cX6_undo 20 = .ok (.aload_n 0, 1) := by decide +kernel
theorem dX6_undo_21 : decode cX6_undo 21 = .ok (.getfield 39, 3) := by decide +kernel
theorem dX6_undo_24 : decode cX6_undo 24 = .ok (.aload_n 0, 1) := by decide +kernel
theorem dX6_undo_25 : decode cX6_undo 25 = .ok (.getfield 9, 3) := by decide +kernel
theorem dX6_undo_28 : decode cX6_undo 28 = .ok (.invokevirtual 221, 3) := by decide +kernel
theorem dX6_undo_31 : decode cX6_undo 31 = .ok (.aload_n 0, 1) := by decide +kernel
theorem dX6_undo_32 : decode cX6_undo 32 = .ok (.getfield 39, 3) := by decide +kernel
theorem dX6_undo_35 : decode cX6_undo 35 = .ok (.invokevirtual 218, 3) := by decide +kernel
theorem dX6_undo_38 : decode cX6_undo 38 = .ok (.ireturn, 1) := by decide +kernel
theorem dX6_undoCount_0 : decode cX6_undoCount 0 = .ok (.aload_n 0, 1) := by decide +kernel
theorem dX6_undoCount_1 : decode cX6_undoCount 1 = .ok (.getfield 39, 3) := by decide +kernel
theorem dX6_undoCount_4 : decode cX6_undoCount 4 = .ok (.invokevirtual 218, 3) := by decide +kernel
theorem dX6_undoCount_7 : decode cX6_undoCount 7 = .ok (.ireturn, 1) := by decide +kernel
theorem dX6_saveState_0 : decode cX6_saveState 0 = .ok (.iload_n 1, 1) := by decide +kernel
theorem dX6_saveState_1 : decode cX6_saveState 1 = .ok (.invokestatic 224, 3) := by decide +kernel
theorem dX6_saveState_4 : decode cX6_saveState 4 = .ok (.aload_n 0, 1) := by decide +kernel
theorem dX6_saveState_5 : decode cX6_saveState 5 = .ok (.getfield 9, 3) := by decide +kernel
theorem dX6_saveState_8 : decode cX6_saveState 8 = .ok (.iconst 0, 1) := by decide +kernel
theorem dX6_saveState_9 : decode cX6_saveState 9 = .ok (.aload_n 0, 1) := by decide +kernel
theorem dX6_saveState_10 : decode cX6_saveState 10 = .ok (.getfield 43, 3) := by decide +kernel
theorem dX6_saveState_13 : decode cX6_saveState 13 = .ok (.iload_n 1, 1) := by decide +kernel
theorem dX6_saveState_14 : decode cX6_saveState 14 = .ok (.bipush 6, 2) := by decide +kernel
theorem dX6_saveState_16 : decode cX6_saveState 16 = .ok (.imul, 1) := by decide +kernel
theorem dX6_saveState_17 : decode cX6_saveState 17 = .ok (.bipush 6, 2) := by decide +kernel
theorem dX6_saveState_19 : decode cX6_saveState 19 = .ok (.invokestatic 227, 3) := by decide +kernel
theorem dX6_saveState_22 : decode cX6_saveState 22 = .ok (.aload_n 0, 1) := by decide +kernel
theorem dX6_saveState_23 : decode cX6_saveState 23 = .ok (.getfield 46, 3) := by decide +kernel
theorem dX6_saveState_26 : decode cX6_saveState 26 = .ok (.iload_n 1, 1) := by decide +kernel
theorem dX6_saveState_27 : decode cX6_saveState 27 = .ok (.iconst 1, 1) := by decide +kernel
theorem dX6_saveState_28 : decode cX6_saveState 28 = .ok (.bastore, 1) := by decide +kernel
theorem dX6_saveState_29 : decode cX6_saveState 29 = .ok (.aload_n 0, 1) := by decide +kernel
theorem dX6_saveState_30 : decode cX6_saveState 30 = .ok (.invokevirtual 233, 3) := by decide +kernel
theorem dX6_saveState_33 : decode cX6_saveState 33 = .ok (.ireturn, 1) := by decide +kernel
theorem dX6_loadState_0 : decode cX6_loadState 0 = .ok (.iload_n 1, 1) := by decide +kernel
theorem dX6_loadState_1 : decode cX6_loadState 1 = .ok (.invokestatic 224, 3) := by decide +kernel
theorem dX6_loadState_4 : decode cX6_loadState 4 = .ok (.aload_n 0, 1) := by decide +kernel
theorem dX6_loadState_5 : decode cX6_loadState 5 = .ok (.getfield 46, 3) := by decide +kernel
theorem dX6_loadState_8 : decode cX6_loadState 8 = .ok (.iload_n 1, 1) := by decide +kernel
theorem dX6_loadState_9 : decode cX6_loadState 9 = .ok (.baload, 1) := by decide +kernel
theorem dX6_loadState_10 : decode cX6_loadState 10 = .ok (.ifCond .ne 13, 3) := by decide +kernel
theorem dX6_loadState_13 : decode cX6_loadState 13 = .ok (.new 176, 3) := by decide +kernel
theorem dX6_loadState_16 : decode cX6_loadState 16 = .ok (.dup, 1) := by decide +kernel
theorem dX6_loadState_17 : decode cX6_loadState 17 = .ok (.ldc 236, 2) := by decide +kernel
theorem dX6_loadState_19 : decode cX6_loadState 19 = .ok (.invokespecial 180, 3) := by decide +kernel
theorem dX6_loadState_22 : decode cX6_loadState 22 = .ok (.athrow, 1) := by decide +kernel
theorem dX6_loadState_23 : decode cX6_loadState 23 = .ok (.aload_n 0, 1) := by decide +kernel
theorem dX6_loadState_24 : decode cX6_loadState 24 = .ok (.getfield 39, 3) := by decide +kernel
theorem dX6_loadState_27 : decode cX6_loadState 27 = .ok (.aload_n 0, 1) := by decide +kernel
theorem dX6_loadState_28 : decode cX6_loadState 28 = .ok (.getfield 9, 3) := by decide +kernel
theorem dX6_loadState_31 : decode cX6_loadState 31 = .ok (.invokevirtual 211, 3) := by decide +kernel
theorem dX6_loadState_34 : decode cX6_loadState 34 = .ok (.aload_n 0, 1) := by decide +kernel
theorem dX6_loadState_35 : decode cX6_loadState 35 = .ok (.getfield 43, 3) := by decide +kernel
theorem dX6_loadState_38 : decode cX6_loadState 38 = .ok (.iload_n 1, 1) := by decide +kernel
theorem dX6_loadState_39 : decode cX6_loadState 39 = .ok (.bipush 6, 2) := by decide +kernel
theorem dX6_loadState_41 : decode cX6_loadState 41 = .ok (.imul, 1) := by decide +kernel
theorem dX6_loadState_42 : decode cX6_loadState 42 = .ok (.aload_n 0, 1) := by decide +kernel
theorem dX6_loadState_43 : decode cX6_loadState 43 = .ok (.getfield 9, 3) := by decide +kernel
theorem dX6_loadState_46 : decode cX6_loadState 46 = .ok (.iconst 0, 1) := by decide +kernel
theorem dX6_loadState_47 : decode cX6_loadState 47 = .ok (.bipush 6, 2) := by decide +kernel
theorem dX6_loadState_49 : decode cX6_loadState 49 = .ok (.invokestatic 227, 3) := by decide +kernel
theorem dX6_loadState_52 : decode cX6_loadState 52 = .ok (.aload_n 0, 1) := by decide +kernel
theorem dX6_loadState_53 : decode cX6_loadState 53 = .ok (.invokevirtual 233, 3) := by decide +kernel
theorem dX6_loadState_56 : decode cX6_loadState 56 = .ok (.ireturn, 1) := by decide +kernel
theorem dX6_isPlate_0 : decode cX6_isPlate 0 = .ok (.iload_n 0, 1) := by decide +kernel
theorem dX6_isPlate_1 : decode cX6_isPlate 1 = .ok (.ifCond .lt 13, 3) := by decide +kernel
theorem dX6_isPlate_4 : decode cX6_isPlate 4 = .ok (.iload_n 0, 1) := by decide +kernel
theorem dX6_isPlate_5 : decode cX6_isPlate 5 = .ok (.bipush 6, 2) := by decide +kernel
theorem dX6_isPlate_7 : decode cX6_isPlate 7 = .ok (.if_icmp .ge 7, 3) := by decide +kernel
theorem dX6_isPlate_10 : decode cX6_isPlate 10 = .ok (.iconst 1, 1) := by decide +kernel
theorem dX6_isPlate_11 : decode cX6_isPlate 11 = .ok (.goto 4, 3) := by decide +kernel
theorem dX6_isPlate_14 : decode cX6_isPlate 14 = .ok (.iconst 0, 1) := by decide +kernel
theorem dX6_isPlate_15 : decode cX6_isPlate 15 = .ok (.ireturn, 1) := by decide +kernel
theorem dX6_requirePlate_0 : decode cX6_requirePlate 0 = .ok (.iload_n 0, 1) := by decide +kernel
theorem dX6_requirePlate_1 : decode cX6_requirePlate 1 = .ok (.invokestatic 238, 3) := by decide +kernel
theorem dX6_requirePlate_4 : decode cX6_requirePlate 4 = .ok (.ifCond .ne 13, 3) := by decide +kernel
theorem dX6_requirePlate_7 : decode cX6_requirePlate 7 = .ok (.new 104, 3) := by decide +kernel
theorem dX6_requirePlate_10 : decode cX6_requirePlate 10 = .ok (.dup, 1) := by decide +kernel
theorem dX6_requirePlate_11 : decode cX6_requirePlate 11 = .ok (.ldc 241, 2) := by decide +kernel
theorem dX6_requirePlate_13 : decode cX6_requirePlate 13 = .ok (.invokespecial 108, 3) := by decide +kernel
theorem dX6_requirePlate_16 : decode cX6_requirePlate 16 = .ok (.athrow, 1) := by decide +kernel
theorem dX6_requirePlate_17 : decode cX6_requirePlate 17 = .ok (.return_, 1) := by decide +kernel
theorem dX6_requireNotZero_0 : decode cX6_requireNotZero 0 = .ok (.iload_n 1, 1) := by decide +kernel
theorem dX6_requireNotZero_1 : decode cX6_requireNotZero 1 = .ok (.invokestatic 50, 3) := by decide +kernel
theorem dX6_requireNotZero_4 : decode cX6_requireNotZero 4 = .ok (.aload_n 0, 1) := by decide +kernel
theorem dX6_requireNotZero_5 : decode cX6_requireNotZero 5 = .ok (.getfield 9, 3) := by decide +kernel
theorem dX6_requireNotZero_8 : decode cX6_requireNotZero 8 = .ok (.iload_n 1, 1) := by decide +kernel
theorem dX6_requireNotZero_9 : decode cX6_requireNotZero 9 = .ok (.laload, 1) := by decide +kernel
theorem dX6_requireNotZero_10 : decode cX6_requireNotZero 10 = .ok (.lconst 1, 1) := by decide +kernel
theorem dX6_requireNotZero_11 : decode cX6_requireNotZero 11 = .ok (.lcmp, 1) := by decide +kernel
theorem dX6_requireNotZero_12 : decode cX6_requireNotZero 12 = .ok (.ifCond .ne 13, 3) := by decide +kernel
theorem dX6_requireNotZero_15 : decode cX6_requireNotZero 15 = .ok (.new 176, 3) := by decide +kernel
theorem dX6_requireNotZero_18 : decode cX6_requireNotZero 18 = .ok (.dup, 1) := by decide +kernel
theorem dX6_requireNotZero_19 : decode cX6_requireNotZero 19 = .ok (.ldc 243, 2) := by decide +kernel
theorem dX6_requireNotZero_21 : decode cX6_requireNotZero 21 = .ok (.invokespecial 180, 3) := by decide +kernel
theorem dX6_requireNotZero_24 : decode cX6_requireNotZero 24 = .ok (.athrow, 1) := by decide +kernel
theorem dX6_requireNotZero_25 : decode cX6_requireNotZero 25 = .ok (.return_, 1) := by decide +kernel
theorem dX6_requireLessThanOne_0 : decode cX6_requireLessThanOne 0 = .ok (.aload_n 0, 1) := by decide +kernel
theorem dX6_requireLessThanOne_1 : decode cX6_requireLessThanOne 1 = .ok (.getfield 9, 3) := by decide +kernel
theorem dX6_requireLessThanOne_4 : decode cX6_requireLessThanOne 4 = .ok (.iload_n 1, 1) := by decide +kernel
theorem dX6_requireLessThanOne_5 : decode cX6_requireLessThanOne 5 = .ok (.laload, 1) := by decide +kernel
theorem dX6_requireLessThanOne_6 : decode cX6_requireLessThanOne 6 = .ok (.ldc2_w 166, 3) := by decide +kernel
theorem dX6_requireLessThanOne_9 : decode cX6_requireLessThanOne 9 = .ok (.invokestatic 100, 3) := by decide +kernel
theorem dX6_requireLessThanOne_12 : decode cX6_requireLessThanOne 12 = .ok (.ifCond .lt 13, 3) := by decide +kernel
theorem dX6_requireLessThanOne_15 : decode cX6_requireLessThanOne 15 = .ok (.new 176, 3) := by decide +kernel
theorem dX6_requireLessThanOne_18 : decode cX6_requireLessThanOne 18 = .ok (.dup, 1) := by decide +kernel
theorem dX6_requireLessThanOne_19 : decode cX6_requireLessThanOne 19 = .ok (.ldc 245, 2) := by decide +kernel
theorem dX6_requireLessThanOne_21 : decode cX6_requireLessThanOne 21 = .ok (.invokespecial 180, 3) := by decide +kernel
theorem dX6_requireLessThanOne_24 : decode cX6_requireLessThanOne 24 = .ok (.athrow, 1) := by decide +kernel
theorem dX6_requireLessThanOne_25 : decode cX6_requireLessThanOne 25 = .ok (.return_, 1) := by decide +kernel
theorem dX6_requireLimit_0 : decode cX6_requireLimit 0 = .ok (.iload_n 0, 1) := by decide +kernel
theorem dX6_requireLimit_1 : decode cX6_requireLimit 1 = .ok (.iconst 1, 1) := by decide +kernel
theorem dX6_requireLimit_2 : decode cX6_requireLimit 2 = .ok (.if_icmp .lt 10, 3) := by decide +kernel
theorem dX6_requireLimit_5 : decode cX6_requireLimit 5 = .ok (.iload_n 0, 1) := by decide +kernel
theorem dX6_requireLimit_6 : decode cX6_requireLimit 6 = .ok (.sipush 1000, 3) := by decide +kernel
theorem dX6_requireLimit_9 : decode cX6_requireLimit 9 = .ok (.if_icmp .le 13, 3) := by decide +kernel
theorem dX6_requireLimit_12 : decode cX6_requireLimit 12 = .ok (.new 55, 3) := by decide +kernel
theorem dX6_requireLimit_15 : decode cX6_requireLimit 15 = .ok (.dup, 1) := by decide +kernel
theorem dX6_requireLimit_16 : decode cX6_requireLimit 16 = .ok (.ldc 247, 2) := by decide +kernel
theorem dX6_requireLimit_18 : decode cX6_requireLimit 18 = .ok (.invokespecial 59, 3) := by decide +kernel
theorem dX6_requireLimit_21 : decode cX6_requireLimit 21 = .ok (.athrow, 1) := by decide +kernel
theorem dX6_requireLimit_22 : decode cX6_requireLimit 22 = .ok (.return_, 1) := by decide +kernel
theorem dX6_requireSlot_0 : decode cX6_requireSlot 0 = .ok (.iload_n 0, 1) := by decide +kernel
theorem dX6_requireSlot_1 : decode cX6_requireSlot 1 = .ok (.ifCond .lt 8, 3) := by decide +kernel
theorem dX6_requireSlot_4 : decode cX6_requireSlot 4 = .ok (.iload_n 0, 1) := by decide +kernel
theorem dX6_requireSlot_5 : decode cX6_requireSlot 5 = .ok (.iconst 2, 1) := by decide +kernel
theorem dX6_requireSlot_6 : decode cX6_requireSlot 6 = .ok (.if_icmp .lt 13, 3) := by decide +kernel
theorem dX6_requireSlot_9 : decode cX6_requireSlot 9 = .ok (.new 104, 3) := by decide +kernel
theorem dX6_requireSlot_12 : decode cX6_requireSlot 12 = .ok (.dup, 1) := by decide +kernel
theorem dX6_requireSlot_13 : decode cX6_requireSlot 13 = .ok (.ldc 249, 2) := by decide +kernel
theorem dX6_requireSlot_15 : decode cX6_requireSlot 15 = .ok (.invokespecial 108, 3) := by decide +kernel
theorem dX6_requireSlot_18 : decode cX6_requireSlot 18 = .ok (.athrow, 1) := by decide +kernel
theorem dX6_requireSlot_19 : decode cX6_requireSlot 19 = .ok (.return_, 1) := by decide +kernel
theorem dX6_change_0 : decode cX6_change 0 = .ok (.aload_n 0, 1) := by decide +kernel
theorem dX6_change_1 : decode cX6_change 1 = .ok (.getfield 39, 3) := by decide +kernel
theorem dX6_change_4 : decode cX6_change 4 = .ok (.aload_n 0, 1) := by decide +kernel
theorem dX6_change_5 : decode cX6_change 5 = .ok (.getfield 9, 3) := by decide +kernel
theorem dX6_change_8 : decode cX6_change 8 = .ok (.invokevirtual 211, 3) := by decide +kernel
theorem dX6_change_11 : decode cX6_change 11 = .ok (.aload_n 0, 1) := by decide +kernel
theorem dX6_change_12 : decode cX6_change 12 = .ok (.getfield 9, 3) := by decide +kernel
theorem dX6_change_15 : decode cX6_change 15 = .ok (.iload_n 1, 1) := by decide +kernel
theorem dX6_change_16 : decode cX6_change 16 = .ok (.lload_n 2, 1) := by decide +kernel
theorem dX6_change_17 : decode cX6_change 17 = .ok (.lastore, 1) := by decide +kernel
theorem dX6_change_18 : decode cX6_change 18 = .ok (.lload_n 2, 1) := by decide +kernel
theorem dX6_change_19 : decode cX6_change 19 = .ok (.invokestatic 87, 3) := by decide +kernel
theorem dX6_change_22 : decode cX6_change 22 = .ok (.l2i, 1) := by decide +kernel
theorem dX6_change_23 : decode cX6_change 23 = .ok (.ireturn, 1) := by decide +kernel
theorem dX6_changeIfPossible_0 : decode cX6_changeIfPossible 0 = .ok (.lload_n 2, 1) := by decide +kernel
theorem dX6_changeIfPossible_1 : decode cX6_changeIfPossible 1 = .ok (.ldc2_w 118, 3) := by decide +kernel
theorem dX6_changeIfPossible_4 : decode cX6_changeIfPossible 4 = .ok (.lcmp, 1) := by decide +kernel
theorem dX6_changeIfPossible_5 : decode cX6_changeIfPossible 5 = .ok (.ifCond .ne 13, 3) := by decide +kernel
theorem dX6_changeIfPossible_8 : decode cX6_changeIfPossible 8 = .ok (.new 176, 3) := by decide +kernel
theorem dX6_changeIfPossible_11 : decode cX6_changeIfPossible 11 = .ok (.dup, 1) := by decide +kernel
theorem dX6_changeIfPossible_12 : decode cX6_changeIfPossible 12 = .ok (.ldc 251, 2) := by decide +kernel
theorem dX6_changeIfPossible_14 : decode cX6_changeIfPossible 14 = .ok (.invokespecial 180, 3) := by decide +kernel
theorem dX6_changeIfPossible_17 : decode cX6_changeIfPossible 17 = .ok (.athrow, 1) := by decide +kernel
theorem dX6_changeIfPossible_18 : decode cX6_changeIfPossible 18 = .ok (.aload_n 0, 1) := by decide +kernel
theorem dX6_changeIfPossible_19 : decode cX6_changeIfPossible 19 = .ok (.iload_n 1, 1) := by decide +kernel
theorem dX6_changeIfPossible_20 : decode cX6_changeIfPossible 20 = .ok (.lload_n 2, 1) := by decide +kernel
theorem dX6_changeIfPossible_21 : decode cX6_changeIfPossible 21 = .ok (.invokevirtual 68, 3) := by decide +kernel
theorem dX6_changeIfPossible_24 : decode cX6_changeIfPossible 24 = .ok (.ireturn, 1) := by decide +kernel
theorem dX6_platesAhead_0 : decode cX6_platesAhead 0 = .ok (.iconst 0, 1) := by decide +kernel
theorem dX6_platesAhead_1 : decode cX6_platesAhead 1 = .ok (.istore_n 2, 1) := by decide +kernel
theorem dX6_platesAhead_2 : decode cX6_platesAhead 2 = .ok (.iconst 0, 1) := by decide +kernel
theorem dX6_platesAhead_3 : decode cX6_platesAhead 3 = .ok (.istore_n 3, 1) := by decide +kernel
theorem dX6_platesAhead_4 : decode cX6_platesAhead 4 = .ok (.iload_n 3, 1) := by decide +kernel
theorem dX6_platesAhead_5 : decode cX6_platesAhead 5 = .ok (.bipush 6, 2) := by decide +kernel
theorem dX6_platesAhead_7 : decode cX6_platesAhead 7 = .ok (.if_icmp .ge 44, 3) := by decide +kernel
theorem dX6_platesAhead_10 : decode cX6_platesAhead 10 = .ok (.aload_n 0, 1) := by decide +kernel
theorem dX6_platesAhead_11 : decode cX6_platesAhead 11 = .ok (.getfield 9, 3) := by decide +kernel
theorem dX6_platesAhead_14 : decode cX6_platesAhead 14 = .ok (.iload_n 3, 1) := by decide +kernel
theorem dX6_platesAhead_15 : decode cX6_platesAhead 15 = .ok (.laload, 1) := by decide +kernel
theorem dX6_platesAhead_16 : decode cX6_platesAhead 16 = .ok (.aload_n 0, 1) := by decide +kernel
theorem dX6_platesAhead_17 : decode cX6_platesAhead 17 = .ok (.getfield 9, 3) := by decide +kernel
theorem dX6_platesAhead_20 : decode cX6_platesAhead 20 = .ok (.iload_n 1, 1) := by decide +kernel
theorem dX6_platesAhead_21 : decode cX6_platesAhead 21 = .ok (.laload, 1) := by decide +kernel
theorem dX6_platesAhead_22 : decode cX6_platesAhead 22 = .ok (.invokestatic 100, 3) := by decide +kernel
theorem dX6_platesAhead_25 : decode cX6_platesAhead 25 = .ok (.istore 4, 2) := by decide +kernel
theorem dX6_platesAhead_27 : decode cX6_platesAhead 27 = .ok (.iload 4, 2) := by decide +kernel
theorem dX6_platesAhead_29 : decode cX6_platesAhead 29 = .ok (.ifCond .gt 13, 3) := by decide +kernel
theorem dX6_platesAhead_32 : decode cX6_platesAhead 32 = .ok (.iload 4, 2) := by decide +kernel
theorem dX6_platesAhead_34 : decode cX6_platesAhead 34 = .ok (.ifCond .ne 11, 3) := by decide +kernel
theorem dX6_platesAhead_37 : decode cX6_platesAhead 37 = .ok (.iload_n 3, 1) := by decide +kernel
theorem dX6_platesAhead_38 : decode cX6_platesAhead 38 = .ok (.iload_n 1, 1) := by decide +kernel
theorem dX6_platesAhead_39 : decode cX6_platesAhead 39 = .ok (.if_icmp .ge 6, 3) := by decide +kernel
theorem dX6_platesAhead_42 : decode cX6_platesAhead 42 = .ok (.iinc 2 1, 3) := by decide +kernel
theorem dX6_platesAhead_45 : decode cX6_platesAhead 45 = .ok (.iinc 3 1, 3) := by decide +kernel
theorem dX6_platesAhead_48 : decode cX6_platesAhead 48 = .ok (.goto (-44), 3) := by decide +kernel
theorem dX6_platesAhead_51 : decode cX6_platesAhead 51 = .ok (.iload_n 2, 1) := by decide +kernel
theorem dX6_platesAhead_52 : decode cX6_platesAhead 52 = .ok (.ireturn, 1) := by decide +kernel
theorem dX6_isOnLowerPlate_0 : decode cX6_isOnLowerPlate 0 = .ok (.iconst 0, 1) := by decide +kernel
theorem dX6_isOnLowerPlate_1 : decode cX6_isOnLowerPlate 1 = .ok (.istore_n 2, 1) := by decide +kernel
theorem dX6_isOnLowerPlate_2 : decode cX6_isOnLowerPlate 2 = .ok (.iload_n 2, 1) := by decide +kernel
theorem dX6_isOnLowerPlate_3 : decode cX6_isOnLowerPlate 3 = .ok (.iload_n 1, 1) := by decide +kernel
theorem dX6_isOnLowerPlate_4 : decode cX6_isOnLowerPlate 4 = .ok (.if_icmp .ge 27, 3) := by decide +kernel
theorem dX6_isOnLowerPlate_7 : decode cX6_isOnLowerPlate 7 = .ok (.aload_n 0, 1) := by decide +kernel
theorem dX6_isOnLowerPlate_8 : decode cX6_isOnLowerPlate 8 = .ok (.getfield 9, 3) := by decide +kernel
theorem dX6_isOnLowerPlate_11 : decode cX6_isOnLowerPlate 11 = .ok (.iload_n 2, 1) := by decide +kernel
theorem dX6_isOnLowerPlate_12 : decode cX6_isOnLowerPlate 12 = .ok (.laload, 1) := by decide +kernel
theorem dX6_isOnLowerPlate_13 : decode cX6_isOnLowerPlate 13 = .ok (.aload_n 0, 1) := by decide +kernel
theorem dX6_isOnLowerPlate_14 : decode cX6_isOnLowerPlate 14 = .ok (.getfield 9, 3) := by decide +kernel
theorem dX6_isOnLowerPlate_17 : decode cX6_isOnLowerPlate 17 = .ok (.iload_n 1, 1) := by decide +kernel
theorem dX6_isOnLowerPlate_18 : decode cX6_isOnLowerPlate 18 = .ok (.laload, 1) := by decide +kernel
theorem dX6_isOnLowerPlate_19 : decode cX6_isOnLowerPlate 19 = .ok (.lcmp, 1) := by decide +kernel
theorem dX6_isOnLowerPlate_20 : decode cX6_isOnLowerPlate 20 = .ok (.ifCond .ne 5, 3) := by decide +kernel
theorem dX6_isOnLowerPlate_23 : decode cX6_isOnLowerPlate 23 = .ok (.iconst 1, 1) := by decide +kernel
theorem dX6_isOnLowerPlate_24 : decode cX6_isOnLowerPlate 24 = .ok (.ireturn, 1) := by decide +kernel
theorem dX6_isOnLowerPlate_25 : decode cX6_isOnLowerPlate 25 = .ok (.iinc 2 1, 3) := by decide +kernel
theorem dX6_isOnLowerPlate_28 : decode cX6_isOnLowerPlate 28 = .ok (.goto (-26), 3) := by decide +kernel
theorem dX6_isOnLowerPlate_31 : decode cX6_isOnLowerPlate 31 = .ok (.iconst 0, 1) := by decide +kernel
theorem dX6_isOnLowerPlate_32 : decode cX6_isOnLowerPlate 32 = .ok (.ireturn, 1) := by decide +kernel
theorem dX6_platesNotZero_0 : decode cX6_platesNotZero 0 = .ok (.iconst 0, 1) := by decide +kernel
theorem dX6_platesNotZero_1 : decode cX6_platesNotZero 1 = .ok (.istore_n 1, 1) := by decide +kernel
theorem dX6_platesNotZero_2 : decode cX6_platesNotZero 2 = .ok (.iconst 0, 1) := by decide +kernel
theorem dX6_platesNotZero_3 : decode cX6_platesNotZero 3 = .ok (.istore_n 2, 1) := by decide +kernel
theorem dX6_platesNotZero_4 : decode cX6_platesNotZero 4 = .ok (.iload_n 2, 1) := by decide +kernel
theorem dX6_platesNotZero_5 : decode cX6_platesNotZero 5 = .ok (.bipush 6, 2) := by decide +kernel
theorem dX6_platesNotZero_7 : decode cX6_platesNotZero 7 = .ok (.if_icmp .ge 23, 3) := by decide +kernel
theorem dX6_platesNotZero_10 : decode cX6_platesNotZero 10 = .ok (.aload_n 0, 1) := by decide +kernel
theorem dX6_platesNotZero_11 : decode cX6_platesNotZero 11 = .ok (.getfield 9, 3) := by decide +kernel
theorem dX6_platesNotZero_14 : decode cX6_platesNotZero 14 = .ok (.iload_n 2, 1) := by decide +kernel
theorem dX6_platesNotZero_15 : decode cX6_platesNotZero 15 = .ok (.laload, 1) := by decide +kernel
theorem dX6_platesNotZero_16 : decode cX6_platesNotZero 16 = .ok (.lconst 1, 1) := by decide +kernel
theorem dX6_platesNotZero_17 : decode cX6_platesNotZero 17 = .ok (.lcmp, 1) := by decide +kernel
theorem dX6_platesNotZero_18 : decode cX6_platesNotZero 18 = .ok (.ifCond .eq 6, 3) := by decide +kernel
theorem dX6_platesNotZero_21 : decode cX6_platesNotZero 21 = .ok (.iinc 1 1, 3) := by decide +kernel
theorem dX6_platesNotZero_24 : decode cX6_platesNotZero 24 = .ok (.iinc 2 1, 3) := by decide +kernel
theorem dX6_platesNotZero_27 : decode cX6_platesNotZero 27 = .ok (.goto (-23), 3) := by decide +kernel
theorem dX6_platesNotZero_30 : decode cX6_platesNotZero 30 = .ok (.iload_n 1, 1) := by decide +kernel
theorem dX6_platesNotZero_31 : decode cX6_platesNotZero 31 = .ok (.ireturn, 1) := by decide +kernel
theorem dX6_expandToTerm_0 : decode cX6_expandToTerm 0 = .ok (.iload_n 1, 1) := by decide +kernel
theorem dX6_expandToTerm_1 : decode cX6_expandToTerm 1 = .ok (.invokestatic 50, 3) := by decide +kernel
theorem dX6_expandToTerm_4 : decode cX6_expandToTerm 4 = .ok (.aload_n 0, 1) := by decide +kernel
theorem dX6_expandToTerm_5 : decode cX6_expandToTerm 5 = .ok (.getfield 18, 3) := by decide +kernel
theorem dX6_expandToTerm_8 : decode cX6_expandToTerm 8 = .ok (.aload_n 0, 1) := by decide +kernel
theorem dX6_expandToTerm_9 : decode cX6_expandToTerm 9 = .ok (.getfield 9, 3) := by decide +kernel
theorem dX6_expandToTerm_12 : decode cX6_expandToTerm 12 = .ok (.iload_n 1, 1) := by decide +kernel
theorem dX6_expandToTerm_13 : decode cX6_expandToTerm 13 = .ok (.laload, 1) := by decide +kernel
theorem dX6_expandToTerm_14 : decode cX6_expandToTerm 14 = .ok (.invokevirtual 124, 3) := by decide +kernel
theorem dX6_expandToTerm_17 : decode cX6_expandToTerm 17 = .ok (.iload_n 2, 1) := by decide +kernel
theorem dX6_expandToTerm_18 : decode cX6_expandToTerm 18 = .ok (.ifCond .lt 14, 3) := by decide +kernel
theorem dX6_expandToTerm_21 : decode cX6_expandToTerm 21 = .ok (.iload_n 2, 1) := by decide +kernel
theorem dX6_expandToTerm_22 : decode cX6_expandToTerm 22 = .ok (.aload_n 0, 1) := by decide +kernel
theorem dX6_expandToTerm_23 : decode cX6_expandToTerm 23 = .ok (.getfield 18, 3) := by decide +kernel
theorem dX6_expandToTerm_26 : decode cX6_expandToTerm 26 = .ok (.invokevirtual 128, 3) := by decide +kernel
theorem dX6_expandToTerm_29 : decode cX6_expandToTerm 29 = .ok (.if_icmp .lt 13, 3) := by decide +kernel
theorem dX6_expandToTerm_32 : decode cX6_expandToTerm 32 = .ok (.new 104, 3) := by decide +kernel
theorem dX6_expandToTerm_35 : decode cX6_expandToTerm 35 = .ok (.dup, 1) := by decide +kernel
theorem dX6_expandToTerm_36 : decode cX6_expandToTerm 36 = .ok (.ldc 253, 2) := by decide +kernel
theorem dX6_expandToTerm_38 : decode cX6_expandToTerm 38 = .ok (.invokespecial 108, 3) := by decide +kernel
theorem dX6_expandToTerm_41 : decode cX6_expandToTerm 41 = .ok (.athrow, 1) := by decide +kernel
theorem dX6_expandToTerm_42 : decode cX6_expandToTerm 42 = .ok (.return_, 1) := by decide +kernel
theorem dX6_nearest_0 : decode cX6_nearest 0 = .ok (.iload_n 1, 1) := by decide +kernel
theorem dX6_nearest_1 : decode cX6_nearest 1 = .ok (.invokestatic 50, 3) := by decide +kernel
theorem dX6_nearest_4 : decode cX6_nearest 4 = .ok (.iload_n 2, 1) := by decide +kernel
theorem dX6_nearest_5 : decode cX6_nearest 5 = .ok (.invokestatic 143, 3) := by decide +kernel
theorem dX6_nearest_8 : decode cX6_nearest 8 = .ok (.aload_n 0, 1) := by decide +kernel
theorem dX6_nearest_9 : decode cX6_nearest 9 = .ok (.getfield 18, 3) := by decide +kernel
theorem dX6_nearest_12 : decode cX6_nearest 12 = .ok (.aload_n 0, 1) := by decide +kernel
theorem dX6_nearest_13 : decode cX6_nearest 13 = .ok (.getfield 9, 3) := by decide +kernel
theorem dX6_nearest_16 : decode cX6_nearest 16 = .ok (.iload_n 1, 1) := by decide +kernel
theorem dX6_nearest_17 : decode cX6_nearest 17 = .ok (.laload, 1) := by decide +kernel
theorem dX6_nearest_18 : decode cX6_nearest 18 = .ok (.invokevirtual 124, 3) := by decide +kernel
theorem dX6_nearest_21 : decode cX6_nearest 21 = .ok (.aload_n 0, 1) := by decide +kernel
theorem dX6_nearest_22 : decode cX6_nearest 22 = .ok (.getfield 18, 3) := by decide +kernel
theorem dX6_nearest_25 : decode cX6_nearest 25 = .ok (.iload_n 2, 1) := by decide +kernel
theorem dX6_nearest_26 : decode cX6_nearest 26 = .ok (.invokevirtual 255, 3) := by decide +kernel
theorem dX6_nearest_29 : decode cX6_nearest 29 = .ok (.lreturn, 1) := by decide +kernel
theorem dX6_triedDenominator_0 : decode cX6_triedDenominator 0 = .ok (.iconst 1, 1) := by decide +kernel
theorem dX6_triedDenominator_1 : decode cX6_triedDenominator 1 = .ok (.istore_n 3, 1) := by decide +kernel
theorem dX6_triedDenominator_2 : decode cX6_triedDenominator 2 = .ok (.iconst 2, 1) := by decide +kernel
theorem dX6_triedDenominator_3 : decode cX6_triedDenominator 3 = .ok (.istore 4, 2) := by decide +kernel
theorem dX6_triedDenominator_5 : decode cX6_triedDenominator 5 = .ok (.iload 4, 2) := by decide +kernel
theorem dX6_triedDenominator_7 : decode cX6_triedDenominator 7 = .ok (.iload_n 2, 1) := by decide +kernel
theorem dX6_triedDenominator_8 : decode cX6_triedDenominator 8 = .ok (.if_icmp .gt 34, 3) := by decide +kernel
theorem dX6_triedDenominator_11 : decode cX6_triedDenominator 11 = .ok (.lload_n 0, 1) := by decide +kernel
theorem dX6_triedDenominator_12 : decode cX6_triedDenominator 12 = .ok (.iload 4, 2) := by decide +kernel
theorem dX6_triedDenominator_14 : decode cX6_triedDenominator 14 = .ok (.invokestatic 257, 3) := by decide +kernel
theorem dX6_triedDenominator_17 : decode cX6_triedDenominator 17 = .ok (.iload_n 3, 1) := by decide +kernel
theorem dX6_triedDenominator_18 : decode cX6_triedDenominator 18 = .ok (.i2l, 1) := by decide +kernel
theorem dX6_triedDenominator_19 : decode cX6_triedDenominator 19 = .ok (.lmul, 1) := by decide +kernel
theorem dX6_triedDenominator_20 : decode cX6_triedDenominator 20 = .ok (.lload_n 0, 1) := by decide +kernel
theorem dX6_triedDenominator_21 : decode cX6_triedDenominator 21 = .ok (.iload_n 3, 1) := by decide +kernel
theorem dX6_triedDenominator_22 : decode cX6_triedDenominator 22 = .ok (.invokestatic 257, 3) := by decide +kernel
theorem dX6_triedDenominator_25 : decode cX6_triedDenominator 25 = .ok (.iload 4, 2) := by decide +kernel
theorem dX6_triedDenominator_27 : decode cX6_triedDenominator 27 = .ok (.i2l, 1) := by decide +kernel
theorem dX6_triedDenominator_28 : decode cX6_triedDenominator 28 = .ok (.lmul, 1) := by decide +kernel
theorem dX6_triedDenominator_29 : decode cX6_triedDenominator 29 = .ok (.lcmp, 1) := by decide +kernel
theorem dX6_triedDenominator_30 : decode cX6_triedDenominator 30 = .ok (.ifCond .ge 6, 3) := by decide +kernel
theorem dX6_triedDenominator_33 : decode cX6_triedDenominator 33 = .ok (.iload 4, 2) := by decide +kernel
theorem dX6_triedDenominator_35 : decode cX6_triedDenominator 35 = .ok (.istore_n 3, 1) := by decide +kernel
theorem dX6_triedDenominator_36 : decode cX6_triedDenominator 36 = .ok (.iinc 4 1, 3) := by decide +kernel
theorem dX6_triedDenominator_39 : decode cX6_triedDenominator 39 = .ok (.goto (-34), 3) := by decide +kernel
theorem dX6_triedDenominator_42 : decode cX6_triedDenominator 42 = .ok (.iload_n 3, 1) := by decide +kernel
theorem dX6_triedDenominator_43 : decode cX6_triedDenominator 43 = .ok (.ireturn, 1) := by decide +kernel
theorem dX6_executeCommands_0 : decode cX6_executeCommands 0 = .ok (.iconst 0, 1) := by decide +kernel
theorem dX6_executeCommands_1 : decode cX6_executeCommands 1 = .ok (.istore_n 1, 1) := by decide +kernel
theorem dX6_executeCommands_2 : decode cX6_executeCommands 2 = .ok (.aload_n 0, 1) := by decide +kernel
theorem dX6_executeCommands_3 : decode cX6_executeCommands 3 = .ok (.getfield 32, 3) := by decide +kernel
theorem dX6_executeCommands_6 : decode cX6_executeCommands 6 = .ok (.invokevirtual 191, 3) := by decide +kernel
theorem dX6_executeCommands_9 : decode cX6_executeCommands 9 = .ok (.iconst 0, 1) := by decide +kernel
theorem dX6_executeCommands_10 : decode cX6_executeCommands 10 = .ok (.istore_n 2, 1) := by decide +kernel
theorem dX6_executeCommands_11 : decode cX6_executeCommands 11 = .ok (.iload_n 2, 1) := by decide +kernel
theorem dX6_executeCommands_12 : decode cX6_executeCommands 12 = .ok (.aload_n 0, 1) := by decide +kernel
theorem dX6_executeCommands_13 : decode cX6_executeCommands 13 = .ok (.getfield 25, 3) := by decide +kernel
theorem dX6_executeCommands_16 : decode cX6_executeCommands 16 = .ok (.invokevirtual 185, 3) := by decide +kernel
theorem dX6_executeCommands_19 : decode cX6_executeCommands 19 = .ok (.if_icmp .ge 50, 3) := by decide +kernel
theorem dX6_executeCommands_22 : decode cX6_executeCommands 22 = .ok (.aload_n 0, 1) := by decide +kernel
theorem dX6_executeCommands_23 : decode cX6_executeCommands 23 = .ok (.getfield 25, 3) := by decide +kernel
theorem dX6_executeCommands_26 : decode cX6_executeCommands 26 = .ok (.iload_n 2, 1) := by decide +kernel
theorem dX6_executeCommands_27 : decode cX6_executeCommands 27 = .ok (.invokevirtual 194, 3) := by decide +kernel
theorem dX6_executeCommands_30 : decode cX6_executeCommands 30 = .ok (.bipush 59, 2) := by decide +kernel
theorem dX6_executeCommands_32 : decode cX6_executeCommands 32 = .ok (.if_icmp .ne 15, 3) := by decide +kernel
theorem dX6_executeCommands_35 : decode cX6_executeCommands 35 = .ok (.aload_n 0, 1) := by decide +kernel
theorem dX6_executeCommands_36 : decode cX6_executeCommands 36 = .ok (.invokevirtual 261, 3) := by decide +kernel
theorem dX6_executeCommands_39 : decode cX6_executeCommands 39 = .ok (.ifCond .ne 5, 3) := by decide +kernel
theorem dX6_executeCommands_42 : decode cX6_executeCommands 42 = .ok (.iload_n 1, 1) := by decide +kernel
theorem dX6_executeCommands_43 : decode cX6_executeCommands 43 = .ok (.ireturn, 1) := by decide +kernel
theorem dX6_executeCommands_44 : decode cX6_executeCommands 44 = .ok (.iinc 1 1, 3) := by decide +kernel
theorem dX6_executeCommands_47 : decode cX6_executeCommands 47 = .ok (.aload_n 0, 1) := by decide +kernel
theorem dX6_executeCommands_48 : decode cX6_executeCommands 48 = .ok (.getfield 32, 3) := by decide +kernel
theorem dX6_executeCommands_51 : decode cX6_executeCommands 51 = .ok (.aload_n 0, 1) := by decide +kernel
theorem dX6_executeCommands_52 : decode cX6_executeCommands 52 = .ok (.getfield 25, 3) := by decide +kernel
theorem dX6_executeCommands_55 : decode cX6_executeCommands 55 = .ok (.iload_n 2, 1) := by decide +kernel
theorem dX6_executeCommands_56 : decode cX6_executeCommands 56 = .ok (.invokevirtual 194, 3) := by decide +kernel
theorem dX6_executeCommands_59 : decode cX6_executeCommands 59 = .ok (.invokevirtual 198, 3) := by decide +kernel
theorem dX6_executeCommands_62 : decode cX6_executeCommands 62 = .ok (.pop, 1) := by decide +kernel
theorem dX6_executeCommands_63 : decode cX6_executeCommands 63 = .ok (.iinc 2 1, 3) := by decide +kernel
theorem dX6_executeCommands_66 : decode cX6_executeCommands 66 = .ok (.goto (-55), 3) := by decide +kernel
theorem dX6_executeCommands_69 : decode cX6_executeCommands 69 = .ok (.aload_n 0, 1) := by decide +kernel
theorem dX6_executeCommands_70 : decode cX6_executeCommands 70 = .ok (.invokevirtual 261, 3) := by decide +kernel
theorem dX6_executeCommands_73 : decode cX6_executeCommands 73 = .ok (.ifCond .eq 9, 3) := by decide +kernel
theorem dX6_executeCommands_76 : decode cX6_executeCommands 76 = .ok (.iload_n 1, 1) := by decide +kernel
theorem dX6_executeCommands_77 : decode cX6_executeCommands 77 = .ok (.iconst 1, 1) := by decide +kernel
theorem dX6_executeCommands_78 : decode cX6_executeCommands 78 = .ok (.iadd, 1) := by decide +kernel
theorem dX6_executeCommands_79 : decode cX6_executeCommands 79 = .ok (.goto 4, 3) := by decide +kernel
theorem dX6_executeCommands_82 : decode cX6_executeCommands 82 = .ok (.iload_n 1, 1) := by decide +kernel
theorem dX6_executeCommands_83 : decode cX6_executeCommands 83 = .ok (.ireturn, 1) := by decide +kernel
theorem dX6_execute_0 : decode cX6_execute 0 = .ok (.aload_n 0, 1) := by decide +kernel
theorem dX6_execute_1 : decode cX6_execute 1 = .ok (.getfield 32, 3) := by decide +kernel
theorem dX6_execute_4 : decode cX6_execute 4 = .ok (.invokevirtual 264, 3) := by decide +kernel
theorem dX6_execute_7 : decode cX6_execute 7 = .ok (.istore_n 1, 1) := by decide +kernel
theorem dX6_execute_8 : decode cX6_execute 8 = .ok (.aload_n 0, 1) := by decide +kernel
theorem dX6_execute_9 : decode cX6_execute 9 = .ok (.getfield 32, 3) := by decide +kernel
theorem dX6_execute_12 : decode cX6_execute 12 = .ok (.invokevirtual 267, 3) := by decide +kernel
theorem dX6_execute_15 : decode cX6_execute 15 = .ok (.bipush 115, 2) := by decide +kernel
theorem dX6_execute_17 : decode cX6_execute 17 = .ok (.if_icmp .ne 45, 3) := by decide +kernel
theorem dX6_execute_20 : decode cX6_execute 20 = .ok (.aload_n 0, 1) := by decide +kernel
theorem dX6_execute_21 : decode cX6_execute 21 = .ok (.getfield 32, 3) := by decide +kernel
theorem dX6_execute_24 : decode cX6_execute 24 = .ok (.invokevirtual 270, 3) := by decide +kernel
theorem dX6_execute_27 : decode cX6_execute 27 = .ok (.i2l, 1) := by decide +kernel
theorem dX6_execute_28 : decode cX6_execute 28 = .ok (.aload_n 0, 1) := by decide +kernel
theorem dX6_execute_29 : decode cX6_execute 29 = .ok (.getfield 32, 3) := by decide +kernel
theorem dX6_execute_32 : decode cX6_execute 32 = .ok (.invokevirtual 273, 3) := by decide +kernel
theorem dX6_execute_35 : decode cX6_execute 35 = .ok (.i2l, 1) := by decide +kernel
theorem dX6_execute_36 : decode cX6_execute 36 = .ok (.invokestatic 64, 3) := by decide +kernel
theorem dX6_execute_39 : decode cX6_execute 39 = .ok (.lstore_n 2, 1) := by decide +kernel
theorem dX6_execute_40 : decode cX6_execute 40 = .ok (.iload_n 1, 1) := by decide +kernel
theorem dX6_execute_41 : decode cX6_execute 41 = .ok (.invokestatic 238, 3) := by decide +kernel
theorem dX6_execute_44 : decode cX6_execute 44 = .ok (.ifCond .eq 16, 3) := by decide +kernel
theorem dX6_execute_47 : decode cX6_execute 47 = .ok (.aload_n 0, 1) := by decide +kernel
theorem dX6_execute_48 : decode cX6_execute 48 = .ok (.iload_n 1, 1) := by decide +kernel
theorem dX6_execute_49 : decode cX6_execute 49 = .ok (.lload_n 2, 1) := by decide +kernel
theorem dX6_execute_50 : decode cX6_execute 50 = .ok (.invokevirtual 276, 3) := by decide +kernel
theorem dX6_execute_53 : decode cX6_execute 53 = .ok (.ifCond .eq 7, 3) := by decide +kernel
theorem dX6_execute_56 : decode cX6_execute 56 = .ok (.iconst 1, 1) := by decide +kernel
theorem dX6_execute_57 : decode cX6_execute 57 = .ok (.goto 4, 3) := by decide +kernel
theorem dX6_execute_60 : decode cX6_execute 60 = .ok (.iconst 0, 1) := by decide +kernel
theorem dX6_execute_61 : decode cX6_execute 61 = .ok (.ireturn, 1) := by decide +kernel
theorem dX6_execute_62 : decode cX6_execute 62 = .ok (.aload_n 0, 1) := by decide +kernel
theorem dX6_execute_63 : decode cX6_execute 63 = .ok (.getfield 32, 3) := by decide +kernel
theorem dX6_execute_66 : decode cX6_execute 66 = .ok (.invokevirtual 273, 3) := by decide +kernel
theorem dX6_execute_69 : decode cX6_execute 69 = .ok (.istore_n 2, 1) := by decide +kernel
theorem dX6_execute_70 : decode cX6_execute 70 = .ok (.iload_n 1, 1) := by decide +kernel
theorem dX6_execute_71 : decode cX6_execute 71 = .ok (.invokestatic 238, 3) := by decide +kernel
theorem dX6_execute_74 : decode cX6_execute 74 = .ok (.ifCond .eq 10, 3) := by decide +kernel
theorem dX6_execute_77 : decode cX6_execute 77 = .ok (.iload_n 2, 1) := by decide +kernel
theorem dX6_execute_78 : decode cX6_execute 78 = .ok (.invokestatic 238, 3) := by decide +kernel
theorem dX6_execute_81 : decode cX6_execute 81 = .ok (.ifCond .ne 5, 3) := by decide +kernel
theorem dX6_execute_84 : decode cX6_execute 84 = .ok (.iconst 0, 1) := by decide +kernel
theorem dX6_execute_85 : decode cX6_execute 85 = .ok (.ireturn, 1) := by decide +kernel
theorem dX6_execute_86 : decode cX6_execute 86 = .ok (.aload_n 0, 1) := by decide +kernel
theorem dX6_execute_87 : decode cX6_execute 87 = .ok (.getfield 32, 3) := by decide +kernel
theorem dX6_execute_90 : decode cX6_execute 90 = .ok (.invokevirtual 267, 3) := by decide +kernel
theorem dX6_execute_93 : decode cX6_execute 93 = .ok (.tableswitch 94 42 45 #[73, 31, 94, 52], 31) := by decide +kernel
theorem dX6_execute_124 : decode cX6_execute 124 = .ok (.aload_n 0, 1) := by decide +kernel
theorem dX6_execute_125 : decode cX6_execute 125 = .ok (.iload_n 1, 1) := by decide +kernel
theorem dX6_execute_126 : decode cX6_execute 126 = .ok (.aload_n 0, 1) := by decide +kernel
theorem dX6_execute_127 : decode cX6_execute 127 = .ok (.getfield 9, 3) := by decide +kernel
theorem dX6_execute_130 : decode cX6_execute 130 = .ok (.iload_n 1, 1) := by decide +kernel
theorem dX6_execute_131 : decode cX6_execute 131 = .ok (.laload, 1) := by decide +kernel
theorem dX6_execute_132 : decode cX6_execute 132 = .ok (.aload_n 0, 1) := by decide +kernel
theorem dX6_execute_133 : decode cX6_execute 133 = .ok (.getfield 9, 3) := by decide +kernel
theorem dX6_execute_136 : decode cX6_execute 136 = .ok (.iload_n 2, 1) := by decide +kernel
theorem dX6_execute_137 : decode cX6_execute 137 = .ok (.laload, 1) := by decide +kernel
theorem dX6_execute_138 : decode cX6_execute 138 = .ok (.invokestatic 72, 3) := by decide +kernel
theorem dX6_execute_141 : decode cX6_execute 141 = .ok (.invokevirtual 276, 3) := by decide +kernel
theorem dX6_execute_144 : decode cX6_execute 144 = .ok (.ireturn, 1) := by decide +kernel
theorem dX6_execute_145 : decode cX6_execute 145 = .ok (.aload_n 0, 1) := by decide +kernel
theorem dX6_execute_146 : decode cX6_execute 146 = .ok (.iload_n 1, 1) := by decide +kernel
theorem dX6_execute_147 : decode cX6_execute 147 = .ok (.aload_n 0, 1) := by decide +kernel
theorem dX6_execute_148 : decode cX6_execute 148 = .ok (.getfield 9, 3) := by decide +kernel
theorem dX6_execute_151 : decode cX6_execute 151 = .ok (.iload_n 1, 1) := by decide +kernel
theorem dX6_execute_152 : decode cX6_execute 152 = .ok (.laload, 1) := by decide +kernel
theorem dX6_execute_153 : decode cX6_execute 153 = .ok (.aload_n 0, 1) := by decide +kernel
theorem dX6_execute_154 : decode cX6_execute 154 = .ok (.getfield 9, 3) := by decide +kernel
theorem dX6_execute_157 : decode cX6_execute 157 = .ok (.iload_n 2, 1) := by decide +kernel
theorem dX6_execute_158 : decode cX6_execute 158 = .ok (.laload, 1) := by decide +kernel
theorem dX6_execute_159 : decode cX6_execute 159 = .ok (.invokestatic 78, 3) := by decide +kernel
theorem dX6_execute_162 : decode cX6_execute 162 = .ok (.invokevirtual 276, 3) := by decide +kernel
theorem dX6_execute_165 : decode cX6_execute 165 = .ok (.ireturn, 1) := by decide +kernel
theorem dX6_execute_166 : decode cX6_execute 166 = .ok (.aload_n 0, 1) := by decide +kernel
theorem dX6_execute_167 : decode cX6_execute 167 = .ok (.iload_n 1, 1) := by decide +kernel
theorem dX6_execute_168 : decode cX6_execute 168 = .ok (.aload_n 0, 1) := by decide +kernel
theorem dX6_execute_169 : decode cX6_execute 169 = .ok (.getfield 9, 3) := by decide +kernel
theorem dX6_execute_172 : decode cX6_execute 172 = .ok (.iload_n 1, 1) := by decide +kernel
theorem dX6_execute_173 : decode cX6_execute 173 = .ok (.laload, 1) := by decide +kernel
theorem dX6_execute_174 : decode cX6_execute 174 = .ok (.aload_n 0, 1) := by decide +kernel
theorem dX6_execute_175 : decode cX6_execute 175 = .ok (.getfield 9, 3) := by decide +kernel
theorem dX6_execute_178 : decode cX6_execute 178 = .ok (.iload_n 2, 1) := by decide +kernel
theorem dX6_execute_179 : decode cX6_execute 179 = .ok (.laload, 1) := by decide +kernel
theorem dX6_execute_180 : decode cX6_execute 180 = .ok (.invokestatic 81, 3) := by decide +kernel
theorem dX6_execute_183 : decode cX6_execute 183 = .ok (.invokevirtual 276, 3) := by decide +kernel
theorem dX6_execute_186 : decode cX6_execute 186 = .ok (.ireturn, 1) := by decide +kernel
theorem dX6_execute_187 : decode cX6_execute 187 = .ok (.aload_n 0, 1) := by decide +kernel
theorem dX6_execute_188 : decode cX6_execute 188 = .ok (.iload_n 2, 1) := by decide +kernel
theorem dX6_execute_189 : decode cX6_execute 189 = .ok (.aload_n 0, 1) := by decide +kernel
theorem dX6_execute_190 : decode cX6_execute 190 = .ok (.getfield 9, 3) := by decide +kernel
theorem dX6_execute_193 : decode cX6_execute 193 = .ok (.iload_n 1, 1) := by decide +kernel
theorem dX6_execute_194 : decode cX6_execute 194 = .ok (.laload, 1) := by decide +kernel
theorem dX6_execute_195 : decode cX6_execute 195 = .ok (.invokevirtual 276, 3) := by decide +kernel
theorem dX6_execute_198 : decode cX6_execute 198 = .ok (.ireturn, 1) := by decide +kernel
theorem dX6_putIfPossible_0 : decode cX6_putIfPossible 0 = .ok (.lload_n 2, 1) := by decide +kernel
theorem dX6_putIfPossible_1 : decode cX6_putIfPossible 1 = .ok (.ldc2_w 118, 3) := by decide +kernel
theorem dX6_putIfPossible_4 : decode cX6_putIfPossible 4 = .ok (.lcmp, 1) := by decide +kernel
theorem dX6_putIfPossible_5 : decode cX6_putIfPossible 5 = .ok (.ifCond .ne 5, 3) := by decide +kernel
theorem dX6_putIfPossible_8 : decode cX6_putIfPossible 8 = .ok (.iconst 0, 1) := by decide +kernel
theorem dX6_putIfPossible_9 : decode cX6_putIfPossible 9 = .ok (.ireturn, 1) := by decide +kernel
theorem dX6_putIfPossible_10 : decode cX6_putIfPossible 10 = .ok (.aload_n 0, 1) := by decide +kernel
theorem dX6_putIfPossible_11 : decode cX6_putIfPossible 11 = .ok (.getfield 9, 3) := by decide +kernel
theorem dX6_putIfPossible_14 : decode cX6_putIfPossible 14 = .ok (.iload_n 1, 1) := by decide +kernel
theorem dX6_putIfPossible_15 : decode cX6_putIfPossible 15 = .ok (.lload_n 2, 1) := by decide +kernel
theorem dX6_putIfPossible_16 : decode cX6_putIfPossible 16 = .ok (.lastore, 1) := by decide +kernel
theorem dX6_putIfPossible_17 : decode cX6_putIfPossible 17 = .ok (.iconst 1, 1) := by decide +kernel
theorem dX6_putIfPossible_18 : decode cX6_putIfPossible 18 = .ok (.ireturn, 1) := by decide +kernel
theorem dX7_init_0 : decode cX7_init 0 = .ok (.aload_n 0, 1) := by decide +kernel
theorem dX7_init_1 : decode cX7_init 1 = .ok (.invokespecial 1, 3) := by decide +kernel
theorem dX7_init_4 : decode cX7_init 4 = .ok (.aload_n 0, 1) := by decide +kernel
theorem dX7_init_5 : decode cX7_init 5 = .ok (.bipush 12, 2) := by decide +kernel
theorem dX7_init_7 : decode cX7_init 7 = .ok (.newarray .int, 2) := by decide +kernel
theorem dX7_init_9 : decode cX7_init 9 = .ok (.putfield 7, 3) := by decide +kernel
theorem dX7_init_12 : decode cX7_init 12 = .ok (.aload_n 0, 1) := by decide +kernel
theorem dX7_init_13 : decode cX7_init 13 = .ok (.bipush 72, 2) := by decide +kernel
theorem dX7_init_15 : decode cX7_init 15 = .ok (.newarray .int, 2) := by decide +kernel
theorem dX7_init_17 : decode cX7_init 17 = .ok (.putfield 13, 3) := by decide +kernel
theorem dX7_init_20 : decode cX7_init 20 = .ok (.aload_n 0, 1) := by decide +kernel
theorem dX7_init_21 : decode cX7_init 21 = .ok (.bipush 24, 2) := by decide +kernel
theorem dX7_init_23 : decode cX7_init 23 = .ok (.newarray .int, 2) := by decide +kernel
theorem dX7_init_25 : decode cX7_init 25 = .ok (.putfield 16, 3) := by decide +kernel
theorem dX7_init_28 : decode cX7_init 28 = .ok (.aload_n 0, 1) := by decide +kernel
theorem dX7_init_29 : decode cX7_init 29 = .ok (.iconst 2, 1) := by decide +kernel
theorem dX7_init_30 : decode cX7_init 30 = .ok (.newarray .boolean, 2) := by decide +kernel
theorem dX7_init_32 : decode cX7_init 32 = .ok (.putfield 19, 3) := by decide +kernel
theorem dX7_init_35 : decode cX7_init 35 = .ok (.aload_n 0, 1) := by decide +kernel
theorem dX7_init_36 : decode cX7_init 36 = .ok (.bipush 80, 2) := by decide +kernel
theorem dX7_init_38 : decode cX7_init 38 = .ok (.newarray .int, 2) := by decide +kernel
theorem dX7_init_40 : decode cX7_init 40 = .ok (.putfield 23, 3) := by decide +kernel
theorem dX7_init_43 : decode cX7_init 43 = .ok (.aload_n 0, 1) := by decide +kernel
theorem dX7_init_44 : decode cX7_init 44 = .ok (.bipush 84, 2) := by decide +kernel
theorem dX7_init_46 : decode cX7_init 46 = .ok (.newarray .int, 2) := by decide +kernel
theorem dX7_init_48 : decode cX7_init 48 = .ok (.putfield 26, 3) := by decide +kernel
theorem dX7_init_51 : decode cX7_init 51 = .ok (.aload_n 0, 1) := by decide +kernel
theorem dX7_init_52 : decode cX7_init 52 = .ok (.bipush 40, 2) := by decide +kernel
theorem dX7_init_54 : decode cX7_init 54 = .ok (.newarray .int, 2) := by decide +kernel
theorem dX7_init_56 : decode cX7_init 56 = .ok (.putfield 29, 3) := by decide +kernel
theorem dX7_init_59 : decode cX7_init 59 = .ok (.aload_n 0, 1) := by decide +kernel
theorem dX7_init_60 : decode cX7_init 60 = .ok (.bipush 40, 2) := by decide +kernel
theorem dX7_init_62 : decode cX7_init 62 = .ok (.newarray .int, 2) := by decide +kernel
theorem dX7_init_64 : decode cX7_init 64 = .ok (.putfield 32, 3) := by decide +kernel
theorem dX7_init_67 : decode cX7_init 67 = .ok (.aload_n 0, 1) := by decide +kernel
theorem dX7_init_68 : decode cX7_init 68 = .ok (.iconst 0, 1) := by decide +kernel
theorem dX7_init_69 : decode cX7_init 69 = .ok (.putfield 35, 3) := by decide +kernel
theorem dX7_init_72 : decode cX7_init 72 = .ok (.iconst 0, 1) := by decide +kernel
theorem dX7_init_73 : decode cX7_init 73 = .ok (.istore_n 1, 1) := by decide +kernel
theorem dX7_init_74 : decode cX7_init 74 = .ok (.iload_n 1, 1) := by decide +kernel
theorem dX7_init_75 : decode cX7_init 75 = .ok (.bipush 6, 2) := by decide +kernel
theorem dX7_init_77 : decode cX7_init 77 = .ok (.if_icmp .ge 20, 3) := by decide +kernel
theorem dX7_init_80 : decode cX7_init 80 = .ok (.aload_n 0, 1) := by decide +kernel
theorem dX7_init_81 : decode cX7_init 81 = .ok (.getfield 7, 3) := by decide +kernel
theorem dX7_init_84 : decode cX7_init 84 = .ok (.iconst 2, 1) := by decide +kernel
theorem dX7_init_85 : decode cX7_init 85 = .ok (.iload_n 1, 1) := by decide +kernel
theorem dX7_init_86 : decode cX7_init 86 = .ok (.imul, 1) := by decide +kernel
theorem dX7_init_87 : decode cX7_init 87 = .ok (.iconst 1, 1) := by decide +kernel
theorem dX7_init_88 : decode cX7_init 88 = .ok (.iadd, 1) := by decide +kernel
theorem dX7_init_89 : decode cX7_init 89 = .ok (.iconst 1, 1) := by decide +kernel
theorem dX7_init_90 : decode cX7_init 90 = .ok (.iastore, 1) := by decide +kernel
theorem dX7_init_91 : decode cX7_init 91 = .ok (.iinc 1 1, 3) := by decide +kernel
theorem dX7_init_94 : decode cX7_init 94 = .ok (.goto (-20), 3) := by decide +kernel
theorem dX7_init_97 : decode cX7_init 97 = .ok (.return_, 1) := by decide +kernel
theorem dX7_thrown_0 : decode cX7_thrown 0 = .ok (.aload_n 0, 1) := by decide +kernel
theorem dX7_thrown_1 : decode cX7_thrown 1 = .ok (.getfield 35, 3) := by decide +kernel
theorem dX7_thrown_4 : decode cX7_thrown 4 = .ok (.ireturn, 1) := by decide +kernel
theorem dX7_fails_0 : decode cX7_fails 0 = .ok (.aload_n 0, 1) := by decide +kernel
theorem dX7_fails_1 : decode cX7_fails 1 = .ok (.iload_n 1, 1) := by decide +kernel
theorem dX7_fails_2 : decode cX7_fails 2 = .ok (.putfield 35, 3) := by decide +kernel
theorem dX7_fails_5 : decode cX7_fails 5 = .ok (.iconst 0, 1) := by decide +kernel
theorem dX7_fails_6 : decode cX7_fails 6 = .ok (.ireturn, 1) := by decide +kernel
theorem dX7_in_0 : decode cX7_in 0 = .ok (.iload_n 0, 1) := by decide +kernel
theorem dX7_in_1 : decode cX7_in 1 = .ok (.iload_n 1, 1) := by decide +kernel
theorem dX7_in_2 : decode cX7_in 2 = .ok (.if_icmp .lt 12, 3) := by decide +kernel
theorem dX7_in_5 : decode cX7_in 5 = .ok (.iload_n 0, 1) := by decide +kernel
theorem dX7_in_6 : decode cX7_in 6 = .ok (.iload_n 2, 1) := by decide +kernel
theorem dX7_in_7 : decode cX7_in 7 = .ok (.if_icmp .gt 7, 3) := by decide +kernel
theorem dX7_in_10 : decode cX7_in 10 = .ok (.iconst 1, 1) := by decide +kernel
theorem dX7_in_11 : decode cX7_in 11 = .ok (.goto 4, 3) := by decide +kernel
theorem dX7_in_14 : decode cX7_in 14 = .ok (.iconst 0, 1) := by decide +kernel
theorem dX7_in_15 : decode cX7_in 15 = .ok (.ireturn, 1) := by decide +kernel
theorem dX7_isPlate_0 : decode cX7_isPlate 0 = .ok (.iload_n 0, 1) := by decide +kernel
theorem dX7_isPlate_1 : decode cX7_isPlate 1 = .ok (.iconst 0, 1) := by decide +kernel
theorem dX7_isPlate_2 : decode cX7_isPlate 2 = .ok (.iconst 5, 1) := by decide +kernel
theorem dX7_isPlate_3 : decode cX7_isPlate 3 = .ok (.invokestatic 39, 3) := by decide +kernel
theorem dX7_isPlate_6 : decode cX7_isPlate 6 = .ok (.ireturn, 1) := by decide +kernel
theorem dX7_arePlates_0 : decode cX7_arePlates 0 = .ok (.iload_n 0, 1) := by decide +kernel
theorem dX7_arePlates_1 : decode cX7_arePlates 1 = .ok (.invokestatic 43, 3) := by decide +kernel
theorem dX7_arePlates_4 : decode cX7_arePlates 4 = .ok (.ifCond .eq 14, 3) := by decide +kernel
theorem dX7_arePlates_7 : decode cX7_arePlates 7 = .ok (.iload_n 1, 1) := by decide +kernel
theorem dX7_arePlates_8 : decode cX7_arePlates 8 = .ok (.invokestatic 43, 3) := by decide +kernel
theorem dX7_arePlates_11 : decode cX7_arePlates 11 = .ok (.ifCond .eq 7, 3) := by decide +kernel
theorem dX7_arePlates_14 : decode cX7_arePlates 14 = .ok (.iconst 1, 1) := by decide +kernel
theorem dX7_arePlates_15 : decode cX7_arePlates 15 = .ok (.goto 4, 3) := by decide +kernel
theorem dX7_arePlates_18 : decode cX7_arePlates 18 = .ok (.iconst 0, 1) := by decide +kernel
theorem dX7_arePlates_19 : decode cX7_arePlates 19 = .ok (.ireturn, 1) := by decide +kernel
theorem dX7_above_0 : decode cX7_above 0 = .ok (.aload_n 0, 1) := by decide +kernel
theorem dX7_above_1 : decode cX7_above 1 = .ok (.getfield 7, 3) := by decide +kernel
theorem dX7_above_4 : decode cX7_above 4 = .ok (.iconst 2, 1) := by decide +kernel
theorem dX7_above_5 : decode cX7_above 5 = .ok (.iload_n 1, 1) := by decide +kernel
theorem dX7_above_6 : decode cX7_above 6 = .ok (.imul, 1) := by decide +kernel
theorem dX7_above_7 : decode cX7_above 7 = .ok (.iaload, 1) := by decide +kernel
theorem dX7_above_8 : decode cX7_above 8 = .ok (.ireturn, 1) := by decide +kernel
theorem dX7_below_0 : decode cX7_below 0 = .ok (.aload_n 0, 1) := by decide +kernel
theorem dX7_below_1 : decode cX7_below 1 = .ok (.getfield 7, 3) := by decide +kernel
theorem dX7_below_4 : decode cX7_below 4 = .ok (.iconst 2, 1) := by decide +kernel
theorem dX7_below_5 : decode cX7_below 5 = .ok (.iload_n 1, 1) := by decide +kernel
theorem dX7_below_6 : decode cX7_below 6 = .ok (.imul, 1) := by decide +kernel
theorem dX7_below_7 : decode cX7_below 7 = .ok (.iconst 1, 1) := by decide +kernel
theorem dX7_below_8 : decode cX7_below 8 = .ok (.iadd, 1) := by decide +kernel
theorem dX7_below_9 : decode cX7_below 9 = .ok (.iaload, 1) := by decide +kernel
theorem dX7_below_10 : decode cX7_below 10 = .ok (.ireturn, 1) := by decide +kernel
theorem dX7_records_0 : decode cX7_records 0 = .ok (.aload_n 0, 1) := by decide +kernel
theorem dX7_records_1 : decode cX7_records 1 = .ok (.getfield 47, 3) := by decide +kernel
theorem dX7_records_4 : decode cX7_records 4 = .ok (.bipush 6, 2) := by decide +kernel
theorem dX7_records_6 : decode cX7_records 6 = .ok (.if_icmp .ne 42, 3) := by decide +kernel
theorem dX7_records_9 : decode cX7_records 9 = .ok (.iconst 0, 1) := by decide +kernel
theorem dX7_records_10 : decode cX7_records 10 = .ok (.istore_n 1, 1) := by decide +kernel
theorem dX7_records_11 : decode cX7_records 11 = .ok (.iload_n 1, 1) := by decide +kernel
theorem dX7_records_12 : decode cX7_records 12 = .ok (.bipush 60, 2) := by decide +kernel
theorem dX7_records_14 : decode cX7_records 14 = .ok (.if_icmp .ge 24, 3) := by decide +kernel
theorem dX7_records_17 : decode cX7_records 17 = .ok (.aload_n 0, 1) := by decide +kernel
theorem dX7_records_18 : decode cX7_records 18 = .ok (.getfield 13, 3) := by decide +kernel
theorem dX7_records_21 : decode cX7_records 21 = .ok (.iload_n 1, 1) := by decide +kernel
theorem dX7_records_22 : decode cX7_records 22 = .ok (.aload_n 0, 1) := by decide +kernel
theorem dX7_records_23 : decode cX7_records 23 = .ok (.getfield 13, 3) := by decide +kernel
theorem dX7_records_26 : decode cX7_records 26 = .ok (.iload_n 1, 1) := by decide +kernel
theorem dX7_records_27 : decode cX7_records 27 = .ok (.bipush 12, 2) := by decide +kernel
theorem dX7_records_29 : decode cX7_records 29 = .ok (.iadd, 1) := by decide +kernel
theorem dX7_records_30 : decode cX7_records 30 = .ok (.iaload, 1) := by decide +kernel
theorem dX7_records_31 : decode cX7_records 31 = .ok (.iastore, 1) := by decide +kernel
theorem dX7_records_32 : decode cX7_records 32 = .ok (.iinc 1 1, 3) := by decide +kernel
theorem dX7_records_35 : decode cX7_records 35 = .ok (.goto (-24), 3) := by decide +kernel
theorem dX7_records_38 : decode cX7_records 38 = .ok (.aload_n 0, 1) := by decide +kernel
theorem dX7_records_39 : decode cX7_records 39 = .ok (.dup, 1) := by decide +kernel
theorem dX7_records_40 : decode cX7_records 40 = .ok (.getfield 47, 3) := by decide +kernel
theorem dX7_records_43 : decode cX7_records 43 = .ok (.iconst 1, 1) := by decide +kernel
theorem dX7_records_44 : decode cX7_records 44 = .ok (.isub, 1) := by decide +kernel
theorem dX7_records_45 : decode cX7_records 45 = .ok (.putfield 47, 3) := by decide +kernel
theorem dX7_records_48 : decode cX7_records 48 = .ok (.iconst 0, 1) := by decide +kernel
theorem dX7_records_49 : decode cX7_records 49 = .ok (.istore_n 1, 1) := by decide +kernel
theorem dX7_records_50 : decode cX7_records 50 = .ok (.iload_n 1, 1) := by decide +kernel
theorem dX7_records_51 : decode cX7_records 51 = .ok (.bipush 12, 2) := by decide +kernel
theorem dX7_records_53 : decode cX7_records 53 = .ok (.if_icmp .ge 29, 3) := by decide +kernel
theorem dX7_records_56 : decode cX7_records 56 = .ok (.aload_n 0, 1) := by decide +kernel
theorem dX7_records_57 : decode cX7_records 57 = .ok (.getfield 13, 3) := by decide +kernel
theorem dX7_records_60 : decode cX7_records 60 = .ok (.bipush 12, 2) := by decide +kernel
theorem dX7_records_62 : decode cX7_records 62 = .ok (.aload_n 0, 1) := by decide +kernel
theorem dX7_records_63 : decode cX7_records 63 = .ok (.getfield 47, 3) := by decide +kernel
theorem dX7_records_66 : decode cX7_records 66 = .ok (.imul, 1) := by decide +kernel
theorem dX7_records_67 : decode cX7_records 67 = .ok (.iload_n 1, 1) := by decide +kernel
theorem dX7_records_68 : decode cX7_records 68 = .ok (.iadd, 1) := by decide +kernel
theorem dX7_records_69 : decode cX7_records 69 = .ok (.aload_n 0, 1) := by decide +kernel
theorem dX7_records_70 : decode cX7_records 70 = .ok (.getfield 7, 3) := by decide +kernel
theorem dX7_records_73 : decode cX7_records 73 = .ok (.iload_n 1, 1) := by decide +kernel
theorem dX7_records_74 : decode cX7_records 74 = .ok (.iaload, 1) := by decide +kernel
theorem dX7_records_75 : decode cX7_records 75 = .ok (.iastore, 1) := by decide +kernel
theorem dX7_records_76 : decode cX7_records 76 = .ok (.iinc 1 1, 3) := by decide +kernel
theorem dX7_records_79 : decode cX7_records 79 = .ok (.goto (-29), 3) := by decide +kernel
theorem dX7_records_82 : decode cX7_records 82 = .ok (.aload_n 0, 1) := by decide +kernel
theorem dX7_records_83 : decode cX7_records 83 = .ok (.dup, 1) := by decide +kernel
theorem dX7_records_84 : decode cX7_records 84 = .ok (.getfield 47, 3) := by decide +kernel
theorem dX7_records_87 : decode cX7_records 87 = .ok (.iconst 1, 1) := by decide +kernel
theorem dX7_records_88 : decode cX7_records 88 = .ok (.iadd, 1) := by decide +kernel
theorem dX7_records_89 : decode cX7_records 89 = .ok (.putfield 47, 3) := by decide +kernel
theorem dX7_records_92 : decode cX7_records 92 = .ok (.return_, 1) := by decide +kernel
theorem dX7_divisor_0 : decode cX7_divisor 0 = .ok (.lload_n 0, 1) := by decide +kernel
theorem dX7_divisor_1 : decode cX7_divisor 1 = .ok (.lstore 4, 2) := by decide +kernel
theorem dX7_divisor_3 : decode cX7_divisor 3 = .ok (.lload_n 2, 1) := by decide +kernel
theorem dX7_divisor_4 : decode cX7_divisor 4 = .ok (.lstore 6, 2) := by decide +kernel
theorem dX7_divisor_6 : decode cX7_divisor 6 = .ok (.lload 6, 2) := by decide +kernel
theorem dX7_divisor_8 : decode cX7_divisor 8 = .ok (.lconst 0, 1) := by decide +kernel
theorem dX7_divisor_9 : decode cX7_divisor 9 = .ok (.lcmp, 1) := by decide +kernel
theorem dX7_divisor_10 : decode cX7_divisor 10 = .ok (.ifCond .eq 21, 3) := by decide +kernel
theorem dX7_divisor_13 : decode cX7_divisor 13 = .ok (.lload 4, 2) := by decide +kernel
theorem dX7_divisor_15 : decode cX7_divisor 15 = .ok (.lload 6, 2) := by decide +kernel
theorem dX7_divisor_17 : decode cX7_divisor 17 = .ok (.lrem, 1) := by decide +kernel
theorem dX7_divisor_18 : decode cX7_divisor 18 = .ok (.lstore 8, 2) := by decide +kernel
theorem dX7_divisor_20 : decode cX7_divisor 20 = .ok (.lload 6, 2) := by decide +kernel
theorem dX7_divisor_22 : decode cX7_divisor 22 = .ok (.lstore 4, 2) := by decide +kernel
theorem dX7_divisor_24 : decode cX7_divisor 24 = .ok (.lload 8, 2) := by decide +kernel
theorem dX7_divisor_26 : decode cX7_divisor 26 = .ok (.lstore 6, 2) := by decide +kernel
theorem dX7_divisor_28 : decode cX7_divisor 28 = .ok (.goto (-22), 3) := by decide +kernel
theorem dX7_divisor_31 : decode cX7_divisor 31 = .ok (.lload 4, 2) := by decide +kernel
theorem dX7_divisor_33 : decode cX7_divisor 33 = .ok (.lreturn, 1) := by decide +kernel
theorem dX7_makes_0 : decode cX7_makes 0 = .ok (.lload_n 3, 1) := by decide +kernel
theorem dX7_makes_1 : decode cX7_makes 1 = .ok (.lload_n 1, 1) := by decide +kernel
theorem dX7_makes_2 : decode cX7_makes 2 = .ok (.invokestatic 50, 3) := by decide +kernel
theorem dX7_makes_5 : decode cX7_makes 5 = .ok (.lstore 5, 2) := by decide +kernel
theorem dX7_makes_7 : decode cX7_makes 7 = .ok (.aload_n 0, 1) := by decide +kernel
theorem dX7_makes_8 : decode cX7_makes 8 = .ok (.lload_n 1, 1) := by decide +kernel
theorem dX7_makes_9 : decode cX7_makes 9 = .ok (.lload 5, 2) := by decide +kernel
theorem dX7_makes_11 : decode cX7_makes 11 = .ok (.ldiv, 1) := by decide +kernel
theorem dX7_makes_12 : decode cX7_makes 12 = .ok (.putfield 54, 3) := by decide +kernel
theorem dX7_makes_15 : decode cX7_makes 15 = .ok (.aload_n 0, 1) := by decide +kernel
theorem dX7_makes_16 : decode cX7_makes 16 = .ok (.lload_n 3, 1) := by decide +kernel
theorem dX7_makes_17 : decode cX7_makes 17 = .ok (.lload 5, 2) := by decide +kernel
theorem dX7_makes_19 : decode cX7_makes 19 = .ok (.ldiv, 1) := by decide +kernel
theorem dX7_makes_20 : decode cX7_makes 20 = .ok (.putfield 58, 3) := by decide +kernel
theorem dX7_makes_23 : decode cX7_makes 23 = .ok (.lload_n 1, 1) := by decide +kernel
theorem dX7_makes_24 : decode cX7_makes 24 = .ok (.lconst 0, 1) := by decide +kernel
theorem dX7_makes_25 : decode cX7_makes 25 = .ok (.lcmp, 1) := by decide +kernel
theorem dX7_makes_26 : decode cX7_makes 26 = .ok (.ifCond .lt 29, 3) := by decide +kernel
theorem dX7_makes_29 : decode cX7_makes 29 = .ok (.aload_n 0, 1) := by decide +kernel
theorem dX7_makes_30 : decode cX7_makes 30 = .ok (.getfield 54, 3) := by decide +kernel
theorem dX7_makes_33 : decode cX7_makes 33 = .ok (.ldc2_w 61, 3) := by decide +kernel
theorem dX7_makes_36 : decode cX7_makes 36 = .ok (.lcmp, 1) := by decide +kernel
theorem dX7_makes_37 : decode cX7_makes 37 = .ok (.ifCond .gt 18, 3) := by decide +kernel
theorem dX7_makes_40 : decode cX7_makes 40 = .ok (.aload_n 0, 1) := by decide +kernel
theorem dX7_makes_41 : decode cX7_makes 41 = .ok (.getfield 58, 3) := by decide +kernel
theorem dX7_makes_44 : decode cX7_makes 44 = .ok (.ldc2_w 61, 3) := by decide +kernel
theorem dX7_makes_47 : decode cX7_makes 47 = .ok (.lcmp, 1) := by decide +kernel
theorem dX7_makes_48 : decode cX7_makes 48 = .ok (.ifCond .gt 7, 3) := by decide +kernel
theorem dX7_makes_51 : decode cX7_makes 51 = .ok (.iconst 1, 1) := by decide +kernel
theorem dX7_makes_52 : decode cX7_makes 52 = .ok (.goto 4, 3) := by decide +kernel
theorem dX7_makes_55 : decode cX7_makes 55 = .ok (.iconst 0, 1) := by decide +kernel
theorem dX7_makes_56 : decode cX7_makes 56 = .ok (.ireturn, 1) := by decide +kernel
theorem dX7_makesSum_0 : decode cX7_makesSum 0 = .ok (.aload_n 0, 1) := by decide +kernel
theorem dX7_makesSum_1 : decode cX7_makesSum 1 = .ok (.aload_n 0, 1) := by decide +kernel
theorem dX7_makesSum_2 : decode cX7_makesSum 2 = .ok (.iload_n 1, 1) := by decide +kernel
theorem dX7_makesSum_3 : decode cX7_makesSum 3 = .ok (.invokevirtual 63, 3) := by decide +kernel
theorem dX7_makesSum_6 : decode cX7_makesSum 6 = .ok (.i2l, 1) := by decide +kernel
theorem dX7_makesSum_7 : decode cX7_makesSum 7 = .ok (.aload_n 0, 1) := by decide +kernel
theorem dX7_makesSum_8 : decode cX7_makesSum 8 = .ok (.iload_n 2, 1) := by decide +kernel
theorem dX7_makesSum_9 : decode cX7_makesSum 9 = .ok (.invokevirtual 67, 3) := by decide +kernel
theorem dX7_makesSum_12 : decode cX7_makesSum 12 = .ok (.i2l, 1) := by decide +kernel
theorem dX7_makesSum_13 : decode cX7_makesSum 13 = .ok (.lmul, 1) := by decide +kernel
theorem dX7_makesSum_14 : decode cX7_makesSum 14 = .ok (.iload_n 3, 1) := by decide +kernel
theorem dX7_makesSum_15 : decode cX7_makesSum 15 = .ok (.i2l, 1) := by decide +kernel
theorem dX7_makesSum_16 : decode cX7_makesSum 16 = .ok (.aload_n 0, 1) := by decide +kernel
theorem dX7_makesSum_17 : decode cX7_makesSum 17 = .ok (.iload_n 2, 1) := by decide +kernel
theorem dX7_makesSum_18 : decode cX7_makesSum 18 = .ok (.invokevirtual 63, 3) := by decide +kernel
theorem dX7_makesSum_21 : decode cX7_makesSum 21 = .ok (.i2l, 1) := by decide +kernel
theorem dX7_makesSum_22 : decode cX7_makesSum 22 = .ok (.lmul, 1) := by decide +kernel
theorem dX7_makesSum_23 : decode cX7_makesSum 23 = .ok (.aload_n 0, 1) := by decide +kernel
theorem dX7_makesSum_24 : decode cX7_makesSum 24 = .ok (.iload_n 1, 1) := by decide +kernel
theorem dX7_makesSum_25 : decode cX7_makesSum 25 = .ok (.invokevirtual 67, 3) := by decide +kernel
theorem dX7_makesSum_28 : decode cX7_makesSum 28 = .ok (.i2l, 1) := by decide +kernel
theorem dX7_makesSum_29 : decode cX7_makesSum 29 = .ok (.lmul, 1) := by decide +kernel
theorem dX7_makesSum_30 : decode cX7_makesSum 30 = .ok (.ladd, 1) := by decide +kernel
theorem dX7_makesSum_31 : decode cX7_makesSum 31 = .ok (.aload_n 0, 1) := by decide +kernel
theorem dX7_makesSum_32 : decode cX7_makesSum 32 = .ok (.iload_n 1, 1) := by decide +kernel
theorem dX7_makesSum_33 : decode cX7_makesSum 33 = .ok (.invokevirtual 67, 3) := by decide +kernel
theorem dX7_makesSum_36 : decode cX7_makesSum 36 = .ok (.i2l, 1) := by decide +kernel
theorem dX7_makesSum_37 : decode cX7_makesSum 37 = .ok (.aload_n 0, 1) := by decide +kernel
theorem dX7_makesSum_38 : decode cX7_makesSum 38 = .ok (.iload_n 2, 1) := by decide +kernel
theorem dX7_makesSum_39 : decode cX7_makesSum 39 = .ok (.invokevirtual 67, 3) := by decide +kernel
theorem dX7_makesSum_42 : decode cX7_makesSum 42 = .ok (.i2l, 1) := by decide +kernel
theorem dX7_makesSum_43 : decode cX7_makesSum 43 = .ok (.lmul, 1) := by decide +kernel
theorem dX7_makesSum_44 : decode cX7_makesSum 44 = .ok (.invokevirtual 70, 3) := by decide +kernel
theorem dX7_makesSum_47 : decode cX7_makesSum 47 = .ok (.ireturn, 1) := by decide +kernel
theorem dX7_makesProduct_0 : decode cX7_makesProduct 0 = .ok (.aload_n 0, 1) := by decide +kernel
theorem dX7_makesProduct_1 : decode cX7_makesProduct 1 = .ok (.aload_n 0, 1) := by decide +kernel
theorem dX7_makesProduct_2 : decode cX7_makesProduct 2 = .ok (.iload_n 1, 1) := by decide +kernel
theorem dX7_makesProduct_3 : decode cX7_makesProduct 3 = .ok (.invokevirtual 63, 3) := by decide +kernel
theorem dX7_makesProduct_6 : decode cX7_makesProduct 6 = .ok (.i2l, 1) := by decide +kernel
theorem dX7_makesProduct_7 : decode cX7_makesProduct 7 = .ok (.aload_n 0, 1) := by decide +kernel
theorem dX7_makesProduct_8 : decode cX7_makesProduct 8 = .ok (.iload_n 2, 1) := by decide +kernel
theorem dX7_makesProduct_9 : decode cX7_makesProduct 9 = .ok (.invokevirtual 63, 3) := by decide +kernel
theorem dX7_makesProduct_12 : decode cX7_makesProduct 12 = .ok (.i2l, 1) := by decide +kernel
theorem dX7_makesProduct_13 : decode cX7_makesProduct 13 = .ok (.lmul, 1) := by decide +kernel
theorem dX7_makesProduct_14 : decode cX7_makesProduct 14 = .ok (.aload_n 0, 1) := by decide +kernel
theorem dX7_makesProduct_15 : decode cX7_makesProduct 15 = .ok (.iload_n 1, 1) := by decide +kernel
theorem dX7_makesProduct_16 : decode cX7_makesProduct 16 = .ok (.invokevirtual 67, 3) := by decide +kernel
theorem dX7_makesProduct_19 : decode cX7_makesProduct 19 = .ok (.i2l, 1) := by decide +kernel
theorem dX7_makesProduct_20 : decode cX7_makesProduct 20 = .ok (.aload_n 0, 1) := by decide +kernel
theorem dX7_makesProduct_21 : decode cX7_makesProduct 21 = .ok (.iload_n 2, 1) := by decide +kernel
theorem dX7_makesProduct_22 : decode cX7_makesProduct 22 = .ok (.invokevirtual 67, 3) := by decide +kernel
theorem dX7_makesProduct_25 : decode cX7_makesProduct 25 = .ok (.i2l, 1) := by decide +kernel
theorem dX7_makesProduct_26 : decode cX7_makesProduct 26 = .ok (.lmul, 1) := by decide +kernel
theorem dX7_makesProduct_27 : decode cX7_makesProduct 27 = .ok (.invokevirtual 70, 3) := by decide +kernel
theorem dX7_makesProduct_30 : decode cX7_makesProduct 30 = .ok (.ireturn, 1) := by decide +kernel
theorem dX7_puts_0 : decode cX7_puts 0 = .ok (.aload_n 0, 1) := by decide +kernel
theorem dX7_puts_1 : decode cX7_puts 1 = .ok (.getfield 7, 3) := by decide +kernel
theorem dX7_puts_4 : decode cX7_puts 4 = .ok (.iconst 2, 1) := by decide +kernel
theorem dX7_puts_5 : decode cX7_puts 5 = .ok (.iload_n 1, 1) := by decide +kernel
theorem dX7_puts_6 : decode cX7_puts 6 = .ok (.imul, 1) := by decide +kernel
theorem dX7_puts_7 : decode cX7_puts 7 = .ok (.aload_n 0, 1) := by decide +kernel
theorem dX7_puts_8 : decode cX7_puts 8 = .ok (.getfield 54, 3) := by decide +kernel
theorem dX7_puts_11 : decode cX7_puts 11 = .ok (.l2i, 1) := by decide +kernel
theorem dX7_puts_12 : decode cX7_puts 12 = .ok (.iastore, 1) := by decide +kernel
theorem dX7_puts_13 : decode cX7_puts 13 = .ok (.aload_n 0, 1) := by decide +kernel
theorem dX7_puts_14 : decode cX7_puts 14 = .ok (.getfield 7, 3) := by decide +kernel
theorem dX7_puts_17 : decode cX7_puts 17 = .ok (.iconst 2, 1) := by decide +kernel
theorem dX7_puts_18 : decode cX7_puts 18 = .ok (.iload_n 1, 1) := by decide +kernel
theorem dX7_puts_19 : decode cX7_puts 19 = .ok (.imul, 1) := by decide +kernel
theorem dX7_puts_20 : decode cX7_puts 20 = .ok (.iconst 1, 1) := by decide +kernel
theorem dX7_puts_21 : decode cX7_puts 21 = .ok (.iadd, 1) := by decide +kernel
theorem dX7_puts_22 : decode cX7_puts 22 = .ok (.aload_n 0, 1) := by decide +kernel
theorem dX7_puts_23 : decode cX7_puts 23 = .ok (.getfield 58, 3) := by decide +kernel
theorem dX7_puts_26 : decode cX7_puts 26 = .ok (.l2i, 1) := by decide +kernel
theorem dX7_puts_27 : decode cX7_puts 27 = .ok (.iastore, 1) := by decide +kernel
theorem dX7_puts_28 : decode cX7_puts 28 = .ok (.aload_n 0, 1) := by decide +kernel
theorem dX7_puts_29 : decode cX7_puts 29 = .ok (.getfield 7, 3) := by decide +kernel
theorem dX7_puts_32 : decode cX7_puts 32 = .ok (.iconst 2, 1) := by decide +kernel
theorem dX7_puts_33 : decode cX7_puts 33 = .ok (.iload_n 1, 1) := by decide +kernel
theorem dX7_puts_34 : decode cX7_puts 34 = .ok (.imul, 1) := by decide +kernel
theorem dX7_puts_35 : decode cX7_puts 35 = .ok (.iconst 1, 1) := by decide +kernel
theorem dX7_puts_36 : decode cX7_puts 36 = .ok (.iadd, 1) := by decide +kernel
theorem dX7_puts_37 : decode cX7_puts 37 = .ok (.iaload, 1) := by decide +kernel
theorem dX7_puts_38 : decode cX7_puts 38 = .ok (.ireturn, 1) := by decide +kernel
theorem dX7_holds_0 : decode cX7_holds 0 = .ok (.aload_n 0, 1) := by decide +kernel
theorem dX7_holds_1 : decode cX7_holds 1 = .ok (.iload_n 1, 1) := by decide +kernel
theorem dX7_holds_2 : decode cX7_holds 2 = .ok (.invokevirtual 63, 3) := by decide +kernel
theorem dX7_holds_5 : decode cX7_holds 5 = .ok (.i2l, 1) := by decide +kernel
theorem dX7_holds_6 : decode cX7_holds 6 = .ok (.aload_n 0, 1) := by decide +kernel
theorem dX7_holds_7 : decode cX7_holds 7 = .ok (.iload_n 2, 1) := by decide +kernel
theorem dX7_holds_8 : decode cX7_holds 8 = .ok (.invokevirtual 67, 3) := by decide +kernel
theorem dX7_holds_11 : decode cX7_holds 11 = .ok (.i2l, 1) := by decide +kernel
theorem dX7_holds_12 : decode cX7_holds 12 = .ok (.lmul, 1) := by decide +kernel
theorem dX7_holds_13 : decode cX7_holds 13 = .ok (.aload_n 0, 1) := by decide +kernel
theorem dX7_holds_14 : decode cX7_holds 14 = .ok (.iload_n 2, 1) := by decide +kernel
theorem dX7_holds_15 : decode cX7_holds 15 = .ok (.invokevirtual 63, 3) := by decide +kernel
theorem dX7_holds_18 : decode cX7_holds 18 = .ok (.i2l, 1) := by decide +kernel
theorem dX7_holds_19 : decode cX7_holds 19 = .ok (.aload_n 0, 1) := by decide +kernel
theorem dX7_holds_20 : decode cX7_holds 20 = .ok (.iload_n 1, 1) := by decide +kernel
theorem dX7_holds_21 : decode cX7_holds 21 = .ok (.invokevirtual 67, 3) := by decide +kernel
theorem dX7_holds_24 : decode cX7_holds 24 = .ok (.i2l, 1) := by decide +kernel
theorem dX7_holds_25 : decode cX7_holds 25 = .ok (.lmul, 1) := by decide +kernel
theorem dX7_holds_26 : decode cX7_holds 26 = .ok (.lsub, 1) := by decide +kernel
theorem dX7_holds_27 : decode cX7_holds 27 = .ok (.lstore_n 3, 1) := by decide +kernel
theorem dX7_holds_28 : decode cX7_holds 28 = .ok (.lload_n 3, 1) := by decide +kernel
theorem dX7_holds_29 : decode cX7_holds 29 = .ok (.lconst 0, 1) := by decide +kernel
theorem dX7_holds_30 : decode cX7_holds 30 = .ok (.lcmp, 1) := by decide +kernel
theorem dX7_holds_31 : decode cX7_holds 31 = .ok (.ifCond .ge 7, 3) := by decide +kernel
theorem dX7_holds_34 : decode cX7_holds 34 = .ok (.iconst (-1), 1) := by decide +kernel
theorem dX7_holds_35 : decode cX7_holds 35 = .ok (.goto 14, 3) := by decide +kernel
theorem dX7_holds_38 : decode cX7_holds 38 = .ok (.lload_n 3, 1) := by decide +kernel
theorem dX7_holds_39 : decode cX7_holds 39 = .ok (.lconst 0, 1) := by decide +kernel
theorem dX7_holds_40 : decode cX7_holds 40 = .ok (.lcmp, 1) := by decide +kernel
theorem dX7_holds_41 : decode cX7_holds 41 = .ok (.ifCond .le 7, 3) := by decide +kernel
theorem dX7_holds_44 : decode cX7_holds 44 = .ok (.iconst 1, 1) := by decide +kernel
theorem dX7_holds_45 : decode cX7_holds 45 = .ok (.goto 4, 3) := by decide +kernel
theorem dX7_holds_48 : decode cX7_holds 48 = .ok (.iconst 0, 1) := by decide +kernel
theorem dX7_holds_49 : decode cX7_holds 49 = .ok (.ireturn, 1) := by decide +kernel
theorem dX7_wholeMany_0 : decode cX7_wholeMany 0 = .ok (.iconst 0, 1) := by decide +kernel
theorem dX7_wholeMany_1 : decode cX7_wholeMany 1 = .ok (.istore_n 1, 1) := by decide +kernel
theorem dX7_wholeMany_2 : decode cX7_wholeMany 2 = .ok (.iconst 0, 1) := by decide +kernel
theorem dX7_wholeMany_3 : decode cX7_wholeMany 3 = .ok (.istore_n 2, 1) := by decide +kernel
theorem dX7_wholeMany_4 : decode cX7_wholeMany 4 = .ok (.iload_n 2, 1) := by decide +kernel
theorem dX7_wholeMany_5 : decode cX7_wholeMany 5 = .ok (.bipush 6, 2) := by decide +kernel
theorem dX7_wholeMany_7 : decode cX7_wholeMany 7 = .ok (.if_icmp .ge 25, 3) := by decide +kernel
theorem dX7_wholeMany_10 : decode cX7_wholeMany 10 = .ok (.iload_n 1, 1) := by decide +kernel
theorem dX7_wholeMany_11 : decode cX7_wholeMany 11 = .ok (.aload_n 0, 1) := by decide +kernel
theorem dX7_wholeMany_12 : decode cX7_wholeMany 12 = .ok (.iload_n 2, 1) := by decide +kernel
theorem dX7_wholeMany_13 : decode cX7_wholeMany 13 = .ok (.invokevirtual 63, 3) := by decide +kernel
theorem dX7_wholeMany_16 : decode cX7_wholeMany 16 = .ok (.ifCond .le 7, 3) := by decide +kernel
theorem dX7_wholeMany_19 : decode cX7_wholeMany 19 = .ok (.iconst 1, 1) := by decide +kernel
theorem dX7_wholeMany_20 : decode cX7_wholeMany 20 = .ok (.goto 4, 3) := by decide +kernel
theorem dX7_wholeMany_23 : decode cX7_wholeMany 23 = .ok (.iconst 0, 1) := by decide +kernel
theorem dX7_wholeMany_24 : decode cX7_wholeMany 24 = .ok (.iadd, 1) := by decide +kernel
theorem dX7_wholeMany_25 : decode cX7_wholeMany 25 = .ok (.istore_n 1, 1) := by decide +kernel
theorem dX7_wholeMany_26 : decode cX7_wholeMany 26 = .ok (.iinc 2 1, 3) := by decide +kernel
theorem dX7_wholeMany_29 : decode cX7_wholeMany 29 = .ok (.goto (-25), 3) := by decide +kernel
theorem dX7_wholeMany_32 : decode cX7_wholeMany 32 = .ok (.iload_n 1, 1) := by decide +kernel
theorem dX7_wholeMany_33 : decode cX7_wholeMany 33 = .ok (.ireturn, 1) := by decide +kernel
theorem dX7_tellsTerms_0 : decode cX7_tellsTerms 0 = .ok (.aload_n 0, 1) := by decide +kernel
theorem dX7_tellsTerms_1 : decode cX7_tellsTerms 1 = .ok (.iload_n 1, 1) := by decide +kernel
theorem dX7_tellsTerms_2 : decode cX7_tellsTerms 2 = .ok (.invokevirtual 63, 3) := by decide +kernel
theorem dX7_tellsTerms_5 : decode cX7_tellsTerms 5 = .ok (.istore_n 2, 1) := by decide +kernel
theorem dX7_tellsTerms_6 : decode cX7_tellsTerms 6 = .ok (.aload_n 0, 1) := by decide +kernel
theorem dX7_tellsTerms_7 : decode cX7_tellsTerms 7 = .ok (.iload_n 1, 1) := by decide +kernel
theorem dX7_tellsTerms_8 : decode cX7_tellsTerms 8 = .ok (.invokevirtual 67, 3) := by decide +kernel
theorem dX7_tellsTerms_11 : decode cX7_tellsTerms 11 = .ok (.istore_n 3, 1) := by decide +kernel
theorem dX7_tellsTerms_12 : decode cX7_tellsTerms 12 = .ok (.aload_n 0, 1) := by decide +kernel
theorem dX7_tellsTerms_13 : decode cX7_tellsTerms 13 = .ok (.iconst 0, 1) := by decide +kernel
theorem dX7_tellsTerms_14 : decode cX7_tellsTerms 14 = .ok (.putfield 74, 3) := by decide +kernel
theorem dX7_tellsTerms_17 : decode cX7_tellsTerms 17 = .ok (.iload_n 3, 1) := by decide +kernel
theorem dX7_tellsTerms_18 : decode cX7_tellsTerms 18 = .ok (.ifCond .le 38, 3) := by decide +kernel
theorem dX7_tellsTerms_21 : decode cX7_tellsTerms 21 = .ok (.aload_n 0, 1) := by decide +kernel
theorem dX7_tellsTerms_22 : decode cX7_tellsTerms 22 = .ok (.getfield 29, 3) := by decide +kernel
theorem dX7_tellsTerms_25 : decode cX7_tellsTerms 25 = .ok (.aload_n 0, 1) := by decide +kernel
theorem dX7_tellsTerms_26 : decode cX7_tellsTerms 26 = .ok (.getfield 74, 3) := by decide +kernel
theorem dX7_tellsTerms_29 : decode cX7_tellsTerms 29 = .ok (.iload_n 2, 1) := by decide +kernel
theorem dX7_tellsTerms_30 : decode cX7_tellsTerms 30 = .ok (.iload_n 3, 1) := by decide +kernel
theorem dX7_tellsTerms_31 : decode cX7_tellsTerms 31 = .ok (.idiv, 1) := by decide +kernel
theorem dX7_tellsTerms_32 : decode cX7_tellsTerms 32 = .ok (.iastore, 1) := by decide +kernel
theorem dX7_tellsTerms_33 : decode cX7_tellsTerms 33 = .ok (.aload_n 0, 1) := by decide +kernel
theorem dX7_tellsTerms_34 : decode cX7_tellsTerms 34 = .ok (.dup, 1) := by decide +kernel
theorem dX7_tellsTerms_35 : decode cX7_tellsTerms 35 = .ok (.getfield 74, 3) := by decide +kernel
theorem dX7_tellsTerms_38 : decode cX7_tellsTerms 38 = .ok (.iconst 1, 1) := by decide +kernel
theorem dX7_tellsTerms_39 : decode cX7_tellsTerms 39 = .ok (.iadd, 1) := by decide +kernel
theorem dX7_tellsTerms_40 : decode cX7_tellsTerms 40 = .ok (.putfield 74, 3) := by decide +kernel
theorem dX7_tellsTerms_43 : decode cX7_tellsTerms 43 = .ok (.iload_n 2, 1) := by decide +kernel
theorem dX7_tellsTerms_44 : decode cX7_tellsTerms 44 = .ok (.iload_n 3, 1) := by decide +kernel
theorem dX7_tellsTerms_45 : decode cX7_tellsTerms 45 = .ok (.irem, 1) := by decide +kernel
theorem dX7_tellsTerms_46 : decode cX7_tellsTerms 46 = .ok (.istore 4, 2) := by decide +kernel
theorem dX7_tellsTerms_48 : decode cX7_tellsTerms 48 = .ok (.iload_n 3, 1) := by decide +kernel
theorem dX7_tellsTerms_49 : decode cX7_tellsTerms 49 = .ok (.istore_n 2, 1) := by decide +kernel
theorem dX7_tellsTerms_50 : decode cX7_tellsTerms 50 = .ok (.iload 4, 2) := by decide +kernel
theorem dX7_tellsTerms_52 : decode cX7_tellsTerms 52 = .ok (.istore_n 3, 1) := by decide +kernel
theorem dX7_tellsTerms_53 : decode cX7_tellsTerms 53 = .ok (.goto (-36), 3) := by decide +kernel
theorem dX7_tellsTerms_56 : decode cX7_tellsTerms 56 = .ok (.return_, 1) := by decide +kernel
theorem dX7_isTerm_0 : decode cX7_isTerm 0 = .ok (.iload_n 1, 1) := by decide +kernel
theorem dX7_isTerm_1 : decode cX7_isTerm 1 = .ok (.invokestatic 43, 3) := by decide +kernel
theorem dX7_isTerm_4 : decode cX7_isTerm 4 = .ok (.ifCond .ne 5, 3) := by decide +kernel
theorem dX7_isTerm_7 : decode cX7_isTerm 7 = .ok (.iconst 0, 1) := by decide +kernel
theorem dX7_isTerm_8 : decode cX7_isTerm 8 = .ok (.ireturn, 1) := by decide +kernel
theorem dX7_isTerm_9 : decode cX7_isTerm 9 = .ok (.aload_n 0, 1) := by decide +kernel
theorem dX7_isTerm_10 : decode cX7_isTerm 10 = .ok (.iload_n 1, 1) := by decide +kernel
theorem dX7_isTerm_11 : decode cX7_isTerm 11 = .ok (.invokevirtual 77, 3) := by decide +kernel
theorem dX7_isTerm_14 : decode cX7_isTerm 14 = .ok (.iload_n 2, 1) := by decide +kernel
theorem dX7_isTerm_15 : decode cX7_isTerm 15 = .ok (.iconst 0, 1) := by decide +kernel
theorem dX7_isTerm_16 : decode cX7_isTerm 16 = .ok (.aload_n 0, 1) := by decide +kernel
theorem dX7_isTerm_17 : decode cX7_isTerm 17 = .ok (.getfield 74, 3) := by decide +kernel
theorem dX7_isTerm_20 : decode cX7_isTerm 20 = .ok (.iconst 1, 1) := by decide +kernel
theorem dX7_isTerm_21 : decode cX7_isTerm 21 = .ok (.isub, 1) := by decide +kernel
theorem dX7_isTerm_22 : decode cX7_isTerm 22 = .ok (.invokestatic 39, 3) := by decide +kernel
theorem dX7_isTerm_25 : decode cX7_isTerm 25 = .ok (.ireturn, 1) := by decide +kernel
theorem dX7_makesBeginning_0 : decode cX7_makesBeginning 0 = .ok (.aload_n 0, 1) := by decide +kernel
theorem dX7_makesBeginning_1 : decode cX7_makesBeginning 1 = .ok (.getfield 29, 3) := by decide +kernel
theorem dX7_makesBeginning_4 : decode cX7_makesBeginning 4 = .ok (.iload_n 1, 1) := by decide +kernel
theorem dX7_makesBeginning_5 : decode cX7_makesBeginning 5 = .ok (.iaload, 1) := by decide +kernel
theorem dX7_makesBeginning_6 : decode cX7_makesBeginning 6 = .ok (.i2l, 1) := by decide +kernel
theorem dX7_makesBeginning_7 : decode cX7_makesBeginning 7 = .ok (.lstore_n 2, 1) := by decide +kernel
theorem dX7_makesBeginning_8 : decode cX7_makesBeginning 8 = .ok (.lconst 1, 1) := by decide +kernel
theorem dX7_makesBeginning_9 : decode cX7_makesBeginning 9 = .ok (.lstore 4, 2) := by decide +kernel
theorem dX7_makesBeginning_11 : decode cX7_makesBeginning 11 = .ok (.iload_n 1, 1) := by decide +kernel
theorem dX7_makesBeginning_12 : decode cX7_makesBeginning 12 = .ok (.iconst 1, 1) := by decide +kernel
theorem dX7_makesBeginning_13 : decode cX7_makesBeginning 13 = .ok (.isub, 1) := by decide +kernel
theorem dX7_makesBeginning_14 : decode cX7_makesBeginning 14 = .ok (.istore 6, 2) := by decide +kernel
theorem dX7_makesBeginning_16 : decode cX7_makesBeginning 16 = .ok (.iload 6, 2) := by decide +kernel
theorem dX7_makesBeginning_18 : decode cX7_makesBeginning 18 = .ok (.ifCond .lt 30, 3) := by decide +kernel
theorem dX7_makesBeginning_21 : decode cX7_makesBeginning 21 = .ok (.lload_n 2, 1) := by decide +kernel
theorem dX7_makesBeginning_22 : decode cX7_makesBeginning 22 = .ok (.lstore 7, 2) := by decide +kernel
theorem dX7_makesBeginning_24 : decode cX7_makesBeginning 24 = .ok (.aload_n 0, 1) := by decide +kernel
theorem dX7_makesBeginning_25 : decode cX7_makesBeginning 25 = .ok (.getfield 29, 3) := by decide +kernel
theorem dX7_makesBeginning_28 : decode cX7_makesBeginning 28 = .ok (.iload 6, 2) := by decide +kernel
theorem dX7_makesBeginning_30 : decode cX7_makesBeginning 30 = .ok (.iaload, 1) := by decide +kernel
theorem dX7_makesBeginning_31 : decode cX7_makesBeginning 31 = .ok (.i2l, 1) := by decide +kernel
theorem dX7_makesBeginning_32 : decode cX7_makesBeginning 32 = .ok (.lload_n 2, 1) := by decide +kernel
theorem dX7_makesBeginning_33 : decode cX7_makesBeginning 33 = .ok (.lmul, 1) := by decide +kernel
theorem dX7_makesBeginning_34 : decode cX7_makesBeginning 34 = .ok (.lload 4, 2) := by decide +kernel
theorem dX7_makesBeginning_36 : decode cX7_makesBeginning 36 = .ok (.ladd, 1) := by decide +kernel
theorem dX7_makesBeginning_37 : decode cX7_makesBeginning 37 = .ok (.lstore_n 2, 1) := by decide +kernel
theorem dX7_makesBeginning_38 : decode cX7_makesBeginning 38 = .ok (.lload 7, 2) := by decide +kernel
theorem dX7_makesBeginning_40 : decode cX7_makesBeginning 40 = .ok (.lstore 4, 2) := by decide +kernel
theorem dX7_makesBeginning_42 : decode cX7_makesBeginning 42 = .ok (.iinc 6 (-1), 3) := by decide +kernel
theorem dX7_makesBeginning_45 : decode cX7_makesBeginning 45 = .ok (.goto (-29), 3) := by decide +kernel
theorem dX7_makesBeginning_48 : decode cX7_makesBeginning 48 = .ok (.aload_n 0, 1) := by decide +kernel
theorem dX7_makesBeginning_49 : decode cX7_makesBeginning 49 = .ok (.lload_n 2, 1) := by decide +kernel
theorem dX7_makesBeginning_50 : decode cX7_makesBeginning 50 = .ok (.putfield 54, 3) := by decide +kernel
theorem dX7_makesBeginning_53 : decode cX7_makesBeginning 53 = .ok (.aload_n 0, 1) := by decide +kernel
theorem dX7_makesBeginning_54 : decode cX7_makesBeginning 54 = .ok (.lload 4, 2) := by decide +kernel
theorem dX7_makesBeginning_56 : decode cX7_makesBeginning 56 = .ok (.putfield 58, 3) := by decide +kernel
theorem dX7_makesBeginning_59 : decode cX7_makesBeginning 59 = .ok (.return_, 1) := by decide +kernel
theorem dX7_tellsNearest_0 : decode cX7_tellsNearest 0 = .ok (.lconst 0, 1) := by decide +kernel
theorem dX7_tellsNearest_1 : decode cX7_tellsNearest 1 = .ok (.lstore_n 3, 1) := by decide +kernel
theorem dX7_tellsNearest_2 : decode cX7_tellsNearest 2 = .ok (.iconst 1, 1) := by decide +kernel
theorem dX7_tellsNearest_3 : decode cX7_tellsNearest 3 = .ok (.istore 5, 2) := by decide +kernel
theorem dX7_tellsNearest_5 : decode cX7_tellsNearest 5 = .ok (.iload 5, 2) := by decide +kernel
theorem dX7_tellsNearest_7 : decode cX7_tellsNearest 7 = .ok (.iload_n 2, 1) := by decide +kernel
theorem dX7_tellsNearest_8 : decode cX7_tellsNearest 8 = .ok (.if_icmp .gt 139, 3) := by decide +kernel
theorem dX7_tellsNearest_11 : decode cX7_tellsNearest 11 = .ok (.aload_n 0, 1) := by decide +kernel
theorem dX7_tellsNearest_12 : decode cX7_tellsNearest 12 = .ok (.iload_n 1, 1) := by decide +kernel
theorem dX7_tellsNearest_13 : decode cX7_tellsNearest 13 = .ok (.invokevirtual 63, 3) := by decide +kernel
theorem dX7_tellsNearest_16 : decode cX7_tellsNearest 16 = .ok (.i2l, 1) := by decide +kernel
theorem dX7_tellsNearest_17 : decode cX7_tellsNearest 17 = .ok (.iload 5, 2) := by decide +kernel
theorem dX7_tellsNearest_19 : decode cX7_tellsNearest 19 = .ok (.i2l, 1) := by decide +kernel
theorem dX7_tellsNearest_20 : decode cX7_tellsNearest 20 = .ok (.lmul, 1) := by decide +kernel
theorem dX7_tellsNearest_21 : decode cX7_tellsNearest 21 = .ok (.aload_n 0, 1) := by decide +kernel
theorem dX7_tellsNearest_22 : decode cX7_tellsNearest 22 = .ok (.iload_n 1, 1) := by decide +kernel
theorem dX7_tellsNearest_23 : decode cX7_tellsNearest 23 = .ok (.invokevirtual 67, 3) := by decide +kernel
theorem dX7_tellsNearest_26 : decode cX7_tellsNearest 26 = .ok (.i2l, 1) := by decide +kernel
theorem dX7_tellsNearest_27 : decode cX7_tellsNearest 27 = .ok (.ldiv, 1) := by decide +kernel
theorem dX7_tellsNearest_28 : decode cX7_tellsNearest 28 = .ok (.lstore 6, 2) := by decide +kernel
theorem dX7_tellsNearest_30 : decode cX7_tellsNearest 30 = .ok (.lload 6, 2) := by decide +kernel
theorem dX7_tellsNearest_32 : decode cX7_tellsNearest 32 = .ok (.lstore 8, 2) := by decide +kernel
theorem dX7_tellsNearest_34 : decode cX7_tellsNearest 34 = .ok (.lload 8, 2) := by decide +kernel
theorem dX7_tellsNearest_36 : decode cX7_tellsNearest 36 = .ok (.lload 6, 2) := by decide +kernel
theorem dX7_tellsNearest_38 : decode cX7_tellsNearest 38 = .ok (.ldc2_w 81, 3) := by decide +kernel
theorem dX7_tellsNearest_41 : decode cX7_tellsNearest 41 = .ok (.ladd, 1) := by decide +kernel
theorem dX7_tellsNearest_42 : decode cX7_tellsNearest 42 = .ok (.lcmp, 1) := by decide +kernel
theorem dX7_tellsNearest_43 : decode cX7_tellsNearest 43 = .ok (.ifCond .ge 98, 3) := by decide +kernel
theorem dX7_tellsNearest_46 : decode cX7_tellsNearest 46 = .ok (.aload_n 0, 1) := by decide +kernel
theorem dX7_tellsNearest_47 : decode cX7_tellsNearest 47 = .ok (.iload_n 1, 1) := by decide +kernel
theorem dX7_tellsNearest_48 : decode cX7_tellsNearest 48 = .ok (.invokevirtual 63, 3) := by decide +kernel
theorem dX7_tellsNearest_51 : decode cX7_tellsNearest 51 = .ok (.i2l, 1) := by decide +kernel
theorem dX7_tellsNearest_52 : decode cX7_tellsNearest 52 = .ok (.iload 5, 2) := by decide +kernel
theorem dX7_tellsNearest_54 : decode cX7_tellsNearest 54 = .ok (.i2l, 1) := by decide +kernel
theorem dX7_tellsNearest_55 : decode cX7_tellsNearest 55 = .ok (.lmul, 1) := by decide +kernel
theorem dX7_tellsNearest_56 : decode cX7_tellsNearest 56 = .ok (.lload 8, 2) := by decide +kernel
theorem dX7_tellsNearest_58 : decode cX7_tellsNearest 58 = .ok (.aload_n 0, 1) := by decide +kernel
theorem dX7_tellsNearest_59 : decode cX7_tellsNearest 59 = .ok (.iload_n 1, 1) := by decide +kernel
theorem dX7_tellsNearest_60 : decode cX7_tellsNearest 60 = .ok (.invokevirtual 67, 3) := by decide +kernel
theorem dX7_tellsNearest_63 : decode cX7_tellsNearest 63 = .ok (.i2l, 1) := by decide +kernel
theorem dX7_tellsNearest_64 : decode cX7_tellsNearest 64 = .ok (.lmul, 1) := by decide +kernel
theorem dX7_tellsNearest_65 : decode cX7_tellsNearest 65 = .ok (.lsub, 1) := by decide +kernel
theorem dX7_tellsNearest_66 : decode cX7_tellsNearest 66 = .ok (.lstore 10, 2) := by decide +kernel
theorem dX7_tellsNearest_68 : decode cX7_tellsNearest 68 = .ok (.lload 10, 2) := by decide +kernel
theorem dX7_tellsNearest_70 : decode cX7_tellsNearest 70 = .ok (.lconst 0, 1) := by decide +kernel
theorem dX7_tellsNearest_71 : decode cX7_tellsNearest 71 = .ok (.lcmp, 1) := by decide +kernel
theorem dX7_tellsNearest_72 : decode cX7_tellsNearest 72 = .ok (.ifCond .ge 9, 3) := by decide +kernel
theorem dX7_tellsNearest_75 : decode cX7_tellsNearest 75 = .ok (.lload 10, 2) := by decide +kernel
theorem dX7_tellsNearest_77 : decode cX7_tellsNearest 77 = .ok (.lneg, 1) := by decide +kernel
theorem dX7_tellsNearest_78 : decode cX7_tellsNearest 78 = .ok (.goto 5, 3) := by decide +kernel
theorem dX7_tellsNearest_81 : decode cX7_tellsNearest 81 = .ok (.lload 10, 2) := by decide +kernel
theorem dX7_tellsNearest_83 : decode cX7_tellsNearest 83 = .ok (.lstore 10, 2) := by decide +kernel
theorem dX7_tellsNearest_85 : decode cX7_tellsNearest 85 = .ok (.iload 5, 2) := by decide +kernel
theorem dX7_tellsNearest_87 : decode cX7_tellsNearest 87 = .ok (.iconst 1, 1) := by decide +kernel
theorem dX7_tellsNearest_88 : decode cX7_tellsNearest 88 = .ok (.if_icmp .ne 11, 3) := by decide +kernel
theorem dX7_tellsNearest_91 : decode cX7_tellsNearest 91 = .ok (.lload 8, 2) := by decide +kernel
theorem dX7_tellsNearest_93 : decode cX7_tellsNearest 93 = .ok (.lload 6, 2) := by decide +kernel
theorem dX7_tellsNearest_95 : decode cX7_tellsNearest 95 = .ok (.lcmp, 1) := by decide +kernel
theorem dX7_tellsNearest_96 : decode cX7_tellsNearest 96 = .ok (.ifCond .eq 20, 3) := by decide +kernel
theorem dX7_tellsNearest_99 : decode cX7_tellsNearest 99 = .ok (.lload 10, 2) := by decide +kernel
theorem dX7_tellsNearest_101 : decode cX7_tellsNearest 101 = .ok (.aload_n 0, 1) := by decide +kernel
theorem dX7_tellsNearest_102 : decode cX7_tellsNearest 102 = .ok (.getfield 83, 3) := by decide +kernel
theorem dX7_tellsNearest_105 : decode cX7_tellsNearest 105 = .ok (.i2l, 1) := by decide +kernel
theorem dX7_tellsNearest_106 : decode cX7_tellsNearest 106 = .ok (.lmul, 1) := by decide +kernel
theorem dX7_tellsNearest_107 : decode cX7_tellsNearest 107 = .ok (.lload_n 3, 1) := by decide +kernel
theorem dX7_tellsNearest_108 : decode cX7_tellsNearest 108 = .ok (.iload 5, 2) := by decide +kernel
theorem dX7_tellsNearest_110 : decode cX7_tellsNearest 110 = .ok (.i2l, 1) := by decide +kernel
theorem dX7_tellsNearest_111 : decode cX7_tellsNearest 111 = .ok (.lmul, 1) := by decide +kernel
theorem dX7_tellsNearest_112 : decode cX7_tellsNearest 112 = .ok (.lcmp, 1) := by decide +kernel
theorem dX7_tellsNearest_113 : decode cX7_tellsNearest 113 = .ok (.ifCond .ge 19, 3) := by decide +kernel
theorem dX7_tellsNearest_116 : decode cX7_tellsNearest 116 = .ok (.lload 10, 2) := by decide +kernel
theorem dX7_tellsNearest_118 : decode cX7_tellsNearest 118 = .ok (.lstore_n 3, 1) := by decide +kernel
theorem dX7_tellsNearest_119 : decode cX7_tellsNearest 119 = .ok (.aload_n 0, 1) := by decide +kernel
theorem dX7_tellsNearest_120 : decode cX7_tellsNearest 120 = .ok (.lload 8, 2) := by decide +kernel
theorem dX7_tellsNearest_122 : decode cX7_tellsNearest 122 = .ok (.l2i, 1) := by decide +kernel
theorem dX7_tellsNearest_123 : decode cX7_tellsNearest 123 = .ok (.putfield 86, 3) := by decide +kernel
theorem dX7_tellsNearest_126 : decode cX7_tellsNearest 126 = .ok (.aload_n 0, 1) := by decide +kernel
theorem dX7_tellsNearest_127 : decode cX7_tellsNearest 127 = .ok (.iload 5, 2) := by decide +kernel
theorem dX7_tellsNearest_129 : decode cX7_tellsNearest 129 = .ok (.putfield 83, 3) := by decide +kernel
theorem dX7_tellsNearest_132 : decode cX7_tellsNearest 132 = .ok (.lload 8, 2) := by decide +kernel
theorem dX7_tellsNearest_134 : decode cX7_tellsNearest 134 = .ok (.lconst 1, 1) := by decide +kernel
theorem dX7_tellsNearest_135 : decode cX7_tellsNearest 135 = .ok (.ladd, 1) := by decide +kernel
theorem dX7_tellsNearest_136 : decode cX7_tellsNearest 136 = .ok (.lstore 8, 2) := by decide +kernel
theorem dX7_tellsNearest_138 : decode cX7_tellsNearest 138 = .ok (.goto (-104), 3) := by decide +kernel
theorem dX7_tellsNearest_141 : decode cX7_tellsNearest 141 = .ok (.iinc 5 1, 3) := by decide +kernel
theorem dX7_tellsNearest_144 : decode cX7_tellsNearest 144 = .ok (.goto (-139), 3) := by decide +kernel
theorem dX7_tellsNearest_147 : decode cX7_tellsNearest 147 = .ok (.return_, 1) := by decide +kernel
theorem dX7_tellsUnits_0 : decode cX7_tellsUnits 0 = .ok (.aload_n 0, 1) := by decide +kernel
theorem dX7_tellsUnits_1 : decode cX7_tellsUnits 1 = .ok (.iload_n 1, 1) := by decide +kernel
theorem dX7_tellsUnits_2 : decode cX7_tellsUnits 2 = .ok (.invokevirtual 63, 3) := by decide +kernel
theorem dX7_tellsUnits_5 : decode cX7_tellsUnits 5 = .ok (.i2l, 1) := by decide +kernel
theorem dX7_tellsUnits_6 : decode cX7_tellsUnits 6 = .ok (.lstore_n 2, 1) := by decide +kernel
theorem dX7_tellsUnits_7 : decode cX7_tellsUnits 7 = .ok (.aload_n 0, 1) := by decide +kernel
theorem dX7_tellsUnits_8 : decode cX7_tellsUnits 8 = .ok (.iload_n 1, 1) := by decide +kernel
theorem dX7_tellsUnits_9 : decode cX7_tellsUnits 9 = .ok (.invokevirtual 67, 3) := by decide +kernel
theorem dX7_tellsUnits_12 : decode cX7_tellsUnits 12 = .ok (.i2l, 1) := by decide +kernel
theorem dX7_tellsUnits_13 : decode cX7_tellsUnits 13 = .ok (.lstore 4, 2) := by decide +kernel
theorem dX7_tellsUnits_15 : decode cX7_tellsUnits 15 = .ok (.aload_n 0, 1) := by decide +kernel
theorem dX7_tellsUnits_16 : decode cX7_tellsUnits 16 = .ok (.iconst 0, 1) := by decide +kernel
theorem dX7_tellsUnits_17 : decode cX7_tellsUnits 17 = .ok (.putfield 89, 3) := by decide +kernel
theorem dX7_tellsUnits_20 : decode cX7_tellsUnits 20 = .ok (.aload_n 0, 1) := by decide +kernel
theorem dX7_tellsUnits_21 : decode cX7_tellsUnits 21 = .ok (.iconst 1, 1) := by decide +kernel
theorem dX7_tellsUnits_22 : decode cX7_tellsUnits 22 = .ok (.putfield 92, 3) := by decide +kernel
theorem dX7_tellsUnits_25 : decode cX7_tellsUnits 25 = .ok (.lload_n 2, 1) := by decide +kernel
theorem dX7_tellsUnits_26 : decode cX7_tellsUnits 26 = .ok (.lconst 0, 1) := by decide +kernel
theorem dX7_tellsUnits_27 : decode cX7_tellsUnits 27 = .ok (.lcmp, 1) := by decide +kernel
theorem dX7_tellsUnits_28 : decode cX7_tellsUnits 28 = .ok (.ifCond .le 218, 3) := by decide +kernel
theorem dX7_tellsUnits_31 : decode cX7_tellsUnits 31 = .ok (.aload_n 0, 1) := by decide +kernel
theorem dX7_tellsUnits_32 : decode cX7_tellsUnits 32 = .ok (.getfield 92, 3) := by decide +kernel
theorem dX7_tellsUnits_35 : decode cX7_tellsUnits 35 = .ok (.ifCond .eq 211, 3) := by decide +kernel
theorem dX7_tellsUnits_38 : decode cX7_tellsUnits 38 = .ok (.lload 4, 2) := by decide +kernel
theorem dX7_tellsUnits_40 : decode cX7_tellsUnits 40 = .ok (.lload_n 2, 1) := by decide +kernel
theorem dX7_tellsUnits_41 : decode cX7_tellsUnits 41 = .ok (.ladd, 1) := by decide +kernel
theorem dX7_tellsUnits_42 : decode cX7_tellsUnits 42 = .ok (.lconst 1, 1) := by decide +kernel
theorem dX7_tellsUnits_43 : decode cX7_tellsUnits 43 = .ok (.lsub, 1) := by decide +kernel
theorem dX7_tellsUnits_44 : decode cX7_tellsUnits 44 = .ok (.lload_n 2, 1) := by decide +kernel
theorem dX7_tellsUnits_45 : decode cX7_tellsUnits 45 = .ok (.ldiv, 1) := by decide +kernel
theorem dX7_tellsUnits_46 : decode cX7_tellsUnits 46 = .ok (.lstore 6, 2) := by decide +kernel
theorem dX7_tellsUnits_48 : decode cX7_tellsUnits 48 = .ok (.aload_n 0, 1) := by decide +kernel
theorem dX7_tellsUnits_49 : decode cX7_tellsUnits 49 = .ok (.lload 6, 2) := by decide +kernel
theorem dX7_tellsUnits_51 : decode cX7_tellsUnits 51 = .ok (.ldc2_w 96, 3) := by decide +kernel
theorem dX7_tellsUnits_54 : decode cX7_tellsUnits 54 = .ok (.lcmp, 1) := by decide +kernel
theorem dX7_tellsUnits_55 : decode cX7_tellsUnits 55 = .ok (.ifCond .gt 7, 3) := by decide +kernel
theorem dX7_tellsUnits_58 : decode cX7_tellsUnits 58 = .ok (.iconst 1, 1) := by decide +kernel
theorem dX7_tellsUnits_59 : decode cX7_tellsUnits 59 = .ok (.goto 4, 3) := by decide +kernel
theorem dX7_tellsUnits_62 : decode cX7_tellsUnits 62 = .ok (.iconst 0, 1) := by decide +kernel
theorem dX7_tellsUnits_63 : decode cX7_tellsUnits 63 = .ok (.putfield 92, 3) := by decide +kernel
theorem dX7_tellsUnits_66 : decode cX7_tellsUnits 66 = .ok (.aload_n 0, 1) := by decide +kernel
theorem dX7_tellsUnits_67 : decode cX7_tellsUnits 67 = .ok (.getfield 92, 3) := by decide +kernel
theorem dX7_tellsUnits_70 : decode cX7_tellsUnits 70 = .ok (.ifCond .eq 173, 3) := by decide +kernel
theorem dX7_tellsUnits_73 : decode cX7_tellsUnits 73 = .ok (.aload_n 0, 1) := by decide +kernel
theorem dX7_tellsUnits_74 : decode cX7_tellsUnits 74 = .ok (.getfield 32, 3) := by decide +kernel
theorem dX7_tellsUnits_77 : decode cX7_tellsUnits 77 = .ok (.aload_n 0, 1) := by decide +kernel
theorem dX7_tellsUnits_78 : decode cX7_tellsUnits 78 = .ok (.getfield 89, 3) := by decide +kernel
theorem dX7_tellsUnits_81 : decode cX7_tellsUnits 81 = .ok (.lload 6, 2) := by decide +kernel
theorem dX7_tellsUnits_83 : decode cX7_tellsUnits 83 = .ok (.l2i, 1) := by decide +kernel
theorem dX7_tellsUnits_84 : decode cX7_tellsUnits 84 = .ok (.iastore, 1) := by decide +kernel
theorem dX7_tellsUnits_85 : decode cX7_tellsUnits 85 = .ok (.aload_n 0, 1) := by decide +kernel
theorem dX7_tellsUnits_86 : decode cX7_tellsUnits 86 = .ok (.dup, 1) := by decide +kernel
theorem dX7_tellsUnits_87 : decode cX7_tellsUnits 87 = .ok (.getfield 89, 3) := by decide +kernel
theorem dX7_tellsUnits_90 : decode cX7_tellsUnits 90 = .ok (.iconst 1, 1) := by decide +kernel
theorem dX7_tellsUnits_91 : decode cX7_tellsUnits 91 = .ok (.iadd, 1) := by decide +kernel
theorem dX7_tellsUnits_92 : decode cX7_tellsUnits 92 = .ok (.putfield 89, 3) := by decide +kernel
theorem dX7_tellsUnits_95 : decode cX7_tellsUnits 95 = .ok (.lload_n 2, 1) := by decide +kernel
theorem dX7_tellsUnits_96 : decode cX7_tellsUnits 96 = .ok (.lload 6, 2) := by decide +kernel
theorem dX7_tellsUnits_98 : decode cX7_tellsUnits 98 = .ok (.lmul, 1) := by decide +kernel
theorem dX7_tellsUnits_99 : decode cX7_tellsUnits 99 = .ok (.lload 4, 2) := by decide +kernel
theorem dX7_tellsUnits_101 : decode cX7_tellsUnits 101 = .ok (.lsub, 1) := by decide +kernel
theorem dX7_tellsUnits_102 : decode cX7_tellsUnits 102 = .ok (.lstore_n 2, 1) := by decide +kernel
theorem dX7_tellsUnits_103 : decode cX7_tellsUnits 103 = .ok (.lload 4, 2) := by decide +kernel
theorem dX7_tellsUnits_105 : decode cX7_tellsUnits 105 = .ok (.lload_n 2, 1) := by decide +kernel
theorem dX7_tellsUnits_106 : decode cX7_tellsUnits 106 = .ok (.invokestatic 50, 3) := by decide +kernel
theorem dX7_tellsUnits_109 : decode cX7_tellsUnits 109 = .ok (.lstore 8, 2) := by decide +kernel
theorem dX7_tellsUnits_111 : decode cX7_tellsUnits 111 = .ok (.lload_n 2, 1) := by decide +kernel
theorem dX7_tellsUnits_112 : decode cX7_tellsUnits 112 = .ok (.lconst 0, 1) := by decide +kernel
theorem dX7_tellsUnits_113 : decode cX7_tellsUnits 113 = .ok (.lcmp, 1) := by decide +kernel
theorem dX7_tellsUnits_114 : decode cX7_tellsUnits 114 = .ok (.ifCond .le 33, 3) := by decide +kernel
theorem dX7_tellsUnits_117 : decode cX7_tellsUnits 117 = .ok (.lload 8, 2) := by decide +kernel
theorem dX7_tellsUnits_119 : decode cX7_tellsUnits 119 = .ok (.lconst 1, 1) := by decide +kernel
theorem dX7_tellsUnits_120 : decode cX7_tellsUnits 120 = .ok (.lcmp, 1) := by decide +kernel
theorem dX7_tellsUnits_121 : decode cX7_tellsUnits 121 = .ok (.ifCond .le 26, 3) := by decide +kernel
theorem dX7_tellsUnits_124 : decode cX7_tellsUnits 124 = .ok (.lload_n 2, 1) := by decide +kernel
theorem dX7_tellsUnits_125 : decode cX7_tellsUnits 125 = .ok (.lload 8, 2) := by decide +kernel
theorem dX7_tellsUnits_127 : decode cX7_tellsUnits 127 = .ok (.ldiv, 1) := by decide +kernel
theorem dX7_tellsUnits_128 : decode cX7_tellsUnits 128 = .ok (.lstore_n 2, 1) := by decide +kernel
theorem dX7_tellsUnits_129 : decode cX7_tellsUnits 129 = .ok (.lload 4, 2) := by decide +kernel
theorem dX7_tellsUnits_131 : decode cX7_tellsUnits 131 = .ok (.lload 8, 2) := by decide +kernel
theorem dX7_tellsUnits_133 : decode cX7_tellsUnits 133 = .ok (.ldiv, 1) := by decide +kernel
theorem dX7_tellsUnits_134 : decode cX7_tellsUnits 134 = .ok (.lstore 4, 2) := by decide +kernel
theorem dX7_tellsUnits_136 : decode cX7_tellsUnits 136 = .ok (.lload 4, 2) := by decide +kernel
theorem dX7_tellsUnits_138 : decode cX7_tellsUnits 138 = .ok (.lload_n 2, 1) := by decide +kernel
theorem dX7_tellsUnits_139 : decode cX7_tellsUnits 139 = .ok (.invokestatic 50, 3) := by decide +kernel
theorem dX7_tellsUnits_142 : decode cX7_tellsUnits 142 = .ok (.lstore 8, 2) := by decide +kernel
theorem dX7_tellsUnits_144 : decode cX7_tellsUnits 144 = .ok (.goto (-33), 3) := by decide +kernel
theorem dX7_tellsUnits_147 : decode cX7_tellsUnits 147 = .ok (.lload 6, 2) := by decide +kernel
theorem dX7_tellsUnits_149 : decode cX7_tellsUnits 149 = .ok (.lload_n 2, 1) := by decide +kernel
theorem dX7_tellsUnits_150 : decode cX7_tellsUnits 150 = .ok (.invokestatic 50, 3) := by decide +kernel
theorem dX7_tellsUnits_153 : decode cX7_tellsUnits 153 = .ok (.lstore 8, 2) := by decide +kernel
theorem dX7_tellsUnits_155 : decode cX7_tellsUnits 155 = .ok (.lload_n 2, 1) := by decide +kernel
theorem dX7_tellsUnits_156 : decode cX7_tellsUnits 156 = .ok (.lconst 0, 1) := by decide +kernel
theorem dX7_tellsUnits_157 : decode cX7_tellsUnits 157 = .ok (.lcmp, 1) := by decide +kernel
theorem dX7_tellsUnits_158 : decode cX7_tellsUnits 158 = .ok (.ifCond .le 33, 3) := by decide +kernel
theorem dX7_tellsUnits_161 : decode cX7_tellsUnits 161 = .ok (.lload 8, 2) := by decide +kernel
theorem dX7_tellsUnits_163 : decode cX7_tellsUnits 163 = .ok (.lconst 1, 1) := by decide +kernel
theorem dX7_tellsUnits_164 : decode cX7_tellsUnits 164 = .ok (.lcmp, 1) := by decide +kernel
theorem dX7_tellsUnits_165 : decode cX7_tellsUnits 165 = .ok (.ifCond .le 26, 3) := by decide +kernel
theorem dX7_tellsUnits_168 : decode cX7_tellsUnits 168 = .ok (.lload_n 2, 1) := by decide +kernel
theorem dX7_tellsUnits_169 : decode cX7_tellsUnits 169 = .ok (.lload 8, 2) := by decide +kernel
theorem dX7_tellsUnits_171 : decode cX7_tellsUnits 171 = .ok (.ldiv, 1) := by decide +kernel
theorem dX7_tellsUnits_172 : decode cX7_tellsUnits 172 = .ok (.lstore_n 2, 1) := by decide +kernel
theorem dX7_tellsUnits_173 : decode cX7_tellsUnits 173 = .ok (.lload 6, 2) := by decide +kernel
theorem dX7_tellsUnits_175 : decode cX7_tellsUnits 175 = .ok (.lload 8, 2) := by decide +kernel
theorem dX7_tellsUnits_177 : decode cX7_tellsUnits 177 = .ok (.ldiv, 1) := by decide +kernel
theorem dX7_tellsUnits_178 : decode cX7_tellsUnits 178 = .ok (.lstore 6, 2) := by decide +kernel
theorem dX7_tellsUnits_180 : decode cX7_tellsUnits 180 = .ok (.lload 6, 2) := by decide +kernel
theorem dX7_tellsUnits_182 : decode cX7_tellsUnits 182 = .ok (.lload_n 2, 1) := by decide +kernel
theorem dX7_tellsUnits_183 : decode cX7_tellsUnits 183 = .ok (.invokestatic 50, 3) := by decide +kernel
theorem dX7_tellsUnits_186 : decode cX7_tellsUnits 186 = .ok (.lstore 8, 2) := by decide +kernel
theorem dX7_tellsUnits_188 : decode cX7_tellsUnits 188 = .ok (.goto (-33), 3) := by decide +kernel
theorem dX7_tellsUnits_191 : decode cX7_tellsUnits 191 = .ok (.aload_n 0, 1) := by decide +kernel
theorem dX7_tellsUnits_192 : decode cX7_tellsUnits 192 = .ok (.lload_n 2, 1) := by decide +kernel
theorem dX7_tellsUnits_193 : decode cX7_tellsUnits 193 = .ok (.lconst 0, 1) := by decide +kernel
theorem dX7_tellsUnits_194 : decode cX7_tellsUnits 194 = .ok (.lcmp, 1) := by decide +kernel
theorem dX7_tellsUnits_195 : decode cX7_tellsUnits 195 = .ok (.ifCond .eq 15, 3) := by decide +kernel
theorem dX7_tellsUnits_198 : decode cX7_tellsUnits 198 = .ok (.lload 4, 2) := by decide +kernel
theorem dX7_tellsUnits_200 : decode cX7_tellsUnits 200 = .ok (.ldc2_w 98, 3) := by decide +kernel
theorem dX7_tellsUnits_203 : decode cX7_tellsUnits 203 = .ok (.lload 6, 2) := by decide +kernel
theorem dX7_tellsUnits_205 : decode cX7_tellsUnits 205 = .ok (.ldiv, 1) := by decide +kernel
theorem dX7_tellsUnits_206 : decode cX7_tellsUnits 206 = .ok (.lcmp, 1) := by decide +kernel
theorem dX7_tellsUnits_207 : decode cX7_tellsUnits 207 = .ok (.ifCond .gt 7, 3) := by decide +kernel
theorem dX7_tellsUnits_210 : decode cX7_tellsUnits 210 = .ok (.iconst 1, 1) := by decide +kernel
theorem dX7_tellsUnits_211 : decode cX7_tellsUnits 211 = .ok (.goto 4, 3) := by decide +kernel
theorem dX7_tellsUnits_214 : decode cX7_tellsUnits 214 = .ok (.iconst 0, 1) := by decide +kernel
theorem dX7_tellsUnits_215 : decode cX7_tellsUnits 215 = .ok (.putfield 92, 3) := by decide +kernel
theorem dX7_tellsUnits_218 : decode cX7_tellsUnits 218 = .ok (.aload_n 0, 1) := by decide +kernel
theorem dX7_tellsUnits_219 : decode cX7_tellsUnits 219 = .ok (.getfield 92, 3) := by decide +kernel
theorem dX7_tellsUnits_222 : decode cX7_tellsUnits 222 = .ok (.ifCond .eq 17, 3) := by decide +kernel
theorem dX7_tellsUnits_225 : decode cX7_tellsUnits 225 = .ok (.lload_n 2, 1) := by decide +kernel
theorem dX7_tellsUnits_226 : decode cX7_tellsUnits 226 = .ok (.lconst 0, 1) := by decide +kernel
theorem dX7_tellsUnits_227 : decode cX7_tellsUnits 227 = .ok (.lcmp, 1) := by decide +kernel
theorem dX7_tellsUnits_228 : decode cX7_tellsUnits 228 = .ok (.ifCond .le 11, 3) := by decide +kernel
theorem dX7_tellsUnits_231 : decode cX7_tellsUnits 231 = .ok (.lload 4, 2) := by decide +kernel
theorem dX7_tellsUnits_233 : decode cX7_tellsUnits 233 = .ok (.lload 6, 2) := by decide +kernel
theorem dX7_tellsUnits_235 : decode cX7_tellsUnits 235 = .ok (.lmul, 1) := by decide +kernel
theorem dX7_tellsUnits_236 : decode cX7_tellsUnits 236 = .ok (.goto 5, 3) := by decide +kernel
theorem dX7_tellsUnits_239 : decode cX7_tellsUnits 239 = .ok (.lload 4, 2) := by decide +kernel
theorem dX7_tellsUnits_241 : decode cX7_tellsUnits 241 = .ok (.lstore 4, 2) := by decide +kernel
theorem dX7_tellsUnits_243 : decode cX7_tellsUnits 243 = .ok (.goto (-218), 3) := by decide +kernel
theorem dX7_tellsUnits_246 : decode cX7_tellsUnits 246 = .ok (.return_, 1) := by decide +kernel
theorem dX7_isTop_0 : decode cX7_isTop 0 = .ok (.iload_n 0, 1) := by decide +kernel
theorem dX7_isTop_1 : decode cX7_isTop 1 = .ok (.iconst 0, 1) := by decide +kernel
theorem dX7_isTop_2 : decode cX7_isTop 2 = .ok (.ldc 100, 2) := by decide +kernel
theorem dX7_isTop_4 : decode cX7_isTop 4 = .ok (.invokestatic 39, 3) := by decide +kernel
theorem dX7_isTop_7 : decode cX7_isTop 7 = .ok (.ireturn, 1) := by decide +kernel
theorem dX7_isBottom_0 : decode cX7_isBottom 0 = .ok (.iload_n 0, 1) := by decide +kernel
theorem dX7_isBottom_1 : decode cX7_isBottom 1 = .ok (.iconst 1, 1) := by decide +kernel
theorem dX7_isBottom_2 : decode cX7_isBottom 2 = .ok (.ldc 100, 2) := by decide +kernel
theorem dX7_isBottom_4 : decode cX7_isBottom 4 = .ok (.invokestatic 39, 3) := by decide +kernel
theorem dX7_isBottom_7 : decode cX7_isBottom 7 = .ok (.ireturn, 1) := by decide +kernel
theorem dX7_set_0 : decode cX7_set 0 = .ok (.aload_n 0, 1) := by decide +kernel
theorem dX7_set_1 : decode cX7_set 1 = .ok (.iconst 0, 1) := by decide +kernel
theorem dX7_set_2 : decode cX7_set 2 = .ok (.putfield 35, 3) := by decide +kernel
theorem dX7_set_5 : decode cX7_set 5 = .ok (.iload_n 1, 1) := by decide +kernel
theorem dX7_set_6 : decode cX7_set 6 = .ok (.invokestatic 43, 3) := by decide +kernel
theorem dX7_set_9 : decode cX7_set 9 = .ok (.ifCond .ne 9, 3) := by decide +kernel
theorem dX7_set_12 : decode cX7_set 12 = .ok (.aload_n 0, 1) := by decide +kernel
theorem dX7_set_13 : decode cX7_set 13 = .ok (.iconst 1, 1) := by decide +kernel
theorem dX7_set_14 : decode cX7_set 14 = .ok (.invokevirtual 101, 3) := by decide +kernel
theorem dX7_set_17 : decode cX7_set 17 = .ok (.ireturn, 1) := by decide +kernel
theorem dX7_set_18 : decode cX7_set 18 = .ok (.iload_n 2, 1) := by decide +kernel
theorem dX7_set_19 : decode cX7_set 19 = .ok (.invokestatic 104, 3) := by decide +kernel
theorem dX7_set_22 : decode cX7_set 22 = .ok (.ifCond .eq 10, 3) := by decide +kernel
theorem dX7_set_25 : decode cX7_set 25 = .ok (.iload_n 3, 1) := by decide +kernel
theorem dX7_set_26 : decode cX7_set 26 = .ok (.invokestatic 107, 3) := by decide +kernel
theorem dX7_set_29 : decode cX7_set 29 = .ok (.ifCond .ne 9, 3) := by decide +kernel
theorem dX7_set_32 : decode cX7_set 32 = .ok (.aload_n 0, 1) := by decide +kernel
theorem dX7_set_33 : decode cX7_set 33 = .ok (.iconst 2, 1) := by decide +kernel
theorem dX7_set_34 : decode cX7_set 34 = .ok (.invokevirtual 101, 3) := by decide +kernel
theorem dX7_set_37 : decode cX7_set 37 = .ok (.ireturn, 1) := by decide +kernel
theorem dX7_set_38 : decode cX7_set 38 = .ok (.aload_n 0, 1) := by decide +kernel
theorem dX7_set_39 : decode cX7_set 39 = .ok (.invokevirtual 110, 3) := by decide +kernel
theorem dX7_set_42 : decode cX7_set 42 = .ok (.aload_n 0, 1) := by decide +kernel
theorem dX7_set_43 : decode cX7_set 43 = .ok (.iload_n 2, 1) := by decide +kernel
theorem dX7_set_44 : decode cX7_set 44 = .ok (.i2l, 1) := by decide +kernel
theorem dX7_set_45 : decode cX7_set 45 = .ok (.iload_n 3, 1) := by decide +kernel
theorem dX7_set_46 : decode cX7_set 46 = .ok (.i2l, 1) := by decide +kernel
theorem dX7_set_47 : decode cX7_set 47 = .ok (.invokevirtual 70, 3) := by decide +kernel
theorem dX7_set_50 : decode cX7_set 50 = .ok (.pop, 1) := by decide +kernel
theorem dX7_set_51 : decode cX7_set 51 = .ok (.aload_n 0, 1) := by decide +kernel
theorem dX7_set_52 : decode cX7_set 52 = .ok (.iload_n 1, 1) := by decide +kernel
theorem dX7_set_53 : decode cX7_set 53 = .ok (.invokevirtual 113, 3) := by decide +kernel
theorem dX7_set_56 : decode cX7_set 56 = .ok (.ireturn, 1) := by decide +kernel
theorem dX7_add_0 : decode cX7_add 0 = .ok (.aload_n 0, 1) := by decide +kernel
theorem dX7_add_1 : decode cX7_add 1 = .ok (.iconst 0, 1) := by decide +kernel
theorem dX7_add_2 : decode cX7_add 2 = .ok (.putfield 35, 3) := by decide +kernel
theorem dX7_add_5 : decode cX7_add 5 = .ok (.iload_n 1, 1) := by decide +kernel
theorem dX7_add_6 : decode cX7_add 6 = .ok (.iload_n 2, 1) := by decide +kernel
theorem dX7_add_7 : decode cX7_add 7 = .ok (.invokestatic 116, 3) := by decide +kernel
theorem dX7_add_10 : decode cX7_add 10 = .ok (.ifCond .ne 9, 3) := by decide +kernel
theorem dX7_add_13 : decode cX7_add 13 = .ok (.aload_n 0, 1) := by decide +kernel
theorem dX7_add_14 : decode cX7_add 14 = .ok (.iconst 1, 1) := by decide +kernel
theorem dX7_add_15 : decode cX7_add 15 = .ok (.invokevirtual 101, 3) := by decide +kernel
theorem dX7_add_18 : decode cX7_add 18 = .ok (.ireturn, 1) := by decide +kernel
theorem dX7_add_19 : decode cX7_add 19 = .ok (.aload_n 0, 1) := by decide +kernel
theorem dX7_add_20 : decode cX7_add 20 = .ok (.iload_n 1, 1) := by decide +kernel
theorem dX7_add_21 : decode cX7_add 21 = .ok (.iload_n 2, 1) := by decide +kernel
theorem dX7_add_22 : decode cX7_add 22 = .ok (.iconst 1, 1) := by decide +kernel
theorem dX7_add_23 : decode cX7_add 23 = .ok (.invokevirtual 120, 3) := by decide +kernel
theorem dX7_add_26 : decode cX7_add 26 = .ok (.ifCond .ne 9, 3) := by decide +kernel
theorem dX7_add_29 : decode cX7_add 29 = .ok (.aload_n 0, 1) := by decide +kernel
theorem dX7_add_30 : decode cX7_add 30 = .ok (.iconst 2, 1) := by decide +kernel
theorem dX7_add_31 : decode cX7_add 31 = .ok (.invokevirtual 101, 3) := by decide +kernel
theorem dX7_add_34 : decode cX7_add 34 = .ok (.ireturn, 1) := by decide +kernel
theorem dX7_add_35 : decode cX7_add 35 = .ok (.aload_n 0, 1) := by decide +kernel
theorem dX7_add_36 : decode cX7_add 36 = .ok (.invokevirtual 110, 3) := by decide +kernel
theorem dX7_add_39 : decode cX7_add 39 = .ok (.aload_n 0, 1) := by decide +kernel
theorem dX7_add_40 : decode cX7_add 40 = .ok (.iload_n 1, 1) := by decide +kernel
theorem dX7_add_41 : decode cX7_add 41 = .ok (.invokevirtual 113, 3) := by decide +kernel
theorem dX7_add_44 : decode cX7_add 44 = .ok (.ireturn, 1) := by decide +kernel
theorem dX7_takeAway_0 : decode cX7_takeAway 0 = .ok (.aload_n 0, 1) := by decide +kernel
theorem dX7_takeAway_1 : decode cX7_takeAway 1 = .ok (.iconst 0, 1) := by decide +kernel
theorem dX7_takeAway_2 : decode cX7_takeAway 2 = .ok (.putfield 35, 3) := by decide +kernel
theorem dX7_takeAway_5 : decode cX7_takeAway 5 = .ok (.iload_n 1, 1) := by decide +kernel
theorem dX7_takeAway_6 : decode cX7_takeAway 6 = .ok (.iload_n 2, 1) := by decide +kernel
theorem dX7_takeAway_7 : decode cX7_takeAway 7 = .ok (.invokestatic 116, 3) := by decide +kernel
theorem dX7_takeAway_10 : decode cX7_takeAway 10 = .ok (.ifCond .ne 9, 3) := by decide +kernel
theorem dX7_takeAway_13 : decode cX7_takeAway 13 = .ok (.aload_n 0, 1) := by decide +kernel
theorem dX7_takeAway_14 : decode cX7_takeAway 14 = .ok (.iconst 1, 1) := by decide +kernel
theorem dX7_takeAway_15 : decode cX7_takeAway 15 = .ok (.invokevirtual 101, 3) := by decide +kernel
theorem dX7_takeAway_18 : decode cX7_takeAway 18 = .ok (.ireturn, 1) := by decide +kernel
theorem dX7_takeAway_19 : decode cX7_takeAway 19 = .ok (.aload_n 0, 1) := by decide +kernel
theorem dX7_takeAway_20 : decode cX7_takeAway 20 = .ok (.iload_n 1, 1) := by decide +kernel
theorem dX7_takeAway_21 : decode cX7_takeAway 21 = .ok (.iload_n 2, 1) := by decide +kernel
theorem dX7_takeAway_22 : decode cX7_takeAway 22 = .ok (.invokevirtual 123, 3) := by decide +kernel
theorem dX7_takeAway_25 : decode cX7_takeAway 25 = .ok (.ifCond .lt 13, 3) := by decide +kernel
theorem dX7_takeAway_28 : decode cX7_takeAway 28 = .ok (.aload_n 0, 1) := by decide +kernel
theorem dX7_takeAway_29 : decode cX7_takeAway 29 = .ok (.iload_n 1, 1) := by decide +kernel
theorem dX7_takeAway_30 : decode cX7_takeAway 30 = .ok (.iload_n 2, 1) := by decide +kernel
theorem dX7_takeAway_31 : decode cX7_takeAway 31 = .ok (.iconst (-1), 1) := by decide +kernel
theorem dX7_takeAway_32 : decode cX7_takeAway 32 = .ok (.invokevirtual 120, 3) := by decide +kernel
theorem dX7_takeAway_35 : decode cX7_takeAway 35 = .ok (.ifCond .ne 9, 3) := by decide +kernel
theorem dX7_takeAway_38 : decode cX7_takeAway 38 = .ok (.aload_n 0, 1) := by decide +kernel
theorem dX7_takeAway_39 : decode cX7_takeAway 39 = .ok (.iconst 2, 1) := by decide +kernel
theorem dX7_takeAway_40 : decode cX7_takeAway 40 = .ok (.invokevirtual 101, 3) := by decide +kernel
theorem dX7_takeAway_43 : decode cX7_takeAway 43 = .ok (.ireturn, 1) := by decide +kernel
theorem dX7_takeAway_44 : decode cX7_takeAway 44 = .ok (.aload_n 0, 1) := by decide +kernel
theorem dX7_takeAway_45 : decode cX7_takeAway 45 = .ok (.invokevirtual 110, 3) := by decide +kernel
theorem dX7_takeAway_48 : decode cX7_takeAway 48 = .ok (.aload_n 0, 1) := by decide +kernel
theorem dX7_takeAway_49 : decode cX7_takeAway 49 = .ok (.iload_n 1, 1) := by decide +kernel
theorem dX7_takeAway_50 : decode cX7_takeAway 50 = .ok (.invokevirtual 113, 3) := by decide +kernel
theorem dX7_takeAway_53 : decode cX7_takeAway 53 = .ok (.ireturn, 1) := by decide +kernel
theorem dX7_multiply_0 : decode cX7_multiply 0 = .ok (.aload_n 0, 1) := by decide +kernel
theorem dX7_multiply_1 : decode cX7_multiply 1 = .ok (.iconst 0, 1) := by decide +kernel
theorem dX7_multiply_2 : decode cX7_multiply 2 = .ok (.putfield 35, 3) := by decide +kernel
theorem dX7_multiply_5 : decode cX7_multiply 5 = .ok (.iload_n 1, 1) := by decide +kernel
theorem dX7_multiply_6 : decode cX7_multiply 6 = .ok (.iload_n 2, 1) := by decide +kernel
theorem dX7_multiply_7 : decode cX7_multiply 7 = .ok (.invokestatic 116, 3) := by decide +kernel
theorem dX7_multiply_10 : decode cX7_multiply 10 = .ok (.ifCond .ne 9, 3) := by decide +kernel
theorem dX7_multiply_13 : decode cX7_multiply 13 = .ok (.aload_n 0, 1) := by decide +kernel
theorem dX7_multiply_14 : decode cX7_multiply 14 = .ok (.iconst 1, 1) := by decide +kernel
theorem dX7_multiply_15 : decode cX7_multiply 15 = .ok (.invokevirtual 101, 3) := by decide +kernel
theorem dX7_multiply_18 : decode cX7_multiply 18 = .ok (.ireturn, 1) := by decide +kernel
theorem dX7_multiply_19 : decode cX7_multiply 19 = .ok (.aload_n 0, 1) := by decide +kernel
theorem dX7_multiply_20 : decode cX7_multiply 20 = .ok (.iload_n 1, 1) := by decide +kernel
theorem dX7_multiply_21 : decode cX7_multiply 21 = .ok (.iload_n 2, 1) := by decide +kernel
theorem dX7_multiply_22 : decode cX7_multiply 22 = .ok (.invokevirtual 127, 3) := by decide +kernel
theorem dX7_multiply_25 : decode cX7_multiply 25 = .ok (.ifCond .ne 9, 3) := by decide +kernel
theorem dX7_multiply_28 : decode cX7_multiply 28 = .ok (.aload_n 0, 1) := by decide +kernel
theorem dX7_multiply_29 : decode cX7_multiply 29 = .ok (.iconst 2, 1) := by decide +kernel
theorem dX7_multiply_30 : decode cX7_multiply 30 = .ok (.invokevirtual 101, 3) := by decide +kernel
theorem dX7_multiply_33 : decode cX7_multiply 33 = .ok (.ireturn, 1) := by decide +kernel
theorem dX7_multiply_34 : decode cX7_multiply 34 = .ok (.aload_n 0, 1) := by decide +kernel
theorem dX7_multiply_35 : decode cX7_multiply 35 = .ok (.invokevirtual 110, 3) := by decide +kernel
theorem dX7_multiply_38 : decode cX7_multiply 38 = .ok (.aload_n 0, 1) := by decide +kernel
theorem dX7_multiply_39 : decode cX7_multiply 39 = .ok (.iload_n 1, 1) := by decide +kernel
theorem dX7_multiply_40 : decode cX7_multiply 40 = .ok (.invokevirtual 113, 3) := by decide +kernel
theorem dX7_multiply_43 : decode cX7_multiply 43 = .ok (.ireturn, 1) := by decide +kernel
theorem dX7_copies_0 : decode cX7_copies 0 = .ok (.aload_n 0, 1) := by decide +kernel
theorem dX7_copies_1 : decode cX7_copies 1 = .ok (.iload_n 1, 1) := by decide +kernel
theorem dX7_copies_2 : decode cX7_copies 2 = .ok (.iload_n 2, 1) := by decide +kernel
theorem dX7_copies_3 : decode cX7_copies 3 = .ok (.invokevirtual 123, 3) := by decide +kernel
theorem dX7_copies_6 : decode cX7_copies 6 = .ok (.ifCond .ne 7, 3) := by decide +kernel
theorem dX7_copies_9 : decode cX7_copies 9 = .ok (.iconst 1, 1) := by decide +kernel
theorem dX7_copies_10 : decode cX7_copies 10 = .ok (.goto 4, 3) := by decide +kernel
theorem dX7_copies_13 : decode cX7_copies 13 = .ok (.iconst 0, 1) := by decide +kernel
theorem dX7_copies_14 : decode cX7_copies 14 = .ok (.istore_n 3, 1) := by decide +kernel
theorem dX7_copies_15 : decode cX7_copies 15 = .ok (.aload_n 0, 1) := by decide +kernel
theorem dX7_copies_16 : decode cX7_copies 16 = .ok (.getfield 7, 3) := by decide +kernel
theorem dX7_copies_19 : decode cX7_copies 19 = .ok (.iconst 2, 1) := by decide +kernel
theorem dX7_copies_20 : decode cX7_copies 20 = .ok (.iload_n 2, 1) := by decide +kernel
theorem dX7_copies_21 : decode cX7_copies 21 = .ok (.imul, 1) := by decide +kernel
theorem dX7_copies_22 : decode cX7_copies 22 = .ok (.aload_n 0, 1) := by decide +kernel
theorem dX7_copies_23 : decode cX7_copies 23 = .ok (.iload_n 1, 1) := by decide +kernel
theorem dX7_copies_24 : decode cX7_copies 24 = .ok (.invokevirtual 63, 3) := by decide +kernel
theorem dX7_copies_27 : decode cX7_copies 27 = .ok (.iastore, 1) := by decide +kernel
theorem dX7_copies_28 : decode cX7_copies 28 = .ok (.aload_n 0, 1) := by decide +kernel
theorem dX7_copies_29 : decode cX7_copies 29 = .ok (.getfield 7, 3) := by decide +kernel
theorem dX7_copies_32 : decode cX7_copies 32 = .ok (.iconst 2, 1) := by decide +kernel
theorem dX7_copies_33 : decode cX7_copies 33 = .ok (.iload_n 2, 1) := by decide +kernel
theorem dX7_copies_34 : decode cX7_copies 34 = .ok (.imul, 1) := by decide +kernel
theorem dX7_copies_35 : decode cX7_copies 35 = .ok (.iconst 1, 1) := by decide +kernel
theorem dX7_copies_36 : decode cX7_copies 36 = .ok (.iadd, 1) := by decide +kernel
theorem dX7_copies_37 : decode cX7_copies 37 = .ok (.aload_n 0, 1) := by decide +kernel
theorem dX7_copies_38 : decode cX7_copies 38 = .ok (.iload_n 1, 1) := by decide +kernel
theorem dX7_copies_39 : decode cX7_copies 39 = .ok (.invokevirtual 67, 3) := by decide +kernel
theorem dX7_copies_42 : decode cX7_copies 42 = .ok (.iastore, 1) := by decide +kernel
theorem dX7_copies_43 : decode cX7_copies 43 = .ok (.iload_n 3, 1) := by decide +kernel
theorem dX7_copies_44 : decode cX7_copies 44 = .ok (.ireturn, 1) := by decide +kernel
theorem dX7_copyTo_0 : decode cX7_copyTo 0 = .ok (.aload_n 0, 1) := by decide +kernel
theorem dX7_copyTo_1 : decode cX7_copyTo 1 = .ok (.iconst 0, 1) := by decide +kernel
theorem dX7_copyTo_2 : decode cX7_copyTo 2 = .ok (.putfield 35, 3) := by decide +kernel
theorem dX7_copyTo_5 : decode cX7_copyTo 5 = .ok (.iload_n 1, 1) := by decide +kernel
theorem dX7_copyTo_6 : decode cX7_copyTo 6 = .ok (.iload_n 2, 1) := by decide +kernel
theorem dX7_copyTo_7 : decode cX7_copyTo 7 = .ok (.invokestatic 116, 3) := by decide +kernel
theorem dX7_copyTo_10 : decode cX7_copyTo 10 = .ok (.ifCond .ne 17, 3) := by decide +kernel
theorem dX7_copyTo_13 : decode cX7_copyTo 13 = .ok (.aload_n 0, 1) := by decide +kernel
theorem dX7_copyTo_14 : decode cX7_copyTo 14 = .ok (.iconst 1, 1) := by decide +kernel
theorem dX7_copyTo_15 : decode cX7_copyTo 15 = .ok (.invokevirtual 101, 3) := by decide +kernel
theorem dX7_copyTo_18 : decode cX7_copyTo 18 = .ok (.ifCond .le 7, 3) := by decide +kernel
theorem dX7_copyTo_21 : decode cX7_copyTo 21 = .ok (.iconst 1, 1) := by decide +kernel
theorem dX7_copyTo_22 : decode cX7_copyTo 22 = .ok (.goto 4, 3) := by decide +kernel
theorem dX7_copyTo_25 : decode cX7_copyTo 25 = .ok (.iconst 0, 1) := by decide +kernel
theorem dX7_copyTo_26 : decode cX7_copyTo 26 = .ok (.ireturn, 1) := by decide +kernel
theorem dX7_copyTo_27 : decode cX7_copyTo 27 = .ok (.aload_n 0, 1) := by decide +kernel
theorem dX7_copyTo_28 : decode cX7_copyTo 28 = .ok (.invokevirtual 110, 3) := by decide +kernel
theorem dX7_copyTo_31 : decode cX7_copyTo 31 = .ok (.aload_n 0, 1) := by decide +kernel
theorem dX7_copyTo_32 : decode cX7_copyTo 32 = .ok (.iload_n 1, 1) := by decide +kernel
theorem dX7_copyTo_33 : decode cX7_copyTo 33 = .ok (.iload_n 2, 1) := by decide +kernel
theorem dX7_copyTo_34 : decode cX7_copyTo 34 = .ok (.invokevirtual 130, 3) := by decide +kernel
theorem dX7_copyTo_37 : decode cX7_copyTo 37 = .ok (.ireturn, 1) := by decide +kernel
theorem dX7_invert_0 : decode cX7_invert 0 = .ok (.aload_n 0, 1) := by decide +kernel
theorem dX7_invert_1 : decode cX7_invert 1 = .ok (.iconst 0, 1) := by decide +kernel
theorem dX7_invert_2 : decode cX7_invert 2 = .ok (.putfield 35, 3) := by decide +kernel
theorem dX7_invert_5 : decode cX7_invert 5 = .ok (.iload_n 1, 1) := by decide +kernel
theorem dX7_invert_6 : decode cX7_invert 6 = .ok (.invokestatic 43, 3) := by decide +kernel
theorem dX7_invert_9 : decode cX7_invert 9 = .ok (.ifCond .ne 9, 3) := by decide +kernel
theorem dX7_invert_12 : decode cX7_invert 12 = .ok (.aload_n 0, 1) := by decide +kernel
theorem dX7_invert_13 : decode cX7_invert 13 = .ok (.iconst 1, 1) := by decide +kernel
theorem dX7_invert_14 : decode cX7_invert 14 = .ok (.invokevirtual 101, 3) := by decide +kernel
theorem dX7_invert_17 : decode cX7_invert 17 = .ok (.ireturn, 1) := by decide +kernel
theorem dX7_invert_18 : decode cX7_invert 18 = .ok (.aload_n 0, 1) := by decide +kernel
theorem dX7_invert_19 : decode cX7_invert 19 = .ok (.iload_n 1, 1) := by decide +kernel
theorem dX7_invert_20 : decode cX7_invert 20 = .ok (.invokevirtual 63, 3) := by decide +kernel
theorem dX7_invert_23 : decode cX7_invert 23 = .ok (.ifCond .ne 9, 3) := by decide +kernel
theorem dX7_invert_26 : decode cX7_invert 26 = .ok (.aload_n 0, 1) := by decide +kernel
theorem dX7_invert_27 : decode cX7_invert 27 = .ok (.iconst 2, 1) := by decide +kernel
theorem dX7_invert_28 : decode cX7_invert 28 = .ok (.invokevirtual 101, 3) := by decide +kernel
theorem dX7_invert_31 : decode cX7_invert 31 = .ok (.ireturn, 1) := by decide +kernel
theorem dX7_invert_32 : decode cX7_invert 32 = .ok (.aload_n 0, 1) := by decide +kernel
theorem dX7_invert_33 : decode cX7_invert 33 = .ok (.invokevirtual 110, 3) := by decide +kernel
theorem dX7_invert_36 : decode cX7_invert 36 = .ok (.aload_n 0, 1) := by decide +kernel
theorem dX7_invert_37 : decode cX7_invert 37 = .ok (.aload_n 0, 1) := by decide +kernel
theorem dX7_invert_38 : decode cX7_invert 38 = .ok (.iload_n 1, 1) := by decide +kernel
theorem dX7_invert_39 : decode cX7_invert 39 = .ok (.invokevirtual 67, 3) := by decide +kernel
theorem dX7_invert_42 : decode cX7_invert 42 = .ok (.i2l, 1) := by decide +kernel
theorem dX7_invert_43 : decode cX7_invert 43 = .ok (.aload_n 0, 1) := by decide +kernel
theorem dX7_invert_44 : decode cX7_invert 44 = .ok (.iload_n 1, 1) := by decide +kernel
theorem dX7_invert_45 : decode cX7_invert 45 = .ok (.invokevirtual 63, 3) := by decide +kernel
theorem dX7_invert_48 : decode cX7_invert 48 = .ok (.i2l, 1) := by decide +kernel
theorem dX7_invert_49 : decode cX7_invert 49 = .ok (.invokevirtual 70, 3) := by decide +kernel
theorem dX7_invert_52 : decode cX7_invert 52 = .ok (.pop, 1) := by decide +kernel
theorem dX7_invert_53 : decode cX7_invert 53 = .ok (.aload_n 0, 1) := by decide +kernel
theorem dX7_invert_54 : decode cX7_invert 54 = .ok (.iload_n 1, 1) := by decide +kernel
theorem dX7_invert_55 : decode cX7_invert 55 = .ok (.invokevirtual 113, 3) := by decide +kernel
theorem dX7_invert_58 : decode cX7_invert 58 = .ok (.ireturn, 1) := by decide +kernel
theorem dX7_share_0 : decode cX7_share 0 = .ok (.aload_n 0, 1) := by decide +kernel
theorem dX7_share_1 : decode cX7_share 1 = .ok (.iconst 0, 1) := by decide +kernel
theorem dX7_share_2 : decode cX7_share 2 = .ok (.putfield 35, 3) := by decide +kernel
theorem dX7_share_5 : decode cX7_share 5 = .ok (.iload_n 1, 1) := by decide +kernel
theorem dX7_share_6 : decode cX7_share 6 = .ok (.invokestatic 43, 3) := by decide +kernel
theorem dX7_share_9 : decode cX7_share 9 = .ok (.ifCond .ne 9, 3) := by decide +kernel
theorem dX7_share_12 : decode cX7_share 12 = .ok (.aload_n 0, 1) := by decide +kernel
theorem dX7_share_13 : decode cX7_share 13 = .ok (.iconst 1, 1) := by decide +kernel
theorem dX7_share_14 : decode cX7_share 14 = .ok (.invokevirtual 101, 3) := by decide +kernel
theorem dX7_share_17 : decode cX7_share 17 = .ok (.ireturn, 1) := by decide +kernel
theorem dX7_share_18 : decode cX7_share 18 = .ok (.iload_n 2, 1) := by decide +kernel
theorem dX7_share_19 : decode cX7_share 19 = .ok (.iconst 1, 1) := by decide +kernel
theorem dX7_share_20 : decode cX7_share 20 = .ok (.bipush 100, 2) := by decide +kernel
theorem dX7_share_22 : decode cX7_share 22 = .ok (.invokestatic 39, 3) := by decide +kernel
theorem dX7_share_25 : decode cX7_share 25 = .ok (.ifCond .ne 9, 3) := by decide +kernel
theorem dX7_share_28 : decode cX7_share 28 = .ok (.aload_n 0, 1) := by decide +kernel
theorem dX7_share_29 : decode cX7_share 29 = .ok (.iconst 2, 1) := by decide +kernel
theorem dX7_share_30 : decode cX7_share 30 = .ok (.invokevirtual 101, 3) := by decide +kernel
theorem dX7_share_33 : decode cX7_share 33 = .ok (.ireturn, 1) := by decide +kernel
theorem dX7_share_34 : decode cX7_share 34 = .ok (.aload_n 0, 1) := by decide +kernel
theorem dX7_share_35 : decode cX7_share 35 = .ok (.aload_n 0, 1) := by decide +kernel
theorem dX7_share_36 : decode cX7_share 36 = .ok (.iload_n 1, 1) := by decide +kernel
theorem dX7_share_37 : decode cX7_share 37 = .ok (.invokevirtual 63, 3) := by decide +kernel
theorem dX7_share_40 : decode cX7_share 40 = .ok (.i2l, 1) := by decide +kernel
theorem dX7_share_41 : decode cX7_share 41 = .ok (.aload_n 0, 1) := by decide +kernel
theorem dX7_share_42 : decode cX7_share 42 = .ok (.iload_n 1, 1) := by decide +kernel
theorem dX7_share_43 : decode cX7_share 43 = .ok (.invokevirtual 67, 3) := by decide +kernel
theorem dX7_share_46 : decode cX7_share 46 = .ok (.i2l, 1) := by decide +kernel
theorem dX7_share_47 : decode cX7_share 47 = .ok (.iload_n 2, 1) := by decide +kernel
theorem dX7_share_48 : decode cX7_share 48 = .ok (.i2l, 1) := by decide +kernel
theorem dX7_share_49 : decode cX7_share 49 = .ok (.lmul, 1) := by decide +kernel
theorem dX7_share_50 : decode cX7_share 50 = .ok (.invokevirtual 70, 3) := by decide +kernel
theorem dX7_share_53 : decode cX7_share 53 = .ok (.ifCond .ne 9, 3) := by decide +kernel
theorem dX7_share_56 : decode cX7_share 56 = .ok (.aload_n 0, 1) := by decide +kernel
theorem dX7_share_57 : decode cX7_share 57 = .ok (.iconst 3, 1) := by decide +kernel
theorem dX7_share_58 : decode cX7_share 58 = .ok (.invokevirtual 101, 3) := by decide +kernel
theorem dX7_share_61 : decode cX7_share 61 = .ok (.ireturn, 1) := by decide +kernel
theorem dX7_share_62 : decode cX7_share 62 = .ok (.aload_n 0, 1) := by decide +kernel
theorem dX7_share_63 : decode cX7_share 63 = .ok (.invokevirtual 110, 3) := by decide +kernel
theorem dX7_share_66 : decode cX7_share 66 = .ok (.aload_n 0, 1) := by decide +kernel
theorem dX7_share_67 : decode cX7_share 67 = .ok (.iload_n 1, 1) := by decide +kernel
theorem dX7_share_68 : decode cX7_share 68 = .ok (.invokevirtual 113, 3) := by decide +kernel
theorem dX7_share_71 : decode cX7_share 71 = .ok (.ireturn, 1) := by decide +kernel
theorem dX7_isGreatest_0 : decode cX7_isGreatest 0 = .ok (.iload_n 0, 1) := by decide +kernel
theorem dX7_isGreatest_1 : decode cX7_isGreatest 1 = .ok (.iconst 1, 1) := by decide +kernel
theorem dX7_isGreatest_2 : decode cX7_isGreatest 2 = .ok (.sipush 1000, 3) := by decide +kernel
theorem dX7_isGreatest_5 : decode cX7_isGreatest 5 = .ok (.invokestatic 39, 3) := by decide +kernel
theorem dX7_isGreatest_8 : decode cX7_isGreatest 8 = .ok (.ireturn, 1) := by decide +kernel
theorem dX7_roundTo_0 : decode cX7_roundTo 0 = .ok (.aload_n 0, 1) := by decide +kernel
theorem dX7_roundTo_1 : decode cX7_roundTo 1 = .ok (.iconst 0, 1) := by decide +kernel
theorem dX7_roundTo_2 : decode cX7_roundTo 2 = .ok (.putfield 35, 3) := by decide +kernel
theorem dX7_roundTo_5 : decode cX7_roundTo 5 = .ok (.iload_n 1, 1) := by decide +kernel
theorem dX7_roundTo_6 : decode cX7_roundTo 6 = .ok (.invokestatic 43, 3) := by decide +kernel
theorem dX7_roundTo_9 : decode cX7_roundTo 9 = .ok (.ifCond .ne 9, 3) := by decide +kernel
theorem dX7_roundTo_12 : decode cX7_roundTo 12 = .ok (.aload_n 0, 1) := by decide +kernel
theorem dX7_roundTo_13 : decode cX7_roundTo 13 = .ok (.iconst 1, 1) := by decide +kernel
theorem dX7_roundTo_14 : decode cX7_roundTo 14 = .ok (.invokevirtual 101, 3) := by decide +kernel
theorem dX7_roundTo_17 : decode cX7_roundTo 17 = .ok (.ireturn, 1) := by decide +kernel
theorem dX7_roundTo_18 : decode cX7_roundTo 18 = .ok (.iload_n 2, 1) := by decide +kernel
theorem dX7_roundTo_19 : decode cX7_roundTo 19 = .ok (.invokestatic 133, 3) := by decide +kernel
theorem dX7_roundTo_22 : decode cX7_roundTo 22 = .ok (.ifCond .ne 9, 3) := by decide +kernel
theorem dX7_roundTo_25 : decode cX7_roundTo 25 = .ok (.aload_n 0, 1) := by decide +kernel
theorem dX7_roundTo_26 : decode cX7_roundTo 26 = .ok (.iconst 2, 1) := by decide +kernel
theorem dX7_roundTo_27 : decode cX7_roundTo 27 = .ok (.invokevirtual 101, 3) := by decide +kernel
theorem dX7_roundTo_30 : decode cX7_roundTo 30 = .ok (.ireturn, 1) := by decide +kernel
theorem dX7_roundTo_31 : decode cX7_roundTo 31 = .ok (.aload_n 0, 1) := by decide +kernel
theorem dX7_roundTo_32 : decode cX7_roundTo 32 = .ok (.invokevirtual 110, 3) := by decide +kernel
theorem dX7_roundTo_35 : decode cX7_roundTo 35 = .ok (.aload_n 0, 1) := by decide +kernel
theorem dX7_roundTo_36 : decode cX7_roundTo 36 = .ok (.iload_n 1, 1) := by decide +kernel
theorem dX7_roundTo_37 : decode cX7_roundTo 37 = .ok (.iload_n 2, 1) := by decide +kernel
theorem dX7_roundTo_38 : decode cX7_roundTo 38 = .ok (.invokevirtual 136, 3) := by decide +kernel
theorem dX7_roundTo_41 : decode cX7_roundTo 41 = .ok (.aload_n 0, 1) := by decide +kernel
theorem dX7_roundTo_42 : decode cX7_roundTo 42 = .ok (.aload_n 0, 1) := by decide +kernel
theorem dX7_roundTo_43 : decode cX7_roundTo 43 = .ok (.getfield 86, 3) := by decide +kernel
theorem dX7_roundTo_46 : decode cX7_roundTo 46 = .ok (.i2l, 1) := by decide +kernel
theorem dX7_roundTo_47 : decode cX7_roundTo 47 = .ok (.aload_n 0, 1) := by decide +kernel
theorem dX7_roundTo_48 : decode cX7_roundTo 48 = .ok (.getfield 83, 3) := by decide +kernel
theorem dX7_roundTo_51 : decode cX7_roundTo 51 = .ok (.i2l, 1) := by decide +kernel
theorem dX7_roundTo_52 : decode cX7_roundTo 52 = .ok (.invokevirtual 70, 3) := by decide +kernel
theorem dX7_roundTo_55 : decode cX7_roundTo 55 = .ok (.pop, 1) := by decide +kernel
theorem dX7_roundTo_56 : decode cX7_roundTo 56 = .ok (.aload_n 0, 1) := by decide +kernel
theorem dX7_roundTo_57 : decode cX7_roundTo 57 = .ok (.iload_n 1, 1) := by decide +kernel
theorem dX7_roundTo_58 : decode cX7_roundTo 58 = .ok (.invokevirtual 113, 3) := by decide +kernel
theorem dX7_roundTo_61 : decode cX7_roundTo 61 = .ok (.ireturn, 1) := by decide +kernel
theorem dX7_numeratorOf_0 : decode cX7_numeratorOf 0 = .ok (.aload_n 0, 1) := by decide +kernel
theorem dX7_numeratorOf_1 : decode cX7_numeratorOf 1 = .ok (.iconst 0, 1) := by decide +kernel
theorem dX7_numeratorOf_2 : decode cX7_numeratorOf 2 = .ok (.putfield 35, 3) := by decide +kernel
theorem dX7_numeratorOf_5 : decode cX7_numeratorOf 5 = .ok (.iload_n 1, 1) := by decide +kernel
theorem dX7_numeratorOf_6 : decode cX7_numeratorOf 6 = .ok (.invokestatic 43, 3) := by decide +kernel
theorem dX7_numeratorOf_9 : decode cX7_numeratorOf 9 = .ok (.ifCond .eq 11, 3) := by decide +kernel
theorem dX7_numeratorOf_12 : decode cX7_numeratorOf 12 = .ok (.aload_n 0, 1) := by decide +kernel
theorem dX7_numeratorOf_13 : decode cX7_numeratorOf 13 = .ok (.iload_n 1, 1) := by decide +kernel
theorem dX7_numeratorOf_14 : decode cX7_numeratorOf 14 = .ok (.invokevirtual 63, 3) := by decide +kernel
theorem dX7_numeratorOf_17 : decode cX7_numeratorOf 17 = .ok (.goto 8, 3) := by decide +kernel
theorem dX7_numeratorOf_20 : decode cX7_numeratorOf 20 = .ok (.aload_n 0, 1) := by decide +kernel
theorem dX7_numeratorOf_21 : decode cX7_numeratorOf 21 = .ok (.iconst 1, 1) := by decide +kernel
theorem dX7_numeratorOf_22 : decode cX7_numeratorOf 22 = .ok (.invokevirtual 101, 3) := by decide +kernel
theorem dX7_numeratorOf_25 : decode cX7_numeratorOf 25 = .ok (.ireturn, 1) := by decide +kernel
theorem dX7_denominatorOf_0 : decode cX7_denominatorOf 0 = .ok (.aload_n 0, 1) := by decide +kernel
theorem dX7_denominatorOf_1 : decode cX7_denominatorOf 1 = .ok (.iconst 0, 1) := by decide +kernel
theorem dX7_denominatorOf_2 : decode cX7_denominatorOf 2 = .ok (.putfield 35, 3) := by decide +kernel
theorem dX7_denominatorOf_5 : decode cX7_denominatorOf 5 = .ok (.iload_n 1, 1) := by decide +kernel
theorem dX7_denominatorOf_6 : decode cX7_denominatorOf 6 = .ok (.invokestatic 43, 3) := by decide +kernel
theorem dX7_denominatorOf_9 : decode cX7_denominatorOf 9 = .ok (.ifCond .eq 11, 3) := by decide +kernel
theorem dX7_denominatorOf_12 : decode cX7_denominatorOf 12 = .ok (.aload_n 0, 1) := by decide +kernel
theorem dX7_denominatorOf_13 : decode cX7_denominatorOf 13 = .ok (.iload_n 1, 1) := by decide +kernel
theorem dX7_denominatorOf_14 : decode cX7_denominatorOf 14 = .ok (.invokevirtual 67, 3) := by decide +kernel
theorem dX7_denominatorOf_17 : decode cX7_denominatorOf 17 = .ok (.goto 8, 3) := by decide +kernel
theorem dX7_denominatorOf_20 : decode cX7_denominatorOf 20 = .ok (.aload_n 0, 1) := by decide +kernel
theorem dX7_denominatorOf_21 : decode cX7_denominatorOf 21 = .ok (.iconst 1, 1) := by decide +kernel
theorem dX7_denominatorOf_22 : decode cX7_denominatorOf 22 = .ok (.invokevirtual 101, 3) := by decide +kernel
theorem dX7_denominatorOf_25 : decode cX7_denominatorOf 25 = .ok (.ireturn, 1) := by decide +kernel
theorem dX7_compare_0 : decode cX7_compare 0 = .ok (.aload_n 0, 1) := by decide +kernel
theorem dX7_compare_1 : decode cX7_compare 1 = .ok (.iconst 0, 1) := by decide +kernel
theorem dX7_compare_2 : decode cX7_compare 2 = .ok (.putfield 35, 3) := by decide +kernel
theorem dX7_compare_5 : decode cX7_compare 5 = .ok (.iload_n 1, 1) := by decide +kernel
theorem dX7_compare_6 : decode cX7_compare 6 = .ok (.iload_n 2, 1) := by decide +kernel
theorem dX7_compare_7 : decode cX7_compare 7 = .ok (.invokestatic 116, 3) := by decide +kernel
theorem dX7_compare_10 : decode cX7_compare 10 = .ok (.ifCond .eq 12, 3) := by decide +kernel
theorem dX7_compare_13 : decode cX7_compare 13 = .ok (.aload_n 0, 1) := by decide +kernel
theorem dX7_compare_14 : decode cX7_compare 14 = .ok (.iload_n 1, 1) := by decide +kernel
theorem dX7_compare_15 : decode cX7_compare 15 = .ok (.iload_n 2, 1) := by decide +kernel
theorem dX7_compare_16 : decode cX7_compare 16 = .ok (.invokevirtual 123, 3) := by decide +kernel
theorem dX7_compare_19 : decode cX7_compare 19 = .ok (.goto 8, 3) := by decide +kernel
theorem dX7_compare_22 : decode cX7_compare 22 = .ok (.aload_n 0, 1) := by decide +kernel
theorem dX7_compare_23 : decode cX7_compare 23 = .ok (.iconst 1, 1) := by decide +kernel
theorem dX7_compare_24 : decode cX7_compare 24 = .ok (.invokevirtual 101, 3) := by decide +kernel
theorem dX7_compare_27 : decode cX7_compare 27 = .ok (.ireturn, 1) := by decide +kernel
theorem dX7_ranked_0 : decode cX7_ranked 0 = .ok (.iconst (-1), 1) := by decide +kernel
theorem dX7_ranked_1 : decode cX7_ranked 1 = .ok (.istore_n 2, 1) := by decide +kernel
theorem dX7_ranked_2 : decode cX7_ranked 2 = .ok (.iconst 0, 1) := by decide +kernel
theorem dX7_ranked_3 : decode cX7_ranked 3 = .ok (.istore_n 3, 1) := by decide +kernel
theorem dX7_ranked_4 : decode cX7_ranked 4 = .ok (.iload_n 3, 1) := by decide +kernel
theorem dX7_ranked_5 : decode cX7_ranked 5 = .ok (.bipush 6, 2) := by decide +kernel
theorem dX7_ranked_7 : decode cX7_ranked 7 = .ok (.if_icmp .ge 76, 3) := by decide +kernel
theorem dX7_ranked_10 : decode cX7_ranked 10 = .ok (.iconst 0, 1) := by decide +kernel
theorem dX7_ranked_11 : decode cX7_ranked 11 = .ok (.istore 4, 2) := by decide +kernel
theorem dX7_ranked_13 : decode cX7_ranked 13 = .ok (.iconst 0, 1) := by decide +kernel
theorem dX7_ranked_14 : decode cX7_ranked 14 = .ok (.istore 5, 2) := by decide +kernel
theorem dX7_ranked_16 : decode cX7_ranked 16 = .ok (.iload 5, 2) := by decide +kernel
theorem dX7_ranked_18 : decode cX7_ranked 18 = .ok (.bipush 6, 2) := by decide +kernel
