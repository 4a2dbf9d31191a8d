theorem dL_unitAt_20 : decode cL_unitAt 20 = .ok (.ireturn, 1) := by decide +kernel
theorem dL_unitAt_21 : decode cL_unitAt 21 = .ok (.iconst 0, 1) := by decide +kernel
theorem dL_unitAt_22 : decode cL_unitAt 22 = .ok (.ireturn, 1) := by decide +kernel
theorem dL_waySteps_0 : decode cL_waySteps 0 = .ok (.aload_n 2, 1) := by decide +kernel
theorem dL_waySteps_1 : decode cL_waySteps 1 = .ok (.iconst 0, 1) := by decide +kernel
theorem dL_waySteps_2 : decode cL_waySteps 2 = .ok (.aload_n 0, 1) := by decide +kernel
theorem dL_waySteps_3 : decode cL_waySteps 3 = .ok (.iload_n 1, 1) := by decide +kernel
theorem dL_waySteps_4 : decode cL_waySteps 4 = .ok (.invokevirtual 82, 3) := by decide +kernel
theorem dL_waySteps_7 : decode cL_waySteps 7 = .ok (.i2l, 1) := by decide +kernel
theorem dL_waySteps_8 : decode cL_waySteps 8 = .ok (.lastore, 1) := by decide +kernel
theorem dL_waySteps_9 : decode cL_waySteps 9 = .ok (.goto 9, 3) := by decide +kernel
theorem dL_waySteps_12 : decode cL_waySteps 12 = .ok (.astore_n 3, 1) := by decide +kernel
theorem dL_waySteps_13 : decode cL_waySteps 13 = .ok (.iconst 1, 1) := by decide +kernel
theorem dL_waySteps_14 : decode cL_waySteps 14 = .ok (.ireturn, 1) := by decide +kernel
theorem dL_waySteps_15 : decode cL_waySteps 15 = .ok (.astore_n 3, 1) := by decide +kernel
theorem dL_waySteps_16 : decode cL_waySteps 16 = .ok (.iconst 2, 1) := by decide +kernel
theorem dL_waySteps_17 : decode cL_waySteps 17 = .ok (.ireturn, 1) := by decide +kernel
theorem dL_waySteps_18 : decode cL_waySteps 18 = .ok (.iconst 0, 1) := by decide +kernel
theorem dL_waySteps_19 : decode cL_waySteps 19 = .ok (.ireturn, 1) := by decide +kernel
theorem dL_wayTurns_0 : decode cL_wayTurns 0 = .ok (.aload_n 2, 1) := by decide +kernel
theorem dL_wayTurns_1 : decode cL_wayTurns 1 = .ok (.iconst 0, 1) := by decide +kernel
theorem dL_wayTurns_2 : decode cL_wayTurns 2 = .ok (.aload_n 0, 1) := by decide +kernel
theorem dL_wayTurns_3 : decode cL_wayTurns 3 = .ok (.iload_n 1, 1) := by decide +kernel
theorem dL_wayTurns_4 : decode cL_wayTurns 4 = .ok (.invokevirtual 85, 3) := by decide +kernel
theorem dL_wayTurns_7 : decode cL_wayTurns 7 = .ok (.i2l, 1) := by decide +kernel
theorem dL_wayTurns_8 : decode cL_wayTurns 8 = .ok (.lastore, 1) := by decide +kernel
theorem dL_wayTurns_9 : decode cL_wayTurns 9 = .ok (.goto 9, 3) := by decide +kernel
theorem dL_wayTurns_12 : decode cL_wayTurns 12 = .ok (.astore_n 3, 1) := by decide +kernel
theorem dL_wayTurns_13 : decode cL_wayTurns 13 = .ok (.iconst 1, 1) := by decide +kernel
theorem dL_wayTurns_14 : decode cL_wayTurns 14 = .ok (.ireturn, 1) := by decide +kernel
theorem dL_wayTurns_15 : decode cL_wayTurns 15 = .ok (.astore_n 3, 1) := by decide +kernel
theorem dL_wayTurns_16 : decode cL_wayTurns 16 = .ok (.iconst 2, 1) := by decide +kernel
theorem dL_wayTurns_17 : decode cL_wayTurns 17 = .ok (.ireturn, 1) := by decide +kernel
theorem dL_wayTurns_18 : decode cL_wayTurns 18 = .ok (.iconst 0, 1) := by decide +kernel
theorem dL_wayTurns_19 : decode cL_wayTurns 19 = .ok (.ireturn, 1) := by decide +kernel
theorem dL_beginsRight_0 : decode cL_beginsRight 0 = .ok (.aload_n 2, 1) := by decide +kernel
theorem dL_beginsRight_1 : decode cL_beginsRight 1 = .ok (.iconst 0, 1) := by decide +kernel
theorem dL_beginsRight_2 : decode cL_beginsRight 2 = .ok (.aload_n 0, 1) := by decide +kernel
theorem dL_beginsRight_3 : decode cL_beginsRight 3 = .ok (.iload_n 1, 1) := by decide +kernel
theorem dL_beginsRight_4 : decode cL_beginsRight 4 = .ok (.invokevirtual 88, 3) := by decide +kernel
theorem dL_beginsRight_7 : decode cL_beginsRight 7 = .ok (.ifCond .eq 7, 3) := by decide +kernel
theorem dL_beginsRight_10 : decode cL_beginsRight 10 = .ok (.lconst 1, 1) := by decide +kernel
theorem dL_beginsRight_11 : decode cL_beginsRight 11 = .ok (.goto 4, 3) := by decide +kernel
theorem dL_beginsRight_14 : decode cL_beginsRight 14 = .ok (.lconst 0, 1) := by decide +kernel
theorem dL_beginsRight_15 : decode cL_beginsRight 15 = .ok (.lastore, 1) := by decide +kernel
theorem dL_beginsRight_16 : decode cL_beginsRight 16 = .ok (.goto 9, 3) := by decide +kernel
theorem dL_beginsRight_19 : decode cL_beginsRight 19 = .ok (.astore_n 3, 1) := by decide +kernel
theorem dL_beginsRight_20 : decode cL_beginsRight 20 = .ok (.iconst 1, 1) := by decide +kernel
theorem dL_beginsRight_21 : decode cL_beginsRight 21 = .ok (.ireturn, 1) := by decide +kernel
theorem dL_beginsRight_22 : decode cL_beginsRight 22 = .ok (.astore_n 3, 1) := by decide +kernel
theorem dL_beginsRight_23 : decode cL_beginsRight 23 = .ok (.iconst 2, 1) := by decide +kernel
theorem dL_beginsRight_24 : decode cL_beginsRight 24 = .ok (.ireturn, 1) := by decide +kernel
theorem dL_beginsRight_25 : decode cL_beginsRight 25 = .ok (.iconst 0, 1) := by decide +kernel
theorem dL_beginsRight_26 : decode cL_beginsRight 26 = .ok (.ireturn, 1) := by decide +kernel
theorem dL_appendText_0 : decode cL_appendText 0 = .ok (.aload_n 3, 1) := by decide +kernel
theorem dL_appendText_1 : decode cL_appendText 1 = .ok (.iconst 0, 1) := by decide +kernel
theorem dL_appendText_2 : decode cL_appendText 2 = .ok (.aload_n 0, 1) := by decide +kernel
theorem dL_appendText_3 : decode cL_appendText 3 = .ok (.lload_n 1, 1) := by decide +kernel
theorem dL_appendText_4 : decode cL_appendText 4 = .ok (.invokevirtual 92, 3) := by decide +kernel
theorem dL_appendText_7 : decode cL_appendText 7 = .ok (.i2l, 1) := by decide +kernel
theorem dL_appendText_8 : decode cL_appendText 8 = .ok (.lastore, 1) := by decide +kernel
theorem dL_appendText_9 : decode cL_appendText 9 = .ok (.goto 11, 3) := by decide +kernel
theorem dL_appendText_12 : decode cL_appendText 12 = .ok (.astore 4, 2) := by decide +kernel
theorem dL_appendText_14 : decode cL_appendText 14 = .ok (.iconst 1, 1) := by decide +kernel
theorem dL_appendText_15 : decode cL_appendText 15 = .ok (.ireturn, 1) := by decide +kernel
theorem dL_appendText_16 : decode cL_appendText 16 = .ok (.astore 4, 2) := by decide +kernel
theorem dL_appendText_18 : decode cL_appendText 18 = .ok (.iconst 2, 1) := by decide +kernel
theorem dL_appendText_19 : decode cL_appendText 19 = .ok (.ireturn, 1) := by decide +kernel
theorem dL_appendText_20 : decode cL_appendText 20 = .ok (.iconst 0, 1) := by decide +kernel
theorem dL_appendText_21 : decode cL_appendText 21 = .ok (.ireturn, 1) := by decide +kernel
theorem dL_runText_0 : decode cL_runText 0 = .ok (.aload_n 1, 1) := by decide +kernel
theorem dL_runText_1 : decode cL_runText 1 = .ok (.iconst 0, 1) := by decide +kernel
theorem dL_runText_2 : decode cL_runText 2 = .ok (.aload_n 0, 1) := by decide +kernel
theorem dL_runText_3 : decode cL_runText 3 = .ok (.invokevirtual 96, 3) := by decide +kernel
theorem dL_runText_6 : decode cL_runText 6 = .ok (.i2l, 1) := by decide +kernel
theorem dL_runText_7 : decode cL_runText 7 = .ok (.lastore, 1) := by decide +kernel
theorem dL_runText_8 : decode cL_runText 8 = .ok (.goto 6, 3) := by decide +kernel
theorem dL_runText_11 : decode cL_runText 11 = .ok (.astore_n 2, 1) := by decide +kernel
theorem dL_runText_12 : decode cL_runText 12 = .ok (.iconst 1, 1) := by decide +kernel
theorem dL_runText_13 : decode cL_runText 13 = .ok (.ireturn, 1) := by decide +kernel
theorem dL_runText_14 : decode cL_runText 14 = .ok (.iconst 0, 1) := by decide +kernel
theorem dL_runText_15 : decode cL_runText 15 = .ok (.ireturn, 1) := by decide +kernel
theorem dL_undo_0 : decode cL_undo 0 = .ok (.aload_n 1, 1) := by decide +kernel
theorem dL_undo_1 : decode cL_undo 1 = .ok (.iconst 0, 1) := by decide +kernel
theorem dL_undo_2 : decode cL_undo 2 = .ok (.aload_n 0, 1) := by decide +kernel
theorem dL_undo_3 : decode cL_undo 3 = .ok (.invokevirtual 100, 3) := by decide +kernel
theorem dL_undo_6 : decode cL_undo 6 = .ok (.i2l, 1) := by decide +kernel
theorem dL_undo_7 : decode cL_undo 7 = .ok (.lastore, 1) := by decide +kernel
theorem dL_undo_8 : decode cL_undo 8 = .ok (.goto 6, 3) := by decide +kernel
theorem dL_undo_11 : decode cL_undo 11 = .ok (.astore_n 2, 1) := by decide +kernel
theorem dL_undo_12 : decode cL_undo 12 = .ok (.iconst 1, 1) := by decide +kernel
theorem dL_undo_13 : decode cL_undo 13 = .ok (.ireturn, 1) := by decide +kernel
theorem dL_undo_14 : decode cL_undo 14 = .ok (.iconst 0, 1) := by decide +kernel
theorem dL_undo_15 : decode cL_undo 15 = .ok (.ireturn, 1) := by decide +kernel
theorem dL_saveState_0 : decode cL_saveState 0 = .ok (.aload_n 2, 1) := by decide +kernel
theorem dL_saveState_1 : decode cL_saveState 1 = .ok (.iconst 0, 1) := by decide +kernel
theorem dL_saveState_2 : decode cL_saveState 2 = .ok (.aload_n 0, 1) := by decide +kernel
theorem dL_saveState_3 : decode cL_saveState 3 = .ok (.iload_n 1, 1) := by decide +kernel
theorem dL_saveState_4 : decode cL_saveState 4 = .ok (.invokevirtual 103, 3) := by decide +kernel
theorem dL_saveState_7 : decode cL_saveState 7 = .ok (.i2l, 1) := by decide +kernel
theorem dL_saveState_8 : decode cL_saveState 8 = .ok (.lastore, 1) := by decide +kernel
theorem dL_saveState_9 : decode cL_saveState 9 = .ok (.goto 6, 3) := by decide +kernel
theorem dL_saveState_12 : decode cL_saveState 12 = .ok (.astore_n 3, 1) := by decide +kernel
theorem dL_saveState_13 : decode cL_saveState 13 = .ok (.iconst 1, 1) := by decide +kernel
theorem dL_saveState_14 : decode cL_saveState 14 = .ok (.ireturn, 1) := by decide +kernel
theorem dL_saveState_15 : decode cL_saveState 15 = .ok (.iconst 0, 1) := by decide +kernel
theorem dL_saveState_16 : decode cL_saveState 16 = .ok (.ireturn, 1) := by decide +kernel
theorem dL_loadState_0 : decode cL_loadState 0 = .ok (.aload_n 2, 1) := by decide +kernel
theorem dL_loadState_1 : decode cL_loadState 1 = .ok (.iconst 0, 1) := by decide +kernel
theorem dL_loadState_2 : decode cL_loadState 2 = .ok (.aload_n 0, 1) := by decide +kernel
theorem dL_loadState_3 : decode cL_loadState 3 = .ok (.iload_n 1, 1) := by decide +kernel
theorem dL_loadState_4 : decode cL_loadState 4 = .ok (.invokevirtual 106, 3) := by decide +kernel
theorem dL_loadState_7 : decode cL_loadState 7 = .ok (.i2l, 1) := by decide +kernel
theorem dL_loadState_8 : decode cL_loadState 8 = .ok (.lastore, 1) := by decide +kernel
theorem dL_loadState_9 : decode cL_loadState 9 = .ok (.goto 9, 3) := by decide +kernel
theorem dL_loadState_12 : decode cL_loadState 12 = .ok (.astore_n 3, 1) := by decide +kernel
theorem dL_loadState_13 : decode cL_loadState 13 = .ok (.iconst 1, 1) := by decide +kernel
theorem dL_loadState_14 : decode cL_loadState 14 = .ok (.ireturn, 1) := by decide +kernel
theorem dL_loadState_15 : decode cL_loadState 15 = .ok (.astore_n 3, 1) := by decide +kernel
theorem dL_loadState_16 : decode cL_loadState 16 = .ok (.iconst 2, 1) := by decide +kernel
theorem dL_loadState_17 : decode cL_loadState 17 = .ok (.ireturn, 1) := by decide +kernel
theorem dL_loadState_18 : decode cL_loadState 18 = .ok (.iconst 0, 1) := by decide +kernel
theorem dL_loadState_19 : decode cL_loadState 19 = .ok (.ireturn, 1) := by decide +kernel
