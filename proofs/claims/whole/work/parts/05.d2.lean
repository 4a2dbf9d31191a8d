theorem dX7_ranked_20 : decode cX7_ranked 20 = .ok (.if_icmp .ge 45, 3) := by decide +kernel
theorem dX7_ranked_23 : decode cX7_ranked 23 = .ok (.iload 4, 2) := by decide +kernel
theorem dX7_ranked_25 : decode cX7_ranked 25 = .ok (.aload_n 0, 1) := by decide +kernel
theorem dX7_ranked_26 : decode cX7_ranked 26 = .ok (.iload 5, 2) := by decide +kernel
theorem dX7_ranked_28 : decode cX7_ranked 28 = .ok (.iload_n 3, 1) := by decide +kernel
theorem dX7_ranked_29 : decode cX7_ranked 29 = .ok (.invokevirtual 123, 3) := by decide +kernel
theorem dX7_ranked_32 : decode cX7_ranked 32 = .ok (.ifCond .gt 19, 3) := by decide +kernel
theorem dX7_ranked_35 : decode cX7_ranked 35 = .ok (.aload_n 0, 1) := by decide +kernel
theorem dX7_ranked_36 : decode cX7_ranked 36 = .ok (.iload 5, 2) := by decide +kernel
theorem dX7_ranked_38 : decode cX7_ranked 38 = .ok (.iload_n 3, 1) := by decide +kernel
theorem dX7_ranked_39 : decode cX7_ranked 39 = .ok (.invokevirtual 123, 3) := by decide +kernel
theorem dX7_ranked_42 : decode cX7_ranked 42 = .ok (.ifCond .ne 13, 3) := by decide +kernel
theorem dX7_ranked_45 : decode cX7_ranked 45 = .ok (.iload 5, 2) := by decide +kernel
theorem dX7_ranked_47 : decode cX7_ranked 47 = .ok (.iload_n 3, 1) := by decide +kernel
theorem dX7_ranked_48 : decode cX7_ranked 48 = .ok (.if_icmp .ge 7, 3) := by decide +kernel
theorem dX7_ranked_51 : decode cX7_ranked 51 = .ok (.iconst 1, 1) := by decide +kernel
theorem dX7_ranked_52 : decode cX7_ranked 52 = .ok (.goto 4, 3) := by decide +kernel
theorem dX7_ranked_55 : decode cX7_ranked 55 = .ok (.iconst 0, 1) := by decide +kernel
theorem dX7_ranked_56 : decode cX7_ranked 56 = .ok (.iadd, 1) := by decide +kernel
theorem dX7_ranked_57 : decode cX7_ranked 57 = .ok (.istore 4, 2) := by decide +kernel
theorem dX7_ranked_59 : decode cX7_ranked 59 = .ok (.iinc 5 1, 3) := by decide +kernel
theorem dX7_ranked_62 : decode cX7_ranked 62 = .ok (.goto (-46), 3) := by decide +kernel
theorem dX7_ranked_65 : decode cX7_ranked 65 = .ok (.iload 4, 2) := by decide +kernel
theorem dX7_ranked_67 : decode cX7_ranked 67 = .ok (.iload_n 1, 1) := by decide +kernel
theorem dX7_ranked_68 : decode cX7_ranked 68 = .ok (.if_icmp .ne 7, 3) := by decide +kernel
theorem dX7_ranked_71 : decode cX7_ranked 71 = .ok (.iload_n 3, 1) := by decide +kernel
theorem dX7_ranked_72 : decode cX7_ranked 72 = .ok (.goto 4, 3) := by decide +kernel
theorem dX7_ranked_75 : decode cX7_ranked 75 = .ok (.iload_n 2, 1) := by decide +kernel
theorem dX7_ranked_76 : decode cX7_ranked 76 = .ok (.istore_n 2, 1) := by decide +kernel
theorem dX7_ranked_77 : decode cX7_ranked 77 = .ok (.iinc 3 1, 3) := by decide +kernel
theorem dX7_ranked_80 : decode cX7_ranked 80 = .ok (.goto (-76), 3) := by decide +kernel
theorem dX7_ranked_83 : decode cX7_ranked 83 = .ok (.iload_n 2, 1) := by decide +kernel
theorem dX7_ranked_84 : decode cX7_ranked 84 = .ok (.ireturn, 1) := by decide +kernel
theorem dX7_plateByAmount_0 : decode cX7_plateByAmount 0 = .ok (.aload_n 0, 1) := by decide +kernel
theorem dX7_plateByAmount_1 : decode cX7_plateByAmount 1 = .ok (.iconst 0, 1) := by decide +kernel
theorem dX7_plateByAmount_2 : decode cX7_plateByAmount 2 = .ok (.putfield 35, 3) := by decide +kernel
theorem dX7_plateByAmount_5 : decode cX7_plateByAmount 5 = .ok (.iload_n 1, 1) := by decide +kernel
theorem dX7_plateByAmount_6 : decode cX7_plateByAmount 6 = .ok (.invokestatic 43, 3) := by decide +kernel
theorem dX7_plateByAmount_9 : decode cX7_plateByAmount 9 = .ok (.ifCond .eq 11, 3) := by decide +kernel
theorem dX7_plateByAmount_12 : decode cX7_plateByAmount 12 = .ok (.aload_n 0, 1) := by decide +kernel
theorem dX7_plateByAmount_13 : decode cX7_plateByAmount 13 = .ok (.iload_n 1, 1) := by decide +kernel
theorem dX7_plateByAmount_14 : decode cX7_plateByAmount 14 = .ok (.invokevirtual 140, 3) := by decide +kernel
theorem dX7_plateByAmount_17 : decode cX7_plateByAmount 17 = .ok (.goto 8, 3) := by decide +kernel
theorem dX7_plateByAmount_20 : decode cX7_plateByAmount 20 = .ok (.aload_n 0, 1) := by decide +kernel
theorem dX7_plateByAmount_21 : decode cX7_plateByAmount 21 = .ok (.iconst 1, 1) := by decide +kernel
theorem dX7_plateByAmount_22 : decode cX7_plateByAmount 22 = .ok (.invokevirtual 101, 3) := by decide +kernel
theorem dX7_plateByAmount_25 : decode cX7_plateByAmount 25 = .ok (.ireturn, 1) := by decide +kernel
theorem dX7_commonParts_0 : decode cX7_commonParts 0 = .ok (.aload_n 0, 1) := by decide +kernel
theorem dX7_commonParts_1 : decode cX7_commonParts 1 = .ok (.iconst 0, 1) := by decide +kernel
theorem dX7_commonParts_2 : decode cX7_commonParts 2 = .ok (.putfield 35, 3) := by decide +kernel
theorem dX7_commonParts_5 : decode cX7_commonParts 5 = .ok (.lconst 1, 1) := by decide +kernel
theorem dX7_commonParts_6 : decode cX7_commonParts 6 = .ok (.lstore_n 1, 1) := by decide +kernel
theorem dX7_commonParts_7 : decode cX7_commonParts 7 = .ok (.iconst 1, 1) := by decide +kernel
theorem dX7_commonParts_8 : decode cX7_commonParts 8 = .ok (.istore_n 3, 1) := by decide +kernel
theorem dX7_commonParts_9 : decode cX7_commonParts 9 = .ok (.iconst 0, 1) := by decide +kernel
theorem dX7_commonParts_10 : decode cX7_commonParts 10 = .ok (.istore 4, 2) := by decide +kernel
theorem dX7_commonParts_12 : decode cX7_commonParts 12 = .ok (.iload 4, 2) := by decide +kernel
theorem dX7_commonParts_14 : decode cX7_commonParts 14 = .ok (.bipush 6, 2) := by decide +kernel
theorem dX7_commonParts_16 : decode cX7_commonParts 16 = .ok (.if_icmp .ge 64, 3) := by decide +kernel
theorem dX7_commonParts_19 : decode cX7_commonParts 19 = .ok (.iload_n 3, 1) := by decide +kernel
theorem dX7_commonParts_20 : decode cX7_commonParts 20 = .ok (.ifCond .eq 60, 3) := by decide +kernel
theorem dX7_commonParts_23 : decode cX7_commonParts 23 = .ok (.aload_n 0, 1) := by decide +kernel
theorem dX7_commonParts_24 : decode cX7_commonParts 24 = .ok (.iload 4, 2) := by decide +kernel
theorem dX7_commonParts_26 : decode cX7_commonParts 26 = .ok (.invokevirtual 67, 3) := by decide +kernel
theorem dX7_commonParts_29 : decode cX7_commonParts 29 = .ok (.i2l, 1) := by decide +kernel
theorem dX7_commonParts_30 : decode cX7_commonParts 30 = .ok (.aload_n 0, 1) := by decide +kernel
theorem dX7_commonParts_31 : decode cX7_commonParts 31 = .ok (.iload 4, 2) := by decide +kernel
theorem dX7_commonParts_33 : decode cX7_commonParts 33 = .ok (.invokevirtual 67, 3) := by decide +kernel
theorem dX7_commonParts_36 : decode cX7_commonParts 36 = .ok (.i2l, 1) := by decide +kernel
theorem dX7_commonParts_37 : decode cX7_commonParts 37 = .ok (.lload_n 1, 1) := by decide +kernel
theorem dX7_commonParts_38 : decode cX7_commonParts 38 = .ok (.invokestatic 50, 3) := by decide +kernel
theorem dX7_commonParts_41 : decode cX7_commonParts 41 = .ok (.ldiv, 1) := by decide +kernel
theorem dX7_commonParts_42 : decode cX7_commonParts 42 = .ok (.lstore 5, 2) := by decide +kernel
theorem dX7_commonParts_44 : decode cX7_commonParts 44 = .ok (.lload_n 1, 1) := by decide +kernel
theorem dX7_commonParts_45 : decode cX7_commonParts 45 = .ok (.ldc2_w 143, 3) := by decide +kernel
theorem dX7_commonParts_48 : decode cX7_commonParts 48 = .ok (.lload 5, 2) := by decide +kernel
theorem dX7_commonParts_50 : decode cX7_commonParts 50 = .ok (.ldiv, 1) := by decide +kernel
theorem dX7_commonParts_51 : decode cX7_commonParts 51 = .ok (.lcmp, 1) := by decide +kernel
theorem dX7_commonParts_52 : decode cX7_commonParts 52 = .ok (.ifCond .gt 7, 3) := by decide +kernel
theorem dX7_commonParts_55 : decode cX7_commonParts 55 = .ok (.iconst 1, 1) := by decide +kernel
theorem dX7_commonParts_56 : decode cX7_commonParts 56 = .ok (.goto 4, 3) := by decide +kernel
theorem dX7_commonParts_59 : decode cX7_commonParts 59 = .ok (.iconst 0, 1) := by decide +kernel
theorem dX7_commonParts_60 : decode cX7_commonParts 60 = .ok (.istore_n 3, 1) := by decide +kernel
theorem dX7_commonParts_61 : decode cX7_commonParts 61 = .ok (.iload_n 3, 1) := by decide +kernel
theorem dX7_commonParts_62 : decode cX7_commonParts 62 = .ok (.ifCond .eq 10, 3) := by decide +kernel
theorem dX7_commonParts_65 : decode cX7_commonParts 65 = .ok (.lload_n 1, 1) := by decide +kernel
theorem dX7_commonParts_66 : decode cX7_commonParts 66 = .ok (.lload 5, 2) := by decide +kernel
theorem dX7_commonParts_68 : decode cX7_commonParts 68 = .ok (.lmul, 1) := by decide +kernel
theorem dX7_commonParts_69 : decode cX7_commonParts 69 = .ok (.goto 4, 3) := by decide +kernel
theorem dX7_commonParts_72 : decode cX7_commonParts 72 = .ok (.lload_n 1, 1) := by decide +kernel
theorem dX7_commonParts_73 : decode cX7_commonParts 73 = .ok (.lstore_n 1, 1) := by decide +kernel
theorem dX7_commonParts_74 : decode cX7_commonParts 74 = .ok (.iinc 4 1, 3) := by decide +kernel
theorem dX7_commonParts_77 : decode cX7_commonParts 77 = .ok (.goto (-65), 3) := by decide +kernel
theorem dX7_commonParts_80 : decode cX7_commonParts 80 = .ok (.iload_n 3, 1) := by decide +kernel
theorem dX7_commonParts_81 : decode cX7_commonParts 81 = .ok (.ifCond .eq 7, 3) := by decide +kernel
theorem dX7_commonParts_84 : decode cX7_commonParts 84 = .ok (.lload_n 1, 1) := by decide +kernel
theorem dX7_commonParts_85 : decode cX7_commonParts 85 = .ok (.goto 6, 3) := by decide +kernel
theorem dX7_commonParts_88 : decode cX7_commonParts 88 = .ok (.ldc2_w 145, 3) := by decide +kernel
theorem dX7_commonParts_91 : decode cX7_commonParts 91 = .ok (.lreturn, 1) := by decide +kernel
theorem dX7_differentFractions_0 : decode cX7_differentFractions 0 = .ok (.aload_n 0, 1) := by decide +kernel
theorem dX7_differentFractions_1 : decode cX7_differentFractions 1 = .ok (.iconst 0, 1) := by decide +kernel
theorem dX7_differentFractions_2 : decode cX7_differentFractions 2 = .ok (.putfield 35, 3) := by decide +kernel
theorem dX7_differentFractions_5 : decode cX7_differentFractions 5 = .ok (.iconst 0, 1) := by decide +kernel
theorem dX7_differentFractions_6 : decode cX7_differentFractions 6 = .ok (.istore_n 1, 1) := by decide +kernel
theorem dX7_differentFractions_7 : decode cX7_differentFractions 7 = .ok (.iconst 0, 1) := by decide +kernel
theorem dX7_differentFractions_8 : decode cX7_differentFractions 8 = .ok (.istore_n 2, 1) := by decide +kernel
theorem dX7_differentFractions_9 : decode cX7_differentFractions 9 = .ok (.iload_n 2, 1) := by decide +kernel
theorem dX7_differentFractions_10 : decode cX7_differentFractions 10 = .ok (.bipush 6, 2) := by decide +kernel
theorem dX7_differentFractions_12 : decode cX7_differentFractions 12 = .ok (.if_icmp .ge 58, 3) := by decide +kernel
theorem dX7_differentFractions_15 : decode cX7_differentFractions 15 = .ok (.iconst 1, 1) := by decide +kernel
theorem dX7_differentFractions_16 : decode cX7_differentFractions 16 = .ok (.istore_n 3, 1) := by decide +kernel
theorem dX7_differentFractions_17 : decode cX7_differentFractions 17 = .ok (.iconst 0, 1) := by decide +kernel
theorem dX7_differentFractions_18 : decode cX7_differentFractions 18 = .ok (.istore 4, 2) := by decide +kernel
theorem dX7_differentFractions_20 : decode cX7_differentFractions 20 = .ok (.iload 4, 2) := by decide +kernel
theorem dX7_differentFractions_22 : decode cX7_differentFractions 22 = .ok (.iload_n 2, 1) := by decide +kernel
theorem dX7_differentFractions_23 : decode cX7_differentFractions 23 = .ok (.if_icmp .ge 29, 3) := by decide +kernel
theorem dX7_differentFractions_26 : decode cX7_differentFractions 26 = .ok (.iload_n 3, 1) := by decide +kernel
theorem dX7_differentFractions_27 : decode cX7_differentFractions 27 = .ok (.ifCond .eq 17, 3) := by decide +kernel
theorem dX7_differentFractions_30 : decode cX7_differentFractions 30 = .ok (.aload_n 0, 1) := by decide +kernel
theorem dX7_differentFractions_31 : decode cX7_differentFractions 31 = .ok (.iload_n 2, 1) := by decide +kernel
theorem dX7_differentFractions_32 : decode cX7_differentFractions 32 = .ok (.iload 4, 2) := by decide +kernel
theorem dX7_differentFractions_34 : decode cX7_differentFractions 34 = .ok (.invokevirtual 123, 3) := by decide +kernel
theorem dX7_differentFractions_37 : decode cX7_differentFractions 37 = .ok (.ifCond .eq 7, 3) := by decide +kernel
theorem dX7_differentFractions_40 : decode cX7_differentFractions 40 = .ok (.iconst 1, 1) := by decide +kernel
theorem dX7_differentFractions_41 : decode cX7_differentFractions 41 = .ok (.goto 4, 3) := by decide +kernel
theorem dX7_differentFractions_44 : decode cX7_differentFractions 44 = .ok (.iconst 0, 1) := by decide +kernel
theorem dX7_differentFractions_45 : decode cX7_differentFractions 45 = .ok (.istore_n 3, 1) := by decide +kernel
theorem dX7_differentFractions_46 : decode cX7_differentFractions 46 = .ok (.iinc 4 1, 3) := by decide +kernel
theorem dX7_differentFractions_49 : decode cX7_differentFractions 49 = .ok (.goto (-29), 3) := by decide +kernel
theorem dX7_differentFractions_52 : decode cX7_differentFractions 52 = .ok (.iload_n 1, 1) := by decide +kernel
theorem dX7_differentFractions_53 : decode cX7_differentFractions 53 = .ok (.iload_n 3, 1) := by decide +kernel
theorem dX7_differentFractions_54 : decode cX7_differentFractions 54 = .ok (.ifCond .eq 7, 3) := by decide +kernel
theorem dX7_differentFractions_57 : decode cX7_differentFractions 57 = .ok (.iconst 1, 1) := by decide +kernel
theorem dX7_differentFractions_58 : decode cX7_differentFractions 58 = .ok (.goto 4, 3) := by decide +kernel
theorem dX7_differentFractions_61 : decode cX7_differentFractions 61 = .ok (.iconst 0, 1) := by decide +kernel
theorem dX7_differentFractions_62 : decode cX7_differentFractions 62 = .ok (.iadd, 1) := by decide +kernel
theorem dX7_differentFractions_63 : decode cX7_differentFractions 63 = .ok (.istore_n 1, 1) := by decide +kernel
theorem dX7_differentFractions_64 : decode cX7_differentFractions 64 = .ok (.iinc 2 1, 3) := by decide +kernel
theorem dX7_differentFractions_67 : decode cX7_differentFractions 67 = .ok (.goto (-58), 3) := by decide +kernel
theorem dX7_differentFractions_70 : decode cX7_differentFractions 70 = .ok (.iload_n 1, 1) := by decide +kernel
theorem dX7_differentFractions_71 : decode cX7_differentFractions 71 = .ok (.ireturn, 1) := by decide +kernel
theorem dX7_countsTerms_0 : decode cX7_countsTerms 0 = .ok (.aload_n 0, 1) := by decide +kernel
theorem dX7_countsTerms_1 : decode cX7_countsTerms 1 = .ok (.iload_n 1, 1) := by decide +kernel
theorem dX7_countsTerms_2 : decode cX7_countsTerms 2 = .ok (.invokevirtual 77, 3) := by decide +kernel
theorem dX7_countsTerms_5 : decode cX7_countsTerms 5 = .ok (.aload_n 0, 1) := by decide +kernel
theorem dX7_countsTerms_6 : decode cX7_countsTerms 6 = .ok (.getfield 74, 3) := by decide +kernel
theorem dX7_countsTerms_9 : decode cX7_countsTerms 9 = .ok (.ireturn, 1) := by decide +kernel
theorem dX7_termCount_0 : decode cX7_termCount 0 = .ok (.aload_n 0, 1) := by decide +kernel
theorem dX7_termCount_1 : decode cX7_termCount 1 = .ok (.iconst 0, 1) := by decide +kernel
theorem dX7_termCount_2 : decode cX7_termCount 2 = .ok (.putfield 35, 3) := by decide +kernel
theorem dX7_termCount_5 : decode cX7_termCount 5 = .ok (.iload_n 1, 1) := by decide +kernel
theorem dX7_termCount_6 : decode cX7_termCount 6 = .ok (.invokestatic 43, 3) := by decide +kernel
theorem dX7_termCount_9 : decode cX7_termCount 9 = .ok (.ifCond .eq 11, 3) := by decide +kernel
theorem dX7_termCount_12 : decode cX7_termCount 12 = .ok (.aload_n 0, 1) := by decide +kernel
theorem dX7_termCount_13 : decode cX7_termCount 13 = .ok (.iload_n 1, 1) := by decide +kernel
theorem dX7_termCount_14 : decode cX7_termCount 14 = .ok (.invokevirtual 147, 3) := by decide +kernel
theorem dX7_termCount_17 : decode cX7_termCount 17 = .ok (.goto 8, 3) := by decide +kernel
theorem dX7_termCount_20 : decode cX7_termCount 20 = .ok (.aload_n 0, 1) := by decide +kernel
theorem dX7_termCount_21 : decode cX7_termCount 21 = .ok (.iconst 1, 1) := by decide +kernel
theorem dX7_termCount_22 : decode cX7_termCount 22 = .ok (.invokevirtual 101, 3) := by decide +kernel
theorem dX7_termCount_25 : decode cX7_termCount 25 = .ok (.ireturn, 1) := by decide +kernel
theorem dX7_termAt_0 : decode cX7_termAt 0 = .ok (.aload_n 0, 1) := by decide +kernel
theorem dX7_termAt_1 : decode cX7_termAt 1 = .ok (.iconst 0, 1) := by decide +kernel
theorem dX7_termAt_2 : decode cX7_termAt 2 = .ok (.putfield 35, 3) := by decide +kernel
theorem dX7_termAt_5 : decode cX7_termAt 5 = .ok (.aload_n 0, 1) := by decide +kernel
theorem dX7_termAt_6 : decode cX7_termAt 6 = .ok (.iload_n 1, 1) := by decide +kernel
theorem dX7_termAt_7 : decode cX7_termAt 7 = .ok (.iload_n 2, 1) := by decide +kernel
theorem dX7_termAt_8 : decode cX7_termAt 8 = .ok (.invokevirtual 150, 3) := by decide +kernel
theorem dX7_termAt_11 : decode cX7_termAt 11 = .ok (.ifCond .eq 12, 3) := by decide +kernel
theorem dX7_termAt_14 : decode cX7_termAt 14 = .ok (.aload_n 0, 1) := by decide +kernel
theorem dX7_termAt_15 : decode cX7_termAt 15 = .ok (.getfield 29, 3) := by decide +kernel
theorem dX7_termAt_18 : decode cX7_termAt 18 = .ok (.iload_n 2, 1) := by decide +kernel
theorem dX7_termAt_19 : decode cX7_termAt 19 = .ok (.iaload, 1) := by decide +kernel
theorem dX7_termAt_20 : decode cX7_termAt 20 = .ok (.goto 8, 3) := by decide +kernel
theorem dX7_termAt_23 : decode cX7_termAt 23 = .ok (.aload_n 0, 1) := by decide +kernel
theorem dX7_termAt_24 : decode cX7_termAt 24 = .ok (.iconst 1, 1) := by decide +kernel
theorem dX7_termAt_25 : decode cX7_termAt 25 = .ok (.invokevirtual 101, 3) := by decide +kernel
theorem dX7_termAt_28 : decode cX7_termAt 28 = .ok (.ireturn, 1) := by decide +kernel
theorem dX7_beginningNumerator_0 : decode cX7_beginningNumerator 0 = .ok (.aload_n 0, 1) := by decide +kernel
theorem dX7_beginningNumerator_1 : decode cX7_beginningNumerator 1 = .ok (.iconst 0, 1) := by decide +kernel
theorem dX7_beginningNumerator_2 : decode cX7_beginningNumerator 2 = .ok (.putfield 35, 3) := by decide +kernel
theorem dX7_beginningNumerator_5 : decode cX7_beginningNumerator 5 = .ok (.aload_n 0, 1) := by decide +kernel
theorem dX7_beginningNumerator_6 : decode cX7_beginningNumerator 6 = .ok (.iload_n 1, 1) := by decide +kernel
theorem dX7_beginningNumerator_7 : decode cX7_beginningNumerator 7 = .ok (.iload_n 2, 1) := by decide +kernel
theorem dX7_beginningNumerator_8 : decode cX7_beginningNumerator 8 = .ok (.invokevirtual 150, 3) := by decide +kernel
theorem dX7_beginningNumerator_11 : decode cX7_beginningNumerator 11 = .ok (.ifCond .ne 9, 3) := by decide +kernel
theorem dX7_beginningNumerator_14 : decode cX7_beginningNumerator 14 = .ok (.aload_n 0, 1) := by decide +kernel
theorem dX7_beginningNumerator_15 : decode cX7_beginningNumerator 15 = .ok (.iconst 1, 1) := by decide +kernel
theorem dX7_beginningNumerator_16 : decode cX7_beginningNumerator 16 = .ok (.invokevirtual 101, 3) := by decide +kernel
theorem dX7_beginningNumerator_19 : decode cX7_beginningNumerator 19 = .ok (.ireturn, 1) := by decide +kernel
theorem dX7_beginningNumerator_20 : decode cX7_beginningNumerator 20 = .ok (.aload_n 0, 1) := by decide +kernel
theorem dX7_beginningNumerator_21 : decode cX7_beginningNumerator 21 = .ok (.iload_n 2, 1) := by decide +kernel
theorem dX7_beginningNumerator_22 : decode cX7_beginningNumerator 22 = .ok (.invokevirtual 153, 3) := by decide +kernel
theorem dX7_beginningNumerator_25 : decode cX7_beginningNumerator 25 = .ok (.aload_n 0, 1) := by decide +kernel
theorem dX7_beginningNumerator_26 : decode cX7_beginningNumerator 26 = .ok (.getfield 54, 3) := by decide +kernel
theorem dX7_beginningNumerator_29 : decode cX7_beginningNumerator 29 = .ok (.l2i, 1) := by decide +kernel
theorem dX7_beginningNumerator_30 : decode cX7_beginningNumerator 30 = .ok (.ireturn, 1) := by decide +kernel
theorem dX7_beginningDenominator_0 : decode cX7_beginningDenominator 0 = .ok (.aload_n 0, 1) := by decide +kernel
theorem dX7_beginningDenominator_1 : decode cX7_beginningDenominator 1 = .ok (.iconst 0, 1) := by decide +kernel
theorem dX7_beginningDenominator_2 : decode cX7_beginningDenominator 2 = .ok (.putfield 35, 3) := by decide +kernel
theorem dX7_beginningDenominator_5 : decode cX7_beginningDenominator 5 = .ok (.aload_n 0, 1) := by decide +kernel
theorem dX7_beginningDenominator_6 : decode cX7_beginningDenominator 6 = .ok (.iload_n 1, 1) := by decide +kernel
theorem dX7_beginningDenominator_7 : decode cX7_beginningDenominator 7 = .ok (.iload_n 2, 1) := by decide +kernel
theorem dX7_beginningDenominator_8 : decode cX7_beginningDenominator 8 = .ok (.invokevirtual 150, 3) := by decide +kernel
theorem dX7_beginningDenominator_11 : decode cX7_beginningDenominator 11 = .ok (.ifCond .ne 9, 3) := by decide +kernel
theorem dX7_beginningDenominator_14 : decode cX7_beginningDenominator 14 = .ok (.aload_n 0, 1) := by decide +kernel
theorem dX7_beginningDenominator_15 : decode cX7_beginningDenominator 15 = .ok (.iconst 1, 1) := by decide +kernel
theorem dX7_beginningDenominator_16 : decode cX7_beginningDenominator 16 = .ok (.invokevirtual 101, 3) := by decide +kernel
theorem dX7_beginningDenominator_19 : decode cX7_beginningDenominator 19 = .ok (.ireturn, 1) := by decide +kernel
theorem dX7_beginningDenominator_20 : decode cX7_beginningDenominator 20 = .ok (.aload_n 0, 1) := by decide +kernel
theorem dX7_beginningDenominator_21 : decode cX7_beginningDenominator 21 = .ok (.iload_n 2, 1) := by decide +kernel
theorem dX7_beginningDenominator_22 : decode cX7_beginningDenominator 22 = .ok (.invokevirtual 153, 3) := by decide +kernel
theorem dX7_beginningDenominator_25 : decode cX7_beginningDenominator 25 = .ok (.aload_n 0, 1) := by decide +kernel
theorem dX7_beginningDenominator_26 : decode cX7_beginningDenominator 26 = .ok (.getfield 58, 3) := by decide +kernel
theorem dX7_beginningDenominator_29 : decode cX7_beginningDenominator 29 = .ok (.l2i, 1) := by decide +kernel
theorem dX7_beginningDenominator_30 : decode cX7_beginningDenominator 30 = .ok (.ireturn, 1) := by decide +kernel
theorem dX7_isNear_0 : decode cX7_isNear 0 = .ok (.aload_n 0, 1) := by decide +kernel
theorem dX7_isNear_1 : decode cX7_isNear 1 = .ok (.iload_n 1, 1) := by decide +kernel
theorem dX7_isNear_2 : decode cX7_isNear 2 = .ok (.invokestatic 43, 3) := by decide +kernel
theorem dX7_isNear_5 : decode cX7_isNear 5 = .ok (.ifCond .ne 7, 3) := by decide +kernel
theorem dX7_isNear_8 : decode cX7_isNear 8 = .ok (.iconst 1, 1) := by decide +kernel
theorem dX7_isNear_9 : decode cX7_isNear 9 = .ok (.goto 15, 3) := by decide +kernel
theorem dX7_isNear_12 : decode cX7_isNear 12 = .ok (.iload_n 2, 1) := by decide +kernel
theorem dX7_isNear_13 : decode cX7_isNear 13 = .ok (.invokestatic 133, 3) := by decide +kernel
theorem dX7_isNear_16 : decode cX7_isNear 16 = .ok (.ifCond .ne 7, 3) := by decide +kernel
theorem dX7_isNear_19 : decode cX7_isNear 19 = .ok (.iconst 2, 1) := by decide +kernel
theorem dX7_isNear_20 : decode cX7_isNear 20 = .ok (.goto 4, 3) := by decide +kernel
theorem dX7_isNear_23 : decode cX7_isNear 23 = .ok (.iconst 0, 1) := by decide +kernel
theorem dX7_isNear_24 : decode cX7_isNear 24 = .ok (.putfield 35, 3) := by decide +kernel
theorem dX7_isNear_27 : decode cX7_isNear 27 = .ok (.aload_n 0, 1) := by decide +kernel
theorem dX7_isNear_28 : decode cX7_isNear 28 = .ok (.getfield 35, 3) := by decide +kernel
theorem dX7_isNear_31 : decode cX7_isNear 31 = .ok (.ifCond .ne 9, 3) := by decide +kernel
theorem dX7_isNear_34 : decode cX7_isNear 34 = .ok (.aload_n 0, 1) := by decide +kernel
theorem dX7_isNear_35 : decode cX7_isNear 35 = .ok (.iload_n 1, 1) := by decide +kernel
theorem dX7_isNear_36 : decode cX7_isNear 36 = .ok (.iload_n 2, 1) := by decide +kernel
theorem dX7_isNear_37 : decode cX7_isNear 37 = .ok (.invokevirtual 136, 3) := by decide +kernel
theorem dX7_isNear_40 : decode cX7_isNear 40 = .ok (.aload_n 0, 1) := by decide +kernel
theorem dX7_isNear_41 : decode cX7_isNear 41 = .ok (.getfield 35, 3) := by decide +kernel
theorem dX7_isNear_44 : decode cX7_isNear 44 = .ok (.ifCond .ne 7, 3) := by decide +kernel
theorem dX7_isNear_47 : decode cX7_isNear 47 = .ok (.iconst 1, 1) := by decide +kernel
theorem dX7_isNear_48 : decode cX7_isNear 48 = .ok (.goto 4, 3) := by decide +kernel
theorem dX7_isNear_51 : decode cX7_isNear 51 = .ok (.iconst 0, 1) := by decide +kernel
theorem dX7_isNear_52 : decode cX7_isNear 52 = .ok (.ireturn, 1) := by decide +kernel
theorem dX7_nearestDenominator_0 : decode cX7_nearestDenominator 0 = .ok (.aload_n 0, 1) := by decide +kernel
theorem dX7_nearestDenominator_1 : decode cX7_nearestDenominator 1 = .ok (.iload_n 1, 1) := by decide +kernel
theorem dX7_nearestDenominator_2 : decode cX7_nearestDenominator 2 = .ok (.iload_n 2, 1) := by decide +kernel
theorem dX7_nearestDenominator_3 : decode cX7_nearestDenominator 3 = .ok (.invokevirtual 156, 3) := by decide +kernel
theorem dX7_nearestDenominator_6 : decode cX7_nearestDenominator 6 = .ok (.ifCond .eq 10, 3) := by decide +kernel
theorem dX7_nearestDenominator_9 : decode cX7_nearestDenominator 9 = .ok (.aload_n 0, 1) := by decide +kernel
theorem dX7_nearestDenominator_10 : decode cX7_nearestDenominator 10 = .ok (.getfield 83, 3) := by decide +kernel
theorem dX7_nearestDenominator_13 : decode cX7_nearestDenominator 13 = .ok (.goto 4, 3) := by decide +kernel
theorem dX7_nearestDenominator_16 : decode cX7_nearestDenominator 16 = .ok (.iconst 0, 1) := by decide +kernel
theorem dX7_nearestDenominator_17 : decode cX7_nearestDenominator 17 = .ok (.ireturn, 1) := by decide +kernel
theorem dX7_nearestByTrying_0 : decode cX7_nearestByTrying 0 = .ok (.aload_n 0, 1) := by decide +kernel
theorem dX7_nearestByTrying_1 : decode cX7_nearestByTrying 1 = .ok (.iload_n 1, 1) := by decide +kernel
theorem dX7_nearestByTrying_2 : decode cX7_nearestByTrying 2 = .ok (.iload_n 2, 1) := by decide +kernel
theorem dX7_nearestByTrying_3 : decode cX7_nearestByTrying 3 = .ok (.invokevirtual 156, 3) := by decide +kernel
theorem dX7_nearestByTrying_6 : decode cX7_nearestByTrying 6 = .ok (.ifCond .eq 10, 3) := by decide +kernel
theorem dX7_nearestByTrying_9 : decode cX7_nearestByTrying 9 = .ok (.aload_n 0, 1) := by decide +kernel
theorem dX7_nearestByTrying_10 : decode cX7_nearestByTrying 10 = .ok (.getfield 83, 3) := by decide +kernel
theorem dX7_nearestByTrying_13 : decode cX7_nearestByTrying 13 = .ok (.goto 4, 3) := by decide +kernel
theorem dX7_nearestByTrying_16 : decode cX7_nearestByTrying 16 = .ok (.iconst 0, 1) := by decide +kernel
theorem dX7_nearestByTrying_17 : decode cX7_nearestByTrying 17 = .ok (.ireturn, 1) := by decide +kernel
theorem dX7_nearestNumerator_0 : decode cX7_nearestNumerator 0 = .ok (.aload_n 0, 1) := by decide +kernel
theorem dX7_nearestNumerator_1 : decode cX7_nearestNumerator 1 = .ok (.iload_n 1, 1) := by decide +kernel
theorem dX7_nearestNumerator_2 : decode cX7_nearestNumerator 2 = .ok (.iload_n 2, 1) := by decide +kernel
theorem dX7_nearestNumerator_3 : decode cX7_nearestNumerator 3 = .ok (.invokevirtual 156, 3) := by decide +kernel
theorem dX7_nearestNumerator_6 : decode cX7_nearestNumerator 6 = .ok (.ifCond .eq 10, 3) := by decide +kernel
theorem dX7_nearestNumerator_9 : decode cX7_nearestNumerator 9 = .ok (.aload_n 0, 1) := by decide +kernel
theorem dX7_nearestNumerator_10 : decode cX7_nearestNumerator 10 = .ok (.getfield 86, 3) := by decide +kernel
theorem dX7_nearestNumerator_13 : decode cX7_nearestNumerator 13 = .ok (.goto 4, 3) := by decide +kernel
theorem dX7_nearestNumerator_16 : decode cX7_nearestNumerator 16 = .ok (.iconst 0, 1) := by decide +kernel
theorem dX7_nearestNumerator_17 : decode cX7_nearestNumerator 17 = .ok (.ireturn, 1) := by decide +kernel
theorem dX7_isLess_0 : decode cX7_isLess 0 = .ok (.aload_n 0, 1) := by decide +kernel
theorem dX7_isLess_1 : decode cX7_isLess 1 = .ok (.iload_n 1, 1) := by decide +kernel
theorem dX7_isLess_2 : decode cX7_isLess 2 = .ok (.invokevirtual 63, 3) := by decide +kernel
theorem dX7_isLess_5 : decode cX7_isLess 5 = .ok (.aload_n 0, 1) := by decide +kernel
theorem dX7_isLess_6 : decode cX7_isLess 6 = .ok (.iload_n 1, 1) := by decide +kernel
theorem dX7_isLess_7 : decode cX7_isLess 7 = .ok (.invokevirtual 67, 3) := by decide +kernel
theorem dX7_isLess_10 : decode cX7_isLess 10 = .ok (.if_icmp .ge 7, 3) := by decide +kernel
theorem dX7_isLess_13 : decode cX7_isLess 13 = .ok (.iconst 1, 1) := by decide +kernel
theorem dX7_isLess_14 : decode cX7_isLess 14 = .ok (.goto 4, 3) := by decide +kernel
theorem dX7_isLess_17 : decode cX7_isLess 17 = .ok (.iconst 0, 1) := by decide +kernel
theorem dX7_isLess_18 : decode cX7_isLess 18 = .ok (.ireturn, 1) := by decide +kernel
theorem dX7_unitCount_0 : decode cX7_unitCount 0 = .ok (.aload_n 0, 1) := by decide +kernel
theorem dX7_unitCount_1 : decode cX7_unitCount 1 = .ok (.iconst 0, 1) := by decide +kernel
theorem dX7_unitCount_2 : decode cX7_unitCount 2 = .ok (.putfield 35, 3) := by decide +kernel
theorem dX7_unitCount_5 : decode cX7_unitCount 5 = .ok (.iload_n 1, 1) := by decide +kernel
theorem dX7_unitCount_6 : decode cX7_unitCount 6 = .ok (.invokestatic 43, 3) := by decide +kernel
theorem dX7_unitCount_9 : decode cX7_unitCount 9 = .ok (.ifCond .ne 9, 3) := by decide +kernel
theorem dX7_unitCount_12 : decode cX7_unitCount 12 = .ok (.aload_n 0, 1) := by decide +kernel
theorem dX7_unitCount_13 : decode cX7_unitCount 13 = .ok (.iconst 1, 1) := by decide +kernel
theorem dX7_unitCount_14 : decode cX7_unitCount 14 = .ok (.invokevirtual 101, 3) := by decide +kernel
theorem dX7_unitCount_17 : decode cX7_unitCount 17 = .ok (.ireturn, 1) := by decide +kernel
theorem dX7_unitCount_18 : decode cX7_unitCount 18 = .ok (.aload_n 0, 1) := by decide +kernel
theorem dX7_unitCount_19 : decode cX7_unitCount 19 = .ok (.iload_n 1, 1) := by decide +kernel
theorem dX7_unitCount_20 : decode cX7_unitCount 20 = .ok (.invokevirtual 159, 3) := by decide +kernel
theorem dX7_unitCount_23 : decode cX7_unitCount 23 = .ok (.ifCond .ne 9, 3) := by decide +kernel
theorem dX7_unitCount_26 : decode cX7_unitCount 26 = .ok (.aload_n 0, 1) := by decide +kernel
theorem dX7_unitCount_27 : decode cX7_unitCount 27 = .ok (.iconst 2, 1) := by decide +kernel
theorem dX7_unitCount_28 : decode cX7_unitCount 28 = .ok (.invokevirtual 101, 3) := by decide +kernel
theorem dX7_unitCount_31 : decode cX7_unitCount 31 = .ok (.ireturn, 1) := by decide +kernel
theorem dX7_unitCount_32 : decode cX7_unitCount 32 = .ok (.aload_n 0, 1) := by decide +kernel
theorem dX7_unitCount_33 : decode cX7_unitCount 33 = .ok (.iload_n 1, 1) := by decide +kernel
theorem dX7_unitCount_34 : decode cX7_unitCount 34 = .ok (.invokevirtual 162, 3) := by decide +kernel
theorem dX7_unitCount_37 : decode cX7_unitCount 37 = .ok (.aload_n 0, 1) := by decide +kernel
theorem dX7_unitCount_38 : decode cX7_unitCount 38 = .ok (.getfield 92, 3) := by decide +kernel
theorem dX7_unitCount_41 : decode cX7_unitCount 41 = .ok (.ifCond .eq 10, 3) := by decide +kernel
theorem dX7_unitCount_44 : decode cX7_unitCount 44 = .ok (.aload_n 0, 1) := by decide +kernel
theorem dX7_unitCount_45 : decode cX7_unitCount 45 = .ok (.getfield 89, 3) := by decide +kernel
theorem dX7_unitCount_48 : decode cX7_unitCount 48 = .ok (.goto 4, 3) := by decide +kernel
theorem dX7_unitCount_51 : decode cX7_unitCount 51 = .ok (.iconst (-1), 1) := by decide +kernel
theorem dX7_unitCount_52 : decode cX7_unitCount 52 = .ok (.ireturn, 1) := by decide +kernel
theorem dX7_unitAt_0 : decode cX7_unitAt 0 = .ok (.aload_n 0, 1) := by decide +kernel
theorem dX7_unitAt_1 : decode cX7_unitAt 1 = .ok (.iconst 0, 1) := by decide +kernel
theorem dX7_unitAt_2 : decode cX7_unitAt 2 = .ok (.putfield 35, 3) := by decide +kernel
theorem dX7_unitAt_5 : decode cX7_unitAt 5 = .ok (.iload_n 1, 1) := by decide +kernel
theorem dX7_unitAt_6 : decode cX7_unitAt 6 = .ok (.invokestatic 43, 3) := by decide +kernel
theorem dX7_unitAt_9 : decode cX7_unitAt 9 = .ok (.ifCond .eq 12, 3) := by decide +kernel
theorem dX7_unitAt_12 : decode cX7_unitAt 12 = .ok (.iload_n 2, 1) := by decide +kernel
theorem dX7_unitAt_13 : decode cX7_unitAt 13 = .ok (.iconst 0, 1) := by decide +kernel
theorem dX7_unitAt_14 : decode cX7_unitAt 14 = .ok (.iconst 3, 1) := by decide +kernel
theorem dX7_unitAt_15 : decode cX7_unitAt 15 = .ok (.invokestatic 39, 3) := by decide +kernel
theorem dX7_unitAt_18 : decode cX7_unitAt 18 = .ok (.ifCond .ne 9, 3) := by decide +kernel
theorem dX7_unitAt_21 : decode cX7_unitAt 21 = .ok (.aload_n 0, 1) := by decide +kernel
theorem dX7_unitAt_22 : decode cX7_unitAt 22 = .ok (.iconst 1, 1) := by decide +kernel
theorem dX7_unitAt_23 : decode cX7_unitAt 23 = .ok (.invokevirtual 101, 3) := by decide +kernel
theorem dX7_unitAt_26 : decode cX7_unitAt 26 = .ok (.ireturn, 1) := by decide +kernel
theorem dX7_unitAt_27 : decode cX7_unitAt 27 = .ok (.aload_n 0, 1) := by decide +kernel
theorem dX7_unitAt_28 : decode cX7_unitAt 28 = .ok (.iload_n 1, 1) := by decide +kernel
theorem dX7_unitAt_29 : decode cX7_unitAt 29 = .ok (.invokevirtual 159, 3) := by decide +kernel
theorem dX7_unitAt_32 : decode cX7_unitAt 32 = .ok (.ifCond .ne 9, 3) := by decide +kernel
theorem dX7_unitAt_35 : decode cX7_unitAt 35 = .ok (.aload_n 0, 1) := by decide +kernel
theorem dX7_unitAt_36 : decode cX7_unitAt 36 = .ok (.iconst 2, 1) := by decide +kernel
theorem dX7_unitAt_37 : decode cX7_unitAt 37 = .ok (.invokevirtual 101, 3) := by decide +kernel
theorem dX7_unitAt_40 : decode cX7_unitAt 40 = .ok (.ireturn, 1) := by decide +kernel
theorem dX7_unitAt_41 : decode cX7_unitAt 41 = .ok (.aload_n 0, 1) := by decide +kernel
theorem dX7_unitAt_42 : decode cX7_unitAt 42 = .ok (.iload_n 1, 1) := by decide +kernel
theorem dX7_unitAt_43 : decode cX7_unitAt 43 = .ok (.invokevirtual 162, 3) := by decide +kernel
theorem dX7_unitAt_46 : decode cX7_unitAt 46 = .ok (.iload_n 2, 1) := by decide +kernel
theorem dX7_unitAt_47 : decode cX7_unitAt 47 = .ok (.aload_n 0, 1) := by decide +kernel
theorem dX7_unitAt_48 : decode cX7_unitAt 48 = .ok (.getfield 89, 3) := by decide +kernel
theorem dX7_unitAt_51 : decode cX7_unitAt 51 = .ok (.if_icmp .ge 12, 3) := by decide +kernel
theorem dX7_unitAt_54 : decode cX7_unitAt 54 = .ok (.aload_n 0, 1) := by decide +kernel
theorem dX7_unitAt_55 : decode cX7_unitAt 55 = .ok (.getfield 32, 3) := by decide +kernel
theorem dX7_unitAt_58 : decode cX7_unitAt 58 = .ok (.iload_n 2, 1) := by decide +kernel
theorem dX7_unitAt_59 : decode cX7_unitAt 59 = .ok (.iaload, 1) := by decide +kernel
theorem dX7_unitAt_60 : decode cX7_unitAt 60 = .ok (.goto 4, 3) := by decide +kernel
theorem dX7_unitAt_63 : decode cX7_unitAt 63 = .ok (.iconst (-1), 1) := by decide +kernel
theorem dX7_unitAt_64 : decode cX7_unitAt 64 = .ok (.ireturn, 1) := by decide +kernel
theorem dX7_steps_0 : decode cX7_steps 0 = .ok (.iconst 0, 1) := by decide +kernel
theorem dX7_steps_1 : decode cX7_steps 1 = .ok (.istore_n 2, 1) := by decide +kernel
theorem dX7_steps_2 : decode cX7_steps 2 = .ok (.aload_n 0, 1) := by decide +kernel
theorem dX7_steps_3 : decode cX7_steps 3 = .ok (.iload_n 1, 1) := by decide +kernel
theorem dX7_steps_4 : decode cX7_steps 4 = .ok (.invokevirtual 77, 3) := by decide +kernel
theorem dX7_steps_7 : decode cX7_steps 7 = .ok (.iconst 0, 1) := by decide +kernel
theorem dX7_steps_8 : decode cX7_steps 8 = .ok (.istore_n 3, 1) := by decide +kernel
theorem dX7_steps_9 : decode cX7_steps 9 = .ok (.iload_n 3, 1) := by decide +kernel
theorem dX7_steps_10 : decode cX7_steps 10 = .ok (.aload_n 0, 1) := by decide +kernel
theorem dX7_steps_11 : decode cX7_steps 11 = .ok (.getfield 74, 3) := by decide +kernel
theorem dX7_steps_14 : decode cX7_steps 14 = .ok (.if_icmp .ge 18, 3) := by decide +kernel
theorem dX7_steps_17 : decode cX7_steps 17 = .ok (.iload_n 2, 1) := by decide +kernel
theorem dX7_steps_18 : decode cX7_steps 18 = .ok (.aload_n 0, 1) := by decide +kernel
theorem dX7_steps_19 : decode cX7_steps 19 = .ok (.getfield 29, 3) := by decide +kernel
theorem dX7_steps_22 : decode cX7_steps 22 = .ok (.iload_n 3, 1) := by decide +kernel
theorem dX7_steps_23 : decode cX7_steps 23 = .ok (.iaload, 1) := by decide +kernel
theorem dX7_steps_24 : decode cX7_steps 24 = .ok (.iadd, 1) := by decide +kernel
theorem dX7_steps_25 : decode cX7_steps 25 = .ok (.istore_n 2, 1) := by decide +kernel
theorem dX7_steps_26 : decode cX7_steps 26 = .ok (.iinc 3 1, 3) := by decide +kernel
theorem dX7_steps_29 : decode cX7_steps 29 = .ok (.goto (-20), 3) := by decide +kernel
theorem dX7_steps_32 : decode cX7_steps 32 = .ok (.iload_n 2, 1) := by decide +kernel
theorem dX7_steps_33 : decode cX7_steps 33 = .ok (.iconst 1, 1) := by decide +kernel
theorem dX7_steps_34 : decode cX7_steps 34 = .ok (.isub, 1) := by decide +kernel
theorem dX7_steps_35 : decode cX7_steps 35 = .ok (.ireturn, 1) := by decide +kernel
theorem dX7_waySteps_0 : decode cX7_waySteps 0 = .ok (.aload_n 0, 1) := by decide +kernel
theorem dX7_waySteps_1 : decode cX7_waySteps 1 = .ok (.iconst 0, 1) := by decide +kernel
theorem dX7_waySteps_2 : decode cX7_waySteps 2 = .ok (.putfield 35, 3) := by decide +kernel
theorem dX7_waySteps_5 : decode cX7_waySteps 5 = .ok (.iload_n 1, 1) := by decide +kernel
theorem dX7_waySteps_6 : decode cX7_waySteps 6 = .ok (.invokestatic 43, 3) := by decide +kernel
theorem dX7_waySteps_9 : decode cX7_waySteps 9 = .ok (.ifCond .ne 9, 3) := by decide +kernel
theorem dX7_waySteps_12 : decode cX7_waySteps 12 = .ok (.aload_n 0, 1) := by decide +kernel
theorem dX7_waySteps_13 : decode cX7_waySteps 13 = .ok (.iconst 1, 1) := by decide +kernel
theorem dX7_waySteps_14 : decode cX7_waySteps 14 = .ok (.invokevirtual 101, 3) := by decide +kernel
theorem dX7_waySteps_17 : decode cX7_waySteps 17 = .ok (.ireturn, 1) := by decide +kernel
theorem dX7_waySteps_18 : decode cX7_waySteps 18 = .ok (.aload_n 0, 1) := by decide +kernel
theorem dX7_waySteps_19 : decode cX7_waySteps 19 = .ok (.iload_n 1, 1) := by decide +kernel
theorem dX7_waySteps_20 : decode cX7_waySteps 20 = .ok (.invokevirtual 63, 3) := by decide +kernel
theorem dX7_waySteps_23 : decode cX7_waySteps 23 = .ok (.ifCond .ne 11, 3) := by decide +kernel
theorem dX7_waySteps_26 : decode cX7_waySteps 26 = .ok (.aload_n 0, 1) := by decide +kernel
theorem dX7_waySteps_27 : decode cX7_waySteps 27 = .ok (.iconst 2, 1) := by decide +kernel
theorem dX7_waySteps_28 : decode cX7_waySteps 28 = .ok (.invokevirtual 101, 3) := by decide +kernel
theorem dX7_waySteps_31 : decode cX7_waySteps 31 = .ok (.goto 8, 3) := by decide +kernel
theorem dX7_waySteps_34 : decode cX7_waySteps 34 = .ok (.aload_n 0, 1) := by decide +kernel
theorem dX7_waySteps_35 : decode cX7_waySteps 35 = .ok (.iload_n 1, 1) := by decide +kernel
theorem dX7_waySteps_36 : decode cX7_waySteps 36 = .ok (.invokevirtual 165, 3) := by decide +kernel
theorem dX7_waySteps_39 : decode cX7_waySteps 39 = .ok (.ireturn, 1) := by decide +kernel
theorem dX7_turns_0 : decode cX7_turns 0 = .ok (.aload_n 0, 1) := by decide +kernel
theorem dX7_turns_1 : decode cX7_turns 1 = .ok (.iload_n 1, 1) := by decide +kernel
theorem dX7_turns_2 : decode cX7_turns 2 = .ok (.invokevirtual 77, 3) := by decide +kernel
theorem dX7_turns_5 : decode cX7_turns 5 = .ok (.iconst 0, 1) := by decide +kernel
theorem dX7_turns_6 : decode cX7_turns 6 = .ok (.istore_n 2, 1) := by decide +kernel
theorem dX7_turns_7 : decode cX7_turns 7 = .ok (.iconst 0, 1) := by decide +kernel
theorem dX7_turns_8 : decode cX7_turns 8 = .ok (.istore_n 3, 1) := by decide +kernel
theorem dX7_turns_9 : decode cX7_turns 9 = .ok (.iload_n 3, 1) := by decide +kernel
theorem dX7_turns_10 : decode cX7_turns 10 = .ok (.aload_n 0, 1) := by decide +kernel
theorem dX7_turns_11 : decode cX7_turns 11 = .ok (.getfield 74, 3) := by decide +kernel
theorem dX7_turns_14 : decode cX7_turns 14 = .ok (.if_icmp .ge 41, 3) := by decide +kernel
theorem dX7_turns_17 : decode cX7_turns 17 = .ok (.iload_n 2, 1) := by decide +kernel
theorem dX7_turns_18 : decode cX7_turns 18 = .ok (.aload_n 0, 1) := by decide +kernel
theorem dX7_turns_19 : decode cX7_turns 19 = .ok (.getfield 29, 3) := by decide +kernel
theorem dX7_turns_22 : decode cX7_turns 22 = .ok (.iload_n 3, 1) := by decide +kernel
theorem dX7_turns_23 : decode cX7_turns 23 = .ok (.iaload, 1) := by decide +kernel
theorem dX7_turns_24 : decode cX7_turns 24 = .ok (.iload_n 3, 1) := by decide +kernel
theorem dX7_turns_25 : decode cX7_turns 25 = .ok (.aload_n 0, 1) := by decide +kernel
theorem dX7_turns_26 : decode cX7_turns 26 = .ok (.getfield 74, 3) := by decide +kernel
theorem dX7_turns_29 : decode cX7_turns 29 = .ok (.iconst 1, 1) := by decide +kernel
theorem dX7_turns_30 : decode cX7_turns 30 = .ok (.isub, 1) := by decide +kernel
theorem dX7_turns_31 : decode cX7_turns 31 = .ok (.if_icmp .ne 7, 3) := by decide +kernel
theorem dX7_turns_34 : decode cX7_turns 34 = .ok (.iconst 1, 1) := by decide +kernel
theorem dX7_turns_35 : decode cX7_turns 35 = .ok (.goto 4, 3) := by decide +kernel
theorem dX7_turns_38 : decode cX7_turns 38 = .ok (.iconst 0, 1) := by decide +kernel
theorem dX7_turns_39 : decode cX7_turns 39 = .ok (.if_icmp .le 7, 3) := by decide +kernel
theorem dX7_turns_42 : decode cX7_turns 42 = .ok (.iconst 1, 1) := by decide +kernel
theorem dX7_turns_43 : decode cX7_turns 43 = .ok (.goto 4, 3) := by decide +kernel
theorem dX7_turns_46 : decode cX7_turns 46 = .ok (.iconst 0, 1) := by decide +kernel
theorem dX7_turns_47 : decode cX7_turns 47 = .ok (.iadd, 1) := by decide +kernel
theorem dX7_turns_48 : decode cX7_turns 48 = .ok (.istore_n 2, 1) := by decide +kernel
theorem dX7_turns_49 : decode cX7_turns 49 = .ok (.iinc 3 1, 3) := by decide +kernel
theorem dX7_turns_52 : decode cX7_turns 52 = .ok (.goto (-43), 3) := by decide +kernel
theorem dX7_turns_55 : decode cX7_turns 55 = .ok (.iload_n 2, 1) := by decide +kernel
theorem dX7_turns_56 : decode cX7_turns 56 = .ok (.ifCond .le 9, 3) := by decide +kernel
theorem dX7_turns_59 : decode cX7_turns 59 = .ok (.iload_n 2, 1) := by decide +kernel
theorem dX7_turns_60 : decode cX7_turns 60 = .ok (.iconst 1, 1) := by decide +kernel
theorem dX7_turns_61 : decode cX7_turns 61 = .ok (.isub, 1) := by decide +kernel
theorem dX7_turns_62 : decode cX7_turns 62 = .ok (.goto 4, 3) := by decide +kernel
theorem dX7_turns_65 : decode cX7_turns 65 = .ok (.iconst 0, 1) := by decide +kernel
theorem dX7_turns_66 : decode cX7_turns 66 = .ok (.ireturn, 1) := by decide +kernel
theorem dX7_wayTurns_0 : decode cX7_wayTurns 0 = .ok (.aload_n 0, 1) := by decide +kernel
theorem dX7_wayTurns_1 : decode cX7_wayTurns 1 = .ok (.iconst 0, 1) := by decide +kernel
theorem dX7_wayTurns_2 : decode cX7_wayTurns 2 = .ok (.putfield 35, 3) := by decide +kernel
theorem dX7_wayTurns_5 : decode cX7_wayTurns 5 = .ok (.iload_n 1, 1) := by decide +kernel
theorem dX7_wayTurns_6 : decode cX7_wayTurns 6 = .ok (.invokestatic 43, 3) := by decide +kernel
theorem dX7_wayTurns_9 : decode cX7_wayTurns 9 = .ok (.ifCond .ne 9, 3) := by decide +kernel
theorem dX7_wayTurns_12 : decode cX7_wayTurns 12 = .ok (.aload_n 0, 1) := by decide +kernel
theorem dX7_wayTurns_13 : decode cX7_wayTurns 13 = .ok (.iconst 1, 1) := by decide +kernel
theorem dX7_wayTurns_14 : decode cX7_wayTurns 14 = .ok (.invokevirtual 101, 3) := by decide +kernel
theorem dX7_wayTurns_17 : decode cX7_wayTurns 17 = .ok (.ireturn, 1) := by decide +kernel
theorem dX7_wayTurns_18 : decode cX7_wayTurns 18 = .ok (.aload_n 0, 1) := by decide +kernel
theorem dX7_wayTurns_19 : decode cX7_wayTurns 19 = .ok (.iload_n 1, 1) := by decide +kernel
theorem dX7_wayTurns_20 : decode cX7_wayTurns 20 = .ok (.invokevirtual 63, 3) := by decide +kernel
theorem dX7_wayTurns_23 : decode cX7_wayTurns 23 = .ok (.ifCond .ne 11, 3) := by decide +kernel
theorem dX7_wayTurns_26 : decode cX7_wayTurns 26 = .ok (.aload_n 0, 1) := by decide +kernel
theorem dX7_wayTurns_27 : decode cX7_wayTurns 27 = .ok (.iconst 2, 1) := by decide +kernel
theorem dX7_wayTurns_28 : decode cX7_wayTurns 28 = .ok (.invokevirtual 101, 3) := by decide +kernel
theorem dX7_wayTurns_31 : decode cX7_wayTurns 31 = .ok (.goto 8, 3) := by decide +kernel
theorem dX7_wayTurns_34 : decode cX7_wayTurns 34 = .ok (.aload_n 0, 1) := by decide +kernel
theorem dX7_wayTurns_35 : decode cX7_wayTurns 35 = .ok (.iload_n 1, 1) := by decide +kernel
theorem dX7_wayTurns_36 : decode cX7_wayTurns 36 = .ok (.invokevirtual 168, 3) := by decide +kernel
theorem dX7_wayTurns_39 : decode cX7_wayTurns 39 = .ok (.ireturn, 1) := by decide +kernel
theorem dX7_beginsRight_0 : decode cX7_beginsRight 0 = .ok (.aload_n 0, 1) := by decide +kernel
theorem dX7_beginsRight_1 : decode cX7_beginsRight 1 = .ok (.iconst 0, 1) := by decide +kernel
theorem dX7_beginsRight_2 : decode cX7_beginsRight 2 = .ok (.putfield 35, 3) := by decide +kernel
theorem dX7_beginsRight_5 : decode cX7_beginsRight 5 = .ok (.iload_n 1, 1) := by decide +kernel
theorem dX7_beginsRight_6 : decode cX7_beginsRight 6 = .ok (.invokestatic 43, 3) := by decide +kernel
theorem dX7_beginsRight_9 : decode cX7_beginsRight 9 = .ok (.ifCond .ne 17, 3) := by decide +kernel
theorem dX7_beginsRight_12 : decode cX7_beginsRight 12 = .ok (.aload_n 0, 1) := by decide +kernel
theorem dX7_beginsRight_13 : decode cX7_beginsRight 13 = .ok (.iconst 1, 1) := by decide +kernel
theorem dX7_beginsRight_14 : decode cX7_beginsRight 14 = .ok (.invokevirtual 101, 3) := by decide +kernel
theorem dX7_beginsRight_17 : decode cX7_beginsRight 17 = .ok (.ifCond .le 7, 3) := by decide +kernel
theorem dX7_beginsRight_20 : decode cX7_beginsRight 20 = .ok (.iconst 1, 1) := by decide +kernel
theorem dX7_beginsRight_21 : decode cX7_beginsRight 21 = .ok (.goto 4, 3) := by decide +kernel
theorem dX7_beginsRight_24 : decode cX7_beginsRight 24 = .ok (.iconst 0, 1) := by decide +kernel
theorem dX7_beginsRight_25 : decode cX7_beginsRight 25 = .ok (.ireturn, 1) := by decide +kernel
theorem dX7_beginsRight_26 : decode cX7_beginsRight 26 = .ok (.aload_n 0, 1) := by decide +kernel
theorem dX7_beginsRight_27 : decode cX7_beginsRight 27 = .ok (.iload_n 1, 1) := by decide +kernel
theorem dX7_beginsRight_28 : decode cX7_beginsRight 28 = .ok (.invokevirtual 63, 3) := by decide +kernel
theorem dX7_beginsRight_31 : decode cX7_beginsRight 31 = .ok (.ifCond .ne 19, 3) := by decide +kernel
theorem dX7_beginsRight_34 : decode cX7_beginsRight 34 = .ok (.aload_n 0, 1) := by decide +kernel
theorem dX7_beginsRight_35 : decode cX7_beginsRight 35 = .ok (.iconst 2, 1) := by decide +kernel
theorem dX7_beginsRight_36 : decode cX7_beginsRight 36 = .ok (.invokevirtual 101, 3) := by decide +kernel
theorem dX7_beginsRight_39 : decode cX7_beginsRight 39 = .ok (.ifCond .le 7, 3) := by decide +kernel
theorem dX7_beginsRight_42 : decode cX7_beginsRight 42 = .ok (.iconst 1, 1) := by decide +kernel
theorem dX7_beginsRight_43 : decode cX7_beginsRight 43 = .ok (.goto 25, 3) := by decide +kernel
theorem dX7_beginsRight_46 : decode cX7_beginsRight 46 = .ok (.iconst 0, 1) := by decide +kernel
theorem dX7_beginsRight_47 : decode cX7_beginsRight 47 = .ok (.goto 21, 3) := by decide +kernel
theorem dX7_beginsRight_50 : decode cX7_beginsRight 50 = .ok (.aload_n 0, 1) := by decide +kernel
theorem dX7_beginsRight_51 : decode cX7_beginsRight 51 = .ok (.iload_n 1, 1) := by decide +kernel
theorem dX7_beginsRight_52 : decode cX7_beginsRight 52 = .ok (.invokevirtual 63, 3) := by decide +kernel
theorem dX7_beginsRight_55 : decode cX7_beginsRight 55 = .ok (.aload_n 0, 1) := by decide +kernel
theorem dX7_beginsRight_56 : decode cX7_beginsRight 56 = .ok (.iload_n 1, 1) := by decide +kernel
theorem dX7_beginsRight_57 : decode cX7_beginsRight 57 = .ok (.invokevirtual 67, 3) := by decide +kernel
theorem dX7_beginsRight_60 : decode cX7_beginsRight 60 = .ok (.if_icmp .le 7, 3) := by decide +kernel
theorem dX7_beginsRight_63 : decode cX7_beginsRight 63 = .ok (.iconst 1, 1) := by decide +kernel
theorem dX7_beginsRight_64 : decode cX7_beginsRight 64 = .ok (.goto 4, 3) := by decide +kernel
theorem dX7_beginsRight_67 : decode cX7_beginsRight 67 = .ok (.iconst 0, 1) := by decide +kernel
theorem dX7_beginsRight_68 : decode cX7_beginsRight 68 = .ok (.ireturn, 1) := by decide +kernel
theorem dX7_appendText_0 : decode cX7_appendText 0 = .ok (.aload_n 0, 1) := by decide +kernel
theorem dX7_appendText_1 : decode cX7_appendText 1 = .ok (.iconst 0, 1) := by decide +kernel
theorem dX7_appendText_2 : decode cX7_appendText 2 = .ok (.putfield 35, 3) := by decide +kernel
theorem dX7_appendText_5 : decode cX7_appendText 5 = .ok (.iconst 0, 1) := by decide +kernel
theorem dX7_appendText_6 : decode cX7_appendText 6 = .ok (.istore_n 3, 1) := by decide +kernel
theorem dX7_appendText_7 : decode cX7_appendText 7 = .ok (.iconst 0, 1) := by decide +kernel
theorem dX7_appendText_8 : decode cX7_appendText 8 = .ok (.istore 4, 2) := by decide +kernel
theorem dX7_appendText_10 : decode cX7_appendText 10 = .ok (.iconst 1, 1) := by decide +kernel
theorem dX7_appendText_11 : decode cX7_appendText 11 = .ok (.istore 5, 2) := by decide +kernel
theorem dX7_appendText_13 : decode cX7_appendText 13 = .ok (.iconst 0, 1) := by decide +kernel
theorem dX7_appendText_14 : decode cX7_appendText 14 = .ok (.istore 6, 2) := by decide +kernel
theorem dX7_appendText_16 : decode cX7_appendText 16 = .ok (.iload 6, 2) := by decide +kernel
theorem dX7_appendText_18 : decode cX7_appendText 18 = .ok (.bipush 8, 2) := by decide +kernel
theorem dX7_appendText_20 : decode cX7_appendText 20 = .ok (.if_icmp .ge 90, 3) := by decide +kernel
theorem dX7_appendText_23 : decode cX7_appendText 23 = .ok (.lload_n 1, 1) := by decide +kernel
theorem dX7_appendText_24 : decode cX7_appendText 24 = .ok (.bipush 8, 2) := by decide +kernel
theorem dX7_appendText_26 : decode cX7_appendText 26 = .ok (.iload 6, 2) := by decide +kernel
theorem dX7_appendText_28 : decode cX7_appendText 28 = .ok (.imul, 1) := by decide +kernel
theorem dX7_appendText_29 : decode cX7_appendText 29 = .ok (.lshr, 1) := by decide +kernel
theorem dX7_appendText_30 : decode cX7_appendText 30 = .ok (.ldc2_w 171, 3) := by decide +kernel
theorem dX7_appendText_33 : decode cX7_appendText 33 = .ok (.land, 1) := by decide +kernel
theorem dX7_appendText_34 : decode cX7_appendText 34 = .ok (.l2i, 1) := by decide +kernel
theorem dX7_appendText_35 : decode cX7_appendText 35 = .ok (.istore 7, 2) := by decide +kernel
theorem dX7_appendText_37 : decode cX7_appendText 37 = .ok (.iload 4, 2) := by decide +kernel
theorem dX7_appendText_39 : decode cX7_appendText 39 = .ok (.ifCond .ne 8, 3) := by decide +kernel
theorem dX7_appendText_42 : decode cX7_appendText 42 = .ok (.iload 7, 2) := by decide +kernel
theorem dX7_appendText_44 : decode cX7_appendText 44 = .ok (.ifCond .ne 7, 3) := by decide +kernel
theorem dX7_appendText_47 : decode cX7_appendText 47 = .ok (.iconst 1, 1) := by decide +kernel
theorem dX7_appendText_48 : decode cX7_appendText 48 = .ok (.goto 4, 3) := by decide +kernel
theorem dX7_appendText_51 : decode cX7_appendText 51 = .ok (.iconst 0, 1) := by decide +kernel
theorem dX7_appendText_52 : decode cX7_appendText 52 = .ok (.istore 4, 2) := by decide +kernel
theorem dX7_appendText_54 : decode cX7_appendText 54 = .ok (.iload 5, 2) := by decide +kernel
theorem dX7_appendText_56 : decode cX7_appendText 56 = .ok (.ifCond .eq 32, 3) := by decide +kernel
theorem dX7_appendText_59 : decode cX7_appendText 59 = .ok (.iload 4, 2) := by decide +kernel
theorem dX7_appendText_61 : decode cX7_appendText 61 = .ok (.ifCond .eq 11, 3) := by decide +kernel
theorem dX7_appendText_64 : decode cX7_appendText 64 = .ok (.iload 7, 2) := by decide +kernel
theorem dX7_appendText_66 : decode cX7_appendText 66 = .ok (.ifCond .ne 22, 3) := by decide +kernel
theorem dX7_appendText_69 : decode cX7_appendText 69 = .ok (.goto 15, 3) := by decide +kernel
theorem dX7_appendText_72 : decode cX7_appendText 72 = .ok (.iload 7, 2) := by decide +kernel
theorem dX7_appendText_74 : decode cX7_appendText 74 = .ok (.bipush 33, 2) := by decide +kernel
theorem dX7_appendText_76 : decode cX7_appendText 76 = .ok (.bipush 126, 2) := by decide +kernel
theorem dX7_appendText_78 : decode cX7_appendText 78 = .ok (.invokestatic 39, 3) := by decide +kernel
theorem dX7_appendText_81 : decode cX7_appendText 81 = .ok (.ifCond .eq 7, 3) := by decide +kernel
theorem dX7_appendText_84 : decode cX7_appendText 84 = .ok (.iconst 1, 1) := by decide +kernel
theorem dX7_appendText_85 : decode cX7_appendText 85 = .ok (.goto 4, 3) := by decide +kernel
theorem dX7_appendText_88 : decode cX7_appendText 88 = .ok (.iconst 0, 1) := by decide +kernel
theorem dX7_appendText_89 : decode cX7_appendText 89 = .ok (.istore 5, 2) := by decide +kernel
theorem dX7_appendText_91 : decode cX7_appendText 91 = .ok (.iload_n 3, 1) := by decide +kernel
theorem dX7_appendText_92 : decode cX7_appendText 92 = .ok (.iload 4, 2) := by decide +kernel
theorem dX7_appendText_94 : decode cX7_appendText 94 = .ok (.ifCond .eq 7, 3) := by decide +kernel
theorem dX7_appendText_97 : decode cX7_appendText 97 = .ok (.iconst 0, 1) := by decide +kernel
theorem dX7_appendText_98 : decode cX7_appendText 98 = .ok (.goto 4, 3) := by decide +kernel
theorem dX7_appendText_101 : decode cX7_appendText 101 = .ok (.iconst 1, 1) := by decide +kernel
theorem dX7_appendText_102 : decode cX7_appendText 102 = .ok (.iadd, 1) := by decide +kernel
theorem dX7_appendText_103 : decode cX7_appendText 103 = .ok (.istore_n 3, 1) := by decide +kernel
theorem dX7_appendText_104 : decode cX7_appendText 104 = .ok (.iinc 6 1, 3) := by decide +kernel
theorem dX7_appendText_107 : decode cX7_appendText 107 = .ok (.goto (-91), 3) := by decide +kernel
theorem dX7_appendText_110 : decode cX7_appendText 110 = .ok (.iload 5, 2) := by decide +kernel
theorem dX7_appendText_112 : decode cX7_appendText 112 = .ok (.ifCond .eq 7, 3) := by decide +kernel
theorem dX7_appendText_115 : decode cX7_appendText 115 = .ok (.iload_n 3, 1) := by decide +kernel
theorem dX7_appendText_116 : decode cX7_appendText 116 = .ok (.ifCond .ne 9, 3) := by decide +kernel
theorem dX7_appendText_119 : decode cX7_appendText 119 = .ok (.aload_n 0, 1) := by decide +kernel
theorem dX7_appendText_120 : decode cX7_appendText 120 = .ok (.iconst 1, 1) := by decide +kernel
theorem dX7_appendText_121 : decode cX7_appendText 121 = .ok (.invokevirtual 101, 3) := by decide +kernel
theorem dX7_appendText_124 : decode cX7_appendText 124 = .ok (.ireturn, 1) := by decide +kernel
theorem dX7_appendText_125 : decode cX7_appendText 125 = .ok (.aload_n 0, 1) := by decide +kernel
theorem dX7_appendText_126 : decode cX7_appendText 126 = .ok (.getfield 173, 3) := by decide +kernel
theorem dX7_appendText_129 : decode cX7_appendText 129 = .ok (.iload_n 3, 1) := by decide +kernel
theorem dX7_appendText_130 : decode cX7_appendText 130 = .ok (.iadd, 1) := by decide +kernel
theorem dX7_appendText_131 : decode cX7_appendText 131 = .ok (.bipush 80, 2) := by decide +kernel
theorem dX7_appendText_133 : decode cX7_appendText 133 = .ok (.if_icmp .le 9, 3) := by decide +kernel
theorem dX7_appendText_136 : decode cX7_appendText 136 = .ok (.aload_n 0, 1) := by decide +kernel
theorem dX7_appendText_137 : decode cX7_appendText 137 = .ok (.iconst 2, 1) := by decide +kernel
theorem dX7_appendText_138 : decode cX7_appendText 138 = .ok (.invokevirtual 101, 3) := by decide +kernel
theorem dX7_appendText_141 : decode cX7_appendText 141 = .ok (.ireturn, 1) := by decide +kernel
theorem dX7_appendText_142 : decode cX7_appendText 142 = .ok (.iload_n 3, 1) := by decide +kernel
theorem dX7_appendText_143 : decode cX7_appendText 143 = .ok (.iconst 1, 1) := by decide +kernel
theorem dX7_appendText_144 : decode cX7_appendText 144 = .ok (.isub, 1) := by decide +kernel
theorem dX7_appendText_145 : decode cX7_appendText 145 = .ok (.istore 6, 2) := by decide +kernel
theorem dX7_appendText_147 : decode cX7_appendText 147 = .ok (.iload 6, 2) := by decide +kernel
theorem dX7_appendText_149 : decode cX7_appendText 149 = .ok (.ifCond .lt 40, 3) := by decide +kernel
theorem dX7_appendText_152 : decode cX7_appendText 152 = .ok (.aload_n 0, 1) := by decide +kernel
theorem dX7_appendText_153 : decode cX7_appendText 153 = .ok (.getfield 23, 3) := by decide +kernel
theorem dX7_appendText_156 : decode cX7_appendText 156 = .ok (.aload_n 0, 1) := by decide +kernel
theorem dX7_appendText_157 : decode cX7_appendText 157 = .ok (.getfield 173, 3) := by decide +kernel
theorem dX7_appendText_160 : decode cX7_appendText 160 = .ok (.lload_n 1, 1) := by decide +kernel
theorem dX7_appendText_161 : decode cX7_appendText 161 = .ok (.bipush 8, 2) := by decide +kernel
theorem dX7_appendText_163 : decode cX7_appendText 163 = .ok (.iload 6, 2) := by decide +kernel
theorem dX7_appendText_165 : decode cX7_appendText 165 = .ok (.imul, 1) := by decide +kernel
theorem dX7_appendText_166 : decode cX7_appendText 166 = .ok (.lshr, 1) := by decide +kernel
theorem dX7_appendText_167 : decode cX7_appendText 167 = .ok (.ldc2_w 171, 3) := by decide +kernel
theorem dX7_appendText_170 : decode cX7_appendText 170 = .ok (.land, 1) := by decide +kernel
theorem dX7_appendText_171 : decode cX7_appendText 171 = .ok (.l2i, 1) := by decide +kernel
theorem dX7_appendText_172 : decode cX7_appendText 172 = .ok (.iastore, 1) := by decide +kernel
theorem dX7_appendText_173 : decode cX7_appendText 173 = .ok (.aload_n 0, 1) := by decide +kernel
theorem dX7_appendText_174 : decode cX7_appendText 174 = .ok (.dup, 1) := by decide +kernel
theorem dX7_appendText_175 : decode cX7_appendText 175 = .ok (.getfield 173, 3) := by decide +kernel
theorem dX7_appendText_178 : decode cX7_appendText 178 = .ok (.iconst 1, 1) := by decide +kernel
theorem dX7_appendText_179 : decode cX7_appendText 179 = .ok (.iadd, 1) := by decide +kernel
theorem dX7_appendText_180 : decode cX7_appendText 180 = .ok (.putfield 173, 3) := by decide +kernel
theorem dX7_appendText_183 : decode cX7_appendText 183 = .ok (.iinc 6 (-1), 3) := by decide +kernel
theorem dX7_appendText_186 : decode cX7_appendText 186 = .ok (.goto (-39), 3) := by decide +kernel
theorem dX7_appendText_189 : decode cX7_appendText 189 = .ok (.aload_n 0, 1) := by decide +kernel
theorem dX7_appendText_190 : decode cX7_appendText 190 = .ok (.getfield 173, 3) := by decide +kernel
theorem dX7_appendText_193 : decode cX7_appendText 193 = .ok (.ireturn, 1) := by decide +kernel
theorem dX7_clearText_0 : decode cX7_clearText 0 = .ok (.aload_n 0, 1) := by decide +kernel
theorem dX7_clearText_1 : decode cX7_clearText 1 = .ok (.iconst 0, 1) := by decide +kernel
theorem dX7_clearText_2 : decode cX7_clearText 2 = .ok (.putfield 35, 3) := by decide +kernel
theorem dX7_clearText_5 : decode cX7_clearText 5 = .ok (.aload_n 0, 1) := by decide +kernel
theorem dX7_clearText_6 : decode cX7_clearText 6 = .ok (.getfield 173, 3) := by decide +kernel
theorem dX7_clearText_9 : decode cX7_clearText 9 = .ok (.istore_n 1, 1) := by decide +kernel
theorem dX7_clearText_10 : decode cX7_clearText 10 = .ok (.aload_n 0, 1) := by decide +kernel
theorem dX7_clearText_11 : decode cX7_clearText 11 = .ok (.iconst 0, 1) := by decide +kernel
theorem dX7_clearText_12 : decode cX7_clearText 12 = .ok (.putfield 173, 3) := by decide +kernel
theorem dX7_clearText_15 : decode cX7_clearText 15 = .ok (.iload_n 1, 1) := by decide +kernel
theorem dX7_clearText_16 : decode cX7_clearText 16 = .ok (.ireturn, 1) := by decide +kernel
theorem dX7_textLength_0 : decode cX7_textLength 0 = .ok (.aload_n 0, 1) := by decide +kernel
theorem dX7_textLength_1 : decode cX7_textLength 1 = .ok (.iconst 0, 1) := by decide +kernel
theorem dX7_textLength_2 : decode cX7_textLength 2 = .ok (.putfield 35, 3) := by decide +kernel
theorem dX7_textLength_5 : decode cX7_textLength 5 = .ok (.aload_n 0, 1) := by decide +kernel
theorem dX7_textLength_6 : decode cX7_textLength 6 = .ok (.getfield 173, 3) := by decide +kernel
theorem dX7_textLength_9 : decode cX7_textLength 9 = .ok (.ireturn, 1) := by decide +kernel
theorem dX7_sign_0 : decode cX7_sign 0 = .ok (.aload_n 0, 1) := by decide +kernel
theorem dX7_sign_1 : decode cX7_sign 1 = .ok (.getfield 176, 3) := by decide +kernel
theorem dX7_sign_4 : decode cX7_sign 4 = .ok (.aload_n 0, 1) := by decide +kernel
theorem dX7_sign_5 : decode cX7_sign 5 = .ok (.getfield 173, 3) := by decide +kernel
theorem dX7_sign_8 : decode cX7_sign 8 = .ok (.if_icmp .ge 15, 3) := by decide +kernel
theorem dX7_sign_11 : decode cX7_sign 11 = .ok (.aload_n 0, 1) := by decide +kernel
theorem dX7_sign_12 : decode cX7_sign 12 = .ok (.getfield 23, 3) := by decide +kernel
theorem dX7_sign_15 : decode cX7_sign 15 = .ok (.aload_n 0, 1) := by decide +kernel
theorem dX7_sign_16 : decode cX7_sign 16 = .ok (.getfield 176, 3) := by decide +kernel
theorem dX7_sign_19 : decode cX7_sign 19 = .ok (.iaload, 1) := by decide +kernel
theorem dX7_sign_20 : decode cX7_sign 20 = .ok (.goto 4, 3) := by decide +kernel
theorem dX7_sign_23 : decode cX7_sign 23 = .ok (.iconst 0, 1) := by decide +kernel
theorem dX7_sign_24 : decode cX7_sign 24 = .ok (.ireturn, 1) := by decide +kernel
theorem dX7_takes_0 : decode cX7_takes 0 = .ok (.aload_n 0, 1) := by decide +kernel
theorem dX7_takes_1 : decode cX7_takes 1 = .ok (.aload_n 0, 1) := by decide +kernel
theorem dX7_takes_2 : decode cX7_takes 2 = .ok (.getfield 179, 3) := by decide +kernel
theorem dX7_takes_5 : decode cX7_takes 5 = .ok (.ifCond .eq 19, 3) := by decide +kernel
theorem dX7_takes_8 : decode cX7_takes 8 = .ok (.aload_n 0, 1) := by decide +kernel
theorem dX7_takes_9 : decode cX7_takes 9 = .ok (.invokevirtual 182, 3) := by decide +kernel
theorem dX7_takes_12 : decode cX7_takes 12 = .ok (.iload_n 1, 1) := by decide +kernel
theorem dX7_takes_13 : decode cX7_takes 13 = .ok (.iload_n 2, 1) := by decide +kernel
theorem dX7_takes_14 : decode cX7_takes 14 = .ok (.invokestatic 39, 3) := by decide +kernel
theorem dX7_takes_17 : decode cX7_takes 17 = .ok (.ifCond .eq 7, 3) := by decide +kernel
theorem dX7_takes_20 : decode cX7_takes 20 = .ok (.iconst 1, 1) := by decide +kernel
theorem dX7_takes_21 : decode cX7_takes 21 = .ok (.goto 4, 3) := by decide +kernel
theorem dX7_takes_24 : decode cX7_takes 24 = .ok (.iconst 0, 1) := by decide +kernel
theorem dX7_takes_25 : decode cX7_takes 25 = .ok (.putfield 179, 3) := by decide +kernel
theorem dX7_takes_28 : decode cX7_takes 28 = .ok (.aload_n 0, 1) := by decide +kernel
theorem dX7_takes_29 : decode cX7_takes 29 = .ok (.invokevirtual 182, 3) := by decide +kernel
theorem dX7_takes_32 : decode cX7_takes 32 = .ok (.bipush 48, 2) := by decide +kernel
theorem dX7_takes_34 : decode cX7_takes 34 = .ok (.isub, 1) := by decide +kernel
theorem dX7_takes_35 : decode cX7_takes 35 = .ok (.istore_n 3, 1) := by decide +kernel
theorem dX7_takes_36 : decode cX7_takes 36 = .ok (.aload_n 0, 1) := by decide +kernel
theorem dX7_takes_37 : decode cX7_takes 37 = .ok (.dup, 1) := by decide +kernel
theorem dX7_takes_38 : decode cX7_takes 38 = .ok (.getfield 176, 3) := by decide +kernel
theorem dX7_takes_41 : decode cX7_takes 41 = .ok (.aload_n 0, 1) := by decide +kernel
theorem dX7_takes_42 : decode cX7_takes 42 = .ok (.getfield 179, 3) := by decide +kernel
theorem dX7_takes_45 : decode cX7_takes 45 = .ok (.ifCond .eq 7, 3) := by decide +kernel
theorem dX7_takes_48 : decode cX7_takes 48 = .ok (.iconst 1, 1) := by decide +kernel
theorem dX7_takes_49 : decode cX7_takes 49 = .ok (.goto 4, 3) := by decide +kernel
theorem dX7_takes_52 : decode cX7_takes 52 = .ok (.iconst 0, 1) := by decide +kernel
theorem dX7_takes_53 : decode cX7_takes 53 = .ok (.iadd, 1) := by decide +kernel
theorem dX7_takes_54 : decode cX7_takes 54 = .ok (.putfield 176, 3) := by decide +kernel
theorem dX7_takes_57 : decode cX7_takes 57 = .ok (.iload_n 3, 1) := by decide +kernel
theorem dX7_takes_58 : decode cX7_takes 58 = .ok (.ireturn, 1) := by decide +kernel
theorem dX7_number_0 : decode cX7_number 0 = .ok (.aload_n 0, 1) := by decide +kernel
theorem dX7_number_1 : decode cX7_number 1 = .ok (.bipush 48, 2) := by decide +kernel
theorem dX7_number_3 : decode cX7_number 3 = .ok (.bipush 57, 2) := by decide +kernel
theorem dX7_number_5 : decode cX7_number 5 = .ok (.invokevirtual 186, 3) := by decide +kernel
theorem dX7_number_8 : decode cX7_number 8 = .ok (.istore_n 1, 1) := by decide +kernel
theorem dX7_number_9 : decode cX7_number 9 = .ok (.aload_n 0, 1) := by decide +kernel
theorem dX7_number_10 : decode cX7_number 10 = .ok (.getfield 179, 3) := by decide +kernel
theorem dX7_number_13 : decode cX7_number 13 = .ok (.ifCond .eq 54, 3) := by decide +kernel
theorem dX7_number_16 : decode cX7_number 16 = .ok (.iload_n 1, 1) := by decide +kernel
theorem dX7_number_17 : decode cX7_number 17 = .ok (.ifCond .le 50, 3) := by decide +kernel
theorem dX7_number_20 : decode cX7_number 20 = .ok (.iload_n 1, 1) := by decide +kernel
theorem dX7_number_21 : decode cX7_number 21 = .ok (.sipush 1000, 3) := by decide +kernel
theorem dX7_number_24 : decode cX7_number 24 = .ok (.if_icmp .ge 43, 3) := by decide +kernel
theorem dX7_number_27 : decode cX7_number 27 = .ok (.aload_n 0, 1) := by decide +kernel
theorem dX7_number_28 : decode cX7_number 28 = .ok (.invokevirtual 182, 3) := by decide +kernel
theorem dX7_number_31 : decode cX7_number 31 = .ok (.bipush 48, 2) := by decide +kernel
theorem dX7_number_33 : decode cX7_number 33 = .ok (.bipush 57, 2) := by decide +kernel
theorem dX7_number_35 : decode cX7_number 35 = .ok (.invokestatic 39, 3) := by decide +kernel
theorem dX7_number_38 : decode cX7_number 38 = .ok (.ifCond .eq 29, 3) := by decide +kernel
theorem dX7_number_41 : decode cX7_number 41 = .ok (.bipush 10, 2) := by decide +kernel
theorem dX7_number_43 : decode cX7_number 43 = .ok (.iload_n 1, 1) := by decide +kernel
theorem dX7_number_44 : decode cX7_number 44 = .ok (.imul, 1) := by decide +kernel
theorem dX7_number_45 : decode cX7_number 45 = .ok (.aload_n 0, 1) := by decide +kernel
theorem dX7_number_46 : decode cX7_number 46 = .ok (.invokevirtual 182, 3) := by decide +kernel
theorem dX7_number_49 : decode cX7_number 49 = .ok (.iadd, 1) := by decide +kernel
theorem dX7_number_50 : decode cX7_number 50 = .ok (.bipush 48, 2) := by decide +kernel
theorem dX7_number_52 : decode cX7_number 52 = .ok (.isub, 1) := by decide +kernel
theorem dX7_number_53 : decode cX7_number 53 = .ok (.istore_n 1, 1) := by decide +kernel
theorem dX7_number_54 : decode cX7_number 54 = .ok (.aload_n 0, 1) := by decide +kernel
theorem dX7_number_55 : decode cX7_number 55 = .ok (.dup, 1) := by decide +kernel
theorem dX7_number_56 : decode cX7_number 56 = .ok (.getfield 176, 3) := by decide +kernel
theorem dX7_number_59 : decode cX7_number 59 = .ok (.iconst 1, 1) := by decide +kernel
theorem dX7_number_60 : decode cX7_number 60 = .ok (.iadd, 1) := by decide +kernel
theorem dX7_number_61 : decode cX7_number 61 = .ok (.putfield 176, 3) := by decide +kernel
theorem dX7_number_64 : decode cX7_number 64 = .ok (.goto (-55), 3) := by decide +kernel
theorem dX7_number_67 : decode cX7_number 67 = .ok (.iload_n 1, 1) := by decide +kernel
theorem dX7_number_68 : decode cX7_number 68 = .ok (.ireturn, 1) := by decide +kernel
theorem dX7_readsCommand_0 : decode cX7_readsCommand 0 = .ok (.iconst 4, 1) := by decide +kernel
theorem dX7_readsCommand_1 : decode cX7_readsCommand 1 = .ok (.aload_n 0, 1) := by decide +kernel
theorem dX7_readsCommand_2 : decode cX7_readsCommand 2 = .ok (.getfield 189, 3) := by decide +kernel
theorem dX7_readsCommand_5 : decode cX7_readsCommand 5 = .ok (.imul, 1) := by decide +kernel
theorem dX7_readsCommand_6 : decode cX7_readsCommand 6 = .ok (.istore_n 1, 1) := by decide +kernel
theorem dX7_readsCommand_7 : decode cX7_readsCommand 7 = .ok (.aload_n 0, 1) := by decide +kernel
theorem dX7_readsCommand_8 : decode cX7_readsCommand 8 = .ok (.invokevirtual 182, 3) := by decide +kernel
theorem dX7_readsCommand_11 : decode cX7_readsCommand 11 = .ok (.istore_n 2, 1) := by decide +kernel
theorem dX7_readsCommand_12 : decode cX7_readsCommand 12 = .ok (.aload_n 0, 1) := by decide +kernel
theorem dX7_readsCommand_13 : decode cX7_readsCommand 13 = .ok (.iload_n 2, 1) := by decide +kernel
theorem dX7_readsCommand_14 : decode cX7_readsCommand 14 = .ok (.bipush 115, 2) := by decide +kernel
theorem dX7_readsCommand_16 : decode cX7_readsCommand 16 = .ok (.if_icmp .eq 27, 3) := by decide +kernel
theorem dX7_readsCommand_19 : decode cX7_readsCommand 19 = .ok (.iload_n 2, 1) := by decide +kernel
theorem dX7_readsCommand_20 : decode cX7_readsCommand 20 = .ok (.bipush 43, 2) := by decide +kernel
theorem dX7_readsCommand_22 : decode cX7_readsCommand 22 = .ok (.if_icmp .eq 21, 3) := by decide +kernel
theorem dX7_readsCommand_25 : decode cX7_readsCommand 25 = .ok (.iload_n 2, 1) := by decide +kernel
theorem dX7_readsCommand_26 : decode cX7_readsCommand 26 = .ok (.bipush 45, 2) := by decide +kernel
theorem dX7_readsCommand_28 : decode cX7_readsCommand 28 = .ok (.if_icmp .eq 15, 3) := by decide +kernel
theorem dX7_readsCommand_31 : decode cX7_readsCommand 31 = .ok (.iload_n 2, 1) := by decide +kernel
theorem dX7_readsCommand_32 : decode cX7_readsCommand 32 = .ok (.bipush 42, 2) := by decide +kernel
theorem dX7_readsCommand_34 : decode cX7_readsCommand 34 = .ok (.if_icmp .eq 9, 3) := by decide +kernel
theorem dX7_readsCommand_37 : decode cX7_readsCommand 37 = .ok (.iload_n 2, 1) := by decide +kernel
theorem dX7_readsCommand_38 : decode cX7_readsCommand 38 = .ok (.bipush 99, 2) := by decide +kernel
theorem dX7_readsCommand_40 : decode cX7_readsCommand 40 = .ok (.if_icmp .ne 7, 3) := by decide +kernel
theorem dX7_readsCommand_43 : decode cX7_readsCommand 43 = .ok (.iconst 1, 1) := by decide +kernel
theorem dX7_readsCommand_44 : decode cX7_readsCommand 44 = .ok (.goto 4, 3) := by decide +kernel
theorem dX7_readsCommand_47 : decode cX7_readsCommand 47 = .ok (.iconst 0, 1) := by decide +kernel
theorem dX7_readsCommand_48 : decode cX7_readsCommand 48 = .ok (.putfield 179, 3) := by decide +kernel
theorem dX7_readsCommand_51 : decode cX7_readsCommand 51 = .ok (.aload_n 0, 1) := by decide +kernel
theorem dX7_readsCommand_52 : decode cX7_readsCommand 52 = .ok (.dup, 1) := by decide +kernel
theorem dX7_readsCommand_53 : decode cX7_readsCommand 53 = .ok (.getfield 176, 3) := by decide +kernel
theorem dX7_readsCommand_56 : decode cX7_readsCommand 56 = .ok (.aload_n 0, 1) := by decide +kernel
theorem dX7_readsCommand_57 : decode cX7_readsCommand 57 = .ok (.getfield 179, 3) := by decide +kernel
theorem dX7_readsCommand_60 : decode cX7_readsCommand 60 = .ok (.ifCond .eq 7, 3) := by decide +kernel
theorem dX7_readsCommand_63 : decode cX7_readsCommand 63 = .ok (.iconst 1, 1) := by decide +kernel
theorem dX7_readsCommand_64 : decode cX7_readsCommand 64 = .ok (.goto 4, 3) := by decide +kernel
theorem dX7_readsCommand_67 : decode cX7_readsCommand 67 = .ok (.iconst 0, 1) := by decide +kernel
theorem dX7_readsCommand_68 : decode cX7_readsCommand 68 = .ok (.iadd, 1) := by decide +kernel
theorem dX7_readsCommand_69 : decode cX7_readsCommand 69 = .ok (.putfield 176, 3) := by decide +kernel
theorem dX7_readsCommand_72 : decode cX7_readsCommand 72 = .ok (.aload_n 0, 1) := by decide +kernel
theorem dX7_readsCommand_73 : decode cX7_readsCommand 73 = .ok (.getfield 26, 3) := by decide +kernel
theorem dX7_readsCommand_76 : decode cX7_readsCommand 76 = .ok (.iload_n 1, 1) := by decide +kernel
theorem dX7_readsCommand_77 : decode cX7_readsCommand 77 = .ok (.iload_n 2, 1) := by decide +kernel
theorem dX7_readsCommand_78 : decode cX7_readsCommand 78 = .ok (.iastore, 1) := by decide +kernel
theorem dX7_readsCommand_79 : decode cX7_readsCommand 79 = .ok (.aload_n 0, 1) := by decide +kernel
theorem dX7_readsCommand_80 : decode cX7_readsCommand 80 = .ok (.getfield 26, 3) := by decide +kernel
theorem dX7_readsCommand_83 : decode cX7_readsCommand 83 = .ok (.iload_n 1, 1) := by decide +kernel
theorem dX7_readsCommand_84 : decode cX7_readsCommand 84 = .ok (.iconst 1, 1) := by decide +kernel
theorem dX7_readsCommand_85 : decode cX7_readsCommand 85 = .ok (.iadd, 1) := by decide +kernel
theorem dX7_readsCommand_86 : decode cX7_readsCommand 86 = .ok (.aload_n 0, 1) := by decide +kernel
theorem dX7_readsCommand_87 : decode cX7_readsCommand 87 = .ok (.bipush 48, 2) := by decide +kernel
theorem dX7_readsCommand_89 : decode cX7_readsCommand 89 = .ok (.bipush 57, 2) := by decide +kernel
theorem dX7_readsCommand_91 : decode cX7_readsCommand 91 = .ok (.invokevirtual 186, 3) := by decide +kernel
theorem dX7_readsCommand_94 : decode cX7_readsCommand 94 = .ok (.iastore, 1) := by decide +kernel
theorem dX7_readsCommand_95 : decode cX7_readsCommand 95 = .ok (.iload_n 2, 1) := by decide +kernel
theorem dX7_readsCommand_96 : decode cX7_readsCommand 96 = .ok (.bipush 115, 2) := by decide +kernel
theorem dX7_readsCommand_98 : decode cX7_readsCommand 98 = .ok (.if_icmp .ne 48, 3) := by decide +kernel
theorem dX7_readsCommand_101 : decode cX7_readsCommand 101 = .ok (.aload_n 0, 1) := by decide +kernel
theorem dX7_readsCommand_102 : decode cX7_readsCommand 102 = .ok (.bipush 61, 2) := by decide +kernel
theorem dX7_readsCommand_104 : decode cX7_readsCommand 104 = .ok (.bipush 61, 2) := by decide +kernel
theorem dX7_readsCommand_106 : decode cX7_readsCommand 106 = .ok (.invokevirtual 186, 3) := by decide +kernel
theorem dX7_readsCommand_109 : decode cX7_readsCommand 109 = .ok (.pop, 1) := by decide +kernel
theorem dX7_readsCommand_110 : decode cX7_readsCommand 110 = .ok (.aload_n 0, 1) := by decide +kernel
theorem dX7_readsCommand_111 : decode cX7_readsCommand 111 = .ok (.getfield 26, 3) := by decide +kernel
theorem dX7_readsCommand_114 : decode cX7_readsCommand 114 = .ok (.iload_n 1, 1) := by decide +kernel
theorem dX7_readsCommand_115 : decode cX7_readsCommand 115 = .ok (.iconst 2, 1) := by decide +kernel
theorem dX7_readsCommand_116 : decode cX7_readsCommand 116 = .ok (.iadd, 1) := by decide +kernel
theorem dX7_readsCommand_117 : decode cX7_readsCommand 117 = .ok (.aload_n 0, 1) := by decide +kernel
theorem dX7_readsCommand_118 : decode cX7_readsCommand 118 = .ok (.invokevirtual 192, 3) := by decide +kernel
theorem dX7_readsCommand_121 : decode cX7_readsCommand 121 = .ok (.iastore, 1) := by decide +kernel
theorem dX7_readsCommand_122 : decode cX7_readsCommand 122 = .ok (.aload_n 0, 1) := by decide +kernel
theorem dX7_readsCommand_123 : decode cX7_readsCommand 123 = .ok (.bipush 47, 2) := by decide +kernel
theorem dX7_readsCommand_125 : decode cX7_readsCommand 125 = .ok (.bipush 47, 2) := by decide +kernel
theorem dX7_readsCommand_127 : decode cX7_readsCommand 127 = .ok (.invokevirtual 186, 3) := by decide +kernel
theorem dX7_readsCommand_130 : decode cX7_readsCommand 130 = .ok (.pop, 1) := by decide +kernel
theorem dX7_readsCommand_131 : decode cX7_readsCommand 131 = .ok (.aload_n 0, 1) := by decide +kernel
theorem dX7_readsCommand_132 : decode cX7_readsCommand 132 = .ok (.getfield 26, 3) := by decide +kernel
theorem dX7_readsCommand_135 : decode cX7_readsCommand 135 = .ok (.iload_n 1, 1) := by decide +kernel
theorem dX7_readsCommand_136 : decode cX7_readsCommand 136 = .ok (.iconst 3, 1) := by decide +kernel
theorem dX7_readsCommand_137 : decode cX7_readsCommand 137 = .ok (.iadd, 1) := by decide +kernel
theorem dX7_readsCommand_138 : decode cX7_readsCommand 138 = .ok (.aload_n 0, 1) := by decide +kernel
theorem dX7_readsCommand_139 : decode cX7_readsCommand 139 = .ok (.invokevirtual 192, 3) := by decide +kernel
theorem dX7_readsCommand_142 : decode cX7_readsCommand 142 = .ok (.iastore, 1) := by decide +kernel
theorem dX7_readsCommand_143 : decode cX7_readsCommand 143 = .ok (.goto 28, 3) := by decide +kernel
theorem dX7_readsCommand_146 : decode cX7_readsCommand 146 = .ok (.aload_n 0, 1) := by decide +kernel
theorem dX7_readsCommand_147 : decode cX7_readsCommand 147 = .ok (.bipush 44, 2) := by decide +kernel
theorem dX7_readsCommand_149 : decode cX7_readsCommand 149 = .ok (.bipush 44, 2) := by decide +kernel
theorem dX7_readsCommand_151 : decode cX7_readsCommand 151 = .ok (.invokevirtual 186, 3) := by decide +kernel
theorem dX7_readsCommand_154 : decode cX7_readsCommand 154 = .ok (.pop, 1) := by decide +kernel
theorem dX7_readsCommand_155 : decode cX7_readsCommand 155 = .ok (.aload_n 0, 1) := by decide +kernel
theorem dX7_readsCommand_156 : decode cX7_readsCommand 156 = .ok (.getfield 26, 3) := by decide +kernel
theorem dX7_readsCommand_159 : decode cX7_readsCommand 159 = .ok (.iload_n 1, 1) := by decide +kernel
theorem dX7_readsCommand_160 : decode cX7_readsCommand 160 = .ok (.iconst 2, 1) := by decide +kernel
theorem dX7_readsCommand_161 : decode cX7_readsCommand 161 = .ok (.iadd, 1) := by decide +kernel
theorem dX7_readsCommand_162 : decode cX7_readsCommand 162 = .ok (.aload_n 0, 1) := by decide +kernel
theorem dX7_readsCommand_163 : decode cX7_readsCommand 163 = .ok (.bipush 48, 2) := by decide +kernel
theorem dX7_readsCommand_165 : decode cX7_readsCommand 165 = .ok (.bipush 57, 2) := by decide +kernel
theorem dX7_readsCommand_167 : decode cX7_readsCommand 167 = .ok (.invokevirtual 186, 3) := by decide +kernel
theorem dX7_readsCommand_170 : decode cX7_readsCommand 170 = .ok (.iastore, 1) := by decide +kernel
theorem dX7_readsCommand_171 : decode cX7_readsCommand 171 = .ok (.aload_n 0, 1) := by decide +kernel
theorem dX7_readsCommand_172 : decode cX7_readsCommand 172 = .ok (.dup, 1) := by decide +kernel
theorem dX7_readsCommand_173 : decode cX7_readsCommand 173 = .ok (.getfield 189, 3) := by decide +kernel
theorem dX7_readsCommand_176 : decode cX7_readsCommand 176 = .ok (.aload_n 0, 1) := by decide +kernel
theorem dX7_readsCommand_177 : decode cX7_readsCommand 177 = .ok (.getfield 179, 3) := by decide +kernel
theorem dX7_readsCommand_180 : decode cX7_readsCommand 180 = .ok (.ifCond .eq 7, 3) := by decide +kernel
theorem dX7_readsCommand_183 : decode cX7_readsCommand 183 = .ok (.iconst 1, 1) := by decide +kernel
theorem dX7_readsCommand_184 : decode cX7_readsCommand 184 = .ok (.goto 4, 3) := by decide +kernel
theorem dX7_readsCommand_187 : decode cX7_readsCommand 187 = .ok (.iconst 0, 1) := by decide +kernel
theorem dX7_readsCommand_188 : decode cX7_readsCommand 188 = .ok (.iadd, 1) := by decide +kernel
theorem dX7_readsCommand_189 : decode cX7_readsCommand 189 = .ok (.putfield 189, 3) := by decide +kernel
theorem dX7_readsCommand_192 : decode cX7_readsCommand 192 = .ok (.return_, 1) := by decide +kernel
theorem dX7_readsText_0 : decode cX7_readsText 0 = .ok (.aload_n 0, 1) := by decide +kernel
theorem dX7_readsText_1 : decode cX7_readsText 1 = .ok (.iconst 0, 1) := by decide +kernel
theorem dX7_readsText_2 : decode cX7_readsText 2 = .ok (.putfield 176, 3) := by decide +kernel
theorem dX7_readsText_5 : decode cX7_readsText 5 = .ok (.aload_n 0, 1) := by decide +kernel
theorem dX7_readsText_6 : decode cX7_readsText 6 = .ok (.iconst 0, 1) := by decide +kernel
theorem dX7_readsText_7 : decode cX7_readsText 7 = .ok (.putfield 189, 3) := by decide +kernel
theorem dX7_readsText_10 : decode cX7_readsText 10 = .ok (.aload_n 0, 1) := by decide +kernel
theorem dX7_readsText_11 : decode cX7_readsText 11 = .ok (.invokevirtual 195, 3) := by decide +kernel
theorem dX7_readsText_14 : decode cX7_readsText 14 = .ok (.aload_n 0, 1) := by decide +kernel
theorem dX7_readsText_15 : decode cX7_readsText 15 = .ok (.getfield 179, 3) := by decide +kernel
theorem dX7_readsText_18 : decode cX7_readsText 18 = .ok (.ifCond .eq 37, 3) := by decide +kernel
theorem dX7_readsText_21 : decode cX7_readsText 21 = .ok (.aload_n 0, 1) := by decide +kernel
theorem dX7_readsText_22 : decode cX7_readsText 22 = .ok (.getfield 176, 3) := by decide +kernel
theorem dX7_readsText_25 : decode cX7_readsText 25 = .ok (.aload_n 0, 1) := by decide +kernel
theorem dX7_readsText_26 : decode cX7_readsText 26 = .ok (.getfield 173, 3) := by decide +kernel
theorem dX7_readsText_29 : decode cX7_readsText 29 = .ok (.if_icmp .ge 26, 3) := by decide +kernel
theorem dX7_readsText_32 : decode cX7_readsText 32 = .ok (.aload_n 0, 1) := by decide +kernel
theorem dX7_readsText_33 : decode cX7_readsText 33 = .ok (.bipush 59, 2) := by decide +kernel
theorem dX7_readsText_35 : decode cX7_readsText 35 = .ok (.bipush 59, 2) := by decide +kernel
theorem dX7_readsText_37 : decode cX7_readsText 37 = .ok (.invokevirtual 186, 3) := by decide +kernel
theorem dX7_readsText_40 : decode cX7_readsText 40 = .ok (.pop, 1) := by decide +kernel
theorem dX7_readsText_41 : decode cX7_readsText 41 = .ok (.aload_n 0, 1) := by decide +kernel
theorem dX7_readsText_42 : decode cX7_readsText 42 = .ok (.getfield 179, 3) := by decide +kernel
theorem dX7_readsText_45 : decode cX7_readsText 45 = .ok (.ifCond .eq (-31), 3) := by decide +kernel
theorem dX7_readsText_48 : decode cX7_readsText 48 = .ok (.aload_n 0, 1) := by decide +kernel
theorem dX7_readsText_49 : decode cX7_readsText 49 = .ok (.invokevirtual 195, 3) := by decide +kernel
theorem dX7_readsText_52 : decode cX7_readsText 52 = .ok (.goto (-38), 3) := by decide +kernel
theorem dX7_readsText_55 : decode cX7_readsText 55 = .ok (.aload_n 0, 1) := by decide +kernel
theorem dX7_readsText_56 : decode cX7_readsText 56 = .ok (.getfield 179, 3) := by decide +kernel
theorem dX7_readsText_59 : decode cX7_readsText 59 = .ok (.ireturn, 1) := by decide +kernel
theorem dX7_textError_0 : decode cX7_textError 0 = .ok (.aload_n 0, 1) := by decide +kernel
theorem dX7_textError_1 : decode cX7_textError 1 = .ok (.iconst 0, 1) := by decide +kernel
theorem dX7_textError_2 : decode cX7_textError 2 = .ok (.putfield 35, 3) := by decide +kernel
theorem dX7_textError_5 : decode cX7_textError 5 = .ok (.aload_n 0, 1) := by decide +kernel
theorem dX7_textError_6 : decode cX7_textError 6 = .ok (.invokevirtual 198, 3) := by decide +kernel
theorem dX7_textError_9 : decode cX7_textError 9 = .ok (.ifCond .eq 7, 3) := by decide +kernel
theorem dX7_textError_12 : decode cX7_textError 12 = .ok (.iconst (-1), 1) := by decide +kernel
theorem dX7_textError_13 : decode cX7_textError 13 = .ok (.goto 7, 3) := by decide +kernel
theorem dX7_textError_16 : decode cX7_textError 16 = .ok (.aload_n 0, 1) := by decide +kernel
theorem dX7_textError_17 : decode cX7_textError 17 = .ok (.getfield 176, 3) := by decide +kernel
theorem dX7_textError_20 : decode cX7_textError 20 = .ok (.ireturn, 1) := by decide +kernel
theorem dX7_can_0 : decode cX7_can 0 = .ok (.aload_n 0, 1) := by decide +kernel
theorem dX7_can_1 : decode cX7_can 1 = .ok (.getfield 26, 3) := by decide +kernel
theorem dX7_can_4 : decode cX7_can 4 = .ok (.iload_n 1, 1) := by decide +kernel
theorem dX7_can_5 : decode cX7_can 5 = .ok (.iconst 1, 1) := by decide +kernel
theorem dX7_can_6 : decode cX7_can 6 = .ok (.iadd, 1) := by decide +kernel
theorem dX7_can_7 : decode cX7_can 7 = .ok (.iaload, 1) := by decide +kernel
theorem dX7_can_8 : decode cX7_can 8 = .ok (.istore_n 2, 1) := by decide +kernel
theorem dX7_can_9 : decode cX7_can 9 = .ok (.aload_n 0, 1) := by decide +kernel
theorem dX7_can_10 : decode cX7_can 10 = .ok (.getfield 26, 3) := by decide +kernel
theorem dX7_can_13 : decode cX7_can 13 = .ok (.iload_n 1, 1) := by decide +kernel
theorem dX7_can_14 : decode cX7_can 14 = .ok (.iconst 2, 1) := by decide +kernel
theorem dX7_can_15 : decode cX7_can 15 = .ok (.iadd, 1) := by decide +kernel
theorem dX7_can_16 : decode cX7_can 16 = .ok (.iaload, 1) := by decide +kernel
theorem dX7_can_17 : decode cX7_can 17 = .ok (.istore_n 3, 1) := by decide +kernel
theorem dX7_can_18 : decode cX7_can 18 = .ok (.aload_n 0, 1) := by decide +kernel
theorem dX7_can_19 : decode cX7_can 19 = .ok (.getfield 26, 3) := by decide +kernel
theorem dX7_can_22 : decode cX7_can 22 = .ok (.iload_n 1, 1) := by decide +kernel
theorem dX7_can_23 : decode cX7_can 23 = .ok (.iaload, 1) := by decide +kernel
theorem dX7_can_24 : decode cX7_can 24 = .ok (.lookupswitch 169 #[(42, 146), (43, 89), (45, 113), (115, 44)], 44) := by decide +kernel
theorem dX7_can_68 : decode cX7_can 68 = .ok (.iload_n 2, 1) := by decide +kernel
theorem dX7_can_69 : decode cX7_can 69 = .ok (.invokestatic 43, 3) := by decide +kernel
theorem dX7_can_72 : decode cX7_can 72 = .ok (.ifCond .eq 39, 3) := by decide +kernel
theorem dX7_can_75 : decode cX7_can 75 = .ok (.aload_n 0, 1) := by decide +kernel
theorem dX7_can_76 : decode cX7_can 76 = .ok (.getfield 26, 3) := by decide +kernel
theorem dX7_can_79 : decode cX7_can 79 = .ok (.iload_n 1, 1) := by decide +kernel
theorem dX7_can_80 : decode cX7_can 80 = .ok (.iconst 3, 1) := by decide +kernel
theorem dX7_can_81 : decode cX7_can 81 = .ok (.iadd, 1) := by decide +kernel
theorem dX7_can_82 : decode cX7_can 82 = .ok (.iaload, 1) := by decide +kernel
theorem dX7_can_83 : decode cX7_can 83 = .ok (.invokestatic 107, 3) := by decide +kernel
theorem dX7_can_86 : decode cX7_can 86 = .ok (.ifCond .eq 25, 3) := by decide +kernel
theorem dX7_can_89 : decode cX7_can 89 = .ok (.aload_n 0, 1) := by decide +kernel
theorem dX7_can_90 : decode cX7_can 90 = .ok (.iload_n 3, 1) := by decide +kernel
theorem dX7_can_91 : decode cX7_can 91 = .ok (.i2l, 1) := by decide +kernel
theorem dX7_can_92 : decode cX7_can 92 = .ok (.aload_n 0, 1) := by decide +kernel
theorem dX7_can_93 : decode cX7_can 93 = .ok (.getfield 26, 3) := by decide +kernel
theorem dX7_can_96 : decode cX7_can 96 = .ok (.iload_n 1, 1) := by decide +kernel
theorem dX7_can_97 : decode cX7_can 97 = .ok (.iconst 3, 1) := by decide +kernel
theorem dX7_can_98 : decode cX7_can 98 = .ok (.iadd, 1) := by decide +kernel
theorem dX7_can_99 : decode cX7_can 99 = .ok (.iaload, 1) := by decide +kernel
theorem dX7_can_100 : decode cX7_can 100 = .ok (.i2l, 1) := by decide +kernel
theorem dX7_can_101 : decode cX7_can 101 = .ok (.invokevirtual 70, 3) := by decide +kernel
theorem dX7_can_104 : decode cX7_can 104 = .ok (.ifCond .eq 7, 3) := by decide +kernel
theorem dX7_can_107 : decode cX7_can 107 = .ok (.iconst 1, 1) := by decide +kernel
theorem dX7_can_108 : decode cX7_can 108 = .ok (.goto 4, 3) := by decide +kernel
theorem dX7_can_111 : decode cX7_can 111 = .ok (.iconst 0, 1) := by decide +kernel
theorem dX7_can_112 : decode cX7_can 112 = .ok (.ireturn, 1) := by decide +kernel
theorem dX7_can_113 : decode cX7_can 113 = .ok (.iload_n 2, 1) := by decide +kernel
theorem dX7_can_114 : decode cX7_can 114 = .ok (.iload_n 3, 1) := by decide +kernel
theorem dX7_can_115 : decode cX7_can 115 = .ok (.invokestatic 116, 3) := by decide +kernel
theorem dX7_can_118 : decode cX7_can 118 = .ok (.ifCond .eq 17, 3) := by decide +kernel
theorem dX7_can_121 : decode cX7_can 121 = .ok (.aload_n 0, 1) := by decide +kernel
theorem dX7_can_122 : decode cX7_can 122 = .ok (.iload_n 2, 1) := by decide +kernel
theorem dX7_can_123 : decode cX7_can 123 = .ok (.iload_n 3, 1) := by decide +kernel
theorem dX7_can_124 : decode cX7_can 124 = .ok (.iconst 1, 1) := by decide +kernel
theorem dX7_can_125 : decode cX7_can 125 = .ok (.invokevirtual 120, 3) := by decide +kernel
theorem dX7_can_128 : decode cX7_can 128 = .ok (.ifCond .eq 7, 3) := by decide +kernel
theorem dX7_can_131 : decode cX7_can 131 = .ok (.iconst 1, 1) := by decide +kernel
theorem dX7_can_132 : decode cX7_can 132 = .ok (.goto 4, 3) := by decide +kernel
theorem dX7_can_135 : decode cX7_can 135 = .ok (.iconst 0, 1) := by decide +kernel
theorem dX7_can_136 : decode cX7_can 136 = .ok (.ireturn, 1) := by decide +kernel
theorem dX7_can_137 : decode cX7_can 137 = .ok (.iload_n 2, 1) := by decide +kernel
theorem dX7_can_138 : decode cX7_can 138 = .ok (.iload_n 3, 1) := by decide +kernel
theorem dX7_can_139 : decode cX7_can 139 = .ok (.invokestatic 116, 3) := by decide +kernel
theorem dX7_can_142 : decode cX7_can 142 = .ok (.ifCond .eq 26, 3) := by decide +kernel
theorem dX7_can_145 : decode cX7_can 145 = .ok (.aload_n 0, 1) := by decide +kernel
theorem dX7_can_146 : decode cX7_can 146 = .ok (.iload_n 2, 1) := by decide +kernel
theorem dX7_can_147 : decode cX7_can 147 = .ok (.iload_n 3, 1) := by decide +kernel
theorem dX7_can_148 : decode cX7_can 148 = .ok (.invokevirtual 123, 3) := by decide +kernel
theorem dX7_can_151 : decode cX7_can 151 = .ok (.ifCond .lt 17, 3) := by decide +kernel
theorem dX7_can_154 : decode cX7_can 154 = .ok (.aload_n 0, 1) := by decide +kernel
theorem dX7_can_155 : decode cX7_can 155 = .ok (.iload_n 2, 1) := by decide +kernel
theorem dX7_can_156 : decode cX7_can 156 = .ok (.iload_n 3, 1) := by decide +kernel
theorem dX7_can_157 : decode cX7_can 157 = .ok (.iconst (-1), 1) := by decide +kernel
theorem dX7_can_158 : decode cX7_can 158 = .ok (.invokevirtual 120, 3) := by decide +kernel
theorem dX7_can_161 : decode cX7_can 161 = .ok (.ifCond .eq 7, 3) := by decide +kernel
theorem dX7_can_164 : decode cX7_can 164 = .ok (.iconst 1, 1) := by decide +kernel
theorem dX7_can_165 : decode cX7_can 165 = .ok (.goto 4, 3) := by decide +kernel
theorem dX7_can_168 : decode cX7_can 168 = .ok (.iconst 0, 1) := by decide +kernel
theorem dX7_can_169 : decode cX7_can 169 = .ok (.ireturn, 1) := by decide +kernel
theorem dX7_can_170 : decode cX7_can 170 = .ok (.iload_n 2, 1) := by decide +kernel
theorem dX7_can_171 : decode cX7_can 171 = .ok (.iload_n 3, 1) := by decide +kernel
theorem dX7_can_172 : decode cX7_can 172 = .ok (.invokestatic 116, 3) := by decide +kernel
theorem dX7_can_175 : decode cX7_can 175 = .ok (.ifCond .eq 16, 3) := by decide +kernel
theorem dX7_can_178 : decode cX7_can 178 = .ok (.aload_n 0, 1) := by decide +kernel
theorem dX7_can_179 : decode cX7_can 179 = .ok (.iload_n 2, 1) := by decide +kernel
theorem dX7_can_180 : decode cX7_can 180 = .ok (.iload_n 3, 1) := by decide +kernel
theorem dX7_can_181 : decode cX7_can 181 = .ok (.invokevirtual 127, 3) := by decide +kernel
theorem dX7_can_184 : decode cX7_can 184 = .ok (.ifCond .eq 7, 3) := by decide +kernel
theorem dX7_can_187 : decode cX7_can 187 = .ok (.iconst 1, 1) := by decide +kernel
theorem dX7_can_188 : decode cX7_can 188 = .ok (.goto 4, 3) := by decide +kernel
theorem dX7_can_191 : decode cX7_can 191 = .ok (.iconst 0, 1) := by decide +kernel
theorem dX7_can_192 : decode cX7_can 192 = .ok (.ireturn, 1) := by decide +kernel
theorem dX7_can_193 : decode cX7_can 193 = .ok (.iload_n 2, 1) := by decide +kernel
theorem dX7_can_194 : decode cX7_can 194 = .ok (.iload_n 3, 1) := by decide +kernel
theorem dX7_can_195 : decode cX7_can 195 = .ok (.invokestatic 116, 3) := by decide +kernel
theorem dX7_can_198 : decode cX7_can 198 = .ok (.ireturn, 1) := by decide +kernel
theorem dX7_runText_0 : decode cX7_runText 0 = .ok (.aload_n 0, 1) := by decide +kernel
theorem dX7_runText_1 : decode cX7_runText 1 = .ok (.iconst 0, 1) := by decide +kernel
theorem dX7_runText_2 : decode cX7_runText 2 = .ok (.putfield 35, 3) := by decide +kernel
theorem dX7_runText_5 : decode cX7_runText 5 = .ok (.aload_n 0, 1) := by decide +kernel
theorem dX7_runText_6 : decode cX7_runText 6 = .ok (.invokevirtual 198, 3) := by decide +kernel
theorem dX7_runText_9 : decode cX7_runText 9 = .ok (.ifCond .ne 9, 3) := by decide +kernel
theorem dX7_runText_12 : decode cX7_runText 12 = .ok (.aload_n 0, 1) := by decide +kernel
theorem dX7_runText_13 : decode cX7_runText 13 = .ok (.iconst 1, 1) := by decide +kernel
theorem dX7_runText_14 : decode cX7_runText 14 = .ok (.invokevirtual 101, 3) := by decide +kernel
theorem dX7_runText_17 : decode cX7_runText 17 = .ok (.ireturn, 1) := by decide +kernel
theorem dX7_runText_18 : decode cX7_runText 18 = .ok (.aload_n 0, 1) := by decide +kernel
theorem dX7_runText_19 : decode cX7_runText 19 = .ok (.invokevirtual 110, 3) := by decide +kernel
theorem dX7_runText_22 : decode cX7_runText 22 = .ok (.aload_n 0, 1) := by decide +kernel
theorem dX7_runText_23 : decode cX7_runText 23 = .ok (.iconst 0, 1) := by decide +kernel
theorem dX7_runText_24 : decode cX7_runText 24 = .ok (.putfield 173, 3) := by decide +kernel
theorem dX7_runText_27 : decode cX7_runText 27 = .ok (.iconst 0, 1) := by decide +kernel
theorem dX7_runText_28 : decode cX7_runText 28 = .ok (.istore_n 1, 1) := by decide +kernel
theorem dX7_runText_29 : decode cX7_runText 29 = .ok (.iload_n 1, 1) := by decide +kernel
theorem dX7_runText_30 : decode cX7_runText 30 = .ok (.aload_n 0, 1) := by decide +kernel
theorem dX7_runText_31 : decode cX7_runText 31 = .ok (.getfield 189, 3) := by decide +kernel
theorem dX7_runText_34 : decode cX7_runText 34 = .ok (.if_icmp .ge 75, 3) := by decide +kernel
theorem dX7_runText_37 : decode cX7_runText 37 = .ok (.aload_n 0, 1) := by decide +kernel
theorem dX7_runText_38 : decode cX7_runText 38 = .ok (.iconst 4, 1) := by decide +kernel
theorem dX7_runText_39 : decode cX7_runText 39 = .ok (.iload_n 1, 1) := by decide +kernel
theorem dX7_runText_40 : decode cX7_runText 40 = .ok (.imul, 1) := by decide +kernel
theorem dX7_runText_41 : decode cX7_runText 41 = .ok (.invokevirtual 202, 3) := by decide +kernel
theorem dX7_runText_44 : decode cX7_runText 44 = .ok (.ifCond .eq 65, 3) := by decide +kernel
theorem dX7_runText_47 : decode cX7_runText 47 = .ok (.aload_n 0, 1) := by decide +kernel
theorem dX7_runText_48 : decode cX7_runText 48 = .ok (.getfield 26, 3) := by decide +kernel
theorem dX7_runText_51 : decode cX7_runText 51 = .ok (.iconst 4, 1) := by decide +kernel
theorem dX7_runText_52 : decode cX7_runText 52 = .ok (.iload_n 1, 1) := by decide +kernel
theorem dX7_runText_53 : decode cX7_runText 53 = .ok (.imul, 1) := by decide +kernel
theorem dX7_runText_54 : decode cX7_runText 54 = .ok (.iaload, 1) := by decide +kernel
theorem dX7_runText_55 : decode cX7_runText 55 = .ok (.bipush 99, 2) := by decide +kernel
theorem dX7_runText_57 : decode cX7_runText 57 = .ok (.if_icmp .ne 31, 3) := by decide +kernel
theorem dX7_runText_60 : decode cX7_runText 60 = .ok (.aload_n 0, 1) := by decide +kernel
theorem dX7_runText_61 : decode cX7_runText 61 = .ok (.aload_n 0, 1) := by decide +kernel
theorem dX7_runText_62 : decode cX7_runText 62 = .ok (.getfield 26, 3) := by decide +kernel
theorem dX7_runText_65 : decode cX7_runText 65 = .ok (.iconst 4, 1) := by decide +kernel
theorem dX7_runText_66 : decode cX7_runText 66 = .ok (.iload_n 1, 1) := by decide +kernel
theorem dX7_runText_67 : decode cX7_runText 67 = .ok (.imul, 1) := by decide +kernel
theorem dX7_runText_68 : decode cX7_runText 68 = .ok (.iconst 1, 1) := by decide +kernel
theorem dX7_runText_69 : decode cX7_runText 69 = .ok (.iadd, 1) := by decide +kernel
theorem dX7_runText_70 : decode cX7_runText 70 = .ok (.iaload, 1) := by decide +kernel
theorem dX7_runText_71 : decode cX7_runText 71 = .ok (.aload_n 0, 1) := by decide +kernel
theorem dX7_runText_72 : decode cX7_runText 72 = .ok (.getfield 26, 3) := by decide +kernel
theorem dX7_runText_75 : decode cX7_runText 75 = .ok (.iconst 4, 1) := by decide +kernel
theorem dX7_runText_76 : decode cX7_runText 76 = .ok (.iload_n 1, 1) := by decide +kernel
theorem dX7_runText_77 : decode cX7_runText 77 = .ok (.imul, 1) := by decide +kernel
theorem dX7_runText_78 : decode cX7_runText 78 = .ok (.iconst 2, 1) := by decide +kernel
theorem dX7_runText_79 : decode cX7_runText 79 = .ok (.iadd, 1) := by decide +kernel
theorem dX7_runText_80 : decode cX7_runText 80 = .ok (.iaload, 1) := by decide +kernel
theorem dX7_runText_81 : decode cX7_runText 81 = .ok (.invokevirtual 130, 3) := by decide +kernel
theorem dX7_runText_84 : decode cX7_runText 84 = .ok (.pop, 1) := by decide +kernel
theorem dX7_runText_85 : decode cX7_runText 85 = .ok (.goto 18, 3) := by decide +kernel
theorem dX7_runText_88 : decode cX7_runText 88 = .ok (.aload_n 0, 1) := by decide +kernel
theorem dX7_runText_89 : decode cX7_runText 89 = .ok (.aload_n 0, 1) := by decide +kernel
theorem dX7_runText_90 : decode cX7_runText 90 = .ok (.getfield 26, 3) := by decide +kernel
theorem dX7_runText_93 : decode cX7_runText 93 = .ok (.iconst 4, 1) := by decide +kernel
theorem dX7_runText_94 : decode cX7_runText 94 = .ok (.iload_n 1, 1) := by decide +kernel
theorem dX7_runText_95 : decode cX7_runText 95 = .ok (.imul, 1) := by decide +kernel
theorem dX7_runText_96 : decode cX7_runText 96 = .ok (.iconst 1, 1) := by decide +kernel
theorem dX7_runText_97 : decode cX7_runText 97 = .ok (.iadd, 1) := by decide +kernel
theorem dX7_runText_98 : decode cX7_runText 98 = .ok (.iaload, 1) := by decide +kernel
theorem dX7_runText_99 : decode cX7_runText 99 = .ok (.invokevirtual 113, 3) := by decide +kernel
theorem dX7_runText_102 : decode cX7_runText 102 = .ok (.pop, 1) := by decide +kernel
theorem dX7_runText_103 : decode cX7_runText 103 = .ok (.iinc 1 1, 3) := by decide +kernel
theorem dX7_runText_106 : decode cX7_runText 106 = .ok (.goto (-77), 3) := by decide +kernel
theorem dX7_runText_109 : decode cX7_runText 109 = .ok (.iload_n 1, 1) := by decide +kernel
theorem dX7_runText_110 : decode cX7_runText 110 = .ok (.ireturn, 1) := by decide +kernel
theorem dX7_undo_0 : decode cX7_undo 0 = .ok (.aload_n 0, 1) := by decide +kernel
theorem dX7_undo_1 : decode cX7_undo 1 = .ok (.iconst 0, 1) := by decide +kernel
theorem dX7_undo_2 : decode cX7_undo 2 = .ok (.putfield 35, 3) := by decide +kernel
theorem dX7_undo_5 : decode cX7_undo 5 = .ok (.aload_n 0, 1) := by decide +kernel
theorem dX7_undo_6 : decode cX7_undo 6 = .ok (.getfield 47, 3) := by decide +kernel
theorem dX7_undo_9 : decode cX7_undo 9 = .ok (.ifCond .ne 9, 3) := by decide +kernel
theorem dX7_undo_12 : decode cX7_undo 12 = .ok (.aload_n 0, 1) := by decide +kernel
theorem dX7_undo_13 : decode cX7_undo 13 = .ok (.iconst 1, 1) := by decide +kernel
theorem dX7_undo_14 : decode cX7_undo 14 = .ok (.invokevirtual 101, 3) := by decide +kernel
theorem dX7_undo_17 : decode cX7_undo 17 = .ok (.ireturn, 1) := by decide +kernel
theorem dX7_undo_18 : decode cX7_undo 18 = .ok (.aload_n 0, 1) := by decide +kernel
theorem dX7_undo_19 : decode cX7_undo 19 = .ok (.dup, 1) := by decide +kernel
theorem dX7_undo_20 : decode cX7_undo 20 = .ok (.getfield 47, 3) := by decide +kernel
theorem dX7_undo_23 : decode cX7_undo 23 = .ok (.iconst 1, 1) := by decide +kernel
theorem dX7_undo_24 : decode cX7_undo 24 = .ok (.isub, 1) := by decide +kernel
theorem dX7_undo_25 : decode cX7_undo 25 = .ok (.putfield 47, 3) := by decide +kernel
theorem dX7_undo_28 : decode cX7_undo 28 = .ok (.iconst 0, 1) := by decide +kernel
theorem dX7_undo_29 : decode cX7_undo 29 = .ok (.istore_n 1, 1) := by decide +kernel
theorem dX7_undo_30 : decode cX7_undo 30 = .ok (.iload_n 1, 1) := by decide +kernel
theorem dX7_undo_31 : decode cX7_undo 31 = .ok (.bipush 12, 2) := by decide +kernel
theorem dX7_undo_33 : decode cX7_undo 33 = .ok (.if_icmp .ge 29, 3) := by decide +kernel
theorem dX7_undo_36 : decode cX7_undo 36 = .ok (.aload_n 0, 1) := by decide +kernel
theorem dX7_undo_37 : decode cX7_undo 37 = .ok (.getfield 7, 3) := by decide +kernel
theorem dX7_undo_40 : decode cX7_undo 40 = .ok (.iload_n 1, 1) := by decide +kernel
theorem dX7_undo_41 : decode cX7_undo 41 = .ok (.aload_n 0, 1) := by decide +kernel
theorem dX7_undo_42 : decode cX7_undo 42 = .ok (.getfield 13, 3) := by decide +kernel
theorem dX7_undo_45 : decode cX7_undo 45 = .ok (.bipush 12, 2) := by decide +kernel
theorem dX7_undo_47 : decode cX7_undo 47 = .ok (.aload_n 0, 1) := by decide +kernel
theorem dX7_undo_48 : decode cX7_undo 48 = .ok (.getfield 47, 3) := by decide +kernel
theorem dX7_undo_51 : decode cX7_undo 51 = .ok (.imul, 1) := by decide +kernel
theorem dX7_undo_52 : decode cX7_undo 52 = .ok (.iload_n 1, 1) := by decide +kernel
theorem dX7_undo_53 : decode cX7_undo 53 = .ok (.iadd, 1) := by decide +kernel
theorem dX7_undo_54 : decode cX7_undo 54 = .ok (.iaload, 1) := by decide +kernel
theorem dX7_undo_55 : decode cX7_undo 55 = .ok (.iastore, 1) := by decide +kernel
theorem dX7_undo_56 : decode cX7_undo 56 = .ok (.iinc 1 1, 3) := by decide +kernel
theorem dX7_undo_59 : decode cX7_undo 59 = .ok (.goto (-29), 3) := by decide +kernel
theorem dX7_undo_62 : decode cX7_undo 62 = .ok (.aload_n 0, 1) := by decide +kernel
theorem dX7_undo_63 : decode cX7_undo 63 = .ok (.getfield 47, 3) := by decide +kernel
theorem dX7_undo_66 : decode cX7_undo 66 = .ok (.ireturn, 1) := by decide +kernel
theorem dX7_undoCount_0 : decode cX7_undoCount 0 = .ok (.aload_n 0, 1) := by decide +kernel
theorem dX7_undoCount_1 : decode cX7_undoCount 1 = .ok (.iconst 0, 1) := by decide +kernel
theorem dX7_undoCount_2 : decode cX7_undoCount 2 = .ok (.putfield 35, 3) := by decide +kernel
theorem dX7_undoCount_5 : decode cX7_undoCount 5 = .ok (.aload_n 0, 1) := by decide +kernel
theorem dX7_undoCount_6 : decode cX7_undoCount 6 = .ok (.getfield 47, 3) := by decide +kernel
theorem dX7_undoCount_9 : decode cX7_undoCount 9 = .ok (.ireturn, 1) := by decide +kernel
theorem dX7_saveState_0 : decode cX7_saveState 0 = .ok (.aload_n 0, 1) := by decide +kernel
theorem dX7_saveState_1 : decode cX7_saveState 1 = .ok (.iconst 0, 1) := by decide +kernel
theorem dX7_saveState_2 : decode cX7_saveState 2 = .ok (.putfield 35, 3) := by decide +kernel
theorem dX7_saveState_5 : decode cX7_saveState 5 = .ok (.iload_n 1, 1) := by decide +kernel
theorem dX7_saveState_6 : decode cX7_saveState 6 = .ok (.iconst 0, 1) := by decide +kernel
theorem dX7_saveState_7 : decode cX7_saveState 7 = .ok (.iconst 1, 1) := by decide +kernel
theorem dX7_saveState_8 : decode cX7_saveState 8 = .ok (.invokestatic 39, 3) := by decide +kernel
theorem dX7_saveState_11 : decode cX7_saveState 11 = .ok (.ifCond .ne 9, 3) := by decide +kernel
theorem dX7_saveState_14 : decode cX7_saveState 14 = .ok (.aload_n 0, 1) := by decide +kernel
theorem dX7_saveState_15 : decode cX7_saveState 15 = .ok (.iconst 1, 1) := by decide +kernel
theorem dX7_saveState_16 : decode cX7_saveState 16 = .ok (.invokevirtual 101, 3) := by decide +kernel
theorem dX7_saveState_19 : decode cX7_saveState 19 = .ok (.ireturn, 1) := by decide +kernel
theorem dX7_saveState_20 : decode cX7_saveState 20 = .ok (.iconst 0, 1) := by decide +kernel
theorem dX7_saveState_21 : decode cX7_saveState 21 = .ok (.istore_n 2, 1) := by decide +kernel
theorem dX7_saveState_22 : decode cX7_saveState 22 = .ok (.iload_n 2, 1) := by decide +kernel
theorem dX7_saveState_23 : decode cX7_saveState 23 = .ok (.bipush 12, 2) := by decide +kernel
theorem dX7_saveState_25 : decode cX7_saveState 25 = .ok (.if_icmp .ge 26, 3) := by decide +kernel
theorem dX7_saveState_28 : decode cX7_saveState 28 = .ok (.aload_n 0, 1) := by decide +kernel
theorem dX7_saveState_29 : decode cX7_saveState 29 = .ok (.getfield 16, 3) := by decide +kernel
theorem dX7_saveState_32 : decode cX7_saveState 32 = .ok (.bipush 12, 2) := by decide +kernel
theorem dX7_saveState_34 : decode cX7_saveState 34 = .ok (.iload_n 1, 1) := by decide +kernel
theorem dX7_saveState_35 : decode cX7_saveState 35 = .ok (.imul, 1) := by decide +kernel
theorem dX7_saveState_36 : decode cX7_saveState 36 = .ok (.iload_n 2, 1) := by decide +kernel
theorem dX7_saveState_37 : decode cX7_saveState 37 = .ok (.iadd, 1) := by decide +kernel
theorem dX7_saveState_38 : decode cX7_saveState 38 = .ok (.aload_n 0, 1) := by decide +kernel
theorem dX7_saveState_39 : decode cX7_saveState 39 = .ok (.getfield 7, 3) := by decide +kernel
theorem dX7_saveState_42 : decode cX7_saveState 42 = .ok (.iload_n 2, 1) := by decide +kernel
theorem dX7_saveState_43 : decode cX7_saveState 43 = .ok (.iaload, 1) := by decide +kernel
theorem dX7_saveState_44 : decode cX7_saveState 44 = .ok (.iastore, 1) := by decide +kernel
theorem dX7_saveState_45 : decode cX7_saveState 45 = .ok (.iinc 2 1, 3) := by decide +kernel
theorem dX7_saveState_48 : decode cX7_saveState 48 = .ok (.goto (-26), 3) := by decide +kernel
theorem dX7_saveState_51 : decode cX7_saveState 51 = .ok (.aload_n 0, 1) := by decide +kernel
theorem dX7_saveState_52 : decode cX7_saveState 52 = .ok (.getfield 19, 3) := by decide +kernel
theorem dX7_saveState_55 : decode cX7_saveState 55 = .ok (.iload_n 1, 1) := by decide +kernel
theorem dX7_saveState_56 : decode cX7_saveState 56 = .ok (.iconst 1, 1) := by decide +kernel
theorem dX7_saveState_57 : decode cX7_saveState 57 = .ok (.bastore, 1) := by decide +kernel
theorem dX7_saveState_58 : decode cX7_saveState 58 = .ok (.aload_n 0, 1) := by decide +kernel
theorem dX7_saveState_59 : decode cX7_saveState 59 = .ok (.invokevirtual 205, 3) := by decide +kernel
theorem dX7_saveState_62 : decode cX7_saveState 62 = .ok (.ireturn, 1) := by decide +kernel
theorem dX7_loadState_0 : decode cX7_loadState 0 = .ok (.aload_n 0, 1) := by decide +kernel
theorem dX7_loadState_1 : decode cX7_loadState 1 = .ok (.iconst 0, 1) := by decide +kernel
theorem dX7_loadState_2 : decode cX7_loadState 2 = .ok (.putfield 35, 3) := by decide +kernel
theorem dX7_loadState_5 : decode cX7_loadState 5 = .ok (.iload_n 1, 1) := by decide +kernel
theorem dX7_loadState_6 : decode cX7_loadState 6 = .ok (.iconst 0, 1) := by decide +kernel
theorem dX7_loadState_7 : decode cX7_loadState 7 = .ok (.iconst 1, 1) := by decide +kernel
theorem dX7_loadState_8 : decode cX7_loadState 8 = .ok (.invokestatic 39, 3) := by decide +kernel
theorem dX7_loadState_11 : decode cX7_loadState 11 = .ok (.ifCond .ne 9, 3) := by decide +kernel
theorem dX7_loadState_14 : decode cX7_loadState 14 = .ok (.aload_n 0, 1) := by decide +kernel
theorem dX7_loadState_15 : decode cX7_loadState 15 = .ok (.iconst 1, 1) := by decide +kernel
theorem dX7_loadState_16 : decode cX7_loadState 16 = .ok (.invokevirtual 101, 3) := by decide +kernel
theorem dX7_loadState_19 : decode cX7_loadState 19 = .ok (.ireturn, 1) := by decide +kernel
theorem dX7_loadState_20 : decode cX7_loadState 20 = .ok (.aload_n 0, 1) := by decide +kernel
theorem dX7_loadState_21 : decode cX7_loadState 21 = .ok (.getfield 19, 3) := by decide +kernel
theorem dX7_loadState_24 : decode cX7_loadState 24 = .ok (.iload_n 1, 1) := by decide +kernel
theorem dX7_loadState_25 : decode cX7_loadState 25 = .ok (.baload, 1) := by decide +kernel
theorem dX7_loadState_26 : decode cX7_loadState 26 = .ok (.ifCond .ne 9, 3) := by decide +kernel
theorem dX7_loadState_29 : decode cX7_loadState 29 = .ok (.aload_n 0, 1) := by decide +kernel
theorem dX7_loadState_30 : decode cX7_loadState 30 = .ok (.iconst 2, 1) := by decide +kernel
theorem dX7_loadState_31 : decode cX7_loadState 31 = .ok (.invokevirtual 101, 3) := by decide +kernel
theorem dX7_loadState_34 : decode cX7_loadState 34 = .ok (.ireturn, 1) := by decide +kernel
theorem dX7_loadState_35 : decode cX7_loadState 35 = .ok (.aload_n 0, 1) := by decide +kernel
theorem dX7_loadState_36 : decode cX7_loadState 36 = .ok (.invokevirtual 110, 3) := by decide +kernel
theorem dX7_loadState_39 : decode cX7_loadState 39 = .ok (.iconst 0, 1) := by decide +kernel
theorem dX7_loadState_40 : decode cX7_loadState 40 = .ok (.istore_n 2, 1) := by decide +kernel
theorem dX7_loadState_41 : decode cX7_loadState 41 = .ok (.iload_n 2, 1) := by decide +kernel
theorem dX7_loadState_42 : decode cX7_loadState 42 = .ok (.bipush 12, 2) := by decide +kernel
theorem dX7_loadState_44 : decode cX7_loadState 44 = .ok (.if_icmp .ge 26, 3) := by decide +kernel
theorem dX7_loadState_47 : decode cX7_loadState 47 = .ok (.aload_n 0, 1) := by decide +kernel
theorem dX7_loadState_48 : decode cX7_loadState 48 = .ok (.getfield 7, 3) := by decide +kernel
theorem dX7_loadState_51 : decode cX7_loadState 51 = .ok (.iload_n 2, 1) := by decide +kernel
theorem dX7_loadState_52 : decode cX7_loadState 52 = .ok (.aload_n 0, 1) := by decide +kernel
theorem dX7_loadState_53 : decode cX7_loadState 53 = .ok (.getfield 16, 3) := by decide +kernel
theorem dX7_loadState_56 : decode cX7_loadState 56 = .ok (.bipush 12, 2) := by decide +kernel
theorem dX7_loadState_58 : decode cX7_loadState 58 = .ok (.iload_n 1, 1) := by decide +kernel
theorem dX7_loadState_59 : decode cX7_loadState 59 = .ok (.imul, 1) := by decide +kernel
theorem dX7_loadState_60 : decode cX7_loadState 60 = .ok (.iload_n 2, 1) := by decide +kernel
theorem dX7_loadState_61 : decode cX7_loadState 61 = .ok (.iadd, 1) := by decide +kernel
theorem dX7_loadState_62 : decode cX7_loadState 62 = .ok (.iaload, 1) := by decide +kernel
theorem dX7_loadState_63 : decode cX7_loadState 63 = .ok (.iastore, 1) := by decide +kernel
theorem dX7_loadState_64 : decode cX7_loadState 64 = .ok (.iinc 2 1, 3) := by decide +kernel
theorem dX7_loadState_67 : decode cX7_loadState 67 = .ok (.goto (-26), 3) := by decide +kernel
theorem dX7_loadState_70 : decode cX7_loadState 70 = .ok (.aload_n 0, 1) := by decide +kernel
theorem dX7_loadState_71 : decode cX7_loadState 71 = .ok (.invokevirtual 205, 3) := by decide +kernel
theorem dX7_loadState_74 : decode cX7_loadState 74 = .ok (.ireturn, 1) := by decide +kernel
theorem dJ9_abs_067f4_0 : decode cJ9_abs_067f4 0 = .ok (.lload_n 0, 1) := by decide +kernel
theorem dJ9_abs_067f4_1 : decode cJ9_abs_067f4 1 = .ok (.lconst 0, 1) := by decide +kernel
theorem dJ9_abs_067f4_2 : decode cJ9_abs_067f4 2 = .ok (.lcmp, 1) := by decide +kernel
theorem dJ9_abs_067f4_3 : decode cJ9_abs_067f4 3 = .ok (.ifCond .ge 8, 3) := by decide +kernel
theorem dJ9_abs_067f4_6 : decode cJ9_abs_067f4 6 = .ok (.lload_n 0, 1) := by decide +kernel
theorem dJ9_abs_067f4_7 : decode cJ9_abs_067f4 7 = .ok (.lneg, 1) := by decide +kernel
theorem dJ9_abs_067f4_8 : decode cJ9_abs_067f4 8 = .ok (.goto 4, 3) := by decide +kernel
theorem dJ9_abs_067f4_11 : decode cJ9_abs_067f4 11 = .ok (.lload_n 0, 1) := by decide +kernel
theorem dJ9_abs_067f4_12 : decode cJ9_abs_067f4 12 = .ok (.lreturn, 1) := by decide +kernel
theorem dJ9_max_f86c9_0 : decode cJ9_max_f86c9 0 = .ok (.lload_n 0, 1) := by decide +kernel
theorem dJ9_max_f86c9_1 : decode cJ9_max_f86c9 1 = .ok (.lload_n 2, 1) := by decide +kernel
theorem dJ9_max_f86c9_2 : decode cJ9_max_f86c9 2 = .ok (.lcmp, 1) := by decide +kernel
theorem dJ9_max_f86c9_3 : decode cJ9_max_f86c9 3 = .ok (.ifCond .lt 7, 3) := by decide +kernel
theorem dJ9_max_f86c9_6 : decode cJ9_max_f86c9 6 = .ok (.lload_n 0, 1) := by decide +kernel
theorem dJ9_max_f86c9_7 : decode cJ9_max_f86c9 7 = .ok (.goto 4, 3) := by decide +kernel
theorem dJ9_max_f86c9_10 : decode cJ9_max_f86c9 10 = .ok (.lload_n 2, 1) := by decide +kernel
theorem dJ9_max_f86c9_11 : decode cJ9_max_f86c9 11 = .ok (.lreturn, 1) := by decide +kernel
theorem dJ9_min_f86c9_0 : decode cJ9_min_f86c9 0 = .ok (.lload_n 0, 1) := by decide +kernel
theorem dJ9_min_f86c9_1 : decode cJ9_min_f86c9 1 = .ok (.lload_n 2, 1) := by decide +kernel
theorem dJ9_min_f86c9_2 : decode cJ9_min_f86c9 2 = .ok (.lcmp, 1) := by decide +kernel
theorem dJ9_min_f86c9_3 : decode cJ9_min_f86c9 3 = .ok (.ifCond .gt 7, 3) := by decide +kernel
theorem dJ9_min_f86c9_6 : decode cJ9_min_f86c9 6 = .ok (.lload_n 0, 1) := by decide +kernel
theorem dJ9_min_f86c9_7 : decode cJ9_min_f86c9 7 = .ok (.goto 4, 3) := by decide +kernel
theorem dJ9_min_f86c9_10 : decode cJ9_min_f86c9 10 = .ok (.lload_n 2, 1) := by decide +kernel
theorem dJ9_min_f86c9_11 : decode cJ9_min_f86c9 11 = .ok (.lreturn, 1) := by decide +kernel
theorem dL_set_0 : decode cL_set 0 = .ok (.aload 4, 2) := by decide +kernel
theorem dL_set_2 : decode cL_set 2 = .ok (.iconst 0, 1) := by decide +kernel
theorem dL_set_3 : decode cL_set 3 = .ok (.aload_n 0, 1) := by decide +kernel
theorem dL_set_4 : decode cL_set 4 = .ok (.iload_n 1, 1) := by decide +kernel
theorem dL_set_5 : decode cL_set 5 = .ok (.iload_n 2, 1) := by decide +kernel
theorem dL_set_6 : decode cL_set 6 = .ok (.iload_n 3, 1) := by decide +kernel
theorem dL_set_7 : decode cL_set 7 = .ok (.invokevirtual 7, 3) := by decide +kernel
theorem dL_set_10 : decode cL_set 10 = .ok (.i2l, 1) := by decide +kernel
theorem dL_set_11 : decode cL_set 11 = .ok (.lastore, 1) := by decide +kernel
theorem dL_set_12 : decode cL_set 12 = .ok (.goto 11, 3) := by decide +kernel
theorem dL_set_15 : decode cL_set 15 = .ok (.astore 5, 2) := by decide +kernel
theorem dL_set_17 : decode cL_set 17 = .ok (.iconst 1, 1) := by decide +kernel
theorem dL_set_18 : decode cL_set 18 = .ok (.ireturn, 1) := by decide +kernel
theorem dL_set_19 : decode cL_set 19 = .ok (.astore 5, 2) := by decide +kernel
theorem dL_set_21 : decode cL_set 21 = .ok (.iconst 2, 1) := by decide +kernel
theorem dL_set_22 : decode cL_set 22 = .ok (.ireturn, 1) := by decide +kernel
theorem dL_set_23 : decode cL_set 23 = .ok (.iconst 0, 1) := by decide +kernel
theorem dL_set_24 : decode cL_set 24 = .ok (.ireturn, 1) := by decide +kernel
theorem dL_add_0 : decode cL_add 0 = .ok (.aload_n 3, 1) := by decide +kernel
theorem dL_add_1 : decode cL_add 1 = .ok (.iconst 0, 1) := by decide +kernel
theorem dL_add_2 : decode cL_add 2 = .ok (.aload_n 0, 1) := by decide +kernel
theorem dL_add_3 : decode cL_add 3 = .ok (.iload_n 1, 1) := by decide +kernel
theorem dL_add_4 : decode cL_add 4 = .ok (.iload_n 2, 1) := by decide +kernel
theorem dL_add_5 : decode cL_add 5 = .ok (.invokevirtual 17, 3) := by decide +kernel
theorem dL_add_8 : decode cL_add 8 = .ok (.i2l, 1) := by decide +kernel
theorem dL_add_9 : decode cL_add 9 = .ok (.lastore, 1) := by decide +kernel
theorem dL_add_10 : decode cL_add 10 = .ok (.goto 11, 3) := by decide +kernel
theorem dL_add_13 : decode cL_add 13 = .ok (.astore 4, 2) := by decide +kernel
theorem dL_add_15 : decode cL_add 15 = .ok (.iconst 1, 1) := by decide +kernel
theorem dL_add_16 : decode cL_add 16 = .ok (.ireturn, 1) := by decide +kernel
theorem dL_add_17 : decode cL_add 17 = .ok (.astore 4, 2) := by decide +kernel
theorem dL_add_19 : decode cL_add 19 = .ok (.iconst 2, 1) := by decide +kernel
theorem dL_add_20 : decode cL_add 20 = .ok (.ireturn, 1) := by decide +kernel
theorem dL_add_21 : decode cL_add 21 = .ok (.iconst 0, 1) := by decide +kernel
theorem dL_add_22 : decode cL_add 22 = .ok (.ireturn, 1) := by decide +kernel
theorem dL_takeAway_0 : decode cL_takeAway 0 = .ok (.aload_n 3, 1) := by decide +kernel
theorem dL_takeAway_1 : decode cL_takeAway 1 = .ok (.iconst 0, 1) := by decide +kernel
theorem dL_takeAway_2 : decode cL_takeAway 2 = .ok (.aload_n 0, 1) := by decide +kernel
theorem dL_takeAway_3 : decode cL_takeAway 3 = .ok (.iload_n 1, 1) := by decide +kernel
theorem dL_takeAway_4 : decode cL_takeAway 4 = .ok (.iload_n 2, 1) := by decide +kernel
theorem dL_takeAway_5 : decode cL_takeAway 5 = .ok (.invokevirtual 23, 3) := by decide +kernel
theorem dL_takeAway_8 : decode cL_takeAway 8 = .ok (.i2l, 1) := by decide +kernel
theorem dL_takeAway_9 : decode cL_takeAway 9 = .ok (.lastore, 1) := by decide +kernel
theorem dL_takeAway_10 : decode cL_takeAway 10 = .ok (.goto 11, 3) := by decide +kernel
theorem dL_takeAway_13 : decode cL_takeAway 13 = .ok (.astore 4, 2) := by decide +kernel
theorem dL_takeAway_15 : decode cL_takeAway 15 = .ok (.iconst 1, 1) := by decide +kernel
theorem dL_takeAway_16 : decode cL_takeAway 16 = .ok (.ireturn, 1) := by decide +kernel
theorem dL_takeAway_17 : decode cL_takeAway 17 = .ok (.astore 4, 2) := by decide +kernel
theorem dL_takeAway_19 : decode cL_takeAway 19 = .ok (.iconst 2, 1) := by decide +kernel
theorem dL_takeAway_20 : decode cL_takeAway 20 = .ok (.ireturn, 1) := by decide +kernel
theorem dL_takeAway_21 : decode cL_takeAway 21 = .ok (.iconst 0, 1) := by decide +kernel
theorem dL_takeAway_22 : decode cL_takeAway 22 = .ok (.ireturn, 1) := by decide +kernel
theorem dL_multiply_0 : decode cL_multiply 0 = .ok (.aload_n 3, 1) := by decide +kernel
theorem dL_multiply_1 : decode cL_multiply 1 = .ok (.iconst 0, 1) := by decide +kernel
theorem dL_multiply_2 : decode cL_multiply 2 = .ok (.aload_n 0, 1) := by decide +kernel
theorem dL_multiply_3 : decode cL_multiply 3 = .ok (.iload_n 1, 1) := by decide +kernel
theorem dL_multiply_4 : decode cL_multiply 4 = .ok (.iload_n 2, 1) := by decide +kernel
theorem dL_multiply_5 : decode cL_multiply 5 = .ok (.invokevirtual 26, 3) := by decide +kernel
theorem dL_multiply_8 : decode cL_multiply 8 = .ok (.i2l, 1) := by decide +kernel
theorem dL_multiply_9 : decode cL_multiply 9 = .ok (.lastore, 1) := by decide +kernel
theorem dL_multiply_10 : decode cL_multiply 10 = .ok (.goto 11, 3) := by decide +kernel
theorem dL_multiply_13 : decode cL_multiply 13 = .ok (.astore 4, 2) := by decide +kernel
theorem dL_multiply_15 : decode cL_multiply 15 = .ok (.iconst 1, 1) := by decide +kernel
theorem dL_multiply_16 : decode cL_multiply 16 = .ok (.ireturn, 1) := by decide +kernel
theorem dL_multiply_17 : decode cL_multiply 17 = .ok (.astore 4, 2) := by decide +kernel
theorem dL_multiply_19 : decode cL_multiply 19 = .ok (.iconst 2, 1) := by decide +kernel
theorem dL_multiply_20 : decode cL_multiply 20 = .ok (.ireturn, 1) := by decide +kernel
theorem dL_multiply_21 : decode cL_multiply 21 = .ok (.iconst 0, 1) := by decide +kernel
theorem dL_multiply_22 : decode cL_multiply 22 = .ok (.ireturn, 1) := by decide +kernel
theorem dL_copyTo_0 : decode cL_copyTo 0 = .ok (.aload_n 3, 1) := by decide +kernel
theorem dL_copyTo_1 : decode cL_copyTo 1 = .ok (.iconst 0, 1) := by decide +kernel
theorem dL_copyTo_2 : decode cL_copyTo 2 = .ok (.aload_n 0, 1) := by decide +kernel
theorem dL_copyTo_3 : decode cL_copyTo 3 = .ok (.iload_n 1, 1) := by decide +kernel
theorem dL_copyTo_4 : decode cL_copyTo 4 = .ok (.iload_n 2, 1) := by decide +kernel
theorem dL_copyTo_5 : decode cL_copyTo 5 = .ok (.invokevirtual 29, 3) := by decide +kernel
theorem dL_copyTo_8 : decode cL_copyTo 8 = .ok (.ifCond .eq 7, 3) := by decide +kernel
theorem dL_copyTo_11 : decode cL_copyTo 11 = .ok (.lconst 1, 1) := by decide +kernel
theorem dL_copyTo_12 : decode cL_copyTo 12 = .ok (.goto 4, 3) := by decide +kernel
theorem dL_copyTo_15 : decode cL_copyTo 15 = .ok (.lconst 0, 1) := by decide +kernel
theorem dL_copyTo_16 : decode cL_copyTo 16 = .ok (.lastore, 1) := by decide +kernel
theorem dL_copyTo_17 : decode cL_copyTo 17 = .ok (.goto 7, 3) := by decide +kernel
theorem dL_copyTo_20 : decode cL_copyTo 20 = .ok (.astore 4, 2) := by decide +kernel
theorem dL_copyTo_22 : decode cL_copyTo 22 = .ok (.iconst 1, 1) := by decide +kernel
theorem dL_copyTo_23 : decode cL_copyTo 23 = .ok (.ireturn, 1) := by decide +kernel
theorem dL_copyTo_24 : decode cL_copyTo 24 = .ok (.iconst 0, 1) := by decide +kernel
theorem dL_copyTo_25 : decode cL_copyTo 25 = .ok (.ireturn, 1) := by decide +kernel
theorem dL_invert_0 : decode cL_invert 0 = .ok (.aload_n 2, 1) := by decide +kernel
theorem dL_invert_1 : decode cL_invert 1 = .ok (.iconst 0, 1) := by decide +kernel
theorem dL_invert_2 : decode cL_invert 2 = .ok (.aload_n 0, 1) := by decide +kernel
theorem dL_invert_3 : decode cL_invert 3 = .ok (.iload_n 1, 1) := by decide +kernel
theorem dL_invert_4 : decode cL_invert 4 = .ok (.invokevirtual 33, 3) := by decide +kernel
theorem dL_invert_7 : decode cL_invert 7 = .ok (.i2l, 1) := by decide +kernel
theorem dL_invert_8 : decode cL_invert 8 = .ok (.lastore, 1) := by decide +kernel
theorem dL_invert_9 : decode cL_invert 9 = .ok (.goto 9, 3) := by decide +kernel
theorem dL_invert_12 : decode cL_invert 12 = .ok (.astore_n 3, 1) := by decide +kernel
theorem dL_invert_13 : decode cL_invert 13 = .ok (.iconst 1, 1) := by decide +kernel
theorem dL_invert_14 : decode cL_invert 14 = .ok (.ireturn, 1) := by decide +kernel
theorem dL_invert_15 : decode cL_invert 15 = .ok (.astore_n 3, 1) := by decide +kernel
theorem dL_invert_16 : decode cL_invert 16 = .ok (.iconst 2, 1) := by decide +kernel
theorem dL_invert_17 : decode cL_invert 17 = .ok (.ireturn, 1) := by decide +kernel
theorem dL_invert_18 : decode cL_invert 18 = .ok (.iconst 0, 1) := by decide +kernel
theorem dL_invert_19 : decode cL_invert 19 = .ok (.ireturn, 1) := by decide +kernel
theorem dL_share_0 : decode cL_share 0 = .ok (.aload_n 3, 1) := by decide +kernel
theorem dL_share_1 : decode cL_share 1 = .ok (.iconst 0, 1) := by decide +kernel
theorem dL_share_2 : decode cL_share 2 = .ok (.aload_n 0, 1) := by decide +kernel
theorem dL_share_3 : decode cL_share 3 = .ok (.iload_n 1, 1) := by decide +kernel
theorem dL_share_4 : decode cL_share 4 = .ok (.iload_n 2, 1) := by decide +kernel
theorem dL_share_5 : decode cL_share 5 = .ok (.invokevirtual 37, 3) := by decide +kernel
theorem dL_share_8 : decode cL_share 8 = .ok (.i2l, 1) := by decide +kernel
theorem dL_share_9 : decode cL_share 9 = .ok (.lastore, 1) := by decide +kernel
theorem dL_share_10 : decode cL_share 10 = .ok (.goto 15, 3) := by decide +kernel
theorem dL_share_13 : decode cL_share 13 = .ok (.astore 4, 2) := by decide +kernel
theorem dL_share_15 : decode cL_share 15 = .ok (.iconst 1, 1) := by decide +kernel
theorem dL_share_16 : decode cL_share 16 = .ok (.ireturn, 1) := by decide +kernel
theorem dL_share_17 : decode cL_share 17 = .ok (.astore 4, 2) := by decide +kernel
theorem dL_share_19 : decode cL_share 19 = .ok (.iconst 2, 1) := by decide +kernel
theorem dL_share_20 : decode cL_share 20 = .ok (.ireturn, 1) := by decide +kernel
theorem dL_share_21 : decode cL_share 21 = .ok (.astore 4, 2) := by decide +kernel
theorem dL_share_23 : decode cL_share 23 = .ok (.iconst 3, 1) := by decide +kernel
theorem dL_share_24 : decode cL_share 24 = .ok (.ireturn, 1) := by decide +kernel
theorem dL_share_25 : decode cL_share 25 = .ok (.iconst 0, 1) := by decide +kernel
theorem dL_share_26 : decode cL_share 26 = .ok (.ireturn, 1) := by decide +kernel
theorem dL_roundTo_0 : decode cL_roundTo 0 = .ok (.aload_n 3, 1) := by decide +kernel
theorem dL_roundTo_1 : decode cL_roundTo 1 = .ok (.iconst 0, 1) := by decide +kernel
theorem dL_roundTo_2 : decode cL_roundTo 2 = .ok (.aload_n 0, 1) := by decide +kernel
theorem dL_roundTo_3 : decode cL_roundTo 3 = .ok (.iload_n 1, 1) := by decide +kernel
theorem dL_roundTo_4 : decode cL_roundTo 4 = .ok (.iload_n 2, 1) := by decide +kernel
theorem dL_roundTo_5 : decode cL_roundTo 5 = .ok (.invokevirtual 40, 3) := by decide +kernel
theorem dL_roundTo_8 : decode cL_roundTo 8 = .ok (.i2l, 1) := by decide +kernel
theorem dL_roundTo_9 : decode cL_roundTo 9 = .ok (.lastore, 1) := by decide +kernel
theorem dL_roundTo_10 : decode cL_roundTo 10 = .ok (.goto 11, 3) := by decide +kernel
theorem dL_roundTo_13 : decode cL_roundTo 13 = .ok (.astore 4, 2) := by decide +kernel
theorem dL_roundTo_15 : decode cL_roundTo 15 = .ok (.iconst 1, 1) := by decide +kernel
theorem dL_roundTo_16 : decode cL_roundTo 16 = .ok (.ireturn, 1) := by decide +kernel
theorem dL_roundTo_17 : decode cL_roundTo 17 = .ok (.astore 4, 2) := by decide +kernel
theorem dL_roundTo_19 : decode cL_roundTo 19 = .ok (.iconst 2, 1) := by decide +kernel
theorem dL_roundTo_20 : decode cL_roundTo 20 = .ok (.ireturn, 1) := by decide +kernel
theorem dL_roundTo_21 : decode cL_roundTo 21 = .ok (.iconst 0, 1) := by decide +kernel
theorem dL_roundTo_22 : decode cL_roundTo 22 = .ok (.ireturn, 1) := by decide +kernel
theorem dL_numeratorOf_0 : decode cL_numeratorOf 0 = .ok (.aload_n 2, 1) := by decide +kernel
theorem dL_numeratorOf_1 : decode cL_numeratorOf 1 = .ok (.iconst 0, 1) := by decide +kernel
theorem dL_numeratorOf_2 : decode cL_numeratorOf 2 = .ok (.aload_n 0, 1) := by decide +kernel
theorem dL_numeratorOf_3 : decode cL_numeratorOf 3 = .ok (.iload_n 1, 1) := by decide +kernel
theorem dL_numeratorOf_4 : decode cL_numeratorOf 4 = .ok (.invokevirtual 43, 3) := by decide +kernel
theorem dL_numeratorOf_7 : decode cL_numeratorOf 7 = .ok (.i2l, 1) := by decide +kernel
theorem dL_numeratorOf_8 : decode cL_numeratorOf 8 = .ok (.lastore, 1) := by decide +kernel
theorem dL_numeratorOf_9 : decode cL_numeratorOf 9 = .ok (.goto 6, 3) := by decide +kernel
theorem dL_numeratorOf_12 : decode cL_numeratorOf 12 = .ok (.astore_n 3, 1) := by decide +kernel
theorem dL_numeratorOf_13 : decode cL_numeratorOf 13 = .ok (.iconst 1, 1) := by decide +kernel
theorem dL_numeratorOf_14 : decode cL_numeratorOf 14 = .ok (.ireturn, 1) := by decide +kernel
theorem dL_numeratorOf_15 : decode cL_numeratorOf 15 = .ok (.iconst 0, 1) := by decide +kernel
theorem dL_numeratorOf_16 : decode cL_numeratorOf 16 = .ok (.ireturn, 1) := by decide +kernel
theorem dL_denominatorOf_0 : decode cL_denominatorOf 0 = .ok (.aload_n 2, 1) := by decide +kernel
theorem dL_denominatorOf_1 : decode cL_denominatorOf 1 = .ok (.iconst 0, 1) := by decide +kernel
theorem dL_denominatorOf_2 : decode cL_denominatorOf 2 = .ok (.aload_n 0, 1) := by decide +kernel
theorem dL_denominatorOf_3 : decode cL_denominatorOf 3 = .ok (.iload_n 1, 1) := by decide +kernel
theorem dL_denominatorOf_4 : decode cL_denominatorOf 4 = .ok (.invokevirtual 46, 3) := by decide +kernel
theorem dL_denominatorOf_7 : decode cL_denominatorOf 7 = .ok (.i2l, 1) := by decide +kernel
theorem dL_denominatorOf_8 : decode cL_denominatorOf 8 = .ok (.lastore, 1) := by decide +kernel
theorem dL_denominatorOf_9 : decode cL_denominatorOf 9 = .ok (.goto 6, 3) := by decide +kernel
theorem dL_denominatorOf_12 : decode cL_denominatorOf 12 = .ok (.astore_n 3, 1) := by decide +kernel
theorem dL_denominatorOf_13 : decode cL_denominatorOf 13 = .ok (.iconst 1, 1) := by decide +kernel
theorem dL_denominatorOf_14 : decode cL_denominatorOf 14 = .ok (.ireturn, 1) := by decide +kernel
theorem dL_denominatorOf_15 : decode cL_denominatorOf 15 = .ok (.iconst 0, 1) := by decide +kernel
theorem dL_denominatorOf_16 : decode cL_denominatorOf 16 = .ok (.ireturn, 1) := by decide +kernel
theorem dL_compare_0 : decode cL_compare 0 = .ok (.aload_n 3, 1) := by decide +kernel
theorem dL_compare_1 : decode cL_compare 1 = .ok (.iconst 0, 1) := by decide +kernel
theorem dL_compare_2 : decode cL_compare 2 = .ok (.aload_n 0, 1) := by decide +kernel
theorem dL_compare_3 : decode cL_compare 3 = .ok (.iload_n 1, 1) := by decide +kernel
theorem dL_compare_4 : decode cL_compare 4 = .ok (.iload_n 2, 1) := by decide +kernel
theorem dL_compare_5 : decode cL_compare 5 = .ok (.invokevirtual 49, 3) := by decide +kernel
theorem dL_compare_8 : decode cL_compare 8 = .ok (.i2l, 1) := by decide +kernel
theorem dL_compare_9 : decode cL_compare 9 = .ok (.lastore, 1) := by decide +kernel
theorem dL_compare_10 : decode cL_compare 10 = .ok (.goto 7, 3) := by decide +kernel
theorem dL_compare_13 : decode cL_compare 13 = .ok (.astore 4, 2) := by decide +kernel
theorem dL_compare_15 : decode cL_compare 15 = .ok (.iconst 1, 1) := by decide +kernel
theorem dL_compare_16 : decode cL_compare 16 = .ok (.ireturn, 1) := by decide +kernel
theorem dL_compare_17 : decode cL_compare 17 = .ok (.iconst 0, 1) := by decide +kernel
theorem dL_compare_18 : decode cL_compare 18 = .ok (.ireturn, 1) := by decide +kernel
theorem dL_plateByAmount_0 : decode cL_plateByAmount 0 = .ok (.aload_n 2, 1) := by decide +kernel
theorem dL_plateByAmount_1 : decode cL_plateByAmount 1 = .ok (.iconst 0, 1) := by decide +kernel
theorem dL_plateByAmount_2 : decode cL_plateByAmount 2 = .ok (.aload_n 0, 1) := by decide +kernel
theorem dL_plateByAmount_3 : decode cL_plateByAmount 3 = .ok (.iload_n 1, 1) := by decide +kernel
theorem dL_plateByAmount_4 : decode cL_plateByAmount 4 = .ok (.invokevirtual 52, 3) := by decide +kernel
theorem dL_plateByAmount_7 : decode cL_plateByAmount 7 = .ok (.i2l, 1) := by decide +kernel
theorem dL_plateByAmount_8 : decode cL_plateByAmount 8 = .ok (.lastore, 1) := by decide +kernel
theorem dL_plateByAmount_9 : decode cL_plateByAmount 9 = .ok (.goto 6, 3) := by decide +kernel
theorem dL_plateByAmount_12 : decode cL_plateByAmount 12 = .ok (.astore_n 3, 1) := by decide +kernel
theorem dL_plateByAmount_13 : decode cL_plateByAmount 13 = .ok (.iconst 1, 1) := by decide +kernel
theorem dL_plateByAmount_14 : decode cL_plateByAmount 14 = .ok (.ireturn, 1) := by decide +kernel
theorem dL_plateByAmount_15 : decode cL_plateByAmount 15 = .ok (.iconst 0, 1) := by decide +kernel
theorem dL_plateByAmount_16 : decode cL_plateByAmount 16 = .ok (.ireturn, 1) := by decide +kernel
theorem dL_termCount_0 : decode cL_termCount 0 = .ok (.aload_n 2, 1) := by decide +kernel
theorem dL_termCount_1 : decode cL_termCount 1 = .ok (.iconst 0, 1) := by decide +kernel
theorem dL_termCount_2 : decode cL_termCount 2 = .ok (.aload_n 0, 1) := by decide +kernel
theorem dL_termCount_3 : decode cL_termCount 3 = .ok (.iload_n 1, 1) := by decide +kernel
theorem dL_termCount_4 : decode cL_termCount 4 = .ok (.invokevirtual 55, 3) := by decide +kernel
theorem dL_termCount_7 : decode cL_termCount 7 = .ok (.i2l, 1) := by decide +kernel
theorem dL_termCount_8 : decode cL_termCount 8 = .ok (.lastore, 1) := by decide +kernel
theorem dL_termCount_9 : decode cL_termCount 9 = .ok (.goto 6, 3) := by decide +kernel
theorem dL_termCount_12 : decode cL_termCount 12 = .ok (.astore_n 3, 1) := by decide +kernel
theorem dL_termCount_13 : decode cL_termCount 13 = .ok (.iconst 1, 1) := by decide +kernel
theorem dL_termCount_14 : decode cL_termCount 14 = .ok (.ireturn, 1) := by decide +kernel
theorem dL_termCount_15 : decode cL_termCount 15 = .ok (.iconst 0, 1) := by decide +kernel
theorem dL_termCount_16 : decode cL_termCount 16 = .ok (.ireturn, 1) := by decide +kernel
theorem dL_termAt_0 : decode cL_termAt 0 = .ok (.aload_n 3, 1) := by decide +kernel
theorem dL_termAt_1 : decode cL_termAt 1 = .ok (.iconst 0, 1) := by decide +kernel
theorem dL_termAt_2 : decode cL_termAt 2 = .ok (.aload_n 0, 1) := by decide +kernel
theorem dL_termAt_3 : decode cL_termAt 3 = .ok (.iload_n 1, 1) := by decide +kernel
theorem dL_termAt_4 : decode cL_termAt 4 = .ok (.iload_n 2, 1) := by decide +kernel
theorem dL_termAt_5 : decode cL_termAt 5 = .ok (.invokevirtual 58, 3) := by decide +kernel
theorem dL_termAt_8 : decode cL_termAt 8 = .ok (.i2l, 1) := by decide +kernel
theorem dL_termAt_9 : decode cL_termAt 9 = .ok (.lastore, 1) := by decide +kernel
theorem dL_termAt_10 : decode cL_termAt 10 = .ok (.goto 7, 3) := by decide +kernel
theorem dL_termAt_13 : decode cL_termAt 13 = .ok (.astore 4, 2) := by decide +kernel
theorem dL_termAt_15 : decode cL_termAt 15 = .ok (.iconst 1, 1) := by decide +kernel
theorem dL_termAt_16 : decode cL_termAt 16 = .ok (.ireturn, 1) := by decide +kernel
theorem dL_termAt_17 : decode cL_termAt 17 = .ok (.iconst 0, 1) := by decide +kernel
theorem dL_termAt_18 : decode cL_termAt 18 = .ok (.ireturn, 1) := by decide +kernel
theorem dL_beginningNumerator_0 : decode cL_beginningNumerator 0 = .ok (.aload_n 3, 1) := by decide +kernel
theorem dL_beginningNumerator_1 : decode cL_beginningNumerator 1 = .ok (.iconst 0, 1) := by decide +kernel
theorem dL_beginningNumerator_2 : decode cL_beginningNumerator 2 = .ok (.aload_n 0, 1) := by decide +kernel
theorem dL_beginningNumerator_3 : decode cL_beginningNumerator 3 = .ok (.iload_n 1, 1) := by decide +kernel
theorem dL_beginningNumerator_4 : decode cL_beginningNumerator 4 = .ok (.iload_n 2, 1) := by decide +kernel
theorem dL_beginningNumerator_5 : decode cL_beginningNumerator 5 = .ok (.invokevirtual 61, 3) := by decide +kernel
theorem dL_beginningNumerator_8 : decode cL_beginningNumerator 8 = .ok (.i2l, 1) := by decide +kernel
theorem dL_beginningNumerator_9 : decode cL_beginningNumerator 9 = .ok (.lastore, 1) := by decide +kernel
theorem dL_beginningNumerator_10 : decode cL_beginningNumerator 10 = .ok (.goto 7, 3) := by decide +kernel
theorem dL_beginningNumerator_13 : decode cL_beginningNumerator 13 = .ok (.astore 4, 2) := by decide +kernel
theorem dL_beginningNumerator_15 : decode cL_beginningNumerator 15 = .ok (.iconst 1, 1) := by decide +kernel
theorem dL_beginningNumerator_16 : decode cL_beginningNumerator 16 = .ok (.ireturn, 1) := by decide +kernel
theorem dL_beginningNumerator_17 : decode cL_beginningNumerator 17 = .ok (.iconst 0, 1) := by decide +kernel
theorem dL_beginningNumerator_18 : decode cL_beginningNumerator 18 = .ok (.ireturn, 1) := by decide +kernel
theorem dL_beginningDenominator_0 : decode cL_beginningDenominator 0 = .ok (.aload_n 3, 1) := by decide +kernel
theorem dL_beginningDenominator_1 : decode cL_beginningDenominator 1 = .ok (.iconst 0, 1) := by decide +kernel
theorem dL_beginningDenominator_2 : decode cL_beginningDenominator 2 = .ok (.aload_n 0, 1) := by decide +kernel
theorem dL_beginningDenominator_3 : decode cL_beginningDenominator 3 = .ok (.iload_n 1, 1) := by decide +kernel
theorem dL_beginningDenominator_4 : decode cL_beginningDenominator 4 = .ok (.iload_n 2, 1) := by decide +kernel
theorem dL_beginningDenominator_5 : decode cL_beginningDenominator 5 = .ok (.invokevirtual 64, 3) := by decide +kernel
theorem dL_beginningDenominator_8 : decode cL_beginningDenominator 8 = .ok (.i2l, 1) := by decide +kernel
theorem dL_beginningDenominator_9 : decode cL_beginningDenominator 9 = .ok (.lastore, 1) := by decide +kernel
theorem dL_beginningDenominator_10 : decode cL_beginningDenominator 10 = .ok (.goto 7, 3) := by decide +kernel
theorem dL_beginningDenominator_13 : decode cL_beginningDenominator 13 = .ok (.astore 4, 2) := by decide +kernel
theorem dL_beginningDenominator_15 : decode cL_beginningDenominator 15 = .ok (.iconst 1, 1) := by decide +kernel
theorem dL_beginningDenominator_16 : decode cL_beginningDenominator 16 = .ok (.ireturn, 1) := by decide +kernel
theorem dL_beginningDenominator_17 : decode cL_beginningDenominator 17 = .ok (.iconst 0, 1) := by decide +kernel
theorem dL_beginningDenominator_18 : decode cL_beginningDenominator 18 = .ok (.ireturn, 1) := by decide +kernel
theorem dL_nearestDenominator_0 : decode cL_nearestDenominator 0 = .ok (.aload_n 3, 1) := by decide +kernel
theorem dL_nearestDenominator_1 : decode cL_nearestDenominator 1 = .ok (.iconst 0, 1) := by decide +kernel
theorem dL_nearestDenominator_2 : decode cL_nearestDenominator 2 = .ok (.aload_n 0, 1) := by decide +kernel
theorem dL_nearestDenominator_3 : decode cL_nearestDenominator 3 = .ok (.iload_n 1, 1) := by decide +kernel
theorem dL_nearestDenominator_4 : decode cL_nearestDenominator 4 = .ok (.iload_n 2, 1) := by decide +kernel
theorem dL_nearestDenominator_5 : decode cL_nearestDenominator 5 = .ok (.invokevirtual 67, 3) := by decide +kernel
theorem dL_nearestDenominator_8 : decode cL_nearestDenominator 8 = .ok (.i2l, 1) := by decide +kernel
theorem dL_nearestDenominator_9 : decode cL_nearestDenominator 9 = .ok (.lastore, 1) := by decide +kernel
theorem dL_nearestDenominator_10 : decode cL_nearestDenominator 10 = .ok (.goto 11, 3) := by decide +kernel
theorem dL_nearestDenominator_13 : decode cL_nearestDenominator 13 = .ok (.astore 4, 2) := by decide +kernel
theorem dL_nearestDenominator_15 : decode cL_nearestDenominator 15 = .ok (.iconst 1, 1) := by decide +kernel
theorem dL_nearestDenominator_16 : decode cL_nearestDenominator 16 = .ok (.ireturn, 1) := by decide +kernel
theorem dL_nearestDenominator_17 : decode cL_nearestDenominator 17 = .ok (.astore 4, 2) := by decide +kernel
theorem dL_nearestDenominator_19 : decode cL_nearestDenominator 19 = .ok (.iconst 2, 1) := by decide +kernel
theorem dL_nearestDenominator_20 : decode cL_nearestDenominator 20 = .ok (.ireturn, 1) := by decide +kernel
theorem dL_nearestDenominator_21 : decode cL_nearestDenominator 21 = .ok (.iconst 0, 1) := by decide +kernel
theorem dL_nearestDenominator_22 : decode cL_nearestDenominator 22 = .ok (.ireturn, 1) := by decide +kernel
theorem dL_nearestByTrying_0 : decode cL_nearestByTrying 0 = .ok (.aload_n 3, 1) := by decide +kernel
theorem dL_nearestByTrying_1 : decode cL_nearestByTrying 1 = .ok (.iconst 0, 1) := by decide +kernel
theorem dL_nearestByTrying_2 : decode cL_nearestByTrying 2 = .ok (.aload_n 0, 1) := by decide +kernel
theorem dL_nearestByTrying_3 : decode cL_nearestByTrying 3 = .ok (.iload_n 1, 1) := by decide +kernel
theorem dL_nearestByTrying_4 : decode cL_nearestByTrying 4 = .ok (.iload_n 2, 1) := by decide +kernel
theorem dL_nearestByTrying_5 : decode cL_nearestByTrying 5 = .ok (.invokevirtual 70, 3) := by decide +kernel
theorem dL_nearestByTrying_8 : decode cL_nearestByTrying 8 = .ok (.i2l, 1) := by decide +kernel
theorem dL_nearestByTrying_9 : decode cL_nearestByTrying 9 = .ok (.lastore, 1) := by decide +kernel
theorem dL_nearestByTrying_10 : decode cL_nearestByTrying 10 = .ok (.goto 11, 3) := by decide +kernel
theorem dL_nearestByTrying_13 : decode cL_nearestByTrying 13 = .ok (.astore 4, 2) := by decide +kernel
theorem dL_nearestByTrying_15 : decode cL_nearestByTrying 15 = .ok (.iconst 1, 1) := by decide +kernel
theorem dL_nearestByTrying_16 : decode cL_nearestByTrying 16 = .ok (.ireturn, 1) := by decide +kernel
theorem dL_nearestByTrying_17 : decode cL_nearestByTrying 17 = .ok (.astore 4, 2) := by decide +kernel
theorem dL_nearestByTrying_19 : decode cL_nearestByTrying 19 = .ok (.iconst 2, 1) := by decide +kernel
theorem dL_nearestByTrying_20 : decode cL_nearestByTrying 20 = .ok (.ireturn, 1) := by decide +kernel
theorem dL_nearestByTrying_21 : decode cL_nearestByTrying 21 = .ok (.iconst 0, 1) := by decide +kernel
theorem dL_nearestByTrying_22 : decode cL_nearestByTrying 22 = .ok (.ireturn, 1) := by decide +kernel
theorem dL_nearestNumerator_0 : decode cL_nearestNumerator 0 = .ok (.aload_n 3, 1) := by decide +kernel
theorem dL_nearestNumerator_1 : decode cL_nearestNumerator 1 = .ok (.iconst 0, 1) := by decide +kernel
theorem dL_nearestNumerator_2 : decode cL_nearestNumerator 2 = .ok (.aload_n 0, 1) := by decide +kernel
theorem dL_nearestNumerator_3 : decode cL_nearestNumerator 3 = .ok (.iload_n 1, 1) := by decide +kernel
theorem dL_nearestNumerator_4 : decode cL_nearestNumerator 4 = .ok (.iload_n 2, 1) := by decide +kernel
theorem dL_nearestNumerator_5 : decode cL_nearestNumerator 5 = .ok (.invokevirtual 73, 3) := by decide +kernel
theorem dL_nearestNumerator_8 : decode cL_nearestNumerator 8 = .ok (.i2l, 1) := by decide +kernel
theorem dL_nearestNumerator_9 : decode cL_nearestNumerator 9 = .ok (.lastore, 1) := by decide +kernel
theorem dL_nearestNumerator_10 : decode cL_nearestNumerator 10 = .ok (.goto 11, 3) := by decide +kernel
theorem dL_nearestNumerator_13 : decode cL_nearestNumerator 13 = .ok (.astore 4, 2) := by decide +kernel
theorem dL_nearestNumerator_15 : decode cL_nearestNumerator 15 = .ok (.iconst 1, 1) := by decide +kernel
theorem dL_nearestNumerator_16 : decode cL_nearestNumerator 16 = .ok (.ireturn, 1) := by decide +kernel
theorem dL_nearestNumerator_17 : decode cL_nearestNumerator 17 = .ok (.astore 4, 2) := by decide +kernel
theorem dL_nearestNumerator_19 : decode cL_nearestNumerator 19 = .ok (.iconst 2, 1) := by decide +kernel
theorem dL_nearestNumerator_20 : decode cL_nearestNumerator 20 = .ok (.ireturn, 1) := by decide +kernel
theorem dL_nearestNumerator_21 : decode cL_nearestNumerator 21 = .ok (.iconst 0, 1) := by decide +kernel
theorem dL_nearestNumerator_22 : decode cL_nearestNumerator 22 = .ok (.ireturn, 1) := by decide +kernel
theorem dL_unitCount_0 : decode cL_unitCount 0 = .ok (.aload_n 2, 1) := by decide +kernel
theorem dL_unitCount_1 : decode cL_unitCount 1 = .ok (.iconst 0, 1) := by decide +kernel
theorem dL_unitCount_2 : decode cL_unitCount 2 = .ok (.aload_n 0, 1) := by decide +kernel
theorem dL_unitCount_3 : decode cL_unitCount 3 = .ok (.iload_n 1, 1) := by decide +kernel
theorem dL_unitCount_4 : decode cL_unitCount 4 = .ok (.invokevirtual 76, 3) := by decide +kernel
theorem dL_unitCount_7 : decode cL_unitCount 7 = .ok (.i2l, 1) := by decide +kernel
theorem dL_unitCount_8 : decode cL_unitCount 8 = .ok (.lastore, 1) := by decide +kernel
theorem dL_unitCount_9 : decode cL_unitCount 9 = .ok (.goto 9, 3) := by decide +kernel
theorem dL_unitCount_12 : decode cL_unitCount 12 = .ok (.astore_n 3, 1) := by decide +kernel
theorem dL_unitCount_13 : decode cL_unitCount 13 = .ok (.iconst 1, 1) := by decide +kernel
theorem dL_unitCount_14 : decode cL_unitCount 14 = .ok (.ireturn, 1) := by decide +kernel
theorem dL_unitCount_15 : decode cL_unitCount 15 = .ok (.astore_n 3, 1) := by decide +kernel
theorem dL_unitCount_16 : decode cL_unitCount 16 = .ok (.iconst 2, 1) := by decide +kernel
theorem dL_unitCount_17 : decode cL_unitCount 17 = .ok (.ireturn, 1) := by decide +kernel
theorem dL_unitCount_18 : decode cL_unitCount 18 = .ok (.iconst 0, 1) := by decide +kernel
theorem dL_unitCount_19 : decode cL_unitCount 19 = .ok (.ireturn, 1) := by decide +kernel
theorem dL_unitAt_0 : decode cL_unitAt 0 = .ok (.aload_n 3, 1) := by decide +kernel
theorem dL_unitAt_1 : decode cL_unitAt 1 = .ok (.iconst 0, 1) := by decide +kernel
theorem dL_unitAt_2 : decode cL_unitAt 2 = .ok (.aload_n 0, 1) := by decide +kernel
theorem dL_unitAt_3 : decode cL_unitAt 3 = .ok (.iload_n 1, 1) := by decide +kernel
theorem dL_unitAt_4 : decode cL_unitAt 4 = .ok (.iload_n 2, 1) := by decide +kernel
theorem dL_unitAt_5 : decode cL_unitAt 5 = .ok (.invokevirtual 79, 3) := by decide +kernel
theorem dL_unitAt_8 : decode cL_unitAt 8 = .ok (.i2l, 1) := by decide +kernel
theorem dL_unitAt_9 : decode cL_unitAt 9 = .ok (.lastore, 1) := by decide +kernel
theorem dL_unitAt_10 : decode cL_unitAt 10 = .ok (.goto 11, 3) := by decide +kernel
theorem dL_unitAt_13 : decode cL_unitAt 13 = .ok (.astore 4, 2) := by decide +kernel
theorem dL_unitAt_15 : decode cL_unitAt 15 = .ok (.iconst 1, 1) := by decide +kernel
theorem dL_unitAt_16 : decode cL_unitAt 16 = .ok (.ireturn, 1) := by decide +kernel
theorem dL_unitAt_17 : decode cL_unitAt 17 = .ok (.astore 4, 2) := by decide +kernel
theorem dL_unitAt_19 : decode cL_unitAt 19 = .ok (.iconst 2, 1) := by decide +kernel
