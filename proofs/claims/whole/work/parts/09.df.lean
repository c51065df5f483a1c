theorem dL_openCase_0 : decode cL_openCase 0 = .ok (.aload_n 1, 1) := by decide +kernel
theorem dL_openCase_1 : decode cL_openCase 1 = .ok (.iconst 0, 1) := by decide +kernel
theorem dL_openCase_2 : decode cL_openCase 2 = .ok (.aload_n 0, 1) := by decide +kernel
theorem dL_openCase_3 : decode cL_openCase 3 = .ok (.invokevirtual 7, 3) := by decide +kernel
theorem dL_openCase_6 : decode cL_openCase 6 = .ok (.i2l, 1) := by decide +kernel
theorem dL_openCase_7 : decode cL_openCase 7 = .ok (.lastore, 1) := by decide +kernel
theorem dL_openCase_8 : decode cL_openCase 8 = .ok (.goto 6, 3) := by decide +kernel
theorem dL_openCase_11 : decode cL_openCase 11 = .ok (.astore_n 2, 1) := by decide +kernel
theorem dL_openCase_12 : decode cL_openCase 12 = .ok (.iconst 1, 1) := by decide +kernel
theorem dL_openCase_13 : decode cL_openCase 13 = .ok (.ireturn, 1) := by decide +kernel
theorem dL_openCase_14 : decode cL_openCase 14 = .ok (.iconst 0, 1) := by decide +kernel
theorem dL_openCase_15 : decode cL_openCase 15 = .ok (.ireturn, 1) := by decide +kernel
theorem dL_cross_0 : decode cL_cross 0 = .ok (.aload_n 3, 1) := by decide +kernel
theorem dL_cross_1 : decode cL_cross 1 = .ok (.iconst 0, 1) := by decide +kernel
theorem dL_cross_2 : decode cL_cross 2 = .ok (.aload_n 0, 1) := by decide +kernel
theorem dL_cross_3 : decode cL_cross 3 = .ok (.iload_n 1, 1) := by decide +kernel
theorem dL_cross_4 : decode cL_cross 4 = .ok (.iload_n 2, 1) := by decide +kernel
theorem dL_cross_5 : decode cL_cross 5 = .ok (.invokevirtual 15, 3) := by decide +kernel
theorem dL_cross_8 : decode cL_cross 8 = .ok (.i2l, 1) := by decide +kernel
theorem dL_cross_9 : decode cL_cross 9 = .ok (.lastore, 1) := by decide +kernel
theorem dL_cross_10 : decode cL_cross 10 = .ok (.goto 15, 3) := by decide +kernel
theorem dL_cross_13 : decode cL_cross 13 = .ok (.astore 4, 2) := by decide +kernel
theorem dL_cross_15 : decode cL_cross 15 = .ok (.iconst 1, 1) := by decide +kernel
theorem dL_cross_16 : decode cL_cross 16 = .ok (.ireturn, 1) := by decide +kernel
theorem dL_cross_17 : decode cL_cross 17 = .ok (.astore 4, 2) := by decide +kernel
theorem dL_cross_19 : decode cL_cross 19 = .ok (.iconst 2, 1) := by decide +kernel
theorem dL_cross_20 : decode cL_cross 20 = .ok (.ireturn, 1) := by decide +kernel
theorem dL_cross_21 : decode cL_cross 21 = .ok (.astore 4, 2) := by decide +kernel
theorem dL_cross_23 : decode cL_cross 23 = .ok (.iconst 3, 1) := by decide +kernel
theorem dL_cross_24 : decode cL_cross 24 = .ok (.ireturn, 1) := by decide +kernel
theorem dL_cross_25 : decode cL_cross 25 = .ok (.iconst 0, 1) := by decide +kernel
theorem dL_cross_26 : decode cL_cross 26 = .ok (.ireturn, 1) := by decide +kernel
theorem dL_cutLast_0 : decode cL_cutLast 0 = .ok (.aload_n 2, 1) := by decide +kernel
theorem dL_cutLast_1 : decode cL_cutLast 1 = .ok (.iconst 0, 1) := by decide +kernel
theorem dL_cutLast_2 : decode cL_cutLast 2 = .ok (.aload_n 0, 1) := by decide +kernel
theorem dL_cutLast_3 : decode cL_cutLast 3 = .ok (.iload_n 1, 1) := by decide +kernel
theorem dL_cutLast_4 : decode cL_cutLast 4 = .ok (.invokevirtual 23, 3) := by decide +kernel
theorem dL_cutLast_7 : decode cL_cutLast 7 = .ok (.i2l, 1) := by decide +kernel
theorem dL_cutLast_8 : decode cL_cutLast 8 = .ok (.lastore, 1) := by decide +kernel
theorem dL_cutLast_9 : decode cL_cutLast 9 = .ok (.goto 9, 3) := by decide +kernel
theorem dL_cutLast_12 : decode cL_cutLast 12 = .ok (.astore_n 3, 1) := by decide +kernel
theorem dL_cutLast_13 : decode cL_cutLast 13 = .ok (.iconst 1, 1) := by decide +kernel
theorem dL_cutLast_14 : decode cL_cutLast 14 = .ok (.ireturn, 1) := by decide +kernel
theorem dL_cutLast_15 : decode cL_cutLast 15 = .ok (.astore_n 3, 1) := by decide +kernel
theorem dL_cutLast_16 : decode cL_cutLast 16 = .ok (.iconst 2, 1) := by decide +kernel
theorem dL_cutLast_17 : decode cL_cutLast 17 = .ok (.ireturn, 1) := by decide +kernel
theorem dL_cutLast_18 : decode cL_cutLast 18 = .ok (.iconst 0, 1) := by decide +kernel
theorem dL_cutLast_19 : decode cL_cutLast 19 = .ok (.ireturn, 1) := by decide +kernel
theorem dL_cancel_0 : decode cL_cancel 0 = .ok (.aload_n 2, 1) := by decide +kernel
theorem dL_cancel_1 : decode cL_cancel 1 = .ok (.iconst 0, 1) := by decide +kernel
theorem dL_cancel_2 : decode cL_cancel 2 = .ok (.aload_n 0, 1) := by decide +kernel
theorem dL_cancel_3 : decode cL_cancel 3 = .ok (.iload_n 1, 1) := by decide +kernel
theorem dL_cancel_4 : decode cL_cancel 4 = .ok (.invokevirtual 27, 3) := by decide +kernel
theorem dL_cancel_7 : decode cL_cancel 7 = .ok (.i2l, 1) := by decide +kernel
theorem dL_cancel_8 : decode cL_cancel 8 = .ok (.lastore, 1) := by decide +kernel
theorem dL_cancel_9 : decode cL_cancel 9 = .ok (.goto 9, 3) := by decide +kernel
theorem dL_cancel_12 : decode cL_cancel 12 = .ok (.astore_n 3, 1) := by decide +kernel
theorem dL_cancel_13 : decode cL_cancel 13 = .ok (.iconst 1, 1) := by decide +kernel
theorem dL_cancel_14 : decode cL_cancel 14 = .ok (.ireturn, 1) := by decide +kernel
theorem dL_cancel_15 : decode cL_cancel 15 = .ok (.astore_n 3, 1) := by decide +kernel
theorem dL_cancel_16 : decode cL_cancel 16 = .ok (.iconst 2, 1) := by decide +kernel
theorem dL_cancel_17 : decode cL_cancel 17 = .ok (.ireturn, 1) := by decide +kernel
theorem dL_cancel_18 : decode cL_cancel 18 = .ok (.iconst 0, 1) := by decide +kernel
theorem dL_cancel_19 : decode cL_cancel 19 = .ok (.ireturn, 1) := by decide +kernel
theorem dL_relax_0 : decode cL_relax 0 = .ok (.aload_n 2, 1) := by decide +kernel
theorem dL_relax_1 : decode cL_relax 1 = .ok (.iconst 0, 1) := by decide +kernel
theorem dL_relax_2 : decode cL_relax 2 = .ok (.aload_n 0, 1) := by decide +kernel
theorem dL_relax_3 : decode cL_relax 3 = .ok (.iload_n 1, 1) := by decide +kernel
theorem dL_relax_4 : decode cL_relax 4 = .ok (.invokevirtual 31, 3) := by decide +kernel
theorem dL_relax_7 : decode cL_relax 7 = .ok (.i2l, 1) := by decide +kernel
theorem dL_relax_8 : decode cL_relax 8 = .ok (.lastore, 1) := by decide +kernel
theorem dL_relax_9 : decode cL_relax 9 = .ok (.goto 9, 3) := by decide +kernel
theorem dL_relax_12 : decode cL_relax 12 = .ok (.astore_n 3, 1) := by decide +kernel
theorem dL_relax_13 : decode cL_relax 13 = .ok (.iconst 1, 1) := by decide +kernel
theorem dL_relax_14 : decode cL_relax 14 = .ok (.ireturn, 1) := by decide +kernel
theorem dL_relax_15 : decode cL_relax 15 = .ok (.astore_n 3, 1) := by decide +kernel
theorem dL_relax_16 : decode cL_relax 16 = .ok (.iconst 2, 1) := by decide +kernel
theorem dL_relax_17 : decode cL_relax 17 = .ok (.ireturn, 1) := by decide +kernel
theorem dL_relax_18 : decode cL_relax 18 = .ok (.iconst 0, 1) := by decide +kernel
theorem dL_relax_19 : decode cL_relax 19 = .ok (.ireturn, 1) := by decide +kernel
theorem dL_wordLength_0 : decode cL_wordLength 0 = .ok (.aload_n 2, 1) := by decide +kernel
theorem dL_wordLength_1 : decode cL_wordLength 1 = .ok (.iconst 0, 1) := by decide +kernel
theorem dL_wordLength_2 : decode cL_wordLength 2 = .ok (.aload_n 0, 1) := by decide +kernel
theorem dL_wordLength_3 : decode cL_wordLength 3 = .ok (.iload_n 1, 1) := by decide +kernel
theorem dL_wordLength_4 : decode cL_wordLength 4 = .ok (.invokevirtual 34, 3) := by decide +kernel
theorem dL_wordLength_7 : decode cL_wordLength 7 = .ok (.i2l, 1) := by decide +kernel
theorem dL_wordLength_8 : decode cL_wordLength 8 = .ok (.lastore, 1) := by decide +kernel
theorem dL_wordLength_9 : decode cL_wordLength 9 = .ok (.goto 6, 3) := by decide +kernel
theorem dL_wordLength_12 : decode cL_wordLength 12 = .ok (.astore_n 3, 1) := by decide +kernel
theorem dL_wordLength_13 : decode cL_wordLength 13 = .ok (.iconst 1, 1) := by decide +kernel
theorem dL_wordLength_14 : decode cL_wordLength 14 = .ok (.ireturn, 1) := by decide +kernel
theorem dL_wordLength_15 : decode cL_wordLength 15 = .ok (.iconst 0, 1) := by decide +kernel
theorem dL_wordLength_16 : decode cL_wordLength 16 = .ok (.ireturn, 1) := by decide +kernel
theorem dL_letterAt_0 : decode cL_letterAt 0 = .ok (.aload_n 3, 1) := by decide +kernel
theorem dL_letterAt_1 : decode cL_letterAt 1 = .ok (.iconst 0, 1) := by decide +kernel
theorem dL_letterAt_2 : decode cL_letterAt 2 = .ok (.aload_n 0, 1) := by decide +kernel
theorem dL_letterAt_3 : decode cL_letterAt 3 = .ok (.iload_n 1, 1) := by decide +kernel
theorem dL_letterAt_4 : decode cL_letterAt 4 = .ok (.iload_n 2, 1) := by decide +kernel
theorem dL_letterAt_5 : decode cL_letterAt 5 = .ok (.invokevirtual 37, 3) := by decide +kernel
theorem dL_letterAt_8 : decode cL_letterAt 8 = .ok (.i2l, 1) := by decide +kernel
theorem dL_letterAt_9 : decode cL_letterAt 9 = .ok (.lastore, 1) := by decide +kernel
theorem dL_letterAt_10 : decode cL_letterAt 10 = .ok (.goto 11, 3) := by decide +kernel
theorem dL_letterAt_13 : decode cL_letterAt 13 = .ok (.astore 4, 2) := by decide +kernel
theorem dL_letterAt_15 : decode cL_letterAt 15 = .ok (.iconst 1, 1) := by decide +kernel
theorem dL_letterAt_16 : decode cL_letterAt 16 = .ok (.ireturn, 1) := by decide +kernel
theorem dL_letterAt_17 : decode cL_letterAt 17 = .ok (.astore 4, 2) := by decide +kernel
theorem dL_letterAt_19 : decode cL_letterAt 19 = .ok (.iconst 2, 1) := by decide +kernel
theorem dL_letterAt_20 : decode cL_letterAt 20 = .ok (.ireturn, 1) := by decide +kernel
theorem dL_letterAt_21 : decode cL_letterAt 21 = .ok (.iconst 0, 1) := by decide +kernel
theorem dL_letterAt_22 : decode cL_letterAt 22 = .ok (.ireturn, 1) := by decide +kernel
theorem dL_hasHandle_0 : decode cL_hasHandle 0 = .ok (.aload_n 2, 1) := by decide +kernel
theorem dL_hasHandle_1 : decode cL_hasHandle 1 = .ok (.iconst 0, 1) := by decide +kernel
theorem dL_hasHandle_2 : decode cL_hasHandle 2 = .ok (.aload_n 0, 1) := by decide +kernel
theorem dL_hasHandle_3 : decode cL_hasHandle 3 = .ok (.iload_n 1, 1) := by decide +kernel
theorem dL_hasHandle_4 : decode cL_hasHandle 4 = .ok (.invokevirtual 43, 3) := by decide +kernel
theorem dL_hasHandle_7 : decode cL_hasHandle 7 = .ok (.ifCond .eq 7, 3) := by decide +kernel
theorem dL_hasHandle_10 : decode cL_hasHandle 10 = .ok (.lconst 1, 1) := by decide +kernel
theorem dL_hasHandle_11 : decode cL_hasHandle 11 = .ok (.goto 4, 3) := by decide +kernel
theorem dL_hasHandle_14 : decode cL_hasHandle 14 = .ok (.lconst 0, 1) := by decide +kernel
theorem dL_hasHandle_15 : decode cL_hasHandle 15 = .ok (.lastore, 1) := by decide +kernel
theorem dL_hasHandle_16 : decode cL_hasHandle 16 = .ok (.goto 6, 3) := by decide +kernel
theorem dL_hasHandle_19 : decode cL_hasHandle 19 = .ok (.astore_n 3, 1) := by decide +kernel
theorem dL_hasHandle_20 : decode cL_hasHandle 20 = .ok (.iconst 1, 1) := by decide +kernel
theorem dL_hasHandle_21 : decode cL_hasHandle 21 = .ok (.ireturn, 1) := by decide +kernel
theorem dL_hasHandle_22 : decode cL_hasHandle 22 = .ok (.iconst 0, 1) := by decide +kernel
theorem dL_hasHandle_23 : decode cL_hasHandle 23 = .ok (.ireturn, 1) := by decide +kernel
theorem dL_handleBegin_0 : decode cL_handleBegin 0 = .ok (.aload_n 2, 1) := by decide +kernel
theorem dL_handleBegin_1 : decode cL_handleBegin 1 = .ok (.iconst 0, 1) := by decide +kernel
theorem dL_handleBegin_2 : decode cL_handleBegin 2 = .ok (.aload_n 0, 1) := by decide +kernel
theorem dL_handleBegin_3 : decode cL_handleBegin 3 = .ok (.iload_n 1, 1) := by decide +kernel
theorem dL_handleBegin_4 : decode cL_handleBegin 4 = .ok (.invokevirtual 47, 3) := by decide +kernel
theorem dL_handleBegin_7 : decode cL_handleBegin 7 = .ok (.i2l, 1) := by decide +kernel
theorem dL_handleBegin_8 : decode cL_handleBegin 8 = .ok (.lastore, 1) := by decide +kernel
theorem dL_handleBegin_9 : decode cL_handleBegin 9 = .ok (.goto 9, 3) := by decide +kernel
theorem dL_handleBegin_12 : decode cL_handleBegin 12 = .ok (.astore_n 3, 1) := by decide +kernel
theorem dL_handleBegin_13 : decode cL_handleBegin 13 = .ok (.iconst 1, 1) := by decide +kernel
theorem dL_handleBegin_14 : decode cL_handleBegin 14 = .ok (.ireturn, 1) := by decide +kernel
theorem dL_handleBegin_15 : decode cL_handleBegin 15 = .ok (.astore_n 3, 1) := by decide +kernel
theorem dL_handleBegin_16 : decode cL_handleBegin 16 = .ok (.iconst 2, 1) := by decide +kernel
theorem dL_handleBegin_17 : decode cL_handleBegin 17 = .ok (.ireturn, 1) := by decide +kernel
theorem dL_handleBegin_18 : decode cL_handleBegin 18 = .ok (.iconst 0, 1) := by decide +kernel
theorem dL_handleBegin_19 : decode cL_handleBegin 19 = .ok (.ireturn, 1) := by decide +kernel
theorem dL_handleEnd_0 : decode cL_handleEnd 0 = .ok (.aload_n 2, 1) := by decide +kernel
theorem dL_handleEnd_1 : decode cL_handleEnd 1 = .ok (.iconst 0, 1) := by decide +kernel
theorem dL_handleEnd_2 : decode cL_handleEnd 2 = .ok (.aload_n 0, 1) := by decide +kernel
theorem dL_handleEnd_3 : decode cL_handleEnd 3 = .ok (.iload_n 1, 1) := by decide +kernel
theorem dL_handleEnd_4 : decode cL_handleEnd 4 = .ok (.invokevirtual 50, 3) := by decide +kernel
theorem dL_handleEnd_7 : decode cL_handleEnd 7 = .ok (.i2l, 1) := by decide +kernel
theorem dL_handleEnd_8 : decode cL_handleEnd 8 = .ok (.lastore, 1) := by decide +kernel
theorem dL_handleEnd_9 : decode cL_handleEnd 9 = .ok (.goto 9, 3) := by decide +kernel
theorem dL_handleEnd_12 : decode cL_handleEnd 12 = .ok (.astore_n 3, 1) := by decide +kernel
theorem dL_handleEnd_13 : decode cL_handleEnd 13 = .ok (.iconst 1, 1) := by decide +kernel
theorem dL_handleEnd_14 : decode cL_handleEnd 14 = .ok (.ireturn, 1) := by decide +kernel
theorem dL_handleEnd_15 : decode cL_handleEnd 15 = .ok (.astore_n 3, 1) := by decide +kernel
theorem dL_handleEnd_16 : decode cL_handleEnd 16 = .ok (.iconst 2, 1) := by decide +kernel
theorem dL_handleEnd_17 : decode cL_handleEnd 17 = .ok (.ireturn, 1) := by decide +kernel
theorem dL_handleEnd_18 : decode cL_handleEnd 18 = .ok (.iconst 0, 1) := by decide +kernel
theorem dL_handleEnd_19 : decode cL_handleEnd 19 = .ok (.ireturn, 1) := by decide +kernel
theorem dL_relaxedLength_0 : decode cL_relaxedLength 0 = .ok (.aload_n 2, 1) := by decide +kernel
theorem dL_relaxedLength_1 : decode cL_relaxedLength 1 = .ok (.iconst 0, 1) := by decide +kernel
theorem dL_relaxedLength_2 : decode cL_relaxedLength 2 = .ok (.aload_n 0, 1) := by decide +kernel
theorem dL_relaxedLength_3 : decode cL_relaxedLength 3 = .ok (.iload_n 1, 1) := by decide +kernel
theorem dL_relaxedLength_4 : decode cL_relaxedLength 4 = .ok (.invokevirtual 53, 3) := by decide +kernel
theorem dL_relaxedLength_7 : decode cL_relaxedLength 7 = .ok (.i2l, 1) := by decide +kernel
theorem dL_relaxedLength_8 : decode cL_relaxedLength 8 = .ok (.lastore, 1) := by decide +kernel
theorem dL_relaxedLength_9 : decode cL_relaxedLength 9 = .ok (.goto 9, 3) := by decide +kernel
theorem dL_relaxedLength_12 : decode cL_relaxedLength 12 = .ok (.astore_n 3, 1) := by decide +kernel
theorem dL_relaxedLength_13 : decode cL_relaxedLength 13 = .ok (.iconst 1, 1) := by decide +kernel
theorem dL_relaxedLength_14 : decode cL_relaxedLength 14 = .ok (.ireturn, 1) := by decide +kernel
theorem dL_relaxedLength_15 : decode cL_relaxedLength 15 = .ok (.astore_n 3, 1) := by decide +kernel
theorem dL_relaxedLength_16 : decode cL_relaxedLength 16 = .ok (.iconst 2, 1) := by decide +kernel
theorem dL_relaxedLength_17 : decode cL_relaxedLength 17 = .ok (.ireturn, 1) := by decide +kernel
theorem dL_relaxedLength_18 : decode cL_relaxedLength 18 = .ok (.iconst 0, 1) := by decide +kernel
theorem dL_relaxedLength_19 : decode cL_relaxedLength 19 = .ok (.ireturn, 1) := by decide +kernel
theorem dL_writhe_0 : decode cL_writhe 0 = .ok (.aload_n 2, 1) := by decide +kernel
theorem dL_writhe_1 : decode cL_writhe 1 = .ok (.iconst 0, 1) := by decide +kernel
theorem dL_writhe_2 : decode cL_writhe 2 = .ok (.aload_n 0, 1) := by decide +kernel
theorem dL_writhe_3 : decode cL_writhe 3 = .ok (.iload_n 1, 1) := by decide +kernel
theorem dL_writhe_4 : decode cL_writhe 4 = .ok (.invokevirtual 58, 3) := by decide +kernel
theorem dL_writhe_7 : decode cL_writhe 7 = .ok (.i2l, 1) := by decide +kernel
theorem dL_writhe_8 : decode cL_writhe 8 = .ok (.lastore, 1) := by decide +kernel
theorem dL_writhe_9 : decode cL_writhe 9 = .ok (.goto 6, 3) := by decide +kernel
theorem dL_writhe_12 : decode cL_writhe 12 = .ok (.astore_n 3, 1) := by decide +kernel
theorem dL_writhe_13 : decode cL_writhe 13 = .ok (.iconst 1, 1) := by decide +kernel
theorem dL_writhe_14 : decode cL_writhe 14 = .ok (.ireturn, 1) := by decide +kernel
theorem dL_writhe_15 : decode cL_writhe 15 = .ok (.iconst 0, 1) := by decide +kernel
theorem dL_writhe_16 : decode cL_writhe 16 = .ok (.ireturn, 1) := by decide +kernel
theorem dL_strandEnd_0 : decode cL_strandEnd 0 = .ok (.aload_n 3, 1) := by decide +kernel
theorem dL_strandEnd_1 : decode cL_strandEnd 1 = .ok (.iconst 0, 1) := by decide +kernel
theorem dL_strandEnd_2 : decode cL_strandEnd 2 = .ok (.aload_n 0, 1) := by decide +kernel
theorem dL_strandEnd_3 : decode cL_strandEnd 3 = .ok (.iload_n 1, 1) := by decide +kernel
theorem dL_strandEnd_4 : decode cL_strandEnd 4 = .ok (.iload_n 2, 1) := by decide +kernel
theorem dL_strandEnd_5 : decode cL_strandEnd 5 = .ok (.invokevirtual 61, 3) := by decide +kernel
theorem dL_strandEnd_8 : decode cL_strandEnd 8 = .ok (.i2l, 1) := by decide +kernel
theorem dL_strandEnd_9 : decode cL_strandEnd 9 = .ok (.lastore, 1) := by decide +kernel
theorem dL_strandEnd_10 : decode cL_strandEnd 10 = .ok (.goto 11, 3) := by decide +kernel
theorem dL_strandEnd_13 : decode cL_strandEnd 13 = .ok (.astore 4, 2) := by decide +kernel
theorem dL_strandEnd_15 : decode cL_strandEnd 15 = .ok (.iconst 1, 1) := by decide +kernel
theorem dL_strandEnd_16 : decode cL_strandEnd 16 = .ok (.ireturn, 1) := by decide +kernel
theorem dL_strandEnd_17 : decode cL_strandEnd 17 = .ok (.astore 4, 2) := by decide +kernel
theorem dL_strandEnd_19 : decode cL_strandEnd 19 = .ok (.iconst 2, 1) := by decide +kernel
theorem dL_strandEnd_20 : decode cL_strandEnd 20 = .ok (.ireturn, 1) := by decide +kernel
theorem dL_strandEnd_21 : decode cL_strandEnd 21 = .ok (.iconst 0, 1) := by decide +kernel
theorem dL_strandEnd_22 : decode cL_strandEnd 22 = .ok (.ireturn, 1) := by decide +kernel
theorem dL_closedThreads_0 : decode cL_closedThreads 0 = .ok (.aload_n 2, 1) := by decide +kernel
theorem dL_closedThreads_1 : decode cL_closedThreads 1 = .ok (.iconst 0, 1) := by decide +kernel
theorem dL_closedThreads_2 : decode cL_closedThreads 2 = .ok (.aload_n 0, 1) := by decide +kernel
theorem dL_closedThreads_3 : decode cL_closedThreads 3 = .ok (.iload_n 1, 1) := by decide +kernel
theorem dL_closedThreads_4 : decode cL_closedThreads 4 = .ok (.invokevirtual 65, 3) := by decide +kernel
theorem dL_closedThreads_7 : decode cL_closedThreads 7 = .ok (.i2l, 1) := by decide +kernel
theorem dL_closedThreads_8 : decode cL_closedThreads 8 = .ok (.lastore, 1) := by decide +kernel
theorem dL_closedThreads_9 : decode cL_closedThreads 9 = .ok (.goto 6, 3) := by decide +kernel
theorem dL_closedThreads_12 : decode cL_closedThreads 12 = .ok (.astore_n 3, 1) := by decide +kernel
theorem dL_closedThreads_13 : decode cL_closedThreads 13 = .ok (.iconst 1, 1) := by decide +kernel
theorem dL_closedThreads_14 : decode cL_closedThreads 14 = .ok (.ireturn, 1) := by decide +kernel
theorem dL_closedThreads_15 : decode cL_closedThreads 15 = .ok (.iconst 0, 1) := by decide +kernel
theorem dL_closedThreads_16 : decode cL_closedThreads 16 = .ok (.ireturn, 1) := by decide +kernel
theorem dL_crossings_0 : decode cL_crossings 0 = .ok (.aload 4, 2) := by decide +kernel
theorem dL_crossings_2 : decode cL_crossings 2 = .ok (.iconst 0, 1) := by decide +kernel
theorem dL_crossings_3 : decode cL_crossings 3 = .ok (.aload_n 0, 1) := by decide +kernel
theorem dL_crossings_4 : decode cL_crossings 4 = .ok (.iload_n 1, 1) := by decide +kernel
theorem dL_crossings_5 : decode cL_crossings 5 = .ok (.iload_n 2, 1) := by decide +kernel
theorem dL_crossings_6 : decode cL_crossings 6 = .ok (.iload_n 3, 1) := by decide +kernel
theorem dL_crossings_7 : decode cL_crossings 7 = .ok (.invokevirtual 68, 3) := by decide +kernel
theorem dL_crossings_10 : decode cL_crossings 10 = .ok (.i2l, 1) := by decide +kernel
theorem dL_crossings_11 : decode cL_crossings 11 = .ok (.lastore, 1) := by decide +kernel
theorem dL_crossings_12 : decode cL_crossings 12 = .ok (.goto 11, 3) := by decide +kernel
theorem dL_crossings_15 : decode cL_crossings 15 = .ok (.astore 5, 2) := by decide +kernel
theorem dL_crossings_17 : decode cL_crossings 17 = .ok (.iconst 1, 1) := by decide +kernel
theorem dL_crossings_18 : decode cL_crossings 18 = .ok (.ireturn, 1) := by decide +kernel
theorem dL_crossings_19 : decode cL_crossings 19 = .ok (.astore 5, 2) := by decide +kernel
theorem dL_crossings_21 : decode cL_crossings 21 = .ok (.iconst 2, 1) := by decide +kernel
theorem dL_crossings_22 : decode cL_crossings 22 = .ok (.ireturn, 1) := by decide +kernel
theorem dL_crossings_23 : decode cL_crossings 23 = .ok (.iconst 0, 1) := by decide +kernel
theorem dL_crossings_24 : decode cL_crossings 24 = .ok (.ireturn, 1) := by decide +kernel
theorem dL_coordinate_0 : decode cL_coordinate 0 = .ok (.aload_n 3, 1) := by decide +kernel
theorem dL_coordinate_1 : decode cL_coordinate 1 = .ok (.iconst 0, 1) := by decide +kernel
theorem dL_coordinate_2 : decode cL_coordinate 2 = .ok (.aload_n 0, 1) := by decide +kernel
theorem dL_coordinate_3 : decode cL_coordinate 3 = .ok (.iload_n 1, 1) := by decide +kernel
theorem dL_coordinate_4 : decode cL_coordinate 4 = .ok (.iload_n 2, 1) := by decide +kernel
theorem dL_coordinate_5 : decode cL_coordinate 5 = .ok (.invokevirtual 72, 3) := by decide +kernel
theorem dL_coordinate_8 : decode cL_coordinate 8 = .ok (.lastore, 1) := by decide +kernel
theorem dL_coordinate_9 : decode cL_coordinate 9 = .ok (.goto 11, 3) := by decide +kernel
theorem dL_coordinate_12 : decode cL_coordinate 12 = .ok (.astore 4, 2) := by decide +kernel
theorem dL_coordinate_14 : decode cL_coordinate 14 = .ok (.iconst 1, 1) := by decide +kernel
theorem dL_coordinate_15 : decode cL_coordinate 15 = .ok (.ireturn, 1) := by decide +kernel
theorem dL_coordinate_16 : decode cL_coordinate 16 = .ok (.astore 4, 2) := by decide +kernel
theorem dL_coordinate_18 : decode cL_coordinate 18 = .ok (.iconst 2, 1) := by decide +kernel
theorem dL_coordinate_19 : decode cL_coordinate 19 = .ok (.ireturn, 1) := by decide +kernel
theorem dL_coordinate_20 : decode cL_coordinate 20 = .ok (.iconst 0, 1) := by decide +kernel
theorem dL_coordinate_21 : decode cL_coordinate 21 = .ok (.ireturn, 1) := by decide +kernel
theorem dL_isTrivial_0 : decode cL_isTrivial 0 = .ok (.aload_n 2, 1) := by decide +kernel
theorem dL_isTrivial_1 : decode cL_isTrivial 1 = .ok (.iconst 0, 1) := by decide +kernel
theorem dL_isTrivial_2 : decode cL_isTrivial 2 = .ok (.aload_n 0, 1) := by decide +kernel
theorem dL_isTrivial_3 : decode cL_isTrivial 3 = .ok (.iload_n 1, 1) := by decide +kernel
theorem dL_isTrivial_4 : decode cL_isTrivial 4 = .ok (.invokevirtual 76, 3) := by decide +kernel
theorem dL_isTrivial_7 : decode cL_isTrivial 7 = .ok (.ifCond .eq 7, 3) := by decide +kernel
theorem dL_isTrivial_10 : decode cL_isTrivial 10 = .ok (.lconst 1, 1) := by decide +kernel
theorem dL_isTrivial_11 : decode cL_isTrivial 11 = .ok (.goto 4, 3) := by decide +kernel
theorem dL_isTrivial_14 : decode cL_isTrivial 14 = .ok (.lconst 0, 1) := by decide +kernel
theorem dL_isTrivial_15 : decode cL_isTrivial 15 = .ok (.lastore, 1) := by decide +kernel
theorem dL_isTrivial_16 : decode cL_isTrivial 16 = .ok (.goto 9, 3) := by decide +kernel
theorem dL_isTrivial_19 : decode cL_isTrivial 19 = .ok (.astore_n 3, 1) := by decide +kernel
theorem dL_isTrivial_20 : decode cL_isTrivial 20 = .ok (.iconst 1, 1) := by decide +kernel
theorem dL_isTrivial_21 : decode cL_isTrivial 21 = .ok (.ireturn, 1) := by decide +kernel
theorem dL_isTrivial_22 : decode cL_isTrivial 22 = .ok (.astore_n 3, 1) := by decide +kernel
theorem dL_isTrivial_23 : decode cL_isTrivial 23 = .ok (.iconst 2, 1) := by decide +kernel
theorem dL_isTrivial_24 : decode cL_isTrivial 24 = .ok (.ireturn, 1) := by decide +kernel
theorem dL_isTrivial_25 : decode cL_isTrivial 25 = .ok (.iconst 0, 1) := by decide +kernel
theorem dL_isTrivial_26 : decode cL_isTrivial 26 = .ok (.ireturn, 1) := by decide +kernel
theorem dL_areEqual_0 : decode cL_areEqual 0 = .ok (.aload_n 3, 1) := by decide +kernel
theorem dL_areEqual_1 : decode cL_areEqual 1 = .ok (.iconst 0, 1) := by decide +kernel
theorem dL_areEqual_2 : decode cL_areEqual 2 = .ok (.aload_n 0, 1) := by decide +kernel
theorem dL_areEqual_3 : decode cL_areEqual 3 = .ok (.iload_n 1, 1) := by decide +kernel
theorem dL_areEqual_4 : decode cL_areEqual 4 = .ok (.iload_n 2, 1) := by decide +kernel
theorem dL_areEqual_5 : decode cL_areEqual 5 = .ok (.invokevirtual 79, 3) := by decide +kernel
theorem dL_areEqual_8 : decode cL_areEqual 8 = .ok (.ifCond .eq 7, 3) := by decide +kernel
theorem dL_areEqual_11 : decode cL_areEqual 11 = .ok (.lconst 1, 1) := by decide +kernel
theorem dL_areEqual_12 : decode cL_areEqual 12 = .ok (.goto 4, 3) := by decide +kernel
theorem dL_areEqual_15 : decode cL_areEqual 15 = .ok (.lconst 0, 1) := by decide +kernel
theorem dL_areEqual_16 : decode cL_areEqual 16 = .ok (.lastore, 1) := by decide +kernel
theorem dL_areEqual_17 : decode cL_areEqual 17 = .ok (.goto 11, 3) := by decide +kernel
theorem dL_areEqual_20 : decode cL_areEqual 20 = .ok (.astore 4, 2) := by decide +kernel
theorem dL_areEqual_22 : decode cL_areEqual 22 = .ok (.iconst 1, 1) := by decide +kernel
theorem dL_areEqual_23 : decode cL_areEqual 23 = .ok (.ireturn, 1) := by decide +kernel
theorem dL_areEqual_24 : decode cL_areEqual 24 = .ok (.astore 4, 2) := by decide +kernel
theorem dL_areEqual_26 : decode cL_areEqual 26 = .ok (.iconst 2, 1) := by decide +kernel
theorem dL_areEqual_27 : decode cL_areEqual 27 = .ok (.ireturn, 1) := by decide +kernel
theorem dL_areEqual_28 : decode cL_areEqual 28 = .ok (.iconst 0, 1) := by decide +kernel
theorem dL_areEqual_29 : decode cL_areEqual 29 = .ok (.ireturn, 1) := by decide +kernel
theorem dL_areEqualByCoordinates_0 : decode cL_areEqualByCoordinates 0 = .ok (.aload_n 3, 1) := by decide +kernel
theorem dL_areEqualByCoordinates_1 : decode cL_areEqualByCoordinates 1 = .ok (.iconst 0, 1) := by decide +kernel
theorem dL_areEqualByCoordinates_2 : decode cL_areEqualByCoordinates 2 = .ok (.aload_n 0, 1) := by decide +kernel
theorem dL_areEqualByCoordinates_3 : decode cL_areEqualByCoordinates 3 = .ok (.iload_n 1, 1) := by decide +kernel
theorem dL_areEqualByCoordinates_4 : decode cL_areEqualByCoordinates 4 = .ok (.iload_n 2, 1) := by decide +kernel
theorem dL_areEqualByCoordinates_5 : decode cL_areEqualByCoordinates 5 = .ok (.invokevirtual 83, 3) := by decide +kernel
theorem dL_areEqualByCoordinates_8 : decode cL_areEqualByCoordinates 8 = .ok (.ifCond .eq 7, 3) := by decide +kernel
theorem dL_areEqualByCoordinates_11 : decode cL_areEqualByCoordinates 11 = .ok (.lconst 1, 1) := by decide +kernel
theorem dL_areEqualByCoordinates_12 : decode cL_areEqualByCoordinates 12 = .ok (.goto 4, 3) := by decide +kernel
theorem dL_areEqualByCoordinates_15 : decode cL_areEqualByCoordinates 15 = .ok (.lconst 0, 1) := by decide +kernel
theorem dL_areEqualByCoordinates_16 : decode cL_areEqualByCoordinates 16 = .ok (.lastore, 1) := by decide +kernel
theorem dL_areEqualByCoordinates_17 : decode cL_areEqualByCoordinates 17 = .ok (.goto 7, 3) := by decide +kernel
theorem dL_areEqualByCoordinates_20 : decode cL_areEqualByCoordinates 20 = .ok (.astore 4, 2) := by decide +kernel
theorem dL_areEqualByCoordinates_22 : decode cL_areEqualByCoordinates 22 = .ok (.iconst 1, 1) := by decide +kernel
theorem dL_areEqualByCoordinates_23 : decode cL_areEqualByCoordinates 23 = .ok (.ireturn, 1) := by decide +kernel
theorem dL_areEqualByCoordinates_24 : decode cL_areEqualByCoordinates 24 = .ok (.iconst 0, 1) := by decide +kernel
theorem dL_areEqualByCoordinates_25 : decode cL_areEqualByCoordinates 25 = .ok (.ireturn, 1) := by decide +kernel
theorem dL_compare_0 : decode cL_compare 0 = .ok (.aload_n 3, 1) := by decide +kernel
theorem dL_compare_1 : decode cL_compare 1 = .ok (.iconst 0, 1) := by decide +kernel
theorem dL_compare_2 : decode cL_compare 2 = .ok (.aload_n 0, 1) := by decide +kernel
theorem dL_compare_3 : decode cL_compare 3 = .ok (.iload_n 1, 1) := by decide +kernel
theorem dL_compare_4 : decode cL_compare 4 = .ok (.iload_n 2, 1) := by decide +kernel
theorem dL_compare_5 : decode cL_compare 5 = .ok (.invokevirtual 86, 3) := by decide +kernel
theorem dL_compare_8 : decode cL_compare 8 = .ok (.i2l, 1) := by decide +kernel
theorem dL_compare_9 : decode cL_compare 9 = .ok (.lastore, 1) := by decide +kernel
theorem dL_compare_10 : decode cL_compare 10 = .ok (.goto 11, 3) := by decide +kernel
theorem dL_compare_13 : decode cL_compare 13 = .ok (.astore 4, 2) := by decide +kernel
theorem dL_compare_15 : decode cL_compare 15 = .ok (.iconst 1, 1) := by decide +kernel
theorem dL_compare_16 : decode cL_compare 16 = .ok (.ireturn, 1) := by decide +kernel
theorem dL_compare_17 : decode cL_compare 17 = .ok (.astore 4, 2) := by decide +kernel
theorem dL_compare_19 : decode cL_compare 19 = .ok (.iconst 2, 1) := by decide +kernel
theorem dL_compare_20 : decode cL_compare 20 = .ok (.ireturn, 1) := by decide +kernel
theorem dL_compare_21 : decode cL_compare 21 = .ok (.iconst 0, 1) := by decide +kernel
theorem dL_compare_22 : decode cL_compare 22 = .ok (.ireturn, 1) := by decide +kernel
theorem dL_compareByCoordinates_0 : decode cL_compareByCoordinates 0 = .ok (.aload_n 3, 1) := by decide +kernel
theorem dL_compareByCoordinates_1 : decode cL_compareByCoordinates 1 = .ok (.iconst 0, 1) := by decide +kernel
theorem dL_compareByCoordinates_2 : decode cL_compareByCoordinates 2 = .ok (.aload_n 0, 1) := by decide +kernel
theorem dL_compareByCoordinates_3 : decode cL_compareByCoordinates 3 = .ok (.iload_n 1, 1) := by decide +kernel
theorem dL_compareByCoordinates_4 : decode cL_compareByCoordinates 4 = .ok (.iload_n 2, 1) := by decide +kernel
theorem dL_compareByCoordinates_5 : decode cL_compareByCoordinates 5 = .ok (.invokevirtual 89, 3) := by decide +kernel
theorem dL_compareByCoordinates_8 : decode cL_compareByCoordinates 8 = .ok (.i2l, 1) := by decide +kernel
theorem dL_compareByCoordinates_9 : decode cL_compareByCoordinates 9 = .ok (.lastore, 1) := by decide +kernel
theorem dL_compareByCoordinates_10 : decode cL_compareByCoordinates 10 = .ok (.goto 7, 3) := by decide +kernel
theorem dL_compareByCoordinates_13 : decode cL_compareByCoordinates 13 = .ok (.astore 4, 2) := by decide +kernel
theorem dL_compareByCoordinates_15 : decode cL_compareByCoordinates 15 = .ok (.iconst 1, 1) := by decide +kernel
theorem dL_compareByCoordinates_16 : decode cL_compareByCoordinates 16 = .ok (.ireturn, 1) := by decide +kernel
theorem dL_compareByCoordinates_17 : decode cL_compareByCoordinates 17 = .ok (.iconst 0, 1) := by decide +kernel
theorem dL_compareByCoordinates_18 : decode cL_compareByCoordinates 18 = .ok (.ireturn, 1) := by decide +kernel
theorem dL_caseByBraid_0 : decode cL_caseByBraid 0 = .ok (.aload_n 2, 1) := by decide +kernel
theorem dL_caseByBraid_1 : decode cL_caseByBraid 1 = .ok (.iconst 0, 1) := by decide +kernel
theorem dL_caseByBraid_2 : decode cL_caseByBraid 2 = .ok (.aload_n 0, 1) := by decide +kernel
theorem dL_caseByBraid_3 : decode cL_caseByBraid 3 = .ok (.iload_n 1, 1) := by decide +kernel
theorem dL_caseByBraid_4 : decode cL_caseByBraid 4 = .ok (.invokevirtual 92, 3) := by decide +kernel
theorem dL_caseByBraid_7 : decode cL_caseByBraid 7 = .ok (.i2l, 1) := by decide +kernel
theorem dL_caseByBraid_8 : decode cL_caseByBraid 8 = .ok (.lastore, 1) := by decide +kernel
theorem dL_caseByBraid_9 : decode cL_caseByBraid 9 = .ok (.goto 6, 3) := by decide +kernel
theorem dL_caseByBraid_12 : decode cL_caseByBraid 12 = .ok (.astore_n 3, 1) := by decide +kernel
theorem dL_caseByBraid_13 : decode cL_caseByBraid 13 = .ok (.iconst 1, 1) := by decide +kernel
theorem dL_caseByBraid_14 : decode cL_caseByBraid 14 = .ok (.ireturn, 1) := by decide +kernel
theorem dL_caseByBraid_15 : decode cL_caseByBraid 15 = .ok (.iconst 0, 1) := by decide +kernel
theorem dL_caseByBraid_16 : decode cL_caseByBraid 16 = .ok (.ireturn, 1) := by decide +kernel
theorem dL_decide_0 : decode cL_decide 0 = .ok (.aload_n 2, 1) := by decide +kernel
theorem dL_decide_1 : decode cL_decide 1 = .ok (.iconst 0, 1) := by decide +kernel
theorem dL_decide_2 : decode cL_decide 2 = .ok (.aload_n 0, 1) := by decide +kernel
theorem dL_decide_3 : decode cL_decide 3 = .ok (.iload_n 1, 1) := by decide +kernel
theorem dL_decide_4 : decode cL_decide 4 = .ok (.invokevirtual 95, 3) := by decide +kernel
theorem dL_decide_7 : decode cL_decide 7 = .ok (.ifCond .eq 7, 3) := by decide +kernel
theorem dL_decide_10 : decode cL_decide 10 = .ok (.lconst 1, 1) := by decide +kernel
theorem dL_decide_11 : decode cL_decide 11 = .ok (.goto 4, 3) := by decide +kernel
theorem dL_decide_14 : decode cL_decide 14 = .ok (.lconst 0, 1) := by decide +kernel
theorem dL_decide_15 : decode cL_decide 15 = .ok (.lastore, 1) := by decide +kernel
theorem dL_decide_16 : decode cL_decide 16 = .ok (.goto 9, 3) := by decide +kernel
theorem dL_decide_19 : decode cL_decide 19 = .ok (.astore_n 3, 1) := by decide +kernel
theorem dL_decide_20 : decode cL_decide 20 = .ok (.iconst 1, 1) := by decide +kernel
theorem dL_decide_21 : decode cL_decide 21 = .ok (.ireturn, 1) := by decide +kernel
theorem dL_decide_22 : decode cL_decide 22 = .ok (.astore_n 3, 1) := by decide +kernel
theorem dL_decide_23 : decode cL_decide 23 = .ok (.iconst 2, 1) := by decide +kernel
theorem dL_decide_24 : decode cL_decide 24 = .ok (.ireturn, 1) := by decide +kernel
theorem dL_decide_25 : decode cL_decide 25 = .ok (.iconst 0, 1) := by decide +kernel
theorem dL_decide_26 : decode cL_decide 26 = .ok (.ireturn, 1) := by decide +kernel
theorem dL_appeal_0 : decode cL_appeal 0 = .ok (.aload_n 2, 1) := by decide +kernel
theorem dL_appeal_1 : decode cL_appeal 1 = .ok (.iconst 0, 1) := by decide +kernel
theorem dL_appeal_2 : decode cL_appeal 2 = .ok (.aload_n 0, 1) := by decide +kernel
theorem dL_appeal_3 : decode cL_appeal 3 = .ok (.iload_n 1, 1) := by decide +kernel
theorem dL_appeal_4 : decode cL_appeal 4 = .ok (.invokevirtual 98, 3) := by decide +kernel
theorem dL_appeal_7 : decode cL_appeal 7 = .ok (.i2l, 1) := by decide +kernel
theorem dL_appeal_8 : decode cL_appeal 8 = .ok (.lastore, 1) := by decide +kernel
theorem dL_appeal_9 : decode cL_appeal 9 = .ok (.goto 9, 3) := by decide +kernel
theorem dL_appeal_12 : decode cL_appeal 12 = .ok (.astore_n 3, 1) := by decide +kernel
theorem dL_appeal_13 : decode cL_appeal 13 = .ok (.iconst 1, 1) := by decide +kernel
theorem dL_appeal_14 : decode cL_appeal 14 = .ok (.ireturn, 1) := by decide +kernel
theorem dL_appeal_15 : decode cL_appeal 15 = .ok (.astore_n 3, 1) := by decide +kernel
theorem dL_appeal_16 : decode cL_appeal 16 = .ok (.iconst 2, 1) := by decide +kernel
theorem dL_appeal_17 : decode cL_appeal 17 = .ok (.ireturn, 1) := by decide +kernel
theorem dL_appeal_18 : decode cL_appeal 18 = .ok (.iconst 0, 1) := by decide +kernel
theorem dL_appeal_19 : decode cL_appeal 19 = .ok (.ireturn, 1) := by decide +kernel
theorem dL_isDecided_0 : decode cL_isDecided 0 = .ok (.aload_n 2, 1) := by decide +kernel
theorem dL_isDecided_1 : decode cL_isDecided 1 = .ok (.iconst 0, 1) := by decide +kernel
theorem dL_isDecided_2 : decode cL_isDecided 2 = .ok (.aload_n 0, 1) := by decide +kernel
theorem dL_isDecided_3 : decode cL_isDecided 3 = .ok (.iload_n 1, 1) := by decide +kernel
theorem dL_isDecided_4 : decode cL_isDecided 4 = .ok (.invokevirtual 101, 3) := by decide +kernel
theorem dL_isDecided_7 : decode cL_isDecided 7 = .ok (.ifCond .eq 7, 3) := by decide +kernel
theorem dL_isDecided_10 : decode cL_isDecided 10 = .ok (.lconst 1, 1) := by decide +kernel
theorem dL_isDecided_11 : decode cL_isDecided 11 = .ok (.goto 4, 3) := by decide +kernel
theorem dL_isDecided_14 : decode cL_isDecided 14 = .ok (.lconst 0, 1) := by decide +kernel
theorem dL_isDecided_15 : decode cL_isDecided 15 = .ok (.lastore, 1) := by decide +kernel
theorem dL_isDecided_16 : decode cL_isDecided 16 = .ok (.goto 6, 3) := by decide +kernel
theorem dL_isDecided_19 : decode cL_isDecided 19 = .ok (.astore_n 3, 1) := by decide +kernel
theorem dL_isDecided_20 : decode cL_isDecided 20 = .ok (.iconst 1, 1) := by decide +kernel
theorem dL_isDecided_21 : decode cL_isDecided 21 = .ok (.ireturn, 1) := by decide +kernel
theorem dL_isDecided_22 : decode cL_isDecided 22 = .ok (.iconst 0, 1) := by decide +kernel
theorem dL_isDecided_23 : decode cL_isDecided 23 = .ok (.ireturn, 1) := by decide +kernel
theorem dL_isTangled_0 : decode cL_isTangled 0 = .ok (.aload_n 2, 1) := by decide +kernel
theorem dL_isTangled_1 : decode cL_isTangled 1 = .ok (.iconst 0, 1) := by decide +kernel
theorem dL_isTangled_2 : decode cL_isTangled 2 = .ok (.aload_n 0, 1) := by decide +kernel
theorem dL_isTangled_3 : decode cL_isTangled 3 = .ok (.iload_n 1, 1) := by decide +kernel
theorem dL_isTangled_4 : decode cL_isTangled 4 = .ok (.invokevirtual 104, 3) := by decide +kernel
theorem dL_isTangled_7 : decode cL_isTangled 7 = .ok (.ifCond .eq 7, 3) := by decide +kernel
theorem dL_isTangled_10 : decode cL_isTangled 10 = .ok (.lconst 1, 1) := by decide +kernel
theorem dL_isTangled_11 : decode cL_isTangled 11 = .ok (.goto 4, 3) := by decide +kernel
theorem dL_isTangled_14 : decode cL_isTangled 14 = .ok (.lconst 0, 1) := by decide +kernel
theorem dL_isTangled_15 : decode cL_isTangled 15 = .ok (.lastore, 1) := by decide +kernel
theorem dL_isTangled_16 : decode cL_isTangled 16 = .ok (.goto 6, 3) := by decide +kernel
theorem dL_isTangled_19 : decode cL_isTangled 19 = .ok (.astore_n 3, 1) := by decide +kernel
theorem dL_isTangled_20 : decode cL_isTangled 20 = .ok (.iconst 1, 1) := by decide +kernel
theorem dL_isTangled_21 : decode cL_isTangled 21 = .ok (.ireturn, 1) := by decide +kernel
theorem dL_isTangled_22 : decode cL_isTangled 22 = .ok (.iconst 0, 1) := by decide +kernel
theorem dL_isTangled_23 : decode cL_isTangled 23 = .ok (.ireturn, 1) := by decide +kernel
theorem dL_precedentOf_0 : decode cL_precedentOf 0 = .ok (.aload_n 2, 1) := by decide +kernel
theorem dL_precedentOf_1 : decode cL_precedentOf 1 = .ok (.iconst 0, 1) := by decide +kernel
theorem dL_precedentOf_2 : decode cL_precedentOf 2 = .ok (.aload_n 0, 1) := by decide +kernel
theorem dL_precedentOf_3 : decode cL_precedentOf 3 = .ok (.iload_n 1, 1) := by decide +kernel
theorem dL_precedentOf_4 : decode cL_precedentOf 4 = .ok (.invokevirtual 107, 3) := by decide +kernel
theorem dL_precedentOf_7 : decode cL_precedentOf 7 = .ok (.i2l, 1) := by decide +kernel
theorem dL_precedentOf_8 : decode cL_precedentOf 8 = .ok (.lastore, 1) := by decide +kernel
theorem dL_precedentOf_9 : decode cL_precedentOf 9 = .ok (.goto 9, 3) := by decide +kernel
theorem dL_precedentOf_12 : decode cL_precedentOf 12 = .ok (.astore_n 3, 1) := by decide +kernel
theorem dL_precedentOf_13 : decode cL_precedentOf 13 = .ok (.iconst 1, 1) := by decide +kernel
theorem dL_precedentOf_14 : decode cL_precedentOf 14 = .ok (.ireturn, 1) := by decide +kernel
theorem dL_precedentOf_15 : decode cL_precedentOf 15 = .ok (.astore_n 3, 1) := by decide +kernel
theorem dL_precedentOf_16 : decode cL_precedentOf 16 = .ok (.iconst 2, 1) := by decide +kernel
theorem dL_precedentOf_17 : decode cL_precedentOf 17 = .ok (.ireturn, 1) := by decide +kernel
theorem dL_precedentOf_18 : decode cL_precedentOf 18 = .ok (.iconst 0, 1) := by decide +kernel
theorem dL_precedentOf_19 : decode cL_precedentOf 19 = .ok (.ireturn, 1) := by decide +kernel
theorem dL_findPrecedent_0 : decode cL_findPrecedent 0 = .ok (.aload_n 2, 1) := by decide +kernel
theorem dL_findPrecedent_1 : decode cL_findPrecedent 1 = .ok (.iconst 0, 1) := by decide +kernel
theorem dL_findPrecedent_2 : decode cL_findPrecedent 2 = .ok (.aload_n 0, 1) := by decide +kernel
theorem dL_findPrecedent_3 : decode cL_findPrecedent 3 = .ok (.iload_n 1, 1) := by decide +kernel
theorem dL_findPrecedent_4 : decode cL_findPrecedent 4 = .ok (.invokevirtual 110, 3) := by decide +kernel
theorem dL_findPrecedent_7 : decode cL_findPrecedent 7 = .ok (.i2l, 1) := by decide +kernel
theorem dL_findPrecedent_8 : decode cL_findPrecedent 8 = .ok (.lastore, 1) := by decide +kernel
theorem dL_findPrecedent_9 : decode cL_findPrecedent 9 = .ok (.goto 9, 3) := by decide +kernel
theorem dL_findPrecedent_12 : decode cL_findPrecedent 12 = .ok (.astore_n 3, 1) := by decide +kernel
theorem dL_findPrecedent_13 : decode cL_findPrecedent 13 = .ok (.iconst 1, 1) := by decide +kernel
theorem dL_findPrecedent_14 : decode cL_findPrecedent 14 = .ok (.ireturn, 1) := by decide +kernel
theorem dL_findPrecedent_15 : decode cL_findPrecedent 15 = .ok (.astore_n 3, 1) := by decide +kernel
theorem dL_findPrecedent_16 : decode cL_findPrecedent 16 = .ok (.iconst 2, 1) := by decide +kernel
theorem dL_findPrecedent_17 : decode cL_findPrecedent 17 = .ok (.ireturn, 1) := by decide +kernel
theorem dL_findPrecedent_18 : decode cL_findPrecedent 18 = .ok (.iconst 0, 1) := by decide +kernel
theorem dL_findPrecedent_19 : decode cL_findPrecedent 19 = .ok (.ireturn, 1) := by decide +kernel
theorem dL_isAppealed_0 : decode cL_isAppealed 0 = .ok (.aload_n 2, 1) := by decide +kernel
theorem dL_isAppealed_1 : decode cL_isAppealed 1 = .ok (.iconst 0, 1) := by decide +kernel
theorem dL_isAppealed_2 : decode cL_isAppealed 2 = .ok (.aload_n 0, 1) := by decide +kernel
theorem dL_isAppealed_3 : decode cL_isAppealed 3 = .ok (.iload_n 1, 1) := by decide +kernel
theorem dL_isAppealed_4 : decode cL_isAppealed 4 = .ok (.invokevirtual 113, 3) := by decide +kernel
theorem dL_isAppealed_7 : decode cL_isAppealed 7 = .ok (.ifCond .eq 7, 3) := by decide +kernel
theorem dL_isAppealed_10 : decode cL_isAppealed 10 = .ok (.lconst 1, 1) := by decide +kernel
theorem dL_isAppealed_11 : decode cL_isAppealed 11 = .ok (.goto 4, 3) := by decide +kernel
theorem dL_isAppealed_14 : decode cL_isAppealed 14 = .ok (.lconst 0, 1) := by decide +kernel
theorem dL_isAppealed_15 : decode cL_isAppealed 15 = .ok (.lastore, 1) := by decide +kernel
theorem dL_isAppealed_16 : decode cL_isAppealed 16 = .ok (.goto 6, 3) := by decide +kernel
theorem dL_isAppealed_19 : decode cL_isAppealed 19 = .ok (.astore_n 3, 1) := by decide +kernel
theorem dL_isAppealed_20 : decode cL_isAppealed 20 = .ok (.iconst 1, 1) := by decide +kernel
theorem dL_isAppealed_21 : decode cL_isAppealed 21 = .ok (.ireturn, 1) := by decide +kernel
theorem dL_isAppealed_22 : decode cL_isAppealed 22 = .ok (.iconst 0, 1) := by decide +kernel
theorem dL_isAppealed_23 : decode cL_isAppealed 23 = .ok (.ireturn, 1) := by decide +kernel
theorem dL_casesOn_0 : decode cL_casesOn 0 = .ok (.aload_n 2, 1) := by decide +kernel
theorem dL_casesOn_1 : decode cL_casesOn 1 = .ok (.iconst 0, 1) := by decide +kernel
theorem dL_casesOn_2 : decode cL_casesOn 2 = .ok (.aload_n 0, 1) := by decide +kernel
theorem dL_casesOn_3 : decode cL_casesOn 3 = .ok (.iload_n 1, 1) := by decide +kernel
theorem dL_casesOn_4 : decode cL_casesOn 4 = .ok (.invokevirtual 116, 3) := by decide +kernel
theorem dL_casesOn_7 : decode cL_casesOn 7 = .ok (.i2l, 1) := by decide +kernel
theorem dL_casesOn_8 : decode cL_casesOn 8 = .ok (.lastore, 1) := by decide +kernel
theorem dL_casesOn_9 : decode cL_casesOn 9 = .ok (.goto 6, 3) := by decide +kernel
theorem dL_casesOn_12 : decode cL_casesOn 12 = .ok (.astore_n 3, 1) := by decide +kernel
theorem dL_casesOn_13 : decode cL_casesOn 13 = .ok (.iconst 1, 1) := by decide +kernel
theorem dL_casesOn_14 : decode cL_casesOn 14 = .ok (.ireturn, 1) := by decide +kernel
theorem dL_casesOn_15 : decode cL_casesOn 15 = .ok (.iconst 0, 1) := by decide +kernel
theorem dL_casesOn_16 : decode cL_casesOn 16 = .ok (.ireturn, 1) := by decide +kernel
theorem dL_meanLength_0 : decode cL_meanLength 0 = .ok (.aload_n 1, 1) := by decide +kernel
theorem dL_meanLength_1 : decode cL_meanLength 1 = .ok (.iconst 0, 1) := by decide +kernel
theorem dL_meanLength_2 : decode cL_meanLength 2 = .ok (.aload_n 0, 1) := by decide +kernel
theorem dL_meanLength_3 : decode cL_meanLength 3 = .ok (.invokevirtual 119, 3) := by decide +kernel
theorem dL_meanLength_6 : decode cL_meanLength 6 = .ok (.dastore, 1) := by decide +kernel
theorem dL_meanLength_7 : decode cL_meanLength 7 = .ok (.goto 6, 3) := by decide +kernel
theorem dL_meanLength_10 : decode cL_meanLength 10 = .ok (.astore_n 2, 1) := by decide +kernel
theorem dL_meanLength_11 : decode cL_meanLength 11 = .ok (.iconst 1, 1) := by decide +kernel
theorem dL_meanLength_12 : decode cL_meanLength 12 = .ok (.ireturn, 1) := by decide +kernel
theorem dL_meanLength_13 : decode cL_meanLength 13 = .ok (.iconst 0, 1) := by decide +kernel
theorem dL_meanLength_14 : decode cL_meanLength 14 = .ok (.ireturn, 1) := by decide +kernel
theorem dL_freedShare_0 : decode cL_freedShare 0 = .ok (.aload_n 1, 1) := by decide +kernel
theorem dL_freedShare_1 : decode cL_freedShare 1 = .ok (.iconst 0, 1) := by decide +kernel
theorem dL_freedShare_2 : decode cL_freedShare 2 = .ok (.aload_n 0, 1) := by decide +kernel
theorem dL_freedShare_3 : decode cL_freedShare 3 = .ok (.invokevirtual 125, 3) := by decide +kernel
theorem dL_freedShare_6 : decode cL_freedShare 6 = .ok (.f2d, 1) := by decide +kernel
theorem dL_freedShare_7 : decode cL_freedShare 7 = .ok (.dastore, 1) := by decide +kernel
theorem dL_freedShare_8 : decode cL_freedShare 8 = .ok (.goto 6, 3) := by decide +kernel
theorem dL_freedShare_11 : decode cL_freedShare 11 = .ok (.astore_n 2, 1) := by decide +kernel
theorem dL_freedShare_12 : decode cL_freedShare 12 = .ok (.iconst 1, 1) := by decide +kernel
theorem dL_freedShare_13 : decode cL_freedShare 13 = .ok (.ireturn, 1) := by decide +kernel
theorem dL_freedShare_14 : decode cL_freedShare 14 = .ok (.iconst 0, 1) := by decide +kernel
theorem dL_freedShare_15 : decode cL_freedShare 15 = .ok (.ireturn, 1) := by decide +kernel
theorem dL_feed_0 : decode cL_feed 0 = .ok (.aload_n 2, 1) := by decide +kernel
theorem dL_feed_1 : decode cL_feed 1 = .ok (.iconst 0, 1) := by decide +kernel
theorem dL_feed_2 : decode cL_feed 2 = .ok (.aload_n 0, 1) := by decide +kernel
theorem dL_feed_3 : decode cL_feed 3 = .ok (.iload_n 1, 1) := by decide +kernel
theorem dL_feed_4 : decode cL_feed 4 = .ok (.invokevirtual 129, 3) := by decide +kernel
theorem dL_feed_7 : decode cL_feed 7 = .ok (.i2l, 1) := by decide +kernel
theorem dL_feed_8 : decode cL_feed 8 = .ok (.lastore, 1) := by decide +kernel
theorem dL_feed_9 : decode cL_feed 9 = .ok (.goto 6, 3) := by decide +kernel
theorem dL_feed_12 : decode cL_feed 12 = .ok (.astore_n 3, 1) := by decide +kernel
theorem dL_feed_13 : decode cL_feed 13 = .ok (.iconst 1, 1) := by decide +kernel
theorem dL_feed_14 : decode cL_feed 14 = .ok (.ireturn, 1) := by decide +kernel
theorem dL_feed_15 : decode cL_feed 15 = .ok (.iconst 0, 1) := by decide +kernel
theorem dL_feed_16 : decode cL_feed 16 = .ok (.ireturn, 1) := by decide +kernel
theorem dL_execute_0 : decode cL_execute 0 = .ok (.aload_n 1, 1) := by decide +kernel
theorem dL_execute_1 : decode cL_execute 1 = .ok (.iconst 0, 1) := by decide +kernel
theorem dL_execute_2 : decode cL_execute 2 = .ok (.aload_n 0, 1) := by decide +kernel
theorem dL_execute_3 : decode cL_execute 3 = .ok (.invokevirtual 133, 3) := by decide +kernel
theorem dL_execute_6 : decode cL_execute 6 = .ok (.i2l, 1) := by decide +kernel
theorem dL_execute_7 : decode cL_execute 7 = .ok (.lastore, 1) := by decide +kernel
theorem dL_execute_8 : decode cL_execute 8 = .ok (.goto 9, 3) := by decide +kernel
theorem dL_execute_11 : decode cL_execute 11 = .ok (.astore_n 2, 1) := by decide +kernel
theorem dL_execute_12 : decode cL_execute 12 = .ok (.iconst 1, 1) := by decide +kernel
theorem dL_execute_13 : decode cL_execute 13 = .ok (.ireturn, 1) := by decide +kernel
theorem dL_execute_14 : decode cL_execute 14 = .ok (.astore_n 2, 1) := by decide +kernel
theorem dL_execute_15 : decode cL_execute 15 = .ok (.iconst 2, 1) := by decide +kernel
theorem dL_execute_16 : decode cL_execute 16 = .ok (.ireturn, 1) := by decide +kernel
theorem dL_execute_17 : decode cL_execute 17 = .ok (.iconst 0, 1) := by decide +kernel
theorem dL_execute_18 : decode cL_execute 18 = .ok (.ireturn, 1) := by decide +kernel
theorem dL_faultPosition_0 : decode cL_faultPosition 0 = .ok (.aload_n 1, 1) := by decide +kernel
theorem dL_faultPosition_1 : decode cL_faultPosition 1 = .ok (.iconst 0, 1) := by decide +kernel
theorem dL_faultPosition_2 : decode cL_faultPosition 2 = .ok (.aload_n 0, 1) := by decide +kernel
theorem dL_faultPosition_3 : decode cL_faultPosition 3 = .ok (.invokevirtual 136, 3) := by decide +kernel
theorem dL_faultPosition_6 : decode cL_faultPosition 6 = .ok (.i2l, 1) := by decide +kernel
theorem dL_faultPosition_7 : decode cL_faultPosition 7 = .ok (.lastore, 1) := by decide +kernel
theorem dL_faultPosition_8 : decode cL_faultPosition 8 = .ok (.goto 6, 3) := by decide +kernel
theorem dL_faultPosition_11 : decode cL_faultPosition 11 = .ok (.astore_n 2, 1) := by decide +kernel
theorem dL_faultPosition_12 : decode cL_faultPosition 12 = .ok (.iconst 1, 1) := by decide +kernel
theorem dL_faultPosition_13 : decode cL_faultPosition 13 = .ok (.ireturn, 1) := by decide +kernel
theorem dL_faultPosition_14 : decode cL_faultPosition 14 = .ok (.iconst 0, 1) := by decide +kernel
theorem dL_faultPosition_15 : decode cL_faultPosition 15 = .ok (.ireturn, 1) := by decide +kernel
theorem dL_writeCase_0 : decode cL_writeCase 0 = .ok (.aload_n 2, 1) := by decide +kernel
theorem dL_writeCase_1 : decode cL_writeCase 1 = .ok (.iconst 0, 1) := by decide +kernel
theorem dL_writeCase_2 : decode cL_writeCase 2 = .ok (.aload_n 0, 1) := by decide +kernel
theorem dL_writeCase_3 : decode cL_writeCase 3 = .ok (.iload_n 1, 1) := by decide +kernel
theorem dL_writeCase_4 : decode cL_writeCase 4 = .ok (.invokevirtual 139, 3) := by decide +kernel
theorem dL_writeCase_7 : decode cL_writeCase 7 = .ok (.i2l, 1) := by decide +kernel
theorem dL_writeCase_8 : decode cL_writeCase 8 = .ok (.lastore, 1) := by decide +kernel
theorem dL_writeCase_9 : decode cL_writeCase 9 = .ok (.goto 6, 3) := by decide +kernel
theorem dL_writeCase_12 : decode cL_writeCase 12 = .ok (.astore_n 3, 1) := by decide +kernel
theorem dL_writeCase_13 : decode cL_writeCase 13 = .ok (.iconst 1, 1) := by decide +kernel
theorem dL_writeCase_14 : decode cL_writeCase 14 = .ok (.ireturn, 1) := by decide +kernel
theorem dL_writeCase_15 : decode cL_writeCase 15 = .ok (.iconst 0, 1) := by decide +kernel
theorem dL_writeCase_16 : decode cL_writeCase 16 = .ok (.ireturn, 1) := by decide +kernel
theorem dL_writeRelaxed_0 : decode cL_writeRelaxed 0 = .ok (.aload_n 2, 1) := by decide +kernel
theorem dL_writeRelaxed_1 : decode cL_writeRelaxed 1 = .ok (.iconst 0, 1) := by decide +kernel
theorem dL_writeRelaxed_2 : decode cL_writeRelaxed 2 = .ok (.aload_n 0, 1) := by decide +kernel
theorem dL_writeRelaxed_3 : decode cL_writeRelaxed 3 = .ok (.iload_n 1, 1) := by decide +kernel
theorem dL_writeRelaxed_4 : decode cL_writeRelaxed 4 = .ok (.invokevirtual 142, 3) := by decide +kernel
theorem dL_writeRelaxed_7 : decode cL_writeRelaxed 7 = .ok (.i2l, 1) := by decide +kernel
theorem dL_writeRelaxed_8 : decode cL_writeRelaxed 8 = .ok (.lastore, 1) := by decide +kernel
theorem dL_writeRelaxed_9 : decode cL_writeRelaxed 9 = .ok (.goto 9, 3) := by decide +kernel
theorem dL_writeRelaxed_12 : decode cL_writeRelaxed 12 = .ok (.astore_n 3, 1) := by decide +kernel
theorem dL_writeRelaxed_13 : decode cL_writeRelaxed 13 = .ok (.iconst 1, 1) := by decide +kernel
theorem dL_writeRelaxed_14 : decode cL_writeRelaxed 14 = .ok (.ireturn, 1) := by decide +kernel
theorem dL_writeRelaxed_15 : decode cL_writeRelaxed 15 = .ok (.astore_n 3, 1) := by decide +kernel
theorem dL_writeRelaxed_16 : decode cL_writeRelaxed 16 = .ok (.iconst 2, 1) := by decide +kernel
theorem dL_writeRelaxed_17 : decode cL_writeRelaxed 17 = .ok (.ireturn, 1) := by decide +kernel
theorem dL_writeRelaxed_18 : decode cL_writeRelaxed 18 = .ok (.iconst 0, 1) := by decide +kernel
theorem dL_writeRelaxed_19 : decode cL_writeRelaxed 19 = .ok (.ireturn, 1) := by decide +kernel
theorem dL_lineCharacter_0 : decode cL_lineCharacter 0 = .ok (.aload_n 2, 1) := by decide +kernel
theorem dL_lineCharacter_1 : decode cL_lineCharacter 1 = .ok (.iconst 0, 1) := by decide +kernel
theorem dL_lineCharacter_2 : decode cL_lineCharacter 2 = .ok (.aload_n 0, 1) := by decide +kernel
theorem dL_lineCharacter_3 : decode cL_lineCharacter 3 = .ok (.iload_n 1, 1) := by decide +kernel
theorem dL_lineCharacter_4 : decode cL_lineCharacter 4 = .ok (.invokevirtual 145, 3) := by decide +kernel
theorem dL_lineCharacter_7 : decode cL_lineCharacter 7 = .ok (.i2l, 1) := by decide +kernel
theorem dL_lineCharacter_8 : decode cL_lineCharacter 8 = .ok (.lastore, 1) := by decide +kernel
theorem dL_lineCharacter_9 : decode cL_lineCharacter 9 = .ok (.goto 6, 3) := by decide +kernel
theorem dL_lineCharacter_12 : decode cL_lineCharacter 12 = .ok (.astore_n 3, 1) := by decide +kernel
theorem dL_lineCharacter_13 : decode cL_lineCharacter 13 = .ok (.iconst 1, 1) := by decide +kernel
theorem dL_lineCharacter_14 : decode cL_lineCharacter 14 = .ok (.ireturn, 1) := by decide +kernel
theorem dL_lineCharacter_15 : decode cL_lineCharacter 15 = .ok (.iconst 0, 1) := by decide +kernel
theorem dL_lineCharacter_16 : decode cL_lineCharacter 16 = .ok (.ireturn, 1) := by decide +kernel
theorem dL_denial_0 : decode cL_denial 0 = .ok (.aload_n 1, 1) := by decide +kernel
theorem dL_denial_1 : decode cL_denial 1 = .ok (.iconst 0, 1) := by decide +kernel
theorem dL_denial_2 : decode cL_denial 2 = .ok (.aload_n 0, 1) := by decide +kernel
theorem dL_denial_3 : decode cL_denial 3 = .ok (.invokevirtual 148, 3) := by decide +kernel
theorem dL_denial_6 : decode cL_denial 6 = .ok (.i2l, 1) := by decide +kernel
theorem dL_denial_7 : decode cL_denial 7 = .ok (.lastore, 1) := by decide +kernel
theorem dL_denial_8 : decode cL_denial 8 = .ok (.goto 6, 3) := by decide +kernel
theorem dL_denial_11 : decode cL_denial 11 = .ok (.astore_n 2, 1) := by decide +kernel
theorem dL_denial_12 : decode cL_denial 12 = .ok (.iconst 1, 1) := by decide +kernel
theorem dL_denial_13 : decode cL_denial 13 = .ok (.ireturn, 1) := by decide +kernel
theorem dL_denial_14 : decode cL_denial 14 = .ok (.iconst 0, 1) := by decide +kernel
theorem dL_denial_15 : decode cL_denial 15 = .ok (.ireturn, 1) := by decide +kernel
theorem dL_denialDetail_0 : decode cL_denialDetail 0 = .ok (.aload_n 1, 1) := by decide +kernel
theorem dL_denialDetail_1 : decode cL_denialDetail 1 = .ok (.iconst 0, 1) := by decide +kernel
theorem dL_denialDetail_2 : decode cL_denialDetail 2 = .ok (.aload_n 0, 1) := by decide +kernel
theorem dL_denialDetail_3 : decode cL_denialDetail 3 = .ok (.invokevirtual 151, 3) := by decide +kernel
theorem dL_denialDetail_6 : decode cL_denialDetail 6 = .ok (.i2l, 1) := by decide +kernel
theorem dL_denialDetail_7 : decode cL_denialDetail 7 = .ok (.lastore, 1) := by decide +kernel
theorem dL_denialDetail_8 : decode cL_denialDetail 8 = .ok (.goto 6, 3) := by decide +kernel
theorem dL_denialDetail_11 : decode cL_denialDetail 11 = .ok (.astore_n 2, 1) := by decide +kernel
theorem dL_denialDetail_12 : decode cL_denialDetail 12 = .ok (.iconst 1, 1) := by decide +kernel
theorem dL_denialDetail_13 : decode cL_denialDetail 13 = .ok (.ireturn, 1) := by decide +kernel
theorem dL_denialDetail_14 : decode cL_denialDetail 14 = .ok (.iconst 0, 1) := by decide +kernel
theorem dL_denialDetail_15 : decode cL_denialDetail 15 = .ok (.ireturn, 1) := by decide +kernel
theorem dL_denialCause_0 : decode cL_denialCause 0 = .ok (.aload_n 1, 1) := by decide +kernel
theorem dL_denialCause_1 : decode cL_denialCause 1 = .ok (.iconst 0, 1) := by decide +kernel
theorem dL_denialCause_2 : decode cL_denialCause 2 = .ok (.aload_n 0, 1) := by decide +kernel
theorem dL_denialCause_3 : decode cL_denialCause 3 = .ok (.invokevirtual 154, 3) := by decide +kernel
theorem dL_denialCause_6 : decode cL_denialCause 6 = .ok (.i2l, 1) := by decide +kernel
theorem dL_denialCause_7 : decode cL_denialCause 7 = .ok (.lastore, 1) := by decide +kernel
theorem dL_denialCause_8 : decode cL_denialCause 8 = .ok (.goto 6, 3) := by decide +kernel
theorem dL_denialCause_11 : decode cL_denialCause 11 = .ok (.astore_n 2, 1) := by decide +kernel
theorem dL_denialCause_12 : decode cL_denialCause 12 = .ok (.iconst 1, 1) := by decide +kernel
theorem dL_denialCause_13 : decode cL_denialCause 13 = .ok (.ireturn, 1) := by decide +kernel
theorem dL_denialCause_14 : decode cL_denialCause 14 = .ok (.iconst 0, 1) := by decide +kernel
theorem dL_denialCause_15 : decode cL_denialCause 15 = .ok (.ireturn, 1) := by decide +kernel
theorem dL_undo_0 : decode cL_undo 0 = .ok (.aload_n 1, 1) := by decide +kernel
theorem dL_undo_1 : decode cL_undo 1 = .ok (.iconst 0, 1) := by decide +kernel
theorem dL_undo_2 : decode cL_undo 2 = .ok (.aload_n 0, 1) := by decide +kernel
theorem dL_undo_3 : decode cL_undo 3 = .ok (.invokevirtual 157, 3) := by decide +kernel
theorem dL_undo_6 : decode cL_undo 6 = .ok (.i2l, 1) := by decide +kernel
theorem dL_undo_7 : decode cL_undo 7 = .ok (.lastore, 1) := by decide +kernel
theorem dL_undo_8 : decode cL_undo 8 = .ok (.goto 6, 3) := by decide +kernel
theorem dL_undo_11 : decode cL_undo 11 = .ok (.astore_n 2, 1) := by decide +kernel
theorem dL_undo_12 : decode cL_undo 12 = .ok (.iconst 1, 1) := by decide +kernel
theorem dL_undo_13 : decode cL_undo 13 = .ok (.ireturn, 1) := by decide +kernel
theorem dL_undo_14 : decode cL_undo 14 = .ok (.iconst 0, 1) := by decide +kernel
theorem dL_undo_15 : decode cL_undo 15 = .ok (.ireturn, 1) := by decide +kernel
theorem dL_restoreSnapshot_0 : decode cL_restoreSnapshot 0 = .ok (.aload_n 1, 1) := by decide +kernel
theorem dL_restoreSnapshot_1 : decode cL_restoreSnapshot 1 = .ok (.iconst 0, 1) := by decide +kernel
theorem dL_restoreSnapshot_2 : decode cL_restoreSnapshot 2 = .ok (.aload_n 0, 1) := by decide +kernel
theorem dL_restoreSnapshot_3 : decode cL_restoreSnapshot 3 = .ok (.invokevirtual 160, 3) := by decide +kernel
theorem dL_restoreSnapshot_6 : decode cL_restoreSnapshot 6 = .ok (.i2l, 1) := by decide +kernel
theorem dL_restoreSnapshot_7 : decode cL_restoreSnapshot 7 = .ok (.lastore, 1) := by decide +kernel
theorem dL_restoreSnapshot_8 : decode cL_restoreSnapshot 8 = .ok (.goto 6, 3) := by decide +kernel
theorem dL_restoreSnapshot_11 : decode cL_restoreSnapshot 11 = .ok (.astore_n 2, 1) := by decide +kernel
theorem dL_restoreSnapshot_12 : decode cL_restoreSnapshot 12 = .ok (.iconst 1, 1) := by decide +kernel
theorem dL_restoreSnapshot_13 : decode cL_restoreSnapshot 13 = .ok (.ireturn, 1) := by decide +kernel
theorem dL_restoreSnapshot_14 : decode cL_restoreSnapshot 14 = .ok (.iconst 0, 1) := by decide +kernel
theorem dL_restoreSnapshot_15 : decode cL_restoreSnapshot 15 = .ok (.ireturn, 1) := by decide +kernel
theorem dL_law_0 : decode cL_law 0 = .ok (.new 8, 3) := by decide +kernel
theorem dL_law_3 : decode cL_law 3 = .ok (.dup, 1) := by decide +kernel
theorem dL_law_4 : decode cL_law 4 = .ok (.invokespecial 163, 3) := by decide +kernel
theorem dL_law_7 : decode cL_law 7 = .ok (.astore_n 1, 1) := by decide +kernel
theorem dL_law_8 : decode cL_law 8 = .ok (.new 164, 3) := by decide +kernel
theorem dL_law_11 : decode cL_law 11 = .ok (.dup, 1) := by decide +kernel
theorem dL_law_12 : decode cL_law 12 = .ok (.invokespecial 166, 3) := by decide +kernel
theorem dL_law_15 : decode cL_law 15 = .ok (.astore_n 2, 1) := by decide +kernel
theorem dL_law_16 : decode cL_law 16 = .ok (.iconst 1, 1) := by decide +kernel
theorem dL_law_17 : decode cL_law 17 = .ok (.newarray .long, 2) := by decide +kernel
theorem dL_law_19 : decode cL_law 19 = .ok (.astore_n 3, 1) := by decide +kernel
theorem dL_law_20 : decode cL_law 20 = .ok (.iconst 1, 1) := by decide +kernel
theorem dL_law_21 : decode cL_law 21 = .ok (.newarray .double, 2) := by decide +kernel
theorem dL_law_23 : decode cL_law 23 = .ok (.astore 4, 2) := by decide +kernel
theorem dL_law_25 : decode cL_law 25 = .ok (.iconst 0, 1) := by decide +kernel
theorem dL_law_26 : decode cL_law 26 = .ok (.istore 5, 2) := by decide +kernel
theorem dL_law_28 : decode cL_law 28 = .ok (.iload 5, 2) := by decide +kernel
theorem dL_law_30 : decode cL_law 30 = .ok (.aload_n 0, 1) := by decide +kernel
theorem dL_law_31 : decode cL_law 31 = .ok (.arraylength, 1) := by decide +kernel
theorem dL_law_32 : decode cL_law 32 = .ok (.iconst 4, 1) := by decide +kernel
theorem dL_law_33 : decode cL_law 33 = .ok (.isub, 1) := by decide +kernel
theorem dL_law_34 : decode cL_law 34 = .ok (.if_icmp .gt 2833, 3) := by decide +kernel
theorem dL_law_37 : decode cL_law 37 = .ok (.aload_n 0, 1) := by decide +kernel
theorem dL_law_38 : decode cL_law 38 = .ok (.iload 5, 2) := by decide +kernel
theorem dL_law_40 : decode cL_law 40 = .ok (.iaload, 1) := by decide +kernel
theorem dL_law_41 : decode cL_law 41 = .ok (.bipush 63, 2) := by decide +kernel
theorem dL_law_43 : decode cL_law 43 = .ok (.iand, 1) := by decide +kernel
theorem dL_law_44 : decode cL_law 44 = .ok (.tableswitch 2817 0 49 #[216, 260, 330, 386, 442, 498, 511, 567, 635, 698, 754, 810, 866, 922, 990, 1046, 1126, 1193, 1256, 1331, 1406, 1474, 1542, 1598, 1661, 1717, 1780, 1843, 1899, 1955, 1968, 2031, 2087, 2100, 2113, 2178, 2244, 2257, 2315, 2359, 2403, 2459, 2515, 2571, 2615, 2659, 2703, 2747, 2760, 2773], 216) := by decide +kernel
theorem dL_law_260 : decode cL_law 260 = .ok (.aload_n 1, 1) := by decide +kernel
theorem dL_law_261 : decode cL_law 261 = .ok (.aload_n 3, 1) := by decide +kernel
theorem dL_law_262 : decode cL_law 262 = .ok (.invokestatic 167, 3) := by decide +kernel
theorem dL_law_265 : decode cL_law 265 = .ok (.istore 6, 2) := by decide +kernel
theorem dL_law_267 : decode cL_law 267 = .ok (.aload_n 2, 1) := by decide +kernel
theorem dL_law_268 : decode cL_law 268 = .ok (.invokevirtual 172, 3) := by decide +kernel
theorem dL_law_271 : decode cL_law 271 = .ok (.istore 7, 2) := by decide +kernel
theorem dL_law_273 : decode cL_law 273 = .ok (.aload_n 2, 1) := by decide +kernel
theorem dL_law_274 : decode cL_law 274 = .ok (.invokevirtual 173, 3) := by decide +kernel
theorem dL_law_277 : decode cL_law 277 = .ok (.iload 6, 2) := by decide +kernel
theorem dL_law_279 : decode cL_law 279 = .ok (.if_icmp .eq 5, 3) := by decide +kernel
theorem dL_law_282 : decode cL_law 282 = .ok (.iconst 0, 1) := by decide +kernel
theorem dL_law_283 : decode cL_law 283 = .ok (.ireturn, 1) := by decide +kernel
theorem dL_law_284 : decode cL_law 284 = .ok (.iload 6, 2) := by decide +kernel
theorem dL_law_286 : decode cL_law 286 = .ok (.ifCond .ne 15, 3) := by decide +kernel
theorem dL_law_289 : decode cL_law 289 = .ok (.aload_n 3, 1) := by decide +kernel
theorem dL_law_290 : decode cL_law 290 = .ok (.iconst 0, 1) := by decide +kernel
theorem dL_law_291 : decode cL_law 291 = .ok (.laload, 1) := by decide +kernel
theorem dL_law_292 : decode cL_law 292 = .ok (.iload 7, 2) := by decide +kernel
theorem dL_law_294 : decode cL_law 294 = .ok (.i2l, 1) := by decide +kernel
theorem dL_law_295 : decode cL_law 295 = .ok (.lcmp, 1) := by decide +kernel
theorem dL_law_296 : decode cL_law 296 = .ok (.ifCond .eq 5, 3) := by decide +kernel
theorem dL_law_299 : decode cL_law 299 = .ok (.iconst 0, 1) := by decide +kernel
theorem dL_law_300 : decode cL_law 300 = .ok (.ireturn, 1) := by decide +kernel
theorem dL_law_301 : decode cL_law 301 = .ok (.goto 2560, 3) := by decide +kernel
theorem dL_law_304 : decode cL_law 304 = .ok (.aload_n 1, 1) := by decide +kernel
theorem dL_law_305 : decode cL_law 305 = .ok (.aload_n 0, 1) := by decide +kernel
theorem dL_law_306 : decode cL_law 306 = .ok (.iload 5, 2) := by decide +kernel
theorem dL_law_308 : decode cL_law 308 = .ok (.iconst 1, 1) := by decide +kernel
theorem dL_law_309 : decode cL_law 309 = .ok (.iadd, 1) := by decide +kernel
theorem dL_law_310 : decode cL_law 310 = .ok (.iaload, 1) := by decide +kernel
theorem dL_law_311 : decode cL_law 311 = .ok (.aload_n 0, 1) := by decide +kernel
theorem dL_law_312 : decode cL_law 312 = .ok (.iload 5, 2) := by decide +kernel
theorem dL_law_314 : decode cL_law 314 = .ok (.iconst 2, 1) := by decide +kernel
theorem dL_law_315 : decode cL_law 315 = .ok (.iadd, 1) := by decide +kernel
theorem dL_law_316 : decode cL_law 316 = .ok (.iaload, 1) := by decide +kernel
theorem dL_law_317 : decode cL_law 317 = .ok (.i2c, 1) := by decide +kernel
theorem dL_law_318 : decode cL_law 318 = .ok (.aload_n 3, 1) := by decide +kernel
theorem dL_law_319 : decode cL_law 319 = .ok (.invokestatic 176, 3) := by decide +kernel
theorem dL_law_322 : decode cL_law 322 = .ok (.istore 6, 2) := by decide +kernel
theorem dL_law_324 : decode cL_law 324 = .ok (.aload_n 2, 1) := by decide +kernel
theorem dL_law_325 : decode cL_law 325 = .ok (.aload_n 0, 1) := by decide +kernel
theorem dL_law_326 : decode cL_law 326 = .ok (.iload 5, 2) := by decide +kernel
theorem dL_law_328 : decode cL_law 328 = .ok (.iconst 1, 1) := by decide +kernel
theorem dL_law_329 : decode cL_law 329 = .ok (.iadd, 1) := by decide +kernel
theorem dL_law_330 : decode cL_law 330 = .ok (.iaload, 1) := by decide +kernel
theorem dL_law_331 : decode cL_law 331 = .ok (.aload_n 0, 1) := by decide +kernel
theorem dL_law_332 : decode cL_law 332 = .ok (.iload 5, 2) := by decide +kernel
theorem dL_law_334 : decode cL_law 334 = .ok (.iconst 2, 1) := by decide +kernel
theorem dL_law_335 : decode cL_law 335 = .ok (.iadd, 1) := by decide +kernel
theorem dL_law_336 : decode cL_law 336 = .ok (.iaload, 1) := by decide +kernel
theorem dL_law_337 : decode cL_law 337 = .ok (.i2c, 1) := by decide +kernel
theorem dL_law_338 : decode cL_law 338 = .ok (.invokevirtual 179, 3) := by decide +kernel
theorem dL_law_341 : decode cL_law 341 = .ok (.istore 7, 2) := by decide +kernel
theorem dL_law_343 : decode cL_law 343 = .ok (.aload_n 2, 1) := by decide +kernel
theorem dL_law_344 : decode cL_law 344 = .ok (.invokevirtual 173, 3) := by decide +kernel
theorem dL_law_347 : decode cL_law 347 = .ok (.iload 6, 2) := by decide +kernel
theorem dL_law_349 : decode cL_law 349 = .ok (.if_icmp .eq 5, 3) := by decide +kernel
theorem dL_law_352 : decode cL_law 352 = .ok (.iconst 0, 1) := by decide +kernel
theorem dL_law_353 : decode cL_law 353 = .ok (.ireturn, 1) := by decide +kernel
theorem dL_law_354 : decode cL_law 354 = .ok (.iload 6, 2) := by decide +kernel
theorem dL_law_356 : decode cL_law 356 = .ok (.ifCond .ne 15, 3) := by decide +kernel
theorem dL_law_359 : decode cL_law 359 = .ok (.aload_n 3, 1) := by decide +kernel
theorem dL_law_360 : decode cL_law 360 = .ok (.iconst 0, 1) := by decide +kernel
theorem dL_law_361 : decode cL_law 361 = .ok (.laload, 1) := by decide +kernel
theorem dL_law_362 : decode cL_law 362 = .ok (.iload 7, 2) := by decide +kernel
theorem dL_law_364 : decode cL_law 364 = .ok (.i2l, 1) := by decide +kernel
theorem dL_law_365 : decode cL_law 365 = .ok (.lcmp, 1) := by decide +kernel
theorem dL_law_366 : decode cL_law 366 = .ok (.ifCond .eq 5, 3) := by decide +kernel
theorem dL_law_369 : decode cL_law 369 = .ok (.iconst 0, 1) := by decide +kernel
theorem dL_law_370 : decode cL_law 370 = .ok (.ireturn, 1) := by decide +kernel
theorem dL_law_371 : decode cL_law 371 = .ok (.goto 2490, 3) := by decide +kernel
theorem dL_law_374 : decode cL_law 374 = .ok (.aload_n 1, 1) := by decide +kernel
theorem dL_law_375 : decode cL_law 375 = .ok (.aload_n 0, 1) := by decide +kernel
theorem dL_law_376 : decode cL_law 376 = .ok (.iload 5, 2) := by decide +kernel
theorem dL_law_378 : decode cL_law 378 = .ok (.iconst 1, 1) := by decide +kernel
theorem dL_law_379 : decode cL_law 379 = .ok (.iadd, 1) := by decide +kernel
theorem dL_law_380 : decode cL_law 380 = .ok (.iaload, 1) := by decide +kernel
theorem dL_law_381 : decode cL_law 381 = .ok (.aload_n 3, 1) := by decide +kernel
theorem dL_law_382 : decode cL_law 382 = .ok (.invokestatic 180, 3) := by decide +kernel
theorem dL_law_385 : decode cL_law 385 = .ok (.istore 6, 2) := by decide +kernel
theorem dL_law_387 : decode cL_law 387 = .ok (.aload_n 2, 1) := by decide +kernel
theorem dL_law_388 : decode cL_law 388 = .ok (.aload_n 0, 1) := by decide +kernel
theorem dL_law_389 : decode cL_law 389 = .ok (.iload 5, 2) := by decide +kernel
theorem dL_law_391 : decode cL_law 391 = .ok (.iconst 1, 1) := by decide +kernel
theorem dL_law_392 : decode cL_law 392 = .ok (.iadd, 1) := by decide +kernel
theorem dL_law_393 : decode cL_law 393 = .ok (.iaload, 1) := by decide +kernel
theorem dL_law_394 : decode cL_law 394 = .ok (.invokevirtual 183, 3) := by decide +kernel
theorem dL_law_397 : decode cL_law 397 = .ok (.istore 7, 2) := by decide +kernel
theorem dL_law_399 : decode cL_law 399 = .ok (.aload_n 2, 1) := by decide +kernel
theorem dL_law_400 : decode cL_law 400 = .ok (.invokevirtual 173, 3) := by decide +kernel
theorem dL_law_403 : decode cL_law 403 = .ok (.iload 6, 2) := by decide +kernel
theorem dL_law_405 : decode cL_law 405 = .ok (.if_icmp .eq 5, 3) := by decide +kernel
theorem dL_law_408 : decode cL_law 408 = .ok (.iconst 0, 1) := by decide +kernel
theorem dL_law_409 : decode cL_law 409 = .ok (.ireturn, 1) := by decide +kernel
theorem dL_law_410 : decode cL_law 410 = .ok (.iload 6, 2) := by decide +kernel
theorem dL_law_412 : decode cL_law 412 = .ok (.ifCond .ne 15, 3) := by decide +kernel
theorem dL_law_415 : decode cL_law 415 = .ok (.aload_n 3, 1) := by decide +kernel
theorem dL_law_416 : decode cL_law 416 = .ok (.iconst 0, 1) := by decide +kernel
theorem dL_law_417 : decode cL_law 417 = .ok (.laload, 1) := by decide +kernel
theorem dL_law_418 : decode cL_law 418 = .ok (.iload 7, 2) := by decide +kernel
theorem dL_law_420 : decode cL_law 420 = .ok (.i2l, 1) := by decide +kernel
theorem dL_law_421 : decode cL_law 421 = .ok (.lcmp, 1) := by decide +kernel
theorem dL_law_422 : decode cL_law 422 = .ok (.ifCond .eq 5, 3) := by decide +kernel
theorem dL_law_425 : decode cL_law 425 = .ok (.iconst 0, 1) := by decide +kernel
theorem dL_law_426 : decode cL_law 426 = .ok (.ireturn, 1) := by decide +kernel
theorem dL_law_427 : decode cL_law 427 = .ok (.goto 2434, 3) := by decide +kernel
theorem dL_law_430 : decode cL_law 430 = .ok (.aload_n 1, 1) := by decide +kernel
theorem dL_law_431 : decode cL_law 431 = .ok (.aload_n 0, 1) := by decide +kernel
theorem dL_law_432 : decode cL_law 432 = .ok (.iload 5, 2) := by decide +kernel
theorem dL_law_434 : decode cL_law 434 = .ok (.iconst 1, 1) := by decide +kernel
theorem dL_law_435 : decode cL_law 435 = .ok (.iadd, 1) := by decide +kernel
theorem dL_law_436 : decode cL_law 436 = .ok (.iaload, 1) := by decide +kernel
theorem dL_law_437 : decode cL_law 437 = .ok (.aload_n 3, 1) := by decide +kernel
theorem dL_law_438 : decode cL_law 438 = .ok (.invokestatic 184, 3) := by decide +kernel
theorem dL_law_441 : decode cL_law 441 = .ok (.istore 6, 2) := by decide +kernel
theorem dL_law_443 : decode cL_law 443 = .ok (.aload_n 2, 1) := by decide +kernel
theorem dL_law_444 : decode cL_law 444 = .ok (.aload_n 0, 1) := by decide +kernel
theorem dL_law_445 : decode cL_law 445 = .ok (.iload 5, 2) := by decide +kernel
theorem dL_law_447 : decode cL_law 447 = .ok (.iconst 1, 1) := by decide +kernel
theorem dL_law_448 : decode cL_law 448 = .ok (.iadd, 1) := by decide +kernel
theorem dL_law_449 : decode cL_law 449 = .ok (.iaload, 1) := by decide +kernel
theorem dL_law_450 : decode cL_law 450 = .ok (.invokevirtual 186, 3) := by decide +kernel
theorem dL_law_453 : decode cL_law 453 = .ok (.istore 7, 2) := by decide +kernel
theorem dL_law_455 : decode cL_law 455 = .ok (.aload_n 2, 1) := by decide +kernel
theorem dL_law_456 : decode cL_law 456 = .ok (.invokevirtual 173, 3) := by decide +kernel
theorem dL_law_459 : decode cL_law 459 = .ok (.iload 6, 2) := by decide +kernel
theorem dL_law_461 : decode cL_law 461 = .ok (.if_icmp .eq 5, 3) := by decide +kernel
theorem dL_law_464 : decode cL_law 464 = .ok (.iconst 0, 1) := by decide +kernel
theorem dL_law_465 : decode cL_law 465 = .ok (.ireturn, 1) := by decide +kernel
theorem dL_law_466 : decode cL_law 466 = .ok (.iload 6, 2) := by decide +kernel
theorem dL_law_468 : decode cL_law 468 = .ok (.ifCond .ne 15, 3) := by decide +kernel
theorem dL_law_471 : decode cL_law 471 = .ok (.aload_n 3, 1) := by decide +kernel
theorem dL_law_472 : decode cL_law 472 = .ok (.iconst 0, 1) := by decide +kernel
theorem dL_law_473 : decode cL_law 473 = .ok (.laload, 1) := by decide +kernel
theorem dL_law_474 : decode cL_law 474 = .ok (.iload 7, 2) := by decide +kernel
theorem dL_law_476 : decode cL_law 476 = .ok (.i2l, 1) := by decide +kernel
theorem dL_law_477 : decode cL_law 477 = .ok (.lcmp, 1) := by decide +kernel
theorem dL_law_478 : decode cL_law 478 = .ok (.ifCond .eq 5, 3) := by decide +kernel
theorem dL_law_481 : decode cL_law 481 = .ok (.iconst 0, 1) := by decide +kernel
theorem dL_law_482 : decode cL_law 482 = .ok (.ireturn, 1) := by decide +kernel
theorem dL_law_483 : decode cL_law 483 = .ok (.goto 2378, 3) := by decide +kernel
theorem dL_law_486 : decode cL_law 486 = .ok (.aload_n 1, 1) := by decide +kernel
theorem dL_law_487 : decode cL_law 487 = .ok (.aload_n 0, 1) := by decide +kernel
theorem dL_law_488 : decode cL_law 488 = .ok (.iload 5, 2) := by decide +kernel
theorem dL_law_490 : decode cL_law 490 = .ok (.iconst 1, 1) := by decide +kernel
theorem dL_law_491 : decode cL_law 491 = .ok (.iadd, 1) := by decide +kernel
theorem dL_law_492 : decode cL_law 492 = .ok (.iaload, 1) := by decide +kernel
theorem dL_law_493 : decode cL_law 493 = .ok (.aload_n 3, 1) := by decide +kernel
theorem dL_law_494 : decode cL_law 494 = .ok (.invokestatic 187, 3) := by decide +kernel
theorem dL_law_497 : decode cL_law 497 = .ok (.istore 6, 2) := by decide +kernel
theorem dL_law_499 : decode cL_law 499 = .ok (.aload_n 2, 1) := by decide +kernel
theorem dL_law_500 : decode cL_law 500 = .ok (.aload_n 0, 1) := by decide +kernel
theorem dL_law_501 : decode cL_law 501 = .ok (.iload 5, 2) := by decide +kernel
theorem dL_law_503 : decode cL_law 503 = .ok (.iconst 1, 1) := by decide +kernel
theorem dL_law_504 : decode cL_law 504 = .ok (.iadd, 1) := by decide +kernel
theorem dL_law_505 : decode cL_law 505 = .ok (.iaload, 1) := by decide +kernel
theorem dL_law_506 : decode cL_law 506 = .ok (.invokevirtual 189, 3) := by decide +kernel
theorem dL_law_509 : decode cL_law 509 = .ok (.istore 7, 2) := by decide +kernel
theorem dL_law_511 : decode cL_law 511 = .ok (.aload_n 2, 1) := by decide +kernel
theorem dL_law_512 : decode cL_law 512 = .ok (.invokevirtual 173, 3) := by decide +kernel
theorem dL_law_515 : decode cL_law 515 = .ok (.iload 6, 2) := by decide +kernel
theorem dL_law_517 : decode cL_law 517 = .ok (.if_icmp .eq 5, 3) := by decide +kernel
theorem dL_law_520 : decode cL_law 520 = .ok (.iconst 0, 1) := by decide +kernel
theorem dL_law_521 : decode cL_law 521 = .ok (.ireturn, 1) := by decide +kernel
theorem dL_law_522 : decode cL_law 522 = .ok (.iload 6, 2) := by decide +kernel
theorem dL_law_524 : decode cL_law 524 = .ok (.ifCond .ne 15, 3) := by decide +kernel
theorem dL_law_527 : decode cL_law 527 = .ok (.aload_n 3, 1) := by decide +kernel
theorem dL_law_528 : decode cL_law 528 = .ok (.iconst 0, 1) := by decide +kernel
theorem dL_law_529 : decode cL_law 529 = .ok (.laload, 1) := by decide +kernel
theorem dL_law_530 : decode cL_law 530 = .ok (.iload 7, 2) := by decide +kernel
theorem dL_law_532 : decode cL_law 532 = .ok (.i2l, 1) := by decide +kernel
theorem dL_law_533 : decode cL_law 533 = .ok (.lcmp, 1) := by decide +kernel
theorem dL_law_534 : decode cL_law 534 = .ok (.ifCond .eq 5, 3) := by decide +kernel
theorem dL_law_537 : decode cL_law 537 = .ok (.iconst 0, 1) := by decide +kernel
theorem dL_law_538 : decode cL_law 538 = .ok (.ireturn, 1) := by decide +kernel
theorem dL_law_539 : decode cL_law 539 = .ok (.goto 2322, 3) := by decide +kernel
theorem dL_law_542 : decode cL_law 542 = .ok (.aload_n 1, 1) := by decide +kernel
theorem dL_law_543 : decode cL_law 543 = .ok (.invokevirtual 190, 3) := by decide +kernel
theorem dL_law_546 : decode cL_law 546 = .ok (.aload_n 2, 1) := by decide +kernel
theorem dL_law_547 : decode cL_law 547 = .ok (.invokevirtual 193, 3) := by decide +kernel
theorem dL_law_550 : decode cL_law 550 = .ok (.if_icmp .eq 2311, 3) := by decide +kernel
theorem dL_law_553 : decode cL_law 553 = .ok (.iconst 0, 1) := by decide +kernel
theorem dL_law_554 : decode cL_law 554 = .ok (.ireturn, 1) := by decide +kernel
theorem dL_law_555 : decode cL_law 555 = .ok (.aload_n 1, 1) := by decide +kernel
theorem dL_law_556 : decode cL_law 556 = .ok (.aload_n 0, 1) := by decide +kernel
theorem dL_law_557 : decode cL_law 557 = .ok (.iload 5, 2) := by decide +kernel
theorem dL_law_559 : decode cL_law 559 = .ok (.iconst 1, 1) := by decide +kernel
theorem dL_law_560 : decode cL_law 560 = .ok (.iadd, 1) := by decide +kernel
theorem dL_law_561 : decode cL_law 561 = .ok (.iaload, 1) := by decide +kernel
theorem dL_law_562 : decode cL_law 562 = .ok (.aload_n 3, 1) := by decide +kernel
theorem dL_law_563 : decode cL_law 563 = .ok (.invokestatic 194, 3) := by decide +kernel
theorem dL_law_566 : decode cL_law 566 = .ok (.istore 6, 2) := by decide +kernel
theorem dL_law_568 : decode cL_law 568 = .ok (.aload_n 2, 1) := by decide +kernel
theorem dL_law_569 : decode cL_law 569 = .ok (.aload_n 0, 1) := by decide +kernel
theorem dL_law_570 : decode cL_law 570 = .ok (.iload 5, 2) := by decide +kernel
theorem dL_law_572 : decode cL_law 572 = .ok (.iconst 1, 1) := by decide +kernel
theorem dL_law_573 : decode cL_law 573 = .ok (.iadd, 1) := by decide +kernel
theorem dL_law_574 : decode cL_law 574 = .ok (.iaload, 1) := by decide +kernel
theorem dL_law_575 : decode cL_law 575 = .ok (.invokevirtual 196, 3) := by decide +kernel
theorem dL_law_578 : decode cL_law 578 = .ok (.istore 7, 2) := by decide +kernel
theorem dL_law_580 : decode cL_law 580 = .ok (.aload_n 2, 1) := by decide +kernel
theorem dL_law_581 : decode cL_law 581 = .ok (.invokevirtual 173, 3) := by decide +kernel
theorem dL_law_584 : decode cL_law 584 = .ok (.iload 6, 2) := by decide +kernel
theorem dL_law_586 : decode cL_law 586 = .ok (.if_icmp .eq 5, 3) := by decide +kernel
theorem dL_law_589 : decode cL_law 589 = .ok (.iconst 0, 1) := by decide +kernel
theorem dL_law_590 : decode cL_law 590 = .ok (.ireturn, 1) := by decide +kernel
theorem dL_law_591 : decode cL_law 591 = .ok (.iload 6, 2) := by decide +kernel
theorem dL_law_593 : decode cL_law 593 = .ok (.ifCond .ne 15, 3) := by decide +kernel
theorem dL_law_596 : decode cL_law 596 = .ok (.aload_n 3, 1) := by decide +kernel
theorem dL_law_597 : decode cL_law 597 = .ok (.iconst 0, 1) := by decide +kernel
theorem dL_law_598 : decode cL_law 598 = .ok (.laload, 1) := by decide +kernel
theorem dL_law_599 : decode cL_law 599 = .ok (.iload 7, 2) := by decide +kernel
theorem dL_law_601 : decode cL_law 601 = .ok (.i2l, 1) := by decide +kernel
theorem dL_law_602 : decode cL_law 602 = .ok (.lcmp, 1) := by decide +kernel
theorem dL_law_603 : decode cL_law 603 = .ok (.ifCond .eq 5, 3) := by decide +kernel
theorem dL_law_606 : decode cL_law 606 = .ok (.iconst 0, 1) := by decide +kernel
theorem dL_law_607 : decode cL_law 607 = .ok (.ireturn, 1) := by decide +kernel
theorem dL_law_608 : decode cL_law 608 = .ok (.goto 2253, 3) := by decide +kernel
theorem dL_law_611 : decode cL_law 611 = .ok (.aload_n 1, 1) := by decide +kernel
theorem dL_law_612 : decode cL_law 612 = .ok (.aload_n 0, 1) := by decide +kernel
theorem dL_law_613 : decode cL_law 613 = .ok (.iload 5, 2) := by decide +kernel
theorem dL_law_615 : decode cL_law 615 = .ok (.iconst 1, 1) := by decide +kernel
theorem dL_law_616 : decode cL_law 616 = .ok (.iadd, 1) := by decide +kernel
theorem dL_law_617 : decode cL_law 617 = .ok (.iaload, 1) := by decide +kernel
theorem dL_law_618 : decode cL_law 618 = .ok (.aload_n 0, 1) := by decide +kernel
theorem dL_law_619 : decode cL_law 619 = .ok (.iload 5, 2) := by decide +kernel
theorem dL_law_621 : decode cL_law 621 = .ok (.iconst 2, 1) := by decide +kernel
theorem dL_law_622 : decode cL_law 622 = .ok (.iadd, 1) := by decide +kernel
theorem dL_law_623 : decode cL_law 623 = .ok (.iaload, 1) := by decide +kernel
theorem dL_law_624 : decode cL_law 624 = .ok (.aload_n 3, 1) := by decide +kernel
theorem dL_law_625 : decode cL_law 625 = .ok (.invokestatic 197, 3) := by decide +kernel
theorem dL_law_628 : decode cL_law 628 = .ok (.istore 6, 2) := by decide +kernel
theorem dL_law_630 : decode cL_law 630 = .ok (.aload_n 2, 1) := by decide +kernel
theorem dL_law_631 : decode cL_law 631 = .ok (.aload_n 0, 1) := by decide +kernel
theorem dL_law_632 : decode cL_law 632 = .ok (.iload 5, 2) := by decide +kernel
theorem dL_law_634 : decode cL_law 634 = .ok (.iconst 1, 1) := by decide +kernel
theorem dL_law_635 : decode cL_law 635 = .ok (.iadd, 1) := by decide +kernel
theorem dL_law_636 : decode cL_law 636 = .ok (.iaload, 1) := by decide +kernel
theorem dL_law_637 : decode cL_law 637 = .ok (.aload_n 0, 1) := by decide +kernel
theorem dL_law_638 : decode cL_law 638 = .ok (.iload 5, 2) := by decide +kernel
theorem dL_law_640 : decode cL_law 640 = .ok (.iconst 2, 1) := by decide +kernel
theorem dL_law_641 : decode cL_law 641 = .ok (.iadd, 1) := by decide +kernel
theorem dL_law_642 : decode cL_law 642 = .ok (.iaload, 1) := by decide +kernel
theorem dL_law_643 : decode cL_law 643 = .ok (.invokevirtual 200, 3) := by decide +kernel
theorem dL_law_646 : decode cL_law 646 = .ok (.istore 7, 2) := by decide +kernel
theorem dL_law_648 : decode cL_law 648 = .ok (.aload_n 2, 1) := by decide +kernel
theorem dL_law_649 : decode cL_law 649 = .ok (.invokevirtual 173, 3) := by decide +kernel
theorem dL_law_652 : decode cL_law 652 = .ok (.iload 6, 2) := by decide +kernel
theorem dL_law_654 : decode cL_law 654 = .ok (.if_icmp .eq 5, 3) := by decide +kernel
theorem dL_law_657 : decode cL_law 657 = .ok (.iconst 0, 1) := by decide +kernel
theorem dL_law_658 : decode cL_law 658 = .ok (.ireturn, 1) := by decide +kernel
theorem dL_law_659 : decode cL_law 659 = .ok (.iload 6, 2) := by decide +kernel
theorem dL_law_661 : decode cL_law 661 = .ok (.ifCond .ne 15, 3) := by decide +kernel
theorem dL_law_664 : decode cL_law 664 = .ok (.aload_n 3, 1) := by decide +kernel
theorem dL_law_665 : decode cL_law 665 = .ok (.iconst 0, 1) := by decide +kernel
theorem dL_law_666 : decode cL_law 666 = .ok (.laload, 1) := by decide +kernel
theorem dL_law_667 : decode cL_law 667 = .ok (.iload 7, 2) := by decide +kernel
theorem dL_law_669 : decode cL_law 669 = .ok (.i2l, 1) := by decide +kernel
theorem dL_law_670 : decode cL_law 670 = .ok (.lcmp, 1) := by decide +kernel
theorem dL_law_671 : decode cL_law 671 = .ok (.ifCond .eq 5, 3) := by decide +kernel
theorem dL_law_674 : decode cL_law 674 = .ok (.iconst 0, 1) := by decide +kernel
theorem dL_law_675 : decode cL_law 675 = .ok (.ireturn, 1) := by decide +kernel
theorem dL_law_676 : decode cL_law 676 = .ok (.goto 2185, 3) := by decide +kernel
theorem dL_law_679 : decode cL_law 679 = .ok (.aload_n 1, 1) := by decide +kernel
theorem dL_law_680 : decode cL_law 680 = .ok (.aload_n 0, 1) := by decide +kernel
theorem dL_law_681 : decode cL_law 681 = .ok (.iload 5, 2) := by decide +kernel
theorem dL_law_683 : decode cL_law 683 = .ok (.iconst 1, 1) := by decide +kernel
theorem dL_law_684 : decode cL_law 684 = .ok (.iadd, 1) := by decide +kernel
theorem dL_law_685 : decode cL_law 685 = .ok (.iaload, 1) := by decide +kernel
theorem dL_law_686 : decode cL_law 686 = .ok (.aload_n 3, 1) := by decide +kernel
theorem dL_law_687 : decode cL_law 687 = .ok (.invokestatic 201, 3) := by decide +kernel
theorem dL_law_690 : decode cL_law 690 = .ok (.istore 6, 2) := by decide +kernel
theorem dL_law_692 : decode cL_law 692 = .ok (.aload_n 2, 1) := by decide +kernel
theorem dL_law_693 : decode cL_law 693 = .ok (.aload_n 0, 1) := by decide +kernel
theorem dL_law_694 : decode cL_law 694 = .ok (.iload 5, 2) := by decide +kernel
theorem dL_law_696 : decode cL_law 696 = .ok (.iconst 1, 1) := by decide +kernel
theorem dL_law_697 : decode cL_law 697 = .ok (.iadd, 1) := by decide +kernel
theorem dL_law_698 : decode cL_law 698 = .ok (.iaload, 1) := by decide +kernel
theorem dL_law_699 : decode cL_law 699 = .ok (.invokevirtual 203, 3) := by decide +kernel
theorem dL_law_702 : decode cL_law 702 = .ok (.istore 7, 2) := by decide +kernel
theorem dL_law_704 : decode cL_law 704 = .ok (.aload_n 2, 1) := by decide +kernel
theorem dL_law_705 : decode cL_law 705 = .ok (.invokevirtual 173, 3) := by decide +kernel
theorem dL_law_708 : decode cL_law 708 = .ok (.iload 6, 2) := by decide +kernel
theorem dL_law_710 : decode cL_law 710 = .ok (.if_icmp .eq 5, 3) := by decide +kernel
theorem dL_law_713 : decode cL_law 713 = .ok (.iconst 0, 1) := by decide +kernel
theorem dL_law_714 : decode cL_law 714 = .ok (.ireturn, 1) := by decide +kernel
theorem dL_law_715 : decode cL_law 715 = .ok (.iload 6, 2) := by decide +kernel
theorem dL_law_717 : decode cL_law 717 = .ok (.ifCond .ne 22, 3) := by decide +kernel
theorem dL_law_720 : decode cL_law 720 = .ok (.aload_n 3, 1) := by decide +kernel
theorem dL_law_721 : decode cL_law 721 = .ok (.iconst 0, 1) := by decide +kernel
theorem dL_law_722 : decode cL_law 722 = .ok (.laload, 1) := by decide +kernel
theorem dL_law_723 : decode cL_law 723 = .ok (.iload 7, 2) := by decide +kernel
theorem dL_law_725 : decode cL_law 725 = .ok (.ifCond .eq 7, 3) := by decide +kernel
theorem dL_law_728 : decode cL_law 728 = .ok (.lconst 1, 1) := by decide +kernel
theorem dL_law_729 : decode cL_law 729 = .ok (.goto 4, 3) := by decide +kernel
theorem dL_law_732 : decode cL_law 732 = .ok (.lconst 0, 1) := by decide +kernel
theorem dL_law_733 : decode cL_law 733 = .ok (.lcmp, 1) := by decide +kernel
theorem dL_law_734 : decode cL_law 734 = .ok (.ifCond .eq 5, 3) := by decide +kernel
theorem dL_law_737 : decode cL_law 737 = .ok (.iconst 0, 1) := by decide +kernel
theorem dL_law_738 : decode cL_law 738 = .ok (.ireturn, 1) := by decide +kernel
theorem dL_law_739 : decode cL_law 739 = .ok (.goto 2122, 3) := by decide +kernel
theorem dL_law_742 : decode cL_law 742 = .ok (.aload_n 1, 1) := by decide +kernel
theorem dL_law_743 : decode cL_law 743 = .ok (.aload_n 0, 1) := by decide +kernel
theorem dL_law_744 : decode cL_law 744 = .ok (.iload 5, 2) := by decide +kernel
theorem dL_law_746 : decode cL_law 746 = .ok (.iconst 1, 1) := by decide +kernel
theorem dL_law_747 : decode cL_law 747 = .ok (.iadd, 1) := by decide +kernel
theorem dL_law_748 : decode cL_law 748 = .ok (.iaload, 1) := by decide +kernel
theorem dL_law_749 : decode cL_law 749 = .ok (.aload_n 3, 1) := by decide +kernel
theorem dL_law_750 : decode cL_law 750 = .ok (.invokestatic 204, 3) := by decide +kernel
theorem dL_law_753 : decode cL_law 753 = .ok (.istore 6, 2) := by decide +kernel
theorem dL_law_755 : decode cL_law 755 = .ok (.aload_n 2, 1) := by decide +kernel
theorem dL_law_756 : decode cL_law 756 = .ok (.aload_n 0, 1) := by decide +kernel
theorem dL_law_757 : decode cL_law 757 = .ok (.iload 5, 2) := by decide +kernel
theorem dL_law_759 : decode cL_law 759 = .ok (.iconst 1, 1) := by decide +kernel
theorem dL_law_760 : decode cL_law 760 = .ok (.iadd, 1) := by decide +kernel
theorem dL_law_761 : decode cL_law 761 = .ok (.iaload, 1) := by decide +kernel
theorem dL_law_762 : decode cL_law 762 = .ok (.invokevirtual 206, 3) := by decide +kernel
theorem dL_law_765 : decode cL_law 765 = .ok (.istore 7, 2) := by decide +kernel
theorem dL_law_767 : decode cL_law 767 = .ok (.aload_n 2, 1) := by decide +kernel
theorem dL_law_768 : decode cL_law 768 = .ok (.invokevirtual 173, 3) := by decide +kernel
theorem dL_law_771 : decode cL_law 771 = .ok (.iload 6, 2) := by decide +kernel
theorem dL_law_773 : decode cL_law 773 = .ok (.if_icmp .eq 5, 3) := by decide +kernel
theorem dL_law_776 : decode cL_law 776 = .ok (.iconst 0, 1) := by decide +kernel
theorem dL_law_777 : decode cL_law 777 = .ok (.ireturn, 1) := by decide +kernel
theorem dL_law_778 : decode cL_law 778 = .ok (.iload 6, 2) := by decide +kernel
theorem dL_law_780 : decode cL_law 780 = .ok (.ifCond .ne 15, 3) := by decide +kernel
theorem dL_law_783 : decode cL_law 783 = .ok (.aload_n 3, 1) := by decide +kernel
theorem dL_law_784 : decode cL_law 784 = .ok (.iconst 0, 1) := by decide +kernel
theorem dL_law_785 : decode cL_law 785 = .ok (.laload, 1) := by decide +kernel
theorem dL_law_786 : decode cL_law 786 = .ok (.iload 7, 2) := by decide +kernel
theorem dL_law_788 : decode cL_law 788 = .ok (.i2l, 1) := by decide +kernel
theorem dL_law_789 : decode cL_law 789 = .ok (.lcmp, 1) := by decide +kernel
theorem dL_law_790 : decode cL_law 790 = .ok (.ifCond .eq 5, 3) := by decide +kernel
theorem dL_law_793 : decode cL_law 793 = .ok (.iconst 0, 1) := by decide +kernel
theorem dL_law_794 : decode cL_law 794 = .ok (.ireturn, 1) := by decide +kernel
theorem dL_law_795 : decode cL_law 795 = .ok (.goto 2066, 3) := by decide +kernel
theorem dL_law_798 : decode cL_law 798 = .ok (.aload_n 1, 1) := by decide +kernel
theorem dL_law_799 : decode cL_law 799 = .ok (.aload_n 0, 1) := by decide +kernel
theorem dL_law_800 : decode cL_law 800 = .ok (.iload 5, 2) := by decide +kernel
theorem dL_law_802 : decode cL_law 802 = .ok (.iconst 1, 1) := by decide +kernel
theorem dL_law_803 : decode cL_law 803 = .ok (.iadd, 1) := by decide +kernel
theorem dL_law_804 : decode cL_law 804 = .ok (.iaload, 1) := by decide +kernel
theorem dL_law_805 : decode cL_law 805 = .ok (.aload_n 3, 1) := by decide +kernel
theorem dL_law_806 : decode cL_law 806 = .ok (.invokestatic 207, 3) := by decide +kernel
theorem dL_law_809 : decode cL_law 809 = .ok (.istore 6, 2) := by decide +kernel
theorem dL_law_811 : decode cL_law 811 = .ok (.aload_n 2, 1) := by decide +kernel
theorem dL_law_812 : decode cL_law 812 = .ok (.aload_n 0, 1) := by decide +kernel
theorem dL_law_813 : decode cL_law 813 = .ok (.iload 5, 2) := by decide +kernel
theorem dL_law_815 : decode cL_law 815 = .ok (.iconst 1, 1) := by decide +kernel
theorem dL_law_816 : decode cL_law 816 = .ok (.iadd, 1) := by decide +kernel
theorem dL_law_817 : decode cL_law 817 = .ok (.iaload, 1) := by decide +kernel
theorem dL_law_818 : decode cL_law 818 = .ok (.invokevirtual 209, 3) := by decide +kernel
theorem dL_law_821 : decode cL_law 821 = .ok (.istore 7, 2) := by decide +kernel
theorem dL_law_823 : decode cL_law 823 = .ok (.aload_n 2, 1) := by decide +kernel
theorem dL_law_824 : decode cL_law 824 = .ok (.invokevirtual 173, 3) := by decide +kernel
theorem dL_law_827 : decode cL_law 827 = .ok (.iload 6, 2) := by decide +kernel
theorem dL_law_829 : decode cL_law 829 = .ok (.if_icmp .eq 5, 3) := by decide +kernel
theorem dL_law_832 : decode cL_law 832 = .ok (.iconst 0, 1) := by decide +kernel
theorem dL_law_833 : decode cL_law 833 = .ok (.ireturn, 1) := by decide +kernel
theorem dL_law_834 : decode cL_law 834 = .ok (.iload 6, 2) := by decide +kernel
theorem dL_law_836 : decode cL_law 836 = .ok (.ifCond .ne 15, 3) := by decide +kernel
theorem dL_law_839 : decode cL_law 839 = .ok (.aload_n 3, 1) := by decide +kernel
theorem dL_law_840 : decode cL_law 840 = .ok (.iconst 0, 1) := by decide +kernel
theorem dL_law_841 : decode cL_law 841 = .ok (.laload, 1) := by decide +kernel
theorem dL_law_842 : decode cL_law 842 = .ok (.iload 7, 2) := by decide +kernel
theorem dL_law_844 : decode cL_law 844 = .ok (.i2l, 1) := by decide +kernel
theorem dL_law_845 : decode cL_law 845 = .ok (.lcmp, 1) := by decide +kernel
theorem dL_law_846 : decode cL_law 846 = .ok (.ifCond .eq 5, 3) := by decide +kernel
theorem dL_law_849 : decode cL_law 849 = .ok (.iconst 0, 1) := by decide +kernel
theorem dL_law_850 : decode cL_law 850 = .ok (.ireturn, 1) := by decide +kernel
theorem dL_law_851 : decode cL_law 851 = .ok (.goto 2010, 3) := by decide +kernel
theorem dL_law_854 : decode cL_law 854 = .ok (.aload_n 1, 1) := by decide +kernel
theorem dL_law_855 : decode cL_law 855 = .ok (.aload_n 0, 1) := by decide +kernel
theorem dL_law_856 : decode cL_law 856 = .ok (.iload 5, 2) := by decide +kernel
theorem dL_law_858 : decode cL_law 858 = .ok (.iconst 1, 1) := by decide +kernel
theorem dL_law_859 : decode cL_law 859 = .ok (.iadd, 1) := by decide +kernel
theorem dL_law_860 : decode cL_law 860 = .ok (.iaload, 1) := by decide +kernel
theorem dL_law_861 : decode cL_law 861 = .ok (.aload_n 3, 1) := by decide +kernel
theorem dL_law_862 : decode cL_law 862 = .ok (.invokestatic 210, 3) := by decide +kernel
theorem dL_law_865 : decode cL_law 865 = .ok (.istore 6, 2) := by decide +kernel
theorem dL_law_867 : decode cL_law 867 = .ok (.aload_n 2, 1) := by decide +kernel
theorem dL_law_868 : decode cL_law 868 = .ok (.aload_n 0, 1) := by decide +kernel
theorem dL_law_869 : decode cL_law 869 = .ok (.iload 5, 2) := by decide +kernel
theorem dL_law_871 : decode cL_law 871 = .ok (.iconst 1, 1) := by decide +kernel
theorem dL_law_872 : decode cL_law 872 = .ok (.iadd, 1) := by decide +kernel
theorem dL_law_873 : decode cL_law 873 = .ok (.iaload, 1) := by decide +kernel
theorem dL_law_874 : decode cL_law 874 = .ok (.invokevirtual 212, 3) := by decide +kernel
theorem dL_law_877 : decode cL_law 877 = .ok (.istore 7, 2) := by decide +kernel
theorem dL_law_879 : decode cL_law 879 = .ok (.aload_n 2, 1) := by decide +kernel
theorem dL_law_880 : decode cL_law 880 = .ok (.invokevirtual 173, 3) := by decide +kernel
theorem dL_law_883 : decode cL_law 883 = .ok (.iload 6, 2) := by decide +kernel
theorem dL_law_885 : decode cL_law 885 = .ok (.if_icmp .eq 5, 3) := by decide +kernel
theorem dL_law_888 : decode cL_law 888 = .ok (.iconst 0, 1) := by decide +kernel
theorem dL_law_889 : decode cL_law 889 = .ok (.ireturn, 1) := by decide +kernel
theorem dL_law_890 : decode cL_law 890 = .ok (.iload 6, 2) := by decide +kernel
theorem dL_law_892 : decode cL_law 892 = .ok (.ifCond .ne 15, 3) := by decide +kernel
theorem dL_law_895 : decode cL_law 895 = .ok (.aload_n 3, 1) := by decide +kernel
theorem dL_law_896 : decode cL_law 896 = .ok (.iconst 0, 1) := by decide +kernel
theorem dL_law_897 : decode cL_law 897 = .ok (.laload, 1) := by decide +kernel
theorem dL_law_898 : decode cL_law 898 = .ok (.iload 7, 2) := by decide +kernel
theorem dL_law_900 : decode cL_law 900 = .ok (.i2l, 1) := by decide +kernel
theorem dL_law_901 : decode cL_law 901 = .ok (.lcmp, 1) := by decide +kernel
theorem dL_law_902 : decode cL_law 902 = .ok (.ifCond .eq 5, 3) := by decide +kernel
theorem dL_law_905 : decode cL_law 905 = .ok (.iconst 0, 1) := by decide +kernel
theorem dL_law_906 : decode cL_law 906 = .ok (.ireturn, 1) := by decide +kernel
theorem dL_law_907 : decode cL_law 907 = .ok (.goto 1954, 3) := by decide +kernel
theorem dL_law_910 : decode cL_law 910 = .ok (.aload_n 1, 1) := by decide +kernel
theorem dL_law_911 : decode cL_law 911 = .ok (.aload_n 0, 1) := by decide +kernel
theorem dL_law_912 : decode cL_law 912 = .ok (.iload 5, 2) := by decide +kernel
theorem dL_law_914 : decode cL_law 914 = .ok (.iconst 1, 1) := by decide +kernel
theorem dL_law_915 : decode cL_law 915 = .ok (.iadd, 1) := by decide +kernel
theorem dL_law_916 : decode cL_law 916 = .ok (.iaload, 1) := by decide +kernel
theorem dL_law_917 : decode cL_law 917 = .ok (.aload_n 3, 1) := by decide +kernel
theorem dL_law_918 : decode cL_law 918 = .ok (.invokestatic 213, 3) := by decide +kernel
theorem dL_law_921 : decode cL_law 921 = .ok (.istore 6, 2) := by decide +kernel
theorem dL_law_923 : decode cL_law 923 = .ok (.aload_n 2, 1) := by decide +kernel
theorem dL_law_924 : decode cL_law 924 = .ok (.aload_n 0, 1) := by decide +kernel
theorem dL_law_925 : decode cL_law 925 = .ok (.iload 5, 2) := by decide +kernel
theorem dL_law_927 : decode cL_law 927 = .ok (.iconst 1, 1) := by decide +kernel
theorem dL_law_928 : decode cL_law 928 = .ok (.iadd, 1) := by decide +kernel
theorem dL_law_929 : decode cL_law 929 = .ok (.iaload, 1) := by decide +kernel
theorem dL_law_930 : decode cL_law 930 = .ok (.invokevirtual 215, 3) := by decide +kernel
theorem dL_law_933 : decode cL_law 933 = .ok (.istore 7, 2) := by decide +kernel
theorem dL_law_935 : decode cL_law 935 = .ok (.aload_n 2, 1) := by decide +kernel
theorem dL_law_936 : decode cL_law 936 = .ok (.invokevirtual 173, 3) := by decide +kernel
theorem dL_law_939 : decode cL_law 939 = .ok (.iload 6, 2) := by decide +kernel
theorem dL_law_941 : decode cL_law 941 = .ok (.if_icmp .eq 5, 3) := by decide +kernel
theorem dL_law_944 : decode cL_law 944 = .ok (.iconst 0, 1) := by decide +kernel
theorem dL_law_945 : decode cL_law 945 = .ok (.ireturn, 1) := by decide +kernel
theorem dL_law_946 : decode cL_law 946 = .ok (.iload 6, 2) := by decide +kernel
theorem dL_law_948 : decode cL_law 948 = .ok (.ifCond .ne 15, 3) := by decide +kernel
theorem dL_law_951 : decode cL_law 951 = .ok (.aload_n 3, 1) := by decide +kernel
theorem dL_law_952 : decode cL_law 952 = .ok (.iconst 0, 1) := by decide +kernel
theorem dL_law_953 : decode cL_law 953 = .ok (.laload, 1) := by decide +kernel
theorem dL_law_954 : decode cL_law 954 = .ok (.iload 7, 2) := by decide +kernel
theorem dL_law_956 : decode cL_law 956 = .ok (.i2l, 1) := by decide +kernel
theorem dL_law_957 : decode cL_law 957 = .ok (.lcmp, 1) := by decide +kernel
theorem dL_law_958 : decode cL_law 958 = .ok (.ifCond .eq 5, 3) := by decide +kernel
theorem dL_law_961 : decode cL_law 961 = .ok (.iconst 0, 1) := by decide +kernel
theorem dL_law_962 : decode cL_law 962 = .ok (.ireturn, 1) := by decide +kernel
theorem dL_law_963 : decode cL_law 963 = .ok (.goto 1898, 3) := by decide +kernel
theorem dL_law_966 : decode cL_law 966 = .ok (.aload_n 1, 1) := by decide +kernel
theorem dL_law_967 : decode cL_law 967 = .ok (.aload_n 0, 1) := by decide +kernel
theorem dL_law_968 : decode cL_law 968 = .ok (.iload 5, 2) := by decide +kernel
theorem dL_law_970 : decode cL_law 970 = .ok (.iconst 1, 1) := by decide +kernel
theorem dL_law_971 : decode cL_law 971 = .ok (.iadd, 1) := by decide +kernel
theorem dL_law_972 : decode cL_law 972 = .ok (.iaload, 1) := by decide +kernel
theorem dL_law_973 : decode cL_law 973 = .ok (.aload_n 0, 1) := by decide +kernel
theorem dL_law_974 : decode cL_law 974 = .ok (.iload 5, 2) := by decide +kernel
theorem dL_law_976 : decode cL_law 976 = .ok (.iconst 2, 1) := by decide +kernel
theorem dL_law_977 : decode cL_law 977 = .ok (.iadd, 1) := by decide +kernel
theorem dL_law_978 : decode cL_law 978 = .ok (.iaload, 1) := by decide +kernel
theorem dL_law_979 : decode cL_law 979 = .ok (.aload_n 3, 1) := by decide +kernel
theorem dL_law_980 : decode cL_law 980 = .ok (.invokestatic 216, 3) := by decide +kernel
theorem dL_law_983 : decode cL_law 983 = .ok (.istore 6, 2) := by decide +kernel
theorem dL_law_985 : decode cL_law 985 = .ok (.aload_n 2, 1) := by decide +kernel
theorem dL_law_986 : decode cL_law 986 = .ok (.aload_n 0, 1) := by decide +kernel
theorem dL_law_987 : decode cL_law 987 = .ok (.iload 5, 2) := by decide +kernel
theorem dL_law_989 : decode cL_law 989 = .ok (.iconst 1, 1) := by decide +kernel
theorem dL_law_990 : decode cL_law 990 = .ok (.iadd, 1) := by decide +kernel
theorem dL_law_991 : decode cL_law 991 = .ok (.iaload, 1) := by decide +kernel
theorem dL_law_992 : decode cL_law 992 = .ok (.aload_n 0, 1) := by decide +kernel
theorem dL_law_993 : decode cL_law 993 = .ok (.iload 5, 2) := by decide +kernel
theorem dL_law_995 : decode cL_law 995 = .ok (.iconst 2, 1) := by decide +kernel
theorem dL_law_996 : decode cL_law 996 = .ok (.iadd, 1) := by decide +kernel
theorem dL_law_997 : decode cL_law 997 = .ok (.iaload, 1) := by decide +kernel
theorem dL_law_998 : decode cL_law 998 = .ok (.invokevirtual 218, 3) := by decide +kernel
