theorem dX9_init_0 : decode cX9_init 0 = .ok (.aload_n 0, 1) := by decide +kernel
theorem dX9_init_1 : decode cX9_init 1 = .ok (.invokespecial 3, 3) := by decide +kernel
theorem dX9_init_4 : decode cX9_init 4 = .ok (.aload_n 0, 1) := by decide +kernel
theorem dX9_init_5 : decode cX9_init 5 = .ok (.new 9, 3) := by decide +kernel
theorem dX9_init_8 : decode cX9_init 8 = .ok (.dup, 1) := by decide +kernel
theorem dX9_init_9 : decode cX9_init 9 = .ok (.invokespecial 11, 3) := by decide +kernel
theorem dX9_init_12 : decode cX9_init 12 = .ok (.putfield 12, 3) := by decide +kernel
theorem dX9_init_15 : decode cX9_init 15 = .ok (.aload_n 0, 1) := by decide +kernel
theorem dX9_init_16 : decode cX9_init 16 = .ok (.aload_n 0, 1) := by decide +kernel
theorem dX9_init_17 : decode cX9_init 17 = .ok (.getfield 12, 3) := by decide +kernel
theorem dX9_init_20 : decode cX9_init 20 = .ok (.getfield 16, 3) := by decide +kernel
theorem dX9_init_23 : decode cX9_init 23 = .ok (.putfield 20, 3) := by decide +kernel
theorem dX9_init_26 : decode cX9_init 26 = .ok (.aload_n 0, 1) := by decide +kernel
theorem dX9_init_27 : decode cX9_init 27 = .ok (.aload_n 0, 1) := by decide +kernel
theorem dX9_init_28 : decode cX9_init 28 = .ok (.getfield 12, 3) := by decide +kernel
theorem dX9_init_31 : decode cX9_init 31 = .ok (.getfield 21, 3) := by decide +kernel
theorem dX9_init_34 : decode cX9_init 34 = .ok (.putfield 25, 3) := by decide +kernel
theorem dX9_init_37 : decode cX9_init 37 = .ok (.aload_n 0, 1) := by decide +kernel
theorem dX9_init_38 : decode cX9_init 38 = .ok (.new 26, 3) := by decide +kernel
theorem dX9_init_41 : decode cX9_init 41 = .ok (.dup, 1) := by decide +kernel
theorem dX9_init_42 : decode cX9_init 42 = .ok (.invokespecial 28, 3) := by decide +kernel
theorem dX9_init_45 : decode cX9_init 45 = .ok (.putfield 29, 3) := by decide +kernel
theorem dX9_init_48 : decode cX9_init 48 = .ok (.aload_n 0, 1) := by decide +kernel
theorem dX9_init_49 : decode cX9_init 49 = .ok (.new 26, 3) := by decide +kernel
theorem dX9_init_52 : decode cX9_init 52 = .ok (.dup, 1) := by decide +kernel
theorem dX9_init_53 : decode cX9_init 53 = .ok (.invokespecial 28, 3) := by decide +kernel
theorem dX9_init_56 : decode cX9_init 56 = .ok (.putfield 32, 3) := by decide +kernel
theorem dX9_init_59 : decode cX9_init 59 = .ok (.aload_n 0, 1) := by decide +kernel
theorem dX9_init_60 : decode cX9_init 60 = .ok (.new 35, 3) := by decide +kernel
theorem dX9_init_63 : decode cX9_init 63 = .ok (.dup, 1) := by decide +kernel
theorem dX9_init_64 : decode cX9_init 64 = .ok (.invokespecial 37, 3) := by decide +kernel
theorem dX9_init_67 : decode cX9_init 67 = .ok (.putfield 38, 3) := by decide +kernel
theorem dX9_init_70 : decode cX9_init 70 = .ok (.aload_n 0, 1) := by decide +kernel
theorem dX9_init_71 : decode cX9_init 71 = .ok (.new 42, 3) := by decide +kernel
theorem dX9_init_74 : decode cX9_init 74 = .ok (.dup, 1) := by decide +kernel
theorem dX9_init_75 : decode cX9_init 75 = .ok (.invokespecial 44, 3) := by decide +kernel
theorem dX9_init_78 : decode cX9_init 78 = .ok (.putfield 45, 3) := by decide +kernel
theorem dX9_init_81 : decode cX9_init 81 = .ok (.aload_n 0, 1) := by decide +kernel
theorem dX9_init_82 : decode cX9_init 82 = .ok (.new 49, 3) := by decide +kernel
theorem dX9_init_85 : decode cX9_init 85 = .ok (.dup, 1) := by decide +kernel
theorem dX9_init_86 : decode cX9_init 86 = .ok (.invokespecial 51, 3) := by decide +kernel
theorem dX9_init_89 : decode cX9_init 89 = .ok (.putfield 52, 3) := by decide +kernel
theorem dX9_init_92 : decode cX9_init 92 = .ok (.aload_n 0, 1) := by decide +kernel
theorem dX9_init_93 : decode cX9_init 93 = .ok (.sipush 400, 3) := by decide +kernel
theorem dX9_init_96 : decode cX9_init 96 = .ok (.newarray .char, 2) := by decide +kernel
theorem dX9_init_98 : decode cX9_init 98 = .ok (.putfield 56, 3) := by decide +kernel
theorem dX9_init_101 : decode cX9_init 101 = .ok (.aload_n 0, 1) := by decide +kernel
theorem dX9_init_102 : decode cX9_init 102 = .ok (.iconst 0, 1) := by decide +kernel
theorem dX9_init_103 : decode cX9_init 103 = .ok (.putfield 60, 3) := by decide +kernel
theorem dX9_init_106 : decode cX9_init 106 = .ok (.aload_n 0, 1) := by decide +kernel
theorem dX9_init_107 : decode cX9_init 107 = .ok (.iconst 0, 1) := by decide +kernel
theorem dX9_init_108 : decode cX9_init 108 = .ok (.putfield 64, 3) := by decide +kernel
theorem dX9_init_111 : decode cX9_init 111 = .ok (.aload_n 0, 1) := by decide +kernel
theorem dX9_init_112 : decode cX9_init 112 = .ok (.iconst (-1), 1) := by decide +kernel
theorem dX9_init_113 : decode cX9_init 113 = .ok (.putfield 68, 3) := by decide +kernel
theorem dX9_init_116 : decode cX9_init 116 = .ok (.aload_n 0, 1) := by decide +kernel
theorem dX9_init_117 : decode cX9_init 117 = .ok (.iconst 0, 1) := by decide +kernel
theorem dX9_init_118 : decode cX9_init 118 = .ok (.putfield 71, 3) := by decide +kernel
theorem dX9_init_121 : decode cX9_init 121 = .ok (.aload_n 0, 1) := by decide +kernel
theorem dX9_init_122 : decode cX9_init 122 = .ok (.iconst 0, 1) := by decide +kernel
theorem dX9_init_123 : decode cX9_init 123 = .ok (.putfield 74, 3) := by decide +kernel
theorem dX9_init_126 : decode cX9_init 126 = .ok (.aload_n 0, 1) := by decide +kernel
theorem dX9_init_127 : decode cX9_init 127 = .ok (.iconst 0, 1) := by decide +kernel
theorem dX9_init_128 : decode cX9_init 128 = .ok (.putfield 77, 3) := by decide +kernel
theorem dX9_init_131 : decode cX9_init 131 = .ok (.return_, 1) := by decide +kernel
theorem dX9_openCase_0 : decode cX9_openCase 0 = .ok (.aload_n 0, 1) := by decide +kernel
theorem dX9_openCase_1 : decode cX9_openCase 1 = .ok (.getstatic 80, 3) := by decide +kernel
theorem dX9_openCase_4 : decode cX9_openCase 4 = .ok (.iconst 0, 1) := by decide +kernel
theorem dX9_openCase_5 : decode cX9_openCase 5 = .ok (.invokevirtual 86, 3) := by decide +kernel
theorem dX9_openCase_8 : decode cX9_openCase 8 = .ok (.aload_n 0, 1) := by decide +kernel
theorem dX9_openCase_9 : decode cX9_openCase 9 = .ok (.getfield 20, 3) := by decide +kernel
theorem dX9_openCase_12 : decode cX9_openCase 12 = .ok (.invokevirtual 90, 3) := by decide +kernel
theorem dX9_openCase_15 : decode cX9_openCase 15 = .ok (.ireturn, 1) := by decide +kernel
theorem dX9_cross_0 : decode cX9_cross 0 = .ok (.aload_n 0, 1) := by decide +kernel
theorem dX9_cross_1 : decode cX9_cross 1 = .ok (.iload_n 1, 1) := by decide +kernel
theorem dX9_cross_2 : decode cX9_cross 2 = .ok (.invokevirtual 94, 3) := by decide +kernel
theorem dX9_cross_5 : decode cX9_cross 5 = .ok (.iload_n 2, 1) := by decide +kernel
theorem dX9_cross_6 : decode cX9_cross 6 = .ok (.invokestatic 98, 3) := by decide +kernel
theorem dX9_cross_9 : decode cX9_cross 9 = .ok (.istore_n 3, 1) := by decide +kernel
theorem dX9_cross_10 : decode cX9_cross 10 = .ok (.iload_n 3, 1) := by decide +kernel
theorem dX9_cross_11 : decode cX9_cross 11 = .ok (.ifCond .ne 13, 3) := by decide +kernel
theorem dX9_cross_14 : decode cX9_cross 14 = .ok (.new 102, 3) := by decide +kernel
theorem dX9_cross_17 : decode cX9_cross 17 = .ok (.dup, 1) := by decide +kernel
theorem dX9_cross_18 : decode cX9_cross 18 = .ok (.ldc 104, 2) := by decide +kernel
theorem dX9_cross_20 : decode cX9_cross 20 = .ok (.invokespecial 106, 3) := by decide +kernel
theorem dX9_cross_23 : decode cX9_cross 23 = .ok (.athrow, 1) := by decide +kernel
theorem dX9_cross_24 : decode cX9_cross 24 = .ok (.aload_n 0, 1) := by decide +kernel
theorem dX9_cross_25 : decode cX9_cross 25 = .ok (.getstatic 109, 3) := by decide +kernel
theorem dX9_cross_28 : decode cX9_cross 28 = .ok (.iload_n 1, 1) := by decide +kernel
theorem dX9_cross_29 : decode cX9_cross 29 = .ok (.invokevirtual 86, 3) := by decide +kernel
theorem dX9_cross_32 : decode cX9_cross 32 = .ok (.aload_n 0, 1) := by decide +kernel
theorem dX9_cross_33 : decode cX9_cross 33 = .ok (.getfield 20, 3) := by decide +kernel
theorem dX9_cross_36 : decode cX9_cross 36 = .ok (.getfield 112, 3) := by decide +kernel
theorem dX9_cross_39 : decode cX9_cross 39 = .ok (.iload_n 1, 1) := by decide +kernel
theorem dX9_cross_40 : decode cX9_cross 40 = .ok (.aaload, 1) := by decide +kernel
theorem dX9_cross_41 : decode cX9_cross 41 = .ok (.iload_n 3, 1) := by decide +kernel
theorem dX9_cross_42 : decode cX9_cross 42 = .ok (.invokevirtual 116, 3) := by decide +kernel
theorem dX9_cross_45 : decode cX9_cross 45 = .ok (.aload_n 0, 1) := by decide +kernel
theorem dX9_cross_46 : decode cX9_cross 46 = .ok (.getfield 20, 3) := by decide +kernel
theorem dX9_cross_49 : decode cX9_cross 49 = .ok (.getfield 112, 3) := by decide +kernel
theorem dX9_cross_52 : decode cX9_cross 52 = .ok (.iload_n 1, 1) := by decide +kernel
theorem dX9_cross_53 : decode cX9_cross 53 = .ok (.aaload, 1) := by decide +kernel
theorem dX9_cross_54 : decode cX9_cross 54 = .ok (.getfield 121, 3) := by decide +kernel
theorem dX9_cross_57 : decode cX9_cross 57 = .ok (.ireturn, 1) := by decide +kernel
theorem dX9_cutLast_0 : decode cX9_cutLast 0 = .ok (.aload_n 0, 1) := by decide +kernel
theorem dX9_cutLast_1 : decode cX9_cutLast 1 = .ok (.iload_n 1, 1) := by decide +kernel
theorem dX9_cutLast_2 : decode cX9_cutLast 2 = .ok (.invokevirtual 94, 3) := by decide +kernel
theorem dX9_cutLast_5 : decode cX9_cutLast 5 = .ok (.aload_n 0, 1) := by decide +kernel
theorem dX9_cutLast_6 : decode cX9_cutLast 6 = .ok (.getstatic 124, 3) := by decide +kernel
theorem dX9_cutLast_9 : decode cX9_cutLast 9 = .ok (.iload_n 1, 1) := by decide +kernel
theorem dX9_cutLast_10 : decode cX9_cutLast 10 = .ok (.invokevirtual 86, 3) := by decide +kernel
theorem dX9_cutLast_13 : decode cX9_cutLast 13 = .ok (.aload_n 0, 1) := by decide +kernel
theorem dX9_cutLast_14 : decode cX9_cutLast 14 = .ok (.getfield 20, 3) := by decide +kernel
theorem dX9_cutLast_17 : decode cX9_cutLast 17 = .ok (.getfield 112, 3) := by decide +kernel
theorem dX9_cutLast_20 : decode cX9_cutLast 20 = .ok (.iload_n 1, 1) := by decide +kernel
theorem dX9_cutLast_21 : decode cX9_cutLast 21 = .ok (.aaload, 1) := by decide +kernel
theorem dX9_cutLast_22 : decode cX9_cutLast 22 = .ok (.invokevirtual 127, 3) := by decide +kernel
theorem dX9_cutLast_25 : decode cX9_cutLast 25 = .ok (.invokestatic 130, 3) := by decide +kernel
theorem dX9_cutLast_28 : decode cX9_cutLast 28 = .ok (.ireturn, 1) := by decide +kernel
theorem dX9_cancel_0 : decode cX9_cancel 0 = .ok (.aload_n 0, 1) := by decide +kernel
theorem dX9_cancel_1 : decode cX9_cancel 1 = .ok (.iload_n 1, 1) := by decide +kernel
theorem dX9_cancel_2 : decode cX9_cancel 2 = .ok (.invokevirtual 94, 3) := by decide +kernel
theorem dX9_cancel_5 : decode cX9_cancel 5 = .ok (.aload_n 0, 1) := by decide +kernel
theorem dX9_cancel_6 : decode cX9_cancel 6 = .ok (.getstatic 134, 3) := by decide +kernel
theorem dX9_cancel_9 : decode cX9_cancel 9 = .ok (.iload_n 1, 1) := by decide +kernel
theorem dX9_cancel_10 : decode cX9_cancel 10 = .ok (.invokevirtual 86, 3) := by decide +kernel
theorem dX9_cancel_13 : decode cX9_cancel 13 = .ok (.aload_n 0, 1) := by decide +kernel
theorem dX9_cancel_14 : decode cX9_cancel 14 = .ok (.getfield 20, 3) := by decide +kernel
theorem dX9_cancel_17 : decode cX9_cancel 17 = .ok (.getfield 112, 3) := by decide +kernel
theorem dX9_cancel_20 : decode cX9_cancel 20 = .ok (.iload_n 1, 1) := by decide +kernel
theorem dX9_cancel_21 : decode cX9_cancel 21 = .ok (.aaload, 1) := by decide +kernel
theorem dX9_cancel_22 : decode cX9_cancel 22 = .ok (.invokevirtual 137, 3) := by decide +kernel
theorem dX9_cancel_25 : decode cX9_cancel 25 = .ok (.ireturn, 1) := by decide +kernel
theorem dX9_relax_0 : decode cX9_relax 0 = .ok (.aload_n 0, 1) := by decide +kernel
theorem dX9_relax_1 : decode cX9_relax 1 = .ok (.iload_n 1, 1) := by decide +kernel
theorem dX9_relax_2 : decode cX9_relax 2 = .ok (.invokevirtual 94, 3) := by decide +kernel
theorem dX9_relax_5 : decode cX9_relax 5 = .ok (.aload_n 0, 1) := by decide +kernel
theorem dX9_relax_6 : decode cX9_relax 6 = .ok (.getstatic 140, 3) := by decide +kernel
theorem dX9_relax_9 : decode cX9_relax 9 = .ok (.iload_n 1, 1) := by decide +kernel
theorem dX9_relax_10 : decode cX9_relax 10 = .ok (.invokevirtual 86, 3) := by decide +kernel
theorem dX9_relax_13 : decode cX9_relax 13 = .ok (.aload_n 0, 1) := by decide +kernel
theorem dX9_relax_14 : decode cX9_relax 14 = .ok (.getfield 12, 3) := by decide +kernel
theorem dX9_relax_17 : decode cX9_relax 17 = .ok (.iload_n 1, 1) := by decide +kernel
theorem dX9_relax_18 : decode cX9_relax 18 = .ok (.invokevirtual 143, 3) := by decide +kernel
theorem dX9_relax_21 : decode cX9_relax 21 = .ok (.ireturn, 1) := by decide +kernel
theorem dX9_caseCount_0 : decode cX9_caseCount 0 = .ok (.aload_n 0, 1) := by decide +kernel
theorem dX9_caseCount_1 : decode cX9_caseCount 1 = .ok (.getfield 20, 3) := by decide +kernel
theorem dX9_caseCount_4 : decode cX9_caseCount 4 = .ok (.getfield 147, 3) := by decide +kernel
theorem dX9_caseCount_7 : decode cX9_caseCount 7 = .ok (.ireturn, 1) := by decide +kernel
theorem dX9_wordLength_0 : decode cX9_wordLength 0 = .ok (.aload_n 0, 1) := by decide +kernel
theorem dX9_wordLength_1 : decode cX9_wordLength 1 = .ok (.iload_n 1, 1) := by decide +kernel
theorem dX9_wordLength_2 : decode cX9_wordLength 2 = .ok (.invokevirtual 94, 3) := by decide +kernel
theorem dX9_wordLength_5 : decode cX9_wordLength 5 = .ok (.aload_n 0, 1) := by decide +kernel
theorem dX9_wordLength_6 : decode cX9_wordLength 6 = .ok (.getfield 20, 3) := by decide +kernel
theorem dX9_wordLength_9 : decode cX9_wordLength 9 = .ok (.getfield 112, 3) := by decide +kernel
theorem dX9_wordLength_12 : decode cX9_wordLength 12 = .ok (.iload_n 1, 1) := by decide +kernel
theorem dX9_wordLength_13 : decode cX9_wordLength 13 = .ok (.aaload, 1) := by decide +kernel
theorem dX9_wordLength_14 : decode cX9_wordLength 14 = .ok (.getfield 121, 3) := by decide +kernel
theorem dX9_wordLength_17 : decode cX9_wordLength 17 = .ok (.ireturn, 1) := by decide +kernel
theorem dX9_letterAt_0 : decode cX9_letterAt 0 = .ok (.aload_n 0, 1) := by decide +kernel
theorem dX9_letterAt_1 : decode cX9_letterAt 1 = .ok (.iload_n 1, 1) := by decide +kernel
theorem dX9_letterAt_2 : decode cX9_letterAt 2 = .ok (.invokevirtual 94, 3) := by decide +kernel
theorem dX9_letterAt_5 : decode cX9_letterAt 5 = .ok (.aload_n 0, 1) := by decide +kernel
theorem dX9_letterAt_6 : decode cX9_letterAt 6 = .ok (.getfield 20, 3) := by decide +kernel
theorem dX9_letterAt_9 : decode cX9_letterAt 9 = .ok (.getfield 112, 3) := by decide +kernel
theorem dX9_letterAt_12 : decode cX9_letterAt 12 = .ok (.iload_n 1, 1) := by decide +kernel
theorem dX9_letterAt_13 : decode cX9_letterAt 13 = .ok (.aaload, 1) := by decide +kernel
theorem dX9_letterAt_14 : decode cX9_letterAt 14 = .ok (.astore_n 3, 1) := by decide +kernel
theorem dX9_letterAt_15 : decode cX9_letterAt 15 = .ok (.iload_n 2, 1) := by decide +kernel
theorem dX9_letterAt_16 : decode cX9_letterAt 16 = .ok (.ifCond .lt 11, 3) := by decide +kernel
theorem dX9_letterAt_19 : decode cX9_letterAt 19 = .ok (.iload_n 2, 1) := by decide +kernel
theorem dX9_letterAt_20 : decode cX9_letterAt 20 = .ok (.aload_n 3, 1) := by decide +kernel
theorem dX9_letterAt_21 : decode cX9_letterAt 21 = .ok (.getfield 121, 3) := by decide +kernel
theorem dX9_letterAt_24 : decode cX9_letterAt 24 = .ok (.if_icmp .lt 13, 3) := by decide +kernel
theorem dX9_letterAt_27 : decode cX9_letterAt 27 = .ok (.new 150, 3) := by decide +kernel
theorem dX9_letterAt_30 : decode cX9_letterAt 30 = .ok (.dup, 1) := by decide +kernel
theorem dX9_letterAt_31 : decode cX9_letterAt 31 = .ok (.ldc 152, 2) := by decide +kernel
theorem dX9_letterAt_33 : decode cX9_letterAt 33 = .ok (.invokespecial 154, 3) := by decide +kernel
theorem dX9_letterAt_36 : decode cX9_letterAt 36 = .ok (.athrow, 1) := by decide +kernel
theorem dX9_letterAt_37 : decode cX9_letterAt 37 = .ok (.aload_n 3, 1) := by decide +kernel
theorem dX9_letterAt_38 : decode cX9_letterAt 38 = .ok (.getfield 155, 3) := by decide +kernel
theorem dX9_letterAt_41 : decode cX9_letterAt 41 = .ok (.iload_n 2, 1) := by decide +kernel
theorem dX9_letterAt_42 : decode cX9_letterAt 42 = .ok (.iaload, 1) := by decide +kernel
theorem dX9_letterAt_43 : decode cX9_letterAt 43 = .ok (.invokestatic 130, 3) := by decide +kernel
theorem dX9_letterAt_46 : decode cX9_letterAt 46 = .ok (.ireturn, 1) := by decide +kernel
theorem dX9_hasHandle_0 : decode cX9_hasHandle 0 = .ok (.aload_n 0, 1) := by decide +kernel
theorem dX9_hasHandle_1 : decode cX9_hasHandle 1 = .ok (.iload_n 1, 1) := by decide +kernel
theorem dX9_hasHandle_2 : decode cX9_hasHandle 2 = .ok (.invokevirtual 94, 3) := by decide +kernel
theorem dX9_hasHandle_5 : decode cX9_hasHandle 5 = .ok (.aload_n 0, 1) := by decide +kernel
theorem dX9_hasHandle_6 : decode cX9_hasHandle 6 = .ok (.getfield 20, 3) := by decide +kernel
theorem dX9_hasHandle_9 : decode cX9_hasHandle 9 = .ok (.getfield 112, 3) := by decide +kernel
theorem dX9_hasHandle_12 : decode cX9_hasHandle 12 = .ok (.iload_n 1, 1) := by decide +kernel
theorem dX9_hasHandle_13 : decode cX9_hasHandle 13 = .ok (.aaload, 1) := by decide +kernel
theorem dX9_hasHandle_14 : decode cX9_hasHandle 14 = .ok (.invokevirtual 159, 3) := by decide +kernel
theorem dX9_hasHandle_17 : decode cX9_hasHandle 17 = .ok (.iconst (-1), 1) := by decide +kernel
theorem dX9_hasHandle_18 : decode cX9_hasHandle 18 = .ok (.if_icmp .eq 7, 3) := by decide +kernel
theorem dX9_hasHandle_21 : decode cX9_hasHandle 21 = .ok (.iconst 1, 1) := by decide +kernel
theorem dX9_hasHandle_22 : decode cX9_hasHandle 22 = .ok (.goto 4, 3) := by decide +kernel
theorem dX9_hasHandle_25 : decode cX9_hasHandle 25 = .ok (.iconst 0, 1) := by decide +kernel
theorem dX9_hasHandle_26 : decode cX9_hasHandle 26 = .ok (.ireturn, 1) := by decide +kernel
theorem dX9_handleBegin_0 : decode cX9_handleBegin 0 = .ok (.aload_n 0, 1) := by decide +kernel
theorem dX9_handleBegin_1 : decode cX9_handleBegin 1 = .ok (.iload_n 1, 1) := by decide +kernel
theorem dX9_handleBegin_2 : decode cX9_handleBegin 2 = .ok (.invokevirtual 162, 3) := by decide +kernel
theorem dX9_handleBegin_5 : decode cX9_handleBegin 5 = .ok (.istore_n 2, 1) := by decide +kernel
theorem dX9_handleBegin_6 : decode cX9_handleBegin 6 = .ok (.aload_n 0, 1) := by decide +kernel
theorem dX9_handleBegin_7 : decode cX9_handleBegin 7 = .ok (.getfield 20, 3) := by decide +kernel
theorem dX9_handleBegin_10 : decode cX9_handleBegin 10 = .ok (.getfield 112, 3) := by decide +kernel
theorem dX9_handleBegin_13 : decode cX9_handleBegin 13 = .ok (.iload_n 1, 1) := by decide +kernel
theorem dX9_handleBegin_14 : decode cX9_handleBegin 14 = .ok (.aaload, 1) := by decide +kernel
theorem dX9_handleBegin_15 : decode cX9_handleBegin 15 = .ok (.getfield 155, 3) := by decide +kernel
theorem dX9_handleBegin_18 : decode cX9_handleBegin 18 = .ok (.iload_n 2, 1) := by decide +kernel
theorem dX9_handleBegin_19 : decode cX9_handleBegin 19 = .ok (.invokestatic 165, 3) := by decide +kernel
theorem dX9_handleBegin_22 : decode cX9_handleBegin 22 = .ok (.ireturn, 1) := by decide +kernel
theorem dX9_handleEnd_0 : decode cX9_handleEnd 0 = .ok (.aload_n 0, 1) := by decide +kernel
theorem dX9_handleEnd_1 : decode cX9_handleEnd 1 = .ok (.iload_n 1, 1) := by decide +kernel
theorem dX9_handleEnd_2 : decode cX9_handleEnd 2 = .ok (.invokevirtual 162, 3) := by decide +kernel
theorem dX9_handleEnd_5 : decode cX9_handleEnd 5 = .ok (.ireturn, 1) := by decide +kernel
theorem dX9_relaxedLength_0 : decode cX9_relaxedLength 0 = .ok (.aload_n 0, 1) := by decide +kernel
theorem dX9_relaxedLength_1 : decode cX9_relaxedLength 1 = .ok (.iload_n 1, 1) := by decide +kernel
theorem dX9_relaxedLength_2 : decode cX9_relaxedLength 2 = .ok (.invokevirtual 169, 3) := by decide +kernel
theorem dX9_relaxedLength_5 : decode cX9_relaxedLength 5 = .ok (.aload_n 0, 1) := by decide +kernel
theorem dX9_relaxedLength_6 : decode cX9_relaxedLength 6 = .ok (.getfield 25, 3) := by decide +kernel
theorem dX9_relaxedLength_9 : decode cX9_relaxedLength 9 = .ok (.getfield 172, 3) := by decide +kernel
theorem dX9_relaxedLength_12 : decode cX9_relaxedLength 12 = .ok (.ireturn, 1) := by decide +kernel
theorem dX9_writhe_0 : decode cX9_writhe 0 = .ok (.aload_n 0, 1) := by decide +kernel
theorem dX9_writhe_1 : decode cX9_writhe 1 = .ok (.iload_n 1, 1) := by decide +kernel
theorem dX9_writhe_2 : decode cX9_writhe 2 = .ok (.invokevirtual 94, 3) := by decide +kernel
theorem dX9_writhe_5 : decode cX9_writhe 5 = .ok (.aload_n 0, 1) := by decide +kernel
theorem dX9_writhe_6 : decode cX9_writhe 6 = .ok (.getfield 20, 3) := by decide +kernel
theorem dX9_writhe_9 : decode cX9_writhe 9 = .ok (.getfield 112, 3) := by decide +kernel
theorem dX9_writhe_12 : decode cX9_writhe 12 = .ok (.iload_n 1, 1) := by decide +kernel
theorem dX9_writhe_13 : decode cX9_writhe 13 = .ok (.aaload, 1) := by decide +kernel
theorem dX9_writhe_14 : decode cX9_writhe 14 = .ok (.invokevirtual 177, 3) := by decide +kernel
theorem dX9_writhe_17 : decode cX9_writhe 17 = .ok (.ireturn, 1) := by decide +kernel
theorem dX9_strandEnd_0 : decode cX9_strandEnd 0 = .ok (.aload_n 0, 1) := by decide +kernel
theorem dX9_strandEnd_1 : decode cX9_strandEnd 1 = .ok (.iload_n 1, 1) := by decide +kernel
theorem dX9_strandEnd_2 : decode cX9_strandEnd 2 = .ok (.invokevirtual 94, 3) := by decide +kernel
theorem dX9_strandEnd_5 : decode cX9_strandEnd 5 = .ok (.iload_n 2, 1) := by decide +kernel
theorem dX9_strandEnd_6 : decode cX9_strandEnd 6 = .ok (.invokestatic 180, 3) := by decide +kernel
theorem dX9_strandEnd_9 : decode cX9_strandEnd 9 = .ok (.aload_n 0, 1) := by decide +kernel
theorem dX9_strandEnd_10 : decode cX9_strandEnd 10 = .ok (.getfield 20, 3) := by decide +kernel
theorem dX9_strandEnd_13 : decode cX9_strandEnd 13 = .ok (.getfield 112, 3) := by decide +kernel
theorem dX9_strandEnd_16 : decode cX9_strandEnd 16 = .ok (.iload_n 1, 1) := by decide +kernel
theorem dX9_strandEnd_17 : decode cX9_strandEnd 17 = .ok (.aaload, 1) := by decide +kernel
theorem dX9_strandEnd_18 : decode cX9_strandEnd 18 = .ok (.iload_n 2, 1) := by decide +kernel
theorem dX9_strandEnd_19 : decode cX9_strandEnd 19 = .ok (.invokevirtual 183, 3) := by decide +kernel
theorem dX9_strandEnd_22 : decode cX9_strandEnd 22 = .ok (.ireturn, 1) := by decide +kernel
theorem dX9_closedThreads_0 : decode cX9_closedThreads 0 = .ok (.aload_n 0, 1) := by decide +kernel
theorem dX9_closedThreads_1 : decode cX9_closedThreads 1 = .ok (.iload_n 1, 1) := by decide +kernel
theorem dX9_closedThreads_2 : decode cX9_closedThreads 2 = .ok (.invokevirtual 94, 3) := by decide +kernel
theorem dX9_closedThreads_5 : decode cX9_closedThreads 5 = .ok (.aload_n 0, 1) := by decide +kernel
theorem dX9_closedThreads_6 : decode cX9_closedThreads 6 = .ok (.getfield 20, 3) := by decide +kernel
theorem dX9_closedThreads_9 : decode cX9_closedThreads 9 = .ok (.getfield 112, 3) := by decide +kernel
theorem dX9_closedThreads_12 : decode cX9_closedThreads 12 = .ok (.iload_n 1, 1) := by decide +kernel
theorem dX9_closedThreads_13 : decode cX9_closedThreads 13 = .ok (.aaload, 1) := by decide +kernel
theorem dX9_closedThreads_14 : decode cX9_closedThreads 14 = .ok (.invokevirtual 186, 3) := by decide +kernel
theorem dX9_closedThreads_17 : decode cX9_closedThreads 17 = .ok (.ireturn, 1) := by decide +kernel
theorem dX9_crossings_0 : decode cX9_crossings 0 = .ok (.aload_n 0, 1) := by decide +kernel
theorem dX9_crossings_1 : decode cX9_crossings 1 = .ok (.iload_n 1, 1) := by decide +kernel
theorem dX9_crossings_2 : decode cX9_crossings 2 = .ok (.invokevirtual 94, 3) := by decide +kernel
theorem dX9_crossings_5 : decode cX9_crossings 5 = .ok (.iload_n 2, 1) := by decide +kernel
theorem dX9_crossings_6 : decode cX9_crossings 6 = .ok (.invokestatic 180, 3) := by decide +kernel
theorem dX9_crossings_9 : decode cX9_crossings 9 = .ok (.iload_n 3, 1) := by decide +kernel
theorem dX9_crossings_10 : decode cX9_crossings 10 = .ok (.invokestatic 180, 3) := by decide +kernel
theorem dX9_crossings_13 : decode cX9_crossings 13 = .ok (.aload_n 0, 1) := by decide +kernel
theorem dX9_crossings_14 : decode cX9_crossings 14 = .ok (.getfield 20, 3) := by decide +kernel
theorem dX9_crossings_17 : decode cX9_crossings 17 = .ok (.getfield 112, 3) := by decide +kernel
theorem dX9_crossings_20 : decode cX9_crossings 20 = .ok (.iload_n 1, 1) := by decide +kernel
theorem dX9_crossings_21 : decode cX9_crossings 21 = .ok (.aaload, 1) := by decide +kernel
theorem dX9_crossings_22 : decode cX9_crossings 22 = .ok (.iload_n 2, 1) := by decide +kernel
theorem dX9_crossings_23 : decode cX9_crossings 23 = .ok (.iload_n 3, 1) := by decide +kernel
theorem dX9_crossings_24 : decode cX9_crossings 24 = .ok (.invokevirtual 189, 3) := by decide +kernel
theorem dX9_crossings_27 : decode cX9_crossings 27 = .ok (.ireturn, 1) := by decide +kernel
theorem dX9_coordinate_0 : decode cX9_coordinate 0 = .ok (.aload_n 0, 1) := by decide +kernel
theorem dX9_coordinate_1 : decode cX9_coordinate 1 = .ok (.iload_n 1, 1) := by decide +kernel
theorem dX9_coordinate_2 : decode cX9_coordinate 2 = .ok (.invokevirtual 94, 3) := by decide +kernel
theorem dX9_coordinate_5 : decode cX9_coordinate 5 = .ok (.iload_n 2, 1) := by decide +kernel
theorem dX9_coordinate_6 : decode cX9_coordinate 6 = .ok (.ifCond .lt 9, 3) := by decide +kernel
theorem dX9_coordinate_9 : decode cX9_coordinate 9 = .ok (.iload_n 2, 1) := by decide +kernel
theorem dX9_coordinate_10 : decode cX9_coordinate 10 = .ok (.bipush 10, 2) := by decide +kernel
theorem dX9_coordinate_12 : decode cX9_coordinate 12 = .ok (.if_icmp .lt 13, 3) := by decide +kernel
theorem dX9_coordinate_15 : decode cX9_coordinate 15 = .ok (.new 102, 3) := by decide +kernel
theorem dX9_coordinate_18 : decode cX9_coordinate 18 = .ok (.dup, 1) := by decide +kernel
theorem dX9_coordinate_19 : decode cX9_coordinate 19 = .ok (.ldc 193, 2) := by decide +kernel
theorem dX9_coordinate_21 : decode cX9_coordinate 21 = .ok (.invokespecial 106, 3) := by decide +kernel
theorem dX9_coordinate_24 : decode cX9_coordinate 24 = .ok (.athrow, 1) := by decide +kernel
theorem dX9_coordinate_25 : decode cX9_coordinate 25 = .ok (.aload_n 0, 1) := by decide +kernel
theorem dX9_coordinate_26 : decode cX9_coordinate 26 = .ok (.getfield 45, 3) := by decide +kernel
theorem dX9_coordinate_29 : decode cX9_coordinate 29 = .ok (.aload_n 0, 1) := by decide +kernel
theorem dX9_coordinate_30 : decode cX9_coordinate 30 = .ok (.getfield 20, 3) := by decide +kernel
theorem dX9_coordinate_33 : decode cX9_coordinate 33 = .ok (.getfield 112, 3) := by decide +kernel
theorem dX9_coordinate_36 : decode cX9_coordinate 36 = .ok (.iload_n 1, 1) := by decide +kernel
theorem dX9_coordinate_37 : decode cX9_coordinate 37 = .ok (.aaload, 1) := by decide +kernel
theorem dX9_coordinate_38 : decode cX9_coordinate 38 = .ok (.invokevirtual 195, 3) := by decide +kernel
theorem dX9_coordinate_41 : decode cX9_coordinate 41 = .ok (.aload_n 0, 1) := by decide +kernel
theorem dX9_coordinate_42 : decode cX9_coordinate 42 = .ok (.getfield 45, 3) := by decide +kernel
theorem dX9_coordinate_45 : decode cX9_coordinate 45 = .ok (.getfield 199, 3) := by decide +kernel
theorem dX9_coordinate_48 : decode cX9_coordinate 48 = .ok (.iload_n 2, 1) := by decide +kernel
theorem dX9_coordinate_49 : decode cX9_coordinate 49 = .ok (.laload, 1) := by decide +kernel
theorem dX9_coordinate_50 : decode cX9_coordinate 50 = .ok (.lreturn, 1) := by decide +kernel
theorem dX9_isTrivial_0 : decode cX9_isTrivial 0 = .ok (.aload_n 0, 1) := by decide +kernel
theorem dX9_isTrivial_1 : decode cX9_isTrivial 1 = .ok (.iload_n 1, 1) := by decide +kernel
theorem dX9_isTrivial_2 : decode cX9_isTrivial 2 = .ok (.invokevirtual 169, 3) := by decide +kernel
theorem dX9_isTrivial_5 : decode cX9_isTrivial 5 = .ok (.aload_n 0, 1) := by decide +kernel
theorem dX9_isTrivial_6 : decode cX9_isTrivial 6 = .ok (.getfield 25, 3) := by decide +kernel
theorem dX9_isTrivial_9 : decode cX9_isTrivial 9 = .ok (.getfield 172, 3) := by decide +kernel
theorem dX9_isTrivial_12 : decode cX9_isTrivial 12 = .ok (.ifCond .ne 7, 3) := by decide +kernel
theorem dX9_isTrivial_15 : decode cX9_isTrivial 15 = .ok (.iconst 1, 1) := by decide +kernel
theorem dX9_isTrivial_16 : decode cX9_isTrivial 16 = .ok (.goto 4, 3) := by decide +kernel
theorem dX9_isTrivial_19 : decode cX9_isTrivial 19 = .ok (.iconst 0, 1) := by decide +kernel
theorem dX9_isTrivial_20 : decode cX9_isTrivial 20 = .ok (.ireturn, 1) := by decide +kernel
theorem dX9_areEqual_0 : decode cX9_areEqual 0 = .ok (.aload_n 0, 1) := by decide +kernel
theorem dX9_areEqual_1 : decode cX9_areEqual 1 = .ok (.iload_n 1, 1) := by decide +kernel
theorem dX9_areEqual_2 : decode cX9_areEqual 2 = .ok (.iload_n 2, 1) := by decide +kernel
theorem dX9_areEqual_3 : decode cX9_areEqual 3 = .ok (.invokevirtual 203, 3) := by decide +kernel
theorem dX9_areEqual_6 : decode cX9_areEqual 6 = .ok (.aload_n 0, 1) := by decide +kernel
theorem dX9_areEqual_7 : decode cX9_areEqual 7 = .ok (.getfield 25, 3) := by decide +kernel
theorem dX9_areEqual_10 : decode cX9_areEqual 10 = .ok (.getfield 172, 3) := by decide +kernel
theorem dX9_areEqual_13 : decode cX9_areEqual 13 = .ok (.ifCond .ne 7, 3) := by decide +kernel
theorem dX9_areEqual_16 : decode cX9_areEqual 16 = .ok (.iconst 1, 1) := by decide +kernel
theorem dX9_areEqual_17 : decode cX9_areEqual 17 = .ok (.goto 4, 3) := by decide +kernel
theorem dX9_areEqual_20 : decode cX9_areEqual 20 = .ok (.iconst 0, 1) := by decide +kernel
theorem dX9_areEqual_21 : decode cX9_areEqual 21 = .ok (.ireturn, 1) := by decide +kernel
theorem dX9_areEqualByCoordinates_0 : decode cX9_areEqualByCoordinates 0 = .ok (.aload_n 0, 1) := by decide +kernel
theorem dX9_areEqualByCoordinates_1 : decode cX9_areEqualByCoordinates 1 = .ok (.iload_n 1, 1) := by decide +kernel
theorem dX9_areEqualByCoordinates_2 : decode cX9_areEqualByCoordinates 2 = .ok (.invokevirtual 94, 3) := by decide +kernel
theorem dX9_areEqualByCoordinates_5 : decode cX9_areEqualByCoordinates 5 = .ok (.aload_n 0, 1) := by decide +kernel
theorem dX9_areEqualByCoordinates_6 : decode cX9_areEqualByCoordinates 6 = .ok (.iload_n 2, 1) := by decide +kernel
theorem dX9_areEqualByCoordinates_7 : decode cX9_areEqualByCoordinates 7 = .ok (.invokevirtual 94, 3) := by decide +kernel
theorem dX9_areEqualByCoordinates_10 : decode cX9_areEqualByCoordinates 10 = .ok (.aload_n 0, 1) := by decide +kernel
theorem dX9_areEqualByCoordinates_11 : decode cX9_areEqualByCoordinates 11 = .ok (.getfield 12, 3) := by decide +kernel
theorem dX9_areEqualByCoordinates_14 : decode cX9_areEqualByCoordinates 14 = .ok (.iload_n 1, 1) := by decide +kernel
theorem dX9_areEqualByCoordinates_15 : decode cX9_areEqualByCoordinates 15 = .ok (.iload_n 2, 1) := by decide +kernel
theorem dX9_areEqualByCoordinates_16 : decode cX9_areEqualByCoordinates 16 = .ok (.invokevirtual 207, 3) := by decide +kernel
theorem dX9_areEqualByCoordinates_19 : decode cX9_areEqualByCoordinates 19 = .ok (.ireturn, 1) := by decide +kernel
theorem dX9_compare_0 : decode cX9_compare 0 = .ok (.aload_n 0, 1) := by decide +kernel
theorem dX9_compare_1 : decode cX9_compare 1 = .ok (.iload_n 1, 1) := by decide +kernel
theorem dX9_compare_2 : decode cX9_compare 2 = .ok (.iload_n 2, 1) := by decide +kernel
theorem dX9_compare_3 : decode cX9_compare 3 = .ok (.invokevirtual 203, 3) := by decide +kernel
theorem dX9_compare_6 : decode cX9_compare 6 = .ok (.aload_n 0, 1) := by decide +kernel
theorem dX9_compare_7 : decode cX9_compare 7 = .ok (.getfield 25, 3) := by decide +kernel
theorem dX9_compare_10 : decode cX9_compare 10 = .ok (.invokevirtual 211, 3) := by decide +kernel
theorem dX9_compare_13 : decode cX9_compare 13 = .ok (.ireturn, 1) := by decide +kernel
theorem dX9_compareByCoordinates_0 : decode cX9_compareByCoordinates 0 = .ok (.aload_n 0, 1) := by decide +kernel
theorem dX9_compareByCoordinates_1 : decode cX9_compareByCoordinates 1 = .ok (.iload_n 1, 1) := by decide +kernel
theorem dX9_compareByCoordinates_2 : decode cX9_compareByCoordinates 2 = .ok (.invokevirtual 94, 3) := by decide +kernel
theorem dX9_compareByCoordinates_5 : decode cX9_compareByCoordinates 5 = .ok (.aload_n 0, 1) := by decide +kernel
theorem dX9_compareByCoordinates_6 : decode cX9_compareByCoordinates 6 = .ok (.iload_n 2, 1) := by decide +kernel
theorem dX9_compareByCoordinates_7 : decode cX9_compareByCoordinates 7 = .ok (.invokevirtual 94, 3) := by decide +kernel
theorem dX9_compareByCoordinates_10 : decode cX9_compareByCoordinates 10 = .ok (.aload_n 0, 1) := by decide +kernel
theorem dX9_compareByCoordinates_11 : decode cX9_compareByCoordinates 11 = .ok (.getfield 12, 3) := by decide +kernel
theorem dX9_compareByCoordinates_14 : decode cX9_compareByCoordinates 14 = .ok (.iload_n 1, 1) := by decide +kernel
theorem dX9_compareByCoordinates_15 : decode cX9_compareByCoordinates 15 = .ok (.iload_n 2, 1) := by decide +kernel
theorem dX9_compareByCoordinates_16 : decode cX9_compareByCoordinates 16 = .ok (.invokevirtual 214, 3) := by decide +kernel
theorem dX9_compareByCoordinates_19 : decode cX9_compareByCoordinates 19 = .ok (.ireturn, 1) := by decide +kernel
theorem dX9_caseByBraid_0 : decode cX9_caseByBraid 0 = .ok (.aload_n 0, 1) := by decide +kernel
theorem dX9_caseByBraid_1 : decode cX9_caseByBraid 1 = .ok (.getfield 12, 3) := by decide +kernel
theorem dX9_caseByBraid_4 : decode cX9_caseByBraid 4 = .ok (.iload_n 1, 1) := by decide +kernel
theorem dX9_caseByBraid_5 : decode cX9_caseByBraid 5 = .ok (.invokevirtual 217, 3) := by decide +kernel
theorem dX9_caseByBraid_8 : decode cX9_caseByBraid 8 = .ok (.istore_n 2, 1) := by decide +kernel
theorem dX9_caseByBraid_9 : decode cX9_caseByBraid 9 = .ok (.iload_n 2, 1) := by decide +kernel
theorem dX9_caseByBraid_10 : decode cX9_caseByBraid 10 = .ok (.iconst (-1), 1) := by decide +kernel
theorem dX9_caseByBraid_11 : decode cX9_caseByBraid 11 = .ok (.if_icmp .ne 13, 3) := by decide +kernel
theorem dX9_caseByBraid_14 : decode cX9_caseByBraid 14 = .ok (.new 150, 3) := by decide +kernel
theorem dX9_caseByBraid_17 : decode cX9_caseByBraid 17 = .ok (.dup, 1) := by decide +kernel
theorem dX9_caseByBraid_18 : decode cX9_caseByBraid 18 = .ok (.ldc 220, 2) := by decide +kernel
theorem dX9_caseByBraid_20 : decode cX9_caseByBraid 20 = .ok (.invokespecial 154, 3) := by decide +kernel
theorem dX9_caseByBraid_23 : decode cX9_caseByBraid 23 = .ok (.athrow, 1) := by decide +kernel
theorem dX9_caseByBraid_24 : decode cX9_caseByBraid 24 = .ok (.iload_n 2, 1) := by decide +kernel
theorem dX9_caseByBraid_25 : decode cX9_caseByBraid 25 = .ok (.ireturn, 1) := by decide +kernel
theorem dX9_decide_0 : decode cX9_decide 0 = .ok (.aload_n 0, 1) := by decide +kernel
theorem dX9_decide_1 : decode cX9_decide 1 = .ok (.iload_n 1, 1) := by decide +kernel
theorem dX9_decide_2 : decode cX9_decide 2 = .ok (.invokevirtual 94, 3) := by decide +kernel
theorem dX9_decide_5 : decode cX9_decide 5 = .ok (.aload_n 0, 1) := by decide +kernel
theorem dX9_decide_6 : decode cX9_decide 6 = .ok (.getstatic 222, 3) := by decide +kernel
theorem dX9_decide_9 : decode cX9_decide 9 = .ok (.iload_n 1, 1) := by decide +kernel
theorem dX9_decide_10 : decode cX9_decide 10 = .ok (.invokevirtual 86, 3) := by decide +kernel
theorem dX9_decide_13 : decode cX9_decide 13 = .ok (.aload_n 0, 1) := by decide +kernel
theorem dX9_decide_14 : decode cX9_decide 14 = .ok (.getfield 12, 3) := by decide +kernel
theorem dX9_decide_17 : decode cX9_decide 17 = .ok (.iload_n 1, 1) := by decide +kernel
theorem dX9_decide_18 : decode cX9_decide 18 = .ok (.invokevirtual 225, 3) := by decide +kernel
theorem dX9_decide_21 : decode cX9_decide 21 = .ok (.aload_n 0, 1) := by decide +kernel
theorem dX9_decide_22 : decode cX9_decide 22 = .ok (.getfield 20, 3) := by decide +kernel
theorem dX9_decide_25 : decode cX9_decide 25 = .ok (.iload_n 1, 1) := by decide +kernel
theorem dX9_decide_26 : decode cX9_decide 26 = .ok (.invokevirtual 228, 3) := by decide +kernel
theorem dX9_decide_29 : decode cX9_decide 29 = .ok (.ireturn, 1) := by decide +kernel
theorem dX9_appeal_0 : decode cX9_appeal 0 = .ok (.aload_n 0, 1) := by decide +kernel
theorem dX9_appeal_1 : decode cX9_appeal 1 = .ok (.iload_n 1, 1) := by decide +kernel
theorem dX9_appeal_2 : decode cX9_appeal 2 = .ok (.invokevirtual 94, 3) := by decide +kernel
theorem dX9_appeal_5 : decode cX9_appeal 5 = .ok (.aload_n 0, 1) := by decide +kernel
theorem dX9_appeal_6 : decode cX9_appeal 6 = .ok (.getstatic 232, 3) := by decide +kernel
theorem dX9_appeal_9 : decode cX9_appeal 9 = .ok (.iload_n 1, 1) := by decide +kernel
theorem dX9_appeal_10 : decode cX9_appeal 10 = .ok (.invokevirtual 86, 3) := by decide +kernel
theorem dX9_appeal_13 : decode cX9_appeal 13 = .ok (.aload_n 0, 1) := by decide +kernel
theorem dX9_appeal_14 : decode cX9_appeal 14 = .ok (.getfield 12, 3) := by decide +kernel
theorem dX9_appeal_17 : decode cX9_appeal 17 = .ok (.aload_n 0, 1) := by decide +kernel
theorem dX9_appeal_18 : decode cX9_appeal 18 = .ok (.getfield 20, 3) := by decide +kernel
theorem dX9_appeal_21 : decode cX9_appeal 21 = .ok (.getfield 235, 3) := by decide +kernel
theorem dX9_appeal_24 : decode cX9_appeal 24 = .ok (.iload_n 1, 1) := by decide +kernel
theorem dX9_appeal_25 : decode cX9_appeal 25 = .ok (.iaload, 1) := by decide +kernel
theorem dX9_appeal_26 : decode cX9_appeal 26 = .ok (.invokevirtual 238, 3) := by decide +kernel
theorem dX9_appeal_29 : decode cX9_appeal 29 = .ok (.ireturn, 1) := by decide +kernel
theorem dX9_isDecided_0 : decode cX9_isDecided 0 = .ok (.aload_n 0, 1) := by decide +kernel
theorem dX9_isDecided_1 : decode cX9_isDecided 1 = .ok (.iload_n 1, 1) := by decide +kernel
theorem dX9_isDecided_2 : decode cX9_isDecided 2 = .ok (.invokevirtual 94, 3) := by decide +kernel
theorem dX9_isDecided_5 : decode cX9_isDecided 5 = .ok (.aload_n 0, 1) := by decide +kernel
theorem dX9_isDecided_6 : decode cX9_isDecided 6 = .ok (.getfield 20, 3) := by decide +kernel
theorem dX9_isDecided_9 : decode cX9_isDecided 9 = .ok (.iload_n 1, 1) := by decide +kernel
theorem dX9_isDecided_10 : decode cX9_isDecided 10 = .ok (.invokevirtual 241, 3) := by decide +kernel
theorem dX9_isDecided_13 : decode cX9_isDecided 13 = .ok (.ireturn, 1) := by decide +kernel
theorem dX9_isTangled_0 : decode cX9_isTangled 0 = .ok (.aload_n 0, 1) := by decide +kernel
theorem dX9_isTangled_1 : decode cX9_isTangled 1 = .ok (.iload_n 1, 1) := by decide +kernel
theorem dX9_isTangled_2 : decode cX9_isTangled 2 = .ok (.invokevirtual 94, 3) := by decide +kernel
theorem dX9_isTangled_5 : decode cX9_isTangled 5 = .ok (.aload_n 0, 1) := by decide +kernel
theorem dX9_isTangled_6 : decode cX9_isTangled 6 = .ok (.getfield 20, 3) := by decide +kernel
theorem dX9_isTangled_9 : decode cX9_isTangled 9 = .ok (.iload_n 1, 1) := by decide +kernel
theorem dX9_isTangled_10 : decode cX9_isTangled 10 = .ok (.invokevirtual 228, 3) := by decide +kernel
theorem dX9_isTangled_13 : decode cX9_isTangled 13 = .ok (.ireturn, 1) := by decide +kernel
theorem dX9_precedentOf_0 : decode cX9_precedentOf 0 = .ok (.aload_n 0, 1) := by decide +kernel
theorem dX9_precedentOf_1 : decode cX9_precedentOf 1 = .ok (.iload_n 1, 1) := by decide +kernel
theorem dX9_precedentOf_2 : decode cX9_precedentOf 2 = .ok (.invokevirtual 94, 3) := by decide +kernel
theorem dX9_precedentOf_5 : decode cX9_precedentOf 5 = .ok (.aload_n 0, 1) := by decide +kernel
theorem dX9_precedentOf_6 : decode cX9_precedentOf 6 = .ok (.getfield 20, 3) := by decide +kernel
theorem dX9_precedentOf_9 : decode cX9_precedentOf 9 = .ok (.iload_n 1, 1) := by decide +kernel
theorem dX9_precedentOf_10 : decode cX9_precedentOf 10 = .ok (.invokevirtual 241, 3) := by decide +kernel
theorem dX9_precedentOf_13 : decode cX9_precedentOf 13 = .ok (.ifCond .ne 13, 3) := by decide +kernel
theorem dX9_precedentOf_16 : decode cX9_precedentOf 16 = .ok (.new 150, 3) := by decide +kernel
theorem dX9_precedentOf_19 : decode cX9_precedentOf 19 = .ok (.dup, 1) := by decide +kernel
theorem dX9_precedentOf_20 : decode cX9_precedentOf 20 = .ok (.ldc 244, 2) := by decide +kernel
theorem dX9_precedentOf_22 : decode cX9_precedentOf 22 = .ok (.invokespecial 154, 3) := by decide +kernel
theorem dX9_precedentOf_25 : decode cX9_precedentOf 25 = .ok (.athrow, 1) := by decide +kernel
theorem dX9_precedentOf_26 : decode cX9_precedentOf 26 = .ok (.aload_n 0, 1) := by decide +kernel
theorem dX9_precedentOf_27 : decode cX9_precedentOf 27 = .ok (.getfield 20, 3) := by decide +kernel
theorem dX9_precedentOf_30 : decode cX9_precedentOf 30 = .ok (.getfield 235, 3) := by decide +kernel
theorem dX9_precedentOf_33 : decode cX9_precedentOf 33 = .ok (.iload_n 1, 1) := by decide +kernel
theorem dX9_precedentOf_34 : decode cX9_precedentOf 34 = .ok (.iaload, 1) := by decide +kernel
theorem dX9_precedentOf_35 : decode cX9_precedentOf 35 = .ok (.ireturn, 1) := by decide +kernel
theorem dX9_findPrecedent_0 : decode cX9_findPrecedent 0 = .ok (.aload_n 0, 1) := by decide +kernel
theorem dX9_findPrecedent_1 : decode cX9_findPrecedent 1 = .ok (.iload_n 1, 1) := by decide +kernel
theorem dX9_findPrecedent_2 : decode cX9_findPrecedent 2 = .ok (.invokevirtual 94, 3) := by decide +kernel
theorem dX9_findPrecedent_5 : decode cX9_findPrecedent 5 = .ok (.aload_n 0, 1) := by decide +kernel
theorem dX9_findPrecedent_6 : decode cX9_findPrecedent 6 = .ok (.getfield 12, 3) := by decide +kernel
theorem dX9_findPrecedent_9 : decode cX9_findPrecedent 9 = .ok (.iload_n 1, 1) := by decide +kernel
theorem dX9_findPrecedent_10 : decode cX9_findPrecedent 10 = .ok (.invokevirtual 246, 3) := by decide +kernel
theorem dX9_findPrecedent_13 : decode cX9_findPrecedent 13 = .ok (.istore_n 2, 1) := by decide +kernel
theorem dX9_findPrecedent_14 : decode cX9_findPrecedent 14 = .ok (.iload_n 2, 1) := by decide +kernel
theorem dX9_findPrecedent_15 : decode cX9_findPrecedent 15 = .ok (.iconst (-1), 1) := by decide +kernel
theorem dX9_findPrecedent_16 : decode cX9_findPrecedent 16 = .ok (.if_icmp .ne 13, 3) := by decide +kernel
theorem dX9_findPrecedent_19 : decode cX9_findPrecedent 19 = .ok (.new 150, 3) := by decide +kernel
theorem dX9_findPrecedent_22 : decode cX9_findPrecedent 22 = .ok (.dup, 1) := by decide +kernel
theorem dX9_findPrecedent_23 : decode cX9_findPrecedent 23 = .ok (.ldc 249, 2) := by decide +kernel
theorem dX9_findPrecedent_25 : decode cX9_findPrecedent 25 = .ok (.invokespecial 154, 3) := by decide +kernel
theorem dX9_findPrecedent_28 : decode cX9_findPrecedent 28 = .ok (.athrow, 1) := by decide +kernel
theorem dX9_findPrecedent_29 : decode cX9_findPrecedent 29 = .ok (.iload_n 2, 1) := by decide +kernel
theorem dX9_findPrecedent_30 : decode cX9_findPrecedent 30 = .ok (.ireturn, 1) := by decide +kernel
theorem dX9_precedentCount_0 : decode cX9_precedentCount 0 = .ok (.aload_n 0, 1) := by decide +kernel
theorem dX9_precedentCount_1 : decode cX9_precedentCount 1 = .ok (.getfield 20, 3) := by decide +kernel
theorem dX9_precedentCount_4 : decode cX9_precedentCount 4 = .ok (.getfield 251, 3) := by decide +kernel
theorem dX9_precedentCount_7 : decode cX9_precedentCount 7 = .ok (.ireturn, 1) := by decide +kernel
theorem dX9_isAppealed_0 : decode cX9_isAppealed 0 = .ok (.aload_n 0, 1) := by decide +kernel
theorem dX9_isAppealed_1 : decode cX9_isAppealed 1 = .ok (.iload_n 1, 1) := by decide +kernel
theorem dX9_isAppealed_2 : decode cX9_isAppealed 2 = .ok (.invokevirtual 254, 3) := by decide +kernel
theorem dX9_isAppealed_5 : decode cX9_isAppealed 5 = .ok (.aload_n 0, 1) := by decide +kernel
theorem dX9_isAppealed_6 : decode cX9_isAppealed 6 = .ok (.getfield 20, 3) := by decide +kernel
theorem dX9_isAppealed_9 : decode cX9_isAppealed 9 = .ok (.getfield 257, 3) := by decide +kernel
theorem dX9_isAppealed_12 : decode cX9_isAppealed 12 = .ok (.iload_n 1, 1) := by decide +kernel
theorem dX9_isAppealed_13 : decode cX9_isAppealed 13 = .ok (.baload, 1) := by decide +kernel
theorem dX9_isAppealed_14 : decode cX9_isAppealed 14 = .ok (.ireturn, 1) := by decide +kernel
theorem dX9_casesOn_0 : decode cX9_casesOn 0 = .ok (.aload_n 0, 1) := by decide +kernel
theorem dX9_casesOn_1 : decode cX9_casesOn 1 = .ok (.iload_n 1, 1) := by decide +kernel
theorem dX9_casesOn_2 : decode cX9_casesOn 2 = .ok (.invokevirtual 254, 3) := by decide +kernel
theorem dX9_casesOn_5 : decode cX9_casesOn 5 = .ok (.aload_n 0, 1) := by decide +kernel
theorem dX9_casesOn_6 : decode cX9_casesOn 6 = .ok (.getfield 20, 3) := by decide +kernel
theorem dX9_casesOn_9 : decode cX9_casesOn 9 = .ok (.iload_n 1, 1) := by decide +kernel
theorem dX9_casesOn_10 : decode cX9_casesOn 10 = .ok (.invokevirtual 261, 3) := by decide +kernel
theorem dX9_casesOn_13 : decode cX9_casesOn 13 = .ok (.ireturn, 1) := by decide +kernel
theorem dX9_decidedCount_0 : decode cX9_decidedCount 0 = .ok (.aload_n 0, 1) := by decide +kernel
theorem dX9_decidedCount_1 : decode cX9_decidedCount 1 = .ok (.getfield 20, 3) := by decide +kernel
theorem dX9_decidedCount_4 : decode cX9_decidedCount 4 = .ok (.invokevirtual 264, 3) := by decide +kernel
theorem dX9_decidedCount_7 : decode cX9_decidedCount 7 = .ok (.ireturn, 1) := by decide +kernel
theorem dX9_tangledCount_0 : decode cX9_tangledCount 0 = .ok (.aload_n 0, 1) := by decide +kernel
theorem dX9_tangledCount_1 : decode cX9_tangledCount 1 = .ok (.getfield 20, 3) := by decide +kernel
theorem dX9_tangledCount_4 : decode cX9_tangledCount 4 = .ok (.invokevirtual 267, 3) := by decide +kernel
theorem dX9_tangledCount_7 : decode cX9_tangledCount 7 = .ok (.ireturn, 1) := by decide +kernel
theorem dX9_meanLength_0 : decode cX9_meanLength 0 = .ok (.aload_n 0, 1) := by decide +kernel
theorem dX9_meanLength_1 : decode cX9_meanLength 1 = .ok (.getfield 20, 3) := by decide +kernel
theorem dX9_meanLength_4 : decode cX9_meanLength 4 = .ok (.getfield 147, 3) := by decide +kernel
theorem dX9_meanLength_7 : decode cX9_meanLength 7 = .ok (.ifCond .ne 14, 3) := by decide +kernel
theorem dX9_meanLength_10 : decode cX9_meanLength 10 = .ok (.new 270, 3) := by decide +kernel
theorem dX9_meanLength_13 : decode cX9_meanLength 13 = .ok (.dup, 1) := by decide +kernel
theorem dX9_meanLength_14 : decode cX9_meanLength 14 = .ok (.ldc_w 272, 3) := by decide +kernel
theorem dX9_meanLength_17 : decode cX9_meanLength 17 = .ok (.invokespecial 274, 3) := by decide +kernel
theorem dX9_meanLength_20 : decode cX9_meanLength 20 = .ok (.athrow, 1) := by decide +kernel
theorem dX9_meanLength_21 : decode cX9_meanLength 21 = .ok (.aload_n 0, 1) := by decide +kernel
theorem dX9_meanLength_22 : decode cX9_meanLength 22 = .ok (.getfield 20, 3) := by decide +kernel
theorem dX9_meanLength_25 : decode cX9_meanLength 25 = .ok (.invokevirtual 275, 3) := by decide +kernel
theorem dX9_meanLength_28 : decode cX9_meanLength 28 = .ok (.i2d, 1) := by decide +kernel
theorem dX9_meanLength_29 : decode cX9_meanLength 29 = .ok (.aload_n 0, 1) := by decide +kernel
theorem dX9_meanLength_30 : decode cX9_meanLength 30 = .ok (.getfield 20, 3) := by decide +kernel
theorem dX9_meanLength_33 : decode cX9_meanLength 33 = .ok (.getfield 147, 3) := by decide +kernel
theorem dX9_meanLength_36 : decode cX9_meanLength 36 = .ok (.i2d, 1) := by decide +kernel
theorem dX9_meanLength_37 : decode cX9_meanLength 37 = .ok (.ddiv, 1) := by decide +kernel
theorem dX9_meanLength_38 : decode cX9_meanLength 38 = .ok (.dreturn, 1) := by decide +kernel
theorem dX9_freedShare_0 : decode cX9_freedShare 0 = .ok (.aload_n 0, 1) := by decide +kernel
theorem dX9_freedShare_1 : decode cX9_freedShare 1 = .ok (.getfield 20, 3) := by decide +kernel
theorem dX9_freedShare_4 : decode cX9_freedShare 4 = .ok (.invokevirtual 264, 3) := by decide +kernel
theorem dX9_freedShare_7 : decode cX9_freedShare 7 = .ok (.istore_n 1, 1) := by decide +kernel
theorem dX9_freedShare_8 : decode cX9_freedShare 8 = .ok (.iload_n 1, 1) := by decide +kernel
theorem dX9_freedShare_9 : decode cX9_freedShare 9 = .ok (.ifCond .ne 14, 3) := by decide +kernel
theorem dX9_freedShare_12 : decode cX9_freedShare 12 = .ok (.new 270, 3) := by decide +kernel
theorem dX9_freedShare_15 : decode cX9_freedShare 15 = .ok (.dup, 1) := by decide +kernel
theorem dX9_freedShare_16 : decode cX9_freedShare 16 = .ok (.ldc_w 278, 3) := by decide +kernel
theorem dX9_freedShare_19 : decode cX9_freedShare 19 = .ok (.invokespecial 274, 3) := by decide +kernel
theorem dX9_freedShare_22 : decode cX9_freedShare 22 = .ok (.athrow, 1) := by decide +kernel
theorem dX9_freedShare_23 : decode cX9_freedShare 23 = .ok (.iload_n 1, 1) := by decide +kernel
theorem dX9_freedShare_24 : decode cX9_freedShare 24 = .ok (.aload_n 0, 1) := by decide +kernel
theorem dX9_freedShare_25 : decode cX9_freedShare 25 = .ok (.getfield 20, 3) := by decide +kernel
theorem dX9_freedShare_28 : decode cX9_freedShare 28 = .ok (.invokevirtual 267, 3) := by decide +kernel
theorem dX9_freedShare_31 : decode cX9_freedShare 31 = .ok (.isub, 1) := by decide +kernel
theorem dX9_freedShare_32 : decode cX9_freedShare 32 = .ok (.i2f, 1) := by decide +kernel
theorem dX9_freedShare_33 : decode cX9_freedShare 33 = .ok (.iload_n 1, 1) := by decide +kernel
theorem dX9_freedShare_34 : decode cX9_freedShare 34 = .ok (.i2f, 1) := by decide +kernel
theorem dX9_freedShare_35 : decode cX9_freedShare 35 = .ok (.fdiv, 1) := by decide +kernel
theorem dX9_freedShare_36 : decode cX9_freedShare 36 = .ok (.freturn, 1) := by decide +kernel
theorem dX9_isConsistent_0 : decode cX9_isConsistent 0 = .ok (.iconst 0, 1) := by decide +kernel
theorem dX9_isConsistent_1 : decode cX9_isConsistent 1 = .ok (.istore_n 1, 1) := by decide +kernel
theorem dX9_isConsistent_2 : decode cX9_isConsistent 2 = .ok (.iload_n 1, 1) := by decide +kernel
theorem dX9_isConsistent_3 : decode cX9_isConsistent 3 = .ok (.aload_n 0, 1) := by decide +kernel
theorem dX9_isConsistent_4 : decode cX9_isConsistent 4 = .ok (.getfield 20, 3) := by decide +kernel
theorem dX9_isConsistent_7 : decode cX9_isConsistent 7 = .ok (.getfield 147, 3) := by decide +kernel
theorem dX9_isConsistent_10 : decode cX9_isConsistent 10 = .ok (.if_icmp .ge 44, 3) := by decide +kernel
theorem dX9_isConsistent_13 : decode cX9_isConsistent 13 = .ok (.iload_n 1, 1) := by decide +kernel
theorem dX9_isConsistent_14 : decode cX9_isConsistent 14 = .ok (.iconst 1, 1) := by decide +kernel
theorem dX9_isConsistent_15 : decode cX9_isConsistent 15 = .ok (.iadd, 1) := by decide +kernel
theorem dX9_isConsistent_16 : decode cX9_isConsistent 16 = .ok (.istore_n 2, 1) := by decide +kernel
theorem dX9_isConsistent_17 : decode cX9_isConsistent 17 = .ok (.iload_n 2, 1) := by decide +kernel
theorem dX9_isConsistent_18 : decode cX9_isConsistent 18 = .ok (.aload_n 0, 1) := by decide +kernel
theorem dX9_isConsistent_19 : decode cX9_isConsistent 19 = .ok (.getfield 20, 3) := by decide +kernel
theorem dX9_isConsistent_22 : decode cX9_isConsistent 22 = .ok (.getfield 147, 3) := by decide +kernel
theorem dX9_isConsistent_25 : decode cX9_isConsistent 25 = .ok (.if_icmp .ge 23, 3) := by decide +kernel
theorem dX9_isConsistent_28 : decode cX9_isConsistent 28 = .ok (.aload_n 0, 1) := by decide +kernel
theorem dX9_isConsistent_29 : decode cX9_isConsistent 29 = .ok (.getfield 12, 3) := by decide +kernel
theorem dX9_isConsistent_32 : decode cX9_isConsistent 32 = .ok (.iload_n 1, 1) := by decide +kernel
theorem dX9_isConsistent_33 : decode cX9_isConsistent 33 = .ok (.iload_n 2, 1) := by decide +kernel
theorem dX9_isConsistent_34 : decode cX9_isConsistent 34 = .ok (.invokevirtual 280, 3) := by decide +kernel
theorem dX9_isConsistent_37 : decode cX9_isConsistent 37 = .ok (.ifCond .ne 5, 3) := by decide +kernel
theorem dX9_isConsistent_40 : decode cX9_isConsistent 40 = .ok (.iconst 0, 1) := by decide +kernel
theorem dX9_isConsistent_41 : decode cX9_isConsistent 41 = .ok (.ireturn, 1) := by decide +kernel
theorem dX9_isConsistent_42 : decode cX9_isConsistent 42 = .ok (.iinc 2 1, 3) := by decide +kernel
theorem dX9_isConsistent_45 : decode cX9_isConsistent 45 = .ok (.goto (-28), 3) := by decide +kernel
theorem dX9_isConsistent_48 : decode cX9_isConsistent 48 = .ok (.iinc 1 1, 3) := by decide +kernel
theorem dX9_isConsistent_51 : decode cX9_isConsistent 51 = .ok (.goto (-49), 3) := by decide +kernel
theorem dX9_isConsistent_54 : decode cX9_isConsistent 54 = .ok (.iconst 1, 1) := by decide +kernel
theorem dX9_isConsistent_55 : decode cX9_isConsistent 55 = .ok (.ireturn, 1) := by decide +kernel
theorem dX9_feed_0 : decode cX9_feed 0 = .ok (.aload_n 0, 1) := by decide +kernel
theorem dX9_feed_1 : decode cX9_feed 1 = .ok (.getfield 52, 3) := by decide +kernel
theorem dX9_feed_4 : decode cX9_feed 4 = .ok (.invokevirtual 283, 3) := by decide +kernel
theorem dX9_feed_7 : decode cX9_feed 7 = .ok (.ifCond .eq 14, 3) := by decide +kernel
theorem dX9_feed_10 : decode cX9_feed 10 = .ok (.new 287, 3) := by decide +kernel
theorem dX9_feed_13 : decode cX9_feed 13 = .ok (.dup, 1) := by decide +kernel
theorem dX9_feed_14 : decode cX9_feed 14 = .ok (.ldc_w 289, 3) := by decide +kernel
theorem dX9_feed_17 : decode cX9_feed 17 = .ok (.invokespecial 291, 3) := by decide +kernel
theorem dX9_feed_20 : decode cX9_feed 20 = .ok (.athrow, 1) := by decide +kernel
theorem dX9_feed_21 : decode cX9_feed 21 = .ok (.aload_n 0, 1) := by decide +kernel
theorem dX9_feed_22 : decode cX9_feed 22 = .ok (.getfield 52, 3) := by decide +kernel
theorem dX9_feed_25 : decode cX9_feed 25 = .ok (.iload_n 1, 1) := by decide +kernel
theorem dX9_feed_26 : decode cX9_feed 26 = .ok (.invokevirtual 292, 3) := by decide +kernel
theorem dX9_feed_29 : decode cX9_feed 29 = .ok (.ireturn, 1) := by decide +kernel
theorem dX9_execute_0 : decode cX9_execute 0 = .ok (.aload_n 0, 1) := by decide +kernel
theorem dX9_execute_1 : decode cX9_execute 1 = .ok (.getfield 52, 3) := by decide +kernel
theorem dX9_execute_4 : decode cX9_execute 4 = .ok (.invokevirtual 295, 3) := by decide +kernel
theorem dX9_execute_7 : decode cX9_execute 7 = .ok (.istore_n 1, 1) := by decide +kernel
theorem dX9_execute_8 : decode cX9_execute 8 = .ok (.aload_n 0, 1) := by decide +kernel
theorem dX9_execute_9 : decode cX9_execute 9 = .ok (.getfield 52, 3) := by decide +kernel
theorem dX9_execute_12 : decode cX9_execute 12 = .ok (.invokevirtual 298, 3) := by decide +kernel
theorem dX9_execute_15 : decode cX9_execute 15 = .ok (.iload_n 1, 1) := by decide +kernel
theorem dX9_execute_16 : decode cX9_execute 16 = .ok (.ifCond .ne 25, 3) := by decide +kernel
theorem dX9_execute_19 : decode cX9_execute 19 = .ok (.aload_n 0, 1) := by decide +kernel
theorem dX9_execute_20 : decode cX9_execute 20 = .ok (.aload_n 0, 1) := by decide +kernel
theorem dX9_execute_21 : decode cX9_execute 21 = .ok (.getfield 52, 3) := by decide +kernel
theorem dX9_execute_24 : decode cX9_execute 24 = .ok (.getfield 301, 3) := by decide +kernel
theorem dX9_execute_27 : decode cX9_execute 27 = .ok (.putfield 68, 3) := by decide +kernel
theorem dX9_execute_30 : decode cX9_execute 30 = .ok (.new 102, 3) := by decide +kernel
theorem dX9_execute_33 : decode cX9_execute 33 = .ok (.dup, 1) := by decide +kernel
theorem dX9_execute_34 : decode cX9_execute 34 = .ok (.ldc_w 304, 3) := by decide +kernel
theorem dX9_execute_37 : decode cX9_execute 37 = .ok (.invokespecial 106, 3) := by decide +kernel
theorem dX9_execute_40 : decode cX9_execute 40 = .ok (.athrow, 1) := by decide +kernel
theorem dX9_execute_41 : decode cX9_execute 41 = .ok (.aload_n 0, 1) := by decide +kernel
theorem dX9_execute_42 : decode cX9_execute 42 = .ok (.getfield 29, 3) := by decide +kernel
theorem dX9_execute_45 : decode cX9_execute 45 = .ok (.aload_n 0, 1) := by decide +kernel
theorem dX9_execute_46 : decode cX9_execute 46 = .ok (.getfield 20, 3) := by decide +kernel
theorem dX9_execute_49 : decode cX9_execute 49 = .ok (.invokevirtual 306, 3) := by decide +kernel
theorem dX9_execute_52 : decode cX9_execute 52 = .ok (.iconst 0, 1) := by decide +kernel
theorem dX9_execute_53 : decode cX9_execute 53 = .ok (.istore_n 2, 1) := by decide +kernel
theorem dX9_execute_54 : decode cX9_execute 54 = .ok (.iload_n 2, 1) := by decide +kernel
theorem dX9_execute_55 : decode cX9_execute 55 = .ok (.aload_n 0, 1) := by decide +kernel
theorem dX9_execute_56 : decode cX9_execute 56 = .ok (.getfield 52, 3) := by decide +kernel
theorem dX9_execute_59 : decode cX9_execute 59 = .ok (.getfield 310, 3) := by decide +kernel
theorem dX9_execute_62 : decode cX9_execute 62 = .ok (.if_icmp .ge 100, 3) := by decide +kernel
theorem dX9_execute_65 : decode cX9_execute 65 = .ok (.aload_n 0, 1) := by decide +kernel
theorem dX9_execute_66 : decode cX9_execute 66 = .ok (.getfield 52, 3) := by decide +kernel
theorem dX9_execute_69 : decode cX9_execute 69 = .ok (.getfield 313, 3) := by decide +kernel
theorem dX9_execute_72 : decode cX9_execute 72 = .ok (.iload_n 2, 1) := by decide +kernel
theorem dX9_execute_73 : decode cX9_execute 73 = .ok (.aaload, 1) := by decide +kernel
theorem dX9_execute_74 : decode cX9_execute 74 = .ok (.astore_n 3, 1) := by decide +kernel
theorem dX9_execute_75 : decode cX9_execute 75 = .ok (.aload_n 0, 1) := by decide +kernel
theorem dX9_execute_76 : decode cX9_execute 76 = .ok (.getfield 12, 3) := by decide +kernel
theorem dX9_execute_79 : decode cX9_execute 79 = .ok (.aload_n 3, 1) := by decide +kernel
theorem dX9_execute_80 : decode cX9_execute 80 = .ok (.aload_n 0, 1) := by decide +kernel
theorem dX9_execute_81 : decode cX9_execute 81 = .ok (.getfield 52, 3) := by decide +kernel
theorem dX9_execute_84 : decode cX9_execute 84 = .ok (.getfield 317, 3) := by decide +kernel
theorem dX9_execute_87 : decode cX9_execute 87 = .ok (.iload_n 2, 1) := by decide +kernel
theorem dX9_execute_88 : decode cX9_execute 88 = .ok (.iaload, 1) := by decide +kernel
theorem dX9_execute_89 : decode cX9_execute 89 = .ok (.invokevirtual 320, 3) := by decide +kernel
theorem dX9_execute_92 : decode cX9_execute 92 = .ok (.istore 4, 2) := by decide +kernel
theorem dX9_execute_94 : decode cX9_execute 94 = .ok (.iload 4, 2) := by decide +kernel
theorem dX9_execute_96 : decode cX9_execute 96 = .ok (.ifCond .eq 34, 3) := by decide +kernel
theorem dX9_execute_99 : decode cX9_execute 99 = .ok (.aload_n 0, 1) := by decide +kernel
theorem dX9_execute_100 : decode cX9_execute 100 = .ok (.getfield 20, 3) := by decide +kernel
theorem dX9_execute_103 : decode cX9_execute 103 = .ok (.aload_n 0, 1) := by decide +kernel
theorem dX9_execute_104 : decode cX9_execute 104 = .ok (.getfield 29, 3) := by decide +kernel
theorem dX9_execute_107 : decode cX9_execute 107 = .ok (.invokevirtual 306, 3) := by decide +kernel
theorem dX9_execute_110 : decode cX9_execute 110 = .ok (.aload_n 0, 1) := by decide +kernel
theorem dX9_execute_111 : decode cX9_execute 111 = .ok (.bipush 7, 2) := by decide +kernel
theorem dX9_execute_113 : decode cX9_execute 113 = .ok (.iload_n 2, 1) := by decide +kernel
theorem dX9_execute_114 : decode cX9_execute 114 = .ok (.iload 4, 2) := by decide +kernel
theorem dX9_execute_116 : decode cX9_execute 116 = .ok (.invokevirtual 324, 3) := by decide +kernel
theorem dX9_execute_119 : decode cX9_execute 119 = .ok (.new 328, 3) := by decide +kernel
theorem dX9_execute_122 : decode cX9_execute 122 = .ok (.dup, 1) := by decide +kernel
theorem dX9_execute_123 : decode cX9_execute 123 = .ok (.ldc_w 330, 3) := by decide +kernel
theorem dX9_execute_126 : decode cX9_execute 126 = .ok (.invokespecial 332, 3) := by decide +kernel
theorem dX9_execute_129 : decode cX9_execute 129 = .ok (.athrow, 1) := by decide +kernel
theorem dX9_execute_130 : decode cX9_execute 130 = .ok (.aload_n 0, 1) := by decide +kernel
theorem dX9_execute_131 : decode cX9_execute 131 = .ok (.getfield 12, 3) := by decide +kernel
theorem dX9_execute_134 : decode cX9_execute 134 = .ok (.aload_n 3, 1) := by decide +kernel
theorem dX9_execute_135 : decode cX9_execute 135 = .ok (.aload_n 0, 1) := by decide +kernel
theorem dX9_execute_136 : decode cX9_execute 136 = .ok (.getfield 52, 3) := by decide +kernel
theorem dX9_execute_139 : decode cX9_execute 139 = .ok (.getfield 317, 3) := by decide +kernel
theorem dX9_execute_142 : decode cX9_execute 142 = .ok (.iload_n 2, 1) := by decide +kernel
theorem dX9_execute_143 : decode cX9_execute 143 = .ok (.iaload, 1) := by decide +kernel
theorem dX9_execute_144 : decode cX9_execute 144 = .ok (.aload_n 0, 1) := by decide +kernel
theorem dX9_execute_145 : decode cX9_execute 145 = .ok (.getfield 52, 3) := by decide +kernel
theorem dX9_execute_148 : decode cX9_execute 148 = .ok (.getfield 333, 3) := by decide +kernel
theorem dX9_execute_151 : decode cX9_execute 151 = .ok (.iload_n 2, 1) := by decide +kernel
theorem dX9_execute_152 : decode cX9_execute 152 = .ok (.iaload, 1) := by decide +kernel
theorem dX9_execute_153 : decode cX9_execute 153 = .ok (.invokevirtual 334, 3) := by decide +kernel
theorem dX9_execute_156 : decode cX9_execute 156 = .ok (.iinc 2 1, 3) := by decide +kernel
theorem dX9_execute_159 : decode cX9_execute 159 = .ok (.goto (-105), 3) := by decide +kernel
theorem dX9_execute_162 : decode cX9_execute 162 = .ok (.aload_n 0, 1) := by decide +kernel
theorem dX9_execute_163 : decode cX9_execute 163 = .ok (.getfield 38, 3) := by decide +kernel
theorem dX9_execute_166 : decode cX9_execute 166 = .ok (.aload_n 0, 1) := by decide +kernel
theorem dX9_execute_167 : decode cX9_execute 167 = .ok (.getfield 29, 3) := by decide +kernel
theorem dX9_execute_170 : decode cX9_execute 170 = .ok (.invokevirtual 338, 3) := by decide +kernel
theorem dX9_execute_173 : decode cX9_execute 173 = .ok (.aload_n 0, 1) := by decide +kernel
theorem dX9_execute_174 : decode cX9_execute 174 = .ok (.getfield 52, 3) := by decide +kernel
theorem dX9_execute_177 : decode cX9_execute 177 = .ok (.getfield 310, 3) := by decide +kernel
theorem dX9_execute_180 : decode cX9_execute 180 = .ok (.ireturn, 1) := by decide +kernel
theorem dX9_faultPosition_0 : decode cX9_faultPosition 0 = .ok (.aload_n 0, 1) := by decide +kernel
theorem dX9_faultPosition_1 : decode cX9_faultPosition 1 = .ok (.getfield 68, 3) := by decide +kernel
theorem dX9_faultPosition_4 : decode cX9_faultPosition 4 = .ok (.iconst (-1), 1) := by decide +kernel
theorem dX9_faultPosition_5 : decode cX9_faultPosition 5 = .ok (.if_icmp .ne 14, 3) := by decide +kernel
theorem dX9_faultPosition_8 : decode cX9_faultPosition 8 = .ok (.new 150, 3) := by decide +kernel
theorem dX9_faultPosition_11 : decode cX9_faultPosition 11 = .ok (.dup, 1) := by decide +kernel
theorem dX9_faultPosition_12 : decode cX9_faultPosition 12 = .ok (.ldc_w 341, 3) := by decide +kernel
theorem dX9_faultPosition_15 : decode cX9_faultPosition 15 = .ok (.invokespecial 154, 3) := by decide +kernel
theorem dX9_faultPosition_18 : decode cX9_faultPosition 18 = .ok (.athrow, 1) := by decide +kernel
theorem dX9_faultPosition_19 : decode cX9_faultPosition 19 = .ok (.aload_n 0, 1) := by decide +kernel
theorem dX9_faultPosition_20 : decode cX9_faultPosition 20 = .ok (.getfield 68, 3) := by decide +kernel
theorem dX9_faultPosition_23 : decode cX9_faultPosition 23 = .ok (.ireturn, 1) := by decide +kernel
theorem dX9_writeCase_0 : decode cX9_writeCase 0 = .ok (.aload_n 0, 1) := by decide +kernel
theorem dX9_writeCase_1 : decode cX9_writeCase 1 = .ok (.iload_n 1, 1) := by decide +kernel
theorem dX9_writeCase_2 : decode cX9_writeCase 2 = .ok (.invokevirtual 94, 3) := by decide +kernel
theorem dX9_writeCase_5 : decode cX9_writeCase 5 = .ok (.aload_n 0, 1) := by decide +kernel
theorem dX9_writeCase_6 : decode cX9_writeCase 6 = .ok (.getfield 20, 3) := by decide +kernel
theorem dX9_writeCase_9 : decode cX9_writeCase 9 = .ok (.getfield 112, 3) := by decide +kernel
theorem dX9_writeCase_12 : decode cX9_writeCase 12 = .ok (.iload_n 1, 1) := by decide +kernel
theorem dX9_writeCase_13 : decode cX9_writeCase 13 = .ok (.aaload, 1) := by decide +kernel
theorem dX9_writeCase_14 : decode cX9_writeCase 14 = .ok (.astore_n 2, 1) := by decide +kernel
theorem dX9_writeCase_15 : decode cX9_writeCase 15 = .ok (.aload_n 0, 1) := by decide +kernel
theorem dX9_writeCase_16 : decode cX9_writeCase 16 = .ok (.aload_n 2, 1) := by decide +kernel
theorem dX9_writeCase_17 : decode cX9_writeCase 17 = .ok (.getfield 155, 3) := by decide +kernel
theorem dX9_writeCase_20 : decode cX9_writeCase 20 = .ok (.aload_n 2, 1) := by decide +kernel
theorem dX9_writeCase_21 : decode cX9_writeCase 21 = .ok (.getfield 121, 3) := by decide +kernel
theorem dX9_writeCase_24 : decode cX9_writeCase 24 = .ok (.invokevirtual 343, 3) := by decide +kernel
theorem dX9_writeCase_27 : decode cX9_writeCase 27 = .ok (.aload_n 0, 1) := by decide +kernel
theorem dX9_writeCase_28 : decode cX9_writeCase 28 = .ok (.bipush 58, 2) := by decide +kernel
theorem dX9_writeCase_30 : decode cX9_writeCase 30 = .ok (.invokevirtual 347, 3) := by decide +kernel
theorem dX9_writeCase_33 : decode cX9_writeCase 33 = .ok (.aload_n 0, 1) := by decide +kernel
theorem dX9_writeCase_34 : decode cX9_writeCase 34 = .ok (.aload_n 0, 1) := by decide +kernel
theorem dX9_writeCase_35 : decode cX9_writeCase 35 = .ok (.iload_n 1, 1) := by decide +kernel
theorem dX9_writeCase_36 : decode cX9_writeCase 36 = .ok (.invokevirtual 351, 3) := by decide +kernel
theorem dX9_writeCase_39 : decode cX9_writeCase 39 = .ok (.invokevirtual 347, 3) := by decide +kernel
theorem dX9_writeCase_42 : decode cX9_writeCase 42 = .ok (.aload_n 0, 1) := by decide +kernel
theorem dX9_writeCase_43 : decode cX9_writeCase 43 = .ok (.getfield 60, 3) := by decide +kernel
theorem dX9_writeCase_46 : decode cX9_writeCase 46 = .ok (.ireturn, 1) := by decide +kernel
theorem dX9_writeRelaxed_0 : decode cX9_writeRelaxed 0 = .ok (.aload_n 0, 1) := by decide +kernel
theorem dX9_writeRelaxed_1 : decode cX9_writeRelaxed 1 = .ok (.iload_n 1, 1) := by decide +kernel
theorem dX9_writeRelaxed_2 : decode cX9_writeRelaxed 2 = .ok (.invokevirtual 169, 3) := by decide +kernel
theorem dX9_writeRelaxed_5 : decode cX9_writeRelaxed 5 = .ok (.aload_n 0, 1) := by decide +kernel
theorem dX9_writeRelaxed_6 : decode cX9_writeRelaxed 6 = .ok (.aload_n 0, 1) := by decide +kernel
theorem dX9_writeRelaxed_7 : decode cX9_writeRelaxed 7 = .ok (.getfield 25, 3) := by decide +kernel
theorem dX9_writeRelaxed_10 : decode cX9_writeRelaxed 10 = .ok (.getfield 354, 3) := by decide +kernel
theorem dX9_writeRelaxed_13 : decode cX9_writeRelaxed 13 = .ok (.aload_n 0, 1) := by decide +kernel
theorem dX9_writeRelaxed_14 : decode cX9_writeRelaxed 14 = .ok (.getfield 25, 3) := by decide +kernel
theorem dX9_writeRelaxed_17 : decode cX9_writeRelaxed 17 = .ok (.getfield 172, 3) := by decide +kernel
theorem dX9_writeRelaxed_20 : decode cX9_writeRelaxed 20 = .ok (.invokevirtual 343, 3) := by decide +kernel
theorem dX9_writeRelaxed_23 : decode cX9_writeRelaxed 23 = .ok (.aload_n 0, 1) := by decide +kernel
theorem dX9_writeRelaxed_24 : decode cX9_writeRelaxed 24 = .ok (.getfield 60, 3) := by decide +kernel
theorem dX9_writeRelaxed_27 : decode cX9_writeRelaxed 27 = .ok (.ireturn, 1) := by decide +kernel
theorem dX9_lineCharacter_0 : decode cX9_lineCharacter 0 = .ok (.iload_n 1, 1) := by decide +kernel
theorem dX9_lineCharacter_1 : decode cX9_lineCharacter 1 = .ok (.ifCond .lt 11, 3) := by decide +kernel
theorem dX9_lineCharacter_4 : decode cX9_lineCharacter 4 = .ok (.iload_n 1, 1) := by decide +kernel
theorem dX9_lineCharacter_5 : decode cX9_lineCharacter 5 = .ok (.aload_n 0, 1) := by decide +kernel
theorem dX9_lineCharacter_6 : decode cX9_lineCharacter 6 = .ok (.getfield 60, 3) := by decide +kernel
theorem dX9_lineCharacter_9 : decode cX9_lineCharacter 9 = .ok (.if_icmp .lt 14, 3) := by decide +kernel
theorem dX9_lineCharacter_12 : decode cX9_lineCharacter 12 = .ok (.new 357, 3) := by decide +kernel
theorem dX9_lineCharacter_15 : decode cX9_lineCharacter 15 = .ok (.dup, 1) := by decide +kernel
theorem dX9_lineCharacter_16 : decode cX9_lineCharacter 16 = .ok (.ldc_w 359, 3) := by decide +kernel
theorem dX9_lineCharacter_19 : decode cX9_lineCharacter 19 = .ok (.invokespecial 361, 3) := by decide +kernel
theorem dX9_lineCharacter_22 : decode cX9_lineCharacter 22 = .ok (.athrow, 1) := by decide +kernel
theorem dX9_lineCharacter_23 : decode cX9_lineCharacter 23 = .ok (.aload_n 0, 1) := by decide +kernel
theorem dX9_lineCharacter_24 : decode cX9_lineCharacter 24 = .ok (.getfield 56, 3) := by decide +kernel
theorem dX9_lineCharacter_27 : decode cX9_lineCharacter 27 = .ok (.iload_n 1, 1) := by decide +kernel
theorem dX9_lineCharacter_28 : decode cX9_lineCharacter 28 = .ok (.caload, 1) := by decide +kernel
theorem dX9_lineCharacter_29 : decode cX9_lineCharacter 29 = .ok (.ireturn, 1) := by decide +kernel
theorem dX9_denial_0 : decode cX9_denial 0 = .ok (.aload_n 0, 1) := by decide +kernel
theorem dX9_denial_1 : decode cX9_denial 1 = .ok (.invokevirtual 362, 3) := by decide +kernel
theorem dX9_denial_4 : decode cX9_denial 4 = .ok (.aload_n 0, 1) := by decide +kernel
theorem dX9_denial_5 : decode cX9_denial 5 = .ok (.getfield 71, 3) := by decide +kernel
theorem dX9_denial_8 : decode cX9_denial 8 = .ok (.ireturn, 1) := by decide +kernel
theorem dX9_denialDetail_0 : decode cX9_denialDetail 0 = .ok (.aload_n 0, 1) := by decide +kernel
theorem dX9_denialDetail_1 : decode cX9_denialDetail 1 = .ok (.invokevirtual 362, 3) := by decide +kernel
theorem dX9_denialDetail_4 : decode cX9_denialDetail 4 = .ok (.aload_n 0, 1) := by decide +kernel
theorem dX9_denialDetail_5 : decode cX9_denialDetail 5 = .ok (.getfield 74, 3) := by decide +kernel
theorem dX9_denialDetail_8 : decode cX9_denialDetail 8 = .ok (.ireturn, 1) := by decide +kernel
theorem dX9_denialCause_0 : decode cX9_denialCause 0 = .ok (.aload_n 0, 1) := by decide +kernel
theorem dX9_denialCause_1 : decode cX9_denialCause 1 = .ok (.invokevirtual 362, 3) := by decide +kernel
theorem dX9_denialCause_4 : decode cX9_denialCause 4 = .ok (.aload_n 0, 1) := by decide +kernel
theorem dX9_denialCause_5 : decode cX9_denialCause 5 = .ok (.getfield 77, 3) := by decide +kernel
theorem dX9_denialCause_8 : decode cX9_denialCause 8 = .ok (.ifCond .ne 14, 3) := by decide +kernel
theorem dX9_denialCause_11 : decode cX9_denialCause 11 = .ok (.new 150, 3) := by decide +kernel
theorem dX9_denialCause_14 : decode cX9_denialCause 14 = .ok (.dup, 1) := by decide +kernel
theorem dX9_denialCause_15 : decode cX9_denialCause 15 = .ok (.ldc_w 365, 3) := by decide +kernel
theorem dX9_denialCause_18 : decode cX9_denialCause 18 = .ok (.invokespecial 154, 3) := by decide +kernel
theorem dX9_denialCause_21 : decode cX9_denialCause 21 = .ok (.athrow, 1) := by decide +kernel
theorem dX9_denialCause_22 : decode cX9_denialCause 22 = .ok (.aload_n 0, 1) := by decide +kernel
theorem dX9_denialCause_23 : decode cX9_denialCause 23 = .ok (.getfield 77, 3) := by decide +kernel
theorem dX9_denialCause_26 : decode cX9_denialCause 26 = .ok (.ireturn, 1) := by decide +kernel
theorem dX9_undo_0 : decode cX9_undo 0 = .ok (.aload_n 0, 1) := by decide +kernel
theorem dX9_undo_1 : decode cX9_undo 1 = .ok (.getfield 38, 3) := by decide +kernel
theorem dX9_undo_4 : decode cX9_undo 4 = .ok (.getfield 367, 3) := by decide +kernel
theorem dX9_undo_7 : decode cX9_undo 7 = .ok (.ifCond .ne 14, 3) := by decide +kernel
theorem dX9_undo_10 : decode cX9_undo 10 = .ok (.new 287, 3) := by decide +kernel
theorem dX9_undo_13 : decode cX9_undo 13 = .ok (.dup, 1) := by decide +kernel
theorem dX9_undo_14 : decode cX9_undo 14 = .ok (.ldc_w 368, 3) := by decide +kernel
theorem dX9_undo_17 : decode cX9_undo 17 = .ok (.invokespecial 291, 3) := by decide +kernel
theorem dX9_undo_20 : decode cX9_undo 20 = .ok (.athrow, 1) := by decide +kernel
theorem dX9_undo_21 : decode cX9_undo 21 = .ok (.aload_n 0, 1) := by decide +kernel
theorem dX9_undo_22 : decode cX9_undo 22 = .ok (.getfield 38, 3) := by decide +kernel
theorem dX9_undo_25 : decode cX9_undo 25 = .ok (.aload_n 0, 1) := by decide +kernel
theorem dX9_undo_26 : decode cX9_undo 26 = .ok (.getfield 20, 3) := by decide +kernel
theorem dX9_undo_29 : decode cX9_undo 29 = .ok (.invokevirtual 370, 3) := by decide +kernel
theorem dX9_undo_32 : decode cX9_undo 32 = .ok (.aload_n 0, 1) := by decide +kernel
theorem dX9_undo_33 : decode cX9_undo 33 = .ok (.getfield 38, 3) := by decide +kernel
theorem dX9_undo_36 : decode cX9_undo 36 = .ok (.getfield 367, 3) := by decide +kernel
theorem dX9_undo_39 : decode cX9_undo 39 = .ok (.ireturn, 1) := by decide +kernel
theorem dX9_undoCount_0 : decode cX9_undoCount 0 = .ok (.aload_n 0, 1) := by decide +kernel
theorem dX9_undoCount_1 : decode cX9_undoCount 1 = .ok (.getfield 38, 3) := by decide +kernel
theorem dX9_undoCount_4 : decode cX9_undoCount 4 = .ok (.getfield 367, 3) := by decide +kernel
theorem dX9_undoCount_7 : decode cX9_undoCount 7 = .ok (.ireturn, 1) := by decide +kernel
theorem dX9_saveSnapshot_0 : decode cX9_saveSnapshot 0 = .ok (.aload_n 0, 1) := by decide +kernel
theorem dX9_saveSnapshot_1 : decode cX9_saveSnapshot 1 = .ok (.getfield 32, 3) := by decide +kernel
theorem dX9_saveSnapshot_4 : decode cX9_saveSnapshot 4 = .ok (.aload_n 0, 1) := by decide +kernel
theorem dX9_saveSnapshot_5 : decode cX9_saveSnapshot 5 = .ok (.getfield 20, 3) := by decide +kernel
theorem dX9_saveSnapshot_8 : decode cX9_saveSnapshot 8 = .ok (.invokevirtual 306, 3) := by decide +kernel
theorem dX9_saveSnapshot_11 : decode cX9_saveSnapshot 11 = .ok (.aload_n 0, 1) := by decide +kernel
theorem dX9_saveSnapshot_12 : decode cX9_saveSnapshot 12 = .ok (.iconst 1, 1) := by decide +kernel
theorem dX9_saveSnapshot_13 : decode cX9_saveSnapshot 13 = .ok (.putfield 64, 3) := by decide +kernel
theorem dX9_saveSnapshot_16 : decode cX9_saveSnapshot 16 = .ok (.aload_n 0, 1) := by decide +kernel
theorem dX9_saveSnapshot_17 : decode cX9_saveSnapshot 17 = .ok (.getfield 20, 3) := by decide +kernel
theorem dX9_saveSnapshot_20 : decode cX9_saveSnapshot 20 = .ok (.getfield 147, 3) := by decide +kernel
theorem dX9_saveSnapshot_23 : decode cX9_saveSnapshot 23 = .ok (.ireturn, 1) := by decide +kernel
theorem dX9_restoreSnapshot_0 : decode cX9_restoreSnapshot 0 = .ok (.aload_n 0, 1) := by decide +kernel
theorem dX9_restoreSnapshot_1 : decode cX9_restoreSnapshot 1 = .ok (.getfield 64, 3) := by decide +kernel
theorem dX9_restoreSnapshot_4 : decode cX9_restoreSnapshot 4 = .ok (.ifCond .ne 14, 3) := by decide +kernel
theorem dX9_restoreSnapshot_7 : decode cX9_restoreSnapshot 7 = .ok (.new 287, 3) := by decide +kernel
theorem dX9_restoreSnapshot_10 : decode cX9_restoreSnapshot 10 = .ok (.dup, 1) := by decide +kernel
theorem dX9_restoreSnapshot_11 : decode cX9_restoreSnapshot 11 = .ok (.ldc_w 373, 3) := by decide +kernel
theorem dX9_restoreSnapshot_14 : decode cX9_restoreSnapshot 14 = .ok (.invokespecial 291, 3) := by decide +kernel
theorem dX9_restoreSnapshot_17 : decode cX9_restoreSnapshot 17 = .ok (.athrow, 1) := by decide +kernel
theorem dX9_restoreSnapshot_18 : decode cX9_restoreSnapshot 18 = .ok (.aload_n 0, 1) := by decide +kernel
theorem dX9_restoreSnapshot_19 : decode cX9_restoreSnapshot 19 = .ok (.getfield 20, 3) := by decide +kernel
theorem dX9_restoreSnapshot_22 : decode cX9_restoreSnapshot 22 = .ok (.aload_n 0, 1) := by decide +kernel
theorem dX9_restoreSnapshot_23 : decode cX9_restoreSnapshot 23 = .ok (.getfield 32, 3) := by decide +kernel
theorem dX9_restoreSnapshot_26 : decode cX9_restoreSnapshot 26 = .ok (.invokevirtual 306, 3) := by decide +kernel
theorem dX9_restoreSnapshot_29 : decode cX9_restoreSnapshot 29 = .ok (.aload_n 0, 1) := by decide +kernel
theorem dX9_restoreSnapshot_30 : decode cX9_restoreSnapshot 30 = .ok (.getfield 38, 3) := by decide +kernel
theorem dX9_restoreSnapshot_33 : decode cX9_restoreSnapshot 33 = .ok (.invokevirtual 375, 3) := by decide +kernel
theorem dX9_restoreSnapshot_36 : decode cX9_restoreSnapshot 36 = .ok (.aload_n 0, 1) := by decide +kernel
theorem dX9_restoreSnapshot_37 : decode cX9_restoreSnapshot 37 = .ok (.getfield 20, 3) := by decide +kernel
theorem dX9_restoreSnapshot_40 : decode cX9_restoreSnapshot 40 = .ok (.getfield 147, 3) := by decide +kernel
theorem dX9_restoreSnapshot_43 : decode cX9_restoreSnapshot 43 = .ok (.ireturn, 1) := by decide +kernel
theorem dX9_requireCase_0 : decode cX9_requireCase 0 = .ok (.aload_n 0, 1) := by decide +kernel
theorem dX9_requireCase_1 : decode cX9_requireCase 1 = .ok (.getfield 20, 3) := by decide +kernel
theorem dX9_requireCase_4 : decode cX9_requireCase 4 = .ok (.iload_n 1, 1) := by decide +kernel
theorem dX9_requireCase_5 : decode cX9_requireCase 5 = .ok (.invokevirtual 378, 3) := by decide +kernel
theorem dX9_requireCase_8 : decode cX9_requireCase 8 = .ok (.ifCond .ne 14, 3) := by decide +kernel
theorem dX9_requireCase_11 : decode cX9_requireCase 11 = .ok (.new 357, 3) := by decide +kernel
theorem dX9_requireCase_14 : decode cX9_requireCase 14 = .ok (.dup, 1) := by decide +kernel
theorem dX9_requireCase_15 : decode cX9_requireCase 15 = .ok (.ldc_w 381, 3) := by decide +kernel
theorem dX9_requireCase_18 : decode cX9_requireCase 18 = .ok (.invokespecial 361, 3) := by decide +kernel
theorem dX9_requireCase_21 : decode cX9_requireCase 21 = .ok (.athrow, 1) := by decide +kernel
theorem dX9_requireCase_22 : decode cX9_requireCase 22 = .ok (.return_, 1) := by decide +kernel
theorem dX9_requirePrecedent_0 : decode cX9_requirePrecedent 0 = .ok (.iload_n 1, 1) := by decide +kernel
theorem dX9_requirePrecedent_1 : decode cX9_requirePrecedent 1 = .ok (.ifCond .lt 14, 3) := by decide +kernel
theorem dX9_requirePrecedent_4 : decode cX9_requirePrecedent 4 = .ok (.iload_n 1, 1) := by decide +kernel
theorem dX9_requirePrecedent_5 : decode cX9_requirePrecedent 5 = .ok (.aload_n 0, 1) := by decide +kernel
theorem dX9_requirePrecedent_6 : decode cX9_requirePrecedent 6 = .ok (.getfield 20, 3) := by decide +kernel
theorem dX9_requirePrecedent_9 : decode cX9_requirePrecedent 9 = .ok (.getfield 251, 3) := by decide +kernel
theorem dX9_requirePrecedent_12 : decode cX9_requirePrecedent 12 = .ok (.if_icmp .lt 13, 3) := by decide +kernel
theorem dX9_requirePrecedent_15 : decode cX9_requirePrecedent 15 = .ok (.new 357, 3) := by decide +kernel
theorem dX9_requirePrecedent_18 : decode cX9_requirePrecedent 18 = .ok (.dup, 1) := by decide +kernel
theorem dX9_requirePrecedent_19 : decode cX9_requirePrecedent 19 = .ok (.ldc 249, 2) := by decide +kernel
theorem dX9_requirePrecedent_21 : decode cX9_requirePrecedent 21 = .ok (.invokespecial 361, 3) := by decide +kernel
theorem dX9_requirePrecedent_24 : decode cX9_requirePrecedent 24 = .ok (.athrow, 1) := by decide +kernel
theorem dX9_requirePrecedent_25 : decode cX9_requirePrecedent 25 = .ok (.return_, 1) := by decide +kernel
theorem dX9_requirePosition_0 : decode cX9_requirePosition 0 = .ok (.iload_n 0, 1) := by decide +kernel
theorem dX9_requirePosition_1 : decode cX9_requirePosition 1 = .ok (.iconst 1, 1) := by decide +kernel
theorem dX9_requirePosition_2 : decode cX9_requirePosition 2 = .ok (.if_icmp .lt 8, 3) := by decide +kernel
theorem dX9_requirePosition_5 : decode cX9_requirePosition 5 = .ok (.iload_n 0, 1) := by decide +kernel
theorem dX9_requirePosition_6 : decode cX9_requirePosition 6 = .ok (.iconst 5, 1) := by decide +kernel
theorem dX9_requirePosition_7 : decode cX9_requirePosition 7 = .ok (.if_icmp .le 13, 3) := by decide +kernel
theorem dX9_requirePosition_10 : decode cX9_requirePosition 10 = .ok (.new 102, 3) := by decide +kernel
theorem dX9_requirePosition_13 : decode cX9_requirePosition 13 = .ok (.dup, 1) := by decide +kernel
theorem dX9_requirePosition_14 : decode cX9_requirePosition 14 = .ok (.ldc 152, 2) := by decide +kernel
theorem dX9_requirePosition_16 : decode cX9_requirePosition 16 = .ok (.invokespecial 106, 3) := by decide +kernel
theorem dX9_requirePosition_19 : decode cX9_requirePosition 19 = .ok (.athrow, 1) := by decide +kernel
theorem dX9_requirePosition_20 : decode cX9_requirePosition 20 = .ok (.return_, 1) := by decide +kernel
theorem dX9_requireHandleEnd_0 : decode cX9_requireHandleEnd 0 = .ok (.aload_n 0, 1) := by decide +kernel
theorem dX9_requireHandleEnd_1 : decode cX9_requireHandleEnd 1 = .ok (.iload_n 1, 1) := by decide +kernel
theorem dX9_requireHandleEnd_2 : decode cX9_requireHandleEnd 2 = .ok (.invokevirtual 94, 3) := by decide +kernel
theorem dX9_requireHandleEnd_5 : decode cX9_requireHandleEnd 5 = .ok (.aload_n 0, 1) := by decide +kernel
theorem dX9_requireHandleEnd_6 : decode cX9_requireHandleEnd 6 = .ok (.getfield 20, 3) := by decide +kernel
theorem dX9_requireHandleEnd_9 : decode cX9_requireHandleEnd 9 = .ok (.getfield 112, 3) := by decide +kernel
theorem dX9_requireHandleEnd_12 : decode cX9_requireHandleEnd 12 = .ok (.iload_n 1, 1) := by decide +kernel
theorem dX9_requireHandleEnd_13 : decode cX9_requireHandleEnd 13 = .ok (.aaload, 1) := by decide +kernel
theorem dX9_requireHandleEnd_14 : decode cX9_requireHandleEnd 14 = .ok (.invokevirtual 159, 3) := by decide +kernel
theorem dX9_requireHandleEnd_17 : decode cX9_requireHandleEnd 17 = .ok (.istore_n 2, 1) := by decide +kernel
theorem dX9_requireHandleEnd_18 : decode cX9_requireHandleEnd 18 = .ok (.iload_n 2, 1) := by decide +kernel
theorem dX9_requireHandleEnd_19 : decode cX9_requireHandleEnd 19 = .ok (.iconst (-1), 1) := by decide +kernel
theorem dX9_requireHandleEnd_20 : decode cX9_requireHandleEnd 20 = .ok (.if_icmp .ne 14, 3) := by decide +kernel
theorem dX9_requireHandleEnd_23 : decode cX9_requireHandleEnd 23 = .ok (.new 150, 3) := by decide +kernel
theorem dX9_requireHandleEnd_26 : decode cX9_requireHandleEnd 26 = .ok (.dup, 1) := by decide +kernel
theorem dX9_requireHandleEnd_27 : decode cX9_requireHandleEnd 27 = .ok (.ldc_w 383, 3) := by decide +kernel
theorem dX9_requireHandleEnd_30 : decode cX9_requireHandleEnd 30 = .ok (.invokespecial 154, 3) := by decide +kernel
theorem dX9_requireHandleEnd_33 : decode cX9_requireHandleEnd 33 = .ok (.athrow, 1) := by decide +kernel
theorem dX9_requireHandleEnd_34 : decode cX9_requireHandleEnd 34 = .ok (.iload_n 2, 1) := by decide +kernel
theorem dX9_requireHandleEnd_35 : decode cX9_requireHandleEnd 35 = .ok (.ireturn, 1) := by decide +kernel
theorem dX9_requireRelaxed_0 : decode cX9_requireRelaxed 0 = .ok (.aload_n 0, 1) := by decide +kernel
theorem dX9_requireRelaxed_1 : decode cX9_requireRelaxed 1 = .ok (.iload_n 1, 1) := by decide +kernel
theorem dX9_requireRelaxed_2 : decode cX9_requireRelaxed 2 = .ok (.invokevirtual 94, 3) := by decide +kernel
theorem dX9_requireRelaxed_5 : decode cX9_requireRelaxed 5 = .ok (.aload_n 0, 1) := by decide +kernel
theorem dX9_requireRelaxed_6 : decode cX9_requireRelaxed 6 = .ok (.getfield 25, 3) := by decide +kernel
theorem dX9_requireRelaxed_9 : decode cX9_requireRelaxed 9 = .ok (.aload_n 0, 1) := by decide +kernel
theorem dX9_requireRelaxed_10 : decode cX9_requireRelaxed 10 = .ok (.getfield 20, 3) := by decide +kernel
theorem dX9_requireRelaxed_13 : decode cX9_requireRelaxed 13 = .ok (.getfield 112, 3) := by decide +kernel
theorem dX9_requireRelaxed_16 : decode cX9_requireRelaxed 16 = .ok (.iload_n 1, 1) := by decide +kernel
theorem dX9_requireRelaxed_17 : decode cX9_requireRelaxed 17 = .ok (.aaload, 1) := by decide +kernel
theorem dX9_requireRelaxed_18 : decode cX9_requireRelaxed 18 = .ok (.invokevirtual 385, 3) := by decide +kernel
theorem dX9_requireRelaxed_21 : decode cX9_requireRelaxed 21 = .ok (.aload_n 0, 1) := by decide +kernel
theorem dX9_requireRelaxed_22 : decode cX9_requireRelaxed 22 = .ok (.invokevirtual 388, 3) := by decide +kernel
theorem dX9_requireRelaxed_25 : decode cX9_requireRelaxed 25 = .ok (.return_, 1) := by decide +kernel
theorem dX9_requireRelaxedQuotient_0 : decode cX9_requireRelaxedQuotient 0 = .ok (.aload_n 0, 1) := by decide +kernel
theorem dX9_requireRelaxedQuotient_1 : decode cX9_requireRelaxedQuotient 1 = .ok (.iload_n 1, 1) := by decide +kernel
theorem dX9_requireRelaxedQuotient_2 : decode cX9_requireRelaxedQuotient 2 = .ok (.invokevirtual 94, 3) := by decide +kernel
theorem dX9_requireRelaxedQuotient_5 : decode cX9_requireRelaxedQuotient 5 = .ok (.aload_n 0, 1) := by decide +kernel
theorem dX9_requireRelaxedQuotient_6 : decode cX9_requireRelaxedQuotient 6 = .ok (.iload_n 2, 1) := by decide +kernel
theorem dX9_requireRelaxedQuotient_7 : decode cX9_requireRelaxedQuotient 7 = .ok (.invokevirtual 94, 3) := by decide +kernel
theorem dX9_requireRelaxedQuotient_10 : decode cX9_requireRelaxedQuotient 10 = .ok (.aload_n 0, 1) := by decide +kernel
theorem dX9_requireRelaxedQuotient_11 : decode cX9_requireRelaxedQuotient 11 = .ok (.getfield 25, 3) := by decide +kernel
theorem dX9_requireRelaxedQuotient_14 : decode cX9_requireRelaxedQuotient 14 = .ok (.aload_n 0, 1) := by decide +kernel
theorem dX9_requireRelaxedQuotient_15 : decode cX9_requireRelaxedQuotient 15 = .ok (.getfield 20, 3) := by decide +kernel
theorem dX9_requireRelaxedQuotient_18 : decode cX9_requireRelaxedQuotient 18 = .ok (.getfield 112, 3) := by decide +kernel
theorem dX9_requireRelaxedQuotient_21 : decode cX9_requireRelaxedQuotient 21 = .ok (.iload_n 1, 1) := by decide +kernel
theorem dX9_requireRelaxedQuotient_22 : decode cX9_requireRelaxedQuotient 22 = .ok (.aaload, 1) := by decide +kernel
theorem dX9_requireRelaxedQuotient_23 : decode cX9_requireRelaxedQuotient 23 = .ok (.aload_n 0, 1) := by decide +kernel
theorem dX9_requireRelaxedQuotient_24 : decode cX9_requireRelaxedQuotient 24 = .ok (.getfield 20, 3) := by decide +kernel
theorem dX9_requireRelaxedQuotient_27 : decode cX9_requireRelaxedQuotient 27 = .ok (.getfield 112, 3) := by decide +kernel
theorem dX9_requireRelaxedQuotient_30 : decode cX9_requireRelaxedQuotient 30 = .ok (.iload_n 2, 1) := by decide +kernel
theorem dX9_requireRelaxedQuotient_31 : decode cX9_requireRelaxedQuotient 31 = .ok (.aaload, 1) := by decide +kernel
theorem dX9_requireRelaxedQuotient_32 : decode cX9_requireRelaxedQuotient 32 = .ok (.invokevirtual 391, 3) := by decide +kernel
theorem dX9_requireRelaxedQuotient_35 : decode cX9_requireRelaxedQuotient 35 = .ok (.aload_n 0, 1) := by decide +kernel
theorem dX9_requireRelaxedQuotient_36 : decode cX9_requireRelaxedQuotient 36 = .ok (.invokevirtual 388, 3) := by decide +kernel
theorem dX9_requireRelaxedQuotient_39 : decode cX9_requireRelaxedQuotient 39 = .ok (.return_, 1) := by decide +kernel
theorem dX9_requireSuccess_0 : decode cX9_requireSuccess 0 = .ok (.aload_n 0, 1) := by decide +kernel
theorem dX9_requireSuccess_1 : decode cX9_requireSuccess 1 = .ok (.getfield 25, 3) := by decide +kernel
theorem dX9_requireSuccess_4 : decode cX9_requireSuccess 4 = .ok (.getfield 395, 3) := by decide +kernel
theorem dX9_requireSuccess_7 : decode cX9_requireSuccess 7 = .ok (.ifCond .eq 14, 3) := by decide +kernel
theorem dX9_requireSuccess_10 : decode cX9_requireSuccess 10 = .ok (.new 287, 3) := by decide +kernel
theorem dX9_requireSuccess_13 : decode cX9_requireSuccess 13 = .ok (.dup, 1) := by decide +kernel
theorem dX9_requireSuccess_14 : decode cX9_requireSuccess 14 = .ok (.ldc_w 398, 3) := by decide +kernel
theorem dX9_requireSuccess_17 : decode cX9_requireSuccess 17 = .ok (.invokespecial 291, 3) := by decide +kernel
theorem dX9_requireSuccess_20 : decode cX9_requireSuccess 20 = .ok (.athrow, 1) := by decide +kernel
theorem dX9_requireSuccess_21 : decode cX9_requireSuccess 21 = .ok (.return_, 1) := by decide +kernel
theorem dX9_requireDenial_0 : decode cX9_requireDenial 0 = .ok (.aload_n 0, 1) := by decide +kernel
theorem dX9_requireDenial_1 : decode cX9_requireDenial 1 = .ok (.getfield 71, 3) := by decide +kernel
theorem dX9_requireDenial_4 : decode cX9_requireDenial 4 = .ok (.ifCond .ne 14, 3) := by decide +kernel
theorem dX9_requireDenial_7 : decode cX9_requireDenial 7 = .ok (.new 150, 3) := by decide +kernel
theorem dX9_requireDenial_10 : decode cX9_requireDenial 10 = .ok (.dup, 1) := by decide +kernel
theorem dX9_requireDenial_11 : decode cX9_requireDenial 11 = .ok (.ldc_w 400, 3) := by decide +kernel
theorem dX9_requireDenial_14 : decode cX9_requireDenial 14 = .ok (.invokespecial 154, 3) := by decide +kernel
theorem dX9_requireDenial_17 : decode cX9_requireDenial 17 = .ok (.athrow, 1) := by decide +kernel
theorem dX9_requireDenial_18 : decode cX9_requireDenial 18 = .ok (.return_, 1) := by decide +kernel
theorem dX9_admit_0 : decode cX9_admit 0 = .ok (.aload_n 0, 1) := by decide +kernel
theorem dX9_admit_1 : decode cX9_admit 1 = .ok (.getfield 12, 3) := by decide +kernel
theorem dX9_admit_4 : decode cX9_admit 4 = .ok (.aload_n 1, 1) := by decide +kernel
theorem dX9_admit_5 : decode cX9_admit 5 = .ok (.iload_n 2, 1) := by decide +kernel
theorem dX9_admit_6 : decode cX9_admit 6 = .ok (.invokevirtual 320, 3) := by decide +kernel
theorem dX9_admit_9 : decode cX9_admit 9 = .ok (.istore_n 3, 1) := by decide +kernel
theorem dX9_admit_10 : decode cX9_admit 10 = .ok (.iload_n 3, 1) := by decide +kernel
theorem dX9_admit_11 : decode cX9_admit 11 = .ok (.ifCond .eq 30, 3) := by decide +kernel
theorem dX9_admit_14 : decode cX9_admit 14 = .ok (.aload_n 0, 1) := by decide +kernel
theorem dX9_admit_15 : decode cX9_admit 15 = .ok (.iload_n 3, 1) := by decide +kernel
theorem dX9_admit_16 : decode cX9_admit 16 = .ok (.aload_n 0, 1) := by decide +kernel
theorem dX9_admit_17 : decode cX9_admit 17 = .ok (.getfield 12, 3) := by decide +kernel
theorem dX9_admit_20 : decode cX9_admit 20 = .ok (.iload_n 3, 1) := by decide +kernel
theorem dX9_admit_21 : decode cX9_admit 21 = .ok (.aload_n 1, 1) := by decide +kernel
theorem dX9_admit_22 : decode cX9_admit 22 = .ok (.iload_n 2, 1) := by decide +kernel
theorem dX9_admit_23 : decode cX9_admit 23 = .ok (.invokevirtual 402, 3) := by decide +kernel
theorem dX9_admit_26 : decode cX9_admit 26 = .ok (.iconst 0, 1) := by decide +kernel
theorem dX9_admit_27 : decode cX9_admit 27 = .ok (.invokevirtual 324, 3) := by decide +kernel
theorem dX9_admit_30 : decode cX9_admit 30 = .ok (.new 328, 3) := by decide +kernel
theorem dX9_admit_33 : decode cX9_admit 33 = .ok (.dup, 1) := by decide +kernel
theorem dX9_admit_34 : decode cX9_admit 34 = .ok (.ldc_w 406, 3) := by decide +kernel
theorem dX9_admit_37 : decode cX9_admit 37 = .ok (.invokespecial 332, 3) := by decide +kernel
theorem dX9_admit_40 : decode cX9_admit 40 = .ok (.athrow, 1) := by decide +kernel
theorem dX9_admit_41 : decode cX9_admit 41 = .ok (.aload_n 0, 1) := by decide +kernel
theorem dX9_admit_42 : decode cX9_admit 42 = .ok (.getfield 38, 3) := by decide +kernel
theorem dX9_admit_45 : decode cX9_admit 45 = .ok (.aload_n 0, 1) := by decide +kernel
theorem dX9_admit_46 : decode cX9_admit 46 = .ok (.getfield 20, 3) := by decide +kernel
theorem dX9_admit_49 : decode cX9_admit 49 = .ok (.invokevirtual 338, 3) := by decide +kernel
theorem dX9_admit_52 : decode cX9_admit 52 = .ok (.return_, 1) := by decide +kernel
theorem dX9_keepDenial_0 : decode cX9_keepDenial 0 = .ok (.aload_n 0, 1) := by decide +kernel
theorem dX9_keepDenial_1 : decode cX9_keepDenial 1 = .ok (.iload_n 1, 1) := by decide +kernel
theorem dX9_keepDenial_2 : decode cX9_keepDenial 2 = .ok (.putfield 71, 3) := by decide +kernel
theorem dX9_keepDenial_5 : decode cX9_keepDenial 5 = .ok (.aload_n 0, 1) := by decide +kernel
theorem dX9_keepDenial_6 : decode cX9_keepDenial 6 = .ok (.iload_n 2, 1) := by decide +kernel
theorem dX9_keepDenial_7 : decode cX9_keepDenial 7 = .ok (.putfield 74, 3) := by decide +kernel
theorem dX9_keepDenial_10 : decode cX9_keepDenial 10 = .ok (.aload_n 0, 1) := by decide +kernel
theorem dX9_keepDenial_11 : decode cX9_keepDenial 11 = .ok (.iload_n 3, 1) := by decide +kernel
theorem dX9_keepDenial_12 : decode cX9_keepDenial 12 = .ok (.putfield 77, 3) := by decide +kernel
theorem dX9_keepDenial_15 : decode cX9_keepDenial 15 = .ok (.return_, 1) := by decide +kernel
theorem dX9_markOf_0 : decode cX9_markOf 0 = .ok (.aload_n 0, 1) := by decide +kernel
theorem dX9_markOf_1 : decode cX9_markOf 1 = .ok (.getfield 20, 3) := by decide +kernel
theorem dX9_markOf_4 : decode cX9_markOf 4 = .ok (.iload_n 1, 1) := by decide +kernel
theorem dX9_markOf_5 : decode cX9_markOf 5 = .ok (.invokevirtual 241, 3) := by decide +kernel
theorem dX9_markOf_8 : decode cX9_markOf 8 = .ok (.ifCond .ne 6, 3) := by decide +kernel
theorem dX9_markOf_11 : decode cX9_markOf 11 = .ok (.bipush 63, 2) := by decide +kernel
theorem dX9_markOf_13 : decode cX9_markOf 13 = .ok (.ireturn, 1) := by decide +kernel
theorem dX9_markOf_14 : decode cX9_markOf 14 = .ok (.aload_n 0, 1) := by decide +kernel
theorem dX9_markOf_15 : decode cX9_markOf 15 = .ok (.getfield 20, 3) := by decide +kernel
theorem dX9_markOf_18 : decode cX9_markOf 18 = .ok (.iload_n 1, 1) := by decide +kernel
theorem dX9_markOf_19 : decode cX9_markOf 19 = .ok (.invokevirtual 228, 3) := by decide +kernel
theorem dX9_markOf_22 : decode cX9_markOf 22 = .ok (.ifCond .eq 8, 3) := by decide +kernel
theorem dX9_markOf_25 : decode cX9_markOf 25 = .ok (.bipush 116, 2) := by decide +kernel
theorem dX9_markOf_27 : decode cX9_markOf 27 = .ok (.goto 5, 3) := by decide +kernel
theorem dX9_markOf_30 : decode cX9_markOf 30 = .ok (.bipush 102, 2) := by decide +kernel
theorem dX9_markOf_32 : decode cX9_markOf 32 = .ok (.ireturn, 1) := by decide +kernel
theorem dX9_writeLetters_0 : decode cX9_writeLetters 0 = .ok (.aload_n 0, 1) := by decide +kernel
theorem dX9_writeLetters_1 : decode cX9_writeLetters 1 = .ok (.iconst 0, 1) := by decide +kernel
theorem dX9_writeLetters_2 : decode cX9_writeLetters 2 = .ok (.putfield 60, 3) := by decide +kernel
theorem dX9_writeLetters_5 : decode cX9_writeLetters 5 = .ok (.iconst 0, 1) := by decide +kernel
theorem dX9_writeLetters_6 : decode cX9_writeLetters 6 = .ok (.istore_n 3, 1) := by decide +kernel
theorem dX9_writeLetters_7 : decode cX9_writeLetters 7 = .ok (.iload_n 3, 1) := by decide +kernel
theorem dX9_writeLetters_8 : decode cX9_writeLetters 8 = .ok (.iload_n 2, 1) := by decide +kernel
theorem dX9_writeLetters_9 : decode cX9_writeLetters 9 = .ok (.if_icmp .ge 19, 3) := by decide +kernel
theorem dX9_writeLetters_12 : decode cX9_writeLetters 12 = .ok (.aload_n 0, 1) := by decide +kernel
theorem dX9_writeLetters_13 : decode cX9_writeLetters 13 = .ok (.aload_n 1, 1) := by decide +kernel
theorem dX9_writeLetters_14 : decode cX9_writeLetters 14 = .ok (.iload_n 3, 1) := by decide +kernel
theorem dX9_writeLetters_15 : decode cX9_writeLetters 15 = .ok (.iaload, 1) := by decide +kernel
theorem dX9_writeLetters_16 : decode cX9_writeLetters 16 = .ok (.invokestatic 130, 3) := by decide +kernel
theorem dX9_writeLetters_19 : decode cX9_writeLetters 19 = .ok (.invokevirtual 347, 3) := by decide +kernel
theorem dX9_writeLetters_22 : decode cX9_writeLetters 22 = .ok (.iinc 3 1, 3) := by decide +kernel
theorem dX9_writeLetters_25 : decode cX9_writeLetters 25 = .ok (.goto (-18), 3) := by decide +kernel
theorem dX9_writeLetters_28 : decode cX9_writeLetters 28 = .ok (.return_, 1) := by decide +kernel
theorem dX9_writeCharacter_0 : decode cX9_writeCharacter 0 = .ok (.aload_n 0, 1) := by decide +kernel
theorem dX9_writeCharacter_1 : decode cX9_writeCharacter 1 = .ok (.getfield 60, 3) := by decide +kernel
theorem dX9_writeCharacter_4 : decode cX9_writeCharacter 4 = .ok (.sipush 400, 3) := by decide +kernel
theorem dX9_writeCharacter_7 : decode cX9_writeCharacter 7 = .ok (.if_icmp .ge 23, 3) := by decide +kernel
theorem dX9_writeCharacter_10 : decode cX9_writeCharacter 10 = .ok (.aload_n 0, 1) := by decide +kernel
theorem dX9_writeCharacter_11 : decode cX9_writeCharacter 11 = .ok (.getfield 56, 3) := by decide +kernel
theorem dX9_writeCharacter_14 : decode cX9_writeCharacter 14 = .ok (.aload_n 0, 1) := by decide +kernel
theorem dX9_writeCharacter_15 : decode cX9_writeCharacter 15 = .ok (.getfield 60, 3) := by decide +kernel
theorem dX9_writeCharacter_18 : decode cX9_writeCharacter 18 = .ok (.iload_n 1, 1) := by decide +kernel
theorem dX9_writeCharacter_19 : decode cX9_writeCharacter 19 = .ok (.castore, 1) := by decide +kernel
theorem dX9_writeCharacter_20 : decode cX9_writeCharacter 20 = .ok (.aload_n 0, 1) := by decide +kernel
theorem dX9_writeCharacter_21 : decode cX9_writeCharacter 21 = .ok (.dup, 1) := by decide +kernel
theorem dX9_writeCharacter_22 : decode cX9_writeCharacter 22 = .ok (.getfield 60, 3) := by decide +kernel
theorem dX9_writeCharacter_25 : decode cX9_writeCharacter 25 = .ok (.iconst 1, 1) := by decide +kernel
theorem dX9_writeCharacter_26 : decode cX9_writeCharacter 26 = .ok (.iadd, 1) := by decide +kernel
theorem dX9_writeCharacter_27 : decode cX9_writeCharacter 27 = .ok (.putfield 60, 3) := by decide +kernel
theorem dX9_writeCharacter_30 : decode cX9_writeCharacter 30 = .ok (.return_, 1) := by decide +kernel
theorem dX9_letterOf_0 : decode cX9_letterOf 0 = .ok (.iload_n 0, 1) := by decide +kernel
theorem dX9_letterOf_1 : decode cX9_letterOf 1 = .ok (.bipush 97, 2) := by decide +kernel
theorem dX9_letterOf_3 : decode cX9_letterOf 3 = .ok (.if_icmp .lt 16, 3) := by decide +kernel
theorem dX9_letterOf_6 : decode cX9_letterOf 6 = .ok (.iload_n 0, 1) := by decide +kernel
theorem dX9_letterOf_7 : decode cX9_letterOf 7 = .ok (.bipush 100, 2) := by decide +kernel
theorem dX9_letterOf_9 : decode cX9_letterOf 9 = .ok (.if_icmp .gt 10, 3) := by decide +kernel
theorem dX9_letterOf_12 : decode cX9_letterOf 12 = .ok (.iload_n 0, 1) := by decide +kernel
theorem dX9_letterOf_13 : decode cX9_letterOf 13 = .ok (.bipush 97, 2) := by decide +kernel
theorem dX9_letterOf_15 : decode cX9_letterOf 15 = .ok (.isub, 1) := by decide +kernel
theorem dX9_letterOf_16 : decode cX9_letterOf 16 = .ok (.iconst 1, 1) := by decide +kernel
theorem dX9_letterOf_17 : decode cX9_letterOf 17 = .ok (.iadd, 1) := by decide +kernel
theorem dX9_letterOf_18 : decode cX9_letterOf 18 = .ok (.ireturn, 1) := by decide +kernel
theorem dX9_letterOf_19 : decode cX9_letterOf 19 = .ok (.iload_n 0, 1) := by decide +kernel
theorem dX9_letterOf_20 : decode cX9_letterOf 20 = .ok (.bipush 65, 2) := by decide +kernel
theorem dX9_letterOf_22 : decode cX9_letterOf 22 = .ok (.if_icmp .lt 16, 3) := by decide +kernel
theorem dX9_letterOf_25 : decode cX9_letterOf 25 = .ok (.iload_n 0, 1) := by decide +kernel
theorem dX9_letterOf_26 : decode cX9_letterOf 26 = .ok (.bipush 68, 2) := by decide +kernel
theorem dX9_letterOf_28 : decode cX9_letterOf 28 = .ok (.if_icmp .gt 10, 3) := by decide +kernel
theorem dX9_letterOf_31 : decode cX9_letterOf 31 = .ok (.bipush 65, 2) := by decide +kernel
theorem dX9_letterOf_33 : decode cX9_letterOf 33 = .ok (.iload_n 0, 1) := by decide +kernel
theorem dX9_letterOf_34 : decode cX9_letterOf 34 = .ok (.isub, 1) := by decide +kernel
theorem dX9_letterOf_35 : decode cX9_letterOf 35 = .ok (.iconst 1, 1) := by decide +kernel
theorem dX9_letterOf_36 : decode cX9_letterOf 36 = .ok (.isub, 1) := by decide +kernel
theorem dX9_letterOf_37 : decode cX9_letterOf 37 = .ok (.ireturn, 1) := by decide +kernel
theorem dX9_letterOf_38 : decode cX9_letterOf 38 = .ok (.iconst 0, 1) := by decide +kernel
theorem dX9_letterOf_39 : decode cX9_letterOf 39 = .ok (.ireturn, 1) := by decide +kernel
theorem dX9_characterOf_0 : decode cX9_characterOf 0 = .ok (.iload_n 0, 1) := by decide +kernel
theorem dX9_characterOf_1 : decode cX9_characterOf 1 = .ok (.ifCond .le 13, 3) := by decide +kernel
theorem dX9_characterOf_4 : decode cX9_characterOf 4 = .ok (.bipush 97, 2) := by decide +kernel
theorem dX9_characterOf_6 : decode cX9_characterOf 6 = .ok (.iload_n 0, 1) := by decide +kernel
theorem dX9_characterOf_7 : decode cX9_characterOf 7 = .ok (.iadd, 1) := by decide +kernel
theorem dX9_characterOf_8 : decode cX9_characterOf 8 = .ok (.iconst 1, 1) := by decide +kernel
theorem dX9_characterOf_9 : decode cX9_characterOf 9 = .ok (.isub, 1) := by decide +kernel
theorem dX9_characterOf_10 : decode cX9_characterOf 10 = .ok (.i2c, 1) := by decide +kernel
theorem dX9_characterOf_11 : decode cX9_characterOf 11 = .ok (.goto 10, 3) := by decide +kernel
theorem dX9_characterOf_14 : decode cX9_characterOf 14 = .ok (.bipush 65, 2) := by decide +kernel
theorem dX9_characterOf_16 : decode cX9_characterOf 16 = .ok (.iload_n 0, 1) := by decide +kernel
theorem dX9_characterOf_17 : decode cX9_characterOf 17 = .ok (.isub, 1) := by decide +kernel
theorem dX9_characterOf_18 : decode cX9_characterOf 18 = .ok (.iconst 1, 1) := by decide +kernel
theorem dX9_characterOf_19 : decode cX9_characterOf 19 = .ok (.isub, 1) := by decide +kernel
theorem dX9_characterOf_20 : decode cX9_characterOf 20 = .ok (.i2c, 1) := by decide +kernel
theorem dX9_characterOf_21 : decode cX9_characterOf 21 = .ok (.ireturn, 1) := by decide +kernel
theorem dX9_indexOf_0 : decode cX9_indexOf 0 = .ok (.iload_n 0, 1) := by decide +kernel
theorem dX9_indexOf_1 : decode cX9_indexOf 1 = .ok (.ifCond .ge 8, 3) := by decide +kernel
theorem dX9_indexOf_4 : decode cX9_indexOf 4 = .ok (.iload_n 0, 1) := by decide +kernel
theorem dX9_indexOf_5 : decode cX9_indexOf 5 = .ok (.ineg, 1) := by decide +kernel
theorem dX9_indexOf_6 : decode cX9_indexOf 6 = .ok (.goto 4, 3) := by decide +kernel
theorem dX9_indexOf_9 : decode cX9_indexOf 9 = .ok (.iload_n 0, 1) := by decide +kernel
theorem dX9_indexOf_10 : decode cX9_indexOf 10 = .ok (.ireturn, 1) := by decide +kernel
theorem dX9_signOf_0 : decode cX9_signOf 0 = .ok (.lload_n 0, 1) := by decide +kernel
theorem dX9_signOf_1 : decode cX9_signOf 1 = .ok (.lconst 0, 1) := by decide +kernel
theorem dX9_signOf_2 : decode cX9_signOf 2 = .ok (.lcmp, 1) := by decide +kernel
theorem dX9_signOf_3 : decode cX9_signOf 3 = .ok (.ifCond .ne 5, 3) := by decide +kernel
theorem dX9_signOf_6 : decode cX9_signOf 6 = .ok (.iconst 0, 1) := by decide +kernel
theorem dX9_signOf_7 : decode cX9_signOf 7 = .ok (.ireturn, 1) := by decide +kernel
theorem dX9_signOf_8 : decode cX9_signOf 8 = .ok (.lload_n 0, 1) := by decide +kernel
theorem dX9_signOf_9 : decode cX9_signOf 9 = .ok (.lconst 0, 1) := by decide +kernel
theorem dX9_signOf_10 : decode cX9_signOf 10 = .ok (.lcmp, 1) := by decide +kernel
theorem dX9_signOf_11 : decode cX9_signOf 11 = .ok (.ifCond .le 7, 3) := by decide +kernel
theorem dX9_signOf_14 : decode cX9_signOf 14 = .ok (.iconst 1, 1) := by decide +kernel
theorem dX9_signOf_15 : decode cX9_signOf 15 = .ok (.goto 4, 3) := by decide +kernel
theorem dX9_signOf_18 : decode cX9_signOf 18 = .ok (.iconst (-1), 1) := by decide +kernel
theorem dX9_signOf_19 : decode cX9_signOf 19 = .ok (.ireturn, 1) := by decide +kernel
theorem dX9_positionAfter_0 : decode cX9_positionAfter 0 = .ok (.iload_n 1, 1) := by decide +kernel
theorem dX9_positionAfter_1 : decode cX9_positionAfter 1 = .ok (.iload_n 0, 1) := by decide +kernel
theorem dX9_positionAfter_2 : decode cX9_positionAfter 2 = .ok (.if_icmp .ne 7, 3) := by decide +kernel
theorem dX9_positionAfter_5 : decode cX9_positionAfter 5 = .ok (.iload_n 0, 1) := by decide +kernel
theorem dX9_positionAfter_6 : decode cX9_positionAfter 6 = .ok (.iconst 1, 1) := by decide +kernel
theorem dX9_positionAfter_7 : decode cX9_positionAfter 7 = .ok (.iadd, 1) := by decide +kernel
theorem dX9_positionAfter_8 : decode cX9_positionAfter 8 = .ok (.ireturn, 1) := by decide +kernel
theorem dX9_positionAfter_9 : decode cX9_positionAfter 9 = .ok (.iload_n 1, 1) := by decide +kernel
theorem dX9_positionAfter_10 : decode cX9_positionAfter 10 = .ok (.iload_n 0, 1) := by decide +kernel
theorem dX9_positionAfter_11 : decode cX9_positionAfter 11 = .ok (.iconst 1, 1) := by decide +kernel
theorem dX9_positionAfter_12 : decode cX9_positionAfter 12 = .ok (.iadd, 1) := by decide +kernel
theorem dX9_positionAfter_13 : decode cX9_positionAfter 13 = .ok (.if_icmp .ne 7, 3) := by decide +kernel
theorem dX9_positionAfter_16 : decode cX9_positionAfter 16 = .ok (.iload_n 0, 1) := by decide +kernel
theorem dX9_positionAfter_17 : decode cX9_positionAfter 17 = .ok (.goto 4, 3) := by decide +kernel
theorem dX9_positionAfter_20 : decode cX9_positionAfter 20 = .ok (.iload_n 1, 1) := by decide +kernel
theorem dX9_positionAfter_21 : decode cX9_positionAfter 21 = .ok (.ireturn, 1) := by decide +kernel
theorem dX9_beginOfHandle_0 : decode cX9_beginOfHandle 0 = .ok (.iload_n 1, 1) := by decide +kernel
theorem dX9_beginOfHandle_1 : decode cX9_beginOfHandle 1 = .ok (.ifCond .lt 9, 3) := by decide +kernel
theorem dX9_beginOfHandle_4 : decode cX9_beginOfHandle 4 = .ok (.iload_n 1, 1) := by decide +kernel
theorem dX9_beginOfHandle_5 : decode cX9_beginOfHandle 5 = .ok (.aload_n 0, 1) := by decide +kernel
theorem dX9_beginOfHandle_6 : decode cX9_beginOfHandle 6 = .ok (.arraylength, 1) := by decide +kernel
theorem dX9_beginOfHandle_7 : decode cX9_beginOfHandle 7 = .ok (.if_icmp .lt 5, 3) := by decide +kernel
theorem dX9_beginOfHandle_10 : decode cX9_beginOfHandle 10 = .ok (.iconst (-1), 1) := by decide +kernel
theorem dX9_beginOfHandle_11 : decode cX9_beginOfHandle 11 = .ok (.ireturn, 1) := by decide +kernel
theorem dX9_beginOfHandle_12 : decode cX9_beginOfHandle 12 = .ok (.aload_n 0, 1) := by decide +kernel
theorem dX9_beginOfHandle_13 : decode cX9_beginOfHandle 13 = .ok (.iload_n 1, 1) := by decide +kernel
theorem dX9_beginOfHandle_14 : decode cX9_beginOfHandle 14 = .ok (.iaload, 1) := by decide +kernel
theorem dX9_beginOfHandle_15 : decode cX9_beginOfHandle 15 = .ok (.invokestatic 408, 3) := by decide +kernel
theorem dX9_beginOfHandle_18 : decode cX9_beginOfHandle 18 = .ok (.istore_n 2, 1) := by decide +kernel
theorem dX9_beginOfHandle_19 : decode cX9_beginOfHandle 19 = .ok (.iload_n 1, 1) := by decide +kernel
theorem dX9_beginOfHandle_20 : decode cX9_beginOfHandle 20 = .ok (.iconst 1, 1) := by decide +kernel
theorem dX9_beginOfHandle_21 : decode cX9_beginOfHandle 21 = .ok (.isub, 1) := by decide +kernel
theorem dX9_beginOfHandle_22 : decode cX9_beginOfHandle 22 = .ok (.istore_n 3, 1) := by decide +kernel
theorem dX9_beginOfHandle_23 : decode cX9_beginOfHandle 23 = .ok (.iload_n 3, 1) := by decide +kernel
theorem dX9_beginOfHandle_24 : decode cX9_beginOfHandle 24 = .ok (.ifCond .lt 49, 3) := by decide +kernel
theorem dX9_beginOfHandle_27 : decode cX9_beginOfHandle 27 = .ok (.aload_n 0, 1) := by decide +kernel
theorem dX9_beginOfHandle_28 : decode cX9_beginOfHandle 28 = .ok (.iload_n 3, 1) := by decide +kernel
theorem dX9_beginOfHandle_29 : decode cX9_beginOfHandle 29 = .ok (.iaload, 1) := by decide +kernel
theorem dX9_beginOfHandle_30 : decode cX9_beginOfHandle 30 = .ok (.invokestatic 408, 3) := by decide +kernel
theorem dX9_beginOfHandle_33 : decode cX9_beginOfHandle 33 = .ok (.istore 4, 2) := by decide +kernel
theorem dX9_beginOfHandle_35 : decode cX9_beginOfHandle 35 = .ok (.iload 4, 2) := by decide +kernel
theorem dX9_beginOfHandle_37 : decode cX9_beginOfHandle 37 = .ok (.iload_n 2, 1) := by decide +kernel
theorem dX9_beginOfHandle_38 : decode cX9_beginOfHandle 38 = .ok (.if_icmp .ne 19, 3) := by decide +kernel
theorem dX9_beginOfHandle_41 : decode cX9_beginOfHandle 41 = .ok (.aload_n 0, 1) := by decide +kernel
theorem dX9_beginOfHandle_42 : decode cX9_beginOfHandle 42 = .ok (.iload_n 3, 1) := by decide +kernel
theorem dX9_beginOfHandle_43 : decode cX9_beginOfHandle 43 = .ok (.iaload, 1) := by decide +kernel
theorem dX9_beginOfHandle_44 : decode cX9_beginOfHandle 44 = .ok (.aload_n 0, 1) := by decide +kernel
theorem dX9_beginOfHandle_45 : decode cX9_beginOfHandle 45 = .ok (.iload_n 1, 1) := by decide +kernel
theorem dX9_beginOfHandle_46 : decode cX9_beginOfHandle 46 = .ok (.iaload, 1) := by decide +kernel
theorem dX9_beginOfHandle_47 : decode cX9_beginOfHandle 47 = .ok (.ineg, 1) := by decide +kernel
theorem dX9_beginOfHandle_48 : decode cX9_beginOfHandle 48 = .ok (.if_icmp .ne 7, 3) := by decide +kernel
theorem dX9_beginOfHandle_51 : decode cX9_beginOfHandle 51 = .ok (.iload_n 3, 1) := by decide +kernel
theorem dX9_beginOfHandle_52 : decode cX9_beginOfHandle 52 = .ok (.goto 4, 3) := by decide +kernel
theorem dX9_beginOfHandle_55 : decode cX9_beginOfHandle 55 = .ok (.iconst (-1), 1) := by decide +kernel
theorem dX9_beginOfHandle_56 : decode cX9_beginOfHandle 56 = .ok (.ireturn, 1) := by decide +kernel
theorem dX9_beginOfHandle_57 : decode cX9_beginOfHandle 57 = .ok (.iload 4, 2) := by decide +kernel
theorem dX9_beginOfHandle_59 : decode cX9_beginOfHandle 59 = .ok (.iload_n 2, 1) := by decide +kernel
theorem dX9_beginOfHandle_60 : decode cX9_beginOfHandle 60 = .ok (.iconst 1, 1) := by decide +kernel
theorem dX9_beginOfHandle_61 : decode cX9_beginOfHandle 61 = .ok (.isub, 1) := by decide +kernel
theorem dX9_beginOfHandle_62 : decode cX9_beginOfHandle 62 = .ok (.if_icmp .ne 5, 3) := by decide +kernel
theorem dX9_beginOfHandle_65 : decode cX9_beginOfHandle 65 = .ok (.iconst (-1), 1) := by decide +kernel
theorem dX9_beginOfHandle_66 : decode cX9_beginOfHandle 66 = .ok (.ireturn, 1) := by decide +kernel
theorem dX9_beginOfHandle_67 : decode cX9_beginOfHandle 67 = .ok (.iinc 3 (-1), 3) := by decide +kernel
theorem dX9_beginOfHandle_70 : decode cX9_beginOfHandle 70 = .ok (.goto (-47), 3) := by decide +kernel
theorem dX9_beginOfHandle_73 : decode cX9_beginOfHandle 73 = .ok (.iconst (-1), 1) := by decide +kernel
theorem dX9_beginOfHandle_74 : decode cX9_beginOfHandle 74 = .ok (.ireturn, 1) := by decide +kernel
