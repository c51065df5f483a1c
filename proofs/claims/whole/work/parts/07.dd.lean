theorem dX10_init_0 : decode cX10_init 0 = .ok (.aload_n 0, 1) := by decide +kernel
theorem dX10_init_1 : decode cX10_init 1 = .ok (.invokespecial 1, 3) := by decide +kernel
theorem dX10_init_4 : decode cX10_init 4 = .ok (.aload_n 0, 1) := by decide +kernel
theorem dX10_init_5 : decode cX10_init 5 = .ok (.bipush 82, 2) := by decide +kernel
theorem dX10_init_7 : decode cX10_init 7 = .ok (.newarray .int, 2) := by decide +kernel
theorem dX10_init_9 : decode cX10_init 9 = .ok (.putfield 7, 3) := by decide +kernel
theorem dX10_init_12 : decode cX10_init 12 = .ok (.aload_n 0, 1) := by decide +kernel
theorem dX10_init_13 : decode cX10_init 13 = .ok (.sipush 656, 3) := by decide +kernel
theorem dX10_init_16 : decode cX10_init 16 = .ok (.newarray .int, 2) := by decide +kernel
theorem dX10_init_18 : decode cX10_init 18 = .ok (.putfield 13, 3) := by decide +kernel
theorem dX10_init_21 : decode cX10_init 21 = .ok (.aload_n 0, 1) := by decide +kernel
theorem dX10_init_22 : decode cX10_init 22 = .ok (.bipush 82, 2) := by decide +kernel
theorem dX10_init_24 : decode cX10_init 24 = .ok (.newarray .int, 2) := by decide +kernel
theorem dX10_init_26 : decode cX10_init 26 = .ok (.putfield 16, 3) := by decide +kernel
theorem dX10_init_29 : decode cX10_init 29 = .ok (.aload_n 0, 1) := by decide +kernel
theorem dX10_init_30 : decode cX10_init 30 = .ok (.bipush 82, 2) := by decide +kernel
theorem dX10_init_32 : decode cX10_init 32 = .ok (.newarray .int, 2) := by decide +kernel
theorem dX10_init_34 : decode cX10_init 34 = .ok (.putfield 19, 3) := by decide +kernel
theorem dX10_init_37 : decode cX10_init 37 = .ok (.aload_n 0, 1) := by decide +kernel
theorem dX10_init_38 : decode cX10_init 38 = .ok (.bipush 60, 2) := by decide +kernel
theorem dX10_init_40 : decode cX10_init 40 = .ok (.newarray .int, 2) := by decide +kernel
theorem dX10_init_42 : decode cX10_init 42 = .ok (.putfield 22, 3) := by decide +kernel
theorem dX10_init_45 : decode cX10_init 45 = .ok (.aload_n 0, 1) := by decide +kernel
theorem dX10_init_46 : decode cX10_init 46 = .ok (.iconst (-1), 1) := by decide +kernel
theorem dX10_init_47 : decode cX10_init 47 = .ok (.putfield 25, 3) := by decide +kernel
theorem dX10_init_50 : decode cX10_init 50 = .ok (.aload_n 0, 1) := by decide +kernel
theorem dX10_init_51 : decode cX10_init 51 = .ok (.sipush 400, 3) := by decide +kernel
theorem dX10_init_54 : decode cX10_init 54 = .ok (.newarray .char, 2) := by decide +kernel
theorem dX10_init_56 : decode cX10_init 56 = .ok (.putfield 29, 3) := by decide +kernel
theorem dX10_init_59 : decode cX10_init 59 = .ok (.aload_n 0, 1) := by decide +kernel
theorem dX10_init_60 : decode cX10_init 60 = .ok (.sipush 1300, 3) := by decide +kernel
theorem dX10_init_63 : decode cX10_init 63 = .ok (.newarray .int, 2) := by decide +kernel
theorem dX10_init_65 : decode cX10_init 65 = .ok (.putfield 33, 3) := by decide +kernel
theorem dX10_init_68 : decode cX10_init 68 = .ok (.aload_n 0, 1) := by decide +kernel
theorem dX10_init_69 : decode cX10_init 69 = .ok (.sipush 1300, 3) := by decide +kernel
theorem dX10_init_72 : decode cX10_init 72 = .ok (.newarray .int, 2) := by decide +kernel
theorem dX10_init_74 : decode cX10_init 74 = .ok (.putfield 36, 3) := by decide +kernel
theorem dX10_init_77 : decode cX10_init 77 = .ok (.aload_n 0, 1) := by decide +kernel
theorem dX10_init_78 : decode cX10_init 78 = .ok (.bipush 10, 2) := by decide +kernel
theorem dX10_init_80 : decode cX10_init 80 = .ok (.newarray .long, 2) := by decide +kernel
theorem dX10_init_82 : decode cX10_init 82 = .ok (.putfield 39, 3) := by decide +kernel
theorem dX10_init_85 : decode cX10_init 85 = .ok (.aload_n 0, 1) := by decide +kernel
theorem dX10_init_86 : decode cX10_init 86 = .ok (.bipush 10, 2) := by decide +kernel
theorem dX10_init_88 : decode cX10_init 88 = .ok (.newarray .long, 2) := by decide +kernel
theorem dX10_init_90 : decode cX10_init 90 = .ok (.putfield 43, 3) := by decide +kernel
theorem dX10_init_93 : decode cX10_init 93 = .ok (.aload_n 0, 1) := by decide +kernel
theorem dX10_init_94 : decode cX10_init 94 = .ok (.bipush 93, 2) := by decide +kernel
theorem dX10_init_96 : decode cX10_init 96 = .ok (.newarray .int, 2) := by decide +kernel
theorem dX10_init_98 : decode cX10_init 98 = .ok (.putfield 46, 3) := by decide +kernel
theorem dX10_init_101 : decode cX10_init 101 = .ok (.return_, 1) := by decide +kernel
theorem dX10_thrown_0 : decode cX10_thrown 0 = .ok (.aload_n 0, 1) := by decide +kernel
theorem dX10_thrown_1 : decode cX10_thrown 1 = .ok (.getfield 49, 3) := by decide +kernel
theorem dX10_thrown_4 : decode cX10_thrown 4 = .ok (.ireturn, 1) := by decide +kernel
theorem dX10_fails_0 : decode cX10_fails 0 = .ok (.aload_n 0, 1) := by decide +kernel
theorem dX10_fails_1 : decode cX10_fails 1 = .ok (.iload_n 1, 1) := by decide +kernel
theorem dX10_fails_2 : decode cX10_fails 2 = .ok (.putfield 49, 3) := by decide +kernel
theorem dX10_fails_5 : decode cX10_fails 5 = .ok (.aload_n 0, 1) := by decide +kernel
theorem dX10_fails_6 : decode cX10_fails 6 = .ok (.iconst 0, 1) := by decide +kernel
theorem dX10_fails_7 : decode cX10_fails 7 = .ok (.putfield 52, 3) := by decide +kernel
theorem dX10_fails_10 : decode cX10_fails 10 = .ok (.iload_n 1, 1) := by decide +kernel
theorem dX10_fails_11 : decode cX10_fails 11 = .ok (.ifCond .le 7, 3) := by decide +kernel
theorem dX10_fails_14 : decode cX10_fails 14 = .ok (.iconst 1, 1) := by decide +kernel
theorem dX10_fails_15 : decode cX10_fails 15 = .ok (.goto 4, 3) := by decide +kernel
theorem dX10_fails_18 : decode cX10_fails 18 = .ok (.iconst 0, 1) := by decide +kernel
theorem dX10_fails_19 : decode cX10_fails 19 = .ok (.ireturn, 1) := by decide +kernel
theorem dX10_denies_0 : decode cX10_denies 0 = .ok (.aload_n 0, 1) := by decide +kernel
theorem dX10_denies_1 : decode cX10_denies 1 = .ok (.iload_n 1, 1) := by decide +kernel
theorem dX10_denies_2 : decode cX10_denies 2 = .ok (.putfield 49, 3) := by decide +kernel
theorem dX10_denies_5 : decode cX10_denies 5 = .ok (.aload_n 0, 1) := by decide +kernel
theorem dX10_denies_6 : decode cX10_denies 6 = .ok (.iconst 1, 1) := by decide +kernel
theorem dX10_denies_7 : decode cX10_denies 7 = .ok (.putfield 52, 3) := by decide +kernel
theorem dX10_denies_10 : decode cX10_denies 10 = .ok (.aload_n 0, 1) := by decide +kernel
theorem dX10_denies_11 : decode cX10_denies 11 = .ok (.iload_n 2, 1) := by decide +kernel
theorem dX10_denies_12 : decode cX10_denies 12 = .ok (.putfield 56, 3) := by decide +kernel
theorem dX10_denies_15 : decode cX10_denies 15 = .ok (.aload_n 0, 1) := by decide +kernel
theorem dX10_denies_16 : decode cX10_denies 16 = .ok (.iload_n 3, 1) := by decide +kernel
theorem dX10_denies_17 : decode cX10_denies 17 = .ok (.putfield 59, 3) := by decide +kernel
theorem dX10_denies_20 : decode cX10_denies 20 = .ok (.aload_n 0, 1) := by decide +kernel
theorem dX10_denies_21 : decode cX10_denies 21 = .ok (.iconst 0, 1) := by decide +kernel
theorem dX10_denies_22 : decode cX10_denies 22 = .ok (.putfield 62, 3) := by decide +kernel
theorem dX10_denies_25 : decode cX10_denies 25 = .ok (.iconst 0, 1) := by decide +kernel
theorem dX10_denies_26 : decode cX10_denies 26 = .ok (.ireturn, 1) := by decide +kernel
theorem dX10_in_0 : decode cX10_in 0 = .ok (.iload_n 0, 1) := by decide +kernel
theorem dX10_in_1 : decode cX10_in 1 = .ok (.iload_n 1, 1) := by decide +kernel
theorem dX10_in_2 : decode cX10_in 2 = .ok (.if_icmp .lt 12, 3) := by decide +kernel
theorem dX10_in_5 : decode cX10_in 5 = .ok (.iload_n 0, 1) := by decide +kernel
theorem dX10_in_6 : decode cX10_in 6 = .ok (.iload_n 2, 1) := by decide +kernel
theorem dX10_in_7 : decode cX10_in 7 = .ok (.if_icmp .gt 7, 3) := by decide +kernel
theorem dX10_in_10 : decode cX10_in 10 = .ok (.iconst 1, 1) := by decide +kernel
theorem dX10_in_11 : decode cX10_in 11 = .ok (.goto 4, 3) := by decide +kernel
theorem dX10_in_14 : decode cX10_in 14 = .ok (.iconst 0, 1) := by decide +kernel
theorem dX10_in_15 : decode cX10_in 15 = .ok (.ireturn, 1) := by decide +kernel
theorem dX10_size_0 : decode cX10_size 0 = .ok (.iload_n 0, 1) := by decide +kernel
theorem dX10_size_1 : decode cX10_size 1 = .ok (.ifCond .ge 8, 3) := by decide +kernel
theorem dX10_size_4 : decode cX10_size 4 = .ok (.iload_n 0, 1) := by decide +kernel
theorem dX10_size_5 : decode cX10_size 5 = .ok (.ineg, 1) := by decide +kernel
theorem dX10_size_6 : decode cX10_size 6 = .ok (.goto 4, 3) := by decide +kernel
theorem dX10_size_9 : decode cX10_size 9 = .ok (.iload_n 0, 1) := by decide +kernel
theorem dX10_size_10 : decode cX10_size 10 = .ok (.ireturn, 1) := by decide +kernel
theorem dX10_copies_0 : decode cX10_copies 0 = .ok (.iconst 0, 1) := by decide +kernel
theorem dX10_copies_1 : decode cX10_copies 1 = .ok (.istore 4, 2) := by decide +kernel
theorem dX10_copies_3 : decode cX10_copies 3 = .ok (.iload 4, 2) := by decide +kernel
theorem dX10_copies_5 : decode cX10_copies 5 = .ok (.bipush 82, 2) := by decide +kernel
theorem dX10_copies_7 : decode cX10_copies 7 = .ok (.if_icmp .ge 21, 3) := by decide +kernel
theorem dX10_copies_10 : decode cX10_copies 10 = .ok (.aload_n 2, 1) := by decide +kernel
theorem dX10_copies_11 : decode cX10_copies 11 = .ok (.iload_n 3, 1) := by decide +kernel
theorem dX10_copies_12 : decode cX10_copies 12 = .ok (.iload 4, 2) := by decide +kernel
theorem dX10_copies_14 : decode cX10_copies 14 = .ok (.iadd, 1) := by decide +kernel
theorem dX10_copies_15 : decode cX10_copies 15 = .ok (.aload_n 0, 1) := by decide +kernel
theorem dX10_copies_16 : decode cX10_copies 16 = .ok (.iload_n 1, 1) := by decide +kernel
theorem dX10_copies_17 : decode cX10_copies 17 = .ok (.iload 4, 2) := by decide +kernel
theorem dX10_copies_19 : decode cX10_copies 19 = .ok (.iadd, 1) := by decide +kernel
theorem dX10_copies_20 : decode cX10_copies 20 = .ok (.iaload, 1) := by decide +kernel
theorem dX10_copies_21 : decode cX10_copies 21 = .ok (.iastore, 1) := by decide +kernel
theorem dX10_copies_22 : decode cX10_copies 22 = .ok (.iinc 4 1, 3) := by decide +kernel
theorem dX10_copies_25 : decode cX10_copies 25 = .ok (.goto (-22), 3) := by decide +kernel
theorem dX10_copies_28 : decode cX10_copies 28 = .ok (.return_, 1) := by decide +kernel
theorem dX10_keeps_0 : decode cX10_keeps 0 = .ok (.aload_n 0, 1) := by decide +kernel
theorem dX10_keeps_1 : decode cX10_keeps 1 = .ok (.iconst 0, 1) := by decide +kernel
theorem dX10_keeps_2 : decode cX10_keeps 2 = .ok (.putfield 49, 3) := by decide +kernel
theorem dX10_keeps_5 : decode cX10_keeps 5 = .ok (.aload_n 0, 1) := by decide +kernel
theorem dX10_keeps_6 : decode cX10_keeps 6 = .ok (.getfield 65, 3) := by decide +kernel
theorem dX10_keeps_9 : decode cX10_keeps 9 = .ok (.ifCond .eq 4, 3) := by decide +kernel
theorem dX10_keeps_12 : decode cX10_keeps 12 = .ok (.return_, 1) := by decide +kernel
theorem dX10_keeps_13 : decode cX10_keeps 13 = .ok (.aload_n 0, 1) := by decide +kernel
theorem dX10_keeps_14 : decode cX10_keeps 14 = .ok (.getfield 68, 3) := by decide +kernel
theorem dX10_keeps_17 : decode cX10_keeps 17 = .ok (.bipush 8, 2) := by decide +kernel
theorem dX10_keeps_19 : decode cX10_keeps 19 = .ok (.if_icmp .ne 43, 3) := by decide +kernel
theorem dX10_keeps_22 : decode cX10_keeps 22 = .ok (.iconst 0, 1) := by decide +kernel
theorem dX10_keeps_23 : decode cX10_keeps 23 = .ok (.istore_n 2, 1) := by decide +kernel
theorem dX10_keeps_24 : decode cX10_keeps 24 = .ok (.iload_n 2, 1) := by decide +kernel
theorem dX10_keeps_25 : decode cX10_keeps 25 = .ok (.sipush 574, 3) := by decide +kernel
theorem dX10_keeps_28 : decode cX10_keeps 28 = .ok (.if_icmp .ge 24, 3) := by decide +kernel
theorem dX10_keeps_31 : decode cX10_keeps 31 = .ok (.aload_n 0, 1) := by decide +kernel
theorem dX10_keeps_32 : decode cX10_keeps 32 = .ok (.getfield 13, 3) := by decide +kernel
theorem dX10_keeps_35 : decode cX10_keeps 35 = .ok (.iload_n 2, 1) := by decide +kernel
theorem dX10_keeps_36 : decode cX10_keeps 36 = .ok (.aload_n 0, 1) := by decide +kernel
theorem dX10_keeps_37 : decode cX10_keeps 37 = .ok (.getfield 13, 3) := by decide +kernel
theorem dX10_keeps_40 : decode cX10_keeps 40 = .ok (.iload_n 2, 1) := by decide +kernel
theorem dX10_keeps_41 : decode cX10_keeps 41 = .ok (.bipush 82, 2) := by decide +kernel
theorem dX10_keeps_43 : decode cX10_keeps 43 = .ok (.iadd, 1) := by decide +kernel
theorem dX10_keeps_44 : decode cX10_keeps 44 = .ok (.iaload, 1) := by decide +kernel
theorem dX10_keeps_45 : decode cX10_keeps 45 = .ok (.iastore, 1) := by decide +kernel
theorem dX10_keeps_46 : decode cX10_keeps 46 = .ok (.iinc 2 1, 3) := by decide +kernel
theorem dX10_keeps_49 : decode cX10_keeps 49 = .ok (.goto (-25), 3) := by decide +kernel
theorem dX10_keeps_52 : decode cX10_keeps 52 = .ok (.aload_n 0, 1) := by decide +kernel
theorem dX10_keeps_53 : decode cX10_keeps 53 = .ok (.dup, 1) := by decide +kernel
theorem dX10_keeps_54 : decode cX10_keeps 54 = .ok (.getfield 68, 3) := by decide +kernel
theorem dX10_keeps_57 : decode cX10_keeps 57 = .ok (.iconst 1, 1) := by decide +kernel
theorem dX10_keeps_58 : decode cX10_keeps 58 = .ok (.isub, 1) := by decide +kernel
theorem dX10_keeps_59 : decode cX10_keeps 59 = .ok (.putfield 68, 3) := by decide +kernel
theorem dX10_keeps_62 : decode cX10_keeps 62 = .ok (.aload_n 1, 1) := by decide +kernel
theorem dX10_keeps_63 : decode cX10_keeps 63 = .ok (.iconst 0, 1) := by decide +kernel
theorem dX10_keeps_64 : decode cX10_keeps 64 = .ok (.aload_n 0, 1) := by decide +kernel
theorem dX10_keeps_65 : decode cX10_keeps 65 = .ok (.getfield 13, 3) := by decide +kernel
theorem dX10_keeps_68 : decode cX10_keeps 68 = .ok (.bipush 82, 2) := by decide +kernel
theorem dX10_keeps_70 : decode cX10_keeps 70 = .ok (.aload_n 0, 1) := by decide +kernel
theorem dX10_keeps_71 : decode cX10_keeps 71 = .ok (.getfield 68, 3) := by decide +kernel
theorem dX10_keeps_74 : decode cX10_keeps 74 = .ok (.imul, 1) := by decide +kernel
theorem dX10_keeps_75 : decode cX10_keeps 75 = .ok (.invokestatic 71, 3) := by decide +kernel
theorem dX10_keeps_78 : decode cX10_keeps 78 = .ok (.aload_n 0, 1) := by decide +kernel
theorem dX10_keeps_79 : decode cX10_keeps 79 = .ok (.dup, 1) := by decide +kernel
theorem dX10_keeps_80 : decode cX10_keeps 80 = .ok (.getfield 68, 3) := by decide +kernel
theorem dX10_keeps_83 : decode cX10_keeps 83 = .ok (.iconst 1, 1) := by decide +kernel
theorem dX10_keeps_84 : decode cX10_keeps 84 = .ok (.iadd, 1) := by decide +kernel
theorem dX10_keeps_85 : decode cX10_keeps 85 = .ok (.putfield 68, 3) := by decide +kernel
theorem dX10_keeps_88 : decode cX10_keeps 88 = .ok (.return_, 1) := by decide +kernel
theorem dX10_caseAt_0 : decode cX10_caseAt 0 = .ok (.iconst 2, 1) := by decide +kernel
theorem dX10_caseAt_1 : decode cX10_caseAt 1 = .ok (.iconst 5, 1) := by decide +kernel
theorem dX10_caseAt_2 : decode cX10_caseAt 2 = .ok (.iload_n 0, 1) := by decide +kernel
theorem dX10_caseAt_3 : decode cX10_caseAt 3 = .ok (.imul, 1) := by decide +kernel
theorem dX10_caseAt_4 : decode cX10_caseAt 4 = .ok (.iadd, 1) := by decide +kernel
theorem dX10_caseAt_5 : decode cX10_caseAt 5 = .ok (.ireturn, 1) := by decide +kernel
theorem dX10_precedentAt_0 : decode cX10_precedentAt 0 = .ok (.bipush 42, 2) := by decide +kernel
theorem dX10_precedentAt_2 : decode cX10_precedentAt 2 = .ok (.iconst 5, 1) := by decide +kernel
theorem dX10_precedentAt_3 : decode cX10_precedentAt 3 = .ok (.iload_n 0, 1) := by decide +kernel
theorem dX10_precedentAt_4 : decode cX10_precedentAt 4 = .ok (.imul, 1) := by decide +kernel
theorem dX10_precedentAt_5 : decode cX10_precedentAt 5 = .ok (.iadd, 1) := by decide +kernel
theorem dX10_precedentAt_6 : decode cX10_precedentAt 6 = .ok (.ireturn, 1) := by decide +kernel
theorem dX10_letter_0 : decode cX10_letter 0 = .ok (.aload_n 0, 1) := by decide +kernel
theorem dX10_letter_1 : decode cX10_letter 1 = .ok (.getfield 7, 3) := by decide +kernel
theorem dX10_letter_4 : decode cX10_letter 4 = .ok (.iload_n 1, 1) := by decide +kernel
theorem dX10_letter_5 : decode cX10_letter 5 = .ok (.iconst 3, 1) := by decide +kernel
theorem dX10_letter_6 : decode cX10_letter 6 = .ok (.iadd, 1) := by decide +kernel
theorem dX10_letter_7 : decode cX10_letter 7 = .ok (.iload_n 2, 1) := by decide +kernel
theorem dX10_letter_8 : decode cX10_letter 8 = .ok (.bipush 8, 2) := by decide +kernel
theorem dX10_letter_10 : decode cX10_letter 10 = .ok (.idiv, 1) := by decide +kernel
theorem dX10_letter_11 : decode cX10_letter 11 = .ok (.iadd, 1) := by decide +kernel
theorem dX10_letter_12 : decode cX10_letter 12 = .ok (.iaload, 1) := by decide +kernel
theorem dX10_letter_13 : decode cX10_letter 13 = .ok (.iconst 3, 1) := by decide +kernel
theorem dX10_letter_14 : decode cX10_letter 14 = .ok (.iload_n 2, 1) := by decide +kernel
theorem dX10_letter_15 : decode cX10_letter 15 = .ok (.bipush 8, 2) := by decide +kernel
theorem dX10_letter_17 : decode cX10_letter 17 = .ok (.irem, 1) := by decide +kernel
theorem dX10_letter_18 : decode cX10_letter 18 = .ok (.imul, 1) := by decide +kernel
theorem dX10_letter_19 : decode cX10_letter 19 = .ok (.ishr, 1) := by decide +kernel
theorem dX10_letter_20 : decode cX10_letter 20 = .ok (.bipush 7, 2) := by decide +kernel
theorem dX10_letter_22 : decode cX10_letter 22 = .ok (.iand, 1) := by decide +kernel
theorem dX10_letter_23 : decode cX10_letter 23 = .ok (.istore_n 3, 1) := by decide +kernel
theorem dX10_letter_24 : decode cX10_letter 24 = .ok (.iload_n 3, 1) := by decide +kernel
theorem dX10_letter_25 : decode cX10_letter 25 = .ok (.iconst 4, 1) := by decide +kernel
theorem dX10_letter_26 : decode cX10_letter 26 = .ok (.if_icmp .ge 9, 3) := by decide +kernel
theorem dX10_letter_29 : decode cX10_letter 29 = .ok (.iload_n 3, 1) := by decide +kernel
theorem dX10_letter_30 : decode cX10_letter 30 = .ok (.iconst 1, 1) := by decide +kernel
theorem dX10_letter_31 : decode cX10_letter 31 = .ok (.iadd, 1) := by decide +kernel
theorem dX10_letter_32 : decode cX10_letter 32 = .ok (.goto 6, 3) := by decide +kernel
theorem dX10_letter_35 : decode cX10_letter 35 = .ok (.iconst 3, 1) := by decide +kernel
theorem dX10_letter_36 : decode cX10_letter 36 = .ok (.iload_n 3, 1) := by decide +kernel
theorem dX10_letter_37 : decode cX10_letter 37 = .ok (.isub, 1) := by decide +kernel
theorem dX10_letter_38 : decode cX10_letter 38 = .ok (.ireturn, 1) := by decide +kernel
theorem dX10_lays_0 : decode cX10_lays 0 = .ok (.iconst 3, 1) := by decide +kernel
theorem dX10_lays_1 : decode cX10_lays 1 = .ok (.iload_n 2, 1) := by decide +kernel
theorem dX10_lays_2 : decode cX10_lays 2 = .ok (.bipush 8, 2) := by decide +kernel
theorem dX10_lays_4 : decode cX10_lays 4 = .ok (.irem, 1) := by decide +kernel
theorem dX10_lays_5 : decode cX10_lays 5 = .ok (.imul, 1) := by decide +kernel
theorem dX10_lays_6 : decode cX10_lays 6 = .ok (.istore 4, 2) := by decide +kernel
theorem dX10_lays_8 : decode cX10_lays 8 = .ok (.iload_n 3, 1) := by decide +kernel
theorem dX10_lays_9 : decode cX10_lays 9 = .ok (.ifCond .le 9, 3) := by decide +kernel
theorem dX10_lays_12 : decode cX10_lays 12 = .ok (.iload_n 3, 1) := by decide +kernel
theorem dX10_lays_13 : decode cX10_lays 13 = .ok (.iconst 1, 1) := by decide +kernel
theorem dX10_lays_14 : decode cX10_lays 14 = .ok (.isub, 1) := by decide +kernel
theorem dX10_lays_15 : decode cX10_lays 15 = .ok (.goto 6, 3) := by decide +kernel
theorem dX10_lays_18 : decode cX10_lays 18 = .ok (.iconst 3, 1) := by decide +kernel
theorem dX10_lays_19 : decode cX10_lays 19 = .ok (.iload_n 3, 1) := by decide +kernel
theorem dX10_lays_20 : decode cX10_lays 20 = .ok (.isub, 1) := by decide +kernel
theorem dX10_lays_21 : decode cX10_lays 21 = .ok (.istore 5, 2) := by decide +kernel
theorem dX10_lays_23 : decode cX10_lays 23 = .ok (.iload_n 1, 1) := by decide +kernel
theorem dX10_lays_24 : decode cX10_lays 24 = .ok (.iconst 3, 1) := by decide +kernel
theorem dX10_lays_25 : decode cX10_lays 25 = .ok (.iadd, 1) := by decide +kernel
theorem dX10_lays_26 : decode cX10_lays 26 = .ok (.iload_n 2, 1) := by decide +kernel
theorem dX10_lays_27 : decode cX10_lays 27 = .ok (.bipush 8, 2) := by decide +kernel
theorem dX10_lays_29 : decode cX10_lays 29 = .ok (.idiv, 1) := by decide +kernel
theorem dX10_lays_30 : decode cX10_lays 30 = .ok (.iadd, 1) := by decide +kernel
theorem dX10_lays_31 : decode cX10_lays 31 = .ok (.istore 6, 2) := by decide +kernel
theorem dX10_lays_33 : decode cX10_lays 33 = .ok (.aload_n 0, 1) := by decide +kernel
theorem dX10_lays_34 : decode cX10_lays 34 = .ok (.getfield 7, 3) := by decide +kernel
theorem dX10_lays_37 : decode cX10_lays 37 = .ok (.iload 6, 2) := by decide +kernel
theorem dX10_lays_39 : decode cX10_lays 39 = .ok (.aload_n 0, 1) := by decide +kernel
theorem dX10_lays_40 : decode cX10_lays 40 = .ok (.getfield 7, 3) := by decide +kernel
theorem dX10_lays_43 : decode cX10_lays 43 = .ok (.iload 6, 2) := by decide +kernel
theorem dX10_lays_45 : decode cX10_lays 45 = .ok (.iaload, 1) := by decide +kernel
theorem dX10_lays_46 : decode cX10_lays 46 = .ok (.bipush 7, 2) := by decide +kernel
theorem dX10_lays_48 : decode cX10_lays 48 = .ok (.iload 4, 2) := by decide +kernel
theorem dX10_lays_50 : decode cX10_lays 50 = .ok (.ishl, 1) := by decide +kernel
theorem dX10_lays_51 : decode cX10_lays 51 = .ok (.iconst (-1), 1) := by decide +kernel
theorem dX10_lays_52 : decode cX10_lays 52 = .ok (.ixor, 1) := by decide +kernel
theorem dX10_lays_53 : decode cX10_lays 53 = .ok (.iand, 1) := by decide +kernel
theorem dX10_lays_54 : decode cX10_lays 54 = .ok (.iload 5, 2) := by decide +kernel
theorem dX10_lays_56 : decode cX10_lays 56 = .ok (.iload 4, 2) := by decide +kernel
theorem dX10_lays_58 : decode cX10_lays 58 = .ok (.ishl, 1) := by decide +kernel
theorem dX10_lays_59 : decode cX10_lays 59 = .ok (.ior, 1) := by decide +kernel
theorem dX10_lays_60 : decode cX10_lays 60 = .ok (.iastore, 1) := by decide +kernel
theorem dX10_lays_61 : decode cX10_lays 61 = .ok (.return_, 1) := by decide +kernel
theorem dX10_written_0 : decode cX10_written 0 = .ok (.iload_n 0, 1) := by decide +kernel
theorem dX10_written_1 : decode cX10_written 1 = .ok (.ifCond .le 12, 3) := by decide +kernel
theorem dX10_written_4 : decode cX10_written 4 = .ok (.bipush 97, 2) := by decide +kernel
theorem dX10_written_6 : decode cX10_written 6 = .ok (.iload_n 0, 1) := by decide +kernel
theorem dX10_written_7 : decode cX10_written 7 = .ok (.iadd, 1) := by decide +kernel
theorem dX10_written_8 : decode cX10_written 8 = .ok (.iconst 1, 1) := by decide +kernel
theorem dX10_written_9 : decode cX10_written 9 = .ok (.isub, 1) := by decide +kernel
theorem dX10_written_10 : decode cX10_written 10 = .ok (.goto 9, 3) := by decide +kernel
theorem dX10_written_13 : decode cX10_written 13 = .ok (.bipush 65, 2) := by decide +kernel
theorem dX10_written_15 : decode cX10_written 15 = .ok (.iload_n 0, 1) := by decide +kernel
theorem dX10_written_16 : decode cX10_written 16 = .ok (.isub, 1) := by decide +kernel
theorem dX10_written_17 : decode cX10_written 17 = .ok (.iconst 1, 1) := by decide +kernel
theorem dX10_written_18 : decode cX10_written 18 = .ok (.isub, 1) := by decide +kernel
theorem dX10_written_19 : decode cX10_written 19 = .ok (.i2c, 1) := by decide +kernel
theorem dX10_written_20 : decode cX10_written 20 = .ok (.ireturn, 1) := by decide +kernel
theorem dX10_read_0 : decode cX10_read 0 = .ok (.iload_n 0, 1) := by decide +kernel
theorem dX10_read_1 : decode cX10_read 1 = .ok (.bipush 97, 2) := by decide +kernel
theorem dX10_read_3 : decode cX10_read 3 = .ok (.bipush 100, 2) := by decide +kernel
theorem dX10_read_5 : decode cX10_read 5 = .ok (.invokestatic 75, 3) := by decide +kernel
theorem dX10_read_8 : decode cX10_read 8 = .ok (.ifCond .eq 12, 3) := by decide +kernel
theorem dX10_read_11 : decode cX10_read 11 = .ok (.iload_n 0, 1) := by decide +kernel
theorem dX10_read_12 : decode cX10_read 12 = .ok (.bipush 97, 2) := by decide +kernel
theorem dX10_read_14 : decode cX10_read 14 = .ok (.isub, 1) := by decide +kernel
theorem dX10_read_15 : decode cX10_read 15 = .ok (.iconst 1, 1) := by decide +kernel
theorem dX10_read_16 : decode cX10_read 16 = .ok (.iadd, 1) := by decide +kernel
theorem dX10_read_17 : decode cX10_read 17 = .ok (.goto 25, 3) := by decide +kernel
theorem dX10_read_20 : decode cX10_read 20 = .ok (.iload_n 0, 1) := by decide +kernel
theorem dX10_read_21 : decode cX10_read 21 = .ok (.bipush 65, 2) := by decide +kernel
theorem dX10_read_23 : decode cX10_read 23 = .ok (.bipush 68, 2) := by decide +kernel
theorem dX10_read_25 : decode cX10_read 25 = .ok (.invokestatic 75, 3) := by decide +kernel
theorem dX10_read_28 : decode cX10_read 28 = .ok (.ifCond .eq 13, 3) := by decide +kernel
theorem dX10_read_31 : decode cX10_read 31 = .ok (.iload_n 0, 1) := by decide +kernel
theorem dX10_read_32 : decode cX10_read 32 = .ok (.bipush 65, 2) := by decide +kernel
theorem dX10_read_34 : decode cX10_read 34 = .ok (.isub, 1) := by decide +kernel
theorem dX10_read_35 : decode cX10_read 35 = .ok (.iconst 1, 1) := by decide +kernel
theorem dX10_read_36 : decode cX10_read 36 = .ok (.iadd, 1) := by decide +kernel
theorem dX10_read_37 : decode cX10_read 37 = .ok (.ineg, 1) := by decide +kernel
theorem dX10_read_38 : decode cX10_read 38 = .ok (.goto 4, 3) := by decide +kernel
theorem dX10_read_41 : decode cX10_read 41 = .ok (.iconst 0, 1) := by decide +kernel
theorem dX10_read_42 : decode cX10_read 42 = .ok (.ireturn, 1) := by decide +kernel
theorem dX10_takes_0 : decode cX10_takes 0 = .ok (.aload_n 0, 1) := by decide +kernel
theorem dX10_takes_1 : decode cX10_takes 1 = .ok (.iconst 0, 1) := by decide +kernel
theorem dX10_takes_2 : decode cX10_takes 2 = .ok (.putfield 79, 3) := by decide +kernel
theorem dX10_takes_5 : decode cX10_takes 5 = .ok (.aload_n 0, 1) := by decide +kernel
theorem dX10_takes_6 : decode cX10_takes 6 = .ok (.iload_n 1, 1) := by decide +kernel
theorem dX10_takes_7 : decode cX10_takes 7 = .ok (.invokevirtual 82, 3) := by decide +kernel
theorem dX10_takes_10 : decode cX10_takes 10 = .ok (.return_, 1) := by decide +kernel
theorem dX10_adds_0 : decode cX10_adds 0 = .ok (.iconst 0, 1) := by decide +kernel
theorem dX10_adds_1 : decode cX10_adds 1 = .ok (.istore_n 2, 1) := by decide +kernel
theorem dX10_adds_2 : decode cX10_adds 2 = .ok (.iload_n 2, 1) := by decide +kernel
theorem dX10_adds_3 : decode cX10_adds 3 = .ok (.aload_n 0, 1) := by decide +kernel
theorem dX10_adds_4 : decode cX10_adds 4 = .ok (.getfield 7, 3) := by decide +kernel
theorem dX10_adds_7 : decode cX10_adds 7 = .ok (.iload_n 1, 1) := by decide +kernel
theorem dX10_adds_8 : decode cX10_adds 8 = .ok (.iconst 0, 1) := by decide +kernel
theorem dX10_adds_9 : decode cX10_adds 9 = .ok (.iadd, 1) := by decide +kernel
theorem dX10_adds_10 : decode cX10_adds 10 = .ok (.iaload, 1) := by decide +kernel
theorem dX10_adds_11 : decode cX10_adds 11 = .ok (.if_icmp .ge 34, 3) := by decide +kernel
theorem dX10_adds_14 : decode cX10_adds 14 = .ok (.aload_n 0, 1) := by decide +kernel
theorem dX10_adds_15 : decode cX10_adds 15 = .ok (.getfield 33, 3) := by decide +kernel
theorem dX10_adds_18 : decode cX10_adds 18 = .ok (.aload_n 0, 1) := by decide +kernel
theorem dX10_adds_19 : decode cX10_adds 19 = .ok (.getfield 79, 3) := by decide +kernel
theorem dX10_adds_22 : decode cX10_adds 22 = .ok (.aload_n 0, 1) := by decide +kernel
theorem dX10_adds_23 : decode cX10_adds 23 = .ok (.iload_n 1, 1) := by decide +kernel
theorem dX10_adds_24 : decode cX10_adds 24 = .ok (.iload_n 2, 1) := by decide +kernel
theorem dX10_adds_25 : decode cX10_adds 25 = .ok (.invokevirtual 86, 3) := by decide +kernel
theorem dX10_adds_28 : decode cX10_adds 28 = .ok (.iastore, 1) := by decide +kernel
theorem dX10_adds_29 : decode cX10_adds 29 = .ok (.aload_n 0, 1) := by decide +kernel
theorem dX10_adds_30 : decode cX10_adds 30 = .ok (.dup, 1) := by decide +kernel
theorem dX10_adds_31 : decode cX10_adds 31 = .ok (.getfield 79, 3) := by decide +kernel
theorem dX10_adds_34 : decode cX10_adds 34 = .ok (.iconst 1, 1) := by decide +kernel
theorem dX10_adds_35 : decode cX10_adds 35 = .ok (.iadd, 1) := by decide +kernel
theorem dX10_adds_36 : decode cX10_adds 36 = .ok (.putfield 79, 3) := by decide +kernel
theorem dX10_adds_39 : decode cX10_adds 39 = .ok (.iinc 2 1, 3) := by decide +kernel
theorem dX10_adds_42 : decode cX10_adds 42 = .ok (.goto (-40), 3) := by decide +kernel
theorem dX10_adds_45 : decode cX10_adds 45 = .ok (.return_, 1) := by decide +kernel
theorem dX10_takesQuotient_0 : decode cX10_takesQuotient 0 = .ok (.aload_n 0, 1) := by decide +kernel
theorem dX10_takesQuotient_1 : decode cX10_takesQuotient 1 = .ok (.iconst 0, 1) := by decide +kernel
theorem dX10_takesQuotient_2 : decode cX10_takesQuotient 2 = .ok (.putfield 79, 3) := by decide +kernel
theorem dX10_takesQuotient_5 : decode cX10_takesQuotient 5 = .ok (.aload_n 0, 1) := by decide +kernel
theorem dX10_takesQuotient_6 : decode cX10_takesQuotient 6 = .ok (.getfield 7, 3) := by decide +kernel
theorem dX10_takesQuotient_9 : decode cX10_takesQuotient 9 = .ok (.iload_n 1, 1) := by decide +kernel
theorem dX10_takesQuotient_10 : decode cX10_takesQuotient 10 = .ok (.iconst 0, 1) := by decide +kernel
theorem dX10_takesQuotient_11 : decode cX10_takesQuotient 11 = .ok (.iadd, 1) := by decide +kernel
theorem dX10_takesQuotient_12 : decode cX10_takesQuotient 12 = .ok (.iaload, 1) := by decide +kernel
theorem dX10_takesQuotient_13 : decode cX10_takesQuotient 13 = .ok (.iconst 1, 1) := by decide +kernel
theorem dX10_takesQuotient_14 : decode cX10_takesQuotient 14 = .ok (.isub, 1) := by decide +kernel
theorem dX10_takesQuotient_15 : decode cX10_takesQuotient 15 = .ok (.istore_n 3, 1) := by decide +kernel
theorem dX10_takesQuotient_16 : decode cX10_takesQuotient 16 = .ok (.iload_n 3, 1) := by decide +kernel
theorem dX10_takesQuotient_17 : decode cX10_takesQuotient 17 = .ok (.ifCond .lt 35, 3) := by decide +kernel
theorem dX10_takesQuotient_20 : decode cX10_takesQuotient 20 = .ok (.aload_n 0, 1) := by decide +kernel
theorem dX10_takesQuotient_21 : decode cX10_takesQuotient 21 = .ok (.getfield 33, 3) := by decide +kernel
theorem dX10_takesQuotient_24 : decode cX10_takesQuotient 24 = .ok (.aload_n 0, 1) := by decide +kernel
theorem dX10_takesQuotient_25 : decode cX10_takesQuotient 25 = .ok (.getfield 79, 3) := by decide +kernel
theorem dX10_takesQuotient_28 : decode cX10_takesQuotient 28 = .ok (.aload_n 0, 1) := by decide +kernel
theorem dX10_takesQuotient_29 : decode cX10_takesQuotient 29 = .ok (.iload_n 1, 1) := by decide +kernel
theorem dX10_takesQuotient_30 : decode cX10_takesQuotient 30 = .ok (.iload_n 3, 1) := by decide +kernel
theorem dX10_takesQuotient_31 : decode cX10_takesQuotient 31 = .ok (.invokevirtual 86, 3) := by decide +kernel
theorem dX10_takesQuotient_34 : decode cX10_takesQuotient 34 = .ok (.ineg, 1) := by decide +kernel
theorem dX10_takesQuotient_35 : decode cX10_takesQuotient 35 = .ok (.iastore, 1) := by decide +kernel
theorem dX10_takesQuotient_36 : decode cX10_takesQuotient 36 = .ok (.aload_n 0, 1) := by decide +kernel
theorem dX10_takesQuotient_37 : decode cX10_takesQuotient 37 = .ok (.dup, 1) := by decide +kernel
theorem dX10_takesQuotient_38 : decode cX10_takesQuotient 38 = .ok (.getfield 79, 3) := by decide +kernel
theorem dX10_takesQuotient_41 : decode cX10_takesQuotient 41 = .ok (.iconst 1, 1) := by decide +kernel
theorem dX10_takesQuotient_42 : decode cX10_takesQuotient 42 = .ok (.iadd, 1) := by decide +kernel
theorem dX10_takesQuotient_43 : decode cX10_takesQuotient 43 = .ok (.putfield 79, 3) := by decide +kernel
theorem dX10_takesQuotient_46 : decode cX10_takesQuotient 46 = .ok (.iinc 3 (-1), 3) := by decide +kernel
theorem dX10_takesQuotient_49 : decode cX10_takesQuotient 49 = .ok (.goto (-33), 3) := by decide +kernel
theorem dX10_takesQuotient_52 : decode cX10_takesQuotient 52 = .ok (.aload_n 0, 1) := by decide +kernel
theorem dX10_takesQuotient_53 : decode cX10_takesQuotient 53 = .ok (.iload_n 2, 1) := by decide +kernel
theorem dX10_takesQuotient_54 : decode cX10_takesQuotient 54 = .ok (.invokevirtual 82, 3) := by decide +kernel
theorem dX10_takesQuotient_57 : decode cX10_takesQuotient 57 = .ok (.return_, 1) := by decide +kernel
theorem dX10_keepsWord_0 : decode cX10_keepsWord 0 = .ok (.aload_n 0, 1) := by decide +kernel
theorem dX10_keepsWord_1 : decode cX10_keepsWord 1 = .ok (.getfield 7, 3) := by decide +kernel
theorem dX10_keepsWord_4 : decode cX10_keepsWord 4 = .ok (.iload_n 1, 1) := by decide +kernel
theorem dX10_keepsWord_5 : decode cX10_keepsWord 5 = .ok (.iconst 0, 1) := by decide +kernel
theorem dX10_keepsWord_6 : decode cX10_keepsWord 6 = .ok (.iadd, 1) := by decide +kernel
theorem dX10_keepsWord_7 : decode cX10_keepsWord 7 = .ok (.aload_n 0, 1) := by decide +kernel
theorem dX10_keepsWord_8 : decode cX10_keepsWord 8 = .ok (.getfield 79, 3) := by decide +kernel
theorem dX10_keepsWord_11 : decode cX10_keepsWord 11 = .ok (.iastore, 1) := by decide +kernel
theorem dX10_keepsWord_12 : decode cX10_keepsWord 12 = .ok (.aload_n 0, 1) := by decide +kernel
theorem dX10_keepsWord_13 : decode cX10_keepsWord 13 = .ok (.getfield 7, 3) := by decide +kernel
theorem dX10_keepsWord_16 : decode cX10_keepsWord 16 = .ok (.iload_n 1, 1) := by decide +kernel
theorem dX10_keepsWord_17 : decode cX10_keepsWord 17 = .ok (.iconst 3, 1) := by decide +kernel
theorem dX10_keepsWord_18 : decode cX10_keepsWord 18 = .ok (.iadd, 1) := by decide +kernel
theorem dX10_keepsWord_19 : decode cX10_keepsWord 19 = .ok (.iconst 0, 1) := by decide +kernel
theorem dX10_keepsWord_20 : decode cX10_keepsWord 20 = .ok (.iastore, 1) := by decide +kernel
theorem dX10_keepsWord_21 : decode cX10_keepsWord 21 = .ok (.aload_n 0, 1) := by decide +kernel
theorem dX10_keepsWord_22 : decode cX10_keepsWord 22 = .ok (.getfield 7, 3) := by decide +kernel
theorem dX10_keepsWord_25 : decode cX10_keepsWord 25 = .ok (.iload_n 1, 1) := by decide +kernel
theorem dX10_keepsWord_26 : decode cX10_keepsWord 26 = .ok (.iconst 3, 1) := by decide +kernel
theorem dX10_keepsWord_27 : decode cX10_keepsWord 27 = .ok (.iadd, 1) := by decide +kernel
theorem dX10_keepsWord_28 : decode cX10_keepsWord 28 = .ok (.iconst 1, 1) := by decide +kernel
theorem dX10_keepsWord_29 : decode cX10_keepsWord 29 = .ok (.iadd, 1) := by decide +kernel
theorem dX10_keepsWord_30 : decode cX10_keepsWord 30 = .ok (.iconst 0, 1) := by decide +kernel
theorem dX10_keepsWord_31 : decode cX10_keepsWord 31 = .ok (.iastore, 1) := by decide +kernel
theorem dX10_keepsWord_32 : decode cX10_keepsWord 32 = .ok (.iconst 0, 1) := by decide +kernel
theorem dX10_keepsWord_33 : decode cX10_keepsWord 33 = .ok (.istore_n 2, 1) := by decide +kernel
theorem dX10_keepsWord_34 : decode cX10_keepsWord 34 = .ok (.iload_n 2, 1) := by decide +kernel
theorem dX10_keepsWord_35 : decode cX10_keepsWord 35 = .ok (.aload_n 0, 1) := by decide +kernel
theorem dX10_keepsWord_36 : decode cX10_keepsWord 36 = .ok (.getfield 79, 3) := by decide +kernel
theorem dX10_keepsWord_39 : decode cX10_keepsWord 39 = .ok (.if_icmp .ge 21, 3) := by decide +kernel
theorem dX10_keepsWord_42 : decode cX10_keepsWord 42 = .ok (.aload_n 0, 1) := by decide +kernel
theorem dX10_keepsWord_43 : decode cX10_keepsWord 43 = .ok (.iload_n 1, 1) := by decide +kernel
theorem dX10_keepsWord_44 : decode cX10_keepsWord 44 = .ok (.iload_n 2, 1) := by decide +kernel
theorem dX10_keepsWord_45 : decode cX10_keepsWord 45 = .ok (.aload_n 0, 1) := by decide +kernel
theorem dX10_keepsWord_46 : decode cX10_keepsWord 46 = .ok (.getfield 33, 3) := by decide +kernel
theorem dX10_keepsWord_49 : decode cX10_keepsWord 49 = .ok (.iload_n 2, 1) := by decide +kernel
theorem dX10_keepsWord_50 : decode cX10_keepsWord 50 = .ok (.iaload, 1) := by decide +kernel
theorem dX10_keepsWord_51 : decode cX10_keepsWord 51 = .ok (.invokevirtual 90, 3) := by decide +kernel
theorem dX10_keepsWord_54 : decode cX10_keepsWord 54 = .ok (.iinc 2 1, 3) := by decide +kernel
theorem dX10_keepsWord_57 : decode cX10_keepsWord 57 = .ok (.goto (-23), 3) := by decide +kernel
theorem dX10_keepsWord_60 : decode cX10_keepsWord 60 = .ok (.return_, 1) := by decide +kernel
theorem dX10_finds_0 : decode cX10_finds 0 = .ok (.aload_n 0, 1) := by decide +kernel
theorem dX10_finds_1 : decode cX10_finds 1 = .ok (.iconst 1, 1) := by decide +kernel
theorem dX10_finds_2 : decode cX10_finds 2 = .ok (.putfield 94, 3) := by decide +kernel
theorem dX10_finds_5 : decode cX10_finds 5 = .ok (.aload_n 0, 1) := by decide +kernel
theorem dX10_finds_6 : decode cX10_finds 6 = .ok (.getfield 94, 3) := by decide +kernel
theorem dX10_finds_9 : decode cX10_finds 9 = .ok (.aload_n 0, 1) := by decide +kernel
theorem dX10_finds_10 : decode cX10_finds 10 = .ok (.getfield 79, 3) := by decide +kernel
theorem dX10_finds_13 : decode cX10_finds 13 = .ok (.if_icmp .ge 124, 3) := by decide +kernel
theorem dX10_finds_16 : decode cX10_finds 16 = .ok (.aload_n 0, 1) := by decide +kernel
theorem dX10_finds_17 : decode cX10_finds 17 = .ok (.getfield 33, 3) := by decide +kernel
theorem dX10_finds_20 : decode cX10_finds 20 = .ok (.aload_n 0, 1) := by decide +kernel
theorem dX10_finds_21 : decode cX10_finds 21 = .ok (.getfield 94, 3) := by decide +kernel
theorem dX10_finds_24 : decode cX10_finds 24 = .ok (.iaload, 1) := by decide +kernel
theorem dX10_finds_25 : decode cX10_finds 25 = .ok (.invokestatic 97, 3) := by decide +kernel
theorem dX10_finds_28 : decode cX10_finds 28 = .ok (.istore_n 1, 1) := by decide +kernel
theorem dX10_finds_29 : decode cX10_finds 29 = .ok (.aload_n 0, 1) := by decide +kernel
theorem dX10_finds_30 : decode cX10_finds 30 = .ok (.aload_n 0, 1) := by decide +kernel
theorem dX10_finds_31 : decode cX10_finds 31 = .ok (.getfield 94, 3) := by decide +kernel
theorem dX10_finds_34 : decode cX10_finds 34 = .ok (.iconst 1, 1) := by decide +kernel
theorem dX10_finds_35 : decode cX10_finds 35 = .ok (.isub, 1) := by decide +kernel
theorem dX10_finds_36 : decode cX10_finds 36 = .ok (.putfield 101, 3) := by decide +kernel
theorem dX10_finds_39 : decode cX10_finds 39 = .ok (.aload_n 0, 1) := by decide +kernel
theorem dX10_finds_40 : decode cX10_finds 40 = .ok (.getfield 101, 3) := by decide +kernel
theorem dX10_finds_43 : decode cX10_finds 43 = .ok (.ifCond .lt 50, 3) := by decide +kernel
theorem dX10_finds_46 : decode cX10_finds 46 = .ok (.aload_n 0, 1) := by decide +kernel
theorem dX10_finds_47 : decode cX10_finds 47 = .ok (.getfield 33, 3) := by decide +kernel
theorem dX10_finds_50 : decode cX10_finds 50 = .ok (.aload_n 0, 1) := by decide +kernel
theorem dX10_finds_51 : decode cX10_finds 51 = .ok (.getfield 101, 3) := by decide +kernel
theorem dX10_finds_54 : decode cX10_finds 54 = .ok (.iaload, 1) := by decide +kernel
theorem dX10_finds_55 : decode cX10_finds 55 = .ok (.invokestatic 97, 3) := by decide +kernel
theorem dX10_finds_58 : decode cX10_finds 58 = .ok (.iload_n 1, 1) := by decide +kernel
theorem dX10_finds_59 : decode cX10_finds 59 = .ok (.if_icmp .eq 34, 3) := by decide +kernel
theorem dX10_finds_62 : decode cX10_finds 62 = .ok (.aload_n 0, 1) := by decide +kernel
theorem dX10_finds_63 : decode cX10_finds 63 = .ok (.getfield 33, 3) := by decide +kernel
theorem dX10_finds_66 : decode cX10_finds 66 = .ok (.aload_n 0, 1) := by decide +kernel
theorem dX10_finds_67 : decode cX10_finds 67 = .ok (.getfield 101, 3) := by decide +kernel
theorem dX10_finds_70 : decode cX10_finds 70 = .ok (.iaload, 1) := by decide +kernel
theorem dX10_finds_71 : decode cX10_finds 71 = .ok (.invokestatic 97, 3) := by decide +kernel
theorem dX10_finds_74 : decode cX10_finds 74 = .ok (.iload_n 1, 1) := by decide +kernel
theorem dX10_finds_75 : decode cX10_finds 75 = .ok (.iconst 1, 1) := by decide +kernel
theorem dX10_finds_76 : decode cX10_finds 76 = .ok (.isub, 1) := by decide +kernel
theorem dX10_finds_77 : decode cX10_finds 77 = .ok (.if_icmp .eq 16, 3) := by decide +kernel
theorem dX10_finds_80 : decode cX10_finds 80 = .ok (.aload_n 0, 1) := by decide +kernel
theorem dX10_finds_81 : decode cX10_finds 81 = .ok (.dup, 1) := by decide +kernel
theorem dX10_finds_82 : decode cX10_finds 82 = .ok (.getfield 101, 3) := by decide +kernel
theorem dX10_finds_85 : decode cX10_finds 85 = .ok (.iconst 1, 1) := by decide +kernel
theorem dX10_finds_86 : decode cX10_finds 86 = .ok (.isub, 1) := by decide +kernel
theorem dX10_finds_87 : decode cX10_finds 87 = .ok (.putfield 101, 3) := by decide +kernel
theorem dX10_finds_90 : decode cX10_finds 90 = .ok (.goto (-51), 3) := by decide +kernel
theorem dX10_finds_93 : decode cX10_finds 93 = .ok (.aload_n 0, 1) := by decide +kernel
theorem dX10_finds_94 : decode cX10_finds 94 = .ok (.getfield 101, 3) := by decide +kernel
theorem dX10_finds_97 : decode cX10_finds 97 = .ok (.ifCond .lt 27, 3) := by decide +kernel
theorem dX10_finds_100 : decode cX10_finds 100 = .ok (.aload_n 0, 1) := by decide +kernel
theorem dX10_finds_101 : decode cX10_finds 101 = .ok (.getfield 33, 3) := by decide +kernel
theorem dX10_finds_104 : decode cX10_finds 104 = .ok (.aload_n 0, 1) := by decide +kernel
theorem dX10_finds_105 : decode cX10_finds 105 = .ok (.getfield 101, 3) := by decide +kernel
theorem dX10_finds_108 : decode cX10_finds 108 = .ok (.iaload, 1) := by decide +kernel
theorem dX10_finds_109 : decode cX10_finds 109 = .ok (.aload_n 0, 1) := by decide +kernel
theorem dX10_finds_110 : decode cX10_finds 110 = .ok (.getfield 33, 3) := by decide +kernel
theorem dX10_finds_113 : decode cX10_finds 113 = .ok (.aload_n 0, 1) := by decide +kernel
theorem dX10_finds_114 : decode cX10_finds 114 = .ok (.getfield 94, 3) := by decide +kernel
theorem dX10_finds_117 : decode cX10_finds 117 = .ok (.iaload, 1) := by decide +kernel
theorem dX10_finds_118 : decode cX10_finds 118 = .ok (.ineg, 1) := by decide +kernel
theorem dX10_finds_119 : decode cX10_finds 119 = .ok (.if_icmp .ne 5, 3) := by decide +kernel
theorem dX10_finds_122 : decode cX10_finds 122 = .ok (.iconst 1, 1) := by decide +kernel
theorem dX10_finds_123 : decode cX10_finds 123 = .ok (.ireturn, 1) := by decide +kernel
theorem dX10_finds_124 : decode cX10_finds 124 = .ok (.aload_n 0, 1) := by decide +kernel
theorem dX10_finds_125 : decode cX10_finds 125 = .ok (.dup, 1) := by decide +kernel
theorem dX10_finds_126 : decode cX10_finds 126 = .ok (.getfield 94, 3) := by decide +kernel
theorem dX10_finds_129 : decode cX10_finds 129 = .ok (.iconst 1, 1) := by decide +kernel
theorem dX10_finds_130 : decode cX10_finds 130 = .ok (.iadd, 1) := by decide +kernel
theorem dX10_finds_131 : decode cX10_finds 131 = .ok (.putfield 94, 3) := by decide +kernel
theorem dX10_finds_134 : decode cX10_finds 134 = .ok (.goto (-129), 3) := by decide +kernel
theorem dX10_finds_137 : decode cX10_finds 137 = .ok (.iconst 0, 1) := by decide +kernel
theorem dX10_finds_138 : decode cX10_finds 138 = .ok (.ireturn, 1) := by decide +kernel
theorem dX10_reduces_0 : decode cX10_reduces 0 = .ok (.aload_n 0, 1) := by decide +kernel
theorem dX10_reduces_1 : decode cX10_reduces 1 = .ok (.getfield 33, 3) := by decide +kernel
theorem dX10_reduces_4 : decode cX10_reduces 4 = .ok (.aload_n 0, 1) := by decide +kernel
theorem dX10_reduces_5 : decode cX10_reduces 5 = .ok (.getfield 94, 3) := by decide +kernel
theorem dX10_reduces_8 : decode cX10_reduces 8 = .ok (.iaload, 1) := by decide +kernel
theorem dX10_reduces_9 : decode cX10_reduces 9 = .ok (.invokestatic 97, 3) := by decide +kernel
theorem dX10_reduces_12 : decode cX10_reduces 12 = .ok (.istore_n 1, 1) := by decide +kernel
theorem dX10_reduces_13 : decode cX10_reduces 13 = .ok (.aload_n 0, 1) := by decide +kernel
theorem dX10_reduces_14 : decode cX10_reduces 14 = .ok (.getfield 33, 3) := by decide +kernel
theorem dX10_reduces_17 : decode cX10_reduces 17 = .ok (.aload_n 0, 1) := by decide +kernel
theorem dX10_reduces_18 : decode cX10_reduces 18 = .ok (.getfield 101, 3) := by decide +kernel
theorem dX10_reduces_21 : decode cX10_reduces 21 = .ok (.iaload, 1) := by decide +kernel
theorem dX10_reduces_22 : decode cX10_reduces 22 = .ok (.ifCond .le 7, 3) := by decide +kernel
theorem dX10_reduces_25 : decode cX10_reduces 25 = .ok (.iconst 1, 1) := by decide +kernel
theorem dX10_reduces_26 : decode cX10_reduces 26 = .ok (.goto 4, 3) := by decide +kernel
theorem dX10_reduces_29 : decode cX10_reduces 29 = .ok (.iconst (-1), 1) := by decide +kernel
theorem dX10_reduces_30 : decode cX10_reduces 30 = .ok (.istore_n 2, 1) := by decide +kernel
theorem dX10_reduces_31 : decode cX10_reduces 31 = .ok (.iconst 0, 1) := by decide +kernel
theorem dX10_reduces_32 : decode cX10_reduces 32 = .ok (.istore_n 3, 1) := by decide +kernel
theorem dX10_reduces_33 : decode cX10_reduces 33 = .ok (.iconst 0, 1) := by decide +kernel
theorem dX10_reduces_34 : decode cX10_reduces 34 = .ok (.istore 4, 2) := by decide +kernel
theorem dX10_reduces_36 : decode cX10_reduces 36 = .ok (.iload 4, 2) := by decide +kernel
theorem dX10_reduces_38 : decode cX10_reduces 38 = .ok (.aload_n 0, 1) := by decide +kernel
theorem dX10_reduces_39 : decode cX10_reduces 39 = .ok (.getfield 79, 3) := by decide +kernel
theorem dX10_reduces_42 : decode cX10_reduces 42 = .ok (.if_icmp .ge 135, 3) := by decide +kernel
theorem dX10_reduces_45 : decode cX10_reduces 45 = .ok (.iload 4, 2) := by decide +kernel
theorem dX10_reduces_47 : decode cX10_reduces 47 = .ok (.aload_n 0, 1) := by decide +kernel
theorem dX10_reduces_48 : decode cX10_reduces 48 = .ok (.getfield 101, 3) := by decide +kernel
theorem dX10_reduces_51 : decode cX10_reduces 51 = .ok (.if_icmp .eq 120, 3) := by decide +kernel
theorem dX10_reduces_54 : decode cX10_reduces 54 = .ok (.iload 4, 2) := by decide +kernel
theorem dX10_reduces_56 : decode cX10_reduces 56 = .ok (.aload_n 0, 1) := by decide +kernel
theorem dX10_reduces_57 : decode cX10_reduces 57 = .ok (.getfield 94, 3) := by decide +kernel
theorem dX10_reduces_60 : decode cX10_reduces 60 = .ok (.if_icmp .ne 6, 3) := by decide +kernel
theorem dX10_reduces_63 : decode cX10_reduces 63 = .ok (.goto 108, 3) := by decide +kernel
theorem dX10_reduces_66 : decode cX10_reduces 66 = .ok (.iload 4, 2) := by decide +kernel
theorem dX10_reduces_68 : decode cX10_reduces 68 = .ok (.aload_n 0, 1) := by decide +kernel
theorem dX10_reduces_69 : decode cX10_reduces 69 = .ok (.getfield 101, 3) := by decide +kernel
theorem dX10_reduces_72 : decode cX10_reduces 72 = .ok (.if_icmp .le 83, 3) := by decide +kernel
theorem dX10_reduces_75 : decode cX10_reduces 75 = .ok (.iload 4, 2) := by decide +kernel
theorem dX10_reduces_77 : decode cX10_reduces 77 = .ok (.aload_n 0, 1) := by decide +kernel
theorem dX10_reduces_78 : decode cX10_reduces 78 = .ok (.getfield 94, 3) := by decide +kernel
theorem dX10_reduces_81 : decode cX10_reduces 81 = .ok (.if_icmp .ge 74, 3) := by decide +kernel
theorem dX10_reduces_84 : decode cX10_reduces 84 = .ok (.aload_n 0, 1) := by decide +kernel
theorem dX10_reduces_85 : decode cX10_reduces 85 = .ok (.getfield 33, 3) := by decide +kernel
theorem dX10_reduces_88 : decode cX10_reduces 88 = .ok (.iload 4, 2) := by decide +kernel
theorem dX10_reduces_90 : decode cX10_reduces 90 = .ok (.iaload, 1) := by decide +kernel
theorem dX10_reduces_91 : decode cX10_reduces 91 = .ok (.invokestatic 97, 3) := by decide +kernel
theorem dX10_reduces_94 : decode cX10_reduces 94 = .ok (.iload_n 1, 1) := by decide +kernel
theorem dX10_reduces_95 : decode cX10_reduces 95 = .ok (.iconst 1, 1) := by decide +kernel
theorem dX10_reduces_96 : decode cX10_reduces 96 = .ok (.iadd, 1) := by decide +kernel
theorem dX10_reduces_97 : decode cX10_reduces 97 = .ok (.if_icmp .ne 58, 3) := by decide +kernel
theorem dX10_reduces_100 : decode cX10_reduces 100 = .ok (.aload_n 0, 1) := by decide +kernel
theorem dX10_reduces_101 : decode cX10_reduces 101 = .ok (.getfield 36, 3) := by decide +kernel
theorem dX10_reduces_104 : decode cX10_reduces 104 = .ok (.iload_n 3, 1) := by decide +kernel
theorem dX10_reduces_105 : decode cX10_reduces 105 = .ok (.iload_n 2, 1) := by decide +kernel
theorem dX10_reduces_106 : decode cX10_reduces 106 = .ok (.ineg, 1) := by decide +kernel
theorem dX10_reduces_107 : decode cX10_reduces 107 = .ok (.iload_n 1, 1) := by decide +kernel
theorem dX10_reduces_108 : decode cX10_reduces 108 = .ok (.iconst 1, 1) := by decide +kernel
theorem dX10_reduces_109 : decode cX10_reduces 109 = .ok (.iadd, 1) := by decide +kernel
theorem dX10_reduces_110 : decode cX10_reduces 110 = .ok (.imul, 1) := by decide +kernel
theorem dX10_reduces_111 : decode cX10_reduces 111 = .ok (.iastore, 1) := by decide +kernel
theorem dX10_reduces_112 : decode cX10_reduces 112 = .ok (.aload_n 0, 1) := by decide +kernel
theorem dX10_reduces_113 : decode cX10_reduces 113 = .ok (.getfield 36, 3) := by decide +kernel
theorem dX10_reduces_116 : decode cX10_reduces 116 = .ok (.iload_n 3, 1) := by decide +kernel
theorem dX10_reduces_117 : decode cX10_reduces 117 = .ok (.iconst 1, 1) := by decide +kernel
theorem dX10_reduces_118 : decode cX10_reduces 118 = .ok (.iadd, 1) := by decide +kernel
theorem dX10_reduces_119 : decode cX10_reduces 119 = .ok (.aload_n 0, 1) := by decide +kernel
theorem dX10_reduces_120 : decode cX10_reduces 120 = .ok (.getfield 33, 3) := by decide +kernel
theorem dX10_reduces_123 : decode cX10_reduces 123 = .ok (.iload 4, 2) := by decide +kernel
theorem dX10_reduces_125 : decode cX10_reduces 125 = .ok (.iaload, 1) := by decide +kernel
theorem dX10_reduces_126 : decode cX10_reduces 126 = .ok (.ifCond .le 7, 3) := by decide +kernel
theorem dX10_reduces_129 : decode cX10_reduces 129 = .ok (.iload_n 1, 1) := by decide +kernel
theorem dX10_reduces_130 : decode cX10_reduces 130 = .ok (.goto 5, 3) := by decide +kernel
theorem dX10_reduces_133 : decode cX10_reduces 133 = .ok (.iload_n 1, 1) := by decide +kernel
theorem dX10_reduces_134 : decode cX10_reduces 134 = .ok (.ineg, 1) := by decide +kernel
theorem dX10_reduces_135 : decode cX10_reduces 135 = .ok (.iastore, 1) := by decide +kernel
theorem dX10_reduces_136 : decode cX10_reduces 136 = .ok (.aload_n 0, 1) := by decide +kernel
theorem dX10_reduces_137 : decode cX10_reduces 137 = .ok (.getfield 36, 3) := by decide +kernel
theorem dX10_reduces_140 : decode cX10_reduces 140 = .ok (.iload_n 3, 1) := by decide +kernel
theorem dX10_reduces_141 : decode cX10_reduces 141 = .ok (.iconst 2, 1) := by decide +kernel
theorem dX10_reduces_142 : decode cX10_reduces 142 = .ok (.iadd, 1) := by decide +kernel
theorem dX10_reduces_143 : decode cX10_reduces 143 = .ok (.iload_n 2, 1) := by decide +kernel
theorem dX10_reduces_144 : decode cX10_reduces 144 = .ok (.iload_n 1, 1) := by decide +kernel
theorem dX10_reduces_145 : decode cX10_reduces 145 = .ok (.iconst 1, 1) := by decide +kernel
theorem dX10_reduces_146 : decode cX10_reduces 146 = .ok (.iadd, 1) := by decide +kernel
theorem dX10_reduces_147 : decode cX10_reduces 147 = .ok (.imul, 1) := by decide +kernel
theorem dX10_reduces_148 : decode cX10_reduces 148 = .ok (.iastore, 1) := by decide +kernel
theorem dX10_reduces_149 : decode cX10_reduces 149 = .ok (.iinc 3 3, 3) := by decide +kernel
theorem dX10_reduces_152 : decode cX10_reduces 152 = .ok (.goto 19, 3) := by decide +kernel
theorem dX10_reduces_155 : decode cX10_reduces 155 = .ok (.aload_n 0, 1) := by decide +kernel
theorem dX10_reduces_156 : decode cX10_reduces 156 = .ok (.getfield 36, 3) := by decide +kernel
theorem dX10_reduces_159 : decode cX10_reduces 159 = .ok (.iload_n 3, 1) := by decide +kernel
theorem dX10_reduces_160 : decode cX10_reduces 160 = .ok (.aload_n 0, 1) := by decide +kernel
theorem dX10_reduces_161 : decode cX10_reduces 161 = .ok (.getfield 33, 3) := by decide +kernel
theorem dX10_reduces_164 : decode cX10_reduces 164 = .ok (.iload 4, 2) := by decide +kernel
theorem dX10_reduces_166 : decode cX10_reduces 166 = .ok (.iaload, 1) := by decide +kernel
theorem dX10_reduces_167 : decode cX10_reduces 167 = .ok (.iastore, 1) := by decide +kernel
theorem dX10_reduces_168 : decode cX10_reduces 168 = .ok (.iinc 3 1, 3) := by decide +kernel
theorem dX10_reduces_171 : decode cX10_reduces 171 = .ok (.iinc 4 1, 3) := by decide +kernel
theorem dX10_reduces_174 : decode cX10_reduces 174 = .ok (.goto (-138), 3) := by decide +kernel
theorem dX10_reduces_177 : decode cX10_reduces 177 = .ok (.aload_n 0, 1) := by decide +kernel
theorem dX10_reduces_178 : decode cX10_reduces 178 = .ok (.iload_n 3, 1) := by decide +kernel
theorem dX10_reduces_179 : decode cX10_reduces 179 = .ok (.putfield 79, 3) := by decide +kernel
theorem dX10_reduces_182 : decode cX10_reduces 182 = .ok (.iconst 0, 1) := by decide +kernel
theorem dX10_reduces_183 : decode cX10_reduces 183 = .ok (.istore 4, 2) := by decide +kernel
theorem dX10_reduces_185 : decode cX10_reduces 185 = .ok (.iload 4, 2) := by decide +kernel
theorem dX10_reduces_187 : decode cX10_reduces 187 = .ok (.iload_n 3, 1) := by decide +kernel
theorem dX10_reduces_188 : decode cX10_reduces 188 = .ok (.if_icmp .ge 23, 3) := by decide +kernel
theorem dX10_reduces_191 : decode cX10_reduces 191 = .ok (.aload_n 0, 1) := by decide +kernel
theorem dX10_reduces_192 : decode cX10_reduces 192 = .ok (.getfield 33, 3) := by decide +kernel
theorem dX10_reduces_195 : decode cX10_reduces 195 = .ok (.iload 4, 2) := by decide +kernel
theorem dX10_reduces_197 : decode cX10_reduces 197 = .ok (.aload_n 0, 1) := by decide +kernel
theorem dX10_reduces_198 : decode cX10_reduces 198 = .ok (.getfield 36, 3) := by decide +kernel
theorem dX10_reduces_201 : decode cX10_reduces 201 = .ok (.iload 4, 2) := by decide +kernel
theorem dX10_reduces_203 : decode cX10_reduces 203 = .ok (.iaload, 1) := by decide +kernel
theorem dX10_reduces_204 : decode cX10_reduces 204 = .ok (.iastore, 1) := by decide +kernel
theorem dX10_reduces_205 : decode cX10_reduces 205 = .ok (.iinc 4 1, 3) := by decide +kernel
theorem dX10_reduces_208 : decode cX10_reduces 208 = .ok (.goto (-23), 3) := by decide +kernel
theorem dX10_reduces_211 : decode cX10_reduces 211 = .ok (.return_, 1) := by decide +kernel
theorem dX10_relaxes_0 : decode cX10_relaxes 0 = .ok (.aload_n 0, 1) := by decide +kernel
theorem dX10_relaxes_1 : decode cX10_relaxes 1 = .ok (.iconst 0, 1) := by decide +kernel
theorem dX10_relaxes_2 : decode cX10_relaxes 2 = .ok (.putfield 104, 3) := by decide +kernel
theorem dX10_relaxes_5 : decode cX10_relaxes 5 = .ok (.aload_n 0, 1) := by decide +kernel
theorem dX10_relaxes_6 : decode cX10_relaxes 6 = .ok (.invokevirtual 107, 3) := by decide +kernel
theorem dX10_relaxes_9 : decode cX10_relaxes 9 = .ok (.ifCond .eq 41, 3) := by decide +kernel
theorem dX10_relaxes_12 : decode cX10_relaxes 12 = .ok (.aload_n 0, 1) := by decide +kernel
theorem dX10_relaxes_13 : decode cX10_relaxes 13 = .ok (.getfield 104, 3) := by decide +kernel
theorem dX10_relaxes_16 : decode cX10_relaxes 16 = .ok (.sipush 2000, 3) := by decide +kernel
theorem dX10_relaxes_19 : decode cX10_relaxes 19 = .ok (.if_icmp .ne 5, 3) := by decide +kernel
theorem dX10_relaxes_22 : decode cX10_relaxes 22 = .ok (.iconst 0, 1) := by decide +kernel
theorem dX10_relaxes_23 : decode cX10_relaxes 23 = .ok (.ireturn, 1) := by decide +kernel
theorem dX10_relaxes_24 : decode cX10_relaxes 24 = .ok (.aload_n 0, 1) := by decide +kernel
theorem dX10_relaxes_25 : decode cX10_relaxes 25 = .ok (.invokevirtual 111, 3) := by decide +kernel
theorem dX10_relaxes_28 : decode cX10_relaxes 28 = .ok (.aload_n 0, 1) := by decide +kernel
theorem dX10_relaxes_29 : decode cX10_relaxes 29 = .ok (.dup, 1) := by decide +kernel
theorem dX10_relaxes_30 : decode cX10_relaxes 30 = .ok (.getfield 104, 3) := by decide +kernel
theorem dX10_relaxes_33 : decode cX10_relaxes 33 = .ok (.iconst 1, 1) := by decide +kernel
theorem dX10_relaxes_34 : decode cX10_relaxes 34 = .ok (.iadd, 1) := by decide +kernel
theorem dX10_relaxes_35 : decode cX10_relaxes 35 = .ok (.putfield 104, 3) := by decide +kernel
theorem dX10_relaxes_38 : decode cX10_relaxes 38 = .ok (.aload_n 0, 1) := by decide +kernel
theorem dX10_relaxes_39 : decode cX10_relaxes 39 = .ok (.getfield 79, 3) := by decide +kernel
theorem dX10_relaxes_42 : decode cX10_relaxes 42 = .ok (.sipush 400, 3) := by decide +kernel
theorem dX10_relaxes_45 : decode cX10_relaxes 45 = .ok (.if_icmp .le (-40), 3) := by decide +kernel
theorem dX10_relaxes_48 : decode cX10_relaxes 48 = .ok (.iconst 0, 1) := by decide +kernel
theorem dX10_relaxes_49 : decode cX10_relaxes 49 = .ok (.ireturn, 1) := by decide +kernel
theorem dX10_relaxes_50 : decode cX10_relaxes 50 = .ok (.iconst 1, 1) := by decide +kernel
theorem dX10_relaxes_51 : decode cX10_relaxes 51 = .ok (.ireturn, 1) := by decide +kernel
theorem dX10_signRelaxed_0 : decode cX10_signRelaxed 0 = .ok (.bipush 9, 2) := by decide +kernel
theorem dX10_signRelaxed_2 : decode cX10_signRelaxed 2 = .ok (.istore_n 1, 1) := by decide +kernel
theorem dX10_signRelaxed_3 : decode cX10_signRelaxed 3 = .ok (.iconst 0, 1) := by decide +kernel
theorem dX10_signRelaxed_4 : decode cX10_signRelaxed 4 = .ok (.istore_n 2, 1) := by decide +kernel
theorem dX10_signRelaxed_5 : decode cX10_signRelaxed 5 = .ok (.iconst 0, 1) := by decide +kernel
theorem dX10_signRelaxed_6 : decode cX10_signRelaxed 6 = .ok (.istore_n 3, 1) := by decide +kernel
theorem dX10_signRelaxed_7 : decode cX10_signRelaxed 7 = .ok (.iload_n 3, 1) := by decide +kernel
theorem dX10_signRelaxed_8 : decode cX10_signRelaxed 8 = .ok (.aload_n 0, 1) := by decide +kernel
theorem dX10_signRelaxed_9 : decode cX10_signRelaxed 9 = .ok (.getfield 79, 3) := by decide +kernel
theorem dX10_signRelaxed_12 : decode cX10_signRelaxed 12 = .ok (.if_icmp .ge 50, 3) := by decide +kernel
theorem dX10_signRelaxed_15 : decode cX10_signRelaxed 15 = .ok (.aload_n 0, 1) := by decide +kernel
theorem dX10_signRelaxed_16 : decode cX10_signRelaxed 16 = .ok (.getfield 33, 3) := by decide +kernel
theorem dX10_signRelaxed_19 : decode cX10_signRelaxed 19 = .ok (.iload_n 3, 1) := by decide +kernel
theorem dX10_signRelaxed_20 : decode cX10_signRelaxed 20 = .ok (.iaload, 1) := by decide +kernel
theorem dX10_signRelaxed_21 : decode cX10_signRelaxed 21 = .ok (.invokestatic 97, 3) := by decide +kernel
theorem dX10_signRelaxed_24 : decode cX10_signRelaxed 24 = .ok (.iload_n 1, 1) := by decide +kernel
theorem dX10_signRelaxed_25 : decode cX10_signRelaxed 25 = .ok (.if_icmp .lt 6, 3) := by decide +kernel
theorem dX10_signRelaxed_28 : decode cX10_signRelaxed 28 = .ok (.goto 28, 3) := by decide +kernel
theorem dX10_signRelaxed_31 : decode cX10_signRelaxed 31 = .ok (.aload_n 0, 1) := by decide +kernel
theorem dX10_signRelaxed_32 : decode cX10_signRelaxed 32 = .ok (.getfield 33, 3) := by decide +kernel
theorem dX10_signRelaxed_35 : decode cX10_signRelaxed 35 = .ok (.iload_n 3, 1) := by decide +kernel
theorem dX10_signRelaxed_36 : decode cX10_signRelaxed 36 = .ok (.iaload, 1) := by decide +kernel
theorem dX10_signRelaxed_37 : decode cX10_signRelaxed 37 = .ok (.invokestatic 97, 3) := by decide +kernel
theorem dX10_signRelaxed_40 : decode cX10_signRelaxed 40 = .ok (.istore_n 1, 1) := by decide +kernel
theorem dX10_signRelaxed_41 : decode cX10_signRelaxed 41 = .ok (.aload_n 0, 1) := by decide +kernel
theorem dX10_signRelaxed_42 : decode cX10_signRelaxed 42 = .ok (.getfield 33, 3) := by decide +kernel
theorem dX10_signRelaxed_45 : decode cX10_signRelaxed 45 = .ok (.iload_n 3, 1) := by decide +kernel
theorem dX10_signRelaxed_46 : decode cX10_signRelaxed 46 = .ok (.iaload, 1) := by decide +kernel
theorem dX10_signRelaxed_47 : decode cX10_signRelaxed 47 = .ok (.ifCond .le 7, 3) := by decide +kernel
theorem dX10_signRelaxed_50 : decode cX10_signRelaxed 50 = .ok (.iconst 1, 1) := by decide +kernel
theorem dX10_signRelaxed_51 : decode cX10_signRelaxed 51 = .ok (.goto 4, 3) := by decide +kernel
theorem dX10_signRelaxed_54 : decode cX10_signRelaxed 54 = .ok (.iconst (-1), 1) := by decide +kernel
theorem dX10_signRelaxed_55 : decode cX10_signRelaxed 55 = .ok (.istore_n 2, 1) := by decide +kernel
theorem dX10_signRelaxed_56 : decode cX10_signRelaxed 56 = .ok (.iinc 3 1, 3) := by decide +kernel
theorem dX10_signRelaxed_59 : decode cX10_signRelaxed 59 = .ok (.goto (-52), 3) := by decide +kernel
theorem dX10_signRelaxed_62 : decode cX10_signRelaxed 62 = .ok (.iload_n 2, 1) := by decide +kernel
theorem dX10_signRelaxed_63 : decode cX10_signRelaxed 63 = .ok (.ireturn, 1) := by decide +kernel
theorem dX10_up_0 : decode cX10_up 0 = .ok (.lload_n 0, 1) := by decide +kernel
theorem dX10_up_1 : decode cX10_up 1 = .ok (.lconst 0, 1) := by decide +kernel
theorem dX10_up_2 : decode cX10_up 2 = .ok (.lcmp, 1) := by decide +kernel
theorem dX10_up_3 : decode cX10_up 3 = .ok (.ifCond .le 7, 3) := by decide +kernel
theorem dX10_up_6 : decode cX10_up 6 = .ok (.lload_n 0, 1) := by decide +kernel
theorem dX10_up_7 : decode cX10_up 7 = .ok (.goto 4, 3) := by decide +kernel
theorem dX10_up_10 : decode cX10_up 10 = .ok (.lconst 0, 1) := by decide +kernel
theorem dX10_up_11 : decode cX10_up 11 = .ok (.lreturn, 1) := by decide +kernel
theorem dX10_down_0 : decode cX10_down 0 = .ok (.lload_n 0, 1) := by decide +kernel
theorem dX10_down_1 : decode cX10_down 1 = .ok (.lconst 0, 1) := by decide +kernel
theorem dX10_down_2 : decode cX10_down 2 = .ok (.lcmp, 1) := by decide +kernel
theorem dX10_down_3 : decode cX10_down 3 = .ok (.ifCond .ge 7, 3) := by decide +kernel
theorem dX10_down_6 : decode cX10_down 6 = .ok (.lload_n 0, 1) := by decide +kernel
theorem dX10_down_7 : decode cX10_down 7 = .ok (.goto 4, 3) := by decide +kernel
theorem dX10_down_10 : decode cX10_down 10 = .ok (.lconst 0, 1) := by decide +kernel
theorem dX10_down_11 : decode cX10_down 11 = .ok (.lreturn, 1) := by decide +kernel
theorem dX10_measures_0 : decode cX10_measures 0 = .ok (.iconst 0, 1) := by decide +kernel
theorem dX10_measures_1 : decode cX10_measures 1 = .ok (.istore_n 1, 1) := by decide +kernel
theorem dX10_measures_2 : decode cX10_measures 2 = .ok (.iload_n 1, 1) := by decide +kernel
theorem dX10_measures_3 : decode cX10_measures 3 = .ok (.bipush 10, 2) := by decide +kernel
theorem dX10_measures_5 : decode cX10_measures 5 = .ok (.if_icmp .ge 19, 3) := by decide +kernel
theorem dX10_measures_8 : decode cX10_measures 8 = .ok (.aload_n 0, 1) := by decide +kernel
theorem dX10_measures_9 : decode cX10_measures 9 = .ok (.getfield 39, 3) := by decide +kernel
theorem dX10_measures_12 : decode cX10_measures 12 = .ok (.iload_n 1, 1) := by decide +kernel
theorem dX10_measures_13 : decode cX10_measures 13 = .ok (.iload_n 1, 1) := by decide +kernel
theorem dX10_measures_14 : decode cX10_measures 14 = .ok (.iconst 2, 1) := by decide +kernel
theorem dX10_measures_15 : decode cX10_measures 15 = .ok (.irem, 1) := by decide +kernel
theorem dX10_measures_16 : decode cX10_measures 16 = .ok (.i2l, 1) := by decide +kernel
theorem dX10_measures_17 : decode cX10_measures 17 = .ok (.lastore, 1) := by decide +kernel
theorem dX10_measures_18 : decode cX10_measures 18 = .ok (.iinc 1 1, 3) := by decide +kernel
theorem dX10_measures_21 : decode cX10_measures 21 = .ok (.goto (-19), 3) := by decide +kernel
theorem dX10_measures_24 : decode cX10_measures 24 = .ok (.iconst 0, 1) := by decide +kernel
theorem dX10_measures_25 : decode cX10_measures 25 = .ok (.istore_n 1, 1) := by decide +kernel
theorem dX10_measures_26 : decode cX10_measures 26 = .ok (.iload_n 1, 1) := by decide +kernel
theorem dX10_measures_27 : decode cX10_measures 27 = .ok (.aload_n 0, 1) := by decide +kernel
theorem dX10_measures_28 : decode cX10_measures 28 = .ok (.getfield 79, 3) := by decide +kernel
theorem dX10_measures_31 : decode cX10_measures 31 = .ok (.if_icmp .ge 40, 3) := by decide +kernel
theorem dX10_measures_34 : decode cX10_measures 34 = .ok (.aload_n 0, 1) := by decide +kernel
theorem dX10_measures_35 : decode cX10_measures 35 = .ok (.iconst 2, 1) := by decide +kernel
theorem dX10_measures_36 : decode cX10_measures 36 = .ok (.aload_n 0, 1) := by decide +kernel
theorem dX10_measures_37 : decode cX10_measures 37 = .ok (.getfield 33, 3) := by decide +kernel
theorem dX10_measures_40 : decode cX10_measures 40 = .ok (.iload_n 1, 1) := by decide +kernel
theorem dX10_measures_41 : decode cX10_measures 41 = .ok (.iaload, 1) := by decide +kernel
theorem dX10_measures_42 : decode cX10_measures 42 = .ok (.invokestatic 97, 3) := by decide +kernel
theorem dX10_measures_45 : decode cX10_measures 45 = .ok (.iconst 1, 1) := by decide +kernel
theorem dX10_measures_46 : decode cX10_measures 46 = .ok (.isub, 1) := by decide +kernel
theorem dX10_measures_47 : decode cX10_measures 47 = .ok (.imul, 1) := by decide +kernel
theorem dX10_measures_48 : decode cX10_measures 48 = .ok (.aload_n 0, 1) := by decide +kernel
theorem dX10_measures_49 : decode cX10_measures 49 = .ok (.getfield 33, 3) := by decide +kernel
theorem dX10_measures_52 : decode cX10_measures 52 = .ok (.iload_n 1, 1) := by decide +kernel
theorem dX10_measures_53 : decode cX10_measures 53 = .ok (.iaload, 1) := by decide +kernel
theorem dX10_measures_54 : decode cX10_measures 54 = .ok (.ifCond .le 7, 3) := by decide +kernel
theorem dX10_measures_57 : decode cX10_measures 57 = .ok (.iconst 1, 1) := by decide +kernel
theorem dX10_measures_58 : decode cX10_measures 58 = .ok (.goto 4, 3) := by decide +kernel
theorem dX10_measures_61 : decode cX10_measures 61 = .ok (.iconst 0, 1) := by decide +kernel
theorem dX10_measures_62 : decode cX10_measures 62 = .ok (.invokevirtual 114, 3) := by decide +kernel
theorem dX10_measures_65 : decode cX10_measures 65 = .ok (.iinc 1 1, 3) := by decide +kernel
theorem dX10_measures_68 : decode cX10_measures 68 = .ok (.goto (-42), 3) := by decide +kernel
theorem dX10_measures_71 : decode cX10_measures 71 = .ok (.return_, 1) := by decide +kernel
theorem dX10_turns_0 : decode cX10_turns 0 = .ok (.aload_n 0, 1) := by decide +kernel
theorem dX10_turns_1 : decode cX10_turns 1 = .ok (.getfield 39, 3) := by decide +kernel
theorem dX10_turns_4 : decode cX10_turns 4 = .ok (.iload_n 1, 1) := by decide +kernel
theorem dX10_turns_5 : decode cX10_turns 5 = .ok (.laload, 1) := by decide +kernel
theorem dX10_turns_6 : decode cX10_turns 6 = .ok (.lstore_n 3, 1) := by decide +kernel
theorem dX10_turns_7 : decode cX10_turns 7 = .ok (.aload_n 0, 1) := by decide +kernel
theorem dX10_turns_8 : decode cX10_turns 8 = .ok (.getfield 39, 3) := by decide +kernel
theorem dX10_turns_11 : decode cX10_turns 11 = .ok (.iload_n 1, 1) := by decide +kernel
theorem dX10_turns_12 : decode cX10_turns 12 = .ok (.iconst 1, 1) := by decide +kernel
theorem dX10_turns_13 : decode cX10_turns 13 = .ok (.iadd, 1) := by decide +kernel
theorem dX10_turns_14 : decode cX10_turns 14 = .ok (.laload, 1) := by decide +kernel
theorem dX10_turns_15 : decode cX10_turns 15 = .ok (.lstore 5, 2) := by decide +kernel
theorem dX10_turns_17 : decode cX10_turns 17 = .ok (.aload_n 0, 1) := by decide +kernel
theorem dX10_turns_18 : decode cX10_turns 18 = .ok (.getfield 39, 3) := by decide +kernel
theorem dX10_turns_21 : decode cX10_turns 21 = .ok (.iload_n 1, 1) := by decide +kernel
theorem dX10_turns_22 : decode cX10_turns 22 = .ok (.iconst 2, 1) := by decide +kernel
theorem dX10_turns_23 : decode cX10_turns 23 = .ok (.iadd, 1) := by decide +kernel
theorem dX10_turns_24 : decode cX10_turns 24 = .ok (.laload, 1) := by decide +kernel
theorem dX10_turns_25 : decode cX10_turns 25 = .ok (.lstore 7, 2) := by decide +kernel
theorem dX10_turns_27 : decode cX10_turns 27 = .ok (.aload_n 0, 1) := by decide +kernel
theorem dX10_turns_28 : decode cX10_turns 28 = .ok (.getfield 39, 3) := by decide +kernel
theorem dX10_turns_31 : decode cX10_turns 31 = .ok (.iload_n 1, 1) := by decide +kernel
theorem dX10_turns_32 : decode cX10_turns 32 = .ok (.iconst 3, 1) := by decide +kernel
theorem dX10_turns_33 : decode cX10_turns 33 = .ok (.iadd, 1) := by decide +kernel
theorem dX10_turns_34 : decode cX10_turns 34 = .ok (.laload, 1) := by decide +kernel
theorem dX10_turns_35 : decode cX10_turns 35 = .ok (.lstore 9, 2) := by decide +kernel
theorem dX10_turns_37 : decode cX10_turns 37 = .ok (.iload_n 2, 1) := by decide +kernel
theorem dX10_turns_38 : decode cX10_turns 38 = .ok (.ifCond .eq 109, 3) := by decide +kernel
theorem dX10_turns_41 : decode cX10_turns 41 = .ok (.lload_n 3, 1) := by decide +kernel
theorem dX10_turns_42 : decode cX10_turns 42 = .ok (.lload 5, 2) := by decide +kernel
theorem dX10_turns_44 : decode cX10_turns 44 = .ok (.invokestatic 118, 3) := by decide +kernel
theorem dX10_turns_47 : decode cX10_turns 47 = .ok (.lsub, 1) := by decide +kernel
theorem dX10_turns_48 : decode cX10_turns 48 = .ok (.lload 7, 2) := by decide +kernel
theorem dX10_turns_50 : decode cX10_turns 50 = .ok (.lsub, 1) := by decide +kernel
theorem dX10_turns_51 : decode cX10_turns 51 = .ok (.lload 9, 2) := by decide +kernel
theorem dX10_turns_53 : decode cX10_turns 53 = .ok (.invokestatic 122, 3) := by decide +kernel
theorem dX10_turns_56 : decode cX10_turns 56 = .ok (.ladd, 1) := by decide +kernel
theorem dX10_turns_57 : decode cX10_turns 57 = .ok (.lstore 11, 2) := by decide +kernel
theorem dX10_turns_59 : decode cX10_turns 59 = .ok (.aload_n 0, 1) := by decide +kernel
theorem dX10_turns_60 : decode cX10_turns 60 = .ok (.getfield 39, 3) := by decide +kernel
theorem dX10_turns_63 : decode cX10_turns 63 = .ok (.iload_n 1, 1) := by decide +kernel
theorem dX10_turns_64 : decode cX10_turns 64 = .ok (.lload_n 3, 1) := by decide +kernel
theorem dX10_turns_65 : decode cX10_turns 65 = .ok (.lload 5, 2) := by decide +kernel
theorem dX10_turns_67 : decode cX10_turns 67 = .ok (.invokestatic 122, 3) := by decide +kernel
theorem dX10_turns_70 : decode cX10_turns 70 = .ok (.ladd, 1) := by decide +kernel
theorem dX10_turns_71 : decode cX10_turns 71 = .ok (.lload 9, 2) := by decide +kernel
theorem dX10_turns_73 : decode cX10_turns 73 = .ok (.invokestatic 122, 3) := by decide +kernel
theorem dX10_turns_76 : decode cX10_turns 76 = .ok (.lload 11, 2) := by decide +kernel
theorem dX10_turns_78 : decode cX10_turns 78 = .ok (.lsub, 1) := by decide +kernel
theorem dX10_turns_79 : decode cX10_turns 79 = .ok (.invokestatic 122, 3) := by decide +kernel
theorem dX10_turns_82 : decode cX10_turns 82 = .ok (.ladd, 1) := by decide +kernel
theorem dX10_turns_83 : decode cX10_turns 83 = .ok (.lastore, 1) := by decide +kernel
theorem dX10_turns_84 : decode cX10_turns 84 = .ok (.aload_n 0, 1) := by decide +kernel
theorem dX10_turns_85 : decode cX10_turns 85 = .ok (.getfield 39, 3) := by decide +kernel
theorem dX10_turns_88 : decode cX10_turns 88 = .ok (.iload_n 1, 1) := by decide +kernel
theorem dX10_turns_89 : decode cX10_turns 89 = .ok (.iconst 1, 1) := by decide +kernel
theorem dX10_turns_90 : decode cX10_turns 90 = .ok (.iadd, 1) := by decide +kernel
theorem dX10_turns_91 : decode cX10_turns 91 = .ok (.lload 9, 2) := by decide +kernel
theorem dX10_turns_93 : decode cX10_turns 93 = .ok (.lload 11, 2) := by decide +kernel
theorem dX10_turns_95 : decode cX10_turns 95 = .ok (.invokestatic 122, 3) := by decide +kernel
theorem dX10_turns_98 : decode cX10_turns 98 = .ok (.lsub, 1) := by decide +kernel
theorem dX10_turns_99 : decode cX10_turns 99 = .ok (.lastore, 1) := by decide +kernel
theorem dX10_turns_100 : decode cX10_turns 100 = .ok (.aload_n 0, 1) := by decide +kernel
theorem dX10_turns_101 : decode cX10_turns 101 = .ok (.getfield 39, 3) := by decide +kernel
theorem dX10_turns_104 : decode cX10_turns 104 = .ok (.iload_n 1, 1) := by decide +kernel
theorem dX10_turns_105 : decode cX10_turns 105 = .ok (.iconst 2, 1) := by decide +kernel
theorem dX10_turns_106 : decode cX10_turns 106 = .ok (.iadd, 1) := by decide +kernel
theorem dX10_turns_107 : decode cX10_turns 107 = .ok (.lload 7, 2) := by decide +kernel
theorem dX10_turns_109 : decode cX10_turns 109 = .ok (.lload 9, 2) := by decide +kernel
theorem dX10_turns_111 : decode cX10_turns 111 = .ok (.invokestatic 118, 3) := by decide +kernel
theorem dX10_turns_114 : decode cX10_turns 114 = .ok (.ladd, 1) := by decide +kernel
theorem dX10_turns_115 : decode cX10_turns 115 = .ok (.lload 5, 2) := by decide +kernel
theorem dX10_turns_117 : decode cX10_turns 117 = .ok (.invokestatic 118, 3) := by decide +kernel
theorem dX10_turns_120 : decode cX10_turns 120 = .ok (.lload 11, 2) := by decide +kernel
theorem dX10_turns_122 : decode cX10_turns 122 = .ok (.ladd, 1) := by decide +kernel
theorem dX10_turns_123 : decode cX10_turns 123 = .ok (.invokestatic 118, 3) := by decide +kernel
theorem dX10_turns_126 : decode cX10_turns 126 = .ok (.ladd, 1) := by decide +kernel
theorem dX10_turns_127 : decode cX10_turns 127 = .ok (.lastore, 1) := by decide +kernel
theorem dX10_turns_128 : decode cX10_turns 128 = .ok (.aload_n 0, 1) := by decide +kernel
theorem dX10_turns_129 : decode cX10_turns 129 = .ok (.getfield 39, 3) := by decide +kernel
theorem dX10_turns_132 : decode cX10_turns 132 = .ok (.iload_n 1, 1) := by decide +kernel
theorem dX10_turns_133 : decode cX10_turns 133 = .ok (.iconst 3, 1) := by decide +kernel
theorem dX10_turns_134 : decode cX10_turns 134 = .ok (.iadd, 1) := by decide +kernel
theorem dX10_turns_135 : decode cX10_turns 135 = .ok (.lload 5, 2) := by decide +kernel
theorem dX10_turns_137 : decode cX10_turns 137 = .ok (.lload 11, 2) := by decide +kernel
theorem dX10_turns_139 : decode cX10_turns 139 = .ok (.invokestatic 122, 3) := by decide +kernel
theorem dX10_turns_142 : decode cX10_turns 142 = .ok (.ladd, 1) := by decide +kernel
theorem dX10_turns_143 : decode cX10_turns 143 = .ok (.lastore, 1) := by decide +kernel
theorem dX10_turns_144 : decode cX10_turns 144 = .ok (.goto 106, 3) := by decide +kernel
theorem dX10_turns_147 : decode cX10_turns 147 = .ok (.lload_n 3, 1) := by decide +kernel
theorem dX10_turns_148 : decode cX10_turns 148 = .ok (.lload 5, 2) := by decide +kernel
theorem dX10_turns_150 : decode cX10_turns 150 = .ok (.invokestatic 118, 3) := by decide +kernel
theorem dX10_turns_153 : decode cX10_turns 153 = .ok (.ladd, 1) := by decide +kernel
theorem dX10_turns_154 : decode cX10_turns 154 = .ok (.lload 7, 2) := by decide +kernel
theorem dX10_turns_156 : decode cX10_turns 156 = .ok (.lsub, 1) := by decide +kernel
theorem dX10_turns_157 : decode cX10_turns 157 = .ok (.lload 9, 2) := by decide +kernel
theorem dX10_turns_159 : decode cX10_turns 159 = .ok (.invokestatic 122, 3) := by decide +kernel
theorem dX10_turns_162 : decode cX10_turns 162 = .ok (.lsub, 1) := by decide +kernel
theorem dX10_turns_163 : decode cX10_turns 163 = .ok (.lstore 11, 2) := by decide +kernel
theorem dX10_turns_165 : decode cX10_turns 165 = .ok (.aload_n 0, 1) := by decide +kernel
theorem dX10_turns_166 : decode cX10_turns 166 = .ok (.getfield 39, 3) := by decide +kernel
theorem dX10_turns_169 : decode cX10_turns 169 = .ok (.iload_n 1, 1) := by decide +kernel
theorem dX10_turns_170 : decode cX10_turns 170 = .ok (.lload_n 3, 1) := by decide +kernel
theorem dX10_turns_171 : decode cX10_turns 171 = .ok (.lload 5, 2) := by decide +kernel
theorem dX10_turns_173 : decode cX10_turns 173 = .ok (.invokestatic 122, 3) := by decide +kernel
theorem dX10_turns_176 : decode cX10_turns 176 = .ok (.lsub, 1) := by decide +kernel
theorem dX10_turns_177 : decode cX10_turns 177 = .ok (.lload 9, 2) := by decide +kernel
theorem dX10_turns_179 : decode cX10_turns 179 = .ok (.invokestatic 122, 3) := by decide +kernel
theorem dX10_turns_182 : decode cX10_turns 182 = .ok (.lload 11, 2) := by decide +kernel
theorem dX10_turns_184 : decode cX10_turns 184 = .ok (.ladd, 1) := by decide +kernel
theorem dX10_turns_185 : decode cX10_turns 185 = .ok (.invokestatic 122, 3) := by decide +kernel
theorem dX10_turns_188 : decode cX10_turns 188 = .ok (.lsub, 1) := by decide +kernel
theorem dX10_turns_189 : decode cX10_turns 189 = .ok (.lastore, 1) := by decide +kernel
theorem dX10_turns_190 : decode cX10_turns 190 = .ok (.aload_n 0, 1) := by decide +kernel
theorem dX10_turns_191 : decode cX10_turns 191 = .ok (.getfield 39, 3) := by decide +kernel
theorem dX10_turns_194 : decode cX10_turns 194 = .ok (.iload_n 1, 1) := by decide +kernel
theorem dX10_turns_195 : decode cX10_turns 195 = .ok (.iconst 1, 1) := by decide +kernel
theorem dX10_turns_196 : decode cX10_turns 196 = .ok (.iadd, 1) := by decide +kernel
theorem dX10_turns_197 : decode cX10_turns 197 = .ok (.lload 9, 2) := by decide +kernel
theorem dX10_turns_199 : decode cX10_turns 199 = .ok (.lload 11, 2) := by decide +kernel
theorem dX10_turns_201 : decode cX10_turns 201 = .ok (.invokestatic 118, 3) := by decide +kernel
theorem dX10_turns_204 : decode cX10_turns 204 = .ok (.ladd, 1) := by decide +kernel
theorem dX10_turns_205 : decode cX10_turns 205 = .ok (.lastore, 1) := by decide +kernel
theorem dX10_turns_206 : decode cX10_turns 206 = .ok (.aload_n 0, 1) := by decide +kernel
theorem dX10_turns_207 : decode cX10_turns 207 = .ok (.getfield 39, 3) := by decide +kernel
theorem dX10_turns_210 : decode cX10_turns 210 = .ok (.iload_n 1, 1) := by decide +kernel
theorem dX10_turns_211 : decode cX10_turns 211 = .ok (.iconst 2, 1) := by decide +kernel
theorem dX10_turns_212 : decode cX10_turns 212 = .ok (.iadd, 1) := by decide +kernel
theorem dX10_turns_213 : decode cX10_turns 213 = .ok (.lload 7, 2) := by decide +kernel
theorem dX10_turns_215 : decode cX10_turns 215 = .ok (.lload 9, 2) := by decide +kernel
theorem dX10_turns_217 : decode cX10_turns 217 = .ok (.invokestatic 118, 3) := by decide +kernel
theorem dX10_turns_220 : decode cX10_turns 220 = .ok (.lsub, 1) := by decide +kernel
theorem dX10_turns_221 : decode cX10_turns 221 = .ok (.lload 5, 2) := by decide +kernel
theorem dX10_turns_223 : decode cX10_turns 223 = .ok (.invokestatic 118, 3) := by decide +kernel
theorem dX10_turns_226 : decode cX10_turns 226 = .ok (.lload 11, 2) := by decide +kernel
theorem dX10_turns_228 : decode cX10_turns 228 = .ok (.lsub, 1) := by decide +kernel
theorem dX10_turns_229 : decode cX10_turns 229 = .ok (.invokestatic 118, 3) := by decide +kernel
theorem dX10_turns_232 : decode cX10_turns 232 = .ok (.lsub, 1) := by decide +kernel
theorem dX10_turns_233 : decode cX10_turns 233 = .ok (.lastore, 1) := by decide +kernel
theorem dX10_turns_234 : decode cX10_turns 234 = .ok (.aload_n 0, 1) := by decide +kernel
theorem dX10_turns_235 : decode cX10_turns 235 = .ok (.getfield 39, 3) := by decide +kernel
theorem dX10_turns_238 : decode cX10_turns 238 = .ok (.iload_n 1, 1) := by decide +kernel
theorem dX10_turns_239 : decode cX10_turns 239 = .ok (.iconst 3, 1) := by decide +kernel
theorem dX10_turns_240 : decode cX10_turns 240 = .ok (.iadd, 1) := by decide +kernel
theorem dX10_turns_241 : decode cX10_turns 241 = .ok (.lload 5, 2) := by decide +kernel
theorem dX10_turns_243 : decode cX10_turns 243 = .ok (.lload 11, 2) := by decide +kernel
theorem dX10_turns_245 : decode cX10_turns 245 = .ok (.invokestatic 118, 3) := by decide +kernel
theorem dX10_turns_248 : decode cX10_turns 248 = .ok (.lsub, 1) := by decide +kernel
theorem dX10_turns_249 : decode cX10_turns 249 = .ok (.lastore, 1) := by decide +kernel
theorem dX10_turns_250 : decode cX10_turns 250 = .ok (.return_, 1) := by decide +kernel
theorem dX10_signMeasured_0 : decode cX10_signMeasured 0 = .ok (.aload_n 0, 1) := by decide +kernel
theorem dX10_signMeasured_1 : decode cX10_signMeasured 1 = .ok (.invokevirtual 125, 3) := by decide +kernel
theorem dX10_signMeasured_4 : decode cX10_signMeasured 4 = .ok (.iconst 0, 1) := by decide +kernel
theorem dX10_signMeasured_5 : decode cX10_signMeasured 5 = .ok (.istore_n 1, 1) := by decide +kernel
theorem dX10_signMeasured_6 : decode cX10_signMeasured 6 = .ok (.iload_n 1, 1) := by decide +kernel
theorem dX10_signMeasured_7 : decode cX10_signMeasured 7 = .ok (.bipush 10, 2) := by decide +kernel
theorem dX10_signMeasured_9 : decode cX10_signMeasured 9 = .ok (.if_icmp .ge 37, 3) := by decide +kernel
theorem dX10_signMeasured_12 : decode cX10_signMeasured 12 = .ok (.aload_n 0, 1) := by decide +kernel
theorem dX10_signMeasured_13 : decode cX10_signMeasured 13 = .ok (.getfield 39, 3) := by decide +kernel
theorem dX10_signMeasured_16 : decode cX10_signMeasured 16 = .ok (.iload_n 1, 1) := by decide +kernel
theorem dX10_signMeasured_17 : decode cX10_signMeasured 17 = .ok (.laload, 1) := by decide +kernel
theorem dX10_signMeasured_18 : decode cX10_signMeasured 18 = .ok (.lconst 0, 1) := by decide +kernel
theorem dX10_signMeasured_19 : decode cX10_signMeasured 19 = .ok (.lcmp, 1) := by decide +kernel
theorem dX10_signMeasured_20 : decode cX10_signMeasured 20 = .ok (.ifCond .eq 20, 3) := by decide +kernel
theorem dX10_signMeasured_23 : decode cX10_signMeasured 23 = .ok (.aload_n 0, 1) := by decide +kernel
theorem dX10_signMeasured_24 : decode cX10_signMeasured 24 = .ok (.getfield 39, 3) := by decide +kernel
theorem dX10_signMeasured_27 : decode cX10_signMeasured 27 = .ok (.iload_n 1, 1) := by decide +kernel
theorem dX10_signMeasured_28 : decode cX10_signMeasured 28 = .ok (.laload, 1) := by decide +kernel
theorem dX10_signMeasured_29 : decode cX10_signMeasured 29 = .ok (.lconst 0, 1) := by decide +kernel
theorem dX10_signMeasured_30 : decode cX10_signMeasured 30 = .ok (.lcmp, 1) := by decide +kernel
theorem dX10_signMeasured_31 : decode cX10_signMeasured 31 = .ok (.ifCond .le 7, 3) := by decide +kernel
theorem dX10_signMeasured_34 : decode cX10_signMeasured 34 = .ok (.iconst 1, 1) := by decide +kernel
theorem dX10_signMeasured_35 : decode cX10_signMeasured 35 = .ok (.goto 4, 3) := by decide +kernel
theorem dX10_signMeasured_38 : decode cX10_signMeasured 38 = .ok (.iconst (-1), 1) := by decide +kernel
theorem dX10_signMeasured_39 : decode cX10_signMeasured 39 = .ok (.ireturn, 1) := by decide +kernel
theorem dX10_signMeasured_40 : decode cX10_signMeasured 40 = .ok (.iinc 1 2, 3) := by decide +kernel
theorem dX10_signMeasured_43 : decode cX10_signMeasured 43 = .ok (.goto (-37), 3) := by decide +kernel
theorem dX10_signMeasured_46 : decode cX10_signMeasured 46 = .ok (.iconst 0, 1) := by decide +kernel
theorem dX10_signMeasured_47 : decode cX10_signMeasured 47 = .ok (.ireturn, 1) := by decide +kernel
theorem dX10_areSame_0 : decode cX10_areSame 0 = .ok (.aload_n 0, 1) := by decide +kernel
theorem dX10_areSame_1 : decode cX10_areSame 1 = .ok (.iload_n 1, 1) := by decide +kernel
theorem dX10_areSame_2 : decode cX10_areSame 2 = .ok (.invokevirtual 128, 3) := by decide +kernel
theorem dX10_areSame_5 : decode cX10_areSame 5 = .ok (.aload_n 0, 1) := by decide +kernel
theorem dX10_areSame_6 : decode cX10_areSame 6 = .ok (.invokevirtual 125, 3) := by decide +kernel
theorem dX10_areSame_9 : decode cX10_areSame 9 = .ok (.iconst 0, 1) := by decide +kernel
theorem dX10_areSame_10 : decode cX10_areSame 10 = .ok (.istore_n 3, 1) := by decide +kernel
theorem dX10_areSame_11 : decode cX10_areSame 11 = .ok (.iload_n 3, 1) := by decide +kernel
theorem dX10_areSame_12 : decode cX10_areSame 12 = .ok (.bipush 10, 2) := by decide +kernel
theorem dX10_areSame_14 : decode cX10_areSame 14 = .ok (.if_icmp .ge 21, 3) := by decide +kernel
theorem dX10_areSame_17 : decode cX10_areSame 17 = .ok (.aload_n 0, 1) := by decide +kernel
theorem dX10_areSame_18 : decode cX10_areSame 18 = .ok (.getfield 43, 3) := by decide +kernel
theorem dX10_areSame_21 : decode cX10_areSame 21 = .ok (.iload_n 3, 1) := by decide +kernel
theorem dX10_areSame_22 : decode cX10_areSame 22 = .ok (.aload_n 0, 1) := by decide +kernel
theorem dX10_areSame_23 : decode cX10_areSame 23 = .ok (.getfield 39, 3) := by decide +kernel
theorem dX10_areSame_26 : decode cX10_areSame 26 = .ok (.iload_n 3, 1) := by decide +kernel
theorem dX10_areSame_27 : decode cX10_areSame 27 = .ok (.laload, 1) := by decide +kernel
theorem dX10_areSame_28 : decode cX10_areSame 28 = .ok (.lastore, 1) := by decide +kernel
theorem dX10_areSame_29 : decode cX10_areSame 29 = .ok (.iinc 3 1, 3) := by decide +kernel
theorem dX10_areSame_32 : decode cX10_areSame 32 = .ok (.goto (-21), 3) := by decide +kernel
theorem dX10_areSame_35 : decode cX10_areSame 35 = .ok (.aload_n 0, 1) := by decide +kernel
theorem dX10_areSame_36 : decode cX10_areSame 36 = .ok (.iload_n 2, 1) := by decide +kernel
theorem dX10_areSame_37 : decode cX10_areSame 37 = .ok (.invokevirtual 128, 3) := by decide +kernel
theorem dX10_areSame_40 : decode cX10_areSame 40 = .ok (.aload_n 0, 1) := by decide +kernel
theorem dX10_areSame_41 : decode cX10_areSame 41 = .ok (.invokevirtual 125, 3) := by decide +kernel
theorem dX10_areSame_44 : decode cX10_areSame 44 = .ok (.iconst 0, 1) := by decide +kernel
theorem dX10_areSame_45 : decode cX10_areSame 45 = .ok (.istore_n 3, 1) := by decide +kernel
theorem dX10_areSame_46 : decode cX10_areSame 46 = .ok (.iload_n 3, 1) := by decide +kernel
theorem dX10_areSame_47 : decode cX10_areSame 47 = .ok (.bipush 10, 2) := by decide +kernel
theorem dX10_areSame_49 : decode cX10_areSame 49 = .ok (.if_icmp .ge 27, 3) := by decide +kernel
theorem dX10_areSame_52 : decode cX10_areSame 52 = .ok (.aload_n 0, 1) := by decide +kernel
theorem dX10_areSame_53 : decode cX10_areSame 53 = .ok (.getfield 39, 3) := by decide +kernel
theorem dX10_areSame_56 : decode cX10_areSame 56 = .ok (.iload_n 3, 1) := by decide +kernel
theorem dX10_areSame_57 : decode cX10_areSame 57 = .ok (.laload, 1) := by decide +kernel
theorem dX10_areSame_58 : decode cX10_areSame 58 = .ok (.aload_n 0, 1) := by decide +kernel
theorem dX10_areSame_59 : decode cX10_areSame 59 = .ok (.getfield 43, 3) := by decide +kernel
theorem dX10_areSame_62 : decode cX10_areSame 62 = .ok (.iload_n 3, 1) := by decide +kernel
theorem dX10_areSame_63 : decode cX10_areSame 63 = .ok (.laload, 1) := by decide +kernel
theorem dX10_areSame_64 : decode cX10_areSame 64 = .ok (.lcmp, 1) := by decide +kernel
theorem dX10_areSame_65 : decode cX10_areSame 65 = .ok (.ifCond .eq 5, 3) := by decide +kernel
theorem dX10_areSame_68 : decode cX10_areSame 68 = .ok (.iconst 0, 1) := by decide +kernel
theorem dX10_areSame_69 : decode cX10_areSame 69 = .ok (.ireturn, 1) := by decide +kernel
theorem dX10_areSame_70 : decode cX10_areSame 70 = .ok (.iinc 3 1, 3) := by decide +kernel
theorem dX10_areSame_73 : decode cX10_areSame 73 = .ok (.goto (-27), 3) := by decide +kernel
theorem dX10_areSame_76 : decode cX10_areSame 76 = .ok (.iconst 1, 1) := by decide +kernel
theorem dX10_areSame_77 : decode cX10_areSame 77 = .ok (.ireturn, 1) := by decide +kernel
theorem dX10_isCase_0 : decode cX10_isCase 0 = .ok (.iload_n 1, 1) := by decide +kernel
theorem dX10_isCase_1 : decode cX10_isCase 1 = .ok (.iconst 0, 1) := by decide +kernel
theorem dX10_isCase_2 : decode cX10_isCase 2 = .ok (.aload_n 0, 1) := by decide +kernel
theorem dX10_isCase_3 : decode cX10_isCase 3 = .ok (.getfield 7, 3) := by decide +kernel
theorem dX10_isCase_6 : decode cX10_isCase 6 = .ok (.iconst 0, 1) := by decide +kernel
theorem dX10_isCase_7 : decode cX10_isCase 7 = .ok (.iaload, 1) := by decide +kernel
theorem dX10_isCase_8 : decode cX10_isCase 8 = .ok (.iconst 1, 1) := by decide +kernel
theorem dX10_isCase_9 : decode cX10_isCase 9 = .ok (.isub, 1) := by decide +kernel
theorem dX10_isCase_10 : decode cX10_isCase 10 = .ok (.invokestatic 75, 3) := by decide +kernel
theorem dX10_isCase_13 : decode cX10_isCase 13 = .ok (.ireturn, 1) := by decide +kernel
theorem dX10_isNone_0 : decode cX10_isNone 0 = .ok (.aload_n 0, 1) := by decide +kernel
theorem dX10_isNone_1 : decode cX10_isNone 1 = .ok (.aload_n 0, 1) := by decide +kernel
theorem dX10_isNone_2 : decode cX10_isNone 2 = .ok (.iload_n 1, 1) := by decide +kernel
theorem dX10_isNone_3 : decode cX10_isNone 3 = .ok (.invokevirtual 131, 3) := by decide +kernel
theorem dX10_isNone_6 : decode cX10_isNone 6 = .ok (.ifCond .eq 7, 3) := by decide +kernel
theorem dX10_isNone_9 : decode cX10_isNone 9 = .ok (.iconst 0, 1) := by decide +kernel
theorem dX10_isNone_10 : decode cX10_isNone 10 = .ok (.goto 4, 3) := by decide +kernel
theorem dX10_isNone_13 : decode cX10_isNone 13 = .ok (.iconst 1, 1) := by decide +kernel
theorem dX10_isNone_14 : decode cX10_isNone 14 = .ok (.invokevirtual 135, 3) := by decide +kernel
theorem dX10_isNone_17 : decode cX10_isNone 17 = .ok (.ireturn, 1) := by decide +kernel
theorem dX10_of_0 : decode cX10_of 0 = .ok (.aload_n 0, 1) := by decide +kernel
theorem dX10_of_1 : decode cX10_of 1 = .ok (.getfield 7, 3) := by decide +kernel
theorem dX10_of_4 : decode cX10_of 4 = .ok (.iload_n 1, 1) := by decide +kernel
theorem dX10_of_5 : decode cX10_of 5 = .ok (.invokestatic 138, 3) := by decide +kernel
theorem dX10_of_8 : decode cX10_of 8 = .ok (.iload_n 2, 1) := by decide +kernel
theorem dX10_of_9 : decode cX10_of 9 = .ok (.iadd, 1) := by decide +kernel
theorem dX10_of_10 : decode cX10_of 10 = .ok (.iaload, 1) := by decide +kernel
theorem dX10_of_11 : decode cX10_of 11 = .ok (.ireturn, 1) := by decide +kernel
theorem dX10_openCase_0 : decode cX10_openCase 0 = .ok (.aload_n 0, 1) := by decide +kernel
theorem dX10_openCase_1 : decode cX10_openCase 1 = .ok (.getfield 7, 3) := by decide +kernel
theorem dX10_openCase_4 : decode cX10_openCase 4 = .ok (.iconst 0, 1) := by decide +kernel
theorem dX10_openCase_5 : decode cX10_openCase 5 = .ok (.iaload, 1) := by decide +kernel
theorem dX10_openCase_6 : decode cX10_openCase 6 = .ok (.bipush 8, 2) := by decide +kernel
theorem dX10_openCase_8 : decode cX10_openCase 8 = .ok (.if_icmp .ne 12, 3) := by decide +kernel
theorem dX10_openCase_11 : decode cX10_openCase 11 = .ok (.aload_n 0, 1) := by decide +kernel
theorem dX10_openCase_12 : decode cX10_openCase 12 = .ok (.iconst 1, 1) := by decide +kernel
theorem dX10_openCase_13 : decode cX10_openCase 13 = .ok (.iconst 1, 1) := by decide +kernel
theorem dX10_openCase_14 : decode cX10_openCase 14 = .ok (.bipush 8, 2) := by decide +kernel
theorem dX10_openCase_16 : decode cX10_openCase 16 = .ok (.invokevirtual 141, 3) := by decide +kernel
theorem dX10_openCase_19 : decode cX10_openCase 19 = .ok (.ireturn, 1) := by decide +kernel
theorem dX10_openCase_20 : decode cX10_openCase 20 = .ok (.aload_n 0, 1) := by decide +kernel
theorem dX10_openCase_21 : decode cX10_openCase 21 = .ok (.aload_n 0, 1) := by decide +kernel
theorem dX10_openCase_22 : decode cX10_openCase 22 = .ok (.getfield 7, 3) := by decide +kernel
theorem dX10_openCase_25 : decode cX10_openCase 25 = .ok (.invokevirtual 145, 3) := by decide +kernel
theorem dX10_openCase_28 : decode cX10_openCase 28 = .ok (.aload_n 0, 1) := by decide +kernel
theorem dX10_openCase_29 : decode cX10_openCase 29 = .ok (.getfield 7, 3) := by decide +kernel
theorem dX10_openCase_32 : decode cX10_openCase 32 = .ok (.iconst 0, 1) := by decide +kernel
theorem dX10_openCase_33 : decode cX10_openCase 33 = .ok (.iaload, 1) := by decide +kernel
theorem dX10_openCase_34 : decode cX10_openCase 34 = .ok (.invokestatic 138, 3) := by decide +kernel
theorem dX10_openCase_37 : decode cX10_openCase 37 = .ok (.istore_n 1, 1) := by decide +kernel
theorem dX10_openCase_38 : decode cX10_openCase 38 = .ok (.iconst 0, 1) := by decide +kernel
theorem dX10_openCase_39 : decode cX10_openCase 39 = .ok (.istore_n 2, 1) := by decide +kernel
theorem dX10_openCase_40 : decode cX10_openCase 40 = .ok (.iload_n 2, 1) := by decide +kernel
theorem dX10_openCase_41 : decode cX10_openCase 41 = .ok (.iconst 5, 1) := by decide +kernel
theorem dX10_openCase_42 : decode cX10_openCase 42 = .ok (.if_icmp .ge 18, 3) := by decide +kernel
theorem dX10_openCase_45 : decode cX10_openCase 45 = .ok (.aload_n 0, 1) := by decide +kernel
theorem dX10_openCase_46 : decode cX10_openCase 46 = .ok (.getfield 7, 3) := by decide +kernel
theorem dX10_openCase_49 : decode cX10_openCase 49 = .ok (.iload_n 1, 1) := by decide +kernel
theorem dX10_openCase_50 : decode cX10_openCase 50 = .ok (.iload_n 2, 1) := by decide +kernel
theorem dX10_openCase_51 : decode cX10_openCase 51 = .ok (.iadd, 1) := by decide +kernel
theorem dX10_openCase_52 : decode cX10_openCase 52 = .ok (.iconst 0, 1) := by decide +kernel
theorem dX10_openCase_53 : decode cX10_openCase 53 = .ok (.iastore, 1) := by decide +kernel
theorem dX10_openCase_54 : decode cX10_openCase 54 = .ok (.iinc 2 1, 3) := by decide +kernel
theorem dX10_openCase_57 : decode cX10_openCase 57 = .ok (.goto (-17), 3) := by decide +kernel
theorem dX10_openCase_60 : decode cX10_openCase 60 = .ok (.aload_n 0, 1) := by decide +kernel
theorem dX10_openCase_61 : decode cX10_openCase 61 = .ok (.getfield 7, 3) := by decide +kernel
theorem dX10_openCase_64 : decode cX10_openCase 64 = .ok (.iload_n 1, 1) := by decide +kernel
theorem dX10_openCase_65 : decode cX10_openCase 65 = .ok (.iconst 2, 1) := by decide +kernel
theorem dX10_openCase_66 : decode cX10_openCase 66 = .ok (.iadd, 1) := by decide +kernel
theorem dX10_openCase_67 : decode cX10_openCase 67 = .ok (.iconst (-1), 1) := by decide +kernel
theorem dX10_openCase_68 : decode cX10_openCase 68 = .ok (.iastore, 1) := by decide +kernel
theorem dX10_openCase_69 : decode cX10_openCase 69 = .ok (.aload_n 0, 1) := by decide +kernel
theorem dX10_openCase_70 : decode cX10_openCase 70 = .ok (.getfield 7, 3) := by decide +kernel
theorem dX10_openCase_73 : decode cX10_openCase 73 = .ok (.iconst 0, 1) := by decide +kernel
theorem dX10_openCase_74 : decode cX10_openCase 74 = .ok (.dup2, 1) := by decide +kernel
theorem dX10_openCase_75 : decode cX10_openCase 75 = .ok (.iaload, 1) := by decide +kernel
theorem dX10_openCase_76 : decode cX10_openCase 76 = .ok (.iconst 1, 1) := by decide +kernel
theorem dX10_openCase_77 : decode cX10_openCase 77 = .ok (.iadd, 1) := by decide +kernel
theorem dX10_openCase_78 : decode cX10_openCase 78 = .ok (.iastore, 1) := by decide +kernel
theorem dX10_openCase_79 : decode cX10_openCase 79 = .ok (.aload_n 0, 1) := by decide +kernel
theorem dX10_openCase_80 : decode cX10_openCase 80 = .ok (.getfield 7, 3) := by decide +kernel
theorem dX10_openCase_83 : decode cX10_openCase 83 = .ok (.iconst 0, 1) := by decide +kernel
theorem dX10_openCase_84 : decode cX10_openCase 84 = .ok (.iaload, 1) := by decide +kernel
theorem dX10_openCase_85 : decode cX10_openCase 85 = .ok (.iconst 1, 1) := by decide +kernel
theorem dX10_openCase_86 : decode cX10_openCase 86 = .ok (.isub, 1) := by decide +kernel
theorem dX10_openCase_87 : decode cX10_openCase 87 = .ok (.ireturn, 1) := by decide +kernel
theorem dX10_isClosed_0 : decode cX10_isClosed 0 = .ok (.aload_n 0, 1) := by decide +kernel
theorem dX10_isClosed_1 : decode cX10_isClosed 1 = .ok (.iload_n 1, 1) := by decide +kernel
theorem dX10_isClosed_2 : decode cX10_isClosed 2 = .ok (.iconst 1, 1) := by decide +kernel
theorem dX10_isClosed_3 : decode cX10_isClosed 3 = .ok (.invokevirtual 149, 3) := by decide +kernel
theorem dX10_isClosed_6 : decode cX10_isClosed 6 = .ok (.ifCond .ne 5, 3) := by decide +kernel
theorem dX10_isClosed_9 : decode cX10_isClosed 9 = .ok (.iconst 0, 1) := by decide +kernel
theorem dX10_isClosed_10 : decode cX10_isClosed 10 = .ok (.ireturn, 1) := by decide +kernel
theorem dX10_isClosed_11 : decode cX10_isClosed 11 = .ok (.aload_n 0, 1) := by decide +kernel
theorem dX10_isClosed_12 : decode cX10_isClosed 12 = .ok (.iconst 2, 1) := by decide +kernel
theorem dX10_isClosed_13 : decode cX10_isClosed 13 = .ok (.iconst 2, 1) := by decide +kernel
theorem dX10_isClosed_14 : decode cX10_isClosed 14 = .ok (.aload_n 0, 1) := by decide +kernel
theorem dX10_isClosed_15 : decode cX10_isClosed 15 = .ok (.iload_n 1, 1) := by decide +kernel
theorem dX10_isClosed_16 : decode cX10_isClosed 16 = .ok (.iconst 2, 1) := by decide +kernel
theorem dX10_isClosed_17 : decode cX10_isClosed 17 = .ok (.invokevirtual 149, 3) := by decide +kernel
theorem dX10_isClosed_20 : decode cX10_isClosed 20 = .ok (.invokevirtual 141, 3) := by decide +kernel
theorem dX10_isClosed_23 : decode cX10_isClosed 23 = .ok (.pop, 1) := by decide +kernel
theorem dX10_isClosed_24 : decode cX10_isClosed 24 = .ok (.iconst 1, 1) := by decide +kernel
theorem dX10_isClosed_25 : decode cX10_isClosed 25 = .ok (.ireturn, 1) := by decide +kernel
theorem dX10_cross_0 : decode cX10_cross 0 = .ok (.iload_n 2, 1) := by decide +kernel
theorem dX10_cross_1 : decode cX10_cross 1 = .ok (.invokestatic 152, 3) := by decide +kernel
theorem dX10_cross_4 : decode cX10_cross 4 = .ok (.istore_n 3, 1) := by decide +kernel
theorem dX10_cross_5 : decode cX10_cross 5 = .ok (.aload_n 0, 1) := by decide +kernel
theorem dX10_cross_6 : decode cX10_cross 6 = .ok (.aload_n 0, 1) := by decide +kernel
theorem dX10_cross_7 : decode cX10_cross 7 = .ok (.iload_n 1, 1) := by decide +kernel
theorem dX10_cross_8 : decode cX10_cross 8 = .ok (.invokevirtual 131, 3) := by decide +kernel
theorem dX10_cross_11 : decode cX10_cross 11 = .ok (.ifCond .ne 7, 3) := by decide +kernel
theorem dX10_cross_14 : decode cX10_cross 14 = .ok (.iconst 1, 1) := by decide +kernel
theorem dX10_cross_15 : decode cX10_cross 15 = .ok (.goto 12, 3) := by decide +kernel
theorem dX10_cross_18 : decode cX10_cross 18 = .ok (.iload_n 3, 1) := by decide +kernel
theorem dX10_cross_19 : decode cX10_cross 19 = .ok (.ifCond .ne 7, 3) := by decide +kernel
theorem dX10_cross_22 : decode cX10_cross 22 = .ok (.iconst 2, 1) := by decide +kernel
theorem dX10_cross_23 : decode cX10_cross 23 = .ok (.goto 4, 3) := by decide +kernel
theorem dX10_cross_26 : decode cX10_cross 26 = .ok (.iconst 0, 1) := by decide +kernel
theorem dX10_cross_27 : decode cX10_cross 27 = .ok (.invokevirtual 135, 3) := by decide +kernel
theorem dX10_cross_30 : decode cX10_cross 30 = .ok (.ifCond .eq 5, 3) := by decide +kernel
theorem dX10_cross_33 : decode cX10_cross 33 = .ok (.iconst 0, 1) := by decide +kernel
theorem dX10_cross_34 : decode cX10_cross 34 = .ok (.ireturn, 1) := by decide +kernel
theorem dX10_cross_35 : decode cX10_cross 35 = .ok (.aload_n 0, 1) := by decide +kernel
theorem dX10_cross_36 : decode cX10_cross 36 = .ok (.iload_n 1, 1) := by decide +kernel
theorem dX10_cross_37 : decode cX10_cross 37 = .ok (.iconst 1, 1) := by decide +kernel
theorem dX10_cross_38 : decode cX10_cross 38 = .ok (.invokevirtual 149, 3) := by decide +kernel
theorem dX10_cross_41 : decode cX10_cross 41 = .ok (.ifCond .le 16, 3) := by decide +kernel
theorem dX10_cross_44 : decode cX10_cross 44 = .ok (.aload_n 0, 1) := by decide +kernel
theorem dX10_cross_45 : decode cX10_cross 45 = .ok (.iconst 3, 1) := by decide +kernel
theorem dX10_cross_46 : decode cX10_cross 46 = .ok (.iconst 2, 1) := by decide +kernel
theorem dX10_cross_47 : decode cX10_cross 47 = .ok (.aload_n 0, 1) := by decide +kernel
theorem dX10_cross_48 : decode cX10_cross 48 = .ok (.iload_n 1, 1) := by decide +kernel
theorem dX10_cross_49 : decode cX10_cross 49 = .ok (.iconst 2, 1) := by decide +kernel
theorem dX10_cross_50 : decode cX10_cross 50 = .ok (.invokevirtual 149, 3) := by decide +kernel
theorem dX10_cross_53 : decode cX10_cross 53 = .ok (.invokevirtual 141, 3) := by decide +kernel
theorem dX10_cross_56 : decode cX10_cross 56 = .ok (.ireturn, 1) := by decide +kernel
theorem dX10_cross_57 : decode cX10_cross 57 = .ok (.aload_n 0, 1) := by decide +kernel
theorem dX10_cross_58 : decode cX10_cross 58 = .ok (.iload_n 1, 1) := by decide +kernel
theorem dX10_cross_59 : decode cX10_cross 59 = .ok (.iconst 0, 1) := by decide +kernel
theorem dX10_cross_60 : decode cX10_cross 60 = .ok (.invokevirtual 149, 3) := by decide +kernel
theorem dX10_cross_63 : decode cX10_cross 63 = .ok (.bipush 16, 2) := by decide +kernel
theorem dX10_cross_65 : decode cX10_cross 65 = .ok (.if_icmp .ne 12, 3) := by decide +kernel
theorem dX10_cross_68 : decode cX10_cross 68 = .ok (.aload_n 0, 1) := by decide +kernel
theorem dX10_cross_69 : decode cX10_cross 69 = .ok (.iconst 3, 1) := by decide +kernel
theorem dX10_cross_70 : decode cX10_cross 70 = .ok (.iconst 1, 1) := by decide +kernel
theorem dX10_cross_71 : decode cX10_cross 71 = .ok (.bipush 16, 2) := by decide +kernel
theorem dX10_cross_73 : decode cX10_cross 73 = .ok (.invokevirtual 141, 3) := by decide +kernel
theorem dX10_cross_76 : decode cX10_cross 76 = .ok (.ireturn, 1) := by decide +kernel
theorem dX10_cross_77 : decode cX10_cross 77 = .ok (.aload_n 0, 1) := by decide +kernel
theorem dX10_cross_78 : decode cX10_cross 78 = .ok (.aload_n 0, 1) := by decide +kernel
theorem dX10_cross_79 : decode cX10_cross 79 = .ok (.getfield 7, 3) := by decide +kernel
theorem dX10_cross_82 : decode cX10_cross 82 = .ok (.invokevirtual 145, 3) := by decide +kernel
theorem dX10_cross_85 : decode cX10_cross 85 = .ok (.aload_n 0, 1) := by decide +kernel
theorem dX10_cross_86 : decode cX10_cross 86 = .ok (.iload_n 1, 1) := by decide +kernel
theorem dX10_cross_87 : decode cX10_cross 87 = .ok (.invokestatic 138, 3) := by decide +kernel
theorem dX10_cross_90 : decode cX10_cross 90 = .ok (.aload_n 0, 1) := by decide +kernel
theorem dX10_cross_91 : decode cX10_cross 91 = .ok (.iload_n 1, 1) := by decide +kernel
theorem dX10_cross_92 : decode cX10_cross 92 = .ok (.iconst 0, 1) := by decide +kernel
theorem dX10_cross_93 : decode cX10_cross 93 = .ok (.invokevirtual 149, 3) := by decide +kernel
theorem dX10_cross_96 : decode cX10_cross 96 = .ok (.iload_n 3, 1) := by decide +kernel
theorem dX10_cross_97 : decode cX10_cross 97 = .ok (.invokevirtual 90, 3) := by decide +kernel
theorem dX10_cross_100 : decode cX10_cross 100 = .ok (.aload_n 0, 1) := by decide +kernel
theorem dX10_cross_101 : decode cX10_cross 101 = .ok (.getfield 7, 3) := by decide +kernel
theorem dX10_cross_104 : decode cX10_cross 104 = .ok (.iload_n 1, 1) := by decide +kernel
theorem dX10_cross_105 : decode cX10_cross 105 = .ok (.invokestatic 138, 3) := by decide +kernel
theorem dX10_cross_108 : decode cX10_cross 108 = .ok (.iconst 0, 1) := by decide +kernel
theorem dX10_cross_109 : decode cX10_cross 109 = .ok (.iadd, 1) := by decide +kernel
theorem dX10_cross_110 : decode cX10_cross 110 = .ok (.dup2, 1) := by decide +kernel
theorem dX10_cross_111 : decode cX10_cross 111 = .ok (.iaload, 1) := by decide +kernel
theorem dX10_cross_112 : decode cX10_cross 112 = .ok (.iconst 1, 1) := by decide +kernel
theorem dX10_cross_113 : decode cX10_cross 113 = .ok (.iadd, 1) := by decide +kernel
theorem dX10_cross_114 : decode cX10_cross 114 = .ok (.iastore, 1) := by decide +kernel
theorem dX10_cross_115 : decode cX10_cross 115 = .ok (.aload_n 0, 1) := by decide +kernel
theorem dX10_cross_116 : decode cX10_cross 116 = .ok (.iload_n 1, 1) := by decide +kernel
theorem dX10_cross_117 : decode cX10_cross 117 = .ok (.iconst 0, 1) := by decide +kernel
theorem dX10_cross_118 : decode cX10_cross 118 = .ok (.invokevirtual 149, 3) := by decide +kernel
theorem dX10_cross_121 : decode cX10_cross 121 = .ok (.ireturn, 1) := by decide +kernel
theorem dX10_cutLast_0 : decode cX10_cutLast 0 = .ok (.aload_n 0, 1) := by decide +kernel
theorem dX10_cutLast_1 : decode cX10_cutLast 1 = .ok (.iload_n 1, 1) := by decide +kernel
theorem dX10_cutLast_2 : decode cX10_cutLast 2 = .ok (.invokevirtual 155, 3) := by decide +kernel
theorem dX10_cutLast_5 : decode cX10_cutLast 5 = .ok (.ifCond .ne 11, 3) := by decide +kernel
theorem dX10_cutLast_8 : decode cX10_cutLast 8 = .ok (.aload_n 0, 1) := by decide +kernel
theorem dX10_cutLast_9 : decode cX10_cutLast 9 = .ok (.iload_n 1, 1) := by decide +kernel
theorem dX10_cutLast_10 : decode cX10_cutLast 10 = .ok (.invokevirtual 158, 3) := by decide +kernel
theorem dX10_cutLast_13 : decode cX10_cutLast 13 = .ok (.ifCond .eq 6, 3) := by decide +kernel
theorem dX10_cutLast_16 : decode cX10_cutLast 16 = .ok (.bipush 32, 2) := by decide +kernel
theorem dX10_cutLast_18 : decode cX10_cutLast 18 = .ok (.ireturn, 1) := by decide +kernel
theorem dX10_cutLast_19 : decode cX10_cutLast 19 = .ok (.aload_n 0, 1) := by decide +kernel
theorem dX10_cutLast_20 : decode cX10_cutLast 20 = .ok (.iload_n 1, 1) := by decide +kernel
theorem dX10_cutLast_21 : decode cX10_cutLast 21 = .ok (.iconst 0, 1) := by decide +kernel
theorem dX10_cutLast_22 : decode cX10_cutLast 22 = .ok (.invokevirtual 149, 3) := by decide +kernel
theorem dX10_cutLast_25 : decode cX10_cutLast 25 = .ok (.ifCond .ne 14, 3) := by decide +kernel
theorem dX10_cutLast_28 : decode cX10_cutLast 28 = .ok (.aload_n 0, 1) := by decide +kernel
theorem dX10_cutLast_29 : decode cX10_cutLast 29 = .ok (.iconst 2, 1) := by decide +kernel
theorem dX10_cutLast_30 : decode cX10_cutLast 30 = .ok (.iconst 4, 1) := by decide +kernel
theorem dX10_cutLast_31 : decode cX10_cutLast 31 = .ok (.iload_n 1, 1) := by decide +kernel
theorem dX10_cutLast_32 : decode cX10_cutLast 32 = .ok (.invokevirtual 141, 3) := by decide +kernel
theorem dX10_cutLast_35 : decode cX10_cutLast 35 = .ok (.pop, 1) := by decide +kernel
theorem dX10_cutLast_36 : decode cX10_cutLast 36 = .ok (.bipush 32, 2) := by decide +kernel
theorem dX10_cutLast_38 : decode cX10_cutLast 38 = .ok (.ireturn, 1) := by decide +kernel
theorem dX10_cutLast_39 : decode cX10_cutLast 39 = .ok (.aload_n 0, 1) := by decide +kernel
theorem dX10_cutLast_40 : decode cX10_cutLast 40 = .ok (.aload_n 0, 1) := by decide +kernel
theorem dX10_cutLast_41 : decode cX10_cutLast 41 = .ok (.getfield 7, 3) := by decide +kernel
theorem dX10_cutLast_44 : decode cX10_cutLast 44 = .ok (.invokevirtual 145, 3) := by decide +kernel
theorem dX10_cutLast_47 : decode cX10_cutLast 47 = .ok (.aload_n 0, 1) := by decide +kernel
theorem dX10_cutLast_48 : decode cX10_cutLast 48 = .ok (.iload_n 1, 1) := by decide +kernel
theorem dX10_cutLast_49 : decode cX10_cutLast 49 = .ok (.iconst 0, 1) := by decide +kernel
theorem dX10_cutLast_50 : decode cX10_cutLast 50 = .ok (.invokevirtual 149, 3) := by decide +kernel
theorem dX10_cutLast_53 : decode cX10_cutLast 53 = .ok (.iconst 1, 1) := by decide +kernel
theorem dX10_cutLast_54 : decode cX10_cutLast 54 = .ok (.isub, 1) := by decide +kernel
theorem dX10_cutLast_55 : decode cX10_cutLast 55 = .ok (.istore_n 2, 1) := by decide +kernel
theorem dX10_cutLast_56 : decode cX10_cutLast 56 = .ok (.aload_n 0, 1) := by decide +kernel
theorem dX10_cutLast_57 : decode cX10_cutLast 57 = .ok (.iload_n 1, 1) := by decide +kernel
theorem dX10_cutLast_58 : decode cX10_cutLast 58 = .ok (.invokestatic 138, 3) := by decide +kernel
theorem dX10_cutLast_61 : decode cX10_cutLast 61 = .ok (.iload_n 2, 1) := by decide +kernel
theorem dX10_cutLast_62 : decode cX10_cutLast 62 = .ok (.invokevirtual 86, 3) := by decide +kernel
theorem dX10_cutLast_65 : decode cX10_cutLast 65 = .ok (.istore_n 3, 1) := by decide +kernel
theorem dX10_cutLast_66 : decode cX10_cutLast 66 = .ok (.aload_n 0, 1) := by decide +kernel
theorem dX10_cutLast_67 : decode cX10_cutLast 67 = .ok (.iload_n 1, 1) := by decide +kernel
theorem dX10_cutLast_68 : decode cX10_cutLast 68 = .ok (.invokestatic 138, 3) := by decide +kernel
theorem dX10_cutLast_71 : decode cX10_cutLast 71 = .ok (.iload_n 2, 1) := by decide +kernel
theorem dX10_cutLast_72 : decode cX10_cutLast 72 = .ok (.iconst 1, 1) := by decide +kernel
theorem dX10_cutLast_73 : decode cX10_cutLast 73 = .ok (.invokevirtual 90, 3) := by decide +kernel
theorem dX10_cutLast_76 : decode cX10_cutLast 76 = .ok (.aload_n 0, 1) := by decide +kernel
theorem dX10_cutLast_77 : decode cX10_cutLast 77 = .ok (.getfield 7, 3) := by decide +kernel
theorem dX10_cutLast_80 : decode cX10_cutLast 80 = .ok (.iload_n 1, 1) := by decide +kernel
theorem dX10_cutLast_81 : decode cX10_cutLast 81 = .ok (.invokestatic 138, 3) := by decide +kernel
theorem dX10_cutLast_84 : decode cX10_cutLast 84 = .ok (.iconst 0, 1) := by decide +kernel
theorem dX10_cutLast_85 : decode cX10_cutLast 85 = .ok (.iadd, 1) := by decide +kernel
theorem dX10_cutLast_86 : decode cX10_cutLast 86 = .ok (.iload_n 2, 1) := by decide +kernel
theorem dX10_cutLast_87 : decode cX10_cutLast 87 = .ok (.iastore, 1) := by decide +kernel
theorem dX10_cutLast_88 : decode cX10_cutLast 88 = .ok (.iload_n 3, 1) := by decide +kernel
theorem dX10_cutLast_89 : decode cX10_cutLast 89 = .ok (.invokestatic 161, 3) := by decide +kernel
theorem dX10_cutLast_92 : decode cX10_cutLast 92 = .ok (.ireturn, 1) := by decide +kernel
theorem dX10_cancel_0 : decode cX10_cancel 0 = .ok (.aload_n 0, 1) := by decide +kernel
theorem dX10_cancel_1 : decode cX10_cancel 1 = .ok (.iload_n 1, 1) := by decide +kernel
theorem dX10_cancel_2 : decode cX10_cancel 2 = .ok (.invokevirtual 155, 3) := by decide +kernel
theorem dX10_cancel_5 : decode cX10_cancel 5 = .ok (.ifCond .ne 11, 3) := by decide +kernel
theorem dX10_cancel_8 : decode cX10_cancel 8 = .ok (.aload_n 0, 1) := by decide +kernel
theorem dX10_cancel_9 : decode cX10_cancel 9 = .ok (.iload_n 1, 1) := by decide +kernel
theorem dX10_cancel_10 : decode cX10_cancel 10 = .ok (.invokevirtual 158, 3) := by decide +kernel
theorem dX10_cancel_13 : decode cX10_cancel 13 = .ok (.ifCond .eq 5, 3) := by decide +kernel
theorem dX10_cancel_16 : decode cX10_cancel 16 = .ok (.iconst 0, 1) := by decide +kernel
theorem dX10_cancel_17 : decode cX10_cancel 17 = .ok (.ireturn, 1) := by decide +kernel
theorem dX10_cancel_18 : decode cX10_cancel 18 = .ok (.aload_n 0, 1) := by decide +kernel
theorem dX10_cancel_19 : decode cX10_cancel 19 = .ok (.aload_n 0, 1) := by decide +kernel
theorem dX10_cancel_20 : decode cX10_cancel 20 = .ok (.getfield 7, 3) := by decide +kernel
theorem dX10_cancel_23 : decode cX10_cancel 23 = .ok (.invokevirtual 145, 3) := by decide +kernel
theorem dX10_cancel_26 : decode cX10_cancel 26 = .ok (.aload_n 0, 1) := by decide +kernel
theorem dX10_cancel_27 : decode cX10_cancel 27 = .ok (.iload_n 1, 1) := by decide +kernel
theorem dX10_cancel_28 : decode cX10_cancel 28 = .ok (.invokestatic 138, 3) := by decide +kernel
theorem dX10_cancel_31 : decode cX10_cancel 31 = .ok (.invokevirtual 128, 3) := by decide +kernel
theorem dX10_cancel_34 : decode cX10_cancel 34 = .ok (.iconst 0, 1) := by decide +kernel
theorem dX10_cancel_35 : decode cX10_cancel 35 = .ok (.istore_n 2, 1) := by decide +kernel
theorem dX10_cancel_36 : decode cX10_cancel 36 = .ok (.iconst 0, 1) := by decide +kernel
theorem dX10_cancel_37 : decode cX10_cancel 37 = .ok (.istore_n 3, 1) := by decide +kernel
theorem dX10_cancel_38 : decode cX10_cancel 38 = .ok (.iload_n 3, 1) := by decide +kernel
theorem dX10_cancel_39 : decode cX10_cancel 39 = .ok (.aload_n 0, 1) := by decide +kernel
theorem dX10_cancel_40 : decode cX10_cancel 40 = .ok (.getfield 79, 3) := by decide +kernel
theorem dX10_cancel_43 : decode cX10_cancel 43 = .ok (.if_icmp .ge 52, 3) := by decide +kernel
theorem dX10_cancel_46 : decode cX10_cancel 46 = .ok (.iload_n 2, 1) := by decide +kernel
theorem dX10_cancel_47 : decode cX10_cancel 47 = .ok (.ifCond .le 27, 3) := by decide +kernel
theorem dX10_cancel_50 : decode cX10_cancel 50 = .ok (.aload_n 0, 1) := by decide +kernel
theorem dX10_cancel_51 : decode cX10_cancel 51 = .ok (.getfield 33, 3) := by decide +kernel
theorem dX10_cancel_54 : decode cX10_cancel 54 = .ok (.iload_n 2, 1) := by decide +kernel
theorem dX10_cancel_55 : decode cX10_cancel 55 = .ok (.iconst 1, 1) := by decide +kernel
theorem dX10_cancel_56 : decode cX10_cancel 56 = .ok (.isub, 1) := by decide +kernel
theorem dX10_cancel_57 : decode cX10_cancel 57 = .ok (.iaload, 1) := by decide +kernel
theorem dX10_cancel_58 : decode cX10_cancel 58 = .ok (.aload_n 0, 1) := by decide +kernel
theorem dX10_cancel_59 : decode cX10_cancel 59 = .ok (.getfield 33, 3) := by decide +kernel
theorem dX10_cancel_62 : decode cX10_cancel 62 = .ok (.iload_n 3, 1) := by decide +kernel
theorem dX10_cancel_63 : decode cX10_cancel 63 = .ok (.iaload, 1) := by decide +kernel
theorem dX10_cancel_64 : decode cX10_cancel 64 = .ok (.ineg, 1) := by decide +kernel
theorem dX10_cancel_65 : decode cX10_cancel 65 = .ok (.if_icmp .ne 9, 3) := by decide +kernel
theorem dX10_cancel_68 : decode cX10_cancel 68 = .ok (.iinc 2 (-1), 3) := by decide +kernel
theorem dX10_cancel_71 : decode cX10_cancel 71 = .ok (.goto 18, 3) := by decide +kernel
theorem dX10_cancel_74 : decode cX10_cancel 74 = .ok (.aload_n 0, 1) := by decide +kernel
theorem dX10_cancel_75 : decode cX10_cancel 75 = .ok (.getfield 33, 3) := by decide +kernel
theorem dX10_cancel_78 : decode cX10_cancel 78 = .ok (.iload_n 2, 1) := by decide +kernel
theorem dX10_cancel_79 : decode cX10_cancel 79 = .ok (.aload_n 0, 1) := by decide +kernel
theorem dX10_cancel_80 : decode cX10_cancel 80 = .ok (.getfield 33, 3) := by decide +kernel
theorem dX10_cancel_83 : decode cX10_cancel 83 = .ok (.iload_n 3, 1) := by decide +kernel
theorem dX10_cancel_84 : decode cX10_cancel 84 = .ok (.iaload, 1) := by decide +kernel
theorem dX10_cancel_85 : decode cX10_cancel 85 = .ok (.iastore, 1) := by decide +kernel
theorem dX10_cancel_86 : decode cX10_cancel 86 = .ok (.iinc 2 1, 3) := by decide +kernel
theorem dX10_cancel_89 : decode cX10_cancel 89 = .ok (.iinc 3 1, 3) := by decide +kernel
theorem dX10_cancel_92 : decode cX10_cancel 92 = .ok (.goto (-54), 3) := by decide +kernel
theorem dX10_cancel_95 : decode cX10_cancel 95 = .ok (.aload_n 0, 1) := by decide +kernel
theorem dX10_cancel_96 : decode cX10_cancel 96 = .ok (.getfield 79, 3) := by decide +kernel
theorem dX10_cancel_99 : decode cX10_cancel 99 = .ok (.iload_n 2, 1) := by decide +kernel
theorem dX10_cancel_100 : decode cX10_cancel 100 = .ok (.isub, 1) := by decide +kernel
theorem dX10_cancel_101 : decode cX10_cancel 101 = .ok (.istore_n 3, 1) := by decide +kernel
theorem dX10_cancel_102 : decode cX10_cancel 102 = .ok (.aload_n 0, 1) := by decide +kernel
theorem dX10_cancel_103 : decode cX10_cancel 103 = .ok (.iload_n 2, 1) := by decide +kernel
theorem dX10_cancel_104 : decode cX10_cancel 104 = .ok (.putfield 79, 3) := by decide +kernel
theorem dX10_cancel_107 : decode cX10_cancel 107 = .ok (.aload_n 0, 1) := by decide +kernel
theorem dX10_cancel_108 : decode cX10_cancel 108 = .ok (.iload_n 1, 1) := by decide +kernel
theorem dX10_cancel_109 : decode cX10_cancel 109 = .ok (.invokestatic 138, 3) := by decide +kernel
theorem dX10_cancel_112 : decode cX10_cancel 112 = .ok (.invokevirtual 165, 3) := by decide +kernel
theorem dX10_cancel_115 : decode cX10_cancel 115 = .ok (.iload_n 3, 1) := by decide +kernel
theorem dX10_cancel_116 : decode cX10_cancel 116 = .ok (.ireturn, 1) := by decide +kernel
theorem dX10_relax_0 : decode cX10_relax 0 = .ok (.aload_n 0, 1) := by decide +kernel
theorem dX10_relax_1 : decode cX10_relax 1 = .ok (.iload_n 1, 1) := by decide +kernel
theorem dX10_relax_2 : decode cX10_relax 2 = .ok (.invokevirtual 155, 3) := by decide +kernel
theorem dX10_relax_5 : decode cX10_relax 5 = .ok (.ifCond .ne 11, 3) := by decide +kernel
theorem dX10_relax_8 : decode cX10_relax 8 = .ok (.aload_n 0, 1) := by decide +kernel
theorem dX10_relax_9 : decode cX10_relax 9 = .ok (.iload_n 1, 1) := by decide +kernel
theorem dX10_relax_10 : decode cX10_relax 10 = .ok (.invokevirtual 158, 3) := by decide +kernel
theorem dX10_relax_13 : decode cX10_relax 13 = .ok (.ifCond .eq 5, 3) := by decide +kernel
theorem dX10_relax_16 : decode cX10_relax 16 = .ok (.iconst 0, 1) := by decide +kernel
theorem dX10_relax_17 : decode cX10_relax 17 = .ok (.ireturn, 1) := by decide +kernel
theorem dX10_relax_18 : decode cX10_relax 18 = .ok (.aload_n 0, 1) := by decide +kernel
theorem dX10_relax_19 : decode cX10_relax 19 = .ok (.iload_n 1, 1) := by decide +kernel
theorem dX10_relax_20 : decode cX10_relax 20 = .ok (.invokestatic 138, 3) := by decide +kernel
theorem dX10_relax_23 : decode cX10_relax 23 = .ok (.invokevirtual 128, 3) := by decide +kernel
theorem dX10_relax_26 : decode cX10_relax 26 = .ok (.aload_n 0, 1) := by decide +kernel
theorem dX10_relax_27 : decode cX10_relax 27 = .ok (.invokevirtual 168, 3) := by decide +kernel
theorem dX10_relax_30 : decode cX10_relax 30 = .ok (.istore_n 2, 1) := by decide +kernel
theorem dX10_relax_31 : decode cX10_relax 31 = .ok (.iload_n 2, 1) := by decide +kernel
theorem dX10_relax_32 : decode cX10_relax 32 = .ok (.ifCond .eq 12, 3) := by decide +kernel
theorem dX10_relax_35 : decode cX10_relax 35 = .ok (.aload_n 0, 1) := by decide +kernel
theorem dX10_relax_36 : decode cX10_relax 36 = .ok (.getfield 79, 3) := by decide +kernel
theorem dX10_relax_39 : decode cX10_relax 39 = .ok (.bipush 16, 2) := by decide +kernel
theorem dX10_relax_41 : decode cX10_relax 41 = .ok (.if_icmp .le 16, 3) := by decide +kernel
theorem dX10_relax_44 : decode cX10_relax 44 = .ok (.aload_n 0, 1) := by decide +kernel
theorem dX10_relax_45 : decode cX10_relax 45 = .ok (.iconst 2, 1) := by decide +kernel
theorem dX10_relax_46 : decode cX10_relax 46 = .ok (.iconst 5, 1) := by decide +kernel
theorem dX10_relax_47 : decode cX10_relax 47 = .ok (.aload_n 0, 1) := by decide +kernel
theorem dX10_relax_48 : decode cX10_relax 48 = .ok (.iload_n 1, 1) := by decide +kernel
theorem dX10_relax_49 : decode cX10_relax 49 = .ok (.iconst 0, 1) := by decide +kernel
theorem dX10_relax_50 : decode cX10_relax 50 = .ok (.invokevirtual 149, 3) := by decide +kernel
theorem dX10_relax_53 : decode cX10_relax 53 = .ok (.invokevirtual 141, 3) := by decide +kernel
theorem dX10_relax_56 : decode cX10_relax 56 = .ok (.ireturn, 1) := by decide +kernel
theorem dX10_relax_57 : decode cX10_relax 57 = .ok (.aload_n 0, 1) := by decide +kernel
theorem dX10_relax_58 : decode cX10_relax 58 = .ok (.aload_n 0, 1) := by decide +kernel
theorem dX10_relax_59 : decode cX10_relax 59 = .ok (.getfield 7, 3) := by decide +kernel
theorem dX10_relax_62 : decode cX10_relax 62 = .ok (.invokevirtual 145, 3) := by decide +kernel
theorem dX10_relax_65 : decode cX10_relax 65 = .ok (.aload_n 0, 1) := by decide +kernel
theorem dX10_relax_66 : decode cX10_relax 66 = .ok (.iload_n 1, 1) := by decide +kernel
theorem dX10_relax_67 : decode cX10_relax 67 = .ok (.invokestatic 138, 3) := by decide +kernel
theorem dX10_relax_70 : decode cX10_relax 70 = .ok (.invokevirtual 165, 3) := by decide +kernel
theorem dX10_relax_73 : decode cX10_relax 73 = .ok (.aload_n 0, 1) := by decide +kernel
theorem dX10_relax_74 : decode cX10_relax 74 = .ok (.getfield 104, 3) := by decide +kernel
theorem dX10_relax_77 : decode cX10_relax 77 = .ok (.ireturn, 1) := by decide +kernel
theorem dX10_caseCount_0 : decode cX10_caseCount 0 = .ok (.aload_n 0, 1) := by decide +kernel
theorem dX10_caseCount_1 : decode cX10_caseCount 1 = .ok (.iconst 0, 1) := by decide +kernel
theorem dX10_caseCount_2 : decode cX10_caseCount 2 = .ok (.putfield 49, 3) := by decide +kernel
theorem dX10_caseCount_5 : decode cX10_caseCount 5 = .ok (.aload_n 0, 1) := by decide +kernel
theorem dX10_caseCount_6 : decode cX10_caseCount 6 = .ok (.getfield 7, 3) := by decide +kernel
theorem dX10_caseCount_9 : decode cX10_caseCount 9 = .ok (.iconst 0, 1) := by decide +kernel
theorem dX10_caseCount_10 : decode cX10_caseCount 10 = .ok (.iaload, 1) := by decide +kernel
theorem dX10_caseCount_11 : decode cX10_caseCount 11 = .ok (.ireturn, 1) := by decide +kernel
theorem dX10_wordLength_0 : decode cX10_wordLength 0 = .ok (.aload_n 0, 1) := by decide +kernel
theorem dX10_wordLength_1 : decode cX10_wordLength 1 = .ok (.iload_n 1, 1) := by decide +kernel
theorem dX10_wordLength_2 : decode cX10_wordLength 2 = .ok (.invokevirtual 155, 3) := by decide +kernel
theorem dX10_wordLength_5 : decode cX10_wordLength 5 = .ok (.ifCond .eq 7, 3) := by decide +kernel
theorem dX10_wordLength_8 : decode cX10_wordLength 8 = .ok (.iconst 0, 1) := by decide +kernel
theorem dX10_wordLength_9 : decode cX10_wordLength 9 = .ok (.goto 9, 3) := by decide +kernel
theorem dX10_wordLength_12 : decode cX10_wordLength 12 = .ok (.aload_n 0, 1) := by decide +kernel
theorem dX10_wordLength_13 : decode cX10_wordLength 13 = .ok (.iload_n 1, 1) := by decide +kernel
theorem dX10_wordLength_14 : decode cX10_wordLength 14 = .ok (.iconst 0, 1) := by decide +kernel
theorem dX10_wordLength_15 : decode cX10_wordLength 15 = .ok (.invokevirtual 149, 3) := by decide +kernel
theorem dX10_wordLength_18 : decode cX10_wordLength 18 = .ok (.ireturn, 1) := by decide +kernel
theorem dX10_letterAt_0 : decode cX10_letterAt 0 = .ok (.aload_n 0, 1) := by decide +kernel
theorem dX10_letterAt_1 : decode cX10_letterAt 1 = .ok (.aload_n 0, 1) := by decide +kernel
theorem dX10_letterAt_2 : decode cX10_letterAt 2 = .ok (.iload_n 1, 1) := by decide +kernel
theorem dX10_letterAt_3 : decode cX10_letterAt 3 = .ok (.invokevirtual 131, 3) := by decide +kernel
theorem dX10_letterAt_6 : decode cX10_letterAt 6 = .ok (.ifCond .ne 7, 3) := by decide +kernel
theorem dX10_letterAt_9 : decode cX10_letterAt 9 = .ok (.iconst 1, 1) := by decide +kernel
theorem dX10_letterAt_10 : decode cX10_letterAt 10 = .ok (.goto 24, 3) := by decide +kernel
theorem dX10_letterAt_13 : decode cX10_letterAt 13 = .ok (.iload_n 2, 1) := by decide +kernel
theorem dX10_letterAt_14 : decode cX10_letterAt 14 = .ok (.iconst 0, 1) := by decide +kernel
theorem dX10_letterAt_15 : decode cX10_letterAt 15 = .ok (.aload_n 0, 1) := by decide +kernel
theorem dX10_letterAt_16 : decode cX10_letterAt 16 = .ok (.iload_n 1, 1) := by decide +kernel
theorem dX10_letterAt_17 : decode cX10_letterAt 17 = .ok (.iconst 0, 1) := by decide +kernel
theorem dX10_letterAt_18 : decode cX10_letterAt 18 = .ok (.invokevirtual 149, 3) := by decide +kernel
theorem dX10_letterAt_21 : decode cX10_letterAt 21 = .ok (.iconst 1, 1) := by decide +kernel
theorem dX10_letterAt_22 : decode cX10_letterAt 22 = .ok (.isub, 1) := by decide +kernel
theorem dX10_letterAt_23 : decode cX10_letterAt 23 = .ok (.invokestatic 75, 3) := by decide +kernel
theorem dX10_letterAt_26 : decode cX10_letterAt 26 = .ok (.ifCond .eq 7, 3) := by decide +kernel
theorem dX10_letterAt_29 : decode cX10_letterAt 29 = .ok (.iconst 0, 1) := by decide +kernel
theorem dX10_letterAt_30 : decode cX10_letterAt 30 = .ok (.goto 4, 3) := by decide +kernel
theorem dX10_letterAt_33 : decode cX10_letterAt 33 = .ok (.iconst 2, 1) := by decide +kernel
theorem dX10_letterAt_34 : decode cX10_letterAt 34 = .ok (.invokevirtual 135, 3) := by decide +kernel
theorem dX10_letterAt_37 : decode cX10_letterAt 37 = .ok (.ifCond .eq 8, 3) := by decide +kernel
theorem dX10_letterAt_40 : decode cX10_letterAt 40 = .ok (.bipush 32, 2) := by decide +kernel
theorem dX10_letterAt_42 : decode cX10_letterAt 42 = .ok (.goto 15, 3) := by decide +kernel
theorem dX10_letterAt_45 : decode cX10_letterAt 45 = .ok (.aload_n 0, 1) := by decide +kernel
theorem dX10_letterAt_46 : decode cX10_letterAt 46 = .ok (.iload_n 1, 1) := by decide +kernel
theorem dX10_letterAt_47 : decode cX10_letterAt 47 = .ok (.invokestatic 138, 3) := by decide +kernel
theorem dX10_letterAt_50 : decode cX10_letterAt 50 = .ok (.iload_n 2, 1) := by decide +kernel
theorem dX10_letterAt_51 : decode cX10_letterAt 51 = .ok (.invokevirtual 86, 3) := by decide +kernel
theorem dX10_letterAt_54 : decode cX10_letterAt 54 = .ok (.invokestatic 161, 3) := by decide +kernel
theorem dX10_letterAt_57 : decode cX10_letterAt 57 = .ok (.ireturn, 1) := by decide +kernel
theorem dX10_hasOne_0 : decode cX10_hasOne 0 = .ok (.aload_n 0, 1) := by decide +kernel
theorem dX10_hasOne_1 : decode cX10_hasOne 1 = .ok (.iload_n 1, 1) := by decide +kernel
theorem dX10_hasOne_2 : decode cX10_hasOne 2 = .ok (.invokestatic 138, 3) := by decide +kernel
theorem dX10_hasOne_5 : decode cX10_hasOne 5 = .ok (.invokevirtual 128, 3) := by decide +kernel
theorem dX10_hasOne_8 : decode cX10_hasOne 8 = .ok (.aload_n 0, 1) := by decide +kernel
theorem dX10_hasOne_9 : decode cX10_hasOne 9 = .ok (.invokevirtual 107, 3) := by decide +kernel
theorem dX10_hasOne_12 : decode cX10_hasOne 12 = .ok (.ireturn, 1) := by decide +kernel
theorem dX10_hasHandle_0 : decode cX10_hasHandle 0 = .ok (.aload_n 0, 1) := by decide +kernel
theorem dX10_hasHandle_1 : decode cX10_hasHandle 1 = .ok (.iload_n 1, 1) := by decide +kernel
theorem dX10_hasHandle_2 : decode cX10_hasHandle 2 = .ok (.invokevirtual 155, 3) := by decide +kernel
theorem dX10_hasHandle_5 : decode cX10_hasHandle 5 = .ok (.ifCond .ne 15, 3) := by decide +kernel
theorem dX10_hasHandle_8 : decode cX10_hasHandle 8 = .ok (.aload_n 0, 1) := by decide +kernel
theorem dX10_hasHandle_9 : decode cX10_hasHandle 9 = .ok (.iload_n 1, 1) := by decide +kernel
theorem dX10_hasHandle_10 : decode cX10_hasHandle 10 = .ok (.invokevirtual 171, 3) := by decide +kernel
theorem dX10_hasHandle_13 : decode cX10_hasHandle 13 = .ok (.ifCond .eq 7, 3) := by decide +kernel
theorem dX10_hasHandle_16 : decode cX10_hasHandle 16 = .ok (.iconst 1, 1) := by decide +kernel
theorem dX10_hasHandle_17 : decode cX10_hasHandle 17 = .ok (.goto 4, 3) := by decide +kernel
theorem dX10_hasHandle_20 : decode cX10_hasHandle 20 = .ok (.iconst 0, 1) := by decide +kernel
theorem dX10_hasHandle_21 : decode cX10_hasHandle 21 = .ok (.ireturn, 1) := by decide +kernel
theorem dX10_handleBegin_0 : decode cX10_handleBegin 0 = .ok (.aload_n 0, 1) := by decide +kernel
theorem dX10_handleBegin_1 : decode cX10_handleBegin 1 = .ok (.aload_n 0, 1) := by decide +kernel
theorem dX10_handleBegin_2 : decode cX10_handleBegin 2 = .ok (.iload_n 1, 1) := by decide +kernel
theorem dX10_handleBegin_3 : decode cX10_handleBegin 3 = .ok (.invokevirtual 131, 3) := by decide +kernel
theorem dX10_handleBegin_6 : decode cX10_handleBegin 6 = .ok (.ifCond .ne 7, 3) := by decide +kernel
theorem dX10_handleBegin_9 : decode cX10_handleBegin 9 = .ok (.iconst 1, 1) := by decide +kernel
theorem dX10_handleBegin_10 : decode cX10_handleBegin 10 = .ok (.goto 16, 3) := by decide +kernel
theorem dX10_handleBegin_13 : decode cX10_handleBegin 13 = .ok (.aload_n 0, 1) := by decide +kernel
theorem dX10_handleBegin_14 : decode cX10_handleBegin 14 = .ok (.iload_n 1, 1) := by decide +kernel
theorem dX10_handleBegin_15 : decode cX10_handleBegin 15 = .ok (.invokevirtual 171, 3) := by decide +kernel
theorem dX10_handleBegin_18 : decode cX10_handleBegin 18 = .ok (.ifCond .eq 7, 3) := by decide +kernel
theorem dX10_handleBegin_21 : decode cX10_handleBegin 21 = .ok (.iconst 0, 1) := by decide +kernel
theorem dX10_handleBegin_22 : decode cX10_handleBegin 22 = .ok (.goto 4, 3) := by decide +kernel
theorem dX10_handleBegin_25 : decode cX10_handleBegin 25 = .ok (.iconst 2, 1) := by decide +kernel
theorem dX10_handleBegin_26 : decode cX10_handleBegin 26 = .ok (.invokevirtual 135, 3) := by decide +kernel
theorem dX10_handleBegin_29 : decode cX10_handleBegin 29 = .ok (.ifCond .eq 7, 3) := by decide +kernel
theorem dX10_handleBegin_32 : decode cX10_handleBegin 32 = .ok (.iconst 0, 1) := by decide +kernel
theorem dX10_handleBegin_33 : decode cX10_handleBegin 33 = .ok (.goto 7, 3) := by decide +kernel
theorem dX10_handleBegin_36 : decode cX10_handleBegin 36 = .ok (.aload_n 0, 1) := by decide +kernel
theorem dX10_handleBegin_37 : decode cX10_handleBegin 37 = .ok (.getfield 101, 3) := by decide +kernel
theorem dX10_handleBegin_40 : decode cX10_handleBegin 40 = .ok (.ireturn, 1) := by decide +kernel
theorem dX10_handleEnd_0 : decode cX10_handleEnd 0 = .ok (.aload_n 0, 1) := by decide +kernel
theorem dX10_handleEnd_1 : decode cX10_handleEnd 1 = .ok (.aload_n 0, 1) := by decide +kernel
theorem dX10_handleEnd_2 : decode cX10_handleEnd 2 = .ok (.iload_n 1, 1) := by decide +kernel
theorem dX10_handleEnd_3 : decode cX10_handleEnd 3 = .ok (.invokevirtual 131, 3) := by decide +kernel
theorem dX10_handleEnd_6 : decode cX10_handleEnd 6 = .ok (.ifCond .ne 7, 3) := by decide +kernel
theorem dX10_handleEnd_9 : decode cX10_handleEnd 9 = .ok (.iconst 1, 1) := by decide +kernel
theorem dX10_handleEnd_10 : decode cX10_handleEnd 10 = .ok (.goto 16, 3) := by decide +kernel
theorem dX10_handleEnd_13 : decode cX10_handleEnd 13 = .ok (.aload_n 0, 1) := by decide +kernel
theorem dX10_handleEnd_14 : decode cX10_handleEnd 14 = .ok (.iload_n 1, 1) := by decide +kernel
theorem dX10_handleEnd_15 : decode cX10_handleEnd 15 = .ok (.invokevirtual 171, 3) := by decide +kernel
theorem dX10_handleEnd_18 : decode cX10_handleEnd 18 = .ok (.ifCond .eq 7, 3) := by decide +kernel
theorem dX10_handleEnd_21 : decode cX10_handleEnd 21 = .ok (.iconst 0, 1) := by decide +kernel
theorem dX10_handleEnd_22 : decode cX10_handleEnd 22 = .ok (.goto 4, 3) := by decide +kernel
theorem dX10_handleEnd_25 : decode cX10_handleEnd 25 = .ok (.iconst 2, 1) := by decide +kernel
theorem dX10_handleEnd_26 : decode cX10_handleEnd 26 = .ok (.invokevirtual 135, 3) := by decide +kernel
theorem dX10_handleEnd_29 : decode cX10_handleEnd 29 = .ok (.ifCond .eq 7, 3) := by decide +kernel
theorem dX10_handleEnd_32 : decode cX10_handleEnd 32 = .ok (.iconst 0, 1) := by decide +kernel
theorem dX10_handleEnd_33 : decode cX10_handleEnd 33 = .ok (.goto 7, 3) := by decide +kernel
theorem dX10_handleEnd_36 : decode cX10_handleEnd 36 = .ok (.aload_n 0, 1) := by decide +kernel
theorem dX10_handleEnd_37 : decode cX10_handleEnd 37 = .ok (.getfield 94, 3) := by decide +kernel
theorem dX10_handleEnd_40 : decode cX10_handleEnd 40 = .ok (.ireturn, 1) := by decide +kernel
theorem dX10_isRelaxed_0 : decode cX10_isRelaxed 0 = .ok (.aload_n 0, 1) := by decide +kernel
theorem dX10_isRelaxed_1 : decode cX10_isRelaxed 1 = .ok (.iload_n 1, 1) := by decide +kernel
theorem dX10_isRelaxed_2 : decode cX10_isRelaxed 2 = .ok (.invokevirtual 155, 3) := by decide +kernel
theorem dX10_isRelaxed_5 : decode cX10_isRelaxed 5 = .ok (.ifCond .eq 5, 3) := by decide +kernel
theorem dX10_isRelaxed_8 : decode cX10_isRelaxed 8 = .ok (.iconst 0, 1) := by decide +kernel
theorem dX10_isRelaxed_9 : decode cX10_isRelaxed 9 = .ok (.ireturn, 1) := by decide +kernel
theorem dX10_isRelaxed_10 : decode cX10_isRelaxed 10 = .ok (.aload_n 0, 1) := by decide +kernel
theorem dX10_isRelaxed_11 : decode cX10_isRelaxed 11 = .ok (.iload_n 1, 1) := by decide +kernel
theorem dX10_isRelaxed_12 : decode cX10_isRelaxed 12 = .ok (.invokestatic 138, 3) := by decide +kernel
theorem dX10_isRelaxed_15 : decode cX10_isRelaxed 15 = .ok (.invokevirtual 128, 3) := by decide +kernel
theorem dX10_isRelaxed_18 : decode cX10_isRelaxed 18 = .ok (.aload_n 0, 1) := by decide +kernel
theorem dX10_isRelaxed_19 : decode cX10_isRelaxed 19 = .ok (.aload_n 0, 1) := by decide +kernel
theorem dX10_isRelaxed_20 : decode cX10_isRelaxed 20 = .ok (.invokevirtual 168, 3) := by decide +kernel
theorem dX10_isRelaxed_23 : decode cX10_isRelaxed 23 = .ok (.ifCond .eq 7, 3) := by decide +kernel
theorem dX10_isRelaxed_26 : decode cX10_isRelaxed 26 = .ok (.iconst 0, 1) := by decide +kernel
theorem dX10_isRelaxed_27 : decode cX10_isRelaxed 27 = .ok (.goto 4, 3) := by decide +kernel
theorem dX10_isRelaxed_30 : decode cX10_isRelaxed 30 = .ok (.iconst 2, 1) := by decide +kernel
theorem dX10_isRelaxed_31 : decode cX10_isRelaxed 31 = .ok (.invokevirtual 135, 3) := by decide +kernel
theorem dX10_isRelaxed_34 : decode cX10_isRelaxed 34 = .ok (.ifCond .ne 7, 3) := by decide +kernel
theorem dX10_isRelaxed_37 : decode cX10_isRelaxed 37 = .ok (.iconst 1, 1) := by decide +kernel
theorem dX10_isRelaxed_38 : decode cX10_isRelaxed 38 = .ok (.goto 4, 3) := by decide +kernel
theorem dX10_isRelaxed_41 : decode cX10_isRelaxed 41 = .ok (.iconst 0, 1) := by decide +kernel
theorem dX10_isRelaxed_42 : decode cX10_isRelaxed 42 = .ok (.ireturn, 1) := by decide +kernel
theorem dX10_relaxedLength_0 : decode cX10_relaxedLength 0 = .ok (.aload_n 0, 1) := by decide +kernel
theorem dX10_relaxedLength_1 : decode cX10_relaxedLength 1 = .ok (.iload_n 1, 1) := by decide +kernel
theorem dX10_relaxedLength_2 : decode cX10_relaxedLength 2 = .ok (.invokevirtual 174, 3) := by decide +kernel
theorem dX10_relaxedLength_5 : decode cX10_relaxedLength 5 = .ok (.ifCond .eq 10, 3) := by decide +kernel
theorem dX10_relaxedLength_8 : decode cX10_relaxedLength 8 = .ok (.aload_n 0, 1) := by decide +kernel
theorem dX10_relaxedLength_9 : decode cX10_relaxedLength 9 = .ok (.getfield 79, 3) := by decide +kernel
theorem dX10_relaxedLength_12 : decode cX10_relaxedLength 12 = .ok (.goto 4, 3) := by decide +kernel
theorem dX10_relaxedLength_15 : decode cX10_relaxedLength 15 = .ok (.iconst 0, 1) := by decide +kernel
theorem dX10_relaxedLength_16 : decode cX10_relaxedLength 16 = .ok (.ireturn, 1) := by decide +kernel
theorem dX10_twist_0 : decode cX10_twist 0 = .ok (.iconst 0, 1) := by decide +kernel
theorem dX10_twist_1 : decode cX10_twist 1 = .ok (.istore_n 2, 1) := by decide +kernel
theorem dX10_twist_2 : decode cX10_twist 2 = .ok (.iconst 0, 1) := by decide +kernel
theorem dX10_twist_3 : decode cX10_twist 3 = .ok (.istore_n 3, 1) := by decide +kernel
theorem dX10_twist_4 : decode cX10_twist 4 = .ok (.iload_n 3, 1) := by decide +kernel
theorem dX10_twist_5 : decode cX10_twist 5 = .ok (.aload_n 0, 1) := by decide +kernel
theorem dX10_twist_6 : decode cX10_twist 6 = .ok (.iload_n 1, 1) := by decide +kernel
theorem dX10_twist_7 : decode cX10_twist 7 = .ok (.iconst 0, 1) := by decide +kernel
theorem dX10_twist_8 : decode cX10_twist 8 = .ok (.invokevirtual 149, 3) := by decide +kernel
theorem dX10_twist_11 : decode cX10_twist 11 = .ok (.if_icmp .ge 29, 3) := by decide +kernel
theorem dX10_twist_14 : decode cX10_twist 14 = .ok (.iload_n 2, 1) := by decide +kernel
theorem dX10_twist_15 : decode cX10_twist 15 = .ok (.aload_n 0, 1) := by decide +kernel
theorem dX10_twist_16 : decode cX10_twist 16 = .ok (.iload_n 1, 1) := by decide +kernel
theorem dX10_twist_17 : decode cX10_twist 17 = .ok (.invokestatic 138, 3) := by decide +kernel
theorem dX10_twist_20 : decode cX10_twist 20 = .ok (.iload_n 3, 1) := by decide +kernel
theorem dX10_twist_21 : decode cX10_twist 21 = .ok (.invokevirtual 86, 3) := by decide +kernel
theorem dX10_twist_24 : decode cX10_twist 24 = .ok (.ifCond .le 7, 3) := by decide +kernel
theorem dX10_twist_27 : decode cX10_twist 27 = .ok (.iconst 1, 1) := by decide +kernel
theorem dX10_twist_28 : decode cX10_twist 28 = .ok (.goto 4, 3) := by decide +kernel
theorem dX10_twist_31 : decode cX10_twist 31 = .ok (.iconst (-1), 1) := by decide +kernel
theorem dX10_twist_32 : decode cX10_twist 32 = .ok (.iadd, 1) := by decide +kernel
theorem dX10_twist_33 : decode cX10_twist 33 = .ok (.istore_n 2, 1) := by decide +kernel
theorem dX10_twist_34 : decode cX10_twist 34 = .ok (.iinc 3 1, 3) := by decide +kernel
theorem dX10_twist_37 : decode cX10_twist 37 = .ok (.goto (-33), 3) := by decide +kernel
theorem dX10_twist_40 : decode cX10_twist 40 = .ok (.iload_n 2, 1) := by decide +kernel
theorem dX10_twist_41 : decode cX10_twist 41 = .ok (.ireturn, 1) := by decide +kernel
theorem dX10_writhe_0 : decode cX10_writhe 0 = .ok (.aload_n 0, 1) := by decide +kernel
theorem dX10_writhe_1 : decode cX10_writhe 1 = .ok (.iload_n 1, 1) := by decide +kernel
theorem dX10_writhe_2 : decode cX10_writhe 2 = .ok (.invokevirtual 155, 3) := by decide +kernel
theorem dX10_writhe_5 : decode cX10_writhe 5 = .ok (.ifCond .eq 7, 3) := by decide +kernel
theorem dX10_writhe_8 : decode cX10_writhe 8 = .ok (.iconst 0, 1) := by decide +kernel
theorem dX10_writhe_9 : decode cX10_writhe 9 = .ok (.goto 8, 3) := by decide +kernel
theorem dX10_writhe_12 : decode cX10_writhe 12 = .ok (.aload_n 0, 1) := by decide +kernel
theorem dX10_writhe_13 : decode cX10_writhe 13 = .ok (.iload_n 1, 1) := by decide +kernel
theorem dX10_writhe_14 : decode cX10_writhe 14 = .ok (.invokevirtual 177, 3) := by decide +kernel
theorem dX10_writhe_17 : decode cX10_writhe 17 = .ok (.ireturn, 1) := by decide +kernel
theorem dX10_end_0 : decode cX10_end 0 = .ok (.iload_n 2, 1) := by decide +kernel
theorem dX10_end_1 : decode cX10_end 1 = .ok (.istore_n 3, 1) := by decide +kernel
theorem dX10_end_2 : decode cX10_end 2 = .ok (.iconst 0, 1) := by decide +kernel
theorem dX10_end_3 : decode cX10_end 3 = .ok (.istore 4, 2) := by decide +kernel
theorem dX10_end_5 : decode cX10_end 5 = .ok (.iload 4, 2) := by decide +kernel
theorem dX10_end_7 : decode cX10_end 7 = .ok (.aload_n 0, 1) := by decide +kernel
theorem dX10_end_8 : decode cX10_end 8 = .ok (.iload_n 1, 1) := by decide +kernel
theorem dX10_end_9 : decode cX10_end 9 = .ok (.iconst 0, 1) := by decide +kernel
theorem dX10_end_10 : decode cX10_end 10 = .ok (.invokevirtual 149, 3) := by decide +kernel
theorem dX10_end_13 : decode cX10_end 13 = .ok (.if_icmp .ge 52, 3) := by decide +kernel
theorem dX10_end_16 : decode cX10_end 16 = .ok (.aload_n 0, 1) := by decide +kernel
theorem dX10_end_17 : decode cX10_end 17 = .ok (.iload_n 1, 1) := by decide +kernel
theorem dX10_end_18 : decode cX10_end 18 = .ok (.invokestatic 138, 3) := by decide +kernel
theorem dX10_end_21 : decode cX10_end 21 = .ok (.iload 4, 2) := by decide +kernel
theorem dX10_end_23 : decode cX10_end 23 = .ok (.invokevirtual 86, 3) := by decide +kernel
theorem dX10_end_26 : decode cX10_end 26 = .ok (.invokestatic 97, 3) := by decide +kernel
theorem dX10_end_29 : decode cX10_end 29 = .ok (.istore 5, 2) := by decide +kernel
theorem dX10_end_31 : decode cX10_end 31 = .ok (.iload_n 3, 1) := by decide +kernel
theorem dX10_end_32 : decode cX10_end 32 = .ok (.iload 5, 2) := by decide +kernel
theorem dX10_end_34 : decode cX10_end 34 = .ok (.if_icmp .ne 10, 3) := by decide +kernel
theorem dX10_end_37 : decode cX10_end 37 = .ok (.iload 5, 2) := by decide +kernel
theorem dX10_end_39 : decode cX10_end 39 = .ok (.iconst 1, 1) := by decide +kernel
theorem dX10_end_40 : decode cX10_end 40 = .ok (.iadd, 1) := by decide +kernel
theorem dX10_end_41 : decode cX10_end 41 = .ok (.goto 17, 3) := by decide +kernel
theorem dX10_end_44 : decode cX10_end 44 = .ok (.iload_n 3, 1) := by decide +kernel
theorem dX10_end_45 : decode cX10_end 45 = .ok (.iload 5, 2) := by decide +kernel
theorem dX10_end_47 : decode cX10_end 47 = .ok (.iconst 1, 1) := by decide +kernel
theorem dX10_end_48 : decode cX10_end 48 = .ok (.iadd, 1) := by decide +kernel
theorem dX10_end_49 : decode cX10_end 49 = .ok (.if_icmp .ne 8, 3) := by decide +kernel
theorem dX10_end_52 : decode cX10_end 52 = .ok (.iload 5, 2) := by decide +kernel
theorem dX10_end_54 : decode cX10_end 54 = .ok (.goto 4, 3) := by decide +kernel
theorem dX10_end_57 : decode cX10_end 57 = .ok (.iload_n 3, 1) := by decide +kernel
theorem dX10_end_58 : decode cX10_end 58 = .ok (.istore_n 3, 1) := by decide +kernel
theorem dX10_end_59 : decode cX10_end 59 = .ok (.iinc 4 1, 3) := by decide +kernel
theorem dX10_end_62 : decode cX10_end 62 = .ok (.goto (-57), 3) := by decide +kernel
theorem dX10_end_65 : decode cX10_end 65 = .ok (.iload_n 3, 1) := by decide +kernel
theorem dX10_end_66 : decode cX10_end 66 = .ok (.ireturn, 1) := by decide +kernel
theorem dX10_isStrand_0 : decode cX10_isStrand 0 = .ok (.iload_n 0, 1) := by decide +kernel
theorem dX10_isStrand_1 : decode cX10_isStrand 1 = .ok (.iconst 1, 1) := by decide +kernel
theorem dX10_isStrand_2 : decode cX10_isStrand 2 = .ok (.iconst 5, 1) := by decide +kernel
theorem dX10_isStrand_3 : decode cX10_isStrand 3 = .ok (.invokestatic 75, 3) := by decide +kernel
theorem dX10_isStrand_6 : decode cX10_isStrand 6 = .ok (.ireturn, 1) := by decide +kernel
theorem dX10_strandEnd_0 : decode cX10_strandEnd 0 = .ok (.aload_n 0, 1) := by decide +kernel
theorem dX10_strandEnd_1 : decode cX10_strandEnd 1 = .ok (.aload_n 0, 1) := by decide +kernel
theorem dX10_strandEnd_2 : decode cX10_strandEnd 2 = .ok (.iload_n 1, 1) := by decide +kernel
theorem dX10_strandEnd_3 : decode cX10_strandEnd 3 = .ok (.invokevirtual 131, 3) := by decide +kernel
theorem dX10_strandEnd_6 : decode cX10_strandEnd 6 = .ok (.ifCond .ne 7, 3) := by decide +kernel
theorem dX10_strandEnd_9 : decode cX10_strandEnd 9 = .ok (.iconst 1, 1) := by decide +kernel
theorem dX10_strandEnd_10 : decode cX10_strandEnd 10 = .ok (.goto 15, 3) := by decide +kernel
theorem dX10_strandEnd_13 : decode cX10_strandEnd 13 = .ok (.iload_n 2, 1) := by decide +kernel
theorem dX10_strandEnd_14 : decode cX10_strandEnd 14 = .ok (.invokestatic 180, 3) := by decide +kernel
theorem dX10_strandEnd_17 : decode cX10_strandEnd 17 = .ok (.ifCond .eq 7, 3) := by decide +kernel
theorem dX10_strandEnd_20 : decode cX10_strandEnd 20 = .ok (.iconst 0, 1) := by decide +kernel
theorem dX10_strandEnd_21 : decode cX10_strandEnd 21 = .ok (.goto 4, 3) := by decide +kernel
theorem dX10_strandEnd_24 : decode cX10_strandEnd 24 = .ok (.iconst 2, 1) := by decide +kernel
theorem dX10_strandEnd_25 : decode cX10_strandEnd 25 = .ok (.invokevirtual 135, 3) := by decide +kernel
theorem dX10_strandEnd_28 : decode cX10_strandEnd 28 = .ok (.ifCond .eq 7, 3) := by decide +kernel
theorem dX10_strandEnd_31 : decode cX10_strandEnd 31 = .ok (.iconst 0, 1) := by decide +kernel
theorem dX10_strandEnd_32 : decode cX10_strandEnd 32 = .ok (.goto 9, 3) := by decide +kernel
theorem dX10_strandEnd_35 : decode cX10_strandEnd 35 = .ok (.aload_n 0, 1) := by decide +kernel
theorem dX10_strandEnd_36 : decode cX10_strandEnd 36 = .ok (.iload_n 1, 1) := by decide +kernel
theorem dX10_strandEnd_37 : decode cX10_strandEnd 37 = .ok (.iload_n 2, 1) := by decide +kernel
theorem dX10_strandEnd_38 : decode cX10_strandEnd 38 = .ok (.invokevirtual 183, 3) := by decide +kernel
theorem dX10_strandEnd_41 : decode cX10_strandEnd 41 = .ok (.ireturn, 1) := by decide +kernel
theorem dX10_closedThreads_0 : decode cX10_closedThreads 0 = .ok (.aload_n 0, 1) := by decide +kernel
theorem dX10_closedThreads_1 : decode cX10_closedThreads 1 = .ok (.iload_n 1, 1) := by decide +kernel
theorem dX10_closedThreads_2 : decode cX10_closedThreads 2 = .ok (.invokevirtual 155, 3) := by decide +kernel
theorem dX10_closedThreads_5 : decode cX10_closedThreads 5 = .ok (.ifCond .eq 5, 3) := by decide +kernel
theorem dX10_closedThreads_8 : decode cX10_closedThreads 8 = .ok (.iconst 0, 1) := by decide +kernel
theorem dX10_closedThreads_9 : decode cX10_closedThreads 9 = .ok (.ireturn, 1) := by decide +kernel
theorem dX10_closedThreads_10 : decode cX10_closedThreads 10 = .ok (.iconst 0, 1) := by decide +kernel
theorem dX10_closedThreads_11 : decode cX10_closedThreads 11 = .ok (.istore_n 2, 1) := by decide +kernel
theorem dX10_closedThreads_12 : decode cX10_closedThreads 12 = .ok (.iconst 0, 1) := by decide +kernel
theorem dX10_closedThreads_13 : decode cX10_closedThreads 13 = .ok (.istore_n 3, 1) := by decide +kernel
theorem dX10_closedThreads_14 : decode cX10_closedThreads 14 = .ok (.iconst 1, 1) := by decide +kernel
theorem dX10_closedThreads_15 : decode cX10_closedThreads 15 = .ok (.istore 4, 2) := by decide +kernel
theorem dX10_closedThreads_17 : decode cX10_closedThreads 17 = .ok (.iload 4, 2) := by decide +kernel
theorem dX10_closedThreads_19 : decode cX10_closedThreads 19 = .ok (.iconst 5, 1) := by decide +kernel
theorem dX10_closedThreads_20 : decode cX10_closedThreads 20 = .ok (.if_icmp .gt 58, 3) := by decide +kernel
theorem dX10_closedThreads_23 : decode cX10_closedThreads 23 = .ok (.iload_n 3, 1) := by decide +kernel
theorem dX10_closedThreads_24 : decode cX10_closedThreads 24 = .ok (.iload_n 2, 1) := by decide +kernel
theorem dX10_closedThreads_25 : decode cX10_closedThreads 25 = .ok (.iload 4, 2) := by decide +kernel
theorem dX10_closedThreads_27 : decode cX10_closedThreads 27 = .ok (.ishr, 1) := by decide +kernel
theorem dX10_closedThreads_28 : decode cX10_closedThreads 28 = .ok (.iconst 1, 1) := by decide +kernel
theorem dX10_closedThreads_29 : decode cX10_closedThreads 29 = .ok (.iand, 1) := by decide +kernel
theorem dX10_closedThreads_30 : decode cX10_closedThreads 30 = .ok (.ifCond .ne 7, 3) := by decide +kernel
theorem dX10_closedThreads_33 : decode cX10_closedThreads 33 = .ok (.iconst 1, 1) := by decide +kernel
theorem dX10_closedThreads_34 : decode cX10_closedThreads 34 = .ok (.goto 4, 3) := by decide +kernel
theorem dX10_closedThreads_37 : decode cX10_closedThreads 37 = .ok (.iconst 0, 1) := by decide +kernel
theorem dX10_closedThreads_38 : decode cX10_closedThreads 38 = .ok (.iadd, 1) := by decide +kernel
theorem dX10_closedThreads_39 : decode cX10_closedThreads 39 = .ok (.istore_n 3, 1) := by decide +kernel
theorem dX10_closedThreads_40 : decode cX10_closedThreads 40 = .ok (.iload 4, 2) := by decide +kernel
theorem dX10_closedThreads_42 : decode cX10_closedThreads 42 = .ok (.istore 5, 2) := by decide +kernel
theorem dX10_closedThreads_44 : decode cX10_closedThreads 44 = .ok (.iload_n 2, 1) := by decide +kernel
